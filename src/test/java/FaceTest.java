import java.lang.reflect.Constructor;
import java.lang.reflect.Field;
import java.lang.reflect.Method;
import java.lang.reflect.Modifier;
import java.util.Set;
import java.util.TreeSet;

/** The public face of the document, and what rules 1 and 5 of LANGUAGE.md ask of members. */
public final class FaceTest {
    private static final String[] FACE = {
        "slip(int,int)int IndexOutOfBounds IllegalArgument IllegalState",
        "copy(int,int,int,boolean)int IndexOutOfBounds IllegalState",
        "tellModel(int)int IndexOutOfBounds IllegalState",
        "pass(int)int IllegalArgument IllegalState",
        "correct(int,int,int,int)int IndexOutOfBounds IllegalState",
        "workIn(int,int)int IndexOutOfBounds IllegalState",
        "lend(int,int,int,int)int IndexOutOfBounds IllegalArgument IllegalState",
        "giveBack(int)int IndexOutOfBounds IllegalState",
        "day()int",
        "copies()int",
        "reading(int,int)int IndexOutOfBounds",
        "errors(int)int IndexOutOfBounds",
        "shared(int,int)int IndexOutOfBounds",
        "houseOf(int)int IndexOutOfBounds",
        "ownerOf(int)int IndexOutOfBounds",
        "toldModel(int)int IndexOutOfBounds",
        "slips(int)int IndexOutOfBounds",
        "family(int)int IndexOutOfBounds",
        "familyByErrors(int)int IndexOutOfBounds",
        "families()int",
        "guess(int)int IndexOutOfBounds",
        "rightGuesses()int",
        "spread(int,int)int IndexOutOfBounds IllegalArgument",
        "sources(int,int)int IndexOutOfBounds IllegalArgument",
        "letters()int",
        "hasLetter(int,int)boolean IndexOutOfBounds",
        "letter(int)int IndexOutOfBounds",
        "loans()int",
        "isBack(int)boolean IndexOutOfBounds",
        "late(int)int IndexOutOfBounds",
        "coins(int)int IndexOutOfBounds",
        "laidDown(int)int IndexOutOfBounds",
    };

    private static final Checks checks = new Checks();

    public static void main(String[] args) {
        publicMethods();
        noOtherMembers();
        noPrivateMethodBearsAPublicName();
        staticFieldsAreFinal();
        checks.end("FaceTest");
    }

    private static String textOf(Method method) {
        StringBuilder text = new StringBuilder(method.getName()).append('(');
        for (Class<?> type : method.getParameterTypes()) {
            text.append(text.charAt(text.length() - 1) == '(' ? "" : ",").append(type.getName());
        }
        text.append(')').append(method.getReturnType().getName());
        for (Class<?> type : method.getExceptionTypes()) {
            text.append(' ').append(type.getSimpleName().replace("Exception", ""));
        }
        return text.toString();
    }

    private static void publicMethods() {
        Set<String> due = new TreeSet<>(Set.of(FACE));
        Set<String> seen = new TreeSet<>();
        for (Method method : ModelCopies.class.getDeclaredMethods()) {
            if (Modifier.isPublic(method.getModifiers())) {
                seen.add(textOf(method));
                checks.due("static " + method.getName(), Modifier.isStatic(method.getModifiers()), false);
            }
        }
        for (String text : due) {
            checks.due("the face has " + text, seen.contains(text), true);
        }
        for (String text : seen) {
            checks.due("the document has " + text, due.contains(text), true);
        }
        int modifiers = ModelCopies.class.getModifiers();
        checks.due("the class is public and final", Modifier.isPublic(modifiers) && Modifier.isFinal(modifiers), true);
    }

    private static void noOtherMembers() {
        for (Method method : ModelCopies.class.getDeclaredMethods()) {
            int modifiers = method.getModifiers();
            checks.due(method.getName() + " is public or private",
                    Modifier.isPublic(modifiers) || Modifier.isPrivate(modifiers), true);
        }
        for (Field field : ModelCopies.class.getDeclaredFields()) {
            checks.due(field.getName() + " is private", Modifier.isPrivate(field.getModifiers()), true);
        }
        Constructor<?>[] constructors = ModelCopies.class.getDeclaredConstructors();
        checks.due("constructors", constructors.length, 1);
        checks.due("the constructor's parameters", constructors[0].getParameterCount(), 0);
        checks.due("the constructor is public", Modifier.isPublic(constructors[0].getModifiers()), true);
        for (Class<?> inside : ModelCopies.class.getDeclaredClasses()) {
            int modifiers = inside.getModifiers();
            checks.due(inside.getName() + " is static and not public",
                    Modifier.isStatic(modifiers) && !Modifier.isPublic(modifiers) && !Modifier.isProtected(modifiers),
                    true);
        }
    }

    private static void noPrivateMethodBearsAPublicName() {
        Set<String> names = new TreeSet<>();
        for (String text : FACE) {
            names.add(text.substring(0, text.indexOf('(')));
        }
        for (Method method : ModelCopies.class.getDeclaredMethods()) {
            checks.due(method.getName() + " is private under a public name",
                    Modifier.isPrivate(method.getModifiers()) && names.contains(method.getName()), false);
        }
        for (Class<?> inside : ModelCopies.class.getDeclaredClasses()) {
            for (Method method : inside.getDeclaredMethods()) {
                checks.due(method.getName() + " inside under a public name", names.contains(method.getName()), false);
            }
        }
    }

    private static void staticFieldsAreFinal() {
        for (Field field : ModelCopies.class.getDeclaredFields()) {
            int modifiers = field.getModifiers();
            checks.due(field.getName() + " is static and not final",
                    Modifier.isStatic(modifiers) && !Modifier.isFinal(modifiers), false);
        }
    }
}
