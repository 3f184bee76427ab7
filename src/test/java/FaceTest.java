import java.io.IOException;
import java.lang.reflect.Constructor;
import java.lang.reflect.Field;
import java.lang.reflect.Method;
import java.lang.reflect.Modifier;
import java.nio.file.Files;
import java.nio.file.Path;
import java.util.ArrayList;
import java.util.List;
import java.util.Map;
import java.util.Set;
import java.util.TreeSet;
import java.util.regex.Matcher;
import java.util.regex.Pattern;

/** The public face as it stands in the document, and what rules 1 and 5 of LANGUAGE.md ask of members. */
public final class FaceTest {
    private static final Path CLASS = Path.of("src", "main", "java", "ModelCopies.java");
    private static final Pattern METHOD = Pattern.compile(
            "public (?<type>\\w+) (?<name>\\w+)\\((?<parameters>.*?)\\)(?: throws (?<thrown>.*))?");

    private static final Document document = Document.read();
    private static final Checks checks = new Checks();

    public static void main(String[] args) throws IOException {
        theSourceHasTheFaceAsItStands();
        publicMethods();
        noOtherMembers();
        noPrivateMethodBearsAPublicName();
        staticFieldsAreFinal();
        checks.end("FaceTest");
    }

    /** The parameters' names, the order of the calls and what is said ahead of them are in the source alone. */
    private static void theSourceHasTheFaceAsItStands() throws IOException {
        String source = Files.readString(CLASS).replaceAll("\\s+", " ");
        int from = 0;
        for (String line : document.face()) {
            int at = source.indexOf(" " + line + " {", from);
            checks.due("the source has, in its turn, " + line, at >= from, true);
            from = Math.max(at, from);
        }
        List<String> inOrder = new ArrayList<>();
        for (Map.Entry<String, List<String>> heading : document.headings().entrySet()) {
            String first = heading.getValue().get(0);
            Matcher found = Pattern.compile("// " + Pattern.quote(heading.getKey()) + " public \\w+ (\\w+)\\(")
                    .matcher(source);
            checks.due("ahead of " + first + " stands " + heading.getKey(),
                    found.find() && found.group(1).equals(first), true);
            inOrder.addAll(heading.getValue());
        }
        checks.due("the headings stand ahead of all calls, in their order", inOrder.equals(names()), true);
    }

    private static List<String> names() {
        List<String> names = new ArrayList<>();
        for (String line : document.face()) {
            Matcher method = METHOD.matcher(line);
            if (method.matches()) {
                names.add(method.group("name"));
            }
        }
        return names;
    }

    private static Set<String> face() {
        Set<String> face = new TreeSet<>();
        for (String line : document.face()) {
            Matcher method = METHOD.matcher(line);
            if (method.matches()) {
                String types = method.group("parameters").replaceAll(" \\w+(, )?", ",").replaceFirst(",$", "");
                String thrown = method.group("thrown") == null ? "" : " " + method.group("thrown");
                face.add(method.group("name") + "(" + types + ")" + method.group("type")
                        + thrown.replace(",", "").replace("Exception", ""));
            }
        }
        return face;
    }

    private static String textOf(Method method) {
        StringBuilder text = new StringBuilder(method.getName()).append('(');
        for (Class<?> type : method.getParameterTypes()) {
            text.append(text.charAt(text.length() - 1) == '(' ? "" : ",").append(type.getName());
        }
        text.append(')').append(method.getReturnType().getName());
        for (Class<?> type : method.getExceptionTypes()) {
            text.append(' ').append(type.getSimpleName().replace("Exception", ""));
        }
        return text.toString();
    }

    private static void publicMethods() {
        Set<String> due = face();
        checks.due("methods of the face", due.size(), document.face().size() - 1);
        Set<String> seen = new TreeSet<>();
        for (Method method : ModelCopies.class.getDeclaredMethods()) {
            if (Modifier.isPublic(method.getModifiers())) {
                seen.add(textOf(method));
                checks.due("static " + method.getName(), Modifier.isStatic(method.getModifiers()), false);
            }
        }
        for (String text : due) {
            checks.due("the face has " + text, seen.contains(text), true);
        }
        for (String text : seen) {
            checks.due("the document has " + text, due.contains(text), true);
        }
        int modifiers = ModelCopies.class.getModifiers();
        checks.due("the class is public and final", Modifier.isPublic(modifiers) && Modifier.isFinal(modifiers), true);
    }

    private static void noOtherMembers() {
        for (Method method : ModelCopies.class.getDeclaredMethods()) {
            int modifiers = method.getModifiers();
            checks.due(method.getName() + " is public or private",
                    Modifier.isPublic(modifiers) || Modifier.isPrivate(modifiers), true);
        }
        for (Field field : ModelCopies.class.getDeclaredFields()) {
            checks.due(field.getName() + " is private", Modifier.isPrivate(field.getModifiers()), true);
        }
        Constructor<?>[] constructors = ModelCopies.class.getDeclaredConstructors();
        checks.due("constructors", constructors.length, 1);
        checks.due("the constructor's parameters", constructors[0].getParameterCount(), 0);
        checks.due("the constructor is public", Modifier.isPublic(constructors[0].getModifiers()), true);
        for (Class<?> inside : ModelCopies.class.getDeclaredClasses()) {
            int modifiers = inside.getModifiers();
            checks.due(inside.getName() + " is static and not public",
                    Modifier.isStatic(modifiers) && !Modifier.isPublic(modifiers) && !Modifier.isProtected(modifiers),
                    true);
        }
    }

    private static void noPrivateMethodBearsAPublicName() {
        List<String> names = names();
        for (Method method : ModelCopies.class.getDeclaredMethods()) {
            checks.due(method.getName() + " is private under a public name",
                    Modifier.isPrivate(method.getModifiers()) && names.contains(method.getName()), false);
        }
        for (Class<?> inside : ModelCopies.class.getDeclaredClasses()) {
            for (Method method : inside.getDeclaredMethods()) {
                checks.due(method.getName() + " inside under a public name", names.contains(method.getName()), false);
            }
        }
    }

    private static void staticFieldsAreFinal() {
        for (Field field : ModelCopies.class.getDeclaredFields()) {
            int modifiers = field.getModifiers();
            checks.due(field.getName() + " is static and not final",
                    Modifier.isStatic(modifiers) && !Modifier.isFinal(modifiers), false);
        }
    }
}
