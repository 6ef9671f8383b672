import java.lang.reflect.Method;
import java.lang.reflect.Modifier;
import java.nio.file.Files;
import java.nio.file.Path;
import java.util.Arrays;
import java.util.List;
import java.util.TreeSet;
import java.util.regex.Matcher;
import java.util.regex.Pattern;
import java.util.stream.Collectors;

/** The public face is the document's, to the letter; nothing else can be seen from outside. */
public final class FaceTest {
    private static final String[] FACE = {
        "int feed(int,int,int,int,int) IllegalStateException",
        "int trim(int) IllegalArgumentException",
        "int compile() IllegalStateException",
        "int errorAt()",
        "int programs()",
        "int count(int,int) IndexOutOfBoundsException",
        "int code(int,int,int) IndexOutOfBoundsException",
        "long number(int,int,boolean) IndexOutOfBoundsException",
        "int live(int,int) IndexOutOfBoundsException",
        "int pass(int,int) IndexOutOfBoundsException IllegalArgumentException IllegalStateException",
        "int better(int) IndexOutOfBoundsException IllegalStateException",
        "int put(long) IllegalStateException",
        "int empty()",
        "int run(int,int) IndexOutOfBoundsException IllegalArgumentException",
        "int ran(int) IndexOutOfBoundsException",
        "long output(int) IndexOutOfBoundsException",
        "long variable(int) IndexOutOfBoundsException",
        "int differ(int,int,int,int) IndexOutOfBoundsException IllegalArgumentException",
        "double share(int,int,int,int) IndexOutOfBoundsException IllegalArgumentException",
        "long digest()",
    };

    public static void main(String[] args) throws Exception {
        Class<?> face = PassForge.class;
        TreeSet<String> seen = new TreeSet<>();
        TreeSet<String> hidden = new TreeSet<>();
        for (Method method : face.getDeclaredMethods()) {
            if (Modifier.isPrivate(method.getModifiers())) {
                hidden.add(method.getName());
            } else {
                seen.add(told(method));
            }
        }
        Check.same("methods", seen, new TreeSet<>(Arrays.asList(FACE)));
        for (String line : FACE) {
            String name = line.substring(line.indexOf(' ') + 1, line.indexOf('('));
            Check.same("a private method named " + name, hidden.contains(name), false);
        }
        Check.is("class", face.getModifiers(), Modifier.PUBLIC | Modifier.FINAL);
        Check.is("public constructors", face.getConstructors().length, 1);
        Check.is("constructors", face.getDeclaredConstructors().length, 1);
        Check.is("its parameters", face.getConstructors()[0].getParameterCount(), 0);
        Check.is("fields that are not private", Arrays.stream(face.getDeclaredFields())
                .filter(x -> !Modifier.isPrivate(x.getModifiers())).count(), 0);
        Check.is("classes inside that are public", face.getClasses().length, 0);
        declarations();
        Check.end("FaceTest");
    }

    /** The class declares what the document's code block does, letter by letter and in its order, under its headings. */
    private static void declarations() throws Exception {
        List<String> document = Files.readAllLines(Path.of("../shared/DOC.md"));
        List<String> block = document.subList(document.indexOf("```java") + 1, document.lastIndexOf("```"));
        List<String> due = block.subList(0, block.indexOf("}")).stream().map(String::strip)
                .map(x -> x.replaceAll(" *[{;]$", "")).collect(Collectors.toList());
        for (String line : document) {
            Matcher heading = Pattern.compile("Ahead of the calls `(\\w+)`.* says: (---- \\w+)\\.").matcher(line);
            if (heading.matches()) {
                due.add(placeOf(heading.group(1), due), "// " + heading.group(2));
            }
        }
        List<String> got = Files.readAllLines(Path.of("src/main/java/PassForge.java")).stream().map(String::strip)
                .filter(x -> x.startsWith("public ") || x.startsWith("// ----"))
                .map(x -> x.replaceAll(" *[{;]$", "")).collect(Collectors.toList());
        Check.same("declarations and headings", got, due);
    }

    private static int placeOf(String call, List<String> lines) {
        int at = 0;
        while (!lines.get(at).contains(" " + call + "(")) {
            at++;
        }
        return at;
    }

    private static String told(Method method) {
        StringBuilder text = new StringBuilder();
        text.append(method.getReturnType().getSimpleName()).append(' ').append(method.getName()).append('(');
        for (int i = 0; i < method.getParameterCount(); i++) {
            text.append(i == 0 ? "" : ",").append(method.getParameterTypes()[i].getSimpleName());
        }
        text.append(')');
        for (Class<?> exception : method.getExceptionTypes()) {
            text.append(' ').append(exception.getSimpleName());
        }
        return text.toString();
    }
}
