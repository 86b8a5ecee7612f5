import java.io.IOException;
import java.lang.reflect.Constructor;
import java.lang.reflect.Field;
import java.lang.reflect.Method;
import java.lang.reflect.Modifier;
import java.nio.file.Files;
import java.nio.file.Path;
import java.util.ArrayList;
import java.util.Arrays;
import java.util.List;
import java.util.TreeSet;
import java.util.regex.Matcher;
import java.util.regex.Pattern;

/** The public face of the document, and what LANGUAGE.md says of the members of the class. */
public final class FaceTest {
    private static final Pattern METHOD =
            Pattern.compile("^    public (int|boolean|double) (\\w+)\\(([^)]*)\\)(?: throws ([^;]*))?;$", Pattern.MULTILINE);

    private static final Pattern BODY = Pattern.compile(
            "^( {4}| {8})((?:public |private |static )*)(?!public )[\\w\\[\\]]+ (\\w+)\\([^)]*\\)[^;{]*\\{\n(.*?)^\\1\\}$",
            Pattern.MULTILINE | Pattern.DOTALL);

    public static void main(String[] args) throws IOException {
        face();
        members();
        source();
        apart();
        Check.end("FaceTest");
    }

    private static void face() throws IOException {
        String document = Files.readString(Path.of("../shared/DOC.md"));
        TreeSet<String> due = new TreeSet<>();
        Matcher method = METHOD.matcher(document);
        while (method.find()) {
            List<String> types = new ArrayList<>();
            for (String parameter : method.group(3).split(", *")) {
                if (!parameter.isEmpty()) {
                    types.add(parameter.split(" ")[0]);
                }
            }
            String exceptions = method.group(4) == null ? "" : method.group(4);
            due.add(method.group(1) + " " + method.group(2) + types + " throws " + exceptions);
        }
        Check.is("face: methods in the document", due.size(), 48);
        TreeSet<String> got = new TreeSet<>();
        for (Method each : PolicyEngine.class.getDeclaredMethods()) {
            if (!Modifier.isPrivate(each.getModifiers())) {
                Check.is("face: " + each.getName() + " is public, and an object's",
                        each.getModifiers(), Modifier.PUBLIC);
                got.add(each.getReturnType() + " " + each.getName() + names(each.getParameterTypes()) + " throws "
                        + String.join(", ", names(each.getExceptionTypes())));
            }
        }
        Check.is("face: methods", got.toString(), due.toString());
        Check.is("face: class", PolicyEngine.class.getModifiers(), Modifier.PUBLIC | Modifier.FINAL);
        Constructor<?>[] constructors = PolicyEngine.class.getDeclaredConstructors();
        Check.is("face: constructors", constructors.length, 1);
        Check.is("face: constructor", constructors[0].toString(), "public PolicyEngine()");
    }

    private static List<String> names(Class<?>[] types) {
        return Arrays.stream(types).map(Class::getSimpleName).toList();
    }

    private static void members() {
        TreeSet<String> open = new TreeSet<>();
        for (Method each : PolicyEngine.class.getMethods()) {
            open.add(each.getName());
        }
        List<Class<?>> all = new ArrayList<>(List.of(PolicyEngine.class.getDeclaredClasses()));
        Check.is("language: at most twelve classes", all.size() <= 11, true);
        for (Class<?> inner : all) {
            Check.is("language: static " + inner, Modifier.isStatic(inner.getModifiers()), true);
        }
        all.add(PolicyEngine.class);
        for (Class<?> each : all) {
            members(each, open);
        }
    }

    private static void members(Class<?> each, TreeSet<String> open) {
        int own = 0;
        for (Field field : each.getDeclaredFields()) {
            boolean isStatic = Modifier.isStatic(field.getModifiers());
            own += isStatic ? 0 : 1;
            if (isStatic) {
                Check.is("language: " + field + " is final", Modifier.isFinal(field.getModifiers()), true);
            }
            if (each == PolicyEngine.class) {
                Check.is("language: " + field + " is private", Modifier.isPrivate(field.getModifiers()), true);
            }
        }
        Check.is("language: some twenty fields in " + each, own <= 20, true);
        for (Method method : each.getDeclaredMethods()) {
            boolean isFace = each == PolicyEngine.class && Modifier.isPublic(method.getModifiers());
            Check.is("language: " + method + " bears no public name",
                    isFace || !open.contains(method.getName()), true);
            Check.is("language: parameters of " + method, method.getParameterCount() <= 7, true);
        }
    }

    private static void source() throws IOException {
        String program = Files.readString(Path.of("src/main/java/PolicyEngine.java"));
        Check.is("language: signs 1 to 127", program.chars().allMatch(sign -> sign > 0 && sign < 128), true);
        for (String word : List.of("->", "::", "instanceof", "Exact", "var ", "try {", "catch (", "finally", "assert ",
                "synchronized", "getMessage", "hashCode", "toString", "static {")) {
            Check.is("language: no " + word, program.contains(word), false);
        }
        Check.is("language: imports", program.split("(?m)^import ", -1).length - 1, 1);
        Matcher body = BODY.matcher(program);
        int methods = 0;
        while (body.find()) {
            methods++;
            String name = body.group(3);
            boolean callsItself = Pattern.compile("(?<![\\w.])" + name + "\\(").matcher(body.group(4)).find();
            Check.is("language: only a private static method calls itself, " + name,
                    callsItself && !body.group(2).equals("private static "), false);
            Check.is("language: some sixty lines, " + name, body.group(4).lines().count() <= 60, true);
        }
        Check.is("language: methods that were looked at", methods, declaredMethods());
    }

    private static int declaredMethods() {
        int number = PolicyEngine.class.getDeclaredMethods().length;
        for (Class<?> inner : PolicyEngine.class.getDeclaredClasses()) {
            number += inner.getDeclaredMethods().length;
        }
        return number;
    }

    /** Two objects hold nothing in common. */
    private static void apart() {
        PolicyEngine first = Check.engine("0+:1;");
        PolicyEngine second = new PolicyEngine();
        second.grant(0, 1, 2, 3, 4);
        first.save();
        Check.fails("1: saved by another object", Check.STATE, second::restore);
        Check.is("1: rules of another object", second.ruleCount(), 0);
        Check.is("1: grants of another object", first.grantCount(false), 0);
    }
}
