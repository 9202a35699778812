import java.io.IOException;
import java.lang.reflect.Constructor;
import java.lang.reflect.Field;
import java.lang.reflect.Method;
import java.lang.reflect.Modifier;
import java.nio.file.Files;
import java.nio.file.Path;
import java.util.Arrays;
import java.util.Set;
import java.util.TreeSet;
import java.util.regex.Matcher;
import java.util.regex.Pattern;

/** The public face, and the rules of LANGUAGE.md that can be seen in the text. */
public final class FaceTest {
    private static final String PLACE = "The public face";
    private static final Set<String> METHODS = Set.of(
        "asm(int,int,int)", "wipe()", "link()", "fault()", "step()", "run(int)", "restart()",
        "collectMinor()", "collectMajor()", "many(int)", "pile(int,int)", "local(int,int)",
        "object(int,int)", "slot(int,int,int)", "outSize()", "out(int,int)");

    public static void main(String[] args) throws IOException {
        members();
        constants();
        documentsFace();
        text();
        Check.end("FaceTest");
    }

    private static void members() {
        Set<String> open = new TreeSet<>();
        Set<String> publicNames = new TreeSet<>();
        for (Method method : ProtoMachine.class.getDeclaredMethods()) {
            if (Modifier.isPublic(method.getModifiers())) {
                open.add(method.getName() + parameters(method.getParameterTypes()));
                publicNames.add(method.getName());
                Check.holds(method + " answers int", method.getReturnType() == int.class);
            } else if (!method.isSynthetic()) {
                Check.holds(method + " is private", Modifier.isPrivate(method.getModifiers()));
            }
        }
        Check.holds("the methods are " + open, open.equals(METHODS));
        for (Method method : ProtoMachine.class.getDeclaredMethods()) {
            Check.holds(method + " bears a name of its own",
                Modifier.isPublic(method.getModifiers()) || !publicNames.contains(method.getName()));
        }
        for (Class<?> inside : ProtoMachine.class.getDeclaredClasses()) {
            Check.holds(inside + " is static", Modifier.isStatic(inside.getModifiers()));
            Check.holds(inside + " has some twenty fields", inside.getDeclaredFields().length <= 20);
        }
        Check.holds("the class is final", Modifier.isFinal(ProtoMachine.class.getModifiers()));
        Constructor<?>[] makers = ProtoMachine.class.getDeclaredConstructors();
        Check.same("constructors", 1, makers.length);
        Check.holds("constructor's parameters", parameters(makers[0].getParameterTypes()).equals("(int,int)"));
    }

    private static String parameters(Class<?>[] types) {
        StringBuilder all = new StringBuilder("(");
        for (int i = 0; i < types.length; i++) {
            all.append(i == 0 ? "" : ",").append(types[i].getName());
        }
        return all.append(")").toString();
    }

    private static void constants() {
        Check.same("BAD", -1, ProtoMachine.BAD);
        Check.same("FULL", -2, ProtoMachine.FULL);
        Check.same("NO_ROOM", -3, ProtoMachine.NO_ROOM);
        Set<String> open = new TreeSet<>();
        for (Field field : ProtoMachine.class.getDeclaredFields()) {
            if (!Modifier.isPrivate(field.getModifiers())) {
                open.add(field.getName());
            }
            Check.holds(field + ", if static, is final",
                !Modifier.isStatic(field.getModifiers()) || Modifier.isFinal(field.getModifiers()));
        }
        Check.holds("the fields are " + open, open.equals(Set.of("BAD", "FULL", "NO_ROOM")));
    }

    /** Holds each line of the document's face against the class as it was compiled. */
    private static void documentsFace() {
        Check.of(PLACE, "public final class ProtoMachine {");
        Check.holds("public and final",
            Modifier.isPublic(ProtoMachine.class.getModifiers()) && Modifier.isFinal(ProtoMachine.class.getModifiers()));
        documentsConstants();
        documentsCalls("public ()(ProtoMachine)\\((.*?)\\);");
        documentsCalls("public (int) (\\w+)\\((.*?)\\);");
        String left = Document.left(PLACE);
        Check.holds("nothing is left of it but: " + left, left.isEmpty());
    }

    private static void documentsConstants() {
        Matcher line = Pattern.compile("public static final int (\\w+) = (-\\d+);").matcher(Document.text(PLACE));
        while (line.find()) {
            Check.of(PLACE, line.group());
            Check.same("its value", Integer.parseInt(line.group(2)), constant(line.group(1)));
        }
    }

    /** Answers 0 for a constant that is not there: none of the document's is 0. */
    private static int constant(String name) {
        try {
            Field field = ProtoMachine.class.getField(name);
            int kinds = Modifier.PUBLIC | Modifier.STATIC | Modifier.FINAL;
            return field.getModifiers() == kinds && field.getType() == int.class ? field.getInt(null) : 0;
        } catch (ReflectiveOperationException none) {
            return 0;
        }
    }

    private static void documentsCalls(String form) {
        Matcher line = Pattern.compile(form).matcher(Document.text(PLACE));
        while (line.find()) {
            Check.of(PLACE, line.group());
            int given = line.group(3).isEmpty() ? 0 : line.group(3).split(",").length;
            Class<?>[] types = new Class<?>[given];
            Arrays.fill(types, int.class);
            Check.holds("it is there", isThere(line.group(1), line.group(2), types));
        }
    }

    private static boolean isThere(String answers, String name, Class<?>[] types) {
        try {
            if (answers.isEmpty()) {
                return Modifier.isPublic(ProtoMachine.class.getConstructor(types).getModifiers());
            }
            Method method = ProtoMachine.class.getMethod(name, types);
            return method.getReturnType() == int.class && !Modifier.isStatic(method.getModifiers());
        } catch (NoSuchMethodException none) {
            return false;
        }
    }

    private static void text() throws IOException {
        Check.ofNone();
        String text = Files.readString(Path.of("src/main/java/ProtoMachine.java"));
        String code = text.replaceAll("(?s)/\\*.*?\\*/", " ").replaceAll("//[^\n]*", " ");
        for (String word : new String[] {"throw", "try", "catch", "synchronized", "assert", "package", "throws"}) {
            Check.holds("no " + word, !Pattern.compile("\\b" + word + "\\b").matcher(code).find());
        }
        Check.holds("no lambda", !Pattern.compile("[(=,]\\s*(\\w+|\\([^()]*\\))\\s*->").matcher(code).find());
        Check.holds("no method reference", !code.contains("::"));
        Check.holds("no other import",
            code.replaceAll("import java\\.util\\.(Arrays|ArrayList|List|Iterator);", "").indexOf("import") < 0);
        Check.holds("characters 0 to 255", text.chars().allMatch(c -> c <= 255));
    }
}
