import java.io.IOException;
import java.lang.reflect.Constructor;
import java.lang.reflect.Field;
import java.lang.reflect.Method;
import java.lang.reflect.Modifier;
import java.nio.file.Files;
import java.nio.file.Path;
import java.util.Set;
import java.util.TreeSet;

/** The public face: the class has what the document tells, and nothing else. */
public final class FaceTest {
    private static final String[] FACE = {"feed(int,long)", "telling(int)", "tellingOf(int,int,int)",
        "word(int,int,int,int)", "all(int,int,boolean)", "depth(int,int,int)", "learnt(int,int)", "put(int)",
        "judge(int,int)", "needed(int,int)", "idle(int)", "leads(int,int)", "knot(int,int)", "knots(int)",
        "fewest(int)", "lightest(int)", "sets(int,int)", "soonest(int,int)", "waits(int)", "change(int,int)",
        "mend(int)", "spread(int,int,int)", "shows(int,int,int)", "carries(int)", "lacks(int)", "image()", "on()",
        "count(int)"};

    public static void main(String[] args) throws IOException {
        document();
        face();
        inside();
        Due.end();
    }

    /** "The public face" of the document tells these methods, and no others. */
    private static void document() throws IOException {
        String told = Files.readString(Path.of("../shared/DOC.md"));
        int from = told.indexOf("public final class WordsTold {");
        Set<String> seen = new TreeSet<>();
        for (String line : told.substring(from, told.indexOf("```", from)).split("\n")) {
            if (line.startsWith("    public int ")) {
                String shape = line.substring("    public int ".length(), line.indexOf(';'));
                seen.add(shape.replaceAll("(int|long|boolean) \\w+", "$1").replace(", ", ","));
            }
        }
        Due.due("the document's face " + seen, seen.equals(new TreeSet<>(Set.of(FACE))) ? 1 : 0, 1);
    }

    private static String shape(Method method) {
        StringBuilder shape = new StringBuilder(method.getName()).append('(');
        for (Class<?> type : method.getParameterTypes()) {
            shape.append(shape.charAt(shape.length() - 1) == '(' ? "" : ",").append(type.getName());
        }
        return shape.append(')').toString();
    }

    private static void face() {
        Set<String> seen = new TreeSet<>();
        for (Method method : WordsTold.class.getDeclaredMethods()) {
            if (!Modifier.isPrivate(method.getModifiers()) && !method.isSynthetic()) {
                seen.add(shape(method));
                Due.due("modifiers of " + method, method.getModifiers(), Modifier.PUBLIC);
                Due.due("answer of " + method, method.getReturnType() == int.class ? 1 : 0, 1);
            }
        }
        Due.due("the face " + seen, seen.equals(new TreeSet<>(Set.of(FACE))) ? 1 : 0, 1);
        Due.due("the class", WordsTold.class.getModifiers(), Modifier.PUBLIC | Modifier.FINAL);
        Constructor<?>[] constructors = WordsTold.class.getDeclaredConstructors();
        Due.due("constructors", constructors.length, 1);
        Due.due("its parameters", constructors[0].getParameterCount(), 0);
        Due.due("its modifiers", constructors[0].getModifiers(), Modifier.PUBLIC);
        for (Field field : WordsTold.class.getDeclaredFields()) {
            Due.due("private " + field, Modifier.isPrivate(field.getModifiers()) ? 1 : 0, 1);
        }
    }

    private static void inside() {
        for (Class<?> type : WordsTold.class.getDeclaredClasses()) {
            Due.due("static " + type, Modifier.isStatic(type.getModifiers()) ? 1 : 0, 1);
            for (Method method : type.getDeclaredMethods()) {
                for (String of : FACE) {
                    Due.due("the name of " + method, of.startsWith(method.getName() + "(") ? 1 : 0, 0);
                }
            }
        }
    }
}
