import java.lang.reflect.Constructor;
import java.lang.reflect.Field;
import java.lang.reflect.Method;
import java.lang.reflect.Modifier;
import java.nio.file.Files;
import java.nio.file.Path;
import java.util.TreeSet;

/** The public face is the document's, and nothing else of the class can be seen. */
public final class FaceTest {
    public static void main(String[] args) throws Exception {
        String doc = Files.readString(Path.of("../shared/DOC.md"));
        String face = doc.substring(doc.indexOf("public final class"), doc.indexOf("## Terms"));
        TreeSet<String> want = new TreeSet<>();
        for (String line : face.split("\n")) {
            if (line.trim().startsWith("public int ")) {
                String head = line.trim().substring("public int ".length());
                String inside = head.substring(head.indexOf('(') + 1, head.indexOf(')')).trim();
                int many = inside.isEmpty() ? 0 : inside.split(",").length;
                want.add(head.substring(0, head.indexOf('(')) + "/" + many);
            }
        }
        TreeSet<String> got = new TreeSet<>();
        TreeSet<String> hidden = new TreeSet<>();
        for (Method m : TideIsland.class.getDeclaredMethods()) {
            if (Modifier.isPrivate(m.getModifiers())) {
                hidden.add(m.getName());
                continue;
            }
            boolean plain = Modifier.isPublic(m.getModifiers()) && !Modifier.isStatic(m.getModifiers())
                && m.getReturnType() == int.class;
            for (Class<?> type : m.getParameterTypes()) {
                plain &= type == int.class;
            }
            got.add((plain ? "" : "not plain: ") + m.getName() + "/" + m.getParameterCount());
        }
        Due.due("methods of the face " + got + " for " + want, got.equals(want) ? 1 : 0, 1);
        Due.due("methods in all", want.size(), 40);
        for (String name : hidden) {
            for (String shown : want) {
                Due.due("private " + name + " like " + shown, shown.startsWith(name + "/") ? 1 : 0, 0);
            }
        }
        constants();
        Constructor<?>[] made = TideIsland.class.getDeclaredConstructors();
        Due.due("constructors", made.length, 1);
        Due.due("public constructor", made[0].getModifiers(), Modifier.PUBLIC);
        Due.due("its parameters", made[0].getParameterCount(), 0);
        Due.due("public final class", TideIsland.class.getModifiers(), Modifier.PUBLIC | Modifier.FINAL);
        for (Class<?> inside : TideIsland.class.getDeclaredClasses()) {
            int m = inside.getModifiers();
            Due.due(inside + " is static and not seen", Modifier.isStatic(m) && !Modifier.isPublic(m) && !Modifier.isProtected(m) ? 1 : 0, 1);
        }
        Due.end();
    }

    private static void constants() throws Exception {
        TreeSet<String> got = new TreeSet<>();
        for (Field f : TideIsland.class.getDeclaredFields()) {
            if (!Modifier.isPrivate(f.getModifiers())) {
                Due.due(f.getName() + " is a public constant", f.getModifiers(), Modifier.PUBLIC | Modifier.STATIC | Modifier.FINAL);
                got.add(f.getName() + " " + f.getInt(null));
            }
        }
        String want = "[BAD -1000000001, FULL -1000000003, INDEX -1000000013, KIND -1000000012, NO -1000000002, "
            + "NONE -1000000005, NOTHING -1000000011, SIZE -1000000014]";
        Due.due("constants " + got, got.toString().equals(want) ? 1 : 0, 1);
    }
}
