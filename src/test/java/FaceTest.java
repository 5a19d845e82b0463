import java.lang.reflect.Constructor;
import java.lang.reflect.Field;
import java.lang.reflect.Method;
import java.lang.reflect.Modifier;
import java.util.Set;
import java.util.TreeSet;

/** The public face is the document's, and there is nothing beside it. */
public final class FaceTest {
    private static final String[] METHODS = {"int status()", "int feed(int,int,int,int,int)", "int load(int)",
        "int fault(int)", "int many(int)", "int link(int,int)", "int flow(int,int)", "int path(int,int)",
        "int packet(int,int,int)", "int event(int,int)", "int given(int,int)", "int where(int,int)", "int eldest(int)",
        "int past(int,int)", "int top(int)", "int alike(int,int)", "int set(int,int,int)",
        "boolean turn(int,boolean)", "int more(int,int)", "int kind(int,int)", "int detour(int,int,int)",
        "int tick(int)", "int mark()", "int back()", "int best(int)", "int neck(int)", "int when(int)",
        "int closes(int)", "int caught(int)", "int after(int,int)", "int without(int,int,int)", "int blind(int,int)",
        "int least(int,int,int)"};

    public static void main(String[] args) {
        Check c = new Check("the face");
        Class<?> face = SharedSurplus.class;
        c.due("public and final", Modifier.isPublic(face.getModifiers()) && Modifier.isFinal(face.getModifiers()), true);
        Set<String> due = new TreeSet<>(Set.of(METHODS));
        Set<String> names = new TreeSet<>();
        for (Method m : face.getDeclaredMethods()) {
            if (Modifier.isPrivate(m.getModifiers())) {
                continue;
            }
            names.add(m.getName());
            c.due("the face has " + signature(m), due.remove(signature(m)) && Modifier.isPublic(m.getModifiers()), true);
        }
        c.due("missing " + due, due.size(), 0);
        for (Method m : face.getDeclaredMethods()) {
            if (Modifier.isPrivate(m.getModifiers())) {
                c.due("private with a public name: " + m.getName(), names.contains(m.getName()), false);
            }
        }
        for (Field f : face.getDeclaredFields()) {
            c.due("field " + f.getName(), Modifier.isPrivate(f.getModifiers()) || f.getName().equals("NONE"), true);
        }
        Constructor<?>[] made = face.getDeclaredConstructors();
        c.due("one public constructor", made.length == 1 && made[0].getParameterCount() == 0
            && Modifier.isPublic(made[0].getModifiers()), true);
        innerClasses(c, face);
        Check.end();
    }

    private static String signature(Method m) {
        StringBuilder s = new StringBuilder(m.getReturnType().getName()).append(' ').append(m.getName()).append('(');
        for (int i = 0; i < m.getParameterCount(); i++) {
            s.append(i == 0 ? "" : ",").append(m.getParameterTypes()[i].getName());
        }
        return s.append(')').toString();
    }

    private static void innerClasses(Check c, Class<?> face) {
        Class<?>[] inside = face.getDeclaredClasses();
        c.due("twelve classes at most", inside.length < 12, true);
        for (Class<?> k : inside) {
            c.due(k + " is static", Modifier.isStatic(k.getModifiers()), true);
            c.due(k + " is not public", Modifier.isPublic(k.getModifiers()) || Modifier.isProtected(k.getModifiers()), false);
            int fields = 0;
            for (Field f : k.getDeclaredFields()) {
                fields += Modifier.isStatic(f.getModifiers()) ? 0 : 1;
            }
            c.due(k + " has some twenty fields at most", fields <= 20, true);
            for (Method m : k.getDeclaredMethods()) {
                c.due(m + " has seven parameters at most", m.getParameterCount() <= 7, true);
            }
        }
    }
}
