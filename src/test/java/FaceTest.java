import java.lang.reflect.Constructor;
import java.lang.reflect.Field;
import java.lang.reflect.Member;
import java.lang.reflect.Method;
import java.lang.reflect.Modifier;
import java.util.ArrayList;
import java.util.Collections;
import java.util.List;

/** The document's face, and rule 1 of LANGUAGE.md: no other member is seen from outside. */
public final class FaceTest {
    private static final Answers A = new Answers("FaceTest");

    private static final String[] FACE = {
        "PathCalls()", "NONE", "kind(int,boolean)int", "view()int", "part(int,int,long)int",
        "code(int,int)int", "get(int,int)int", "segment(int)long", "insert(int,long,long)int",
        "replace(int,long)int", "delete(int)int", "position(int,int)int", "order(int,int)int",
        "count()int", "rule(int,int)int", "within(int)int"
    };

    public static void main(String[] args) {
        List<String> seen = new ArrayList<>();
        for (Constructor<?> c : PathCalls.class.getDeclaredConstructors()) {
            keep(seen, c, "PathCalls" + types(c.getParameterTypes()));
        }
        for (Field f : PathCalls.class.getDeclaredFields()) {
            keep(seen, f, f.getName());
        }
        for (Method m : PathCalls.class.getDeclaredMethods()) {
            keep(seen, m, m.getName() + types(m.getParameterTypes()) + m.getReturnType().getName());
        }
        List<String> due = new ArrayList<>(List.of(FACE));
        Collections.sort(seen);
        Collections.sort(due);
        if (!seen.equals(due)) {
            System.out.println("the face is " + seen + ", due is " + due);
        }
        A.due("the face is as due", seen.equals(due) ? 1 : 0, 1);
        A.due("the class is public and final",
            PathCalls.class.getModifiers() & (Modifier.PUBLIC | Modifier.FINAL), Modifier.PUBLIC | Modifier.FINAL);
        A.due("NONE", PathCalls.NONE, -1);
        privateNames();
        A.end();
    }

    private static void keep(List<String> seen, Member member, String name) {
        if (!Modifier.isPrivate(member.getModifiers())) {
            seen.add(name);
            A.due(name + " is public", Modifier.isPublic(member.getModifiers()) ? 1 : 0, 1);
        }
    }

    private static String types(Class<?>[] parameters) {
        StringBuilder text = new StringBuilder("(");
        for (int i = 0; i < parameters.length; i++) {
            text.append(i == 0 ? "" : ",").append(parameters[i].getName());
        }
        return text.append(")").toString();
    }

    private static void privateNames() {
        List<Class<?>> classes = new ArrayList<>(List.of(PathCalls.class.getDeclaredClasses()));
        classes.add(PathCalls.class);
        for (Class<?> c : classes) {
            for (Method m : c.getDeclaredMethods()) {
                if (Modifier.isPrivate(m.getModifiers())) {
                    for (String face : FACE) {
                        A.due(m + " bears a public name", face.startsWith(m.getName() + "(") ? 1 : 0, 0);
                    }
                }
            }
        }
    }
}
