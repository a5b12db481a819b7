import java.lang.reflect.Constructor;
import java.lang.reflect.Field;
import java.lang.reflect.Method;
import java.lang.reflect.Modifier;
import java.util.Set;
import java.util.TreeSet;

/** The class has the document's public face, and nothing else that is not private. */
public final class FaceTest {
    private static int wrong = 0;

    public static void main(String[] args) {
        Set<String> due = Set.of(
                "public static final int NONE",
                "public YardActors()",
                "public int actor(int,int,int)",
                "public boolean value(int,int)",
                "public int channel(int,int,int,int,int)",
                "public boolean can(int)",
                "public boolean act(int)",
                "public int run(long,int)",
                "public int acted(int)",
                "public int kept(int)",
                "public long at(int,int)",
                "public int waits(int)",
                "public long waiting(int,int)",
                "public int keptAtLast(int)",
                "public long atLast(int,int)",
                "public int actedAtLast(int)",
                "public int fullAtLast(int)");
        Set<String> seen = openMembers();
        for (String member : due) {
            check(seen.contains(member), "missing: " + member);
        }
        for (String member : seen) {
            check(due.contains(member), "not in the document: " + member);
        }
        check(Modifier.isPublic(YardActors.class.getModifiers()), "the class is not public");
        check(Modifier.isFinal(YardActors.class.getModifiers()), "the class is not final");
        check(YardActors.NONE == -1, "NONE is not -1");
        System.out.println(wrong == 0 ? "the face is as due" : wrong + " faults");
        if (wrong != 0) {
            System.exit(1);
        }
    }

    private static Set<String> openMembers() {
        Set<String> seen = new TreeSet<>();
        for (Field f : YardActors.class.getDeclaredFields()) {
            if (!Modifier.isPrivate(f.getModifiers())) {
                seen.add(f.toGenericString().replace("YardActors.", ""));
            }
        }
        for (Constructor<?> c : YardActors.class.getDeclaredConstructors()) {
            if (!Modifier.isPrivate(c.getModifiers())) {
                seen.add(c.toGenericString());
            }
        }
        for (Method m : YardActors.class.getDeclaredMethods()) {
            if (!Modifier.isPrivate(m.getModifiers()) && !m.isSynthetic()) {
                seen.add(m.toGenericString().replace("YardActors.", ""));
            }
        }
        return seen;
    }

    private static void check(boolean holds, String fault) {
        if (!holds) {
            wrong++;
            System.out.println(fault);
        }
    }
}
