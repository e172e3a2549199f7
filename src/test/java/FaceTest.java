import java.lang.reflect.Constructor;
import java.lang.reflect.Field;
import java.lang.reflect.Method;
import java.lang.reflect.Modifier;
import java.util.Arrays;
import java.util.TreeSet;

/** The public face, as the document has it, and nothing besides; no private method bears the name of a public one. */
public final class FaceTest {
    private static final String[] FACE = {"int row(int,int)", "int lay(int,int,int)", "int at(int,int)", "int tear(int)",
        "int copy(int,int,int,int,int)", "int mean(int)", "int text(int,int)", "int put(int,int,int)", "int fault(int,boolean)",
        "int house(int)", "int night(int)", "int event(int,int,int,int)", "int back(int)", "int told(int,int)", "int mark(int,int)",
        "int door(int,int)", "int walker(int,int)", "int could()", "int fewest()", "int ways()", "int rooms(int,int)",
        "int empty(int)", "int where(int,int)", "int met(int,int)", "int still(int,int)", "int judge(int,int)", "int way(int,int)",
        "int whose(int)", "int same(int)", "int passes(int)", "int third()", "int chance(int,int)", "int likely(int,int)",
        "int cheapest(int,int)", "int settle(int,int,int)", "int stuck()", "int quarrel()", "int asked()", "long many()",
        "long upper()", "long lower()", "int count(int)", "int finding()", "int findings(int)", "long digest()"};
    private static final String[] NAMES = {"BAD", "FULL", "FINDING", "STATE", "SPENT", "NONE"};
    private static final int[] VALUES = {-1, -2, -3, -4, -6, -9};

    private static String told(Method m) {
        StringBuilder all = new StringBuilder();
        for (Class<?> type : m.getParameterTypes()) all.append(all.length() == 0 ? "" : ",").append(type.getName());
        return m.getReturnType().getName() + " " + m.getName() + "(" + all + ")";
    }

    public static void main(String[] args) throws Exception {
        Class<?> face = CreakBoards.class;
        Check.yes("the class is public and final", Modifier.isPublic(face.getModifiers()) && Modifier.isFinal(face.getModifiers()));
        TreeSet<String> due = new TreeSet<>(Arrays.asList(FACE));
        TreeSet<String> names = new TreeSet<>();
        for (String one : FACE) names.add(one.substring(one.indexOf(' ') + 1, one.indexOf('(')));
        Check.due("methods of the face", due.size(), 45);
        for (Method m : face.getDeclaredMethods()) {
            if (Modifier.isPrivate(m.getModifiers())) {
                Check.yes("private " + m.getName() + " has a name of its own", !names.contains(m.getName()));
            } else {
                Check.yes(told(m) + " is of the face", due.remove(told(m)) && Modifier.isPublic(m.getModifiers()));
                Check.yes(told(m) + " is an object's", !Modifier.isStatic(m.getModifiers()));
            }
        }
        for (String missing : due) Check.yes(missing + " is there", false);
        for (Constructor<?> c : face.getDeclaredConstructors()) {
            Check.yes("the constructor", Modifier.isPublic(c.getModifiers()) && c.getParameterCount() == 0);
        }
        int constants = 0;
        for (Field f : face.getDeclaredFields()) {
            if (Modifier.isPrivate(f.getModifiers())) continue;
            int i = Arrays.asList(NAMES).indexOf(f.getName());
            Check.yes(f.getName() + " is a constant of the face", i >= 0 && Modifier.isPublic(f.getModifiers())
                && Modifier.isStatic(f.getModifiers()) && Modifier.isFinal(f.getModifiers()) && f.getType() == int.class);
            if (i >= 0) Check.due(f.getName(), f.getInt(null), VALUES[i]);
            constants++;
        }
        Check.due("constants", constants, NAMES.length);
        for (Class<?> inside : face.getDeclaredClasses()) {
            Check.yes(inside.getName() + " is static", Modifier.isStatic(inside.getModifiers()));
            Check.yes(inside.getName() + " is not public", !Modifier.isPublic(inside.getModifiers()));
            for (Method m : inside.getDeclaredMethods()) {
                Check.yes(inside.getName() + "." + m.getName() + " has a name of its own", !names.contains(m.getName()));
            }
        }
        Check.end("FaceTest");
    }
}
