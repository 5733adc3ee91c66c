import java.lang.reflect.Constructor;
import java.lang.reflect.Field;
import java.lang.reflect.Method;
import java.lang.reflect.Modifier;
import java.util.Set;
import java.util.TreeSet;

/** The public face of the document, and nothing else that can be seen from outside. */
public final class FaceTest {
    private static final String[] FACE = {
        "hours(int)", "ink(int,int,int)", "light(int,boolean)", "write(int,int,int,int)", "markOf(int,int,int)", "turn(int,int,int)",
        "scratch(int,int)", "copied(int,int,int)", "seen(int,int)", "age(int,int,int)", "gone(int,int)", "means(int,int)", "says(int,int,int)",
        "until(int)", "changes(int,int,int)", "shows(int,int)", "often(int,int)", "same(int,int,int)", "stays(int,int)",
        "cheapest(int,int,int,int)", "fewest(int,int,int)", "lasting(int,int,int)", "forged(int)", "forge(int,int)", "earliest(int,int,int)",
        "latest(int,int,int)", "clerk(int,int,int)", "seed(int)", "feed(int,int)", "wipe()", "text()", "hold(int,int,int)", "as(int,int)",
        "sheet(int,int,int)", "put(int,int,int)", "copy(int,int,int,int,int)", "load(int,int,int)", "judge(int,int,int)", "image()", "undo()",
        "tear()", "count(int)", "status(int)"
    };

    public static void main(String[] args) {
        Due due = new Due("FaceTest");
        Set<String> want = new TreeSet<>(Set.of(FACE));
        Set<String> names = new TreeSet<>();
        for (String s : FACE) names.add(s.substring(0, s.indexOf('(')));
        Set<String> got = new TreeSet<>();
        for (Method m : InkHours.class.getDeclaredMethods()) {
            if (Modifier.isPrivate(m.getModifiers())) {
                due.is("a private method bears a public name: " + m, names.contains(m.getName()) ? 1 : 0, 0);
            } else {
                due.is("public, and gives an int: " + m, m.getModifiers() == Modifier.PUBLIC && m.getReturnType() == int.class ? 1 : 0, 1);
                got.add(signature(m));
            }
        }
        due.is("the face is " + got, got.equals(want) ? 1 : 0, 1);
        due.is("43 methods", got.size(), 43);
        Constructor<?>[] makers = InkHours.class.getDeclaredConstructors();
        due.is("one constructor", makers.length, 1);
        due.is("public, without arguments", makers[0].getModifiers() == Modifier.PUBLIC && makers[0].getParameterCount() == 0 ? 1 : 0, 1);
        for (Field f : InkHours.class.getDeclaredFields()) due.is("private: " + f, Modifier.isPrivate(f.getModifiers()) ? 1 : 0, 1);
        due.is("final", Modifier.isFinal(InkHours.class.getModifiers()) && Modifier.isPublic(InkHours.class.getModifiers()) ? 1 : 0, 1);
        for (Class<?> c : InkHours.class.getDeclaredClasses()) {
            due.is("static: " + c, Modifier.isStatic(c.getModifiers()) && !Modifier.isPublic(c.getModifiers()) ? 1 : 0, 1);
            due.is("fields of " + c, c.getDeclaredFields().length <= 20 ? 1 : 0, 1);
            for (Method m : c.getDeclaredMethods()) due.is("a public name inside: " + m, names.contains(m.getName()) ? 1 : 0, 0);
        }
        due.is("twelve classes at most", InkHours.class.getDeclaredClasses().length < 12 ? 1 : 0, 1);
        due.end();
    }

    private static String signature(Method m) {
        StringBuilder s = new StringBuilder(m.getName()).append('(');
        for (Class<?> type : m.getParameterTypes()) s.append(s.charAt(s.length() - 1) == '(' ? "" : ",").append(type.getName());
        return s.append(')').toString();
    }
}
