import java.lang.reflect.Constructor;
import java.lang.reflect.Field;
import java.lang.reflect.Method;
import java.lang.reflect.Modifier;
import java.util.Set;
import java.util.TreeSet;

/** The class has the document's face and nothing else that can be seen. */
public final class FaceTest {
    private static final String[] FACE = {
        "letter/1", "gorge/0", "caller/2", "known/1", "learn/2", "set/2", "hour/2", "days/1", "answers/1",
        "says/1", "behind/2", "knownIn/2", "of/3", "knows/2", "silent/0", "week/1", "bestWeek/1", "bestTune/1",
        "worst/1", "bestHour/2", "keepAway/2", "might/1", "never/0", "whose/1", "tellsMost/0", "byTurns/3",
        "snow/2", "heals/1", "row/1", "fits/0", "judge/0", "clear/0", "lots/3", "image/0", "on/0", "count/1"};

    public static void main(String[] args) {
        Check check = new Check();
        Class<?> face = TheEchosWidow.class;
        check.holds("public and final", Modifier.isPublic(face.getModifiers()) && Modifier.isFinal(face.getModifiers()));
        Set<String> names = new TreeSet<>();
        for (Method m : face.getDeclaredMethods()) {
            if (Modifier.isPublic(m.getModifiers())) {
                check.holds(m + " answers an int", m.getReturnType() == int.class && !Modifier.isStatic(m.getModifiers()));
                for (Class<?> p : m.getParameterTypes()) {
                    check.holds(m + " takes ints", p == int.class);
                }
                names.add(m.getName() + "/" + m.getParameterCount());
            }
        }
        check.holds("the face is whole and no more: " + names, names.equals(Set.of(FACE)));
        for (Method m : face.getDeclaredMethods()) {
            if (!Modifier.isPublic(m.getModifiers())) {
                check.holds(m + " is private", Modifier.isPrivate(m.getModifiers()));
                for (String f : FACE) {
                    check.holds(m + " bears no public name", !f.startsWith(m.getName() + "/"));
                }
            }
        }
        for (Field f : face.getDeclaredFields()) {
            check.holds(f + " is private", Modifier.isPrivate(f.getModifiers()));
            check.holds(f + " is final if static", !Modifier.isStatic(f.getModifiers()) || Modifier.isFinal(f.getModifiers()));
        }
        for (Class<?> c : face.getDeclaredClasses()) {
            check.holds(c + " is static and not public", Modifier.isStatic(c.getModifiers()) && !Modifier.isPublic(c.getModifiers()));
        }
        Constructor<?>[] made = face.getDeclaredConstructors();
        check.holds("one public constructor without arguments", made.length == 1
            && Modifier.isPublic(made[0].getModifiers()) && made[0].getParameterCount() == 0);
        check.end("FaceTest");
    }
}
