import java.lang.reflect.Constructor;
import java.lang.reflect.Field;
import java.lang.reflect.Method;
import java.lang.reflect.Modifier;
import java.util.Set;
import java.util.TreeSet;

/** The public face, as the document and rule 1 of LANGUAGE.md have it; LanguageTest has the other rules. */
public final class FaceTest {
    private static final Set<String> METHODS = Set.of(
            "int metal(int,int,int,int,int,int)", "int set(int,int)", "int puller(int,int,int)", "int hole(int,int)",
            "int told(int,int,int)", "int gauge(int,int)", "int ream(int,int,int)", "int coil(int,int,int,boolean)",
            "int at(int,int)", "long stuff(int)", "int asks(int,int,int,int)", "int draw(int,int,int,int)",
            "int fire(int)", "int part(int,int)", "int join(int,int)", "int scrap(int)", "int ready(int)",
            "int way(int,int,int,int,int)", "int step(int,int,int,int,int,int)", "int go(int,int,int,int,int)",
            "int order(int,int,int,int)", "int cutting()", "int from(int)", "int cut()", "int filled(int)",
            "int note(int,boolean)", "int tally(int,int)", "int by(int,int)", "int chance(int)", "int cause()",
            "long account(int)", "int count(int)");
    private static final Set<String> CONSTANTS = Set.of(
            "NONE=-1", "UNKNOWN=-2", "OUTSIDE=-3", "NOT=-4", "BRITTLE=-5", "TORN=-6", "WEAK=-7", "FULL=-8");

    public static void main(String[] args) throws Exception {
        Checks checks = new Checks();
        checks.holds("public and final", Modifier.isPublic(WireMill.class.getModifiers())
                && Modifier.isFinal(WireMill.class.getModifiers()));
        checks.holds("methods " + faceMethods(), faceMethods().equals(new TreeSet<>(METHODS)));
        checks.holds("constants " + faceConstants(), faceConstants().equals(new TreeSet<>(CONSTANTS)));
        Constructor<?>[] made = WireMill.class.getDeclaredConstructors();
        checks.holds("one public constructor", made.length == 1 && Modifier.isPublic(made[0].getModifiers())
                && made[0].getParameterCount() == 0);
        checkNames(checks);
        checks.end();
    }

    private static Set<String> faceMethods() {
        Set<String> found = new TreeSet<>();
        for (Method m : WireMill.class.getDeclaredMethods()) {
            if (Modifier.isPrivate(m.getModifiers())) continue;
            StringBuilder text = new StringBuilder(m.getReturnType() + " " + m.getName() + "(");
            for (Class<?> type : m.getParameterTypes()) text.append(type).append(',');
            if (m.getParameterCount() > 0) text.setLength(text.length() - 1);
            found.add(text.append(')').toString());
        }
        return found;
    }

    private static Set<String> faceConstants() throws IllegalAccessException {
        Set<String> found = new TreeSet<>();
        for (Field f : WireMill.class.getDeclaredFields()) {
            if (Modifier.isPrivate(f.getModifiers())) continue;
            boolean isConstant = Modifier.isStatic(f.getModifiers()) && Modifier.isFinal(f.getModifiers());
            found.add(isConstant ? f.getName() + "=" + f.getInt(null) : f.getName());
        }
        return found;
    }

    /** No method that is not of the face bears the name of one that is. */
    private static void checkNames(Checks checks) {
        Set<String> taken = new TreeSet<>();
        for (String m : METHODS) taken.add(m.substring(m.indexOf(' ') + 1, m.indexOf('(')));
        for (Method m : WireMill.class.getDeclaredMethods()) {
            if (Modifier.isPrivate(m.getModifiers())) checks.holds("rule 1: name " + m, !taken.contains(m.getName()));
        }
        for (Class<?> inside : WireMill.class.getDeclaredClasses()) {
            checks.holds("rule 1: " + inside, !Modifier.isPublic(inside.getModifiers())
                    && !Modifier.isProtected(inside.getModifiers()) && Modifier.isStatic(inside.getModifiers()));
            for (Method m : inside.getDeclaredMethods()) checks.holds("rule 1: name " + m, !taken.contains(m.getName()));
        }
    }
}
