import java.lang.reflect.Constructor;
import java.lang.reflect.Field;
import java.lang.reflect.Method;
import java.lang.reflect.Modifier;
import java.util.Set;
import java.util.TreeSet;

/** The class has just the face that the document tells, and no private method bears a public one's name. */
public final class FaceTest {
    private static final String[] FACE = {
        "int grid(int,int,boolean)", "int ship(int,int)", "int set(int,int)", "int drift(int,int)", "int spots(int)",
        "long spot(int,int)", "int layings()", "int laid(int,int)", "int call(int)", "int salvo(int,int)",
        "int answer(int,int)", "int lose(int)", "int back()", "int truth(int,int)", "long lies(int,int,int)",
        "int left()", "int which(int)", "int there(int)", "long sure(int)", "int part(int,int)", "int best(int)",
        "int bestSalvo(int)", "int need(int)", "int calls(int,int)", "int hardest(int)", "int stray()", "int blame()",
        "int blamed()", "int switched(int)", "int count(int,int)", "int rim(int,int)", "int fitting()",
        "int clues(int)", "int many(int)"};

    private static int wrong = 0;

    private static void holds(boolean fine, String what) {
        if (!fine) {
            wrong++;
            System.out.println(what);
        }
    }

    private static String told(Method m) {
        StringBuilder b = new StringBuilder(m.getReturnType().getName() + " " + m.getName() + "(");
        for (Class<?> p : m.getParameterTypes()) b.append(b.charAt(b.length() - 1) == '(' ? "" : ",").append(p.getName());
        return b.append(")").toString();
    }

    private static void methods(Set<String> names) {
        Set<String> face = new TreeSet<>(Set.of(FACE));
        for (Method m : SquaredShips.class.getDeclaredMethods()) {
            if (Modifier.isPublic(m.getModifiers())) {
                holds(face.remove(told(m)), "not in the document: " + told(m));
                holds(m.getModifiers() == Modifier.PUBLIC, "more than public: " + told(m));
            } else {
                holds(Modifier.isPrivate(m.getModifiers()), "neither public nor private: " + told(m));
                holds(!names.contains(m.getName()), "bears a public name: " + told(m));
            }
        }
        holds(face.isEmpty(), "missing: " + face);
    }

    private static void fields() {
        Set<String> constants = new TreeSet<>(Set.of("NONE", "UNKNOWN", "OUTSIDE", "NOT", "FULL", "SPENT"));
        for (Field f : SquaredShips.class.getDeclaredFields()) {
            if (Modifier.isPublic(f.getModifiers())) {
                holds(constants.remove(f.getName()), "not in the document: " + f);
                holds(Modifier.isStatic(f.getModifiers()) && f.getType() == int.class, "not a constant: " + f);
            } else {
                holds(Modifier.isPrivate(f.getModifiers()), "neither public nor private: " + f);
            }
            holds(Modifier.isFinal(f.getModifiers()), "not final: " + f);
        }
        holds(constants.isEmpty(), "missing: " + constants);
    }

    private static void inside(Set<String> names) {
        Class<?>[] classes = SquaredShips.class.getDeclaredClasses();
        holds(classes.length <= 11, "too many classes: " + classes.length);
        for (Class<?> c : classes) {
            holds(Modifier.isStatic(c.getModifiers()) && !Modifier.isPublic(c.getModifiers())
                && !Modifier.isProtected(c.getModifiers()), "not static, or seen outside: " + c);
            holds(c.getDeclaredFields().length <= 20, "too many fields: " + c);
            for (Method m : c.getDeclaredMethods()) {
                holds(!names.contains(m.getName()), "bears a public name: " + m);
                holds(m.getParameterCount() <= 7, "too many parameters: " + m);
            }
            for (Field f : c.getDeclaredFields()) {
                holds(!Modifier.isStatic(f.getModifiers()), "static state: " + f);
            }
        }
    }

    public static void main(String[] args) {
        Set<String> names = new TreeSet<>();
        for (String one : FACE) names.add(one.substring(one.indexOf(' ') + 1, one.indexOf('(')));
        Class<?> c = SquaredShips.class;
        holds(c.getModifiers() == (Modifier.PUBLIC | Modifier.FINAL), "the class is public and final");
        holds(c.getPackage() == null || c.getPackage().getName().isEmpty(), "the class has no package");
        Constructor<?>[] made = c.getDeclaredConstructors();
        holds(made.length == 1 && made[0].getParameterCount() == 0 && Modifier.isPublic(made[0].getModifiers()),
            "one public constructor");
        methods(names);
        fields();
        inside(names);
        System.out.println(wrong == 0 ? "the face is as told" : wrong + " things are not as told");
        if (wrong != 0) System.exit(1);
    }
}
