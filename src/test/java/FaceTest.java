import java.lang.reflect.Constructor;
import java.lang.reflect.Field;
import java.lang.reflect.Method;
import java.lang.reflect.Modifier;
import java.util.Arrays;
import java.util.Set;
import java.util.TreeSet;

/** The face is the document's and nothing else can be seen from outside (LANGUAGE.md, rule 1). */
public final class FaceTest {
    private static final String[] METHODS = {
        "int status()", "boolean sheet(int,int,int)", "boolean write(int,int,long)", "long read(int,int)",
        "boolean pour(int,int,int,int,int)", "boolean ring(int)", "int beater(int,int)", "boolean kind(int,int)",
        "boolean turn(int,int)", "boolean phases(int)", "boolean road(int,int,boolean)", "boolean roads(int)",
        "boolean push(int,int)", "boolean clear()", "boolean go(int)", "int count(int)", "int beats(int,int)",
        "int step(int)", "int arc(int)", "int round(int)", "int meet(int)", "int ends()", "int end(int,int)",
        "int sure(int)", "int lead()", "int leader(int)", "boolean table(int)", "boolean span(int,int,int)",
        "boolean cut(int,int)", "long pace(int)", "int critical()", "long sums(long,int,int)",
        "long longest(int,int)", "int again(int)", "int out(int)"
    };

    public static void main(String[] args) {
        Check c = new Check("FaceTest");
        Class<?> face = BeatBench.class;
        c.due("the class is public and final", (face.getModifiers() & (Modifier.PUBLIC | Modifier.FINAL)),
            Modifier.PUBLIC | Modifier.FINAL);
        Set<String> seen = new TreeSet<>();
        Set<String> publicNames = new TreeSet<>();
        for (Method m : face.getDeclaredMethods()) {
            if (!Modifier.isPrivate(m.getModifiers())) {
                seen.add(text(m));
                publicNames.add(m.getName());
                c.due(m + " is public, not static", m.getModifiers() & ~Modifier.FINAL, Modifier.PUBLIC);
            }
        }
        Set<String> due = new TreeSet<>(Arrays.asList(METHODS));
        c.due("methods seen " + seen + " due " + due, seen.equals(due), true);
        for (Method m : face.getDeclaredMethods()) {
            boolean hidden = Modifier.isPrivate(m.getModifiers());
            c.due(m + " bears no public name", hidden && publicNames.contains(m.getName()), false);
        }
        Constructor<?>[] made = face.getDeclaredConstructors();
        c.due("constructors", made.length, 1);
        c.due("the constructor's parameters", made[0].getParameterCount(), 0);
        c.due("the constructor is public", made[0].getModifiers(), Modifier.PUBLIC);
        fields(c, face);
        for (Class<?> inside : face.getDeclaredClasses()) {
            int m = inside.getModifiers();
            c.due(inside + " is static", Modifier.isStatic(m), true);
            c.due(inside + " is hidden", Modifier.isPublic(m) || Modifier.isProtected(m), false);
        }
        c.due("NONE", BeatBench.NONE, -1);
        c.end();
    }

    private static void fields(Check c, Class<?> face) {
        for (Field f : face.getDeclaredFields()) {
            int m = f.getModifiers();
            if (f.getName().equals("NONE")) {
                c.due("NONE is public static final", m, Modifier.PUBLIC | Modifier.STATIC | Modifier.FINAL);
            } else {
                c.due(f + " is private", Modifier.isPrivate(m), true);
            }
            c.due(f + " is final if static", Modifier.isStatic(m) && !Modifier.isFinal(m), false);
        }
    }

    private static String text(Method m) {
        StringBuilder b = new StringBuilder(m.getReturnType().getSimpleName() + " " + m.getName() + "(");
        for (int k = 0; k < m.getParameterCount(); k++) {
            b.append(k == 0 ? "" : ",").append(m.getParameterTypes()[k].getSimpleName());
        }
        return b.append(")").toString();
    }
}
