import java.lang.reflect.Constructor;
import java.lang.reflect.Field;
import java.lang.reflect.Method;
import java.lang.reflect.Modifier;
import java.util.TreeSet;

/** The public face is the document's, and nothing else can be seen from outside. */
public final class FaceTest {
    public static void main(String[] args) {
        TreeSet<String> seen = new TreeSet<>();
        for (Method method : GradientCoder.class.getDeclaredMethods()) {
            if (!Modifier.isPrivate(method.getModifiers())) {
                seen.add(method.toString());
            }
        }
        for (Constructor<?> constructor : GradientCoder.class.getDeclaredConstructors()) {
            if (!Modifier.isPrivate(constructor.getModifiers())) {
                seen.add(constructor.toString());
            }
        }
        for (Field field : GradientCoder.class.getDeclaredFields()) {
            if (!Modifier.isPrivate(field.getModifiers())) {
                seen.add(field.toString());
            }
        }
        TreeSet<String> due = new TreeSet<>();
        due.add("public static final int GradientCoder.BAD");
        due.add("public GradientCoder()");
        due.add("public boolean GradientCoder.frame(int,int,int,int)");
        due.add("public boolean GradientCoder.row(int,long)");
        due.add("public int GradientCoder.encode()");
        due.add("public int GradientCoder.size()");
        due.add("public int GradientCoder.code(int)");
        due.add("public boolean GradientCoder.poke(int,int)");
        due.add("public boolean GradientCoder.cut(int)");
        due.add("public int GradientCoder.decode() throws java.lang.IllegalArgumentException");
        due.add("public int GradientCoder.number(int)");
        due.add("public int GradientCoder.sample(int,int)");
        due.add("public int GradientCoder.rebuilt(int,int)");
        due.add("public int GradientCoder.context(int,int)");
        due.add("public int GradientCoder.runIndex()");
        Check.same("the face", seen.toString(), due.toString());
        Check.yes("final", Modifier.isFinal(GradientCoder.class.getModifiers()));
        Check.same("BAD", GradientCoder.BAD, -1);
        for (Class<?> inside : GradientCoder.class.getDeclaredClasses()) {
            int modifiers = inside.getModifiers();
            Check.yes(inside + " is static", Modifier.isStatic(modifiers));
            Check.no(inside + " is public", Modifier.isPublic(modifiers) || Modifier.isProtected(modifiers));
        }
        Check.end();
    }
}
