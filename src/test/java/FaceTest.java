import java.lang.reflect.Constructor;
import java.lang.reflect.Field;
import java.lang.reflect.Member;
import java.lang.reflect.Method;
import java.lang.reflect.Modifier;
import java.util.Set;
import java.util.TreeSet;

/** The public face is the document's, and nothing else of the class can be seen from outside. */
public final class FaceTest {
    private static final String[] METHODS = {
        "boolean kind(int,int,int)", "boolean bunker(int,int,int)", "boolean crane(int)",
        "int grab(int)", "int share(int,int)", "boolean air(int,int,int)", "boolean set(int,int)",
        "boolean control(int,int,int,int)", "boolean burner(int,int)", "int run(int)",
        "long bed(int,int)", "long gas(int)", "int output(int)", "boolean burning()",
        "long ash(int)", "long balance(int)", "int plan(int)", "int planned(int)"};

    public static void main(String[] args) throws Exception {
        Check.same("NONE", GrateLayers.NONE, -1);
        Check.yes("the class is public and final", Modifier.isPublic(GrateLayers.class.getModifiers())
            && Modifier.isFinal(GrateLayers.class.getModifiers()));
        methodsAreTheDocuments();
        fieldsAreHidden();
        Constructor<?>[] constructors = GrateLayers.class.getDeclaredConstructors();
        Check.same("constructors", constructors.length, 1);
        Check.yes("GrateLayers(int) is public",
            Modifier.isPublic(GrateLayers.class.getDeclaredConstructor(int.class).getModifiers()));
        Check.end();
    }

    private static void methodsAreTheDocuments() {
        Set<String> visible = new TreeSet<>();
        Set<String> names = new TreeSet<>();
        for (Method m : GrateLayers.class.getDeclaredMethods()) {
            if (!isHidden(m)) {
                visible.add(spell(m));
                names.add(m.getName());
                Check.yes(m + " is public, of the object", Modifier.isPublic(m.getModifiers())
                    && !Modifier.isStatic(m.getModifiers()));
            }
        }
        Check.yes("methods " + visible, visible.equals(new TreeSet<>(Set.of(METHODS))));
        for (Method m : GrateLayers.class.getDeclaredMethods()) {
            Check.no(m + " bears a public name", isHidden(m) && names.contains(m.getName()));
        }
    }

    private static void fieldsAreHidden() {
        for (Field f : GrateLayers.class.getDeclaredFields()) {
            Check.yes(f + " is hidden", isHidden(f) || f.getName().equals("NONE"));
            Check.yes(f + " is no changing static", !Modifier.isStatic(f.getModifiers())
                || Modifier.isFinal(f.getModifiers()));
        }
    }

    private static boolean isHidden(Member m) {
        return Modifier.isPrivate(m.getModifiers()) || m.isSynthetic();
    }

    private static String spell(Method m) {
        StringBuilder text = new StringBuilder(m.getReturnType() + " " + m.getName() + "(");
        for (int i = 0; i < m.getParameterCount(); i++) {
            text.append(i == 0 ? "" : ",").append(m.getParameterTypes()[i]);
        }
        return text.append(")").toString();
    }
}
