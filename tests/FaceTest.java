import java.lang.reflect.Constructor;
import java.lang.reflect.Field;
import java.lang.reflect.Method;
import java.lang.reflect.Modifier;
import java.util.Set;
import java.util.TreeSet;

/** The public face is the document's, and nothing else can be seen from outside. */
public final class FaceTest {
    private static final String[] METHODS = {"boolean width(int,int)", "boolean joined(int,int,int)",
        "int feed(int,int,int,int,int)", "int name(int,int,int,int,int)", "int wide(int)", "int bar(int,int,int)",
        "int sheet(int,int)", "int rules(int)", "boolean tie(int,int,int)", "boolean listed(int,int,int)",
        "boolean lifted(int,int,int)", "int habit(int,int)", "boolean house(int)", "int against(int,int)",
        "int judge(int)", "int line(int,int,int)", "int fillings(int)", "int may(int)", "long odds(int,int)",
        "int given()", "int kept(int)", "int said(int,int,int)", "int copy(int,int,int,int)", "int open(int,int)",
        "int needless(int)", "int since(int,int)", "int twice(int,int)", "int stricter(int,int)",
        "boolean note(int,int)", "int missing(int,int)", "int check(int,int)", "int count(int)"};

    public static void main(String[] args) {
        Due due = new Due("face");
        Class<InkBars> face = InkBars.class;
        due.is("public and final", face.getModifiers(), Modifier.PUBLIC | Modifier.FINAL);
        due.is("of no other class", face.getSuperclass() == Object.class && face.getInterfaces().length == 0, true);

        Set<String> open = new TreeSet<>();
        Set<String> publicNames = new TreeSet<>();
        for (Method m : face.getDeclaredMethods()) {
            if (!Modifier.isPrivate(m.getModifiers())) {
                due.is(m + " is public and no more", m.getModifiers(), Modifier.PUBLIC);
                open.add(told(m));
                publicNames.add(m.getName());
            }
        }
        due.is("its methods: " + open, open.equals(Set.of(METHODS)), true);

        Constructor<?>[] constructors = face.getDeclaredConstructors();
        due.is("one constructor", constructors.length, 1);
        due.is("without arguments", constructors[0].getParameterCount(), 0);
        due.is("it is public", constructors[0].getModifiers(), Modifier.PUBLIC);

        int fields = 0;
        for (Field f : face.getDeclaredFields()) {
            boolean constant = f.getName().equals("NONE");
            due.is(f + " is private, or NONE", constant || Modifier.isPrivate(f.getModifiers()), true);
            due.is(f + " is final, if static", !Modifier.isStatic(f.getModifiers()) || Modifier.isFinal(f.getModifiers()),
                true);
            fields += Modifier.isStatic(f.getModifiers()) ? 0 : 1;
        }
        due.is("its fields are few", fields <= 20, true);
        due.is("its classes are few", face.getDeclaredClasses().length <= 11, true);
        for (Class<?> inside : face.getDeclaredClasses()) {
            look(due, inside, publicNames);
        }
        due.end();
    }

    private static void look(Due due, Class<?> inside, Set<String> publicNames) {
        due.is(inside + " is static", Modifier.isStatic(inside.getModifiers()), true);
        due.is(inside + " is not public", Modifier.isPublic(inside.getModifiers()), false);
        due.is(inside + " has none inside", inside.getDeclaredClasses().length, 0);
        int fields = 0;
        for (Field f : inside.getDeclaredFields()) {
            fields += Modifier.isStatic(f.getModifiers()) ? 0 : 1;
            due.is(f + " is final, if static", !Modifier.isStatic(f.getModifiers()) || Modifier.isFinal(f.getModifiers()),
                true);
        }
        due.is(inside + " has few fields", fields <= 20, true);
        for (Method m : inside.getDeclaredMethods()) {
            boolean hides = Modifier.isPrivate(m.getModifiers()) && publicNames.contains(m.getName());
            due.is(m + " is private and named as a public one", hides, false);
            due.is(m + " takes at most seven", m.getParameterCount() <= 7, true);
        }
    }

    private static String told(Method m) {
        StringBuilder s = new StringBuilder(m.getReturnType().getName()).append(' ').append(m.getName()).append('(');
        for (int i = 0; i < m.getParameterCount(); i++) {
            s.append(i == 0 ? "" : ",").append(m.getParameterTypes()[i].getName());
        }
        return s.append(')').toString();
    }
}
