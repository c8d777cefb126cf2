import java.lang.reflect.Constructor;
import java.lang.reflect.Field;
import java.lang.reflect.Method;
import java.lang.reflect.Modifier;
import java.util.Set;
import java.util.TreeSet;

/** The public face is the document's, and no other member can be seen. */
public final class ExactDeskFace {
    private static final String[] FACE = {
        "boolean set(int,long)", "long get(int)", "int add(int,long)", "int subtract(int,long)",
        "int times(int,long)", "int share(int,long,long,int)", "int enter(int,int,long)", "int merge(int,int)",
        "int split(int,long,int)", "int take(int,int)", "boolean clear(int)", "int compare(int,int)",
        "int digits(int)", "int digit(int,int)"};

    private static int wrong = 0;

    private static void hold(boolean right, String what) {
        if (!right) {
            wrong++;
            System.out.println(what);
        }
    }

    private static String sign(Method method) {
        StringBuilder text = new StringBuilder();
        text.append(method.getReturnType().getName()).append(' ').append(method.getName()).append('(');
        Class<?>[] types = method.getParameterTypes();
        for (int i = 0; i < types.length; i++) {
            text.append(i == 0 ? "" : ",").append(types[i].getName());
        }
        return text.append(')').toString();
    }

    private static void lookAtMethods() {
        Set<String> due = new TreeSet<>(Set.of(FACE));
        Set<String> names = new TreeSet<>();
        Set<String> seen = new TreeSet<>();
        for (Method method : ExactDesk.class.getDeclaredMethods()) {
            if (!Modifier.isPrivate(method.getModifiers())) {
                int want = Modifier.PUBLIC;
                hold(method.getModifiers() == want, method + " is not plainly public");
                hold(method.getExceptionTypes().length == 0, method + " says that it throws");
                seen.add(sign(method));
                names.add(method.getName());
            }
        }
        hold(seen.equals(due), "the methods are " + seen + ", due are " + due);
        for (Method method : ExactDesk.class.getDeclaredMethods()) {
            hold(!Modifier.isPrivate(method.getModifiers()) || !names.contains(method.getName()),
                    "the private " + method + " bears the name of a public one");
        }
    }

    private static void lookAtTheRest() {
        int modifiers = ExactDesk.class.getModifiers();
        hold(modifiers == (Modifier.PUBLIC | Modifier.FINAL), "the class is not public and final");
        hold(ExactDesk.class.getSuperclass() == Object.class, "the class extends another");
        hold(ExactDesk.class.getInterfaces().length == 0, "the class implements an interface");
        Constructor<?>[] makers = ExactDesk.class.getDeclaredConstructors();
        hold(makers.length == 1 && makers[0].getModifiers() == Modifier.PUBLIC
                && makers[0].getParameterCount() == 0, "the constructor is not the document's");
        for (Field field : ExactDesk.class.getDeclaredFields()) {
            hold(Modifier.isPrivate(field.getModifiers()), field + " can be seen");
            hold(!Modifier.isStatic(field.getModifiers()) || Modifier.isFinal(field.getModifiers()),
                    field + " is static and not final");
        }
        for (Class<?> inside : ExactDesk.class.getDeclaredClasses()) {
            int mode = inside.getModifiers();
            hold(Modifier.isStatic(mode) && !Modifier.isPublic(mode) && !Modifier.isProtected(mode),
                    inside + " is not as rule 1 of LANGUAGE.md asks");
        }
    }

    public static void main(String[] args) {
        lookAtMethods();
        lookAtTheRest();
        System.out.println(wrong == 0 ? "the face is as due" : wrong + " faults in the face");
        if (wrong != 0) {
            System.exit(1);
        }
    }
}
