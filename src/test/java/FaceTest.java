import java.lang.reflect.Constructor;
import java.lang.reflect.Field;
import java.lang.reflect.Method;
import java.lang.reflect.Modifier;
import java.util.Set;
import java.util.TreeSet;

/** The public face is the document's, and nothing beside it can be seen from outside. */
public final class FaceTest {
    private static final String[] METHODS = {
        "int feed(int,int,int,int,int)", "int text(int)", "int fault(int)", "int named(int,int)", "int look(int,int)",
        "int cell(int,int)", "long law(int,int,int,int)", "int beats(int)", "int was(int)", "int fat(int,int)",
        "boolean off(int)", "boolean blow(boolean)", "int strike(int,int)", "int high(int)", "int creaks(int)",
        "int lies(int,int,int,int)", "int fewest(int,int,int)", "int forbidden(int,int,int)", "int cancel(int,int,int)",
        "int owes(int,int)", "int pump(int,int,int,int)", "int keeper(int,int,int,int,int)",
        "int groan(int,int,int,boolean)", "int unsay(int)", "boolean known(int)", "int began()", "int set(int)",
        "int sure(int)", "int fits()", "int gales(int,int,int)", "int tried(int,int,int)", "int undo()", "int keep()",
        "int back()", "int count(int)"};

    private static int wrong = 0;

    private static void check(String what, Object got, Object want) {
        if (!want.equals(got)) {
            wrong++;
            System.out.println(what + " is " + got + ", due is " + want);
        }
    }

    private static String told(Method method) {
        StringBuilder told = new StringBuilder();
        told.append(method.getReturnType()).append(' ').append(method.getName()).append('(');
        String between = "";
        for (Class<?> type : method.getParameterTypes()) {
            told.append(between).append(type);
            between = ",";
        }
        return told.append(')').toString();
    }

    public static void main(String[] args) {
        Class<?> face = WalkingBridge.class;
        check("public and final", face.getModifiers(), Modifier.PUBLIC | Modifier.FINAL);
        Set<String> want = new TreeSet<>(Set.of(METHODS));
        Set<String> got = new TreeSet<>();
        Set<String> publicNames = new TreeSet<>();
        for (Method method : face.getDeclaredMethods()) {
            if (!Modifier.isPrivate(method.getModifiers())) {
                got.add(told(method));
                publicNames.add(method.getName());
                check(told(method) + " public", method.getModifiers(), Modifier.PUBLIC);
            }
        }
        check("methods", got, want);
        for (Method method : face.getDeclaredMethods()) {
            if (Modifier.isPrivate(method.getModifiers())) {
                check("a private method " + method.getName() + " of a public one's name",
                        publicNames.contains(method.getName()), false);
            }
        }
        for (Class<?> inside : face.getDeclaredClasses()) {
            check(inside.getName() + " static", Modifier.isStatic(inside.getModifiers()), true);
            check(inside.getName() + " public", Modifier.isPublic(inside.getModifiers()), false);
            for (Method method : inside.getDeclaredMethods()) {
                if (Modifier.isPrivate(method.getModifiers())) {
                    check("a private method " + method.getName() + " inside of a public one's name",
                            publicNames.contains(method.getName()), false);
                }
            }
        }
        for (Field field : face.getDeclaredFields()) {
            int flags = field.getModifiers();
            check("visible field " + field.getName(), !Modifier.isPrivate(flags), field.getName().equals("NONE"));
        }
        check("NONE", WalkingBridge.NONE, -1);
        Constructor<?>[] made = face.getDeclaredConstructors();
        check("constructors", made.length, 1);
        check("constructor public", made[0].getModifiers(), Modifier.PUBLIC);
        check("constructor's arguments", made[0].getParameterCount(), 0);
        System.out.println(wrong == 0 ? "the face is as due" : wrong + " parts of the face are not as due");
        if (wrong != 0) {
            System.exit(1);
        }
    }
}
