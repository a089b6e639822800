import java.lang.reflect.Constructor;
import java.lang.reflect.Field;
import java.lang.reflect.Method;
import java.lang.reflect.Modifier;
import java.util.Set;
import java.util.TreeSet;

/** The face of the document, and what rules 1, 5 and 11 of LANGUAGE.md say of members. */
public final class FaceTest {
    private static final Set<String> FACE = Set.of(
            "int point(int,int,int)", "int remove(int)", "int move(int,int,int)", "int way(int)",
            "int reach(long)", "int demand(int)", "long distance(int,int)", "int kind(int)",
            "int crowd(int)", "int count(int)", "int about(int,int)", "int around(int)",
            "int belongs(int,int)", "long dense(int)", "long meet(int,int)", "int crowds(long)",
            "int check()");

    private static final Due DUE = new Due("FaceTest");

    public static void main(String[] args) {
        methods();
        constructors();
        fields();
        DUE.end();
    }

    private static void methods() {
        Set<String> open = new TreeSet<>();
        Set<String> openNames = new TreeSet<>();
        for (Method method : PointCrowds.class.getDeclaredMethods()) {
            if (Modifier.isPrivate(method.getModifiers())) {
                continue;
            }
            DUE.holds(method + " is public, of the object", method.getModifiers() == Modifier.PUBLIC);
            open.add(plain(method));
            openNames.add(method.getName());
        }
        DUE.holds("the methods are those of the document: " + open, open.equals(FACE));
        for (Method method : PointCrowds.class.getDeclaredMethods()) {
            if (Modifier.isPrivate(method.getModifiers())) {
                DUE.holds("no method of the face is called " + method.getName(),
                        !openNames.contains(method.getName()));
            }
            DUE.holds(method + " has at most seven parameters", method.getParameterCount() <= 7);
        }
    }

    private static String plain(Method method) {
        StringBuilder text = new StringBuilder();
        text.append(method.getReturnType().getName()).append(' ').append(method.getName()).append('(');
        for (Class<?> type : method.getParameterTypes()) {
            text.append(text.charAt(text.length() - 1) == '(' ? "" : ",").append(type.getName());
        }
        return text.append(')').toString();
    }

    private static void constructors() {
        Constructor<?>[] all = PointCrowds.class.getDeclaredConstructors();
        DUE.same("constructors", all.length, 1);
        DUE.same("its parameters", all[0].getParameterCount(), 0);
        DUE.holds("it is public", Modifier.isPublic(all[0].getModifiers()));
        DUE.holds("the class is public and final",
                PointCrowds.class.getModifiers() == (Modifier.PUBLIC | Modifier.FINAL));
    }

    private static void fields() {
        int ofObject = 0;
        for (Field field : PointCrowds.class.getDeclaredFields()) {
            int modifiers = field.getModifiers();
            boolean isNone = field.getName().equals("NONE");
            DUE.holds(field + " is private, unless it is NONE",
                    isNone ? Modifier.isPublic(modifiers) : Modifier.isPrivate(modifiers));
            DUE.holds(field + " is final, if it is static",
                    !Modifier.isStatic(modifiers) || Modifier.isFinal(modifiers));
            ofObject += Modifier.isStatic(modifiers) ? 0 : 1;
        }
        DUE.holds("there are at most twenty fields: " + ofObject, ofObject <= 20);
    }
}
