import java.lang.reflect.Field;
import java.lang.reflect.Member;
import java.lang.reflect.Method;
import java.lang.reflect.Modifier;
import java.util.Set;
import java.util.TreeSet;

/** The public face: exactly the document's, and all else is private. */
final class FaceTest {
    private static final Due DUE = new Due("FaceTest");
    private static final String INDEX = " IndexOutOfBoundsException";
    private static final String ARGUMENT = " IllegalArgumentException";
    private static final String STATE = " IllegalStateException";
    private static final String[] FACE = {
        "append(int)" + ARGUMENT + STATE,
        "clearText()",
        "errorPosition()",
        "load()" + STATE,
        "about(int)" + ARGUMENT,
        "ingredientOf(int,int)" + INDEX + ARGUMENT,
        "spoons(int,int)" + INDEX + ARGUMENT,
        "stepOf(int,int)" + INDEX + ARGUMENT,
        "begun(int)" + INDEX,
        "pieces(int)" + INDEX,
        "setting(int)" + ARGUMENT,
        "during(int,int)" + ARGUMENT,
        "ingredient(int)" + ARGUMENT + STATE,
        "amount(int,int)" + INDEX + ARGUMENT,
        "servings(int,int)" + ARGUMENT,
        "step(int,int,boolean)" + ARGUMENT + STATE,
        "minutes(int,int)" + INDEX + ARGUMENT,
        "use(int,int,boolean)" + INDEX,
        "need(int,int,boolean)" + INDEX + STATE,
        "pans(int,int)" + INDEX + ARGUMENT,
        "set(int,int)" + ARGUMENT,
        "undo()" + STATE,
        "ifPan(int,int)" + INDEX + ARGUMENT,
        "ifServed(int,int)" + ARGUMENT,
        "slack(int)" + INDEX,
        "bestRule()",
        "bestServings(int,int)" + ARGUMENT,
        "runScript(int,long)" + ARGUMENT,
        "simulate(long,int)" + ARGUMENT,
        "save(int)" + INDEX,
        "restore(int)" + INDEX + STATE,
    };

    public static void main(String[] args) {
        Set<String> methods = new TreeSet<>();
        for (Method method : SpoonCards.class.getDeclaredMethods()) {
            if (!isHidden(method)) {
                methods.add(told(method));
            }
        }
        DUE.text("the public methods", new TreeSet<>(Set.of(FACE)).toString(), methods.toString());
        DUE.answer("the public constructors", 1, () -> SpoonCards.class.getConstructors().length);
        DUE.answer("all constructors", 1, () -> SpoonCards.class.getDeclaredConstructors().length);
        DUE.answer("a public and final class", Modifier.PUBLIC | Modifier.FINAL, () -> SpoonCards.class.getModifiers());
        DUE.text("the package", "", SpoonCards.class.getPackageName());
        Set<String> fields = new TreeSet<>();
        for (Field field : SpoonCards.class.getDeclaredFields()) {
            if (!isHidden(field)) {
                fields.add(Modifier.toString(field.getModifiers()) + " " + field.getType() + " " + field.getName());
            }
        }
        DUE.text("the constants", "[public static final int NONE]", fields.toString());
        DUE.answer("NONE", -1, () -> SpoonCards.NONE);
        for (Class<?> inside : SpoonCards.class.getDeclaredClasses()) {
            int modifiers = inside.getModifiers();
            boolean hidden = !Modifier.isPublic(modifiers) && !Modifier.isProtected(modifiers);
            DUE.text(inside + " is static and not public", "true", "" + (hidden && Modifier.isStatic(modifiers)));
        }
        DUE.end();
    }

    private static boolean isHidden(Member member) {
        return Modifier.isPrivate(member.getModifiers()) || member.isSynthetic();
    }

    private static String told(Method method) {
        StringBuilder told = new StringBuilder(method.getName() + "(");
        for (Class<?> type : method.getParameterTypes()) {
            told.append(told.charAt(told.length() - 1) == '(' ? "" : ",").append(type.getName());
        }
        told.append(')');
        for (Class<?> thrown : method.getExceptionTypes()) {
            told.append(' ').append(thrown.getSimpleName());
        }
        boolean asDue = method.getReturnType() == int.class && method.getModifiers() == Modifier.PUBLIC;
        return asDue ? told.toString() : told + " is no public method that answers an int";
    }
}
