import java.lang.reflect.Constructor;
import java.lang.reflect.Field;
import java.lang.reflect.Method;
import java.lang.reflect.Modifier;
import java.util.Arrays;
import java.util.Set;
import java.util.TreeSet;

/** The public face is the document's, whole, and nothing else. */
public final class FaceTest {
    private static final String[] FACE = {
        "int feed(int,int,int,int,int)", "int statutes(int)", "int fault(int)", "int man(int,int)",
        "boolean found(int,int)", "int look(int,int)", "int richest(int)", "int place(int,int)",
        "int begin()", "int pass(int)", "int challenge(int,int)", "boolean answer(int,boolean)",
        "boolean swear(int,boolean)", "int told(int,int)", "int end()", "int part(int)",
        "int gain(int,int)", "int ahead(int)", "int count(int)"};

    public static void main(String[] args) {
        Due due = new Due();
        due.is("modifiers of the class", BurdenCourt.class.getModifiers(), Modifier.PUBLIC | Modifier.FINAL);
        due.is("NONE", BurdenCourt.NONE, -1);
        methods(due);
        fields(due);
        Constructor<?>[] made = BurdenCourt.class.getDeclaredConstructors();
        due.is("constructors", made.length, 1);
        due.is("the constructor is public and bare",
            Modifier.isPublic(made[0].getModifiers()) && made[0].getParameterCount() == 0, true);
        due.finish();
    }

    private static void methods(Due due) {
        Set<String> seen = new TreeSet<>();
        Set<String> open = new TreeSet<>();
        for (Method method : BurdenCourt.class.getDeclaredMethods()) {
            if (Modifier.isPrivate(method.getModifiers())) {
                continue;
            }
            String form = form(method);
            seen.add(form);
            if (method.getModifiers() == Modifier.PUBLIC) {
                open.add(form);
            }
        }
        Set<String> want = new TreeSet<>(Arrays.asList(FACE));
        due.is("the methods that are not private are the face: " + seen, seen.equals(want), true);
        due.is("all of them are plainly public: " + open, open.equals(want), true);
    }

    private static String form(Method method) {
        StringBuilder form = new StringBuilder(method.getReturnType().getName());
        form.append(' ').append(method.getName()).append('(');
        Class<?>[] kinds = method.getParameterTypes();
        for (int i = 0; i < kinds.length; i++) {
            form.append(i == 0 ? "" : ",").append(kinds[i].getName());
        }
        return form.append(')').toString();
    }

    private static void fields(Due due) {
        for (Field field : BurdenCourt.class.getDeclaredFields()) {
            boolean isFace = field.getName().equals("NONE");
            int want = isFace ? Modifier.PUBLIC | Modifier.STATIC | Modifier.FINAL : Modifier.PRIVATE;
            int mask = Modifier.PUBLIC | Modifier.PROTECTED | Modifier.PRIVATE
                | (isFace ? Modifier.STATIC | Modifier.FINAL : 0);
            due.is("modifiers of " + field.getName(), field.getModifiers() & mask, want);
        }
    }
}
