import java.lang.reflect.Constructor;
import java.lang.reflect.Field;
import java.lang.reflect.Method;
import java.lang.reflect.Modifier;
import java.util.Arrays;
import java.util.TreeSet;

/** The class bears the document's face and nothing else that can be seen. */
public final class FaceTest {
    private static final String[] FACE = {
        "int state(int)", "boolean set(int,int)", "boolean town(int,int,int)", "boolean buy(int,int,int)",
        "boolean dig(int,int,int)", "int feed(int,int,int,int,int)", "boolean end(int)", "int text(int)",
        "int fault(int)", "int days(int)", "int node(int,int)", "int fork(int,int)", "int of(int,int)",
        "int votes(int,int,int)", "int came(int,int)", "int book(int,int)", "int later(int,int,int)",
        "int ends(int)", "int thirst(int)", "int power(int,int)", "int fewest(int,int)", "int least(int,int)",
        "int best(int)", "int most(int)", "int mud(int,int)", "int twice(int)", "int rows(int,int,int,int)",
        "boolean undo()", "boolean image(boolean)", "int look(int)"};

    public static void main(String[] args) {
        TreeSet<String> wanted = new TreeSet<>(Arrays.asList(FACE));
        TreeSet<String> names = new TreeSet<>();
        TreeSet<String> seen = new TreeSet<>();
        for (Method method : VotedRiver.class.getDeclaredMethods()) {
            if (Modifier.isPublic(method.getModifiers())) {
                seen.add(asText(method));
                names.add(method.getName());
            }
        }
        Check.due("the public methods", wanted.equals(seen), true);
        for (Method method : VotedRiver.class.getDeclaredMethods()) {
            int modifiers = method.getModifiers();
            boolean hidden = Modifier.isPrivate(modifiers) && !names.contains(method.getName());
            if (!method.isSynthetic()) {
                Check.due(method.getName() + " is of the face or hidden", Modifier.isPublic(modifiers) || hidden, true);
            }
        }
        for (Field field : VotedRiver.class.getDeclaredFields()) {
            boolean none = field.getName().equals("NONE");
            Check.due(field.getName() + " is private", Modifier.isPrivate(field.getModifiers()), !none);
        }
        Constructor<?>[] constructors = VotedRiver.class.getConstructors();
        Check.due("constructors", constructors.length, 1);
        Check.due("the class is final", Modifier.isFinal(VotedRiver.class.getModifiers()), true);
        Check.due("NONE", VotedRiver.NONE, -1);
        Check.finish();
    }

    private static String asText(Method method) {
        StringBuilder text = new StringBuilder(method.getReturnType().getName());
        text.append(' ').append(method.getName()).append('(');
        for (Class<?> part : method.getParameterTypes()) {
            text.append(text.charAt(text.length() - 1) == '(' ? "" : ",").append(part.getName());
        }
        return text.append(')').toString();
    }
}
