import java.lang.reflect.Constructor;
import java.lang.reflect.Executable;
import java.lang.reflect.Field;
import java.lang.reflect.Method;
import java.lang.reflect.Modifier;
import java.util.Set;
import java.util.TreeSet;

/** The public face: each member as the document writes it, and none besides that is not private. */
public final class FaceTest {
    private static final String[] FACE = {
        "public static final int NONE",
        "public GlassLabels()",
        "public int setPrice(int,int) throws IndexOutOfBoundsException, IllegalArgumentException",
        "public int price(int) throws IndexOutOfBoundsException",
        "public int hang(int) throws IndexOutOfBoundsException, IllegalStateException",
        "public boolean carry(int,int) throws IndexOutOfBoundsException, IllegalStateException",
        "public int charge(int) throws IndexOutOfBoundsException",
        "public int loseSendings(int,int) throws IndexOutOfBoundsException, IllegalArgumentException",
        "public int loseAnswers(int,int) throws IndexOutOfBoundsException, IllegalArgumentException",
        "public int pass(int) throws IllegalArgumentException, IllegalStateException",
        "public int time()",
        "public int order(int) throws IndexOutOfBoundsException",
        "public int orders()",
        "public int nextToSend()",
        "public int shown(int) throws IndexOutOfBoundsException",
        "public int ghosts(int) throws IndexOutOfBoundsException",
        "public int battery(int) throws IndexOutOfBoundsException",
        "public int lies()",
        "public int asked(int) throws IndexOutOfBoundsException",
        "public int leastEver(int) throws IndexOutOfBoundsException",
    };

    public static void main(String[] args) {
        Set<String> due = new TreeSet<>(Set.of(FACE));
        Set<String> there = new TreeSet<>();
        Set<String> ownNames = new TreeSet<>();
        Class<?> shop = GlassLabels.class;
        for (Field field : shop.getDeclaredFields()) {
            if (!Modifier.isPrivate(field.getModifiers())) {
                there.add(Modifier.toString(field.getModifiers()) + " " + field.getType() + " " + field.getName());
            }
        }
        for (Constructor<?> made : shop.getDeclaredConstructors()) {
            there.add(written("GlassLabels", made));
        }
        for (Method call : shop.getDeclaredMethods()) {
            if (!Modifier.isPrivate(call.getModifiers())) {
                there.add(written(call.getReturnType() + " " + call.getName(), call));
            } else {
                ownNames.add(call.getName());
            }
        }
        for (String member : due) {
            Check.due("'" + member + "' is there", there.contains(member), true);
        }
        for (String member : there) {
            Check.due("'" + member + "' is of the face", due.contains(member), true);
        }
        for (Method call : shop.getDeclaredMethods()) {
            if (Modifier.isPublic(call.getModifiers())) {
                Check.due("a private method is called " + call.getName(), ownNames.contains(call.getName()), false);
            }
        }
        Check.due("the class is public and final", shop.getModifiers(), Modifier.PUBLIC | Modifier.FINAL);
        Check.due("NONE", GlassLabels.NONE, -1);
        Check.end();
    }

    private static String written(String name, Executable made) {
        StringBuilder text = new StringBuilder(Modifier.toString(made.getModifiers())).append(' ').append(name).append('(');
        String between = "";
        for (Class<?> type : made.getParameterTypes()) {
            text.append(between).append(type);
            between = ",";
        }
        text.append(')');
        between = " throws ";
        for (Class<?> type : made.getExceptionTypes()) {
            text.append(between).append(type.getSimpleName());
            between = ", ";
        }
        return text.toString();
    }
}
