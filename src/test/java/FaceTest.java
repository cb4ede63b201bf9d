import java.lang.reflect.Constructor;
import java.lang.reflect.Field;
import java.lang.reflect.Member;
import java.lang.reflect.Method;
import java.lang.reflect.Modifier;
import java.util.Arrays;
import java.util.Set;
import java.util.TreeSet;

/** The class shows the document's face and nothing beside it (rule 1 of LANGUAGE.md). */
public final class FaceTest {
    private static final Set<String> FACE = new TreeSet<>(Arrays.asList(
            "public static final int HarbourText.NONE",
            "public HarbourText()",
            "public boolean HarbourText.sign(int)",
            "public int HarbourText.read() throws java.lang.IllegalStateException",
            "public int HarbourText.failure(int)",
            "public int HarbourText.piece(int,int) throws java.lang.IndexOutOfBoundsException",
            "public int HarbourText.find(int,int)",
            "public int HarbourText.reach(int,int,int) throws java.lang.IllegalArgumentException",
            "public int HarbourText.deep(int,int) throws java.lang.IllegalArgumentException",
            "public int HarbourText.bad()",
            "public int HarbourText.unjoined(int)",
            "public int HarbourText.print()",
            "public int HarbourText.at(int) throws java.lang.IndexOutOfBoundsException",
            "public int HarbourText.keep()",
            "public int HarbourText.compare()",
            "public int HarbourText.count(int)"));

    public static void main(String[] args) {
        Set<String> seen = new TreeSet<>();
        Set<String> publicNames = new TreeSet<>();
        Set<String> privateNames = new TreeSet<>();
        for (Field field : HarbourText.class.getDeclaredFields()) {
            addVisible(field, field.toString(), seen);
        }
        for (Constructor<?> constructor : HarbourText.class.getDeclaredConstructors()) {
            addVisible(constructor, constructor.toString(), seen);
        }
        for (Method method : HarbourText.class.getDeclaredMethods()) {
            addVisible(method, method.toString(), seen);
            (Modifier.isPrivate(method.getModifiers()) ? privateNames : publicNames).add(method.getName());
        }
        privateNames.retainAll(publicNames);
        boolean isFinal = Modifier.isFinal(HarbourText.class.getModifiers());
        boolean right = seen.equals(FACE) && privateNames.isEmpty() && isFinal;
        System.out.println(right ? "the face is the document's"
                : "the face is " + seen + ", private under a public name " + privateNames + ", final " + isFinal);
        if (!right) {
            System.exit(1);
        }
    }

    private static void addVisible(Member member, String text, Set<String> seen) {
        if (!Modifier.isPrivate(member.getModifiers()) && !member.isSynthetic()) {
            seen.add(text);
        }
    }
}
