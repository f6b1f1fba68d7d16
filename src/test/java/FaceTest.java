import java.lang.reflect.Constructor;
import java.lang.reflect.Field;
import java.lang.reflect.Method;
import java.lang.reflect.Modifier;
import java.util.Set;
import java.util.TreeSet;

/** The class shows the document's face and nothing else. */
public final class FaceTest {
    private static final Set<String> FACE = new TreeSet<>(Set.of(
            "public static final int LossyHandshake.BAD",
            "public LossyHandshake(int,int)",
            "public boolean LossyHandshake.start()",
            "public int LossyHandshake.tick()",
            "public boolean LossyHandshake.send(int,int)",
            "public int LossyHandshake.deliver(int)",
            "public boolean LossyHandshake.drop(int)",
            "public boolean LossyHandshake.copy(int)",
            "public boolean LossyHandshake.spoil(int)",
            "public int LossyHandshake.waiting()",
            "public int LossyHandshake.lost()",
            "public int LossyHandshake.record(int)",
            "public int LossyHandshake.content(int)",
            "public int LossyHandshake.byteOf(int,int)",
            "public int LossyHandshake.state(int)",
            "public int LossyHandshake.transcript(int)",
            "public int LossyHandshake.open(int)",
            "public int LossyHandshake.kept(int)",
            "public int LossyHandshake.received(int)",
            "public int LossyHandshake.value(int,int)"));

    public static void main(String[] args) {
        Class<?> face = LossyHandshake.class;
        Set<String> shown = new TreeSet<>();
        for (Field f : face.getDeclaredFields()) {
            add(shown, f.getModifiers(), f.isSynthetic(), f.toString());
        }
        for (Constructor<?> c : face.getDeclaredConstructors()) {
            add(shown, c.getModifiers(), c.isSynthetic(), c.toString());
        }
        for (Method m : face.getDeclaredMethods()) {
            add(shown, m.getModifiers(), m.isSynthetic(), m.toString());
        }
        System.out.print(shown.equals(FACE) ? "" : "shown is " + shown + "\n");
        Check.yes("the face", shown.equals(FACE));
        Check.yes("final", Modifier.isFinal(face.getModifiers()));
        Check.yes("public", Modifier.isPublic(face.getModifiers()));
        Check.due("BAD", LossyHandshake.BAD, -1);
        Check.end();
    }

    private static void add(Set<String> shown, int modifiers, boolean synthetic, String text) {
        if (!Modifier.isPrivate(modifiers) && !synthetic) {
            shown.add(text);
        }
    }
}
