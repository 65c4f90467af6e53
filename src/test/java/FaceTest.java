import java.lang.reflect.Constructor;
import java.lang.reflect.Field;
import java.lang.reflect.Method;
import java.lang.reflect.Modifier;
import java.util.ArrayList;
import java.util.Collections;
import java.util.List;

/** The public face: the constants, and nothing but what the document has. */
final class FaceTest {
    private static final String[] FACE = {
        "public int TwoScribes.bestPace(int)",
        "public int TwoScribes.clearText()",
        "public int TwoScribes.correct(int)",
        "public int TwoScribes.count(int)",
        "public int TwoScribes.doneIn()",
        "public int TwoScribes.keep()",
        "public int TwoScribes.misread(int,int)",
        "public int TwoScribes.next(int)",
        "public int TwoScribes.pass(int)",
        "public int TwoScribes.place(int,int)",
        "public int TwoScribes.pour(int)",
        "public int TwoScribes.readPage()",
        "public int TwoScribes.restore()",
        "public int TwoScribes.scribe(int,int)",
        "public int TwoScribes.set(int,int)",
        "public int TwoScribes.setPace(int,int)",
        "public int TwoScribes.type(char)",
        "public int TwoScribes.undo()",
        "public int TwoScribes.unlikePairs()",
        "public int TwoScribes.unlikeReadings()",
        "public double TwoScribes.ink(int)",
        "public double TwoScribes.needed()",
        "public TwoScribes()",
        "public static final int TwoScribes.BAD_VALUE",
        "public static final int TwoScribes.FULL",
        "public static final int TwoScribes.NONE",
        "public static final int TwoScribes.NOT_POSSIBLE",
        "public static final int TwoScribes.UNKNOWN"
    };

    public static void main(String[] args) {
        Check.due("UNKNOWN", TwoScribes.UNKNOWN, -1);
        Check.due("BAD_VALUE", TwoScribes.BAD_VALUE, -2);
        Check.due("FULL", TwoScribes.FULL, -3);
        Check.due("NOT_POSSIBLE", TwoScribes.NOT_POSSIBLE, -4);
        Check.due("NONE", TwoScribes.NONE, -5);
        Check.due("public and final", TwoScribes.class.getModifiers(), Modifier.PUBLIC | Modifier.FINAL);
        List<String> found = new ArrayList<>();
        for (Method m : TwoScribes.class.getDeclaredMethods()) {
            add(found, m.getModifiers(), m.isSynthetic(), m.toString());
        }
        for (Constructor<?> c : TwoScribes.class.getDeclaredConstructors()) {
            add(found, c.getModifiers(), c.isSynthetic(), c.toString());
        }
        for (Field f : TwoScribes.class.getDeclaredFields()) {
            add(found, f.getModifiers(), f.isSynthetic(), f.toString());
        }
        List<String> due = new ArrayList<>(List.of(FACE));
        Collections.sort(due);
        Collections.sort(found);
        Check.holds("the face is the document's: " + found, due.equals(found));
        noPrivateMethodBearsAPublicName();
        Check.finish();
    }

    private static void add(List<String> found, int modifiers, boolean isSynthetic, String text) {
        if (!Modifier.isPrivate(modifiers) && !isSynthetic) {
            found.add(text.replace("TwoScribes.TwoScribes(", "TwoScribes("));
        }
    }

    private static void noPrivateMethodBearsAPublicName() {
        List<String> names = new ArrayList<>();
        for (Method m : TwoScribes.class.getDeclaredMethods()) {
            if (Modifier.isPublic(m.getModifiers())) {
                names.add(m.getName());
            }
        }
        for (Class<?> inner : TwoScribes.class.getDeclaredClasses()) {
            for (Method m : inner.getDeclaredMethods()) {
                Check.holds(m + " has a name of its own", !names.contains(m.getName()));
            }
        }
        for (Method m : TwoScribes.class.getDeclaredMethods()) {
            if (Modifier.isPrivate(m.getModifiers())) {
                Check.holds(m + " has a name of its own", !names.contains(m.getName()));
            }
        }
    }
}
