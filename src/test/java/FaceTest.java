import java.lang.reflect.Constructor;
import java.lang.reflect.Field;
import java.lang.reflect.Member;
import java.lang.reflect.Method;
import java.lang.reflect.Modifier;
import java.util.Arrays;
import java.util.TreeSet;

/** The public face: just the document's members, and nothing else that others can see. */
public final class FaceTest {
    private static final String[] FACE = {
        "public static final int TwinParity.BAD",
        "public static final int TwinParity.FITS",
        "public static final int TwinParity.MANY",
        "public TwinParity()",
        "public int TwinParity.begin(int)",
        "public int TwinParity.put(int,int,int,long)",
        "public int TwinParity.spoil(int,int,int,int)",
        "public int TwinParity.make()",
        "public int TwinParity.get(int,int)",
        "public long TwinParity.word(int,int)",
        "public int TwinParity.lose(int)",
        "public int TwinParity.mend()",
        "public int TwinParity.check()",
        "public int TwinParity.fix()",
        "public int TwinParity.count(int)",
        "public int TwinParity.product(int,int,boolean)",
        "public int TwinParity.power(int)",
    };

    public static void main(String[] args) {
        Due due = new Due("FaceTest");
        TreeSet<String> seen = new TreeSet<>();
        for (Constructor<?> c : TwinParity.class.getDeclaredConstructors()) {
            add(seen, c, c.toString());
        }
        for (Method m : TwinParity.class.getDeclaredMethods()) {
            add(seen, m, m.toString());
        }
        for (Field f : TwinParity.class.getDeclaredFields()) {
            add(seen, f, f.toString());
        }
        TreeSet<String> wanted = new TreeSet<>(Arrays.asList(FACE));
        for (String s : seen) {
            due.is("in the document: " + s, wanted.contains(s) ? 1 : 0, 1);
        }
        for (String s : wanted) {
            due.is("in the class: " + s, seen.contains(s) ? 1 : 0, 1);
        }
        int modifiers = TwinParity.class.getModifiers();
        due.is("public and final", Modifier.isPublic(modifiers) && Modifier.isFinal(modifiers) ? 1 : 0, 1);
        due.is("BAD", TwinParity.BAD, -1);
        due.is("FITS", TwinParity.FITS, -2);
        due.is("MANY", TwinParity.MANY, -3);
        due.finish();
    }

    private static void add(TreeSet<String> seen, Member member, String text) {
        if (!Modifier.isPrivate(member.getModifiers()) && !member.isSynthetic()) {
            seen.add(text);
        }
    }
}
