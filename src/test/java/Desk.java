import java.lang.reflect.Field;
import java.util.List;
import java.util.NoSuchElementException;
import java.util.function.IntSupplier;

/** A RealmDesk that is spoken to in whole lines, and the count of answers that were not as due. */
final class Desk {
    static final int ARGUMENT = -101;
    static final int STATE = -102;
    static final int NO_ELEMENT = -103;
    /** An exception that the document does not know: it is due nowhere. */
    static final int OTHER = -104;
    private static final int MOST_CALLS = 512;

    private static int wrong = 0;
    private static String sentence = "";

    private final RealmDesk desk = new RealmDesk();
    private int calls = 0;

    /** The document's sentence that the next answers are about; it is told with each that is wrong. */
    static void about(String words) {
        sentence = "[" + words + "] ";
    }

    static void due(String what, long got, long want) {
        if (got != want) {
            wrong++;
            System.out.println(sentence + what + " answered " + got + ", due is " + want);
        }
    }

    static void end() {
        if (wrong != 0) {
            System.out.println(wrong + " answers are not as due");
            System.exit(1);
        }
    }

    /** A new desk on which each of the lines was read without an exception. */
    static Desk with(String... lines) {
        Desk made = new Desk();
        for (String text : lines) {
            int got = made.line(text);
            if (got < 1) {
                due("setting up by '" + text + "'", got, 1);
            }
        }
        return made;
    }

    int write(char c) {
        return answer(() -> desk.write(c) ? 1 : 0);
    }

    void type(String text) {
        for (int i = 0; i < text.length(); i++) {
            due("write of '" + text + "' at " + i, write(text.charAt(i)), 1);
        }
    }

    int line() {
        return answer(desk::line);
    }

    int line(String text) {
        type(text);
        return line();
    }

    int look(int realm) {
        return answer(() -> desk.look(realm));
    }

    int look(int realm, String text) {
        type(text);
        return look(realm);
    }

    int realm(String text) {
        type(text);
        return answer(desk::realm);
    }

    int many() {
        return answer(desk::many);
    }

    int asked(int i) {
        return answer(() -> desk.asked(i));
    }

    int kept(int realm) {
        return answer(() -> desk.kept(realm));
    }

    int used(int archive) {
        return answer(() -> desk.used(archive));
    }

    int drop(int realm) {
        return answer(() -> desk.drop(realm) ? 1 : 0);
    }

    int count(int what) {
        return answer(() -> desk.count(what));
    }

    /** Sets a parent from outside, past the lines: these can't make a ring, since a parent is older than its child. */
    void forceParent(int child, int parent) {
        try {
            Field field = RealmDesk.class.getDeclaredField("realms");
            field.setAccessible(true);
            List<?> realms = (List<?>) field.get(desk);
            Field parentField = realms.get(child).getClass().getDeclaredField("parent");
            parentField.setAccessible(true);
            parentField.set(realms.get(child), realms.get(parent));
        } catch (ReflectiveOperationException e) {
            due("making a ring of realms: " + e, OTHER, 0);
        }
    }

    void dueLine(String text, int want) {
        due("line '" + text + "'", line(text), want);
    }

    void dueLines(int want, String... texts) {
        for (String text : texts) {
            dueLine(text, want);
        }
    }

    /** Nothing of what was written is left: an empty line has no parts. */
    void dueEmpty(String behind) {
        due("line() behind " + behind, line(), 0);
    }

    void dueWrite(int c, boolean want) {
        due("write(" + c + ")", write((char) c), want ? 1 : 0);
    }

    void dueLook(int realm, String name, int want) {
        due("look(" + realm + ") for '" + name + "'", look(realm, name), want);
    }

    void dueRealm(String text, int want) {
        due("realm() of '" + text + "'", realm(text), want);
    }

    /** All that the latest look asked, in order, and nothing behind it. */
    void dueAsked(int... want) {
        due("many()", many(), want.length);
        for (int i = 0; i < want.length; i++) {
            due("asked(" + i + ")", asked(i), want[i]);
        }
        due("asked behind the last", asked(want.length), -1);
    }

    void dueAskedAt(int i, int want) {
        due("asked(" + i + ")", asked(i), want);
    }

    void dueMany(int want) {
        due("many()", many(), want);
    }

    void dueKept(int realm, int want) {
        due("kept(" + realm + ")", kept(realm), want);
    }

    void dueUsed(int archive, int want) {
        due("used(" + archive + ")", used(archive), want);
    }

    void dueCount(int what, int want) {
        due("count(" + what + ")", count(what), want);
    }

    void dueDrop(int realm, boolean want) {
        due("drop(" + realm + ")", drop(realm), want ? 1 : 0);
    }

    int calls() {
        return calls;
    }

    /** The answer of a call, or the number of what it throws. */
    private int answer(IntSupplier call) {
        called();
        try {
            return call.getAsInt();
        } catch (RuntimeException e) {
            return numberOf(e.getClass());
        }
    }

    private static int numberOf(Class<?> thrown) {
        return thrown == IllegalArgumentException.class ? ARGUMENT
                : thrown == IllegalStateException.class ? STATE
                : thrown == NoSuchElementException.class ? NO_ELEMENT : OTHER;
    }

    /** The document leaves free what calls behind the 512th answer, so a test must not lean on them. */
    private void called() {
        calls++;
        if (calls == MOST_CALLS + 1) {
            due("calls of one object in a test", calls, MOST_CALLS);
        }
    }
}
