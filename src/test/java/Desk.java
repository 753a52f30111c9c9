import java.util.NoSuchElementException;

/** A RealmDesk that is spoken to in whole lines, and the count of answers that were not as due. */
final class Desk {
    static final int ARGUMENT = -101;
    static final int STATE = -102;
    static final int NO_ELEMENT = -103;
    private static final int MOST_CALLS = 512;

    private static int wrong = 0;

    private final RealmDesk desk = new RealmDesk();
    private int calls = 0;

    static void due(String what, long got, long want) {
        if (got != want) {
            wrong++;
            System.out.println(what + " answered " + got + ", due is " + want);
        }
    }

    static void end() {
        if (wrong != 0) {
            System.out.println(wrong + " answers are not as due");
            System.exit(1);
        }
    }

    /** A new desk on which each of the lines was read without an exception. */
    static Desk with(String... lines) {
        Desk made = new Desk();
        for (String text : lines) {
            int got = made.line(text);
            if (got < 1) {
                due("setting up by '" + text + "'", got, 1);
            }
        }
        return made;
    }

    boolean write(char c) {
        called();
        return desk.write(c);
    }

    void type(String text) {
        for (int i = 0; i < text.length(); i++) {
            due("write of '" + text + "' at " + i, write(text.charAt(i)) ? 1 : 0, 1);
        }
    }

    int line() {
        called();
        try {
            return desk.line();
        } catch (IllegalArgumentException e) {
            return ARGUMENT;
        } catch (IllegalStateException e) {
            return STATE;
        }
    }

    int line(String text) {
        type(text);
        return line();
    }

    int look(int realm) {
        called();
        try {
            return desk.look(realm);
        } catch (IllegalArgumentException e) {
            return ARGUMENT;
        } catch (NoSuchElementException e) {
            return NO_ELEMENT;
        }
    }

    int look(int realm, String text) {
        type(text);
        return look(realm);
    }

    int realm(String text) {
        type(text);
        called();
        return desk.realm();
    }

    int many() {
        called();
        return desk.many();
    }

    int asked(int i) {
        called();
        return desk.asked(i);
    }

    int kept(int realm) {
        called();
        return desk.kept(realm);
    }

    int used(int archive) {
        called();
        return desk.used(archive);
    }

    boolean drop(int realm) {
        called();
        return desk.drop(realm);
    }

    int count(int what) {
        called();
        return desk.count(what);
    }

    void dueLine(String text, int want) {
        due("line '" + text + "'", line(text), want);
    }

    void dueLook(int realm, String name, int want) {
        due("look(" + realm + ") for '" + name + "'", look(realm, name), want);
    }

    void dueRealm(String text, int want) {
        due("realm() of '" + text + "'", realm(text), want);
    }

    /** All that the latest look asked, in order, and nothing behind it. */
    void dueAsked(int... want) {
        due("many()", many(), want.length);
        for (int i = 0; i < want.length; i++) {
            due("asked(" + i + ")", asked(i), want[i]);
        }
        due("asked behind the last", asked(want.length), -1);
    }

    void dueKept(int realm, int want) {
        due("kept(" + realm + ")", kept(realm), want);
    }

    void dueUsed(int archive, int want) {
        due("used(" + archive + ")", used(archive), want);
    }

    void dueCount(int what, int want) {
        due("count(" + what + ")", count(what), want);
    }

    void dueDrop(int realm, boolean want) {
        due("drop(" + realm + ")", drop(realm) ? 1 : 0, want ? 1 : 0);
    }

    /** The document leaves free what calls behind the 512th answer, so a test must not lean on them. */
    private void called() {
        calls++;
        if (calls == MOST_CALLS + 1) {
            due("calls of one object in a test", calls, MOST_CALLS);
        }
    }
}
