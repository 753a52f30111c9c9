/** Promises 9 to 11: drop, realm and count. */
public final class RealmTest {
    public static void main(String[] args) {
        dropTwice();
        dropWrongNumbers();
        whatOthersKeptStays();
        wordIsFreeAgain();
        realmByWord();
        realmEmptiesTheLine();
        realmOfNoWord();
        counts();
        Desk.end();
    }

    private static void dropTwice() {
        Desk desk = Desk.with("realm a", "realm b");
        desk.dueDrop(0, true);
        desk.dueDrop(0, false);
        desk.dueKept(0, -1);
        desk.dueKept(1, 0);
        desk.dueLook(0, "x", Desk.ARGUMENT);
        desk.dueDrop(1, true);
        desk.dueDrop(1, false);
        desk.dueCount(2, 0);
    }

    private static void dropWrongNumbers() {
        Desk desk = Desk.with("realm a");
        int[] wrong = {-1, 1, 7, 8, Integer.MAX_VALUE, Integer.MIN_VALUE};
        for (int i : wrong) {
            desk.dueDrop(i, false);
        }
        desk.dueCount(2, 1);
    }

    private static void whatOthersKeptStays() {
        Desk desk = Desk.with("archive l", "name a", "name b", "realm z", "realm p", "load l",
                "realm i", "load l", "realm c", "parent p", "import b from i");
        desk.dueLook(3, "a", 16);
        desk.dueLook(3, "b", 32);
        desk.dueDrop(1, true);
        desk.dueDrop(2, true);
        desk.dueKept(3, 2);
        desk.dueLook(3, "a", 16);
        desk.dueAsked();
        desk.dueLook(3, "b", 32);
        desk.dueAsked();
    }

    private static void wordIsFreeAgain() {
        Desk desk = Desk.with("archive l", "name a", "realm r", "load l");
        desk.dueLook(0, "a", 0);
        desk.dueDrop(0, true);
        desk.dueRealm("r", -1);
        desk.dueLine("realm r", 3);
        desk.dueRealm("r", 1);
        desk.dueKept(0, -1);
        desk.dueKept(1, 0);
        desk.dueLook(1, "a", Desk.NO_ELEMENT);
        desk.dueDrop(0, false);
        desk.dueDrop(1, true);
        desk.dueRealm("r", -1);
    }

    private static void realmByWord() {
        Desk desk = Desk.with("archive x", "realm a", "realm ab", "realm abc", "realm abcd");
        desk.dueRealm("a", 0);
        desk.dueRealm("ab", 1);
        desk.dueRealm("abc", 2);
        desk.dueRealm("abcd", 3);
        desk.dueRealm("b", -1);
        desk.dueRealm("x", -1);
        desk.dueDrop(1, true);
        desk.dueRealm("ab", -1);
        desk.dueRealm("abc", 2);
    }

    private static void realmEmptiesTheLine() {
        Desk desk = Desk.with("realm a");
        desk.dueRealm("a", 0);
        Desk.due("behind a realm's word", desk.line(), 0);
        desk.dueRealm("b", -1);
        Desk.due("behind a word of none", desk.line(), 0);
        desk.dueRealm("self", -1);
        Desk.due("behind a line that is no word", desk.line(), 0);
    }

    private static void realmOfNoWord() {
        Desk desk = Desk.with("realm a");
        String[] none = {"", " ", " a", "a ", "a a", "a.a", "A", "abcde", "realm a"};
        for (String text : none) {
            desk.dueRealm(text, -1);
        }
    }

    private static void counts() {
        Desk desk = Desk.with("archive a", "archive b", "name x", "realm a", "realm b", "realm c");
        desk.dueCount(0, 2);
        desk.dueCount(1, 3);
        desk.dueCount(2, 3);
        desk.dueDrop(1, true);
        desk.dueCount(0, 2);
        desk.dueCount(1, 3);
        desk.dueCount(2, 2);
        int[] others = {-1, 3, Integer.MAX_VALUE, Integer.MIN_VALUE};
        for (int what : others) {
            desk.dueCount(what, -1);
        }
        desk.dueLine("realm b", 3);
        desk.dueCount(1, 4);
        desk.dueCount(2, 3);
    }
}
