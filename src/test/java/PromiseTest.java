/** The promises 1 to 11: a test for each sentence, or part of one, that names a boundary. */
public final class PromiseTest {
    private static final int ARGUMENT = Desk.ARGUMENT;
    private static final int STATE = Desk.STATE;
    private static final int NO_ELEMENT = Desk.NO_ELEMENT;
    private static final int[] FAR = {Integer.MIN_VALUE, -256, -16, -2, -1, 8, 16, 20, 255, 256, 65536, Integer.MAX_VALUE};

    public static void main(String[] args) {
        newObject();
        writeCharacters();
        writeThirty();
        writeRefusedChangesNothing();
        lineIsEmptyThen();
        lineWithoutParts();
        lineAnswers();
        lineIsNone();
        wordNotThere();
        wordThereAlready();
        nameOrArchiveThereAlready();
        aboutTheRealmItself();
        noRoom();
        noArchiveYet();
        noRealmYet();
        latestRealmWent();
        noneBeforeNoRoom();
        noneBeforeNoArchiveOrRealm();
        noneBeforeRealmWent();
        refusedLinesChangeNothing();
        lookEmptiesTheLine();
        lookAnswers();
        lookInNoRealm();
        lookInOneThatWent();
        lookForNoName();
        lookForNameWithBlanks();
        notFound();
        manyOfLatestLook();
        manyEachTime();
        manyZero();
        askedNone();
        askedTwenty();
        kept();
        keptNone();
        used();
        usedNone();
        drop();
        dropNone();
        whatOthersKept();
        realmEmptiesTheLine();
        realmNone();
        realmNoWord();
        count();
        countOthers();
        Desk.end();
    }

    private static void newObject() {
        Desk.about("Promise 1: No archives, no realms.");
        Desk desk = new Desk();
        desk.dueCount(0, 0);
        desk.dueCount(1, 0);
        desk.dueCount(2, 0);
        desk.dueUsed(0, -1);
        desk.dueKept(0, -1);
        desk.dueDrop(0, false);
        desk.dueAsked();
        desk.dueEmpty("nothing");
        desk.dueRealm("a", -1);
        desk.dueLook(0, "a", ARGUMENT);
        desk.dueLine("name a", STATE);
        desk.dueLine("self", STATE);
        desk.dueLine("load a", ARGUMENT);
    }

    private static void writeCharacters() {
        Desk.about("Promise 2: Appends a character (32 .. 126) to the line that is written: true; false when .. it is none such");
        for (int c = 0; c < 400; c++) {
            new Desk().dueWrite(c, c >= 32 && c <= 126);
        }
        for (int c : new int[] {256 + 'a', 512 + ' ', 0x7fff, 0x8000, 0x8000 + 'a', 0xff00 + 'a', 0xffff}) {
            new Desk().dueWrite(c, false);
        }
    }

    private static void writeThirty() {
        Desk.about("Promise 2: false when there are 30");
        Desk desk = new Desk();
        for (int i = 0; i < 30; i++) {
            desk.dueWrite('a', true);
        }
        desk.dueWrite('a', false);
        desk.dueWrite(' ', false);
        desk.dueWrite('\n', false);
        Desk.due("line() of 30 letters", desk.line(), ARGUMENT);
        desk.type("archive a" + " ".repeat(21));
        desk.dueWrite(' ', false);
        Desk.due("line() of 30", desk.line(), 1);
        desk.dueWrite('a', true);
    }

    private static void writeRefusedChangesNothing() {
        Desk.about("Promise 2: false when there are 30, or it is none such");
        Desk desk = new Desk();
        desk.type("realm");
        desk.dueWrite(9, false);
        desk.dueWrite(160, false);
        desk.dueWrite(' ', true);
        desk.dueWrite('a', true);
        desk.dueWrite(31, false);
        desk.dueWrite(127, false);
        desk.type("b" + " ".repeat(22));
        desk.dueWrite('c', false);
        Desk.due("line()", desk.line(), 3);
        desk.dueRealm("ab", 0);
    }

    private static void lineIsEmptyThen() {
        Desk.about("Promise 3: The line is read (it is empty then in any case)");
        Desk desk = new Desk();
        desk.dueLine("   ", 0);
        desk.dueEmpty("no parts");
        desk.dueLine("archive a", 1);
        desk.dueEmpty("an archive");
        desk.dueLine("name a", 2);
        desk.dueEmpty("a name");
        desk.dueLine("self", STATE);
        desk.dueEmpty("no realm yet");
        desk.dueLine("realm a", 3);
        desk.dueEmpty("a realm");
        desk.dueLine("load a", 4);
        desk.dueEmpty("an archive of a realm");
        desk.dueLine("load a", ARGUMENT);
        desk.dueEmpty("one that is none");
        desk.dueLine("a a a a a a a a a a a a a a a", ARGUMENT);
        desk.dueEmpty("many parts");
        desk.dueLine("realm b", 3);
    }

    private static void lineWithoutParts() {
        Desk.about("Promise 3: 0 it has no parts");
        Desk desk = new Desk();
        desk.dueEmpty("nothing");
        for (int blanks = 1; blanks <= 30; blanks += 1 + blanks / 2) {
            desk.dueLine(" ".repeat(blanks), 0);
        }
        desk.dueLine(" ".repeat(30), 0);
        desk.dueLine(" . ", ARGUMENT);
    }

    private static void lineAnswers() {
        Desk.about("Promise 3: 1 an archive, 2 a name, 3 a realm, 4 something about the latest realm");
        Desk desk = new Desk();
        desk.dueLine("archive a", 1);
        desk.dueLine("name a", 2);
        desk.dueLines(3, "realm a", "realm b");
        desk.dueLines(4, "load a", "import a from a", "parent a", "self", "first");
    }

    private static void lineIsNone() {
        Desk.about("Promise 3: IllegalArgumentException when it is none");
        Desk desk = Desk.with("archive a", "archive b", "realm a", "realm b");
        desk.dueLines(ARGUMENT, "a", "archive", "name", "realm", "load", "import", "from", "parent");
        desk.dueLines(ARGUMENT, "archive c d", "name c d", "realm c d", "load a b", "parent a a", "self self", "first a");
        desk.dueLines(ARGUMENT, "import a", "import a from", "import a a", "import from a", "import a form a",
                "import a from a a", "import a b from a", "from a import a");
        desk.dueLines(ARGUMENT, "Archive c", "archives c", "archiv c", "names c", "loads a", "parents a", "imports a from a");
        desk.dueCount(0, 2);
        desk.dueCount(1, 2);
    }

    private static void wordNotThere() {
        Desk.about("Promise 3: a word that is not there");
        Desk desk = Desk.with("archive a", "realm r", "realm s");
        desk.dueLines(ARGUMENT, "load b", "load r", "load aa", "load A", "load abcde");
        desk.dueLines(ARGUMENT, "import a from b", "import a from a", "import a from rr", "import a from R");
        desk.dueLines(ARGUMENT, "parent b", "parent a", "parent rr", "parent R", "parent abcde");
        desk.dueLook(1, "a", NO_ELEMENT);
        desk.dueAsked(1);
        desk.dueLines(4, "load a", "import a from r", "parent r");
        desk.dueDrop(0, true);
        desk.dueLines(ARGUMENT, "import a from r", "parent r");
    }

    private static void wordThereAlready() {
        Desk.about("Promise 3: or is there already for a new archive or realm");
        Desk desk = Desk.with("archive a", "archive b", "realm r", "realm s");
        desk.dueLines(ARGUMENT, "archive a", "archive b", "realm r", "realm s");
        desk.dueLines(1, "archive r", "archive aa");
        desk.dueLines(3, "realm a", "realm rr");
        desk.dueCount(0, 4);
        desk.dueCount(1, 4);
    }

    private static void nameOrArchiveThereAlready() {
        Desk.about("Promise 3: a name or archive that is there already");
        Desk desk = Desk.with("archive a", "name x", "name x.y");
        desk.dueLines(ARGUMENT, "name x", "name x.y");
        desk.dueLines(2, "name y", "name x.y.z");
        desk.dueLine("archive b", 1);
        desk.dueLines(2, "name x", "name x.y");
        desk.dueLines(ARGUMENT, "name x");
        desk.dueLines(3, "realm r");
        desk.dueLines(4, "load a", "load b");
        desk.dueLines(ARGUMENT, "load a", "load b");
        desk.dueLines(3, "realm s");
        desk.dueLines(4, "load b");
        desk.dueLines(ARGUMENT, "load b");
    }

    private static void aboutTheRealmItself() {
        Desk.about("Promise 3: an import from the realm itself, or it as its own parent");
        Desk desk = Desk.with("realm r");
        desk.dueLines(ARGUMENT, "import a from r", "parent r");
        desk.dueLine("realm s", 3);
        desk.dueLines(ARGUMENT, "import a from s", "parent s");
        desk.dueLines(4, "import a from r", "parent r");
        desk.dueLook(0, "a", NO_ELEMENT);
        desk.dueAsked(0);
        desk.dueLook(1, "a", NO_ELEMENT);
        desk.dueAsked(1, 0, 0);
    }

    private static void noRoom() {
        Desk.about("Promise 3: IllegalStateException when it is one, but there is no room");
        Desk desk = Desk.with("archive a", "archive b", "archive c", "archive d", "archive e", "archive f");
        desk.dueLines(STATE, "archive g", "archive h");
        desk.dueLines(2, "name a", "name b", "name c", "name d", "name e", "name f");
        desk.dueLines(STATE, "name g", "name a.a");
        desk.dueLines(3, "realm r");
        desk.dueLines(4, "load a", "load b", "load c", "load d");
        desk.dueLines(STATE, "load e", "load f");
        desk.dueLines(3, "realm s");
        desk.dueLines(4, "import a from r", "import a from r", "import a from r", "import a from r");
        desk.dueLines(STATE, "import a from r", "import b from r");
        desk.dueLines(4, "parent r", "first", "load e");
        desk.dueLines(3, "realm a", "realm b", "realm c", "realm d", "realm e", "realm f");
        desk.dueLines(STATE, "realm g", "realm h");
        desk.dueCount(0, 6);
        desk.dueCount(1, 8);
    }

    private static void noArchiveYet() {
        Desk.about("Promise 3: IllegalStateException when it is one, but there is .. no archive .. yet");
        Desk desk = new Desk();
        desk.dueLines(STATE, "name a", "name a.b.c");
        desk.dueLine("realm r", 3);
        desk.dueLine("name a", STATE);
        desk.dueLine("archive l", 1);
        desk.dueLine("name a", 2);
    }

    private static void noRealmYet() {
        Desk.about("Promise 3: IllegalStateException when it is one, but there is .. no realm yet");
        Desk desk = Desk.with("archive l");
        desk.dueLines(STATE, "load l", "self", "first");
        desk.dueLines(ARGUMENT, "parent r", "import a from r");
        desk.dueLine("realm r", 3);
        desk.dueLines(4, "load l", "self", "first");
    }

    private static void latestRealmWent() {
        Desk.about("Promise 3: IllegalStateException when it is one, but .. the latest realm went");
        Desk desk = Desk.with("archive l", "name a", "archive m", "realm r", "load l", "realm s", "realm t", "load m");
        desk.dueDrop(1, true);
        desk.dueLines(4, "load l", "import a from r", "parent r", "self", "first");
        desk.dueDrop(2, true);
        desk.dueLine("archive n", 1);
        desk.dueLines(STATE, "load n", "import a from r", "parent r", "self", "first");
        desk.dueLook(0, "a", 0);
        desk.dueLine("name b", 2);
        desk.dueLine("realm t", 3);
        desk.dueLines(4, "load l", "import a from r", "parent r", "self", "first");
    }

    private static void noneBeforeNoRoom() {
        Desk.about("Promise 3: IllegalStateException when it is one, but there is no room");
        Desk desk = Desk.with("archive a", "archive b", "archive c", "archive d", "archive e", "archive f",
                "name a", "name b", "name c", "name d", "name e", "name f");
        desk.dueLines(ARGUMENT, "archive c", "archive abcde", "name f", "name a.", "archive");
        desk.dueLines(3, "realm r", "realm s");
        desk.dueLines(4, "load a", "load b", "load c", "load d");
        desk.dueLines(ARGUMENT, "load a", "load d", "load g", "load r");
        desk.dueLines(4, "import a from r", "import b from r", "import c from r", "import d from r");
        desk.dueLines(ARGUMENT, "import a from s", "import a from x", "import A from r");
        desk = Desk.with("realm a", "realm b", "realm c", "realm d", "realm e", "realm f", "realm g", "realm h");
        desk.dueLines(ARGUMENT, "realm a", "realm h", "realm abcde", "realm");
        desk.dueDrop(0, true);
        desk.dueLine("realm a", STATE);
    }

    private static void noneBeforeNoArchiveOrRealm() {
        Desk.about("Promise 3: IllegalStateException when it is one, but there is .. no archive or no realm yet");
        Desk desk = new Desk();
        desk.dueLines(ARGUMENT, "name a..b", "name", "name A");
        desk.dueLines(ARGUMENT, "load l", "parent r", "import a from r", "import A from r", "selfs");
        desk.dueLine("archive l", 1);
        desk.dueLines(ARGUMENT, "load m", "load L", "self first");
    }

    private static void noneBeforeRealmWent() {
        Desk.about("Promise 3: IllegalStateException when it is one, but .. the latest realm went");
        Desk desk = Desk.with("archive l", "archive m", "realm r", "realm s", "load l");
        desk.dueDrop(1, true);
        desk.dueLine("load m", STATE);
        desk.dueLines(ARGUMENT, "load l", "load n", "load s");
        desk.dueLines(ARGUMENT, "import a from s", "import a from x", "import a. from r");
        desk.dueLines(ARGUMENT, "parent s", "parent x", "self self", "firs");
    }

    private static void refusedLinesChangeNothing() {
        Desk.about("Promise 3: IllegalArgumentException when it is none .. IllegalStateException when it is one, but");
        Desk desk = Desk.with("archive l", "name a", "realm p", "load l", "realm x", "realm c", "load l", "parent p", "first");
        desk.dueLines(ARGUMENT, "archive l", "name a", "realm p", "load l", "load m", "parent c", "parent z",
                "import a from c", "import a from z", "import A from x", "selfs", "self first", "parent x x", "load l l");
        desk.dueLook(2, "b", NO_ELEMENT);
        desk.dueAsked(2, 0);
        desk.dueDrop(1, true);
        desk.dueDrop(2, true);
        desk.dueLine("realm d", 3);
        desk.dueDrop(3, true);
        desk.dueLines(STATE, "import a from p", "parent p");
        desk.dueLine("realm e", 3);
        desk.dueLook(4, "a", NO_ELEMENT);
        desk.dueAsked(4);
        desk.dueCount(0, 1);
        desk.dueCount(1, 5);
        desk.dueCount(2, 2);
    }

    private static void lookEmptiesTheLine() {
        Desk.about("Promise 4: The line is a name (it is empty then in any case)");
        Desk desk = Desk.with("archive l", "name a", "realm r", "load l", "realm s");
        desk.dueLook(0, "a", 0);
        desk.dueEmpty("what was found");
        desk.dueLook(0, "a", 0);
        desk.dueEmpty("what was kept");
        desk.dueLook(0, "b", NO_ELEMENT);
        desk.dueEmpty("what was not found");
        desk.dueLook(0, "a b", ARGUMENT);
        desk.dueEmpty("no name");
        desk.dueLook(-1, "a", ARGUMENT);
        desk.dueEmpty("no such realm");
        desk.dueLook(8, "a", ARGUMENT);
        desk.dueEmpty("no such realm");
        desk.dueDrop(1, true);
        desk.dueLook(1, "a", ARGUMENT);
        desk.dueEmpty("a realm that went");
    }

    private static void lookAnswers() {
        Desk.about("Promise 4: 16 * the realm that has it itself + the archive");
        Desk desk = Desk.with("archive a", "name a", "archive b", "archive c", "archive d", "archive e", "archive f", "name b",
                "realm a", "load a", "load f", "realm b", "realm c", "realm d", "realm e", "realm f", "realm g",
                "realm h", "load f", "load a");
        desk.dueLook(0, "a", 0);
        desk.dueLook(0, "b", 5);
        desk.dueLook(7, "a", 112);
        desk.dueLook(7, "b", 117);
    }

    private static void lookInNoRealm() {
        Desk.about("Promise 4: IllegalArgumentException when there is no such realm");
        Desk desk = Desk.with("archive l", "name a", "realm r", "load l", "realm s", "load l");
        desk.dueLook(2, "a", ARGUMENT);
        for (int realm : FAR) {
            desk.dueLook(realm, "a", ARGUMENT);
        }
        desk.dueMany(0);
        desk.dueUsed(0, 0);
        desk.dueLook(1, "a", 16);
    }

    private static void lookInOneThatWent() {
        Desk.about("Promise 4: IllegalArgumentException when .. it went");
        Desk desk = Desk.with("archive l", "name a", "name b", "realm r", "load l", "realm s", "load l");
        desk.dueLook(1, "a", 16);
        desk.dueDrop(1, true);
        desk.dueLook(1, "a", ARGUMENT);
        desk.dueLook(1, "b", ARGUMENT);
        desk.dueLook(1, "c", ARGUMENT);
        desk.dueLook(0, "a", 0);
    }

    private static void lookForNoName() {
        Desk.about("Promise 4: IllegalArgumentException when .. the line is no name");
        Desk desk = Desk.with("archive l", "name a", "name b", "realm r", "load l");
        for (String text : new String[] {"", " ", "a b", "name a", ".", "a.", ".a", "a..b", "a.b.c.d", "abcde", "A", "a1", "a,b"}) {
            desk.dueLook(0, text, ARGUMENT);
        }
        desk.dueLook(0, "abcd.abcd.abcd.abcd.abcd.abcd", ARGUMENT);
        desk.dueMany(0);
        desk.dueKept(0, 0);
        desk.dueLook(0, "a", 0);
    }

    /** Blanks stand between the parts of a line, but a name has none: with one, the line is no name. */
    private static void lookForNameWithBlanks() {
        Desk.about("Promise 4: IllegalArgumentException when .. the line is no name");
        Desk desk = Desk.with("archive l", "name a", "realm r", "load l");
        for (String text : new String[] {" a", "a ", " a ", "a. b", "a .b"}) {
            desk.dueLook(0, text, ARGUMENT);
        }
        desk.dueKept(0, 0);
    }

    private static void notFound() {
        Desk.about("Promise 4: NoSuchElementException when it is not found");
        Desk desk = Desk.with("realm e", "archive l", "name a.b", "realm r", "load l");
        desk.dueLook(0, "a.b", NO_ELEMENT);
        desk.dueLook(1, "a", NO_ELEMENT);
        desk.dueLook(1, "b", NO_ELEMENT);
        desk.dueLook(1, "a.b.c", NO_ELEMENT);
        desk.dueLook(1, "a.bb", NO_ELEMENT);
        desk.dueLook(1, "aa.b", NO_ELEMENT);
        desk.dueLook(1, "a.b", 16);
    }

    private static void manyOfLatestLook() {
        Desk.about("Promise 5: the latest look that did not throw IllegalArgumentException");
        Desk desk = Desk.with("archive l", "name a", "realm p", "load l", "realm c", "parent p");
        desk.dueLook(1, "b", NO_ELEMENT);
        desk.dueAsked(1, 0);
        desk.dueLook(1, "b b", ARGUMENT);
        desk.dueAsked(1, 0);
        desk.dueLook(2, "a", ARGUMENT);
        desk.dueAsked(1, 0);
        desk.dueLine("realm x", 3);
        desk.dueDrop(2, true);
        desk.dueLook(2, "a", ARGUMENT);
        desk.dueRealm("p", 0);
        desk.dueAsked(1, 0);
        desk.dueLook(0, "b", NO_ELEMENT);
        desk.dueAsked(0);
        desk.dueLook(1, "a", 0);
        desk.dueAsked(1, 0);
    }

    private static void manyEachTime() {
        Desk.about("Promise 5: each time that one was asked counts; an import's realm counts, too");
        Desk desk = Desk.with("realm p", "realm c", "parent p", "import a from p", "import a.b from p", "import a from p");
        desk.dueLook(1, "a.b", NO_ELEMENT);
        desk.dueAsked(1, 0, 0, 0, 0);
        desk.dueLook(1, "b", NO_ELEMENT);
        desk.dueAsked(1, 0);
    }

    private static void manyZero() {
        Desk.about("Promise 5: 0 when it was kept, or there was none");
        Desk desk = Desk.with("archive l", "name a", "realm r", "load l");
        desk.dueMany(0);
        desk.dueLook(1, "a", ARGUMENT);
        desk.dueMany(0);
        desk.dueLook(0, "a", 0);
        desk.dueMany(1);
        desk.dueLook(0, "a", 0);
        desk.dueMany(0);
        desk.dueAskedAt(0, -1);
    }

    private static void askedNone() {
        Desk.about("Promise 6: -1 when there is none");
        Desk desk = Desk.with("realm z", "realm r");
        desk.dueAskedAt(0, -1);
        desk.dueLook(1, "a", NO_ELEMENT);
        desk.dueAskedAt(0, 1);
        desk.dueAskedAt(1, -1);
        desk.dueAskedAt(19, -1);
        for (int i : FAR) {
            desk.dueAskedAt(i, -1);
        }
    }

    private static void askedTwenty() {
        Desk.about("Promise 6: The first 20 are told.");
        Desk desk = Desk.with("realm z", "realm y");
        for (char realm = 'a'; realm <= 'd'; realm++) {
            desk.dueLine("realm " + realm, 3);
            desk.dueLines(4, "import x from y", "import x from y", "import x from y", "import x from y");
            desk.dueLine("parent " + (realm == 'a' ? 'z' : (char) (realm - 1)), 4);
        }
        desk.dueLook(5, "x", NO_ELEMENT);
        desk.dueMany(21);
        desk.dueAskedAt(0, 5);
        desk.dueAskedAt(15, 2);
        desk.dueAskedAt(19, 1);
        desk.dueAskedAt(20, -1);
        desk.dueLook(4, "x", NO_ELEMENT);
        desk.dueMany(16);
        desk.dueAskedAt(15, 0);
        desk.dueAskedAt(16, -1);
        desk.dueAskedAt(19, -1);
    }

    private static void kept() {
        Desk.about("Promise 7: How many names a realm keeps");
        Desk desk = Desk.with("archive l", "name a", "name b", "name c", "name d", "name e", "name f",
                "archive m", "name a.a", "realm r", "load l", "load m");
        String[] names = {"a", "b", "c", "d", "e", "f", "a.a"};
        for (int i = 0; i < names.length; i++) {
            desk.dueKept(0, i);
            desk.dueLook(0, names[i], i < 6 ? 0 : 1);
        }
        desk.dueLook(0, "a", 0);
        desk.dueLook(0, "g", NO_ELEMENT);
        desk.dueKept(0, 7);
    }

    private static void keptNone() {
        Desk.about("Promise 7: -1 when there is none, or it went");
        Desk desk = Desk.with("archive l", "name a", "realm r", "load l");
        desk.dueLook(0, "a", 0);
        desk.dueKept(1, -1);
        for (int realm : FAR) {
            desk.dueKept(realm, -1);
        }
        desk.dueKept(0, 1);
        desk.dueDrop(0, true);
        desk.dueKept(0, -1);
        desk.dueLine("realm r", 3);
        desk.dueKept(0, -1);
        desk.dueKept(1, 0);
    }

    private static void used() {
        Desk.about("Promise 8: How many times a name was found in an archive by looking (not from what was kept) so far");
        Desk desk = Desk.with("archive l", "name a", "name b", "archive m", "name b", "realm p", "load l",
                "realm c", "parent p", "realm i", "import a from p", "load m");
        desk.dueLook(1, "a", 0);
        desk.dueUsed(0, 1);
        desk.dueLook(1, "a", 0);
        desk.dueLook(0, "a", 0);
        desk.dueUsed(0, 1);
        desk.dueLook(2, "a", 0);
        desk.dueUsed(0, 2);
        desk.dueLook(2, "b", 33);
        desk.dueLook(2, "c", NO_ELEMENT);
        desk.dueUsed(0, 2);
        desk.dueUsed(1, 1);
        desk.dueDrop(0, true);
        desk.dueUsed(0, 2);
        desk.dueLook(1, "a", 0);
        desk.dueUsed(0, 2);
        desk.dueLook(0, "b", ARGUMENT);
        desk.dueUsed(0, 2);
    }

    private static void usedNone() {
        Desk.about("Promise 8: -1 when there is no such archive");
        Desk desk = Desk.with("archive l", "realm r", "realm s");
        desk.dueUsed(0, 0);
        desk.dueUsed(1, -1);
        for (int archive : FAR) {
            desk.dueUsed(archive, -1);
        }
    }

    private static void drop() {
        Desk.about("Promise 9: A realm goes: true; false when .. it went");
        Desk desk = Desk.with("realm r", "realm s", "realm t");
        desk.dueDrop(1, true);
        desk.dueDrop(1, false);
        desk.dueDrop(2, true);
        desk.dueDrop(0, true);
        desk.dueDrop(0, false);
        desk.dueCount(1, 3);
        desk.dueCount(2, 0);
        desk.dueLine("realm s", 3);
        desk.dueDrop(1, false);
        desk.dueDrop(3, true);
    }

    private static void dropNone() {
        Desk.about("Promise 9: false when there is none");
        Desk desk = Desk.with("realm r", "realm s");
        desk.dueDrop(2, false);
        for (int realm : FAR) {
            desk.dueDrop(realm, false);
        }
        desk.dueCount(2, 2);
    }

    private static void whatOthersKept() {
        Desk.about("Promise 9: What others kept of it stays.");
        Desk desk = Desk.with("archive l", "name a", "name b", "name c", "realm x", "realm p", "load l",
                "realm i", "load l", "realm c", "parent p", "import b from i");
        desk.dueLook(3, "a", 16);
        desk.dueLook(3, "b", 32);
        desk.dueDrop(1, true);
        desk.dueDrop(2, true);
        desk.dueKept(3, 2);
        desk.dueLook(3, "a", 16);
        desk.dueAsked();
        desk.dueLook(3, "b", 32);
        desk.dueAsked();
        desk.dueLook(3, "c", NO_ELEMENT);
        desk.dueUsed(0, 2);
    }

    private static void realmEmptiesTheLine() {
        Desk.about("Promise 10: the word that the line is (it is empty then in any case)");
        Desk desk = Desk.with("realm r");
        desk.dueRealm("r", 0);
        desk.dueEmpty("the word of a realm");
        desk.dueRealm("s", -1);
        desk.dueEmpty("a word of none");
        desk.dueRealm("r r", -1);
        desk.dueEmpty("no word");
    }

    private static void realmNone() {
        Desk.about("Promise 10: -1 when there is none");
        Desk desk = Desk.with("archive l", "realm r", "realm rs");
        desk.dueRealm("s", -1);
        desk.dueRealm("l", -1);
        desk.dueRealm("rst", -1);
        desk.dueRealm("r", 0);
        desk.dueRealm("rs", 1);
        desk.dueDrop(0, true);
        desk.dueRealm("r", -1);
        desk.dueRealm("rs", 1);
        desk.dueLine("realm r", 3);
        desk.dueRealm("r", 2);
    }

    private static void realmNoWord() {
        Desk.about("Promise 10: -1 when .. the line is no word");
        Desk desk = Desk.with("realm r", "realm rstu");
        for (String text : new String[] {"", " ", " r", "r ", " r ", "r rstu", "realm r", "r.r", "R", "rstuv", "r1"}) {
            desk.dueRealm(text, -1);
        }
        desk.dueRealm("rstu", 1);
    }

    private static void count() {
        Desk.about("Promise 11: How many archives (what = 0), realms that were made (1), realms that are there (2)");
        Desk desk = Desk.with("archive a", "archive b", "archive c", "name a", "realm r", "realm s");
        desk.dueCount(0, 3);
        desk.dueCount(1, 2);
        desk.dueCount(2, 2);
        desk.dueDrop(0, true);
        desk.dueCount(0, 3);
        desk.dueCount(1, 2);
        desk.dueCount(2, 1);
        desk.dueLine("realm r", 3);
        desk.dueCount(1, 3);
        desk.dueCount(2, 2);
    }

    private static void countOthers() {
        Desk.about("Promise 11: -1 for others");
        Desk desk = Desk.with("archive a", "realm r");
        desk.dueCount(3, -1);
        for (int what : FAR) {
            desk.dueCount(what, -1);
        }
    }
}
