/** Promises 1 to 3: a new object, write and line. */
public final class LineTest {
    private static final int ARGUMENT = Desk.ARGUMENT;
    private static final int STATE = Desk.STATE;

    public static void main(String[] args) {
        newObject();
        writeTakesPrintable();
        writeStopsAtThirty();
        linesWithoutParts();
        blanksBetweenParts();
        linesThatAreNone();
        words();
        names();
        lineIsEmptyBehindReading();
        archives();
        namesOfArchives();
        realms();
        loads();
        imports();
        parents();
        orders();
        aboutRealmThatWent();
        noRealmYet();
        kindsAsWords();
        Desk.end();
    }

    private static void newObject() {
        Desk desk = new Desk();
        desk.dueCount(0, 0);
        desk.dueCount(1, 0);
        desk.dueCount(2, 0);
        desk.dueAsked();
        desk.dueKept(0, -1);
        desk.dueUsed(0, -1);
        desk.dueDrop(0, false);
        desk.dueLook(0, "a", ARGUMENT);
        Desk.due("line of a new object", new Desk().line(), 0);
    }

    private static void writeTakesPrintable() {
        Desk desk = new Desk();
        int[] good = {32, 33, 46, 65, 97, 125, 126};
        for (int c : good) {
            desk.dueWrite(c, true);
        }
        int[] bad = {0, 9, 10, 31, 127, 128, 255, 256, 256 + 97, 65535};
        for (int c : bad) {
            desk.dueWrite(c, false);
        }
        desk = new Desk();
        desk.type("realm a");
        desk.dueWrite(127, false);
        desk.dueWrite(31, false);
        desk.dueLine("b", 3);
        desk.dueRealm("ab", 0);
    }

    private static void writeStopsAtThirty() {
        Desk desk = new Desk();
        desk.type("                       realm a");
        desk.dueWrite('b', false);
        desk.dueWrite(' ', false);
        Desk.due("line of 30", desk.line(), 3);
        desk.dueRealm("a", 0);
        desk.dueWrite('b', true);
    }

    private static void linesWithoutParts() {
        Desk desk = new Desk();
        desk.dueLine("", 0);
        desk.dueLine(" ", 0);
        desk.dueLine("                              ", 0);
    }

    private static void blanksBetweenParts() {
        Desk desk = new Desk();
        desk.dueLine("  archive   a  ", 1);
        desk.dueLine(" name a.b ", 2);
        desk.dueLine("realm  r", 3);
        desk.dueLine("realm s ", 3);
        desk.dueLine(" import a  from   r  ", 4);
        desk.dueLine("  self ", 4);
        desk.dueLine("archiveb", ARGUMENT);
        desk.dueLine("name a .b", ARGUMENT);
    }

    private static void linesThatAreNone() {
        Desk desk = Desk.with("archive a", "realm r", "realm s");
        String[] none = {
            "x", "archive", "name", "realm", "load", "import", "parent", "from",
            "archive b c", "name b c", "realm b c", "load a a", "parent r r", "self first", "first r",
            "import a from", "import a r", "import a form r", "import from r", "import a from r r",
            "export a from r", "Archive b", "selfs", "firs", "a b c d", "a b c d e", "- - - - - - -",
            "load r", "parent a", "import a from a",
        };
        for (String text : none) {
            desk.dueLine(text, ARGUMENT);
        }
        desk.dueCount(0, 1);
        desk.dueCount(1, 2);
    }

    private static void words() {
        Desk desk = new Desk();
        String[] none = {"abcde", "a.b", "A", "a1", "1", "a-b", "`", "{", "aZ", "."};
        for (String word : none) {
            desk.dueLine("archive " + word, ARGUMENT);
            desk.dueLine("realm " + word, ARGUMENT);
        }
        desk.dueLine("archive abcd", 1);
        desk.dueLine("archive z", 1);
        desk.dueLine("realm wxyz", 3);
        desk.dueLine("realm a", 3);
    }

    private static void names() {
        Desk desk = Desk.with("archive a", "realm r");
        String[] none = {
            ".", "a.", ".a", "a..b", "a.b.", "a.b.c.d", "abcde", "a.abcde", "abcde.a", "a.b.abcde", "a,b", "a.B", "a.1",
        };
        for (String name : none) {
            desk.dueLine("name " + name, ARGUMENT);
            desk.dueLook(0, name, ARGUMENT);
        }
        desk.dueLine("name a", 2);
        desk.dueLine("name abcd", 2);
        desk.dueLine("name a.b", 2);
        desk.dueLine("name abcd.efgh.ijkl", 2);
        desk = Desk.with("realm r", "realm s");
        for (String name : none) {
            desk.dueLine("import " + name + " from r", ARGUMENT);
        }
        desk.dueLine("import a.b.c from r", 4);
    }

    private static void lineIsEmptyBehindReading() {
        Desk desk = new Desk();
        desk.dueLine("archive a", 1);
        Desk.due("behind a good line", desk.line(), 0);
        desk.dueLine("nonsense", ARGUMENT);
        Desk.due("behind one that is none", desk.line(), 0);
        desk.dueLine("load a", STATE);
        Desk.due("behind one without a realm", desk.line(), 0);
    }

    private static void archives() {
        Desk desk = new Desk();
        for (int i = 0; i < 6; i++) {
            desk.dueCount(0, i);
            desk.dueLine("archive " + (char) ('a' + i), 1);
        }
        desk.dueLine("archive g", STATE);
        desk.dueLine("archive c", ARGUMENT);
        desk.dueLine("archive abcde", ARGUMENT);
        desk.dueCount(0, 6);
        desk.dueUsed(5, 0);
        desk.dueUsed(6, -1);
        desk.dueLine("realm a", 3);
    }

    private static void namesOfArchives() {
        Desk desk = new Desk();
        desk.dueLine("name a", STATE);
        desk.dueLine("name a..b", ARGUMENT);
        desk.dueLine("archive a", 1);
        desk.dueLine("name x", 2);
        desk.dueLine("name x", ARGUMENT);
        desk.dueLine("archive b", 1);
        desk.dueLine("name x", 2);
        desk.dueLine("archive b", ARGUMENT);
        for (int i = 0; i < 5; i++) {
            desk.dueLine("name x.a" + (char) ('a' + i), 2);
        }
        desk.dueLine("name y", STATE);
        desk.dueLine("name x.ac", ARGUMENT);
        desk.dueLine("name Y", ARGUMENT);
        desk.dueLine("realm r", 3);
        desk.dueLine("load b", 4);
        desk.dueLook(0, "x.ae", 1);
        desk.dueLook(0, "y", Desk.NO_ELEMENT);
        desk.dueLine("archive c", 1);
        desk.dueLine("name y", 2);
    }

    private static void realms() {
        Desk desk = new Desk();
        for (int i = 0; i < 7; i++) {
            desk.dueLine("realm " + (char) ('a' + i), 3);
        }
        desk.dueLine("realm c", ARGUMENT);
        desk.dueDrop(2, true);
        desk.dueLine("realm c", 3);
        desk.dueRealm("c", 7);
        desk.dueLine("realm i", STATE);
        desk.dueLine("realm c", ARGUMENT);
        desk.dueDrop(0, true);
        desk.dueLine("realm a", STATE);
        desk.dueLine("realm b", ARGUMENT);
        desk.dueLine("realm abcde", ARGUMENT);
        desk.dueCount(1, 8);
        desk.dueCount(2, 6);
    }

    private static void loads() {
        Desk desk = Desk.with("archive a", "archive b", "archive c", "archive d", "archive e", "name x", "realm r");
        desk.dueLine("load a", 4);
        desk.dueLine("load q", ARGUMENT);
        desk.dueLine("load a", ARGUMENT);
        desk.dueLine("load b", 4);
        desk.dueLine("load a", ARGUMENT);
        desk.dueLine("load c", 4);
        desk.dueLine("load d", 4);
        desk.dueLine("load e", STATE);
        desk.dueLine("load d", ARGUMENT);
        desk.dueLine("load q", ARGUMENT);
        desk.dueLook(0, "x", Desk.NO_ELEMENT);
        desk.dueLine("realm s", 3);
        desk.dueLine("load a", 4);
        desk.dueLine("load e", 4);
        desk.dueLook(1, "x", 20);
    }

    private static void imports() {
        Desk desk = Desk.with("realm r", "realm s");
        desk.dueLine("import a from s", ARGUMENT);
        desk.dueLine("import a from t", ARGUMENT);
        desk.dueLine("import a from r", 4);
        desk.dueLine("import a from r", 4);
        desk.dueLine("import b.c from r", 4);
        desk.dueLine("import b from r", 4);
        desk.dueLine("import c from r", STATE);
        desk.dueLine("import c from s", ARGUMENT);
        desk.dueLine("import c from t", ARGUMENT);
        desk.dueLine("import c. from r", ARGUMENT);
        desk.dueDrop(0, true);
        desk.dueLine("import a from r", ARGUMENT);
        desk.dueLine("realm t", 3);
        desk.dueLine("import a from s", 4);
        desk.dueLine("import a from r", ARGUMENT);
    }

    private static void parents() {
        Desk desk = Desk.with("realm r", "realm s");
        desk.dueLine("parent s", ARGUMENT);
        desk.dueLine("parent t", ARGUMENT);
        desk.dueLine("parent R", ARGUMENT);
        desk.dueLine("parent r", 4);
        desk.dueLine("parent r", 4);
        desk.dueDrop(0, true);
        desk.dueLine("parent r", ARGUMENT);
    }

    private static void orders() {
        Desk desk = new Desk();
        desk.dueLine("self", STATE);
        desk.dueLine("first", STATE);
        desk.dueLine("second", ARGUMENT);
        desk.dueLine("realm r", 3);
        desk.dueLine("first", 4);
        desk.dueLine("first", 4);
        desk.dueLine("self", 4);
    }

    private static void aboutRealmThatWent() {
        Desk desk = Desk.with("archive a", "archive b", "realm r", "realm s", "load a");
        desk.dueDrop(1, true);
        desk.dueLine("load b", STATE);
        desk.dueLine("load q", ARGUMENT);
        desk.dueLine("load a", ARGUMENT);
        desk.dueLine("import a from r", STATE);
        desk.dueLine("import a from s", ARGUMENT);
        desk.dueLine("import A from r", ARGUMENT);
        desk.dueLine("parent r", STATE);
        desk.dueLine("parent s", ARGUMENT);
        desk.dueLine("self", STATE);
        desk.dueLine("first", STATE);
        desk.dueLine("name x", 2);
        desk.dueLine("realm s", 3);
        desk.dueLine("load b", 4);
        desk.dueDrop(0, true);
        desk.dueLine("load a", 4);
    }

    private static void noRealmYet() {
        Desk desk = Desk.with("archive a");
        desk.dueLine("load a", STATE);
        desk.dueLine("load b", ARGUMENT);
        desk.dueLine("parent r", ARGUMENT);
        desk.dueLine("import a from r", ARGUMENT);
    }

    private static void kindsAsWords() {
        Desk desk = new Desk();
        desk.dueLine("archive name", 1);
        desk.dueLine("name self.name.load", 2);
        desk.dueLine("realm from", 3);
        desk.dueLine("load name", 4);
        desk.dueLine("realm self", 3);
        desk.dueLine("import self from from", 4);
        desk.dueLine("parent from", 4);
        desk.dueLook(1, "self.name.load", 0);
        desk.dueAsked(1, 0);
    }
}
