/** The head and the Terms of the document: a test for each sentence, or part of one, that names a boundary. */
public final class TermsTest {
    private static final int ARGUMENT = Desk.ARGUMENT;
    private static final int STATE = Desk.STATE;
    private static final int NO_ELEMENT = Desk.NO_ELEMENT;
    private static final String BLANKS = "                              ";

    public static void main(String[] args) {
        calls();
        wordLength();
        wordLetters();
        nameWords();
        nameDots();
        packages();
        liesInWhenItIsThat();
        liesInBehindADot();
        narrower();
        archiveNumbers();
        archiveWords();
        archiveNames();
        realmNumbers();
        realmWords();
        realmArchives();
        realmArchivesOnce();
        realmImports();
        perhapsAParent();
        orderAtFirst();
        lineLength();
        longestImport();
        blanks();
        nextNames();
        nextLines();
        loadBehind();
        importBehind();
        setsOrder();
        foundBefore();
        placesSelfFirst();
        placesParentFirst();
        importsNarrowestFirst();
        importsAlike();
        importOfOneThatWent();
        importOnlyItself();
        importFirstThatHasIt();
        itself();
        parentLooks();
        ringOfParents();
        ringInWordsOnly();
        parentThatWent();
        whereItWasFound();
        keptByEachThatLooked();
        Desk.end();
    }

    private static void calls() {
        Desk.about("An object is used for at most 512 calls after it has been made");
        Desk desk = new Desk();
        for (char archive = 'a'; archive <= 'f'; archive++) {
            desk.dueLine("archive " + archive, 1);
        }
        desk.dueLines(2, "name u", "name v", "name w", "name x", "name y", "name z");
        for (char realm = 'a'; realm <= 'h'; realm++) {
            desk.dueLine("realm " + realm, 3);
        }
        desk.dueLines(4, "load a", "load b", "load c", "load f");
        desk.dueLines(4, "import x from a", "import x from b", "import x from c", "import x from d");
        int finds = 0;
        while (desk.calls() < 510) {
            desk.dueLook(7, finds % 2 == 0 ? "x" : "z", 117);
            finds++;
        }
        desk.dueUsed(5, 2);
        desk.dueKept(7, 2);
        Desk.due("calls of the longest use", desk.calls(), 512);
    }

    private static void wordLength() {
        Desk.about("A WORD is one to four letters a .. z.");
        Desk desk = new Desk();
        desk.dueLines(1, "archive a", "archive abcd");
        desk.dueLines(3, "realm b", "realm bcde");
        desk.dueLines(ARGUMENT, "archive", "realm", "archive abcde", "realm bcdef", "archive abcdefgh");
        desk.dueLines(ARGUMENT, "load", "parent", "load abcde", "load abc");
        desk.dueLines(4, "load a", "load abcd", "parent b");
        desk.dueRealm("", -1);
        desk.dueRealm("b", 0);
        desk.dueRealm("bcde", 1);
        desk.dueRealm("bcdef", -1);
        desk.dueRealm("bcd", -1);
    }

    private static void wordLetters() {
        Desk.about("A WORD is one to four letters a .. z.");
        Desk desk = new Desk();
        desk.dueLines(1, "archive a", "archive z", "archive azaz");
        desk.dueLines(3, "realm a", "realm z", "realm zaza");
        for (char c : new char[] {'`', '{', 'A', 'Z', '0', '9', '.', '-', '_', '!', '~'}) {
            desk.dueLine("archive " + c, ARGUMENT);
            desk.dueLine("realm b" + c, ARGUMENT);
        }
        desk.dueCount(0, 3);
        desk.dueCount(1, 3);
    }

    private static void nameWords() {
        Desk.about("A NAME is one to three words with . between");
        Desk desk = Desk.with("archive l", "realm r", "load l");
        desk.dueLines(2, "name a", "name a.b", "name a.b.c", "name wxyz.wxyz.wxyz");
        desk.dueLines(ARGUMENT, "name", "name a.b.c.d", "name a.b.c.d.e");
        desk.dueLines(ARGUMENT, "name vwxyz", "name vwxyz.a", "name a.vwxyz", "name a.b.vwxyz");
        desk.dueLook(0, "a", 0);
        desk.dueLook(0, "a.b", 0);
        desk.dueLook(0, "a.b.c", 0);
        desk.dueLook(0, "wxyz.wxyz.wxyz", 0);
        desk.dueLook(0, "d.e.f", NO_ELEMENT);
        desk.dueLook(0, "", ARGUMENT);
        desk.dueLook(0, "a.b.c.d", ARGUMENT);
        desk.dueLook(0, "vwxyz", ARGUMENT);
        desk.dueLook(0, "a.b.vwxyz", ARGUMENT);
    }

    private static void nameDots() {
        Desk.about("A NAME is one to three words with . between");
        Desk desk = Desk.with("archive l", "realm r");
        for (String text : new String[] {".", "..", ".a", "a.", "a..b", "a.b.", ".a.b", "a.b.c.", "a,b", "a.B", "a.{"}) {
            desk.dueLine("name " + text, ARGUMENT);
            desk.dueLook(0, text, ARGUMENT);
        }
        desk.dueLine("name a. b", ARGUMENT);
        desk.dueLine("name a.b", 2);
    }

    private static void packages() {
        Desk.about("a PACKAGE is a name");
        Desk desk = Desk.with("realm r", "realm s");
        desk.dueLines(ARGUMENT, "import a.b.c.d from r", "import . from r", "import a. from r", "import .a from r",
                "import abcde from r", "import A from r", "import a.* from r");
        desk.dueLook(1, "a", NO_ELEMENT);
        desk.dueAsked(1);
        desk.dueLines(4, "import a from r", "import a.b from r", "import a.b.c from r");
        desk.dueLook(1, "a.b.c", NO_ELEMENT);
        desk.dueAsked(1, 0, 0, 0);
    }

    private static void liesInWhenItIsThat() {
        Desk.about("a name LIES IN a package, when it is that");
        Desk desk = Desk.with("archive l", "name a", "name b.c", "name d.e.f", "realm r", "load l",
                "realm s", "import a from r", "import b.c from r", "import d.e.f from r");
        desk.dueLook(1, "a", 0);
        desk.dueLook(1, "b.c", 0);
        desk.dueLook(1, "d.e.f", 0);
        desk.dueKept(1, 3);
    }

    private static void liesInBehindADot() {
        Desk.about("or begins with it and a . behind it");
        Desk desk = Desk.with("archive l", "name a.b.c", "name a.bc", "name a.bc.d", "name a", "name b", "name c.a.b",
                "realm r", "load l", "realm s", "import a.b from r");
        desk.dueLook(1, "a.b.c", 0);
        desk.dueAsked(1, 0);
        for (String outside : new String[] {"a.bc", "a.bc.d", "a", "b", "c.a.b", "a.c", "b.b", "ab"}) {
            desk.dueLook(1, outside, NO_ELEMENT);
            desk.dueAsked(1);
        }
        desk.dueLook(1, "a.b.d", NO_ELEMENT);
        desk.dueAsked(1, 0);
    }

    private static void narrower() {
        Desk.about("The package with more characters is the NARROWER one.");
        Desk desk = Desk.with("archive l", "name ab.c.d", "realm x", "load l", "realm y", "load l", "realm z", "load l",
                "realm s", "import ab from x", "import ab.c from y", "import ab.c.d from z");
        desk.dueLook(3, "ab.c.d", 32);
        desk.dueAsked(3, 2);
        desk.dueLook(3, "ab.c.e", NO_ELEMENT);
        desk.dueAsked(3, 1, 0);
    }

    private static void archiveNumbers() {
        Desk.about("ARCHIVES are numbered 0, 1, .. as they are made, at most 6");
        Desk desk = new Desk();
        for (int i = 0; i < 6; i++) {
            desk.dueUsed(i, -1);
            desk.dueLine("archive " + (char) ('f' - i), 1);
            desk.dueLine("name " + (char) ('t' + i), 2);
            desk.dueUsed(i, 0);
        }
        desk.dueLine("archive g", STATE);
        desk.dueCount(0, 6);
        desk.dueUsed(6, -1);
        desk.dueLines(3, "realm r");
        desk.dueLines(4, "load f", "load a");
        desk.dueLook(0, "t", 0);
        desk.dueLook(0, "y", 5);
        desk.dueUsed(0, 1);
        desk.dueUsed(5, 1);
    }

    private static void archiveWords() {
        Desk.about("each with a word of its own");
        Desk desk = Desk.with("archive a", "archive b");
        desk.dueLines(ARGUMENT, "archive a", "archive b");
        desk.dueCount(0, 2);
        desk.dueLine("realm a", 3);
        desk.dueLine("archive a", ARGUMENT);
        desk.dueDrop(0, true);
        desk.dueLine("archive a", ARGUMENT);
        desk.dueLine("archive ab", 1);
    }

    private static void archiveNames() {
        Desk.about("and up to 6 names");
        Desk desk = Desk.with("archive l");
        desk.dueLines(2, "name a", "name b", "name c", "name d", "name e", "name f");
        desk.dueLines(STATE, "name g", "name a.b");
        desk.dueLine("archive m", 1);
        desk.dueLines(2, "name a", "name b", "name c", "name d", "name e", "name g");
        desk.dueLine("name f", STATE);
        desk.dueLine("realm r", 3);
        desk.dueLine("load l", 4);
        desk.dueLook(0, "a", 0);
        desk.dueLook(0, "f", 0);
        desk.dueLook(0, "g", NO_ELEMENT);
        desk.dueLine("load m", 4);
        desk.dueLook(0, "g", 1);
    }

    private static void realmNumbers() {
        Desk.about("REALMS are numbered 0, 1, .. as they are made, at most 8 (those that went counted)");
        Desk desk = new Desk();
        for (int i = 0; i < 8; i++) {
            desk.dueKept(i, -1);
            desk.dueLine("realm " + (char) ('h' - i), 3);
            desk.dueRealm("" + (char) ('h' - i), i);
        }
        desk.dueLine("realm i", STATE);
        for (int i = 0; i < 8; i++) {
            desk.dueDrop(i, true);
        }
        desk.dueLines(STATE, "realm i", "realm a", "realm h");
        desk.dueCount(1, 8);
        desk.dueCount(2, 0);
        desk = Desk.with("realm a");
        desk.dueDrop(0, true);
        desk.dueLine("realm a", 3);
        desk.dueRealm("a", 1);
    }

    private static void realmWords() {
        Desk.about("each that is there with a word of its own");
        Desk desk = Desk.with("realm a", "realm b");
        desk.dueLines(ARGUMENT, "realm a", "realm b");
        desk.dueDrop(0, true);
        desk.dueRealm("a", -1);
        desk.dueLines(ARGUMENT, "parent a", "import x from a");
        desk.dueLine("realm a", 3);
        desk.dueRealm("a", 2);
        desk.dueLine("realm a", ARGUMENT);
        desk.dueDrop(2, true);
        desk.dueRealm("a", -1);
        desk.dueLine("realm a", 3);
        desk.dueRealm("a", 3);
        desk.dueRealm("b", 1);
    }

    private static void realmArchives() {
        Desk.about("a realm has ARCHIVES in their order (at most 4");
        Desk desk = Desk.with("archive a", "name x", "archive b", "name x", "archive c", "name x", "archive d", "name x",
                "name y", "archive e", "name z", "realm r", "load c", "load a", "load d");
        desk.dueLine("load b", 4);
        desk.dueLine("load e", STATE);
        desk.dueLook(0, "x", 2);
        desk.dueLook(0, "y", 3);
        desk.dueLook(0, "z", NO_ELEMENT);
        desk.dueLine("realm s", 3);
        desk.dueLine("load e", 4);
        desk.dueLook(1, "z", 20);
    }

    private static void realmArchivesOnce() {
        Desk.about("none twice)");
        Desk desk = Desk.with("archive a", "archive b", "archive c", "archive d", "realm r", "load a", "load b");
        desk.dueLines(ARGUMENT, "load a", "load b");
        desk.dueLines(4, "load c", "load d");
        desk.dueLines(ARGUMENT, "load a", "load d");
        desk.dueLine("realm s", 3);
        desk.dueLine("load a", 4);
        desk.dueLine("load a", ARGUMENT);
    }

    private static void realmImports() {
        Desk.about("IMPORTS in their order (at most 4), each a package and a realm");
        Desk desk = Desk.with("archive l", "name e", "realm r", "load l", "realm s");
        desk.dueLines(4, "import a from r", "import b from r", "import c from r", "import d from r");
        desk.dueLines(STATE, "import e from r", "import a from r");
        desk.dueLook(1, "e", NO_ELEMENT);
        desk.dueAsked(1);
        desk.dueLine("realm t", 3);
        desk.dueLines(4, "import e from s", "import e from s", "import e from s", "import e from r");
        desk.dueLook(2, "e", 0);
        desk.dueAsked(2, 1, 1, 1, 0);
    }

    private static void perhapsAParent() {
        Desk.about("perhaps a PARENT");
        Desk desk = Desk.with("archive l", "name a", "realm p", "load l", "realm q", "realm c");
        desk.dueLook(2, "a", NO_ELEMENT);
        desk.dueAsked(2);
        desk.dueLine("first", 4);
        desk.dueLook(2, "a", NO_ELEMENT);
        desk.dueAsked(2);
        desk.dueLine("parent p", 4);
        desk.dueLine("parent q", 4);
        desk.dueLook(2, "a", NO_ELEMENT);
        desk.dueAsked(2, 1);
        desk.dueLine("parent p", 4);
        desk.dueLook(2, "a", 0);
        desk.dueAsked(2, 0);
    }

    private static void orderAtFirst() {
        Desk.about("an ORDER: SELF FIRST (at first) or PARENT FIRST");
        Desk desk = Desk.with("archive l", "name a", "realm p", "load l", "first", "realm c", "parent p", "load l");
        desk.dueLook(1, "a", 16);
        desk.dueAsked(1);
    }

    private static void lineLength() {
        Desk.about("LINES have at most 30 characters");
        Desk desk = new Desk();
        desk.type(BLANKS.substring(0, 23) + "realm a");
        desk.dueWrite('b', false);
        Desk.due("line() of 30", desk.line(), 3);
        desk.dueRealm("a", 0);
        desk.type("realm b" + BLANKS.substring(0, 23));
        desk.dueWrite(' ', false);
        Desk.due("line() of 30", desk.line(), 3);
        desk.dueRealm("b", 1);
        desk.type(BLANKS);
        desk.dueWrite('a', false);
        Desk.due("line() of 30 blanks", desk.line(), 0);
    }

    private static void longestImport() {
        Desk.about("LINES have at most 30 characters");
        Desk desk = Desk.with("realm wxy", "realm wxyz", "realm s");
        desk.dueLine("import abcd.abcd.abcd from wxy", 4);
        desk.type("import abcd.abcd.abcd from wxy");
        desk.dueWrite('z', false);
        Desk.due("line() of 30", desk.line(), 4);
        desk.dueLook(2, "abcd.abcd.abcd", NO_ELEMENT);
        desk.dueAsked(2, 0, 0);
    }

    private static void blanks() {
        Desk.about("parts with one or more blanks between (also before and behind)");
        Desk desk = new Desk();
        desk.dueLines(1, "   archive l", "archive m   ", " archive   n ");
        desk.dueLines(2, "  name   a.b  ");
        desk.dueLines(3, " realm r", "realm  s ");
        desk.dueLines(4, "  load    n", "   import   a.b   from   r  ", " parent  r ", "  first", "self  ", " self ");
        desk.dueLines(ARGUMENT, "archivek", "name a .c", "name a. c", "importa from r", "import a fromr", "s elf", "fir st");
        desk.dueLook(1, "a.b", 18);
        desk.dueAsked(1, 0);
    }

    private static void nextNames() {
        Desk.about("archive W: a new archive, the one that the next names come to");
        Desk desk = Desk.with("archive l", "name a", "archive m", "name b", "realm r", "load l", "name c", "load m");
        desk.dueLines(ARGUMENT, "archive l", "archive abcde");
        desk.dueLine("name d", 2);
        desk.dueLook(0, "a", 0);
        desk.dueLook(0, "b", 1);
        desk.dueLook(0, "c", 1);
        desk.dueLook(0, "d", 1);
    }

    private static void nextLines() {
        Desk.about("realm W: a new realm, the one that the next lines are about");
        Desk desk = Desk.with("archive l", "name a", "realm r", "realm s", "load l", "archive m", "realm t");
        desk.dueLook(0, "a", NO_ELEMENT);
        desk.dueLook(1, "a", 16);
        desk.dueLines(ARGUMENT, "realm r", "realm abcde");
        desk.dueLine("parent s", 4);
        desk.dueLook(2, "a", 16);
        desk.dueDrop(0, true);
        desk.dueDrop(1, true);
        desk.dueLine("load l", 4);
        desk.dueLine("name b", 2);
        desk.dueLine("load m", 4);
        desk.dueLook(2, "b", 33);
    }

    private static void loadBehind() {
        Desk.about("load W: it has that archive behind its others");
        Desk desk = Desk.with("archive l", "name a", "name b", "archive m", "name a", "name b", "name c",
                "realm r", "load m");
        desk.dueLook(0, "a", 1);
        desk.dueLine("load l", 4);
        desk.dueLook(0, "b", 1);
        desk.dueLook(0, "c", 1);
        desk.dueUsed(0, 0);
    }

    private static void importBehind() {
        Desk.about("import P from W: P from that realm, behind its other imports");
        Desk desk = Desk.with("archive l", "name a", "realm x", "load l", "realm y", "load l", "realm z",
                "realm s", "import a from z", "import a from y", "import a from x");
        desk.dueLook(3, "a", 16);
        desk.dueAsked(3, 2, 1);
    }

    private static void setsOrder() {
        Desk.about("self and first: its order is SELF FIRST, or PARENT FIRST");
        Desk desk = Desk.with("archive l", "name a", "name b", "name c", "name d", "realm p", "load l",
                "realm c", "load l", "parent p");
        desk.dueLines(4, "first");
        desk.dueLook(1, "a", 0);
        desk.dueLines(4, "self");
        desk.dueLook(1, "b", 16);
        desk.dueLines(4, "self", "first", "first");
        desk.dueLook(1, "c", 0);
        desk.dueLines(ARGUMENT, "selff", "Self", "self self");
        desk.dueLook(1, "d", 0);
    }

    private static void foundBefore() {
        Desk.about("when it found it before, there (again)");
        Desk desk = Desk.with("archive l", "name a", "archive m", "name a", "realm p", "load l", "realm i", "load m",
                "realm c", "parent p");
        desk.dueLook(2, "a", 0);
        desk.dueLines(4, "load m", "import a from i", "self");
        desk.dueLook(2, "a", 0);
        desk.dueAsked();
        desk.dueDrop(0, true);
        desk.dueLook(2, "a", 0);
        desk.dueAsked();
        desk.dueUsed(1, 0);
        desk.dueLook(2, "b", NO_ELEMENT);
        desk.dueLine("name b", 2);
        desk.dueLook(2, "b", 33);
    }

    private static void placesSelfFirst() {
        Desk.about("imports always first, then itself and its parent");
        Desk desk = Desk.with("archive l", "name i", "name s", "name p", "archive m", "name s", "name p", "name i",
                "archive n", "name p", "name i", "realm x", "load l", "realm y", "load n",
                "realm c", "load m", "parent y", "import i from x");
        desk.dueLook(2, "i", 0);
        desk.dueAsked(2, 0);
        desk.dueLook(2, "s", 33);
        desk.dueAsked(2);
        desk.dueLook(2, "p", 33);
        desk.dueAsked(2);
        desk.dueLook(2, "i.q", NO_ELEMENT);
        desk.dueAsked(2, 0, 1);
    }

    private static void placesParentFirst() {
        Desk.about("or its parent and itself, by its order");
        Desk desk = Desk.with("archive l", "name i", "archive m", "name s", "name p", "name i", "archive n", "name p", "name i",
                "realm x", "load l", "realm y", "load n", "realm c", "load m", "parent y", "import i from x", "first");
        desk.dueLook(2, "i", 0);
        desk.dueAsked(2, 0);
        desk.dueLook(2, "p", 18);
        desk.dueAsked(2, 1);
        desk.dueLook(2, "s", 33);
        desk.dueAsked(2, 1);
        desk.dueLook(2, "i.q", NO_ELEMENT);
        desk.dueAsked(2, 0, 1);
    }

    private static void importsNarrowestFirst() {
        Desk.about("of those whose package the name lies in, the narrowest ones first");
        Desk desk = Desk.with("realm x", "realm y", "realm z", "realm s",
                "import a from x", "import a.b.c from z", "import a.bc from x", "import a.b from y");
        desk.dueLook(3, "a.b.c", NO_ELEMENT);
        desk.dueAsked(3, 2, 1, 0);
        desk.dueLook(3, "a.b", NO_ELEMENT);
        desk.dueAsked(3, 1, 0);
        desk.dueLook(3, "a.bc.b", NO_ELEMENT);
        desk.dueAsked(3, 0, 0);
        desk.dueLook(3, "b", NO_ELEMENT);
        desk.dueAsked(3);
    }

    private static void importsAlike() {
        Desk.about("those alike as they stand in their order");
        Desk desk = Desk.with("realm x", "realm y", "realm z", "realm s",
                "import a from y", "import a from x", "import a.b from z", "import a from z");
        desk.dueLook(3, "a.b", NO_ELEMENT);
        desk.dueAsked(3, 2, 1, 0, 2);
        desk = Desk.with("realm x", "realm y", "realm s",
                "import a.b from y", "import a from x", "import a.b from x", "import a from y");
        desk.dueLook(2, "a.b.c", NO_ELEMENT);
        desk.dueAsked(2, 1, 0, 0, 1);
    }

    private static void importOfOneThatWent() {
        Desk.about("the realm of it is asked (one that went is not)");
        Desk desk = Desk.with("archive l", "name a", "realm x", "load l", "realm y", "load l",
                "realm s", "import a from x", "import a from y");
        desk.dueDrop(0, true);
        desk.dueLook(2, "a", 16);
        desk.dueAsked(2, 1);
        desk.dueLook(2, "a.b", NO_ELEMENT);
        desk.dueAsked(2, 1);
        desk.dueDrop(1, true);
        desk.dueLook(2, "a.b", NO_ELEMENT);
        desk.dueAsked(2);
        desk.dueLine("realm x", 3);
        desk.dueLook(2, "a.b", NO_ELEMENT);
        desk.dueAsked(2);
    }

    private static void importOnlyItself() {
        Desk.about("but only ITSELF (its archives)");
        Desk desk = Desk.with("archive l", "name a", "realm p", "load l", "realm x", "parent p", "import a from p",
                "realm s", "import a from x");
        desk.dueLook(2, "a", NO_ELEMENT);
        desk.dueAsked(2, 1);
        desk.dueLook(1, "a", 0);
        desk.dueLook(2, "a", NO_ELEMENT);
        desk.dueAsked(2, 1);
        desk = Desk.with("archive l", "name a", "archive m", "name a", "realm p", "load l", "realm x", "parent p", "first",
                "load m", "realm s", "import a from x");
        desk.dueLook(1, "a", 0);
        desk.dueLook(2, "a", 17);
        desk.dueAsked(2, 1);
        desk.dueUsed(1, 1);
    }

    private static void importFirstThatHasIt() {
        Desk.about("the first that has it");
        Desk desk = Desk.with("archive l", "name a", "realm x", "realm y", "load l", "realm z", "load l",
                "realm s", "import a from x", "import a from y", "import a from z");
        desk.dueLook(3, "a", 16);
        desk.dueAsked(3, 0, 1);
        desk.dueUsed(0, 1);
    }

    private static void itself() {
        Desk.about("ITSELF: the first of its archives that has the name");
        Desk desk = Desk.with("archive l", "name b", "archive m", "name a", "archive n", "name a", "name b",
                "realm r", "load l", "load n", "load m", "realm s");
        desk.dueLook(0, "a", 2);
        desk.dueLook(0, "b", 0);
        desk.dueUsed(0, 1);
        desk.dueUsed(1, 0);
        desk.dueUsed(2, 1);
        desk.dueLook(1, "a", NO_ELEMENT);
    }

    private static void parentLooks() {
        Desk.about("PARENT: that realm LOOKS for it (it is asked as this one was)");
        Desk desk = Desk.with("archive l", "name a", "name b", "name c", "realm g", "load l", "realm i", "load l",
                "realm p", "load l", "parent g", "first", "import b from i", "realm c", "parent p");
        desk.dueLook(3, "a", 0);
        desk.dueAsked(3, 2, 0);
        desk.dueLook(3, "b", 16);
        desk.dueAsked(3, 2, 1);
        desk.dueLook(2, "c", 0);
        desk.dueAsked(2, 0);
        desk.dueLook(3, "c", 0);
        desk.dueAsked(3);
        desk = Desk.with("realm a");
        for (int i = 1; i < 8; i++) {
            desk.dueLine("realm " + (char) ('a' + i), 3);
            desk.dueLine("parent " + (char) ('a' + i - 1), 4);
        }
        desk.dueLook(7, "x", NO_ELEMENT);
        desk.dueAsked(7, 6, 5, 4, 3, 2, 1, 0);
    }

    private static void ringOfParents() {
        Desk.about("a realm that is being asked for it already (its children's parents lead back to it) gives nothing");
        Desk desk = Desk.with("archive l", "name a", "realm r", "load l", "realm s", "parent r", "realm t", "parent s", "first");
        desk.forceParent(0, 2);
        desk.dueLook(2, "b", NO_ELEMENT);
        desk.dueAsked(2, 1, 0);
        desk.dueLook(1, "b", NO_ELEMENT);
        desk.dueAsked(1, 0, 2);
        desk.dueLook(2, "a", 0);
        desk.dueAsked(2, 1, 0);
        desk.dueLook(2, "b", NO_ELEMENT);
        desk.dueAsked(2, 1, 0);
        desk.forceParent(0, 0);
        desk.dueLook(0, "b", NO_ELEMENT);
        desk.dueAsked(0);
    }

    /** No lines make a ring of realms; words can lead back to themselves, but the realm behind the old word went. */
    private static void ringInWordsOnly() {
        Desk.about("a realm that is being asked for it already (its children's parents lead back to it) gives nothing");
        Desk desk = Desk.with("archive l", "name a", "realm r", "realm s", "parent r");
        desk.dueDrop(0, true);
        desk.dueLines(3, "realm r");
        desk.dueLines(4, "parent s", "load l");
        desk.dueLines(ARGUMENT, "parent r");
        desk.dueLook(2, "b", NO_ELEMENT);
        desk.dueAsked(2, 1);
        desk.dueLook(1, "a", NO_ELEMENT);
        desk.dueAsked(1);
        desk.dueLine("first", 4);
        desk.dueLook(2, "a", 32);
        desk.dueAsked(2, 1);
    }

    private static void parentThatWent() {
        Desk.about("and neither does one that went");
        Desk desk = Desk.with("archive l", "name a", "name b", "realm g", "load l", "realm p", "load l", "parent g",
                "realm c", "parent p");
        desk.dueLook(1, "a", 16);
        desk.dueDrop(1, true);
        desk.dueLook(2, "a", NO_ELEMENT);
        desk.dueAsked(2);
        desk.dueLook(2, "b", NO_ELEMENT);
        desk.dueAsked(2);
        desk.dueLines(4, "first", "load l");
        desk.dueLook(2, "b", 32);
        desk.dueAsked(2);
    }

    private static void whereItWasFound() {
        Desk.about("What comes of it is where it was found: a realm that has it ITSELF and the archive");
        Desk desk = Desk.with("archive k", "archive l", "name a", "name b", "name c", "realm g", "realm x", "load l",
                "realm p", "parent x", "import b from x", "realm c", "parent p");
        desk.dueLook(3, "a", 17);
        desk.dueLook(3, "b", 17);
        desk.dueLook(2, "c", 17);
        desk.dueLook(3, "c", 17);
        desk.dueDrop(1, true);
        desk.dueLook(3, "a", 17);
    }

    private static void keptByEachThatLooked() {
        Desk.about("KEPT by each realm that LOOKED for it and found it (not by one that was asked only itself by an import)");
        Desk desk = Desk.with("archive l", "name a", "name b", "realm x", "load l", "realm p", "import a from x",
                "realm q", "parent p", "realm c", "parent q");
        desk.dueLook(3, "a", 0);
        desk.dueKept(0, 0);
        desk.dueKept(1, 1);
        desk.dueKept(2, 1);
        desk.dueKept(3, 1);
        desk.dueLook(3, "b", NO_ELEMENT);
        desk.dueKept(1, 1);
        desk.dueKept(3, 1);
        desk.dueLook(2, "a", 0);
        desk.dueAsked();
        desk.dueLook(0, "a", 0);
        desk.dueAsked(0);
        desk.dueKept(0, 1);
        desk = Desk.with("archive l", "name a", "realm p", "realm c", "load l", "parent p", "first");
        desk.dueLook(1, "a", 16);
        desk.dueAsked(1, 0);
        desk.dueKept(0, 0);
        desk.dueKept(1, 1);
    }
}
