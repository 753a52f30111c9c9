/** Promises 4 to 8: look, many, asked, kept and used. */
public final class LookTest {
    private static final int ARGUMENT = Desk.ARGUMENT;
    private static final int NO_ELEMENT = Desk.NO_ELEMENT;

    public static void main(String[] args) {
        wrongLooks();
        lineIsEmptyBehindLooking();
        answerTellsRealmAndArchive();
        firstArchiveThatHasIt();
        selfFirstAndParentFirst();
        importsComeBeforeBoth();
        packagesOfImports();
        narrowestImportFirst();
        importsAlikeInTheirOrder();
        importAsksOnlyItself();
        importOfOneThatWent();
        importAndParentAreTheSameRealm();
        parentUsesItsOwnImportsAndOrder();
        eightRealmsInARow();
        parentFirstAllTheWay();
        parentThatWent();
        parentIsReplaced();
        keptStaysWhenTheWorldChanges();
        notFoundIsNotKept();
        keptByTheParentIsNotAsked();
        keptByEachThatLooked();
        usedCountsFindsOnly();
        manyStaysBehindAWrongLook();
        onlyTwentyAreTold();
        wrongNumbers();
        Desk.end();
    }

    private static void wrongLooks() {
        Desk desk = Desk.with("archive l", "name a", "name b", "realm r", "load l", "realm s");
        desk.dueLook(0, "", ARGUMENT);
        desk.dueLook(0, " a", ARGUMENT);
        desk.dueLook(0, "a ", ARGUMENT);
        desk.dueLook(0, "a b", ARGUMENT);
        desk.dueLook(0, "name a", ARGUMENT);
        desk.dueLook(0, "A", ARGUMENT);
        desk.dueLook(-1, "a", ARGUMENT);
        desk.dueLook(2, "a", ARGUMENT);
        desk.dueLook(Integer.MAX_VALUE, "a", ARGUMENT);
        desk.dueLook(Integer.MIN_VALUE, "a", ARGUMENT);
        desk.dueLook(1, "a", NO_ELEMENT);
        desk.dueLook(0, "c", NO_ELEMENT);
        desk.dueLook(0, "a.b", NO_ELEMENT);
        desk.dueLook(0, "a", 0);
        desk.dueDrop(0, true);
        desk.dueLook(0, "a", ARGUMENT);
        desk.dueLook(0, "b", ARGUMENT);
    }

    private static void lineIsEmptyBehindLooking() {
        Desk desk = Desk.with("archive l", "name a", "realm r", "load l");
        desk.dueLook(0, "a", 0);
        Desk.due("behind what was found", desk.line(), 0);
        desk.dueLook(0, "b", NO_ELEMENT);
        Desk.due("behind what was not found", desk.line(), 0);
        desk.dueLook(0, "..", ARGUMENT);
        Desk.due("behind no name", desk.line(), 0);
        desk.dueLook(7, "a", ARGUMENT);
        Desk.due("behind no realm", desk.line(), 0);
    }

    private static void answerTellsRealmAndArchive() {
        Desk desk = Desk.with("archive l", "archive m", "archive n", "name a.b.c", "realm r", "realm s", "realm t", "load n");
        desk.dueLook(2, "a.b.c", 34);
        desk.dueAsked(2);
    }

    private static void firstArchiveThatHasIt() {
        Desk desk = Desk.with("archive l", "name b", "name a", "archive m", "name a", "archive n", "name a",
                "realm r", "load n", "load l", "load m", "realm s", "load m", "load l");
        desk.dueLook(0, "a", 2);
        desk.dueLook(0, "b", 0);
        desk.dueLook(1, "a", 17);
        desk.dueLook(1, "b", 16);
        desk.dueUsed(0, 2);
        desk.dueUsed(1, 1);
        desk.dueUsed(2, 1);
    }

    private static void selfFirstAndParentFirst() {
        Desk desk = Desk.with("archive l", "name a", "name b", "name c", "archive m", "name a", "name b", "name d",
                "realm r", "load l", "realm s", "load m", "parent r");
        desk.dueLook(1, "a", 17);
        desk.dueAsked(1);
        desk.dueLook(1, "c", 0);
        desk.dueAsked(1, 0);
        desk.dueLine("first", 4);
        desk.dueLook(1, "b", 0);
        desk.dueAsked(1, 0);
        desk.dueLook(1, "d", 17);
        desk.dueAsked(1, 0);
        desk.dueLook(1, "e", NO_ELEMENT);
        desk.dueAsked(1, 0);
        desk.dueLine("self", 4);
        desk.dueLook(1, "e", NO_ELEMENT);
        desk.dueAsked(1, 0);
        desk.dueKept(0, 2);
        desk.dueKept(1, 4);
    }

    private static void importsComeBeforeBoth() {
        Desk desk = Desk.with("archive l", "name a", "name a.b", "realm i", "load l", "realm p", "load l",
                "realm s", "load l", "parent p", "import a from i");
        desk.dueLook(2, "a", 0);
        desk.dueAsked(2, 0);
        desk.dueLine("first", 4);
        desk.dueLook(2, "a.b", 0);
        desk.dueAsked(2, 0);
        desk.dueLook(2, "a.c", NO_ELEMENT);
        desk.dueAsked(2, 0, 1);
        desk.dueKept(0, 0);
        desk.dueKept(1, 0);
        desk.dueKept(2, 2);
    }

    private static void packagesOfImports() {
        Desk desk = Desk.with("archive l", "name a.b", "name a.b.c", "name a.bc", "name a", "name b.a", "name ab",
                "realm i", "load l", "realm s", "import a.b from i");
        desk.dueLook(1, "a", NO_ELEMENT);
        desk.dueAsked(1);
        desk.dueLook(1, "a.bc", NO_ELEMENT);
        desk.dueAsked(1);
        desk.dueLook(1, "b.a", NO_ELEMENT);
        desk.dueAsked(1);
        desk.dueLook(1, "ab", NO_ELEMENT);
        desk.dueAsked(1);
        desk.dueLook(1, "a.b", 0);
        desk.dueAsked(1, 0);
        desk.dueLook(1, "a.b.c", 0);
        desk.dueAsked(1, 0);
        desk.dueLook(1, "a.b.d", NO_ELEMENT);
        desk.dueAsked(1, 0);
        desk.dueLook(1, "x.a.b", NO_ELEMENT);
        desk.dueAsked(1);
    }

    private static void narrowestImportFirst() {
        Desk desk = Desk.with("archive l", "name a.b.c", "realm i", "load l", "realm j", "realm k", "load l",
                "realm s", "import a from i", "import a.b.c from j", "import a.b from k");
        desk.dueLook(3, "a.b.c", 32);
        desk.dueAsked(3, 1, 2);
        desk.dueLook(3, "a.b.d", NO_ELEMENT);
        desk.dueAsked(3, 2, 0);
        desk.dueLook(3, "a", NO_ELEMENT);
        desk.dueAsked(3, 0);
    }

    private static void importsAlikeInTheirOrder() {
        Desk desk = Desk.with("archive l", "name a.b", "realm i", "load l", "realm j", "load l", "realm k",
                "realm s", "import a from k", "import a from j", "import b from i", "import a from i");
        desk.dueLook(3, "a.b", 16);
        desk.dueAsked(3, 2, 1);
        desk.dueLook(3, "a.c", NO_ELEMENT);
        desk.dueAsked(3, 2, 1, 0);
        desk = Desk.with("realm i", "realm s", "import a from i", "import a.b from i", "import a from i");
        desk.dueLook(1, "a.b", NO_ELEMENT);
        desk.dueAsked(1, 0, 0, 0);
    }

    private static void importAsksOnlyItself() {
        Desk desk = Desk.with("archive l", "name a.b", "realm p", "load l", "realm i", "parent p", "import a from p",
                "realm s", "import a from i");
        desk.dueLook(2, "a.b", NO_ELEMENT);
        desk.dueAsked(2, 1);
        desk.dueLook(1, "a.b", 0);
        desk.dueLook(2, "a.b", NO_ELEMENT);
        desk.dueAsked(2, 1);
        desk.dueKept(1, 1);
        desk.dueKept(2, 0);
    }

    private static void importOfOneThatWent() {
        Desk desk = Desk.with("archive l", "name a.b", "name a.c", "realm i", "load l", "realm j", "load l",
                "realm s", "import a from i", "import a from j");
        desk.dueLook(2, "a.b", 0);
        desk.dueDrop(0, true);
        desk.dueLook(2, "a.c", 16);
        desk.dueAsked(2, 1);
        desk.dueLook(2, "a.b", 0);
        desk.dueAsked();
        desk.dueDrop(1, true);
        desk.dueLook(2, "a.d", NO_ELEMENT);
        desk.dueAsked(2);
    }

    private static void importAndParentAreTheSameRealm() {
        Desk desk = Desk.with("archive l", "name a", "name b", "realm c", "load l",
                "realm p", "import a from c", "parent c");
        desk.dueLook(1, "a.b", NO_ELEMENT);
        desk.dueAsked(1, 0, 0);
        desk.dueLook(1, "a", 0);
        desk.dueAsked(1, 0);
        desk.dueKept(0, 0);
        desk.dueLook(1, "b", 0);
        desk.dueAsked(1, 0);
        desk.dueKept(0, 1);
        desk.dueLook(0, "b", 0);
        desk.dueAsked();
    }

    private static void parentUsesItsOwnImportsAndOrder() {
        Desk desk = Desk.with("archive l", "name a", "name b", "realm g", "load l", "realm i", "load l",
                "realm p", "load l", "parent g", "first", "import b from i", "realm c", "parent p");
        desk.dueLook(3, "a", 0);
        desk.dueAsked(3, 2, 0);
        desk.dueLook(3, "b", 16);
        desk.dueAsked(3, 2, 1);
        desk.dueLook(3, "d", NO_ELEMENT);
        desk.dueAsked(3, 2, 0);
        desk.dueKept(0, 1);
        desk.dueKept(1, 0);
        desk.dueKept(2, 2);
        desk.dueKept(3, 2);
    }

    private static void eightRealmsInARow() {
        Desk desk = Desk.with("archive l", "name a", "realm a", "load l");
        for (int i = 1; i < 8; i++) {
            desk.dueLine("realm " + (char) ('a' + i), 3);
            desk.dueLine("parent " + (char) ('a' + i - 1), 4);
        }
        desk.dueLook(7, "b", NO_ELEMENT);
        desk.dueAsked(7, 6, 5, 4, 3, 2, 1, 0);
        desk.dueLook(7, "a", 0);
        desk.dueAsked(7, 6, 5, 4, 3, 2, 1, 0);
        for (int i = 0; i < 8; i++) {
            desk.dueKept(i, 1);
        }
        desk.dueUsed(0, 1);
    }

    private static void parentFirstAllTheWay() {
        Desk desk = Desk.with("archive l", "name a", "archive m", "name a", "name b", "archive n", "name a", "name b",
                "realm g", "first", "load l", "realm p", "parent g", "first", "load m",
                "realm c", "parent p", "first", "load n");
        desk.dueLook(2, "b", 17);
        desk.dueAsked(2, 1, 0);
        desk.dueKept(0, 0);
        desk.dueLook(2, "a", 0);
        desk.dueAsked(2, 1, 0);
        desk.dueKept(0, 1);
        desk.dueKept(1, 2);
        desk.dueKept(2, 2);
        desk.dueUsed(2, 0);
    }

    private static void parentThatWent() {
        Desk desk = Desk.with("archive l", "name a", "name b", "realm g", "load l", "realm p", "parent g",
                "realm c", "parent p");
        desk.dueLook(1, "a", 0);
        desk.dueDrop(1, true);
        desk.dueLook(2, "a", NO_ELEMENT);
        desk.dueAsked(2);
        desk.dueLook(2, "b", NO_ELEMENT);
        desk.dueAsked(2);
        desk.dueLine("realm p", 3);
        desk.dueLine("load l", 4);
        desk.dueLook(2, "a", NO_ELEMENT);
        desk.dueAsked(2);
    }

    private static void parentIsReplaced() {
        Desk desk = Desk.with("archive l", "name a", "realm p", "load l", "realm q", "realm c", "parent p", "parent q");
        desk.dueLook(2, "a", NO_ELEMENT);
        desk.dueAsked(2, 1);
        desk.dueLine("parent p", 4);
        desk.dueLook(2, "a", 0);
        desk.dueAsked(2, 0);
    }

    private static void keptStaysWhenTheWorldChanges() {
        Desk desk = Desk.with("archive l", "name a", "archive m", "name a", "realm p", "load l", "realm c", "parent p");
        desk.dueLook(1, "a", 0);
        desk.dueLine("load m", 4);
        desk.dueLook(1, "a", 0);
        desk.dueAsked();
        desk.dueDrop(0, true);
        desk.dueLook(1, "a", 0);
        desk.dueAsked();
        desk.dueKept(1, 1);
        desk.dueUsed(0, 1);
        desk.dueUsed(1, 0);
    }

    private static void notFoundIsNotKept() {
        Desk desk = Desk.with("archive l", "realm r", "load l");
        desk.dueLook(0, "a", NO_ELEMENT);
        desk.dueKept(0, 0);
        desk.dueLine("name a", 2);
        desk.dueLook(0, "a", 0);
        desk.dueKept(0, 1);
        desk.dueLook(0, "a", 0);
        desk.dueKept(0, 1);
    }

    private static void keptByTheParentIsNotAsked() {
        Desk desk = Desk.with("archive l", "name a", "realm g", "load l", "realm p", "parent g", "realm c", "parent p");
        desk.dueLook(1, "a", 0);
        desk.dueAsked(1, 0);
        desk.dueDrop(0, true);
        desk.dueLook(2, "a", 0);
        desk.dueAsked(2);
        desk.dueKept(2, 1);
        desk.dueUsed(0, 1);
    }

    private static void keptByEachThatLooked() {
        Desk desk = Desk.with("archive l", "name a", "realm i", "load l", "realm g", "import a from i",
                "realm p", "parent g", "realm c", "parent p");
        desk.dueLook(3, "a", 0);
        desk.dueAsked(3, 2, 1, 0);
        desk.dueKept(0, 0);
        desk.dueKept(1, 1);
        desk.dueKept(2, 1);
        desk.dueKept(3, 1);
        desk.dueUsed(0, 1);
        desk.dueLook(0, "a", 0);
        desk.dueAsked(0);
        desk.dueUsed(0, 2);
    }

    private static void usedCountsFindsOnly() {
        Desk desk = Desk.with("archive l", "name a", "name b", "realm r", "load l", "realm s", "load l");
        desk.dueUsed(0, 0);
        desk.dueLook(0, "a", 0);
        desk.dueLook(0, "a", 0);
        desk.dueUsed(0, 1);
        desk.dueLook(0, "c", NO_ELEMENT);
        desk.dueUsed(0, 1);
        desk.dueLook(0, "b", 0);
        desk.dueLook(1, "a", 16);
        desk.dueUsed(0, 3);
        desk.dueDrop(0, true);
        desk.dueUsed(0, 3);
    }

    private static void manyStaysBehindAWrongLook() {
        Desk desk = Desk.with("archive l", "name a", "realm r", "load l", "realm s", "parent r");
        desk.dueLook(1, "b", NO_ELEMENT);
        desk.dueAsked(1, 0);
        desk.dueLook(1, "..", ARGUMENT);
        desk.dueLook(2, "a", ARGUMENT);
        desk.dueLine("x", ARGUMENT);
        desk.dueDrop(0, true);
        desk.dueAsked(1, 0);
        desk.dueLook(1, "a", NO_ELEMENT);
        desk.dueAsked(1);
    }

    private static void onlyTwentyAreTold() {
        Desk desk = Desk.with("realm z");
        for (int i = 0; i < 5; i++) {
            desk.dueLine("realm " + (char) ('a' + i), 3);
            for (int k = 0; k < 4; k++) {
                desk.dueLine("import x from z", 4);
            }
            if (i > 0) {
                desk.dueLine("parent " + (char) ('a' + i - 1), 4);
            }
        }
        desk.dueLook(4, "x", NO_ELEMENT);
        Desk.due("many() of 20", desk.many(), 20);
        Desk.due("asked(19) of 20", desk.asked(19), 0);
        Desk.due("asked(20) of 20", desk.asked(20), -1);
        desk.dueLook(5, "x", NO_ELEMENT);
        Desk.due("many() of 25", desk.many(), 25);
        for (int i = 0; i < 20; i++) {
            int want = i % 5 == 0 ? 5 - i / 5 : 0;
            Desk.due("asked(" + i + ") of 25", desk.asked(i), want);
        }
        Desk.due("asked(20) of 25", desk.asked(20), -1);
        Desk.due("asked(24) of 25", desk.asked(24), -1);
        desk.dueLook(0, "x", NO_ELEMENT);
        desk.dueAsked(0);
    }

    private static void wrongNumbers() {
        Desk desk = Desk.with("archive l", "name a", "realm r", "load l");
        desk.dueLook(0, "a", 0);
        int[] wrong = {-1, 1, 6, 8, 20, Integer.MAX_VALUE, Integer.MIN_VALUE};
        for (int i : wrong) {
            Desk.due("asked(" + i + ")", desk.asked(i), -1);
            desk.dueKept(i, -1);
            desk.dueUsed(i, -1);
        }
        Desk.due("asked(0)", desk.asked(0), 0);
        desk.dueKept(0, 1);
        desk.dueUsed(0, 1);
        desk.dueDrop(0, true);
        desk.dueKept(0, -1);
    }
}
