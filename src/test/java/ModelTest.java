/** Many mixed runs of calls, each answer compared with the one of Model; the runs are the same every time. */
public final class ModelTest {
    private static final int RUNS = 6000;
    private static final int CALLS = 512;
    private static final String[] WORDS = {"a", "b", "ab", "c", "self", "abcde", "A"};
    private static final String[] NAMES = {"a", "a.b", "a.b.c", "a.c", "ab", "ab.c", "b", "b.a", "c", "a..b", "a.b.c.a"};
    private static final String[] ODD = {"", " ", "load", "import a b", "self self", "x y z", "import a of b", "- a"};

    private final RealmDesk desk = new RealmDesk();
    private final Model model = new Model();
    private final int run;
    private int calls = 0;
    private int seed;

    private ModelTest(int run) {
        this.run = run;
        this.seed = run * 7919 + 17;
    }

    public static void main(String[] args) {
        for (int run = 0; run < RUNS; run++) {
            new ModelTest(run).go();
        }
        Desk.end();
    }

    private void go() {
        while (calls < CALLS - 60) {
            int kind = below(20);
            if (kind < 11) {
                type(someLine());
                due("line()", answerOfLine(), model.line());
            } else if (kind < 16) {
                type(odd(12) ? " a" : pick(NAMES));
                lookAndCompare(someNumber(8));
            } else if (kind == 16) {
                type(odd(12) ? "a " : pick(WORDS));
                due("realm()", desk.realm(), model.realm());
            } else if (kind == 17 && odd(3)) {
                int realm = someNumber(8);
                due("drop(" + realm + ")", desk.drop(realm) ? 1 : 0, model.drop(realm) ? 1 : 0);
            } else {
                compareCounts();
            }
        }
        compareCounts();
    }

    private void lookAndCompare(int realm) {
        due("look(" + realm + ")", answerOfLook(realm), model.look(realm));
        due("many()", desk.many(), model.many());
        for (int i = 0; i <= Math.min(model.many(), 21); i++) {
            due("asked(" + i + ")", desk.asked(i), model.asked(i));
        }
    }

    private void compareCounts() {
        int number = someNumber(8);
        due("kept(" + number + ")", desk.kept(number), model.kept(number));
        due("used(" + number + ")", desk.used(number), model.used(number));
        int what = below(5) - 1;
        due("count(" + what + ")", desk.count(what), model.count(what));
    }

    private String someLine() {
        switch (below(14)) {
            case 0: return "archive " + pick(WORDS);
            case 1: case 2: case 3: return "name " + pick(NAMES);
            case 4: case 5: return "realm " + pick(WORDS);
            case 6: case 7: return " load  " + pick(WORDS) + " ";
            case 8: case 9: return "import " + pick(NAMES) + " from " + pick(WORDS);
            case 10: case 11: return "parent " + pick(WORDS);
            case 12: return odd(2) ? "first" : "self";
            default: return odd(2) ? "realm " + pick(WORDS) : pick(ODD);
        }
    }

    private void type(String text) {
        for (int i = 0; i < text.length(); i++) {
            write(text.charAt(i));
        }
        if (odd(40)) {
            write((char) below(300));
        }
    }

    private void write(char c) {
        due("write(" + (int) c + ")", desk.write(c) ? 1 : 0, model.write(c) ? 1 : 0);
    }

    private int answerOfLine() {
        try {
            return desk.line();
        } catch (IllegalArgumentException e) {
            return Desk.ARGUMENT;
        } catch (IllegalStateException e) {
            return Desk.STATE;
        }
    }

    private int answerOfLook(int realm) {
        try {
            return desk.look(realm);
        } catch (IllegalArgumentException e) {
            return Desk.ARGUMENT;
        } catch (java.util.NoSuchElementException e) {
            return Desk.NO_ELEMENT;
        }
    }

    private void due(String call, int got, int want) {
        calls++;
        Desk.due("run " + run + ", call " + calls + ": " + call, got, want);
    }

    private int someNumber(int most) {
        return odd(25) ? below(20) - 10 : below(Math.min(most, Math.max(1, model.count(1))));
    }

    private String pick(String[] from) {
        // The last ones are faulty or rare, so they come seldom.
        return from[odd(4) ? below(from.length) : below(Math.min(from.length, 9) - 3)];
    }

    private boolean odd(int of) {
        return below(of) == 0;
    }

    private int below(int bound) {
        seed = seed * 1103515245 + 12345;
        return ((seed >>> 16) & 0x7fff) % bound;
    }
}
