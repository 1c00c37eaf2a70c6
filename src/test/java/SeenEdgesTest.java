/**
 * Edges of what was SEEN, and of KINDS (sections 3 and 4 of the document; promises 17 to
 * 21, 25). Each function is for one sentence, or one part of it, that names a boundary.
 */
public final class SeenEdgesTest {
    private static final int BAD = -1, FULL = -3, NONE = -9, NO = -1000000;
    private static final int LEAST = Integer.MIN_VALUE, MOST = Integer.MAX_VALUE;
    private static final Check check = new Check();

    private static void due(String call, long got, long want) {
        check.due(call, got, want);
    }

    public static void main(String[] args) {
        seenIs6AtMost();
        figuresAre0To9();
        thereIs1Or0();
        nothingWasSeen();
        onOneSideAtLeastOrOnNone();
        justSo();
        allThatWasSeenIsSo();
        lookWithFewerThan2();
        lookWhereNonePartsThem();
        lookForTheLeastGreaterPart();
        lookForTheLowestOfSeveral();
        lookAmongTheseAlone();
        kindsAre0To5();
        marksOfEachKind();
        marksAtTheirEdges();
        theTraceOfEachKind();
        theTraceGoesOn();
        check.end();
    }

    /** "SEEN (6 at most)", "FULL" */
    private static void seenIs6AtMost() {
        DayCubes x = Check.told("c0 1 2 3 4 5;c6 7 8 9 0 1;");
        for (int i = 1; i <= 6; i++) {
            due("sees number " + i, x.sees(i - 1, 1), i);
        }
        due("a seventh", x.sees(9, 1), FULL);
        due("a seventh, seen already", x.sees(0, 1), FULL);
        due("bad ahead of full", x.sees(10, 1), BAD);
        due("bad ahead of full", x.sees(0, 2), BAD);
        due("six", x.count(3), 6);
        due("the seventh is not among them", x.which(), 1);
        due("forget", x.forget(), 6);
        due("one again", x.sees(9, 1), 1);
        due("which", x.which(), 2);
        DayCubes y = new DayCubes();
        for (int i = 1; i <= 6; i++) {
            due("one and the same, without cubes", y.sees(9, 0), i);
        }
        due("a seventh", y.sees(9, 0), FULL);
    }

    private static void figuresAre0To9() {
        DayCubes x = Check.told("c0 0 0 0 0 0;c9 9 9 9 9 9;");
        for (int figure : new int[] {-1, 10, 32, LEAST, MOST}) {
            due("sees(" + figure + ", 1)", x.sees(figure, 1), BAD);
            due("sees(" + figure + ", 0)", x.sees(figure, 0), BAD);
        }
        due("nothing", x.count(3), 0);
        due("the lowest", x.sees(0, 1), 1);
        due("which", x.which(), 1);
        x.forget();
        due("the highest", x.sees(9, 1), 1);
        due("which", x.which(), 2);
    }

    /** "on one SIDE at least (1), or on none (0)" */
    private static void thereIs1Or0() {
        DayCubes x = Check.told("c0 0 0 0 0 0;");
        for (int there : new int[] {-1, 2, LEAST, MOST}) {
            due("sees(0, " + there + ")", x.sees(0, there), BAD);
        }
        due("nothing", x.count(3), 0);
        due("all may be", x.which(), 1);
    }

    /** "Nothing was SEEN: how much was." */
    private static void nothingWasSeen() {
        DayCubes x = Check.told("c0 1 2 3 4 5;c6 7 8 9 0 1;c0 0 0 0 0 0;c9 9 9 9 9 9;");
        due("at first", x.forget(), 0);
        due("all", x.which(), 15);
        for (int i = 1; i <= 6; i++) {
            x.sees(i, 1);
            x.sees(i, 0);
        }
        due("none", x.which(), 0);
        due("six at most", x.forget(), 6);
        due("again", x.forget(), 0);
        due("all", x.which(), 15);
        for (int cubes = 0; cubes <= 4; cubes++) {
            due("all of " + cubes, Check.told("c0 0 0 0 0 0;".repeat(cubes)).which(), (1 << cubes) - 1);
        }
    }

    private static void onOneSideAtLeastOrOnNone() {
        for (int s = 0; s < 6; s++) {
            DayCubes x = Check.told("c1 1 1 1 1 1;c2 2 2 2 2 2;");
            x.pastes(0, s, 5);
            x.sees(5, 1);
            due("on side " + s, x.which(), 1);
            x.forget();
            x.sees(5, 0);
            due("on none", x.which(), 2);
            x.undo();
            due("on none of both", x.which(), 3);
            x.forget();
            x.sees(1, 1);
            x.pastes(0, s, 5);
            due("on five sides", x.which(), 1);
        }
        DayCubes y = Check.told("c1 1 1 1 1 1;");
        y.turn(0, 5);
        y.sees(1, 1);
        y.sees(1, 1);
        due("seen twice, on more sides than one", y.which(), 1);
    }

    /** "a FIGURE, just so": a 6 is no 9 here, with BOTH, too */
    private static void justSo() {
        for (String both : new String[] {"", "b;"}) {
            DayCubes x = Check.told(both + "c6 6 6 6 6 6;c9 9 9 9 9 9;c6 9 6 9 6 9;");
            x.sees(6, 1);
            due("6 there", x.which(), 1 + 4);
            due("look", x.look(), 9);
            x.sees(9, 0);
            due("and no 9", x.which(), 1);
            x.forget();
            x.sees(9, 1);
            due("9 there", x.which(), 2 + 4);
            due("look", x.look(), 6);
        }
    }

    /** "WHICH: CUBES (bits) by which all that was SEEN is so." */
    private static void allThatWasSeenIsSo() {
        DayCubes x = Check.told("c0 1 2 3 4 5;c0 1 2 3 4 6;c0 1 2 3 7 6;c0 1 2 8 7 6;");
        int[] figures = {0, 1, 2, 3, 4, 5};
        int[] which = {15, 15, 15, 7, 3, 1};
        for (int i = 0; i < 6; i++) {
            x.sees(figures[i], 1);
            due("the first " + (i + 1), x.which(), which[i]);
        }
        DayCubes y = Check.told("c0 1 2 3 4 5;c0 1 2 3 4 6;");
        y.sees(9, 0);
        y.sees(8, 0);
        y.sees(7, 0);
        y.sees(0, 1);
        y.sees(1, 1);
        due("five", y.which(), 3);
        y.sees(5, 0);
        due("the sixth counts", y.which(), 2);
        DayCubes z = Check.told("c0 1 2 3 4 5;");
        z.sees(0, 1);
        z.sees(0, 0);
        due("it was there, it was not", z.which(), 0);
        due("without cubes", new DayCubes().which(), 0);
    }

    /** LOOK: "NONE (fewer than 2 ..)" */
    private static void lookWithFewerThan2() {
        due("without cubes", new DayCubes().look(), NONE);
        due("one cube", Check.told("c0 1 2 3 4 5;").look(), NONE);
        DayCubes x = Check.told("c0 1 2 3 4 5;c0 1 2 3 4 6;");
        due("two", x.look(), 5);
        x.sees(5, 1);
        due("one of two", x.look(), NONE);
        x.sees(5, 0);
        due("none of two", x.look(), NONE);
        x.forget();
        due("two again", x.look(), 5);
    }

    /** LOOK: "NONE (.. none parts them)" */
    private static void lookWhereNonePartsThem() {
        due("alike", Check.told("c0 1 2 3 4 5;c0 1 2 3 4 5;").look(), NONE);
        due("alike in another order", Check.told("c0 1 2 3 4 5;c5 4 3 2 1 0;").look(), NONE);
        due("alike, one more often", Check.told("c0 0 0 0 0 1;c0 1 1 1 1 1;").look(), NONE);
        due("four alike", Check.told("c7 7 7 7 7 7;".repeat(4)).look(), NONE);
        DayCubes x = Check.told("c0 1 2 3 4 5;c5 4 3 2 1 0;c9 9 9 9 9 9;");
        due("three", x.look(), 0);
        x.sees(9, 0);
        due("the two that are left are alike", x.look(), NONE);
        x.pastes(1, 0, 8);
        due("a figure pasted parts them", x.look(), 5);
    }

    /** "the FIGURE by which, there or not, the greater part of these is least" */
    private static void lookForTheLeastGreaterPart() {
        due("two and two rather than one and three",
            Check.told("c0 8 8 8 8 8;c8 8 8 8 9 9;c8 8 8 8 8 9;c8 8 8 8 8 8;").look(), 9);
        due("one and three, if there is no better",
            Check.told("c8 8 8 8 8 8;c8 8 8 8 8 8;c8 8 8 8 8 3;c8 8 8 8 8 8;").look(), 3);
        due("three and one, if there is no better",
            Check.told("c8 4 8 8 8 8;c8 4 8 8 8 8;c8 8 8 8 8 8;c8 4 8 8 8 8;").look(), 4);
        due("of three", Check.told("c8 8 8 8 8 8;c8 8 8 8 8 9;c8 8 8 8 9 9;").look(), 9);
    }

    /** "of several the lowest" */
    private static void lookForTheLowestOfSeveral() {
        due("0 and 9", Check.told("c0 5 5 5 5 5;c9 5 5 5 5 5;").look(), 0);
        due("8 and 9", Check.told("c9 5 5 5 5 5;c8 5 5 5 5 5;").look(), 8);
        due("two and two by 1, 2, 3", Check.told("c3 3 3 3 3 3;c2 2 2 3 3 3;c1 1 1 2 2 2;c1 1 1 1 1 1;").look(), 1);
        due("one and two is like two and one", Check.told("c0 0 0 0 0 1;c1 1 1 1 1 1;c2 2 2 2 2 2;").look(), 0);
        due("two and one is like one and two", Check.told("c1 1 1 1 1 0;c1 1 1 1 1 0;c2 2 2 2 2 2;").look(), 0);
    }

    /** "of these": CUBES that can't be it don't count */
    private static void lookAmongTheseAlone() {
        DayCubes x = Check.told("c0 1 1 1 1 1;c0 2 2 2 2 2;c3 3 3 3 3 3;c3 3 3 3 3 4;");
        due("all", x.look(), 0);
        x.sees(0, 1);
        due("the first two", x.look(), 1);
        x.forget();
        x.sees(0, 0);
        due("the last two", x.look(), 4);
        due("nothing is seen by it", x.count(3), 1);
    }

    /** "KINDS of CUBES ..: 0 CUBE; 1 OAK, 2 BONE, 5 CHALK ..; 3 IVORY ..; 4 HORN", "NO: BAD" */
    private static void kindsAre0To5() {
        DayCubes x = Check.told("c5 5 5 5 5 5;c5 5 5 5 5 5;");
        for (int kind : new int[] {-1, 6, LEAST, MOST}) {
            due("mark(" + kind + ", 0)", x.mark(kind, 0), NO);
        }
        for (int c : new int[] {-1, 2, 715827883, LEAST, MOST}) {
            for (int kind = 0; kind <= 5; kind++) {
                due("mark(" + kind + ", " + c + ")", x.mark(kind, c), NO);
            }
        }
        for (int kind = 0; kind <= 5; kind++) {
            due("without cubes", new DayCubes().mark(kind, 0), NO);
        }
        due("no trace of these", x.trace(), 0);
    }

    /** Each KIND by itself, with FIGURE 7, PLACE 2, three unlike FIGURES, CUBE 1, WORK 4. */
    private static void marksOfEachKind() {
        DayCubes x = Check.told("c0 0 0 0 0 0;c1 1 1 7 2 2;c0 0 0 0 0 0;");
        x.changes(1, 2);
        x.turn(1, 3);
        x.turn(0, 5);
        due("CUBE", x.mark(0, 1), 7);
        due("OAK", x.mark(1, 1), 7 + 2);
        due("BONE", x.mark(2, 1), 7 - 3);
        due("IVORY", x.mark(3, 1), (7 + 2) * 2);
        due("HORN", x.mark(4, 1), 7 - 3 + 1);
        due("CHALK", x.mark(5, 1), 7 + 4);
        due("nothing is done by it", x.now(0), 4);
        x.pastes(1, 3, 9);
        due("the figure now", x.mark(0, 1), 9);
        x.pastes(1, 0, 8);
        due("unlike ones now", x.mark(2, 1), 9 - 4);
    }

    /** The lowest and the highest that a KIND may say. */
    private static void marksAtTheirEdges() {
        DayCubes x = Check.told("c0 1 2 3 4 5;c9 9 9 9 9 9;c8 8 8 8 8 8;c9 6 6 6 6 6;b;");
        due("BONE below 0", x.mark(2, 0), -6);
        due("HORN below 0", x.mark(4, 0), -6);
        due("OAK 0", x.mark(1, 0), 0);
        due("IVORY 0", x.mark(3, 0), 0);
        due("OAK at the last place", x.mark(1, 3), 12);
        due("IVORY at the last place", x.mark(3, 3), 24);
        due("one figure six times", x.mark(2, 1), 8);
        due("6 and 9 are unlike, with both, too", x.mark(2, 3), 7);
        due("HORN of the last cube", x.mark(4, 3), 10);
        due("CHALK without work", x.mark(5, 3), 9);
    }

    /** "numbers in brackets come to THE TRACE as often as mark() asks that body" */
    private static void theTraceOfEachKind() {
        int[] trace = {1, 1 + 10, 1 + 100, 1 + 10 + 1000, 1 + 100 + 10000, 1 + 100000};
        for (int kind = 0; kind <= 5; kind++) {
            DayCubes x = Check.told("c0 1 2 3 4 5;");
            due("at first", x.trace(), 0);
            x.mark(kind, 0);
            due("trace of kind " + kind, x.trace(), trace[kind]);
            x.mark(kind, 0);
            due("trace of kind " + kind + ", twice", x.trace(), 2 * trace[kind]);
        }
    }

    /** Nothing but mark() comes to THE TRACE, and nothing takes it away. */
    private static void theTraceGoesOn() {
        DayCubes x = Check.told("c0 1 2 3 4 5;");
        x.keep(0);
        x.mark(5, 0);
        x.mark(6, 0);
        x.mark(5, 1);
        x.turn(0, 1);
        x.undo();
        x.back(0);
        x.forget();
        x.clear();
        due("trace", x.trace(), 100001);
        Check.tell(x, "c0 1 2 3 4 5;");
        due("read anew", x.trace(), 100001);
        // so many that the object is used for 512 calls at most
        for (int i = 1; i <= 460; i++) {
            x.mark(5, 0);
        }
        due("as much as there may be", x.trace(), 461L * 100001);
    }
}
