/**
 * Edges of what is done and undone, and of IMAGES (sections 2 and 4 of the document;
 * promises 1, 5 to 7, 9 to 12, 22 to 24). Each function is for one sentence, or one part
 * of it, that names a boundary.
 */
public final class DeedEdgesTest {
    private static final int BAD = -1, STATE = -2;
    private static final int LEAST = Integer.MIN_VALUE, MOST = Integer.MAX_VALUE;
    private static final String CUBE = "c0 1 2 3 4 5;";
    private static final String FOUR = "c0 1 2 3 4 5;c6 7 8 9 0 1;c2 3 4 5 6 7;c8 9 0 1 2 3;";
    private static final Check check = new Check();

    private static void due(String call, long got, long want) {
        check.due(call, got, want);
    }

    public static void main(String[] args) {
        atFirstCubeKIsAtPlaceK();
        thereAreAsManyPlacesAsCubes();
        thereAreNoSuchCubesOrSides();
        aSideLiesOverAgainst5LessIt();
        aSideInFrontIsNotTurnedTo();
        twoPlacesChangeTheirCubes();
        alikePlacesDontChange();
        pastedIsAnotherFigure();
        pastedIsNoWork();
        workIs9999AtMost();
        tenAreKnownOlderOnesAreLost();
        allIsAsAheadOfIt();
        whatIsUndoneIsGone();
        refusedCallsCantBeUndone();
        imagesAre0And1();
        noneWasKept();
        anImageKeepsNow();
        anImageKeepsWhatMayBeUndone();
        anImageKeepsNothingElse();
        anImageIsKeptAnew();
        countHasSixNumbers();
        figuresThatACubeHas();
        anObjectIsUsedFor512Calls();
        check.end();
    }

    /** "At first CUBE k is at PLACE k, each with SIDE 0 in FRONT; no WORK was done." */
    private static void atFirstCubeKIsAtPlaceK() {
        for (int cubes = 0; cubes <= 4; cubes++) {
            DayCubes x = Check.told(CUBE.repeat(cubes));
            for (int k = 0; k < cubes; k++) {
                due("place of " + k, x.cube(k, 0), k);
                due("front of " + k, x.cube(k, 1), 0);
                due("cube at " + k, x.place(k), k);
            }
            due("work", x.now(0), 0);
            due("may be undone", x.count(4), 0);
            due("undo", x.undo(), STATE);
        }
        due("a new object has no cubes", new DayCubes().count(0), 0);
    }

    /** "PLACES, from the left to the right, are as many as CUBES." */
    private static void thereAreAsManyPlacesAsCubes() {
        for (int cubes = 0; cubes <= 4; cubes++) {
            DayCubes x = Check.told(FOUR.substring(0, 13 * cubes));
            due("the last place", x.place(cubes - 1), cubes == 0 ? BAD : cubes - 1);
            due("one behind it", x.place(cubes), BAD);
            due("one ahead of the first", x.place(-1), BAD);
            due("changes with the one behind", x.changes(0, cubes), BAD);
            due("changes with the one behind", x.changes(cubes, 0), BAD);
            due("far", x.place(LEAST), BAD);
            due("far", x.place(MOST), BAD);
            due("nothing was done", x.count(4), 0);
        }
        due("from the left", Check.told(FOUR).now(1), 628);
    }

    /** "BAD (.. there is no such thing)": CUBES and SIDES; numbers that wrap around, too */
    private static void thereAreNoSuchCubesOrSides() {
        // six times the third is 2, if it wraps around
        int[] noCubes = {-1, 4, 715827883, LEAST, MOST};
        int[] noSides = {-1, 6, LEAST, MOST};
        DayCubes x = Check.told(FOUR);
        for (int c : noCubes) {
            due("side(" + c + ", 0)", x.side(c, 0), BAD);
            for (int what = 0; what < 4; what++) {
                due("cube(" + c + ", " + what + ")", x.cube(c, what), BAD);
            }
            due("turn(" + c + ", 1)", x.turn(c, 1), BAD);
            due("pastes(" + c + ", 0, 9)", x.pastes(c, 0, 9), BAD);
        }
        for (int s : noSides) {
            due("side(1, " + s + ")", x.side(1, s), BAD);
            due("turn(1, " + s + ")", x.turn(1, s), BAD);
            due("pastes(1, " + s + ", 9)", x.pastes(1, s, 9), BAD);
        }
        for (int what : new int[] {-1, 4, LEAST, MOST}) {
            due("cube(0, " + what + ")", x.cube(0, what), BAD);
        }
        due("nothing was done", x.count(4), 0);
        DayCubes none = new DayCubes();
        due("side without cubes", none.side(0, 0), BAD);
        due("cube without cubes", none.cube(0, 0), BAD);
        due("turn without cubes", none.turn(0, 0), BAD);
        due("changes without cubes", none.changes(0, 1), BAD);
        due("pastes without cubes", none.pastes(0, 0, 0), BAD);
    }

    /** "SIDE s lies over against SIDE 5 less s", "WORK is 1 more, 2 if that lies over against" */
    private static void aSideLiesOverAgainst5LessIt() {
        for (int from = 0; from < 6; from++) {
            for (int to = 0; to < 6; to++) {
                DayCubes x = Check.told(FOUR);
                if (from != 0) {
                    x.turn(2, from);
                }
                int ahead = x.now(0);
                int more = to == 5 - from ? 2 : 1;
                due("turn from " + from + " to " + to, x.turn(2, to), from == to ? STATE : ahead + more);
                due("work then", x.now(0), from == to ? ahead : ahead + more);
                due("front then", x.cube(2, 1), to);
                due("another cube's front", x.cube(1, 1), 0);
            }
        }
    }

    /** "STATE: it is in FRONT" */
    private static void aSideInFrontIsNotTurnedTo() {
        DayCubes x = Check.told(FOUR);
        due("at first", x.turn(3, 0), STATE);
        x.turn(3, 4);
        due("turned", x.turn(3, 4), STATE);
        x.undo();
        due("undone", x.turn(3, 0), STATE);
        due("no work", x.now(0), 0);
        due("nothing to be undone", x.count(4), 0);
        due("a like figure on another side is no such thing", Check.told("c7 7 7 7 7 7;").turn(0, 1), 1);
    }

    /** "CHANGED: two PLACES change their CUBES: WORK is 1 more." */
    private static void twoPlacesChangeTheirCubes() {
        for (int p = 0; p < 4; p++) {
            for (int q = 0; q < 4; q++) {
                DayCubes x = Check.told(FOUR);
                due("changes(" + p + ", " + q + ")", x.changes(p, q), p == q ? BAD : 1);
                due("at p", x.place(p), q);
                due("at q", x.place(q), p);
                for (int c = 0; c < 4; c++) {
                    int want = c == p ? q : c == q ? p : c;
                    due("place of " + c, x.cube(c, 0), want);
                    due("cube at " + c, x.place(c), want);
                }
            }
        }
        DayCubes x = Check.told(FOUR);
        x.changes(0, 1);
        due("by places, not by cubes", x.changes(0, 2), 2);
        due("at 0", x.place(0), 2);
        due("at 1", x.place(1), 0);
        due("at 2", x.place(2), 1);
    }

    /** "BAD (alike ones, too)" */
    private static void alikePlacesDontChange() {
        DayCubes x = Check.told(FOUR);
        int[] places = {-1, 0, 1, 2, 3, 4, LEAST, MOST};
        for (int p : places) {
            due("changes(" + p + ", " + p + ")", x.changes(p, p), BAD);
        }
        for (int p : new int[] {-1, 4, LEAST, MOST}) {
            due("changes(0, " + p + ")", x.changes(0, p), BAD);
            due("changes(" + p + ", 3)", x.changes(p, 3), BAD);
        }
        due("work", x.now(0), 0);
        due("nothing was done", x.count(4), 0);
        due("one cube has none to change with", Check.told(CUBE).changes(0, 0), BAD);
    }

    /** "the FIGURE till then. BAD; STATE: it is that." */
    private static void pastedIsAnotherFigure() {
        DayCubes x = Check.told("b;" + FOUR);
        due("lowest", x.pastes(0, 1, 0), 1);
        due("highest", x.pastes(0, 1, 9), 0);
        due("it is 9", x.side(0, 1), 9);
        due("again", x.pastes(0, 1, 9), STATE);
        due("6 is another one, with both, too", x.pastes(0, 1, 6), 9);
        due("9 is another one, with both, too", x.pastes(1, 0, 9), 6);
        due("the last side of the last cube", x.pastes(3, 5, 4), 3);
        for (int figure : new int[] {-1, 10, LEAST, MOST}) {
            due("figure " + figure, x.pastes(0, 0, figure), BAD);
        }
        due("bad ahead of state", x.pastes(4, 0, 0), BAD);
        due("may be undone", x.count(4), 5);
        due("next to it", x.side(3, 4), 2);
        due("the side of the same number", x.side(2, 5), 7);
    }

    /** "PASTED: a SIDE of a CUBE has another FIGURE (no WORK)." */
    private static void pastedIsNoWork() {
        DayCubes x = Check.told(FOUR);
        x.turn(0, 5);
        x.pastes(0, 5, 9);
        due("work", x.now(0), 2);
        due("number", x.now(1), 9628);
        x.undo();
        due("work", x.now(0), 2);
        due("number", x.now(1), 5628);
    }

    /**
     * "(WORK is 9999 at most.)" 512 calls do not come so far, so that these answers are
     * free; yet the sentence stands, and the class keeps to it.
     */
    private static void workIs9999AtMost() {
        DayCubes x = Check.told(CUBE + CUBE);
        for (int i = 1; i <= 4999; i++) {
            x.turn(0, i % 2 == 1 ? 5 : 0);
        }
        due("work", x.now(0), 9998);
        due("one more", x.changes(0, 1), 9999);
        due("no more", x.changes(0, 1), 9999);
        due("no more", x.turn(0, 0), 9999);
        due("undo", x.undo(), 9);
        due("undo", x.undo(), 8);
        due("work", x.now(0), 9999);
        x.undo();
        due("work", x.now(0), 9998);
        due("two more", x.turn(0, 0), 9999);
        x.undo();
        due("as ahead of it", x.now(0), 9998);
    }

    /** "(10 are known, older ones are lost)" */
    private static void tenAreKnownOlderOnesAreLost() {
        for (int deeds = 0; deeds <= 23; deeds++) {
            DayCubes x = Check.told(FOUR);
            for (int i = 1; i <= deeds; i++) {
                doOne(x, i);
            }
            int known = Math.min(deeds, 10);
            due("known of " + deeds, x.count(4), known);
            for (int i = known - 1; i >= 0; i--) {
                due("undo of " + deeds, x.undo(), i);
                due("known then", x.count(4), i);
            }
            due("one more", x.undo(), STATE);
            DayCubes lost = Check.told(FOUR);
            for (int i = 1; i <= deeds - known; i++) {
                doOne(lost, i);
            }
            dueAlike("the lost ones of " + deeds + " stay done", x, lost);
        }
    }

    /** The deed number i of a row in which turns, changes and pastes take turns. */
    private static void doOne(DayCubes x, int i) {
        int c = i % 4;
        switch (i % 3) {
            case 0: due("turned", x.turn(c, (x.cube(c, 1) + 1 + i % 5) % 6) > 0 ? 1 : 0, 1); break;
            case 1: due("changed", x.changes(c, (c + 1 + i % 2) % 4) > 0 ? 1 : 0, 1); break;
            default: due("pasted", x.pastes(c, i % 6, (x.side(c, i % 6) + 1) % 10) >= 0 ? 1 : 0, 1); break;
        }
    }

    private static void dueAlike(String what, DayCubes x, DayCubes y) {
        due(what + ": work", x.now(0), y.now(0));
        due(what + ": number", x.now(1), y.now(1));
        for (int c = 0; c < 4; c++) {
            due(what + ": place of " + c, x.cube(c, 0), y.cube(c, 0));
            due(what + ": front of " + c, x.cube(c, 1), y.cube(c, 1));
            for (int s = 0; s < 6; s++) {
                due(what + ": side " + s + " of " + c, x.side(c, s), y.side(c, s));
            }
        }
    }

    /** "UNDONE: the latest TURNED, CHANGED, PASTED ..: all is as ahead of it." */
    private static void allIsAsAheadOfIt() {
        for (int deeds = 1; deeds <= 10; deeds++) {
            DayCubes x = Check.told(FOUR);
            DayCubes ahead = Check.told(FOUR);
            for (int i = 1; i <= deeds; i++) {
                doOne(x, i);
                if (i < deeds) {
                    doOne(ahead, i);
                }
            }
            due("undo", x.undo(), deeds - 1);
            dueAlike("ahead of " + deeds, x, ahead);
        }
        DayCubes y = Check.told(FOUR);
        y.sees(3, 1);
        y.turn(0, 5);
        y.sees(4, 1);
        y.mark(0, 0);
        y.undo();
        due("what was seen is not undone", y.count(3), 2);
        due("the trace is not undone", y.trace(), 1);
    }

    /** "how many more may be": what was UNDONE is known no more */
    private static void whatIsUndoneIsGone() {
        DayCubes x = Check.told(FOUR);
        for (int i = 1; i <= 10; i++) {
            doOne(x, i);
        }
        x.undo();
        x.undo();
        x.undo();
        due("seven", x.count(4), 7);
        due("another one", x.turn(0, (x.cube(0, 1) + 1) % 6) > 0 ? 1 : 0, 1);
        due("eight", x.count(4), 8);
        due("undo", x.undo(), 7);
        for (int i = 6; i >= 0; i--) {
            due("undo", x.undo(), i);
        }
        due("none", x.undo(), STATE);
        dueAlike("all undone", x, Check.told(FOUR));
    }

    private static void refusedCallsCantBeUndone() {
        DayCubes x = Check.told(FOUR);
        x.turn(0, 1);
        x.turn(0, 1);
        x.turn(0, 6);
        x.changes(2, 2);
        x.pastes(0, 0, 0);
        x.pastes(0, 0, 10);
        due("may be undone", x.count(4), 1);
        due("undo", x.undo(), 0);
        due("undo", x.undo(), STATE);
        due("undo again", x.undo(), STATE);
        due("front", x.cube(0, 1), 0);
    }

    /** "IMAGES 0, 1" */
    private static void imagesAre0And1() {
        DayCubes x = Check.told(FOUR);
        for (int image : new int[] {-1, 2, LEAST, MOST}) {
            due("keep(" + image + ")", x.keep(image), BAD);
            due("back(" + image + ")", x.back(image), BAD);
        }
        due("none of these was kept", x.back(0), STATE);
        due("none of these was kept", x.back(1), STATE);
        due("keep(0)", x.keep(0), 0);
        x.turn(0, 5);
        due("keep(1)", x.keep(1), 2);
        x.turn(0, 1);
        due("back(0)", x.back(0), 0);
        due("front", x.cube(0, 1), 0);
        due("back(1)", x.back(1), 2);
        due("front", x.cube(0, 1), 5);
        due("back(0) again", x.back(0), 0);
        due("front", x.cube(0, 1), 0);
        due("back(-1)", x.back(-1), BAD);
        due("back(2)", x.back(2), BAD);
    }

    /** "STATE: none was kept" */
    private static void noneWasKept() {
        DayCubes x = new DayCubes();
        due("a new object", x.back(0), STATE);
        due("a new object", x.back(1), STATE);
        due("kept without cubes", x.keep(1), 0);
        due("back without cubes", x.back(1), 0);
        due("the other one", x.back(0), STATE);
        due("read anew", Check.tell(x, FOUR), 4);
        due("it is gone", x.back(1), STATE);
        x.turn(1, 2);
        x.keep(0);
        due("a text with a fault", Check.tell(x, "x"), -10);
        due("it is there yet", x.back(0), 1);
        due("an empty text", Check.tell(x, ""), 0);
        due("it is gone", x.back(0), STATE);
    }

    /** "IMAGES 0, 1 keep NOW (FIGURES, PLACES, FRONTS, WORK ..)" */
    private static void anImageKeepsNow() {
        for (int image = 0; image <= 1; image++) {
            DayCubes x = Check.told(FOUR);
            DayCubes then = Check.told(FOUR);
            for (int i = 1; i <= 7; i++) {
                doOne(x, i);
                doOne(then, i);
            }
            due("keep", x.keep(image), then.now(0));
            dueAlike("behind keep", x, then);
            for (int i = 8; i <= 19; i++) {
                doOne(x, i);
            }
            due("back", x.back(image), then.now(0));
            dueAlike("behind back", x, then);
            doOne(x, 8);
            due("back again", x.back(image), then.now(0));
            dueAlike("behind back again", x, then);
        }
    }

    /** "IMAGES .. keep .. what may be UNDONE" */
    private static void anImageKeepsWhatMayBeUndone() {
        for (int deeds = 0; deeds <= 12; deeds++) {
            DayCubes x = Check.told(FOUR);
            DayCubes y = Check.told(FOUR);
            for (int i = 1; i <= deeds; i++) {
                doOne(x, i);
                doOne(y, i);
            }
            x.keep(1);
            for (int i = 1; i <= 10; i++) {
                doOne(x, i + 1);
            }
            x.back(1);
            int known = Math.min(deeds, 10);
            due("may be undone", x.count(4), known);
            for (int i = known - 1; i >= 0; i--) {
                due("undo", x.undo(), i);
                y.undo();
            }
            due("undo", x.undo(), STATE);
            dueAlike("all undone", x, y);
            due("the image knows them yet", x.back(1) >= 0 ? x.count(4) : BAD, known);
        }
        DayCubes z = Check.told(FOUR);
        z.keep(0);
        z.turn(0, 5);
        z.back(0);
        due("back is nothing to be undone", z.undo(), STATE);
    }

    /** "keep NOW ..; nothing else" */
    private static void anImageKeepsNothingElse() {
        DayCubes x = Check.told(FOUR + "d1;");
        x.type('b');
        x.sees(1, 1);
        x.mark(0, 0);
        x.keep(0);
        x.type(';');
        x.sees(2, 1);
        x.mark(1, 0);
        x.keep(1);
        x.turn(0, 5);
        due("back", x.back(0), 0);
        due("the text", x.count(5), 2);
        due("seen", x.count(3), 2);
        due("the trace", x.trace(), 12);
        due("the other image", x.back(1), 0);
        x.forget();
        x.clear();
        x.back(0);
        due("the text", x.count(5), 0);
        due("seen", x.count(3), 0);
        due("days", x.count(1), 1);
        due("the trace", x.trace(), 12);
    }

    private static void anImageIsKeptAnew() {
        DayCubes x = Check.told(FOUR);
        x.keep(0);
        x.keep(1);
        x.turn(0, 5);
        due("kept anew", x.keep(0), 2);
        x.turn(0, 0);
        due("back", x.back(0), 2);
        due("the other one is as it was", x.back(1), 0);
    }

    /** "0 CUBES, 1 DAYS, 2 BOTH (1, 0), 3 SEEN, 4 how many may be UNDONE, 5 bytes of THE TEXT. BAD." */
    private static void countHasSixNumbers() {
        DayCubes x = Check.told("b;" + FOUR + "d1;d2;d3;d4;d5;d6;");
        for (int i = 1; i <= 11; i++) {
            doOne(x, i);
        }
        for (int i = 0; i < 7; i++) {
            x.sees(i, 1);
        }
        Check.typeAll(x, " ".repeat(101));
        int[] most = {4, 6, 1, 6, 10, 100};
        for (int what = 0; what < 6; what++) {
            due("count(" + what + ") at its most", x.count(what), most[what]);
            due("count(" + what + ") of a new one", new DayCubes().count(what), 0);
        }
        for (int what : new int[] {-1, 6, LEAST, MOST}) {
            due("count(" + what + ")", x.count(what), BAD);
        }
    }

    /** "2 FIGURES that it has (bits)": from one to six of them, the lowest and the highest */
    private static void figuresThatACubeHas() {
        DayCubes x = Check.told("b;c0 0 0 0 0 0;c9 9 9 9 9 9;c0 1 2 3 4 9;c6 6 6 9 9 9;");
        due("just 0", x.cube(0, 2), 1);
        due("just 9", x.cube(1, 2), 512);
        due("six", x.cube(2, 2), 1 + 2 + 4 + 8 + 16 + 512);
        due("6 and 9 are two", x.cube(3, 2), 64 + 512);
        x.pastes(1, 5, 0);
        due("as they are now", x.cube(1, 2), 513);
        x.undo();
        due("as they are now", x.cube(1, 2), 512);
    }

    /** "An object is used for at most 512 calls after it has been made" */
    private static void anObjectIsUsedFor512Calls() {
        DayCubes x = new DayCubes();
        due("13 calls", Check.typeAll(x, CUBE), 13);
        due("the 15th call", x.desk(), 1);
        // typeAll asks count(5) once ahead of the bytes
        for (int call = 16; call <= 511; call++) {
            due("call " + call, x.turn(0, call % 2 == 0 ? 5 : 0), 2 * (call - 15));
        }
        due("the 512th call", x.turn(0, 5), 2 * (512 - 15));
    }
}
