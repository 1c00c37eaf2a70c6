/**
 * Edges of what is asked about numbers (sections 2 and 3 of the document; promises 6, 13
 * to 16). Each function is for one sentence, or one part of it, that names a boundary.
 */
public final class NumberEdgesTest {
    private static final int BAD = -1, NONE = -9;
    private static final int LEAST = Integer.MIN_VALUE, MOST = Integer.MAX_VALUE;
    private static final String EIGHT_NINE = "c8 9 8 9 8 9;";
    private static final Check check = new Check();

    private static void due(String call, long got, long want) {
        check.due(call, got, want);
    }

    public static void main(String[] args) {
        numbersAreLessThan10ToThePowerOfCubes();
        withoutCubesThereIsJust0();
        askedIsOneOfThese();
        aFigureFitsAnother();
        justTheNumberInFrontIsTold();
        aNumberHas0sAhead();
        theNumberInFrontIsAsItIs();
        canBeTold();
        howManyCan();
        theLeastThatCanNot();
        workForANumber();
        workThatIsTheMost();
        throughIs1To3Numbers();
        throughWithoutOneThatCanBe();
        throughWithNoneSoGreat();
        throughEndsAtTheGreatest();
        throughByDearTurns();
        throughByRingsOfChanges();
        throughWithFiguresAsTheyAreNow();
        fewestPastes();
        daysThatAreDone();
        sidesThatAreNeeded();
        oddsFromNeverToSurely();
        withFiguresAsTheyAreNow();
        check.end();
    }

    /** "Numbers are 0 .., less than 10 to the power of CUBES" */
    private static void numbersAreLessThan10ToThePowerOfCubes() {
        int power = 1;
        for (int cubes = 0; cubes <= 4; cubes++, power *= 10) {
            DayCubes x = Check.told("c0 9 9 9 9 9;".repeat(cubes));
            for (int what = 0; what < 4; what++) {
                due("number(0, " + what + ") of " + cubes, x.number(0, what), what < 2 ? 1 : 0);
            }
            due("the greatest can be told", x.number(power - 1, 1), 1);
            due("its work", x.number(power - 1, 2), cubes);
            due("its pastes", x.number(power - 1, 3), 0);
            due("it is told", x.number(power - 1, 0), cubes == 0 ? 1 : 0);
            for (int n : new int[] {-1, power, power + 1, LEAST, MOST}) {
                for (int what = 0; what < 4; what++) {
                    due("number(" + n + ", " + what + ") of " + cubes, x.number(n, what), BAD);
                }
                for (int what = 0; what < 2; what++) {
                    due("odds(" + n + ", " + what + ") of " + cubes, x.odds(n, what), BAD);
                }
                for (int many = 1; many <= 3; many++) {
                    due("through(" + n + ", " + many + ") of " + cubes, x.through(n, many), BAD);
                }
            }
            due("odds of the greatest", x.odds(power - 1, 0) > 0 ? 1 : 0, 1);
            due("through the greatest", x.through(power - 1, 1), cubes);
        }
    }

    /** "without CUBES there is just 0, and it is TOLD, by no WORK" */
    private static void withoutCubesThereIsJust0() {
        for (String text : new String[] {"", "b;", "d0;", "b;d0;d0;d0;d0;d0;d0;"}) {
            DayCubes x = Check.told(text);
            due("told", x.number(0, 0), 1);
            due("can", x.number(0, 1), 1);
            due("work", x.number(0, 2), 0);
            due("pastes", x.number(0, 3), 0);
            due("1", x.number(1, 0), BAD);
            due("work till now", x.now(0), 0);
            due("the number in front", x.now(1), 0);
            due("many", x.now(2), 1);
            due("least", x.now(3), NONE);
            due("done", x.now(4), (1 << x.count(1)) - 1);
            due("through one", x.through(0, 1), 0);
            due("through two", x.through(0, 2), NONE);
            due("through three", x.through(0, 3), NONE);
            due("through none", x.through(0, 0), BAD);
            due("through four", x.through(0, 4), BAD);
            due("odds, upper", x.odds(0, 0), 1);
            due("odds, lower", x.odds(0, 1), 1);
        }
    }

    /** "BAD (a number is not as told)": what is asked for */
    private static void askedIsOneOfThese() {
        DayCubes x = Check.told("c0 1 2 3 4 5;d1;");
        for (int far : new int[] {-1, LEAST, MOST}) {
            due("now(" + far + ")", x.now(far), BAD);
            due("number(0, " + far + ")", x.number(0, far), BAD);
            due("odds(0, " + far + ")", x.odds(0, far), BAD);
            due("through(0, " + far + ")", x.through(0, far), BAD);
        }
        due("now(4)", x.now(4), 1);
        due("now(5)", x.now(5), BAD);
        due("number(6, 3)", x.number(6, 3), 1);
        due("number(6, 4)", x.number(6, 4), BAD);
        due("odds(0, 1)", x.odds(0, 1), 6);
        due("odds(0, 2)", x.odds(0, 2), BAD);
        due("without cubes, too", new DayCubes().now(5), BAD);
        due("without cubes, too", new DayCubes().number(0, 4), BAD);
        due("without cubes, too", new DayCubes().odds(0, 2), BAD);
    }

    /** "a FIGURE fits another one, if it is like it, or BOTH, and they are 6 and 9" */
    private static void aFigureFitsAnother() {
        for (int both = 0; both <= 1; both++) {
            for (int f = 0; f < 10; f++) {
                String figures = " " + f;
                DayCubes x = Check.told((both == 1 ? "b;" : "") + "c" + figures.repeat(6) + ";");
                for (int n = 0; n < 10; n++) {
                    boolean fits = f == n || both == 1 && f + n == 15 && (f == 6 || f == 9);
                    String what = f + " for " + n + (both == 1 ? ", both" : "");
                    due("told: " + what, x.number(n, 0), fits ? 1 : 0);
                    due("can: " + what, x.number(n, 1), fits ? 1 : 0);
                    due("work: " + what, x.number(n, 2), fits ? 0 : NONE);
                    due("pastes: " + what, x.number(n, 3), fits ? 0 : 1);
                    due("through: " + what, x.through(n, 1), fits ? 0 : NONE);
                    due("odds: " + what, x.odds(n, 0), fits ? 1 : 0);
                }
                due("many with " + f, x.now(2), both == 1 && (f == 6 || f == 9) ? 2 : 1);
                due("least with " + f, x.now(3), f == 0 ? 1 : 0);
            }
        }
    }

    /** "if at each PLACE the FIGURE in FRONT fits that of the number" */
    private static void justTheNumberInFrontIsTold() {
        String text = "c9 0 0 0 0 0;c0 9 9 9 9 9;c5 1 1 1 1 1;c8 2 2 2 2 2;";
        int power = 10;
        for (int cubes = 1; cubes <= 4; cubes++, power *= 10) {
            DayCubes x = null;
            for (int n = 0; n < power; n++) {
                // an object is used for 512 calls at most
                if (n % 400 == 0) {
                    x = Check.told(text.substring(0, 13 * cubes));
                }
                due(n + " of " + cubes, x.number(n, 0), n == 9058 / (10000 / power) ? 1 : 0);
            }
        }
    }

    /** "(as many figures as PLACES, 0s ahead)" */
    private static void aNumberHas0sAhead() {
        DayCubes x = Check.told("c0 0 0 0 0 0;c0 0 0 0 0 0;c0 0 0 0 0 0;c7 7 7 7 7 7;");
        due("0007", x.number(7, 0), 1);
        due("0070", x.number(70, 0), 0);
        due("0070 by a change", x.number(70, 2), 1);
        due("7000 by a change", x.number(7000, 2), 1);
        due("0077 can not", x.number(77, 1), 0);
        DayCubes y = Check.told("c7 7 7 7 7 7;c1 2 3 4 5 6;");
        due("7 is 07, and there is no 0", y.number(7, 1), 0);
        due("a paste for the 0", y.number(7, 3), 1);
    }

    /** "the number in FRONT by FIGURES as they are (PLACE by PLACE)" */
    private static void theNumberInFrontIsAsItIs() {
        due("0 at most", Check.told("c0 0 0 0 0 0;".repeat(4)).now(1), 0);
        due("9999", Check.told("b;" + "c9 6 6 6 6 6;".repeat(4)).now(1), 9999);
        due("6666", Check.told("b;" + "c6 9 9 9 9 9;".repeat(4)).now(1), 6666);
        DayCubes x = Check.told("c1 1 1 1 1 1;c2 2 2 2 2 2;c3 3 3 3 3 3;");
        due("cube by cube at first", x.now(1), 123);
        x.changes(0, 2);
        due("place by place", x.now(1), 321);
        x.pastes(2, 0, 9);
        due("as they are now", x.now(1), 921);
    }

    /** "CAN: whether a number can be TOLD, CUBES at any PLACES, any SIDES in FRONT." */
    private static void canBeTold() {
        DayCubes x = Check.told("c0 1 1 1 1 2;c0 3 3 3 3 4;");
        due("each by its last side", x.number(24, 1), 1);
        due("the other way round", x.number(42, 1), 1);
        due("both by one cube", x.number(12, 1), 0);
        due("one figure twice, on both", x.number(0, 1), 1);
        due("one figure twice, on one", x.number(11, 1), 0);
        // the first that comes must give way: 1 is on both cubes, 2 on the first alone
        DayCubes y = Check.told("c1 2 2 2 2 2;c1 3 3 3 3 3;");
        due("12", y.number(12, 1), 1);
        due("21", y.number(21, 1), 1);
        due("23", y.number(23, 1), 1);
        due("22", y.number(22, 1), 0);
        due("33", y.number(33, 1), 0);
    }

    /** "MANY: how many can." */
    private static void howManyCan() {
        due("one", Check.told("c5 5 5 5 5 5;").now(2), 1);
        due("six of one cube", Check.told("c0 1 2 3 4 5;").now(2), 6);
        due("six, 6 and 9 are two of them", Check.told("b;c1 2 3 4 6 9;").now(2), 6);
        due("six sides, seven numbers", Check.told("b;c1 2 3 4 5 6;").now(2), 7);
        due("one of four cubes", Check.told("c7 7 7 7 7 7;".repeat(4)).now(2), 1);
        due("all orders of four", Check.told("c1 1 1 1 1 1;c2 2 2 2 2 2;c3 3 3 3 3 3;c4 4 4 4 4 4;").now(2), 24);
        due("all orders of a pair twice", Check.told("c1 1 1 1 1 1;c1 1 1 1 1 1;c2 2 2 2 2 2;c2 2 2 2 2 2;").now(2), 6);
        due("sixteen, both", Check.told("b;" + "c6 6 6 6 6 6;".repeat(4)).now(2), 16);
        due("seven to the fourth", Check.told("b;" + "c4 5 6 7 8 3;".repeat(4)).now(2), 7 * 7 * 7 * 7);
    }

    /** "LEAST: the least that can not; NONE." */
    private static void theLeastThatCanNot() {
        due("0", Check.told("c1 2 3 4 5 6;").now(3), 0);
        due("1", Check.told("c0 2 3 4 5 6;").now(3), 1);
        due("6", Check.told("c0 1 2 3 4 5;").now(3), 6);
        due("the 9 is a 6, but there is no 7", Check.told("b;c0 1 2 3 9 5;").now(3), 4);
        due("no 00", Check.told("c0 1 2 3 4 5;c1 6 7 8 9 2;").now(3), 0);
        due("11", Check.told("c0 1 2 3 4 5;c0 6 7 8 9 2;").now(3), 11);
        due("33 of the calendar", Check.told("b;c0 1 2 3 4 5;c0 1 2 6 7 8;").now(3), 33);
        due("33 of the calendar is 9 without both", Check.told("c0 1 2 3 4 5;c0 1 2 6 7 8;").now(3), 9);
        due("of three", Check.told("b;c0 1 2 3 4 5;c0 1 2 6 7 8;c0 1 2 3 4 5;").now(3), 66);
        due("of four", Check.told("c0 1 2 3 4 5;".repeat(4)).now(3), 6);
        due("none", new DayCubes().now(3), NONE);
    }

    /** "WORK for a number: the least by which it is TOLD from NOW on (..); NONE." */
    private static void workForANumber() {
        DayCubes x = Check.told("c1 2 2 2 2 3;c4 5 5 5 5 6;");
        due("it is told", x.number(14, 2), 0);
        due("a turn", x.number(24, 2), 1);
        due("over against", x.number(34, 2), 2);
        due("a change", x.number(41, 2), 1);
        due("two turns over against and a change", x.number(63, 2), 5);
        due("none", x.number(11, 2), NONE);
        x.turn(0, 5);
        x.turn(1, 1);
        due("from now on", x.number(35, 2), 0);
        due("from now on, back again", x.number(14, 2), 3);
        due("beside rather than over against", Check.told("c1 2 1 1 1 2;").number(2, 2), 1);
        due("a change is less than two turns", Check.told("c1 2 0 0 0 0;c2 1 0 0 0 0;").number(21, 2), 1);
        due("a turn is like a change", Check.told("c1 2 0 0 0 0;c2 2 0 0 0 0;").number(22, 2), 1);
        due("a turn over against is more than a change",
            Check.told("c1 0 0 0 0 2;c2 0 0 0 0 1;").number(21, 2), 1);
        due("nothing is done", x.now(0), 3);
    }

    /** The most that a number can cost: four turns over against, and a ring of four. */
    private static void workThatIsTheMost() {
        DayCubes x = Check.told("c0 0 0 0 0 1;c0 0 0 0 0 2;c0 0 0 0 0 3;c0 0 0 0 0 4;");
        due("no ring", x.number(1234, 2), 8);
        due("a ring of two", x.number(2134, 2), 9);
        due("two rings of two", x.number(2143, 2), 10);
        due("a ring of three", x.number(2314, 2), 10);
        due("a ring of four", x.number(2341, 2), 11);
        due("a ring of four", x.number(4123, 2), 11);
        due("a 0 is there already", x.number(2340, 2), 9);
    }

    /** "n (1 .. 3)" */
    private static void throughIs1To3Numbers() {
        DayCubes x = Check.told("c0 1 2 3 4 5;");
        due("none", x.through(1, 0), BAD);
        due("one", x.through(1, 1), 1);
        due("two", x.through(1, 2), 2);
        due("three", x.through(1, 3), 4);
        due("four", x.through(1, 4), BAD);
        due("told, and one more", x.through(0, 2), 1);
        due("told", x.through(0, 1), 0);
        due("a wrong n and none so great", x.through(9, 4), BAD);
        due("a wrong n where none can be", x.through(7, 0), BAD);
        due("nothing is done", x.now(0), 0);
    }

    /** "NONE (one can not be ..)" */
    private static void throughWithoutOneThatCanBe() {
        DayCubes x = Check.told("c1 2 4 5 7 8;");
        due("the first", x.through(0, 3), NONE);
        due("the second", x.through(2, 3), NONE);
        due("the third", x.through(1, 3), NONE);
        due("the second of two", x.through(2, 2), NONE);
        due("the only one", x.through(3, 1), NONE);
        due("all are", x.through(1, 2), 1);
        due("all are", x.through(7, 2), 2);
    }

    /** "NONE (.. or there is none so great)" */
    private static void throughWithNoneSoGreat() {
        int power = 10;
        for (int cubes = 1; cubes <= 4; cubes++, power *= 10) {
            DayCubes x = Check.told("c9 8 7 0 1 2;".repeat(cubes));
            due("the greatest", x.through(power - 1, 1), 0);
            due("and one more", x.through(power - 1, 2), NONE);
            due("and two more", x.through(power - 1, 3), NONE);
            due("the last two", x.through(power - 2, 2), 2);
            due("the last two and one more", x.through(power - 2, 3), NONE);
            due("the last three", x.through(power - 3, 3), 3);
            due("it is no number", x.through(power, 1), BAD);
        }
    }

    /** It does not begin again at 0, and it goes over a 9. */
    private static void throughEndsAtTheGreatest() {
        DayCubes x = Check.told("c0 1 2 7 8 9;c0 1 2 7 8 9;");
        // 09: over against; 10: a change, and the 9 becomes the 1; 11: the 0, too
        due("09, 10, 11", x.through(9, 3), 2 + 2 + 1);
        // 19: a turn, one over against; 20: a change and two turns, or three for turns alone
        due("19, 20", x.through(19, 2), 3 + 3);
        due("98, 99, 00", x.through(98, 3), NONE);
    }

    /** "by which that one, the next one, the one behind, n numbers in all, are TOLD one behind the other" */
    private static void throughByDearTurns() {
        DayCubes x = Check.told("c0 0 0 0 0 1;c3 0 0 0 0 2;");
        due("12, 13: over against twice, and once back", x.through(12, 2), 6);
        due("12, 13, 14: there is no 4", x.through(12, 3), NONE);
        DayCubes y = Check.told("c0 0 0 0 0 0;c9 9 9 9 9 1;");
        due("09 is told", y.through(9, 1), 0);
        due("09, 10: a change, and over against", y.through(9, 2), 3);
        // 20: a change and two turns; 21: a turn, and the cubes stay where they are
        due("19, 20, 21", Check.told("c1 0 5 5 5 5;c9 2 5 5 5 5;").through(19, 3), 0 + 3 + 1);
        due("19, 20", Check.told("c1 0 5 5 5 5;c9 2 5 5 5 5;").through(19, 2), 0 + 3);
        due("over against, and back", Check.told("c2 0 0 0 0 1;").through(1, 2), 4);
        // the 1 beside has the 2 over against it, the other 1 has it beside
        due("the dearer way at first is the cheaper one", Check.told("c0 1 9 9 2 1;").through(1, 2), 3);
        due("for one number it is not", Check.told("c0 1 9 9 2 1;").through(1, 1), 1);
    }

    /** "ahead of each CUBES are CHANGED, TURNED, once each at most", CHANGES as many as are needed */
    private static void throughByRingsOfChanges() {
        // 129 by the CUBES 0 1 2 alone, 130 by 1 2 0 alone, each by its SIDE of it
        DayCubes x = Check.told("c1 0 7 7 7 7;c2 1 7 7 7 7;c8 9 3 7 7 7;");
        due("128 is told", x.through(128, 1), 0);
        due("128, 129: a turn", x.through(128, 2), 1);
        due("128, 129, 130: a turn; two changes, three turns", x.through(128, 3), 1 + 2 + 3);
        x.turn(2, 1);
        due("129, 130: two changes, three turns", x.through(129, 2), 2 + 3);
        due("130 alone", x.number(130, 2), 2 + 3);
        // 1239 by the CUBES 0 1 2 3 alone, 1240 by 1 2 3 0 alone
        DayCubes y = Check.told("c1 0 7 7 7 7;c2 1 7 7 7 7;c3 2 7 7 7 7;c9 4 7 7 7 7;");
        due("1239 is told", y.through(1239, 1), 0);
        due("1239, 1240: three changes, four turns", y.through(1239, 2), 3 + 4);
        due("1240 alone", y.number(1240, 2), 3 + 4);
        y.changes(0, 3);
        due("back, then all of it", y.through(1239, 2), 1 + 3 + 4);
        due("1240 alone: a change less", y.number(1240, 2), 2 + 4);
    }

    /** What was reckoned for FIGURES that are there no more counts no more. */
    private static void throughWithFiguresAsTheyAreNow() {
        DayCubes x = Check.told("c7 2 0 3 1 3;c0 1 2 3 3 3;");
        due("20, 21: the first tells the 2, the other one 0 and 1", x.through(20, 2), 1 + 1);
        x.pastes(0, 1, 8);
        due("20, 21: a change and two turns; a turn", x.through(20, 2), 3 + 1);
        x.undo();
        due("20, 21: as ahead of it", x.through(20, 2), 1 + 1);
    }

    /** "PASTES for a number: the fewest SIDES to be PASTED so that it can be TOLD (0: none)." */
    private static void fewestPastes() {
        DayCubes x = Check.told("c1 1 1 1 1 1;c2 2 2 2 2 2;c3 3 3 3 3 3;c4 4 4 4 4 4;");
        due("none", x.number(4321, 3), 0);
        due("one", x.number(4322, 3), 1);
        due("two", x.number(4422, 3), 2);
        due("three", x.number(4444, 3), 3);
        due("four", x.number(5555, 3), 4);
        DayCubes y = Check.told("b;c6 6 6 6 6 6;c6 6 6 6 6 6;");
        due("both", y.number(99, 3), 0);
        due("both and one", y.number(90, 3), 1);
        due("the first to come must give way", Check.told("c1 2 2 2 2 2;c1 3 3 3 3 3;").number(12, 3), 0);
        due("nothing is pasted", x.number(5555, 1), 0);
    }

    /** "DONE: DAYS (bits) that can be TOLD." */
    private static void daysThatAreDone() {
        due("no days", Check.told("c0 1 2 3 4 5;").now(4), 0);
        due("six days, all", Check.told("c0 1 2 3 4 5;d0;d1;d2;d3;d4;d5;").now(4), 63);
        due("six days, none", Check.told("c0 1 2 3 4 5;d6;d7;d8;d9;d6;d7;").now(4), 0);
        due("the first", Check.told("c0 1 2 3 4 5;d0;d7;d8;d9;d6;d7;").now(4), 1);
        due("the last", Check.told("c0 1 2 3 4 5;d6;d7;d8;d9;d6;d5;").now(4), 32);
        due("a day twice", Check.told("c0 1 2 3 4 5;d5;d6;d5;").now(4), 5);
        due("a 0 ahead is wanted of a day told early", Check.told("c1 2 3 4 5 6;d1;c1 2 3 4 5 6;").now(4), 0);
        due("both", Check.told("b;c6 6 6 6 6 6;d9;d6;d0;").now(4), 3);
        due("not both", Check.told("c6 6 6 6 6 6;d9;d6;d0;").now(4), 2);
    }

    /** "NEEDED of a CUBE: SIDES (bits) each of which, were it alone blank .." */
    private static void sidesThatAreNeeded() {
        due("all six", Check.told("c0 1 2 3 4 5;d0;d1;d2;d3;d4;d5;").cube(0, 3), 63);
        due("the first", Check.told("c0 1 2 3 4 5;d0;").cube(0, 3), 1);
        due("the last", Check.told("c0 1 2 3 4 5;d5;").cube(0, 3), 32);
        due("no days", Check.told("c0 1 2 3 4 5;").cube(0, 3), 0);
        due("a day that is not done", Check.told("c0 1 2 3 4 5;d6;").cube(0, 3), 0);
        due("two alike: each alone can be done without", Check.told("c0 0 2 3 4 5;d0;").cube(0, 3), 0);
        due("6 for 9", Check.told("b;c6 9 2 3 4 5;d9;").cube(0, 3), 0);
        due("9 alone", Check.told("b;c9 1 2 3 4 5;d6;").cube(0, 3), 1);
        DayCubes x = Check.told("c1 2 3 3 3 3;c1 2 4 4 4 4;d12;");
        due("either may tell it", x.cube(0, 3), 0);
        due("either may tell it", x.cube(1, 3), 0);
        x.pastes(1, 0, 4);
        due("now the 1 is needed", x.cube(0, 3), 1);
        due("and the other's 2", x.cube(1, 3), 2);
        x.undo();
        due("and now not", x.cube(0, 3), 0);
        DayCubes y = Check.told("c7 7 7 7 7 7;c1 2 3 4 5 6;d71;d76;");
        due("six alike", y.cube(0, 3), 0);
        due("two of the other", y.cube(1, 3), 33);
        due("nothing is blank behind it", y.number(76, 1), 1);
        // the sides to the left and to the right of a cube's are those of other cubes
        DayCubes z = Check.told("c0 0 0 0 0 1;c2 2 2 2 2 2;c3 0 0 0 0 0;d123;");
        due("the first cube's last", z.cube(0, 3), 32);
        due("none of the second's", z.cube(1, 3), 0);
        due("the third cube's first", z.cube(2, 3), 1);
    }

    /** "ODDS ..: a fraction", "in least terms" */
    private static void oddsFromNeverToSurely() {
        dueOdds("never", Check.told("c1 2 3 4 5 6;"), 0, 0, 1);
        dueOdds("a sixth", Check.told("c1 2 3 4 5 6;"), 1, 1, 6);
        dueOdds("a third", Check.told("c1 1 3 4 5 6;"), 1, 1, 3);
        dueOdds("a half", Check.told("c1 1 1 4 5 6;"), 1, 1, 2);
        dueOdds("two thirds", Check.told("c1 1 1 1 5 6;"), 1, 2, 3);
        dueOdds("five sixths", Check.told("c1 1 1 1 1 6;"), 1, 5, 6);
        dueOdds("surely", Check.told("c1 1 1 1 1 1;"), 1, 1, 1);
        dueOdds("one of 36", Check.told("c1 2 3 4 5 6;".repeat(2)), 11, 1, 36);
        dueOdds("one of 216", Check.told("c1 2 3 4 5 6;".repeat(3)), 111, 1, 216);
        dueOdds("one of 1296", Check.told("c1 2 3 4 5 6;".repeat(4)), 1111, 1, 1296);
        dueOdds("24 of 1296", Check.told("c1 2 3 4 5 6;".repeat(4)), 1234, 1, 54);
        dueOdds("surely, with four", Check.told("c8 8 8 8 8 8;".repeat(4)), 8888, 1, 1);
        dueOdds("never, with four", Check.told("c8 8 8 8 8 8;".repeat(4)), 8889, 0, 1);
        dueOdds("625 of 1296", Check.told("c8 8 8 8 8 1;".repeat(4)), 8888, 625, 1296);
        dueOdds("a fall counts once, in whatever order it tells", Check.told("c1 2 2 2 2 2;c1 2 2 2 2 2;"), 22, 25, 36);
        dueOdds("in any order", Check.told("c1 2 2 2 2 2;c1 2 2 2 2 2;"), 21, 5, 18);
        dueOdds("both", Check.told("b;c6 9 1 1 1 1;c6 9 1 1 1 1;"), 69, 1, 9);
        dueOdds("not both", Check.told("c6 9 1 1 1 1;c6 9 1 1 1 1;"), 69, 1, 18);
        DayCubes x = Check.told("c1 2 3 4 5 6;c7 8 9 0 1 2;");
        x.turn(0, 5);
        x.changes(0, 1);
        dueOdds("whatever is in front", x, 17, 1, 36);
    }

    private static void dueOdds(String what, DayCubes x, int n, int upper, int lower) {
        due("odds of " + n + ", upper, " + what, x.odds(n, 0), upper);
        due("odds of " + n + ", lower, " + what, x.odds(n, 1), lower);
    }

    /** "(.. with FIGURES as they are NOW.)" */
    private static void withFiguresAsTheyAreNow() {
        DayCubes x = Check.told("c1 1 1 1 1 1;d1;d7;");
        x.pastes(0, 5, 7);
        due("told", x.number(7, 0), 0);
        due("can", x.number(7, 1), 1);
        due("work", x.number(7, 2), 2);
        due("pastes", x.number(7, 3), 0);
        due("many", x.now(2), 2);
        due("done", x.now(4), 3);
        due("needed", x.cube(0, 3), 32);
        due("odds", x.odds(7, 1), 6);
        due("through", x.through(7, 1), 2);
        x.keep(0);
        x.undo();
        due("undone: can", x.number(7, 1), 0);
        due("undone: done", x.now(4), 1);
        due("undone: least", x.now(3), 0);
        x.back(0);
        due("back: can", x.number(7, 1), 1);
        x.pastes(0, 0, 0);
        due("pasted in front: told", x.number(0, 0), 1);
        due("least", x.now(3), 2);
    }
}
