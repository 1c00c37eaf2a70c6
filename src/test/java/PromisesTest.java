/** For each promise of the document: ordinary inputs, its edges, and wrong inputs. */
public final class PromisesTest {
    private static final int BAD = -1, STATE = -2, FULL = -3, NONE = -9, NO = -1000000;
    private static final String TWO = "b;c0 1 2 3 4 5;c0 1 2 6 7 8;";
    private static final String THREE = "c1 2 3 4 5 6;c0 1 2 3 4 5;c9 9 9 8 8 7;";
    private static final Check check = new Check();

    private static void due(String call, long got, long want) {
        check.due(call, got, want);
    }

    public static void main(String[] args) {
        p1NewObject();
        p2Type();
        p3Clear();
        p4Desk();
        p4DeskFaults();
        p4DeskAtTheEnd();
        p4DeskReadsAnew();
        p5Side();
        p6Cube();
        p6Needed();
        p7Place();
        p8Day();
        p9Turn();
        p10Changes();
        p11Pastes();
        p12Undo();
        p13Now();
        p14Number();
        p15Through();
        p16Odds();
        p17Sees();
        p18Forget();
        p19Which();
        p20Look();
        p21Mark();
        p22Keep();
        p23Back();
        p24Count();
        p25Trace();
        check.end();
    }

    private static void p1NewObject() {
        DayCubes x = new DayCubes();
        for (int what = 0; what <= 5; what++) {
            due("1 count " + what, x.count(what), 0);
        }
        due("1 work", x.now(0), 0);
        due("1 number", x.now(1), 0);
        due("1 many", x.now(2), 1);
        due("1 least", x.now(3), NONE);
        due("1 done", x.now(4), 0);
        due("1 trace", x.trace(), 0);
        due("1 back", x.back(0), STATE);
        due("1 undo", x.undo(), STATE);
        due("1 which", x.which(), 0);
        due("1 look", x.look(), NONE);
        due("1 place", x.place(0), BAD);
        due("1 mark", x.mark(0, 0), NO);
    }

    private static void p2Type() {
        DayCubes x = new DayCubes();
        due("2 below", x.type(-1), BAD);
        due("2 above", x.type(256), BAD);
        due("2 least", x.type(0), 1);
        due("2 most", x.type(255), 2);
        for (int i = 3; i <= 100; i++) {
            due("2 byte " + i, x.type(32), i);
        }
        due("2 full", x.type(32), FULL);
        due("2 bad ahead of full", x.type(256), BAD);
        due("2 still", x.count(5), 100);
    }

    private static void p3Clear() {
        DayCubes x = new DayCubes();
        due("3 empty", x.clear(), 0);
        Check.typeAll(x, "b;b");
        due("3 three", x.clear(), 3);
        due("3 again", x.clear(), 0);
        due("3 anew", x.type(98), 1);
    }

    private static void p4Desk() {
        DayCubes x = new DayCubes();
        due("4 empty text", x.desk(), 0);
        due("4 blanks", Check.tell(x, "   "), 0);
        due("4 no blanks", Check.tell(x, "c0 1 2 3 4 5;b;d9;"), 3);
        due("4 the text is empty", x.count(5), 0);
        due("4 blanks all over", Check.tell(x, "  c  0  1 2 3 4   5  ;  b ;  d  9 ; "), 3);
        due("4 letters behind a number", Check.tell(x, "c0 1 2 3 4 5;d 0;"), 2);
        due("4 most", Check.tell(x, "b;c0 0 0 0 0 0;c0 0 0 0 0 0;c0 0 0 0 0 0;"
            + "c0 0 0 0 0 0;d1;d2;d3;d4;d5;d9999;"), 11);
        due("4 cubes", x.count(0), 4);
        due("4 days", x.count(1), 6);
        due("4 both", x.count(2), 1);
        due("4 the last day", x.day(5), 9999);
        due("4 no both", Check.tell(x, "d0;"), 1);
        due("4 both is gone", x.count(2), 0);
        due("4 cubes are gone", x.count(0), 0);
    }

    private static void fault(String text, int fault) {
        DayCubes x = Check.told("c1 1 1 1 1 1;d1;");
        x.turn(0, 5);
        x.keep(0);
        x.sees(1, 1);
        due("4 fault of '" + text + "'", Check.tell(x, text), -10 - fault);
        due("4 text stays", x.count(5), text.length());
        due("4 cube stays", x.side(0, 5), 1);
        due("4 day stays", x.day(0), 1);
        due("4 both stays", x.count(2), 0);
        due("4 work stays", x.now(0), 2);
        due("4 undo stays", x.count(4), 1);
        due("4 seen stays", x.count(3), 1);
        due("4 image stays", x.back(0), 2);
    }

    private static void p4DeskFaults() {
        String four = "c0 0 0 0 0 0;c0 0 0 0 0 0;c0 0 0 0 0 0;c0 0 0 0 0 0;";
        fault("b", 1);
        fault("b  ", 3);
        fault(" bb;", 1);
        fault("x;", 0);
        fault("B;", 0);
        fault("b;;", 2);
        fault("b;5;", 2);
        fault("b; b;", 3);
        fault("b b;", 2);
        fault("b;#", 2);
        fault("b;\t", 2);
        fault("b#;", 1);
        fault("b" + (char) 255 + ";", 1);
        fault("c", 1);
        fault("c1 2 3 4 5 6", 12);
        fault("c1 2 3 4 5;", 10);
        fault("c1 2 3 4 5 6 7;", 13);
        fault("c1 2 3 4 5 10;", 11);
        fault("c1 2 3 4 5 a;", 11);
        fault("c1 2 03 4 5 6;", 5);
        fault("c1 2 00 4 5 6;", 5);
        fault("c123456;", 1);
        fault("c1 2 3 4 5 6d1;", 12);
        fault(four + "c0 0 0 0 0 0;", 52);
        fault(four + "d10000;", 53);
        fault(four + "d99999999999999999999;", 53);
        fault(four + "d4294967296;", 53);
        fault(four + "d0001;", 53);
        fault("d0;d0;d0;d0;d0;d0;d0;", 18);
        fault("d0;d0;d0;d0;d0;d0;d", 18);
        fault("d1;", 1);
        fault("d;", 1);
        fault("d 0 0;", 4);
        fault("c0 0 0 0 0 0;d 10;", 15);
        fault("d 9;c0 0 0 0 0 0;", 2);
        fault("c0 0 0 0 0 0;d9;c0 0 0 0 0 0;d100;", 30);
        fault("x;#", 0);
        fault("ba;", 0);
        fault("bz;", 0);
        fault("b`;", 1);
        fault("b{;", 1);
        fault("c1 2 3 4 5 /;", 11);
        fault("c1 2 3 4 5 :;", 11);
        fault("98;", 0);
        fault("c0 0 0 0 0 0;c0 0 0 0 0 0;d b;", 28);
    }

    private static void p4DeskAtTheEnd() {
        for (String end : new String[] {"b", "9", " ", ";", "#"}) {
            String text = "b;" + " ".repeat(97) + end;
            DayCubes x = new DayCubes();
            due("4 text of 100 bytes, " + end, Check.tell(x, text), end.equals(" ") ? 1 : -10 - 99);
        }
        DayCubes x = new DayCubes();
        due("4 ends too early at 100", Check.tell(x, "c1" + " ".repeat(97) + "2"), -110);
        Check.typeAll(x, "c1 1 1 1 1 1;");
        x.clear();
        due("4 old bytes are no digits", Check.tell(x, "c"), -11);
        x.clear();
        Check.typeAll(x, "bbbbbbb");
        due("4 old bytes are no letters", Check.tell(x, "b"), -11);
        x.clear();
        Check.typeAll(x, "       ");
        due("4 old bytes are no blanks", Check.tell(x, "b"), -11);
        x.clear();
        Check.typeAll(x, "c1 1 1 1 1 12");
        due("4 old bytes are no part of a number", Check.tell(x, "c1 1 1 1 1 1"), -22);
    }

    private static void p4DeskReadsAnew() {
        DayCubes x = Check.told(TWO);
        x.turn(0, 5);
        x.changes(0, 1);
        x.pastes(1, 1, 9);
        x.sees(0, 1);
        x.keep(1);
        x.mark(5, 0);
        due("4 anew", Check.tell(x, TWO), 3);
        due("4 work is none", x.now(0), 0);
        due("4 place as told", x.place(0), 0);
        due("4 front as told", x.cube(0, 1), 0);
        due("4 figure as told", x.side(1, 1), 1);
        due("4 nothing seen", x.count(3), 0);
        due("4 nothing to be undone", x.undo(), STATE);
        due("4 images are gone", x.back(1), STATE);
        due("4 the trace goes on", x.trace(), 100001);
    }

    private static void p5Side() {
        DayCubes x = Check.told(THREE);
        due("5 first", x.side(0, 0), 1);
        due("5 last", x.side(2, 5), 7);
        due("5 between", x.side(1, 4), 4);
        x.pastes(1, 4, 8);
        due("5 pasted", x.side(1, 4), 8);
        due("5 cube below", x.side(-1, 0), BAD);
        due("5 cube above", x.side(3, 0), BAD);
        due("5 side below", x.side(0, -1), BAD);
        due("5 side above", x.side(0, 6), BAD);
    }

    private static void p6Cube() {
        DayCubes x = Check.told(THREE);
        x.changes(0, 2);
        x.turn(2, 4);
        due("6 place", x.cube(0, 0), 2);
        due("6 place of the other", x.cube(2, 0), 0);
        due("6 front", x.cube(2, 1), 4);
        due("6 figures", x.cube(2, 2), 512 + 256 + 128);
        due("6 figures", x.cube(0, 2), 126);
        due("6 what below", x.cube(0, -1), BAD);
        due("6 what above", x.cube(0, 4), BAD);
        due("6 cube above", x.cube(3, 0), BAD);
        due("6 cube below", x.cube(-1, 3), BAD);
        due("6 six is not nine here", Check.told("b;c6 6 9 9 6 6;").cube(0, 2), 64 + 512);
    }

    private static void p6Needed() {
        DayCubes x = Check.told("c1 1 2 3 4 5;d1;d2;d9;");
        due("6 needed: a figure twice is not", x.cube(0, 3), 4);
        x.pastes(0, 1, 9);
        due("6 needed as it is now", x.cube(0, 3), 7);
        due("6 needed without days", Check.told("c1 2 3 4 5 6;").cube(0, 3), 0);
        due("6 needed with both", Check.told("b;c6 9 1 1 1 1;d6;").cube(0, 3), 0);
        due("6 needed without both", Check.told("c6 9 1 1 1 1;d6;").cube(0, 3), 1);
        DayCubes y = Check.told("c0 1 1 1 1 1;c0 2 2 2 2 2;d12;d0;");
        due("6 needed of two", y.cube(0, 3), 1);
        due("6 needed of two", y.cube(1, 3), 1);
    }

    private static void p7Place() {
        DayCubes x = Check.told(THREE);
        due("7 at first", x.place(2), 2);
        x.changes(1, 2);
        due("7 changed", x.place(1), 2);
        due("7 changed", x.place(2), 1);
        due("7 not changed", x.place(0), 0);
        due("7 below", x.place(-1), BAD);
        due("7 above", x.place(3), BAD);
    }

    private static void p8Day() {
        DayCubes x = Check.told("d0;" + TWO + "d31;d9;");
        due("8 first", x.day(0), 0);
        due("8 second", x.day(1), 31);
        due("8 last", x.day(2), 9);
        due("8 above", x.day(3), BAD);
        due("8 below", x.day(-1), BAD);
    }

    private static void p9Turn() {
        DayCubes x = Check.told(TWO);
        due("9 in front", x.turn(0, 0), STATE);
        due("9 beside", x.turn(0, 1), 1);
        due("9 over against", x.turn(0, 4), 3);
        due("9 beside", x.turn(0, 5), 4);
        due("9 over against", x.turn(1, 5), 6);
        due("9 in front", x.cube(0, 1), 5);
        due("9 cube above", x.turn(2, 0), BAD);
        due("9 cube below", x.turn(-1, 0), BAD);
        due("9 side above", x.turn(0, 6), BAD);
        due("9 side below", x.turn(0, -1), BAD);
        due("9 nothing came of these", x.now(0), 6);
        due("9 may be undone", x.count(4), 4);
    }

    private static void p10Changes() {
        DayCubes x = Check.told(THREE);
        due("10 change", x.changes(0, 2), 1);
        due("10 change", x.changes(2, 1), 2);
        due("10 place 0", x.place(0), 2);
        due("10 place 1", x.place(1), 0);
        due("10 place 2", x.place(2), 1);
        due("10 alike", x.changes(1, 1), BAD);
        due("10 above", x.changes(0, 3), BAD);
        due("10 above", x.changes(3, 0), BAD);
        due("10 below", x.changes(-1, 0), BAD);
        due("10 below", x.changes(0, -1), BAD);
        due("10 work", x.now(0), 2);
        due("10 may be undone", x.count(4), 2);
    }

    private static void p11Pastes() {
        DayCubes x = Check.told(TWO);
        due("11 paste", x.pastes(1, 5, 3), 8);
        due("11 it is that", x.pastes(1, 5, 3), STATE);
        due("11 no work", x.now(0), 0);
        due("11 six and nine are not alike", x.pastes(1, 3, 9), 6);
        due("11 figure above", x.pastes(0, 0, 10), BAD);
        due("11 figure below", x.pastes(0, 0, -1), BAD);
        due("11 cube above", x.pastes(2, 0, 1), BAD);
        due("11 cube below", x.pastes(-1, 0, 1), BAD);
        due("11 side above", x.pastes(0, 6, 1), BAD);
        due("11 side below", x.pastes(0, -1, 1), BAD);
        due("11 may be undone", x.count(4), 2);
    }

    private static void p12Undo() {
        DayCubes x = Check.told(TWO);
        x.turn(0, 5);
        x.changes(0, 1);
        x.pastes(0, 5, 9);
        due("12 pasted", x.undo(), 2);
        due("12 figure", x.side(0, 5), 5);
        due("12 changed", x.undo(), 1);
        due("12 place", x.place(0), 0);
        due("12 work", x.now(0), 2);
        due("12 turned", x.undo(), 0);
        due("12 front", x.cube(0, 1), 0);
        due("12 work", x.now(0), 0);
        due("12 none", x.undo(), STATE);
        for (int i = 1; i <= 12; i++) {
            x.turn(1, i % 2 == 0 ? 3 : 4);
            due("12 known", x.count(4), Math.min(i, 10));
        }
        for (int i = 9; i >= 0; i--) {
            due("12 of ten", x.undo(), i);
        }
        due("12 older ones are lost", x.undo(), STATE);
        due("12 front behind two", x.cube(1, 1), 3);
        due("12 work behind two", x.now(0), 2);
    }

    private static void p13Now() {
        DayCubes x = Check.told(TWO + "d1;d99;d66;d32;");
        due("13 what below", x.now(-1), BAD);
        due("13 what above", x.now(5), BAD);
        x.turn(0, 3);
        x.turn(1, 3);
        due("13 work", x.now(0), 2);
        due("13 number", x.now(1), 36);
        due("13 many", x.now(2), 75);
        due("13 least", x.now(3), 33);
        due("13 done", x.now(4), 1 + 8);
        x.pastes(0, 4, 9);
        due("13 done with a nine more", x.now(4), 15);
        DayCubes y = Check.told("c6 6 6 6 6 6;c6 6 6 6 6 6;c6 6 6 6 6 6;c6 6 6 6 6 6;");
        due("13 many alike", y.now(2), 1);
        due("13 least", y.now(3), 0);
        due("13 many with both", Check.told("b;c6 6 6 6 6 6;c6 6 6 6 6 6;c6 6 6 6 6 6;").now(2), 8);
        DayCubes z = Check.told("c0 1 2 3 4 5;c0 1 2 3 4 5;c0 1 2 3 4 5;c0 1 2 3 4 5;");
        due("13 many of four", z.now(2), 1296);
        due("13 least of four", z.now(3), 6);
        due("13 the number in front is as it is", Check.told("b;c9 6 6 6 6 6;").now(1), 9);
    }

    private static void p14Number() {
        DayCubes x = Check.told(TWO);
        x.turn(0, 1);
        x.turn(1, 3);
        due("14 told", x.number(16, 0), 1);
        due("14 told with both", x.number(19, 0), 1);
        due("14 not told", x.number(61, 0), 0);
        due("14 can", x.number(91, 1), 1);
        due("14 can not", x.number(33, 1), 0);
        due("14 work: none", x.number(19, 2), 0);
        due("14 work: a change", x.number(91, 2), 1);
        due("14 work: never", x.number(33, 2), NONE);
        due("14 work: over against, or a change more", x.number(46, 2), 2);
        due("14 pastes none", x.number(91, 3), 0);
        due("14 pastes one", x.number(33, 3), 1);
        due("14 number above", x.number(100, 0), BAD);
        due("14 number below", x.number(-1, 0), BAD);
        due("14 what above", x.number(0, 4), BAD);
        due("14 what below", x.number(0, -1), BAD);
        DayCubes ring = Check.told("c1 1 1 1 1 1;c2 2 2 2 2 2;c3 3 3 3 3 3;c4 4 4 4 4 4;");
        due("14 a ring of three", ring.number(2314, 2), 2);
        due("14 a ring of four", ring.number(2341, 2), 3);
        due("14 two rings", ring.number(2143, 2), 2);
        due("14 all to be pasted", ring.number(9999, 3), 4);
        due("14 number above", ring.number(10000, 1), BAD);
        DayCubes none = new DayCubes();
        due("14 without cubes", none.number(0, 0), 1);
        due("14 without cubes", none.number(1, 1), BAD);
    }

    private static void p15Through() {
        DayCubes x = Check.told("c0 1 2 3 4 5;c0 1 2 6 7 8;");
        due("15 one is work", x.through(26, 1), x.number(26, 2));
        due("15 three", x.through(10, 3), 3);
        due("15 one can not be", x.through(31, 3), NONE);
        due("15 none so great", x.through(98, 3), NONE);
        due("15 the greatest", Check.told("c9 8 1 1 1 1;").through(8, 2), 2);
        due("15 n above", x.through(10, 4), BAD);
        due("15 n below", x.through(10, 0), BAD);
        due("15 number above", x.through(100, 1), BAD);
        due("15 number below", x.through(-1, 1), BAD);
        due("15 n far above", x.through(10, Integer.MAX_VALUE), BAD);
        due("15 nothing is changed", x.now(1), 0);
        // side 1 is nearer at first, but side 3 has the next one beside it, not over against
        DayCubes y = Check.told("c0 1 9 1 2 9;");
        due("15 looks ahead", y.through(1, 2), 2);
        DayCubes ring = Check.told("c1 1 1 1 1 1;c2 2 3 3 3 3;c3 3 2 2 2 4;");
        due("15 rings of three may be", ring.through(231, 1), 2);
    }

    private static void p16Odds() {
        DayCubes x = Check.told("b;c0 2 4 6 8 1;c1 3 5 7 9 0;c2 2 6 6 0 4;");
        due("16 upper", x.odds(960, 0), 5);
        due("16 lower", x.odds(960, 1), 216);
        due("16 any order", x.odds(96, 0), 5);
        due("16 least terms", x.odds(966, 0), 1);
        due("16 least terms", x.odds(966, 1), 108);
        due("16 never", x.odds(135, 0), 0);
        due("16 never", x.odds(135, 1), 1);
        due("16 surely", Check.told("c7 7 7 7 7 7;").odds(7, 1), 1);
        due("16 a third", Check.told("c7 7 1 2 3 4;").odds(7, 1), 3);
        due("16 the 6 is no 9", Check.told("c6 7 1 2 3 4;").odds(9, 0), 0);
        due("16 number above", x.odds(1000, 0), BAD);
        due("16 number below", x.odds(-1, 0), BAD);
        due("16 what above", x.odds(0, 2), BAD);
        due("16 what below", x.odds(0, -1), BAD);
        due("16 without cubes", new DayCubes().odds(0, 0), 1);
        due("16 without cubes", new DayCubes().odds(0, 1), 1);
    }

    private static void p17Sees() {
        DayCubes x = new DayCubes();
        due("17 figure above", x.sees(10, 0), BAD);
        due("17 figure below", x.sees(-1, 0), BAD);
        due("17 there above", x.sees(0, 2), BAD);
        due("17 there below", x.sees(0, -1), BAD);
        for (int i = 1; i <= 6; i++) {
            due("17 seen", x.sees(9, i % 2), i);
        }
        due("17 full", x.sees(9, 1), FULL);
        due("17 bad ahead of full", x.sees(9, 2), BAD);
        due("17 still", x.count(3), 6);
    }

    private static void p18Forget() {
        DayCubes x = Check.told(TWO);
        due("18 nothing", x.forget(), 0);
        x.sees(3, 0);
        x.sees(3, 0);
        due("18 two", x.forget(), 2);
        due("18 again", x.forget(), 0);
        due("18 all may be", x.which(), 3);
    }

    private static void p19Which() {
        DayCubes x = Check.told("b;c0 1 2 3 4 5;c0 1 2 6 7 8;c9 9 9 9 9 9;");
        due("19 nothing seen", x.which(), 7);
        x.sees(6, 1);
        due("19 just so, no nine", x.which(), 2);
        x.forget();
        x.sees(9, 0);
        due("19 on none", x.which(), 3);
        x.sees(3, 0);
        due("19 all that was seen", x.which(), 2);
        x.pastes(1, 0, 3);
        due("19 figures as they are now", x.which(), 0);
        x.undo();
        x.sees(3, 1);
        due("19 it can't be", x.which(), 0);
    }

    private static void p20Look() {
        DayCubes x = Check.told("c0 1 2 3 4 5;c0 1 2 6 7 8;c9 9 9 9 9 9;c3 3 3 3 3 9;");
        due("20 two and two, the lowest", x.look(), 0);
        x.sees(0, 1);
        due("20 of two", x.look(), 3);
        x.sees(6, 1);
        due("20 fewer than 2", x.look(), NONE);
        due("20 none parts them", Check.told("c1 2 1 2 1 2;c2 2 2 1 1 1;").look(), NONE);
        due("20 just so", Check.told("b;c6 6 6 6 6 6;c9 9 9 9 9 9;").look(), 6);
        due("20 the greater part is least", Check.told("c1 2 2 2 2 2;c3 2 2 2 2 2;c3 4 4 4 4 4;"
            + "c5 4 4 4 4 4;").look(), 2);
    }

    private static void p21Mark() {
        DayCubes x = Check.told(THREE);
        x.changes(1, 2);
        x.turn(2, 4);
        due("21 cube", x.mark(0, 2), 8);
        due("21 oak", x.mark(1, 2), 9);
        due("21 bone", x.mark(2, 2), 5);
        due("21 ivory", x.mark(3, 2), 18);
        due("21 horn", x.mark(4, 2), 7);
        due("21 chalk", x.mark(5, 2), 10);
        due("21 below 0", x.mark(2, 1), -6);
        due("21 six and nine are unlike", Check.told("b;c6 9 9 9 9 9;").mark(2, 0), 4);
        due("21 kind below", x.mark(-1, 0), NO);
        due("21 kind above", x.mark(6, 0), NO);
        due("21 cube below", x.mark(0, -1), NO);
        due("21 cube above", x.mark(0, 3), NO);
    }

    private static void p22Keep() {
        DayCubes x = Check.told(TWO);
        due("22 below", x.keep(-1), BAD);
        due("22 above", x.keep(2), BAD);
        due("22 at first", x.keep(0), 0);
        x.turn(0, 5);
        due("22 work", x.keep(1), 2);
        due("22 again", x.keep(0), 2);
        due("22 without cubes", new DayCubes().keep(1), 0);
    }

    private static void p23Back() {
        DayCubes x = Check.told(TWO);
        due("23 none was kept", x.back(0), STATE);
        due("23 below", x.back(-1), BAD);
        due("23 above", x.back(2), BAD);
        x.turn(0, 2);
        x.pastes(0, 3, 9);
        x.keep(1);
        x.changes(0, 1);
        x.turn(0, 3);
        x.pastes(0, 3, 1);
        x.sees(0, 1);
        x.mark(0, 0);
        x.type(98);
        due("23 back", x.back(1), 1);
        due("23 places", x.place(0), 0);
        due("23 fronts", x.cube(0, 1), 2);
        due("23 figures", x.side(0, 3), 9);
        due("23 what may be undone", x.count(4), 2);
        due("23 seen is not kept", x.count(3), 1);
        due("23 the text is not kept", x.count(5), 1);
        due("23 the trace is not kept", x.trace(), 1);
        due("23 the other image", x.back(0), STATE);
        due("23 undo", x.undo(), 1);
        due("23 figure", x.side(0, 3), 3);
        x.turn(1, 1);
        due("23 an image is not changed", x.back(1), 1);
        due("23 an image is not changed", x.side(0, 3), 9);
        due("23 an image is not changed", x.cube(1, 1), 0);
    }

    private static void p24Count() {
        DayCubes x = Check.told(TWO + "d1;d2;d3;");
        x.sees(1, 1);
        x.turn(0, 1);
        x.turn(0, 2);
        Check.typeAll(x, "b;b;");
        due("24 cubes", x.count(0), 2);
        due("24 days", x.count(1), 3);
        due("24 both", x.count(2), 1);
        due("24 seen", x.count(3), 1);
        due("24 may be undone", x.count(4), 2);
        due("24 bytes", x.count(5), 4);
        due("24 below", x.count(-1), BAD);
        due("24 above", x.count(6), BAD);
    }

    private static void p25Trace() {
        DayCubes x = Check.told(TWO);
        int[] due = {1, 11, 101, 1011, 10101, 100001};
        long sum = 0;
        for (int kind = 0; kind < due.length; kind++) {
            x.mark(kind, 1);
            sum += due[kind];
            due("25 kind " + kind, x.trace(), sum);
        }
        x.mark(6, 0);
        x.mark(3, 2);
        due("25 what is refused leaves none", x.trace(), sum);
    }
}
