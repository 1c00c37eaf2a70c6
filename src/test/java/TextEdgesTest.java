/**
 * Edges of THE TEXT and of what it tells (section 1 of the document; promises 1 to 4, 8).
 * Each function is for one sentence, or one part of it, that names a boundary.
 */
public final class TextEdgesTest {
    private static final int BAD = -1, STATE = -2, FULL = -3;
    private static final String CUBE = "c0 1 2 3 4 5;";
    private static final Check check = new Check();

    private static void due(String call, long got, long want) {
        check.due(call, got, want);
    }

    public static void main(String[] args) {
        aByteIs0To255();
        theTextHas100BytesAtMost();
        theTextIsEmptyBehindClear();
        theTextIsEmptyBehindDesk();
        anEmptyTextTellsNoCubes();
        cubesAre4AtMost();
        sidesAreSix();
        figuresAre0To9();
        daysAre6AtMost();
        aDayIsLessThanTheCubesAheadLet();
        bothIsToldOnceAtMost();
        blanksStandBetweenTokens();
        bytesThatBeginNoToken();
        lettersThatBeginNoItem();
        lettersSideBySideAreOneToken();
        aNumberIs9999AtMost();
        aNumberHasNo0AheadOfOthers();
        theTextEndsTooEarly();
        tokensThatCantStandThere();
        theFirstOfSeveralFaults();
        nothingChangesByAFault();
        readAnewAllIsAsTold();
        check.end();
    }

    /** "A byte (0 .. 255) comes to THE TEXT: how many it has. BAD" */
    private static void aByteIs0To255() {
        int[] wrong = {-1, 256, 257, -256, 256 + 98, Integer.MIN_VALUE, Integer.MAX_VALUE};
        DayCubes x = new DayCubes();
        for (int c : wrong) {
            due("type(" + c + ")", x.type(c), BAD);
            due("bytes behind type(" + c + ")", x.count(5), 0);
        }
        for (int c = 0; c <= 255; c++) {
            if (c % 100 == 0) {
                x = new DayCubes();
            }
            due("type(" + c + ")", x.type(c), c % 100 + 1);
        }
    }

    /** "a text (100 bytes at most)", "FULL" */
    private static void theTextHas100BytesAtMost() {
        DayCubes x = new DayCubes();
        due("the 99th byte", Check.typeAll(x, "#".repeat(99)), 99);
        due("the 100th byte", x.type(';'), 100);
        due("the 101st byte", x.type(';'), FULL);
        due("a wrong byte when it is full", x.type(256), BAD);
        due("a wrong byte when it is full", x.type(-1), BAD);
        due("bytes", x.count(5), 100);
        due("clear", x.clear(), 100);
        due("the first byte again", x.type(';'), 1);

        DayCubes y = new DayCubes();
        due("100 bytes, and a ; is missing", Check.typeAll(y, "b;" + CUBE + "d9;" + " ".repeat(80) + "d8"), 100);
        due("there is no room for it", y.type(';'), FULL);
        due("so it ends too early, at 100", y.desk(), -110);
        due("it is full yet", y.type(';'), FULL);
        due("a text of 100 bytes, told", Check.tell(y, "b;" + CUBE + "d9;" + " ".repeat(79) + "d8;"), 4);
        due("its last day", y.day(1), 8);
        due("type behind it", y.type(' '), 1);
    }

    /** "THE TEXT is empty: how many bytes it had." */
    private static void theTextIsEmptyBehindClear() {
        DayCubes x = new DayCubes();
        due("clear a new one", x.clear(), 0);
        x.type('b');
        due("clear one byte", x.clear(), 1);
        due("clear again", x.clear(), 0);
        due("bytes", x.count(5), 0);
        Check.typeAll(x, "b;" + CUBE);
        x.clear();
        due("what was cleared is not told", x.desk(), 0);
        due("no cubes", x.count(0), 0);
        DayCubes y = Check.told("b;" + CUBE + "d7;");
        y.turn(0, 5);
        y.clear();
        due("clear leaves the cubes", y.count(0), 1);
        due("clear leaves the days", y.count(1), 1);
        due("clear leaves both", y.count(2), 1);
        due("clear leaves what is now", y.now(0), 2);
    }

    /** "THE TEXT tells all, and is empty then" */
    private static void theTextIsEmptyBehindDesk() {
        DayCubes x = Check.told(CUBE);
        due("bytes", x.count(5), 0);
        due("clear", x.clear(), 0);
        Check.typeAll(x, CUBE);
        due("desk", x.desk(), 1);
        due("the same again is an empty text", x.desk(), 0);
        due("which tells no cube", x.count(0), 0);
    }

    /** "CUBES 0 ..", "DAYS 0 .." */
    private static void anEmptyTextTellsNoCubes() {
        for (String text : new String[] {"", " ", " ".repeat(100)}) {
            DayCubes x = Check.told("b;" + CUBE + "d7;");
            due("desk of " + text.length() + " blanks", Check.tell(x, text), 0);
            due("cubes", x.count(0), 0);
            due("days", x.count(1), 0);
            due("both", x.count(2), 0);
            due("side", x.side(0, 0), BAD);
            due("day", x.day(0), BAD);
        }
        due("both without cubes", Check.deskOf("b;"), 1);
    }

    /** "CUBES 0 .. (4 at most)", FAULT: "a fifth CUBE" */
    private static void cubesAre4AtMost() {
        for (int cubes = 0; cubes <= 4; cubes++) {
            DayCubes x = new DayCubes();
            due(cubes + " cubes", Check.tell(x, CUBE.repeat(cubes)), cubes);
            due(cubes + " cubes are there", x.count(0), cubes);
            due("the last one", x.side(cubes - 1, 5), cubes == 0 ? BAD : 5);
            due("the next one", x.side(cubes, 5), BAD);
        }
        String four = CUBE.repeat(4);
        due("a fifth one", Check.deskOf(four + CUBE), -10 - 52);
        due("a fifth one, and a blank", Check.deskOf(four + " c"), -10 - 53);
        due("a fifth one behind a day", Check.deskOf(four + "d1;" + CUBE), -10 - 55);
        due("four again by the next text", Check.tell(Check.told(four), four), 4);
    }

    /** "six SIDES 0 .. 5, on each a FIGURE" */
    private static void sidesAreSix() {
        due("five", Check.deskOf("c0 1 2 3 4;"), -10 - 10);
        due("six", Check.deskOf("c0 1 2 3 4 5;"), 1);
        due("seven", Check.deskOf("c0 1 2 3 4 5 6;"), -10 - 13);
        due("none", Check.deskOf("c;"), -10 - 1);
        DayCubes x = Check.told("c9 8 7 6 5 4;c3 2 1 0 9 8;");
        for (int s = 0; s < 6; s++) {
            due("side " + s, x.side(0, s), 9 - s);
            due("side " + s, x.side(1, s), (13 - s) % 10);
        }
        due("side -1", x.side(0, -1), BAD);
        due("side -1, were the cubes one row", x.side(1, -1), BAD);
        due("side 6, were the cubes one row", x.side(0, 6), BAD);
        due("side 6", x.side(1, 6), BAD);
    }

    /** "a FIGURE (0 .. 9)" */
    private static void figuresAre0To9() {
        for (int s = 0; s < 6; s++) {
            String ahead = "c" + "0 ".repeat(s);
            String behind = " 0".repeat(5 - s) + ";";
            DayCubes x = new DayCubes();
            due("9 on side " + s, Check.tell(x, ahead + 9 + behind), 1);
            due("it is 9", x.side(0, s), 9);
            due("10 on side " + s, Check.tell(x, ahead + 10 + behind), -10 - ahead.length());
            due("it is 9 yet", x.side(0, s), 9);
        }
    }

    /** "DAYS 0 .. (6 at most)", FAULT: "a seventh DAY" */
    private static void daysAre6AtMost() {
        for (int days = 0; days <= 6; days++) {
            DayCubes x = new DayCubes();
            StringBuilder text = new StringBuilder(CUBE);
            for (int d = 0; d < days; d++) {
                text.append('d').append(9 - d).append(';');
            }
            due(days + " days", Check.tell(x, text.toString()), 1 + days);
            due(days + " days are there", x.count(1), days);
            for (int d = 0; d < days; d++) {
                due("day " + d, x.day(d), 9 - d);
            }
            due("day " + days, x.day(days), BAD);
            due("day -1", x.day(-1), BAD);
        }
        String six = "d0;d0;d0;d0;d0;d0;";
        due("a seventh", Check.deskOf(six + "d0;"), -10 - 18);
        due("a seventh behind others", Check.deskOf(six + "b;" + CUBE + " d0;"), -10 - 34);
        due("six again by the next text", Check.tell(Check.told(six), six), 6);
    }

    /** "d N (the next DAY: 0 .., less than 10 to the power of how many CUBES are told ahead)" */
    private static void aDayIsLessThanTheCubesAheadLet() {
        int power = 1;
        for (int cubes = 0; cubes <= 4; cubes++, power *= 10) {
            String ahead = CUBE.repeat(cubes);
            int at = ahead.length() + 1;
            DayCubes x = new DayCubes();
            due("0 with " + cubes, Check.tell(x, ahead + "d0;"), cubes + 1);
            due("it is 0", x.day(0), 0);
            due(power - 1 + " with " + cubes, Check.tell(x, ahead + "d" + (power - 1) + ";"), cubes + 1);
            due("it is that", x.day(0), power - 1);
            due(power + " with " + cubes, Check.tell(x, ahead + "d" + power + ";"), -10 - at);
            if (cubes < 4) {
                due("a cube behind does not help", Check.tell(x, ahead + "d" + power + ";" + CUBE), -10 - at);
            }
        }
        due("below 0", Check.deskOf(CUBE + "d-1;"), -10 - 14);
        DayCubes y = new DayCubes();
        due("each by the cubes ahead of it", Check.tell(y, "d0;" + CUBE + "d9;" + CUBE + "d99;"), 5);
        due("day 0", y.day(0), 0);
        due("day 1", y.day(1), 9);
        due("day 2", y.day(2), 99);
    }

    /** "b (BOTH; once at most)", FAULT: "b again" */
    private static void bothIsToldOnceAtMost() {
        DayCubes x = new DayCubes();
        due("not told", Check.tell(x, CUBE), 1);
        due("not told", x.count(2), 0);
        due("once, ahead", Check.tell(x, "b;" + CUBE), 2);
        due("once, ahead", x.count(2), 1);
        due("once, behind", Check.tell(x, CUBE + "d1;b;"), 3);
        due("once, behind", x.count(2), 1);
        due("again", Check.tell(x, "b;b;"), -10 - 2);
        due("again, behind others", Check.tell(x, "b;" + CUBE + "d1;b;"), -10 - 18);
        due("once more by the next text", Check.tell(x, "b;"), 1);
        due("a fault behind b leaves no b", Check.tell(x, "b;x"), -12);
        due("b by the next text", Check.tell(x, "b;"), 1);
    }

    /** "blanks (32) between TOKENS" */
    private static void blanksStandBetweenTokens() {
        due("none where none must be", Check.deskOf("b;c0 1 2 3 4 5;d9;"), 3);
        due("everywhere", Check.deskOf("  b  ;  c  0  1  2  3  4  5  ;  d  9  ;  "), 3);
        due("figures want them", Check.deskOf("c012345;"), -10 - 1);
        due("a number is cut by one", Check.deskOf(CUBE + CUBE + "d1 2;"), -10 - 29);
        for (int c : new int[] {9, 10, 13, 0, 31, 33, 160}) {
            due("byte " + c + " is no blank", Check.deskOf("b" + (char) c + ";"), -10 - 1);
        }
    }

    /** FAULT: "of a byte that begins none" */
    private static void bytesThatBeginNoToken() {
        for (int c = 0; c <= 255; c++) {
            boolean letter = c >= 'a' && c <= 'z';
            boolean digit = c >= '0' && c <= '9';
            if (letter || digit || c == ' ' || c == ';') {
                continue;
            }
            String byteC = String.valueOf((char) c);
            due("byte " + c + " alone", Check.deskOf(byteC), -10);
            due("byte " + c + " for an item", Check.deskOf("b; " + byteC + "b;"), -13);
            due("byte " + c + " for a figure", Check.deskOf("c0 1 2 " + byteC), -17);
            due("byte " + c + " in a number", Check.deskOf("c0 1 2" + byteC + "3 4 5;"), -16);
            due("byte " + c + " for a ;", Check.deskOf("b" + byteC + ";"), -11);
        }
    }

    /** FAULT: "letters that begin no ITEM" */
    private static void lettersThatBeginNoItem() {
        for (char c = 'a'; c <= 'z'; c++) {
            if (c < 'b' || c > 'd') {
                due("letter " + c, Check.deskOf(" " + c + ";"), -11);
                due("letter " + c + " with six figures", Check.deskOf(c + "0 1 2 3 4 5;"), -10);
            }
        }
        for (char c = 'A'; c <= 'D'; c++) {
            due("letter " + c, Check.deskOf(c + "0;"), -10);
        }
    }

    /** "TOKENS are letters a .. z side by side" */
    private static void lettersSideBySideAreOneToken() {
        for (String letters : new String[] {"bb", "bc", "ab", "bz", "ba", "cc", "dd", "db", "bbb"}) {
            due(letters, Check.deskOf(letters + " 0;"), -10);
            due(letters + " behind an item", Check.deskOf("d0; " + letters + " 0;"), -14);
        }
        due("b c: c can't stand there", Check.deskOf("b c"), -12);
        due("letters behind a number", Check.deskOf("d0b;"), -12);
        due("a letter for a figure", Check.deskOf("c0 1 2 3 4 d;"), -21);
        due("letters for a figure", Check.deskOf("c0 1 2 3 4 5cd;"), -22);
    }

    /** FAULT: "a NUMBER above 9999" */
    private static void aNumberIs9999AtMost() {
        String four = CUBE.repeat(4);
        due("9999", Check.deskOf(four + "d9999;"), 5);
        due("9999", Check.told(four + "d9999;").day(0), 9999);
        for (String n : new String[] {"10000", "10001", "65536", "99999", "4294967296", "4294967297",
            "18446744073709551616", "10000000000000000000000000000000"}) {
            due(n, Check.deskOf(four + "d " + n + ";"), -10 - 54);
            due(n + " for a figure", Check.deskOf("c" + n + " 1 2 3 4 5;"), -11);
            due(n + " for an item", Check.deskOf("b;" + n), -12);
            due(n + " for a ;", Check.deskOf("d0 " + n), -13);
        }
        due("all the text", Check.deskOf("d" + "9".repeat(99)), -11);
    }

    /** FAULT: "or with a 0 ahead of others" */
    private static void aNumberHasNo0AheadOfOthers() {
        for (String n : new String[] {"00", "01", "09", "000", "0001", "00000"}) {
            due(n + " for a day", Check.deskOf(CUBE + CUBE + "d" + n + ";"), -10 - 27);
            due(n + " for a figure", Check.deskOf("c1 " + n + " 2 3 4 5;"), -13);
            due(n + " for the last figure", Check.deskOf("c1 2 3 4 5 " + n + ";"), -21);
        }
        DayCubes x = new DayCubes();
        due("0 alone", Check.tell(x, CUBE + CUBE + "d0;"), 3);
        due("0 behind others", Check.tell(x, CUBE + CUBE + "d10;d90;"), 4);
        due("0 behind others", x.day(0), 10);
        due("0 between others", Check.tell(x, CUBE + CUBE + CUBE + "d101;"), 4);
        due("0 between others", x.day(0), 101);
    }

    /** FAULT: "the text's length, if it ends too early" */
    private static void theTextEndsTooEarly() {
        String text = "b;" + CUBE + "d7; b";
        for (int length = 0; length <= text.length(); length++) {
            boolean whole = length == 0 || length == 2 || length == 15 || length == 18 || length == 19;
            int items = length < 2 ? 0 : length < 15 ? 1 : length < 18 ? 2 : 3;
            // b again is a FAULT before the text's end can be one
            int want = length == 20 ? -10 - 19 : whole ? items : -10 - length;
            due("the first " + length, Check.deskOf(text.substring(0, length)), want);
        }
        String spread = " d 0 ; b ; c 1 2 3 4 5 6 ;";
        for (int length = 0; length <= spread.length(); length++) {
            String part = spread.substring(0, length);
            boolean whole = part.isBlank() || part.trim().endsWith(";");
            int items = part.replaceAll("[^;]", "").length();
            due("the first " + length + " of the other", Check.deskOf(part), whole ? items : -10 - length);
        }
        due("the blanks at the end count", Check.deskOf("b   "), -14);
        due("one byte less than the most", Check.deskOf("b" + " ".repeat(98)), -10 - 99);
        due("the most", Check.deskOf("b" + " ".repeat(99)), -110);
    }

    /** FAULT: "the place of the first byte of the first TOKEN that can't stand there" */
    private static void tokensThatCantStandThere() {
        String[] tokens = {"b", ";", "c", "0", "1", "2", "3", "4", "5", ";", "d", "7", ";"};
        for (int i = 0; i < tokens.length; i++) {
            for (String wrong : new String[] {";", "7", "d", "bc", "x", "10", "10000", "01", "#"}) {
                if (!canStand(i, wrong)) {
                    StringBuilder text = new StringBuilder();
                    for (int k = 0; k < i; k++) {
                        text.append(tokens[k]).append("  ");
                    }
                    int place = text.length();
                    text.append(wrong);
                    due("'" + text + "', cut", Check.deskOf(text.toString()), -10 - place);
                    for (int k = i + 1; k < tokens.length; k++) {
                        text.append(' ').append(tokens[k]);
                    }
                    due("'" + text + "'", Check.deskOf(text.toString()), -10 - place);
                }
            }
        }
    }

    private static boolean canStand(int i, String token) {
        boolean number = i >= 3 && i <= 8 || i == 11;
        boolean stop = i == 1 || i == 9 || i == 12;
        return number ? token.equals("7") : stop ? token.equals(";") : token.equals("d");
    }

    /** FAULT: "the first TOKEN" of several wrong ones, whatever is wrong with them */
    private static void theFirstOfSeveralFaults() {
        due("a number, then a byte", Check.deskOf("c0 10 # 3 4 5;"), -13);
        due("a byte, then a number", Check.deskOf("c0 # 10 3 4 5;"), -13);
        due("b again, then a byte", Check.deskOf("b;b;#"), -12);
        due("letters, then 00", Check.deskOf("x 00"), -10);
        due("00, then letters", Check.deskOf("00 x"), -10);
        due("a day too great, then too early an end", Check.deskOf("d1"), -11);
        due("a seventh day that is too great, too", Check.deskOf("d0;".repeat(6) + "d9;"), -28);
        due("a fifth cube with wrong figures", Check.deskOf(CUBE.repeat(4) + "c77"), -62);
    }

    /** "-10 less FAULT: nothing changes." */
    private static void nothingChangesByAFault() {
        DayCubes x = Check.told("b;" + CUBE + "c6 7 8 9 0 1;d42;");
        x.turn(0, 3);
        x.keep(0);
        x.changes(0, 1);
        x.pastes(1, 5, 4);
        x.keep(1);
        x.sees(4, 1);
        x.mark(5, 1);
        // whole ITEMS ahead of the FAULT do nothing either
        String text = "c9 9 9 9 9 9;d3;c1 1 1 1 1 1;c1 1 1 1 1 1;d77;#";
        due("desk", Check.tell(x, text), -10 - 46);
        due("desk again", x.desk(), -10 - 46);
        due("bytes", x.count(5), 47);
        due("cubes", x.count(0), 2);
        due("days", x.count(1), 1);
        due("day", x.day(0), 42);
        due("both", x.count(2), 1);
        due("seen", x.count(3), 1);
        due("which", x.which(), 3);
        due("may be undone", x.count(4), 3);
        due("work", x.now(0), 2);
        due("number", x.now(1), 63);
        due("side", x.side(1, 5), 4);
        due("trace", x.trace(), 100001);
        due("undo", x.undo(), 2);
        due("side", x.side(1, 5), 1);
        due("image", x.back(0), 1);
        due("place", x.place(0), 0);
        due("image", x.back(1), 2);
        due("place", x.place(0), 1);
        due("the text goes on", x.type(' '), 48);
        due("clear", x.clear(), 48);
    }

    /** "(Read anew: as told, nothing SEEN or to be UNDONE, IMAGES are gone.)" */
    private static void readAnewAllIsAsTold() {
        DayCubes x = Check.told("b;" + CUBE + "c6 7 8 9 0 1;d42;d1;");
        x.turn(0, 3);
        x.changes(0, 1);
        x.pastes(0, 0, 7);
        x.keep(0);
        x.keep(1);
        x.sees(0, 0);
        x.mark(2, 0);
        due("desk", Check.tell(x, CUBE + "c6 7 8 9 0 1;d24;"), 3);
        due("figure", x.side(0, 0), 0);
        due("place", x.place(0), 0);
        due("place", x.place(1), 1);
        due("front", x.cube(0, 1), 0);
        due("work", x.now(0), 0);
        due("both", x.count(2), 0);
        due("days", x.count(1), 1);
        due("day", x.day(0), 24);
        due("a day of old", x.day(1), BAD);
        due("seen", x.count(3), 0);
        due("which", x.which(), 3);
        due("may be undone", x.count(4), 0);
        due("undo", x.undo(), STATE);
        due("image 0", x.back(0), STATE);
        due("image 1", x.back(1), STATE);
        due("the trace goes on", x.trace(), 101);
        due("fewer cubes", Check.tell(x, "c3 3 3 3 3 3;"), 1);
        due("a cube of old", x.side(1, 0), BAD);
        due("a place of old", x.place(1), BAD);
        due("a number of old", x.number(10, 0), BAD);
        due("image 0", x.back(0), STATE);
    }
}
