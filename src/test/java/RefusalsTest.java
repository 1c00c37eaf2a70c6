import java.util.ArrayList;
import java.util.List;

/**
 * "Refused, and nothing changes, the first of these: BAD .., STATE .., FULL." Every call
 * that can be refused is refused in several states, and all that can be asked then, or
 * be had out of the object by further calls, is held against an object that had no such
 * call. The same is done for questions: "Nothing is changed".
 */
public final class RefusalsTest {
    private static final int BAD = -1, STATE = -2, FULL = -3, NO = -1000000;
    private static final int LEAST = Integer.MIN_VALUE, MOST = Integer.MAX_VALUE;
    private static final Check check = new Check();

    private interface Call {
        long on(DayCubes x);
    }

    private record Named(String name, Call call, long want) { }

    /** A state that objects are brought to: calls that are done, and what is known of it then. */
    private record State(String name, Call calls, int cubes, int days, boolean textFull, boolean seenFull) {
        DayCubes made() {
            DayCubes x = new DayCubes();
            calls.on(x);
            return x;
        }

        int numbers() {
            return (int) Math.round(Math.pow(10, cubes));
        }
    }

    public static void main(String[] args) {
        List<State> states = states();
        for (State state : states) {
            List<List<Long>> before = all(state, null);
            for (Named refused : refusals(state)) {
                dueNothingChanged(state, refused, before, true);
            }
            for (Named question : questions(state)) {
                dueNothingChanged(state, question, before, false);
            }
        }
        faultsOfTheText();
        check.end();
    }

    private static void dueNothingChanged(State state, Named named, List<List<Long>> before, boolean refused) {
        if (refused) {
            check.due(state.name + ": " + named.name, named.call.on(state.made()), named.want);
        }
        List<List<Long>> behind = all(state, named.call);
        for (int i = 0; i < before.size(); i++) {
            check.holds(state.name + ": nothing changes by " + named.name + ", looked at in way " + i,
                before.get(i).equals(behind.get(i)));
        }
    }

    // ---- states

    private static List<State> states() {
        List<State> states = new ArrayList<>();
        states.add(new State("a new object", x -> 0, 0, 0, false, false));
        states.add(new State("without cubes", RefusalsTest::noCubes, 0, 1, false, false));
        states.add(new State("two cubes as told", RefusalsTest::twoAsTold, 2, 3, false, false));
        states.add(new State("two cubes in use", RefusalsTest::twoInUse, 2, 3, false, false));
        states.add(new State("all at its most", RefusalsTest::allAtItsMost, 4, 6, true, true));
        return states;
    }

    private static long noCubes(DayCubes x) {
        Check.tell(x, "b;d0;");
        x.sees(3, 0);
        x.keep(1);
        return x.type('b');
    }

    private static long twoAsTold(DayCubes x) {
        return Check.tell(x, "b;c0 1 2 3 4 5;c0 1 2 6 7 8;d31;d9;d99;");
    }

    private static long twoInUse(DayCubes x) {
        twoAsTold(x);
        x.turn(0, 3);
        x.keep(1);
        x.changes(0, 1);
        x.pastes(1, 0, 4);
        x.sees(4, 1);
        x.sees(9, 0);
        x.mark(4, 1);
        return Check.typeAll(x, "c7 7 7 7 7 7;d");
    }

    private static long allAtItsMost(DayCubes x) {
        String cubes = "c0 1 2 3 4 5;c6 7 8 9 0 1;c2 3 4 5 6 7;c8 9 0 1 2 3;";
        Check.tell(x, "b;" + cubes + "d1;d22;d333;d4444;d8;d628;");
        for (int i = 0; i < 4; i++) {
            x.turn(i, 5 - i);
            x.changes(i, (i + 1) % 4);
            x.pastes(i, i, 9 - i);
            if (i < 2) {
                x.keep(i);
            }
        }
        for (int figure = 0; figure < 6; figure++) {
            x.sees(figure, figure == 3 ? 1 : 0);
        }
        x.mark(3, 2);
        return Check.typeAll(x, " ".repeat(36) + "b;" + cubes + "d9999;d77;");
    }

    // ---- what can be refused

    private static List<Named> refusals(State state) {
        List<Named> list = new ArrayList<>();
        refusedByTheText(list, state);
        refusedByCubes(list, state);
        refusedByNumbers(list, state);
        refusedBySeen(list, state);
        refusedByKindsAndImages(list, state);
        refusedByState(list, state);
        return list;
    }

    private static void add(List<Named> list, String name, long want, Call call) {
        list.add(new Named(name, call, want));
    }

    /** Numbers that are not below a bound: next to it, far off, and the first that wrap around. */
    private static int[] not(int bound) {
        return new int[] {-1, bound, bound + 1, 715827883, LEAST, MOST};
    }

    private static void refusedByTheText(List<Named> list, State state) {
        for (int c : not(256)) {
            add(list, "type(" + c + ")", BAD, x -> x.type(c));
        }
        if (state.textFull) {
            add(list, "type when it is full", FULL, x -> x.type('b'));
            add(list, "type of the greatest when it is full", FULL, x -> x.type(255));
        }
    }

    private static void refusedByCubes(List<Named> list, State state) {
        int last = state.cubes - 1;
        for (int c : not(state.cubes)) {
            add(list, "side(" + c + ", 0)", BAD, x -> x.side(c, 0));
            add(list, "turn(" + c + ", 1)", BAD, x -> x.turn(c, 1));
            add(list, "pastes(" + c + ", 5, 9)", BAD, x -> x.pastes(c, 5, 9));
            add(list, "place(" + c + ")", BAD, x -> x.place(c));
            add(list, "changes(" + c + ", 0)", BAD, x -> x.changes(c, 0));
            add(list, "changes(" + last + ", " + c + ")", BAD, x -> x.changes(last, c));
            for (int what = 0; what < 4; what++) {
                int w = what;
                add(list, "cube(" + c + ", " + w + ")", BAD, x -> x.cube(c, w));
            }
        }
        for (int s : not(6)) {
            add(list, "side(" + last + ", " + s + ")", BAD, x -> x.side(last, s));
            add(list, "side(0, " + s + ")", BAD, x -> x.side(0, s));
            add(list, "turn(0, " + s + ")", BAD, x -> x.turn(0, s));
            add(list, "pastes(0, " + s + ", 9)", BAD, x -> x.pastes(0, s, 9));
        }
        for (int figure : not(10)) {
            add(list, "pastes(0, 0, " + figure + ")", BAD, x -> x.pastes(0, 0, figure));
        }
        for (int what : not(4)) {
            add(list, "cube(0, " + what + ")", BAD, x -> x.cube(0, what));
        }
        for (int d : not(state.days)) {
            add(list, "day(" + d + ")", BAD, x -> x.day(d));
        }
        for (int p = -1; p <= state.cubes; p++) {
            int alike = p;
            add(list, "changes(" + alike + ", " + alike + ")", BAD, x -> x.changes(alike, alike));
        }
    }

    private static void refusedByNumbers(List<Named> list, State state) {
        for (int n : not(state.numbers())) {
            for (int what = 0; what < 4; what++) {
                int w = what;
                add(list, "number(" + n + ", " + w + ")", BAD, x -> x.number(n, w));
                add(list, "odds(" + n + ", " + w + ")", BAD, x -> x.odds(n, w));
                add(list, "through(" + n + ", " + w + ")", BAD, x -> x.through(n, w));
            }
        }
        for (int what : not(4)) {
            add(list, "number(0, " + what + ")", BAD, x -> x.number(0, what));
            add(list, "through(0, " + what + ")", BAD, x -> x.through(0, what));
        }
        add(list, "through(0, 0)", BAD, x -> x.through(0, 0));
        for (int what : not(2)) {
            add(list, "odds(0, " + what + ")", BAD, x -> x.odds(0, what));
        }
        for (int what : not(5)) {
            add(list, "now(" + what + ")", BAD, x -> x.now(what));
        }
    }

    private static void refusedBySeen(List<Named> list, State state) {
        for (int figure : not(10)) {
            add(list, "sees(" + figure + ", 0)", BAD, x -> x.sees(figure, 0));
            add(list, "sees(" + figure + ", 1)", BAD, x -> x.sees(figure, 1));
        }
        for (int there : not(2)) {
            add(list, "sees(9, " + there + ")", BAD, x -> x.sees(9, there));
        }
        if (state.seenFull) {
            add(list, "sees when it is full", FULL, x -> x.sees(9, 1));
            add(list, "sees when it is full", FULL, x -> x.sees(0, 0));
        }
    }

    private static void refusedByKindsAndImages(List<Named> list, State state) {
        for (int c : not(state.cubes)) {
            for (int kind = 0; kind < 6; kind++) {
                int k = kind;
                add(list, "mark(" + k + ", " + c + ")", NO, x -> x.mark(k, c));
            }
        }
        for (int kind : not(6)) {
            add(list, "mark(" + kind + ", 0)", NO, x -> x.mark(kind, 0));
        }
        for (int image : not(2)) {
            add(list, "keep(" + image + ")", BAD, x -> x.keep(image));
            add(list, "back(" + image + ")", BAD, x -> x.back(image));
        }
        for (int what : not(6)) {
            add(list, "count(" + what + ")", BAD, x -> x.count(what));
        }
    }

    /** What is refused for what is NOW is asked of an object in that state. */
    private static void refusedByState(List<Named> list, State state) {
        for (int c = 0; c < state.cubes; c++) {
            int cube = c;
            int front = state.made().cube(c, 1);
            add(list, "turn(" + c + ", " + front + ")", STATE, x -> x.turn(cube, front));
            for (int s = 0; s < 6; s++) {
                int side = s;
                int figure = state.made().side(c, s);
                add(list, "pastes(" + c + ", " + s + ", " + figure + ")", STATE, x -> x.pastes(cube, side, figure));
            }
        }
        if (state.made().count(4) == 0) {
            add(list, "undo", STATE, x -> x.undo());
        }
        switch (state.name) {
            case "a new object":
            case "two cubes as told":
                add(list, "back(0)", STATE, x -> x.back(0));
                add(list, "back(1)", STATE, x -> x.back(1));
                break;
            case "without cubes":
            case "two cubes in use":
                add(list, "back(0)", STATE, x -> x.back(0));
                break;
            default:
                break;
        }
    }

    // ---- what is only asked

    private static List<Named> questions(State state) {
        List<Named> list = new ArrayList<>();
        int n = Math.min(state.numbers() - 1, 31);
        for (int what = 0; what < 6; what++) {
            int w = what;
            add(list, "now(" + w + ")", 0, x -> x.now(w));
            add(list, "count(" + w + ")", 0, x -> x.count(w));
            add(list, "number(0, " + w + ")", 0, x -> x.number(0, w));
            add(list, "number(" + n + ", " + w + ")", 0, x -> x.number(n, w));
            add(list, "odds(" + n + ", " + w + ")", 0, x -> x.odds(n, w));
            add(list, "through(0, " + w + ")", 0, x -> x.through(0, w));
            add(list, "through(" + n + ", " + w + ")", 0, x -> x.through(n, w));
            add(list, "cube(0, " + w + ")", 0, x -> x.cube(0, w));
            add(list, "side(0, " + w + ")", 0, x -> x.side(0, w));
            add(list, "place(" + w + ")", 0, x -> x.place(w));
            add(list, "day(" + w + ")", 0, x -> x.day(w));
        }
        add(list, "which()", 0, x -> x.which());
        add(list, "look()", 0, x -> x.look());
        add(list, "trace()", 0, x -> x.trace());
        return list;
    }

    // ---- all that an object can tell of itself, in ways that need an object each

    private static List<List<Long>> all(State state, Call between) {
        List<List<Long>> all = new ArrayList<>();
        for (int way = 0; way < 6; way++) {
            DayCubes x = state.made();
            if (between != null) {
                between.on(x);
            }
            List<Long> told = new ArrayList<>();
            switch (way) {
                case 0: askAll(x, state.cubes, told); break;
                case 1: undoAll(x, state.cubes, told); break;
                case 2: goBack(x, 0, state.cubes, told); break;
                case 3: goBack(x, 1, state.cubes, told); break;
                case 4: readTheText(x, told); break;
                default: pasteAgainstSeen(x, told); break;
            }
            all.add(told);
        }
        return all;
    }

    private static void askAll(DayCubes x, int cubes, List<Long> told) {
        askStand(x, cubes, told);
        for (int what = 0; what < 6; what++) {
            told.add((long) x.now(what));
            told.add((long) x.count(what));
            told.add((long) x.day(what));
        }
        for (int c = 0; c < cubes; c++) {
            told.add((long) x.cube(c, 2));
            told.add((long) x.cube(c, 3));
        }
        for (int n : new int[] {0, 7, 31, 96, 628, 9999}) {
            told.add((long) x.number(n, 0));
            told.add((long) x.number(n, 1));
            told.add((long) x.number(n, 2));
            told.add((long) x.number(n, 3));
            told.add((long) x.through(n, 2));
            told.add((long) x.odds(n, 0));
            told.add((long) x.odds(n, 1));
        }
        told.add((long) x.which());
        told.add((long) x.look());
        told.add(x.trace());
    }

    private static void askStand(DayCubes x, int cubes, List<Long> told) {
        told.add((long) x.now(0));
        for (int c = 0; c < cubes; c++) {
            told.add((long) x.cube(c, 1));
            told.add((long) x.place(c));
            for (int s = 0; s < 6; s++) {
                told.add((long) x.side(c, s));
            }
        }
    }

    /** All deeds are undone; what each one has changed shows at the end, how many it was, at each. */
    private static void undoAll(DayCubes x, int cubes, List<Long> told) {
        for (int i = 0; i < 11; i++) {
            told.add((long) x.undo());
            told.add((long) x.now(0));
            told.add((long) x.now(1));
        }
        askStand(x, cubes, told);
    }

    private static void goBack(DayCubes x, int image, int cubes, List<Long> told) {
        told.add((long) x.back(image));
        askStand(x, cubes, told);
        undoAll(x, cubes, told);
    }

    private static void readTheText(DayCubes x, List<Long> told) {
        told.add((long) x.desk());
        askAll(x, x.count(0), told);
        told.add((long) x.type('7'));
        told.add((long) x.clear());
    }

    /** CUBE 0 gets each FIGURE on all its SIDES, so that what was SEEN shows. */
    private static void pasteAgainstSeen(DayCubes x, List<Long> told) {
        for (int figure = 0; figure < 10; figure++) {
            for (int s = 0; s < 6; s++) {
                x.pastes(0, s, figure);
            }
            told.add((long) x.which());
            told.add((long) x.look());
        }
        told.add((long) x.forget());
    }

    // ---- a text with a FAULT is refused, too

    private static void faultsOfTheText() {
        String[] texts = {"#", "x;", "b", "b;b;", "c1 1 1 1 1 10;", "c3 3 3 3 3 3;d3;c3 3 3 3 3 3;d33;d100;",
            "b;c9 9 9 9 9 9;c9 9 9 9 9 9;c9 9 9 9 9 9;c9 9 9 9 9 9;c", "d0;d0;d0;d0;d0;d0;d", "d0;d00;"};
        for (String text : texts) {
            State state = new State("'" + text + "'", x -> {
                twoInUse(x);
                x.clear();
                return Check.typeAll(x, text);
            }, 2, 3, false, false);
            dueNothingChanged(state, new Named("desk()", x -> x.desk(), Check.deskOf(text)), all(state, null), true);
            check.holds(state.name + " has a fault", Check.deskOf(text) <= -10);
        }
    }
}
