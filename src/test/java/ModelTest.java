import java.util.Random;

/** Runs of chance calls (always the same ones), each answered by DayCubes as by PlainCubes. */
public final class ModelTest {
    private static final int CALLS = 512;
    private static final Check check = new Check();

    private final Random chance;
    private final DayCubes x = new DayCubes();
    private final PlainCubes plain = new PlainCubes();
    private final String run;
    private int calls = 0;
    private int cubes = 0;
    /** Slow for four cubes in the plain way, so these are asked now and then only. */
    private int dear = 12;

    private ModelTest(int seed) {
        chance = new Random(seed);
        run = "run " + seed + " ";
    }

    public static void main(String[] args) {
        int runs = args.length > 0 ? Integer.parseInt(args[0]) : 150;
        for (int seed = 1; seed <= runs; seed++) {
            new ModelTest(seed).go();
        }
        check.end();
    }

    private void due(String call, long got, long want) {
        calls++;
        check.due(run + "call " + calls + " " + call, got, want);
    }

    private void go() {
        while (calls < CALLS - 102) {
            tell();
            for (int i = chance.nextInt(200); i >= 0 && calls < CALLS; i--) {
                call();
            }
        }
    }

    private void tell() {
        due("clear()", x.clear(), plain.clear());
        String text = text();
        if (chance.nextInt(5) == 0) {
            text = spoil(text);
        }
        for (int i = 0; i < text.length(); i++) {
            int c = text.charAt(i);
            due("type(" + c + ")", x.type(c), plain.type(c));
        }
        due("desk() of '" + text + "'", x.desk(), plain.desk());
        cubes = plain.count(0);
    }

    private String text() {
        StringBuilder text = new StringBuilder();
        int k = Math.min(4, chance.nextInt(6));
        int figures = 2 + chance.nextInt(9);
        int shift = chance.nextInt(10);
        int bothAt = chance.nextInt(8);
        int days = chance.nextInt(7);
        int bound = 1;
        for (int c = 0; c < k; c++) {
            if (bothAt == c) text.append(chance.nextBoolean() ? "b;" : " b ; ");
            text.append('c');
            for (int s = 0; s < 6; s++) {
                text.append(s == 0 ? "" : " ").append((shift + chance.nextInt(figures)) % 10);
            }
            text.append(';');
            bound *= 10;
            if (chance.nextInt(3) == 0 && days > 0) {
                text.append('d').append(chance.nextInt(bound)).append(';');
                days--;
            }
        }
        for (; days > 0; days--) {
            text.append('d').append(chance.nextInt(bound)).append(';');
        }
        return text.toString();
    }

    private String spoil(String text) {
        StringBuilder spoilt = new StringBuilder(text);
        for (int i = chance.nextInt(2); i >= 0; i--) {
            int at = chance.nextInt(spoilt.length() + 1);
            String signs = "bcdx;;  0019#" + (char) 200;
            char sign = signs.charAt(chance.nextInt(signs.length()));
            switch (chance.nextInt(4)) {
                case 0: spoilt.insert(at, sign); break;
                case 1: spoilt.setLength(at); break;
                case 2: if (at < spoilt.length()) spoilt.deleteCharAt(at); break;
                default: if (at < spoilt.length()) spoilt.setCharAt(at, sign); break;
            }
        }
        return spoilt.toString();
    }

    /** From 0 to below the bound, and seldom one that is beside that, or far off. */
    private int about(int bound) {
        if (chance.nextInt(25) != 0) {
            return chance.nextInt(Math.max(1, bound));
        }
        int[] wrong = {-1, bound, bound + 1, Integer.MIN_VALUE, Integer.MAX_VALUE};
        return wrong[chance.nextInt(wrong.length)];
    }

    private int aNumber() {
        int bound = (int) Math.round(Math.pow(10, cubes));
        // the number in front, or days, so that many can be told
        switch (chance.nextInt(4)) {
            case 0: return plain.now(1);
            case 1: return Math.max(0, plain.day(chance.nextInt(6)));
            case 2: return mix();
            default: return about(bound);
        }
    }

    private int mix() {
        int number = 0;
        for (int c = 0; c < cubes; c++) {
            number = number * 10 + plain.side(chance.nextInt(cubes), chance.nextInt(6));
        }
        return number;
    }

    private void call() {
        switch (chance.nextInt(16)) {
            case 0: case 1: case 2: move(); break;
            case 3: case 4: ask(); break;
            case 5: case 6: askNumber(); break;
            case 7: askSeen(); break;
            case 8: askImages(); break;
            case 9: askNow(); break;
            case 10: askThrough(); break;
            case 11: askOdds(); break;
            case 12: { int k = about(6); int c = about(cubes); due("mark(" + k + ", " + c + ")", x.mark(k, c), plain.mark(k, c)); break; }
            case 13: due("trace()", x.trace(), plain.trace()); break;
            case 14: due("undo()", x.undo(), plain.undo()); break;
            default: { int w = about(6); due("count(" + w + ")", x.count(w), plain.count(w)); break; }
        }
    }

    private void move() {
        int c = about(cubes);
        int s = about(6);
        int f = about(10);
        int q = about(cubes);
        switch (chance.nextInt(3)) {
            case 0: due("turn(" + c + ", " + s + ")", x.turn(c, s), plain.turn(c, s)); break;
            case 1: due("changes(" + c + ", " + q + ")", x.changes(c, q), plain.changes(c, q)); break;
            default: due("pastes(" + c + ", " + s + ", " + f + ")", x.pastes(c, s, f), plain.pastes(c, s, f)); break;
        }
    }

    private void ask() {
        int c = about(cubes);
        int s = about(6);
        int w = about(4);
        switch (chance.nextInt(4)) {
            case 0: due("side(" + c + ", " + s + ")", x.side(c, s), plain.side(c, s)); break;
            case 1: due("cube(" + c + ", " + w + ")", x.cube(c, w), plain.cube(c, w)); break;
            case 2: due("place(" + c + ")", x.place(c), plain.place(c)); break;
            default: due("day(" + s + ")", x.day(s), plain.day(s)); break;
        }
    }

    private boolean tooDear() {
        return cubes == 4 && --dear < 0;
    }

    private void askNumber() {
        int n = aNumber();
        int w = about(4);
        if (w != 2 || !tooDear()) {
            due("number(" + n + ", " + w + ")", x.number(n, w), plain.number(n, w));
        }
    }

    private void askThrough() {
        int n = aNumber();
        int many = about(5);
        if (!tooDear()) {
            due("through(" + n + ", " + many + ")", x.through(n, many), plain.through(n, many));
        }
    }

    private void askOdds() {
        int n = aNumber();
        int w = about(2);
        due("odds(" + n + ", " + w + ")", x.odds(n, w), plain.odds(n, w));
    }

    private void askNow() {
        int w = about(5);
        if (w != 2 || !tooDear()) {
            due("now(" + w + ")", x.now(w), plain.now(w));
        }
    }

    private void askSeen() {
        int f = about(10);
        int there = about(2);
        switch (chance.nextInt(5)) {
            case 0: due("forget()", x.forget(), plain.forget()); break;
            case 1: due("which()", x.which(), plain.which()); break;
            case 2: due("look()", x.look(), plain.look()); break;
            default: due("sees(" + f + ", " + there + ")", x.sees(f, there), plain.sees(f, there)); break;
        }
    }

    private void askImages() {
        int i = about(2);
        if (chance.nextBoolean()) {
            due("keep(" + i + ")", x.keep(i), plain.keep(i));
        } else {
            due("back(" + i + ")", x.back(i), plain.back(i));
        }
    }
}
