import java.util.ArrayDeque;
import java.util.ArrayList;
import java.util.Arrays;
import java.util.Deque;
import java.util.List;
import java.util.TreeSet;

/**
 * The document done once more in the plainest way, without a thought for speed: all
 * orders, all fronts and all single moves are tried. ModelTest holds DayCubes against it.
 */
final class PlainCubes {
    private static final int BAD = -1, STATE = -2, FULL = -3, NONE = -9, NO = -1000000;

    /** What an image keeps. */
    private static final class Desk {
        int[][] figures = {};
        List<Integer> order = new ArrayList<>();
        int[] front = {};
        int work = 0;
        /** Whole earlier desks, the latest at the end. */
        List<Desk> earlier = new ArrayList<>();

        Desk copy() {
            Desk copy = new Desk();
            copy.figures = new int[figures.length][];
            for (int c = 0; c < figures.length; c++) {
                copy.figures[c] = figures[c].clone();
            }
            copy.order = new ArrayList<>(order);
            copy.front = front.clone();
            copy.work = work;
            copy.earlier = new ArrayList<>(earlier);
            return copy;
        }
    }

    private String text = "";
    private Desk desk = new Desk();
    private List<Integer> days = new ArrayList<>();
    private boolean both = false;
    private final List<int[]> seen = new ArrayList<>();
    private final Desk[] images = new Desk[2];
    private long trace = 0;

    private int cubes() {
        return desk.order.size();
    }

    private int numbers() {
        return (int) Math.round(Math.pow(10, cubes()));
    }

    private static boolean in(int x, int bound) {
        return x >= 0 && x < bound;
    }

    int type(int c) {
        if (!in(c, 256)) return BAD;
        if (text.length() == 100) return FULL;
        text += (char) c;
        return text.length();
    }

    int clear() {
        int had = text.length();
        text = "";
        return had;
    }

    // ---- reading: the text is cut into words first, each with its place

    private record Word(String letters, int place) {
        boolean isNumber() {
            return letters.matches("0|[1-9][0-9]{0,3}");
        }
    }

    private List<Word> cut() {
        List<Word> words = new ArrayList<>();
        java.util.regex.Matcher m = java.util.regex.Pattern.compile("[a-z]+|[0-9]+|[^ ]", java.util.regex.Pattern.DOTALL).matcher(text);
        while (m.find()) words.add(new Word(m.group(), m.start()));
        words.add(new Word("", text.length()));
        return words;
    }

    int desk() {
        List<int[]> newCubes = new ArrayList<>();
        List<Integer> newDays = new ArrayList<>();
        boolean newBoth = false;
        int items = 0;
        List<Word> words = cut();
        int i = 0;
        while (!words.get(i).letters.isEmpty()) {
            Word head = words.get(i);
            int numbers;
            int bound = 10;
            if (head.letters.equals("b") && !newBoth) {
                numbers = 0;
                newBoth = true;
            } else if (head.letters.equals("c") && newCubes.size() < 4) {
                numbers = 6;
            } else if (head.letters.equals("d") && newDays.size() < 6) {
                numbers = 1;
                bound = (int) Math.round(Math.pow(10, newCubes.size()));
            } else {
                return -10 - head.place;
            }
            int[] values = new int[numbers];
            for (int k = 0; k < numbers; k++) {
                Word w = words.get(++i);
                if (!w.isNumber() || Integer.parseInt(w.letters) >= bound) return -10 - w.place;
                values[k] = Integer.parseInt(w.letters);
            }
            Word stop = words.get(++i);
            if (!stop.letters.equals(";")) return -10 - stop.place;
            if (numbers == 6) newCubes.add(values);
            if (numbers == 1) newDays.add(values[0]);
            items++;
            i++;
        }
        desk = new Desk();
        desk.figures = newCubes.toArray(new int[0][]);
        for (int c = 0; c < newCubes.size(); c++) desk.order.add(c);
        desk.front = new int[newCubes.size()];
        days = newDays;
        both = newBoth;
        seen.clear();
        images[0] = null;
        images[1] = null;
        text = "";
        return items;
    }

    int side(int c, int s) {
        return in(c, cubes()) && in(s, 6) ? desk.figures[c][s] : BAD;
    }

    int cube(int c, int what) {
        if (!in(c, cubes()) || !in(what, 4)) return BAD;
        if (what == 0) return desk.order.indexOf(c);
        if (what == 1) return desk.front[c];
        int bits = 0;
        if (what == 2) {
            for (int f : desk.figures[c]) bits |= 1 << f;
            return bits;
        }
        int done = now(4);
        for (int s = 0; s < 6; s++) {
            int figure = desk.figures[c][s];
            desk.figures[c][s] = -77;
            if (now(4) != done) bits |= 1 << s;
            desk.figures[c][s] = figure;
        }
        return bits;
    }

    int place(int p) {
        return in(p, cubes()) ? desk.order.get(p) : BAD;
    }

    int day(int d) {
        return in(d, days.size()) ? days.get(d) : BAD;
    }

    private void remember() {
        Desk before = desk.copy();
        before.earlier.clear();
        desk.earlier.add(before);
        if (desk.earlier.size() > 10) desk.earlier.remove(0);
    }

    int turn(int c, int s) {
        if (!in(c, cubes()) || !in(s, 6)) return BAD;
        if (desk.front[c] == s) return STATE;
        remember();
        desk.work += s == 5 - desk.front[c] ? 2 : 1;
        desk.front[c] = s;
        return desk.work;
    }

    int changes(int p, int q) {
        if (!in(p, cubes()) || !in(q, cubes()) || p == q) return BAD;
        remember();
        java.util.Collections.swap(desk.order, p, q);
        return ++desk.work;
    }

    int pastes(int c, int s, int figure) {
        if (!in(c, cubes()) || !in(s, 6) || !in(figure, 10)) return BAD;
        int before = desk.figures[c][s];
        if (before == figure) return STATE;
        remember();
        desk.figures[c][s] = figure;
        return before;
    }

    int undo() {
        if (desk.earlier.isEmpty()) return STATE;
        List<Desk> earlier = new ArrayList<>(desk.earlier);
        desk = earlier.remove(earlier.size() - 1).copy();
        desk.earlier = earlier;
        return earlier.size();
    }

    int now(int what) {
        if (!in(what, 5)) return BAD;
        int answer = 0;
        switch (what) {
            case 0:
                return desk.work;
            case 1:
                for (int c : desk.order) answer = 10 * answer + desk.figures[c][desk.front[c]];
                return answer;
            case 2:
                for (int n = 0; n < numbers(); n++) if (can(n)) answer++;
                return answer;
            case 3:
                for (int n = 0; n < numbers(); n++) if (!can(n)) return n;
                return NONE;
            default:
                for (int d = 0; d < days.size(); d++) if (can(days.get(d))) answer |= 1 << d;
                return answer;
        }
    }

    // ---- numbers

    private boolean fits(int a, int b) {
        return a == b || both && (a == 6 && b == 9 || a == 9 && b == 6);
    }

    private int[] figuresOf(int n) {
        int[] figures = new int[cubes()];
        for (int p = figures.length - 1; p >= 0; p--, n /= 10) figures[p] = n % 10;
        return figures;
    }

    private static void orders(List<Integer> sofar, int k, List<int[]> all) {
        if (sofar.size() == k) all.add(sofar.stream().mapToInt(x -> x).toArray());
        for (int c = 0; c < k; c++) {
            if (!sofar.contains(c)) {
                sofar.add(c);
                orders(sofar, k, all);
                sofar.remove(sofar.size() - 1);
            }
        }
    }

    private static List<int[]> orders(int k) {
        List<int[]> all = new ArrayList<>();
        orders(new ArrayList<>(), k, all);
        return all;
    }

    private boolean has(int c, int figure) {
        for (int f : desk.figures[c]) if (fits(f, figure)) return true;
        return false;
    }

    /** The fewest PLACES, of all orders, whose CUBE has no FIGURE that fits. */
    private int fewestMissing(int n) {
        int[] figures = figuresOf(n);
        int fewest = 99;
        for (int[] order : orders(cubes())) {
            int missing = 0;
            for (int p = 0; p < order.length; p++) if (!has(order[p], figures[p])) missing++;
            fewest = Math.min(fewest, missing);
        }
        return fewest;
    }

    private boolean can(int n) {
        return fewestMissing(n) == 0;
    }

    int number(int n, int what) {
        if (!in(n, numbers()) || !in(what, 4)) return BAD;
        if (what == 0) return tells(desk.order.stream().mapToInt(x -> x).toArray(), desk.front, n) ? 1 : 0;
        if (what == 1) return can(n) ? 1 : 0;
        if (what == 2) return least(n, 1);
        return fewestMissing(n);
    }

    private boolean tells(int[] order, int[] front, int n) {
        int[] figures = figuresOf(n);
        for (int p = 0; p < order.length; p++) {
            if (!fits(desk.figures[order[p]][front[order[p]]], figures[p])) return false;
        }
        return true;
    }

    int through(int from, int n) {
        if (!in(from, numbers()) || n < 1 || n > 3) return BAD;
        return from + n - 1 >= numbers() ? NONE : least(from, n);
    }

    /**
     * By single moves over all stands: after each number only those that tell it go on.
     * (A turn over against costs what two turns do, so that turns once at most are no bound.)
     */
    private int least(int from, int n) {
        int k = cubes();
        List<int[]> orders = orders(k);
        int fronts = (int) Math.round(Math.pow(6, k));
        int[] cost = new int[orders.size() * fronts];
        Arrays.fill(cost, Integer.MAX_VALUE);
        int[] nowOrder = desk.order.stream().mapToInt(x -> x).toArray();
        cost[indexOf(orders, nowOrder) * fronts + code(desk.front)] = 0;
        for (int i = 0; i < n; i++) {
            spread(cost, orders, fronts, k);
            for (int at = 0; at < cost.length; at++) {
                if (!tells(orders.get(at / fronts), decode(at % fronts, k), from + i)) cost[at] = Integer.MAX_VALUE;
            }
        }
        int least = Integer.MAX_VALUE;
        for (int x : cost) least = Math.min(least, x);
        return least == Integer.MAX_VALUE ? NONE : least;
    }

    private static int indexOf(List<int[]> orders, int[] order) {
        for (int i = 0; i < orders.size(); i++) if (Arrays.equals(orders.get(i), order)) return i;
        throw new IllegalStateException();
    }

    private static int code(int[] front) {
        int code = 0;
        for (int s : front) code = code * 6 + s;
        return code;
    }

    private static int[] decode(int code, int k) {
        int[] front = new int[k];
        for (int c = k - 1; c >= 0; c--, code /= 6) front[c] = code % 6;
        return front;
    }

    private static void spread(int[] cost, List<int[]> orders, int fronts, int k) {
        int[][] swapped = new int[orders.size()][];
        for (int o = 0; o < swapped.length; o++) {
            List<Integer> next = new ArrayList<>();
            for (int p = 0; p < k; p++) {
                for (int q = p + 1; q < k; q++) {
                    int[] order = orders.get(o).clone();
                    int c = order[p];
                    order[p] = order[q];
                    order[q] = c;
                    next.add(indexOf(orders, order));
                }
            }
            swapped[o] = next.stream().mapToInt(x -> x).toArray();
        }
        List<Deque<Integer>> buckets = new ArrayList<>();
        for (int i = 0; i < 200; i++) buckets.add(new ArrayDeque<>());
        for (int at = 0; at < cost.length; at++) if (cost[at] < 200) buckets.get(cost[at]).add(at);
        for (int d = 0; d < 190; d++) {
            for (Integer at = buckets.get(d).poll(); at != null; at = buckets.get(d).poll()) {
                if (cost[at] != d) continue;
                for (int o : swapped[at / fronts]) reach(cost, buckets, o * fronts + at % fronts, d + 1);
                int power = 1;
                for (int c = 0; c < k; c++, power *= 6) {
                    int s = at / power % 6;
                    for (int t = 0; t < 6; t++) {
                        if (t != s) reach(cost, buckets, at + (t - s) * power, d + (t == 5 - s ? 2 : 1));
                    }
                }
            }
        }
    }

    private static void reach(int[] cost, List<Deque<Integer>> buckets, int at, int d) {
        if (d < cost[at]) {
            cost[at] = d;
            buckets.get(d).add(at);
        }
    }

    int odds(int n, int what) {
        if (!in(n, numbers()) || !in(what, 2)) return BAD;
        int k = cubes();
        int all = (int) Math.round(Math.pow(6, k));
        List<int[]> orders = orders(k);
        int good = 0;
        for (int code = 0; code < all; code++) {
            for (int[] order : orders) {
                if (tells(order, decode(code, k), n)) {
                    good++;
                    break;
                }
            }
        }
        int divisor = java.math.BigInteger.valueOf(good).gcd(java.math.BigInteger.valueOf(all)).intValue();
        return (what == 0 ? good : all) / divisor;
    }

    // ---- which it was

    int sees(int figure, int there) {
        if (!in(figure, 10) || !in(there, 2)) return BAD;
        if (seen.size() == 6) return FULL;
        seen.add(new int[] {figure, there});
        return seen.size();
    }

    int forget() {
        int had = seen.size();
        seen.clear();
        return had;
    }

    private boolean hasJustSo(int c, int figure) {
        for (int f : desk.figures[c]) if (f == figure) return true;
        return false;
    }

    int which() {
        int bits = 0;
        for (int c = 0; c < cubes(); c++) {
            boolean so = true;
            for (int[] s : seen) so &= hasJustSo(c, s[0]) == (s[1] == 1);
            if (so) bits |= 1 << c;
        }
        return bits;
    }

    int look() {
        int which = which();
        int bestPart = 99;
        int best = NONE;
        for (int f = 9; f >= 0; f--) {
            int with = 0;
            int without = 0;
            for (int c = 0; c < cubes(); c++) {
                if ((which >> c & 1) == 1) {
                    if (hasJustSo(c, f)) with++; else without++;
                }
            }
            if (with > 0 && without > 0 && Math.max(with, without) <= bestPart) {
                bestPart = Math.max(with, without);
                best = f;
            }
        }
        return best;
    }

    // ---- kinds, images

    private class Cube {
        int value(int c) {
            trace += 1;
            return desk.figures[c][desk.front[c]];
        }
    }

    private class Oak extends Cube {
        @Override int value(int c) {
            trace += 10;
            return super.value(c) + desk.order.indexOf(c);
        }
    }

    private class Bone extends Cube {
        @Override int value(int c) {
            trace += 100;
            TreeSet<Integer> unlike = new TreeSet<>();
            for (int f : desk.figures[c]) unlike.add(f);
            return super.value(c) - unlike.size();
        }
    }

    private class Ivory extends Oak {
        @Override int value(int c) {
            trace += 1000;
            return super.value(c) * 2;
        }
    }

    private class Horn extends Bone {
        @Override int value(int c) {
            trace += 10000;
            return super.value(c) + c;
        }
    }

    private class Chalk extends Cube {
        @Override int value(int c) {
            trace += 100000;
            return super.value(c) + desk.work;
        }
    }

    int mark(int kind, int c) {
        if (!in(kind, 6) || !in(c, cubes())) return NO;
        Cube[] kinds = {new Cube(), new Oak(), new Bone(), new Ivory(), new Horn(), new Chalk()};
        return kinds[kind].value(c);
    }

    int keep(int image) {
        if (!in(image, 2)) return BAD;
        images[image] = desk.copy();
        return desk.work;
    }

    int back(int image) {
        if (!in(image, 2)) return BAD;
        if (images[image] == null) return STATE;
        desk = images[image].copy();
        return desk.work;
    }

    int count(int what) {
        switch (what) {
            case 0: return cubes();
            case 1: return days.size();
            case 2: return both ? 1 : 0;
            case 3: return seen.size();
            case 4: return desk.earlier.size();
            case 5: return text.length();
            default: return BAD;
        }
    }

    long trace() {
        return trace;
    }
}
