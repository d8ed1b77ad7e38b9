import java.util.ArrayList;
import java.util.HashSet;
import java.util.List;
import java.util.NoSuchElementException;
import java.util.Set;

/**
 * Long runs of made-up calls, each asked of the class and of a plain second program of the document.
 * The second program compares every placing of the pallets and keeps each load as a fraction of its own.
 */
public final class TruckLoadsModel {
    private static final int RUNS = 1500;
    private static final int CALLS = 160;
    private static final int[] ODD = {Integer.MIN_VALUE, -2, -1, 0, 1, 5, 8, 9, 10, 11, 12, 13, 100, 101, 1001,
        10001, 1000001, Integer.MAX_VALUE};

    private static final Check check = new Check();
    private static long state = 20261115L;

    public static void main(String[] args) {
        for (int run = 1; run <= RUNS; run++) {
            int cells = below(8) == 0 ? odd() : below(13);
            TruckLoads real = new TruckLoads(cells);
            Model model = new Model(cells);
            if (below(2) == 0) {
                loadBoth(real, model);
            }
            for (int call = 1; call <= CALLS; call++) {
                oneCall("run " + run + " call " + call + ": ", real, model);
            }
        }
        check.end();
    }

    /** A fixed row of numbers, so that every run of the test asks the same. */
    private static int below(int bound) {
        state = state * 6364136223846793005L + 1442695040888963407L;
        return (int) ((state >>> 33) % bound);
    }

    private static int odd() {
        return ODD[below(ODD.length)];
    }

    private static int within(int least, int most) {
        return below(25) == 0 ? odd() : least + below(most - least + 1);
    }

    private static void loadBoth(TruckLoads real, Model model) {
        for (int i = 2 + below(4); i > 0; i--) {
            int weight = 1 + below(4) * 100;
            int stop = 1 + below(3);
            int height = 1 + below(3);
            boolean dangerous = below(3) == 0;
            real.pallet(weight, false, dangerous, stop, height);
            model.pallet(weight, false, dangerous, stop, height);
        }
    }

    private static void oneCall(String where, TruckLoads real, Model model) {
        switch (below(17)) {
            case 0: both(where, "cell", real, model, within(0, 11), within(4, 10)); break;
            case 1: both(where, "axles", real, model, within(0, 12), within(1, 20)); break;
            case 2: both(where, "pallet", real, model, within(1, 10), within(1, 9)); break;
            case 3: case 4: both(where, "solve", real, model, within(3, 5), 0); break;
            case 5: both(where, "bound", real, model, 0, 0); break;
            case 6: case 7: both(where, "place", real, model, within(0, 7), within(-1, 11)); break;
            case 8: both(where, "axle", real, model, within(0, 1), within(0, 1)); break;
            case 9: both(where, "bar", real, model, within(0, 7), 0); break;
            case 10: both(where, "change", real, model, within(0, 7), within(1, 9)); break;
            case 11: case 12: both(where, "doors", real, model, below(2), 0); break;
            case 13: both(where, "seal", real, model, within(1, 14), 0); break;
            case 14: both(where, "broken", real, model, 0, 0); break;
            case 15: both(where, "order", real, model, within(1, 9), within(0, 2)); break;
            default: both(where, "manifest", real, model, within(0, 10000), 0); break;
        }
        for (int what = -1; what <= 6; what++) {
            int asked = what;
            check.same(where + "count " + what, "" + model.count(asked), Check.answer(() -> real.count(asked)));
        }
        for (int p = -1; p <= 8; p++) {
            int asked = p;
            check.same(where + "at " + p, Check.answer(() -> model.at(asked)), Check.answer(() -> real.at(asked)));
        }
        check.same(where + "exact", "" + model.exact, "" + real.exact());
    }

    private static void both(String where, String name, TruckLoads real, Model model, int a, int b) {
        int c = within(0, 3) * 300;
        int d = below(3) == 0 ? 10000 : within(0, 10) * 100;
        boolean cold = below(4) == 0;
        boolean dangerous = below(3) == 0;
        String got = Check.answer(() -> real(real, name, a, b, c, d, cold, dangerous));
        String want = Check.answer(() -> model.call(name, a, b, c, d, cold, dangerous));
        check.same(where + name + " " + a + " " + b + " " + c + " " + d + " " + cold + " " + dangerous, want, got);
    }

    private static Object real(TruckLoads x, String name, int a, int b, int c, int d, boolean cold, boolean dangerous) {
        switch (name) {
            case "cell": x.cell(a, b, cold); return "done";
            case "axles": x.axles(a, b, c, d); return "done";
            case "pallet": return x.pallet(c, cold, dangerous, b, a);
            case "solve": return x.solve(a);
            case "bound": return x.bound();
            case "place": return x.place(a, b);
            case "axle": return x.axle(a, b);
            case "bar": return x.bar(a);
            case "change": return x.change(a, b);
            case "doors": return x.doors(a == 1);
            case "seal": return x.seal(a);
            case "broken": return x.broken();
            case "order": return x.order(a, b);
            default: return x.manifest(a);
        }
    }

    private static final class Box {
        int weight;
        boolean cold;
        boolean dangerous;
        int stop;
        int height;
    }

    private static final class Model {
        final int[] heights;
        final boolean[] colds;
        final List<Box> boxes = new ArrayList<>();
        int[] where = new int[0];
        int first = 0;
        int second = 10;
        int limit = 10000;
        int limit2 = 10000;
        boolean open = false;
        boolean exact = false;
        int seal = 0;
        final Set<Integer> seals = new HashSet<>();

        Model(int cells) {
            int made = cells < 0 ? 0 : cells > 12 ? 12 : cells;
            heights = new int[made];
            colds = new boolean[made];
            java.util.Arrays.fill(heights, 10);
        }

        Object call(String name, int a, int b, int c, int d, boolean cold, boolean dangerous) {
            switch (name) {
                case "cell": cell(a, b, cold); return "done";
                case "axles": axles(a, b, c, d); return "done";
                case "pallet": return pallet(c, cold, dangerous, b, a);
                case "solve": return solve(a);
                case "bound": return bound();
                case "place": return place(a, b);
                case "axle": return axle(a, b);
                case "bar": return bar(a);
                case "change": return change(a, b);
                case "doors": return doors(a == 1);
                case "seal": return seal(a);
                case "broken": return broken();
                case "order": return order(a, b);
                default: return manifest(a);
            }
        }

        static void argument(boolean fine) {
            if (!fine) {
                throw new IllegalArgumentException();
            }
        }

        static void now(boolean fine) {
            if (!fine) {
                throw new IllegalStateException();
            }
        }

        void known(int p) {
            if (p < 0 || p >= boxes.size()) {
                throw new NoSuchElementException();
            }
        }

        void cell(int cell, int height, boolean cold) {
            if (cell < 0 || cell >= heights.length) {
                throw new ArrayIndexOutOfBoundsException();
            }
            argument(height >= 1 && height <= 10);
            for (int c : where) {
                now(c != cell);
            }
            heights[cell] = height;
            colds[cell] = cold;
        }

        void axles(int a, int b, int c, int d) {
            argument(a >= 0 && a < b && b <= 100 && c >= 0 && c <= 10000 && d >= 0 && d <= 10000);
            first = a;
            second = b;
            limit = c;
            limit2 = d;
        }

        int pallet(int weight, boolean cold, boolean dangerous, int stop, int height) {
            argument(weight >= 1 && weight <= 1000 && stop >= 1 && stop <= 9 && height >= 1 && height <= 10);
            now(!open);
            if (boxes.size() == 8) {
                throw new UnsupportedOperationException();
            }
            Box box = new Box();
            box.weight = weight;
            box.cold = cold;
            box.dangerous = dangerous;
            box.stop = stop;
            box.height = height;
            boxes.add(box);
            where = java.util.Arrays.copyOf(where, boxes.size());
            where[boxes.size() - 1] = -1;
            return boxes.size() - 1;
        }

        /** Whether a placing breaks a rule: 1 two in a cell .. 5 stops, 6 an axle. */
        boolean breaks(int[] cells, int rule) {
            long upper = 0;
            long total = 0;
            for (int p = 0; p < cells.length; p++) {
                Box one = boxes.get(p);
                if (cells[p] < 0) {
                    continue;
                }
                upper += (long) one.weight * (cells[p] - first);
                total += one.weight;
                if (rule == 2 && heights[cells[p]] < one.height || rule == 3 && one.cold && !colds[cells[p]]) {
                    return true;
                }
                for (int q = 0; q < cells.length; q++) {
                    Box other = boxes.get(q);
                    if (q == p || cells[q] < 0) {
                        continue;
                    }
                    if (rule == 1 && cells[p] == cells[q]
                            || rule == 4 && one.dangerous && other.dangerous && cells[p] + 1 == cells[q]
                            || rule == 5 && one.stop < other.stop && cells[p] < cells[q]) {
                        return true;
                    }
                }
            }
            long span = second - first;
            return rule == 6 && (upper > limit2 * span || total * span - upper > limit * span);
        }

        boolean right(int[] cells, int lastRule) {
            for (int rule = 1; rule <= lastRule; rule++) {
                if (breaks(cells, rule)) {
                    return false;
                }
            }
            return true;
        }

        static int standing(int[] cells) {
            int all = 0;
            for (int c : cells) {
                all += c >= 0 ? 1 : 0;
            }
            return all;
        }

        int weight(int[] cells) {
            int all = 0;
            for (int p = 0; p < cells.length; p++) {
                all += cells[p] >= 0 ? boxes.get(p).weight : 0;
            }
            return all;
        }

        int solve(int most) {
            argument(most >= 0 && most <= 5);
            now(!open && seal == 0);
            exact = boxes.size() <= most;
            int[] none = new int[boxes.size()];
            java.util.Arrays.fill(none, -1);
            if (exact) {
                where = none.clone();
                every(none, 0);
            } else {
                where = byRule(none);
            }
            return standing(where);
        }

        void every(int[] cells, int p) {
            if (p == cells.length) {
                if (better(cells) && right(cells, 6)) {
                    where = cells.clone();
                }
                return;
            }
            for (int c = -1; c < heights.length; c++) {
                boolean twice = false;
                for (int q = 0; q < p; q++) {
                    twice |= c >= 0 && cells[q] == c;
                }
                if (!twice) {
                    cells[p] = c;
                    every(cells, p + 1);
                }
            }
            cells[p] = -1;
        }

        boolean better(int[] cells) {
            if (standing(cells) != standing(where)) {
                return standing(cells) > standing(where);
            }
            if (weight(cells) != weight(where)) {
                return weight(cells) > weight(where);
            }
            for (int p = 0; p < cells.length; p++) {
                if (cells[p] != where[p]) {
                    return where[p] < 0 || cells[p] >= 0 && cells[p] < where[p];
                }
            }
            return false;
        }

        int[] byRule(int[] cells) {
            List<Integer> order = new ArrayList<>();
            for (int p = 0; p < cells.length; p++) {
                order.add(p);
            }
            order.sort((p, q) -> boxes.get(q).stop - boxes.get(p).stop);
            for (int p : order) {
                int farthest = -1;
                for (int c : cells) {
                    farthest = Math.max(farthest, c);
                }
                for (int c = farthest + 1; c < heights.length && cells[p] < 0; c++) {
                    cells[p] = c;
                    if (!right(cells, 5)) {
                        cells[p] = -1;
                    }
                }
            }
            return cells;
        }

        int bound() {
            int fitting = 0;
            for (Box box : boxes) {
                boolean some = false;
                for (int c = 0; c < heights.length; c++) {
                    some |= heights[c] >= box.height && (colds[c] || !box.cold);
                }
                fitting += some ? 1 : 0;
            }
            return Math.min(fitting, heights.length);
        }

        int firstBroken(int p, int cell) {
            int[] cells = where.clone();
            cells[p] = cell;
            for (int rule = 1; rule <= 6; rule++) {
                if (breaks(cells, rule)) {
                    return rule;
                }
            }
            return 0;
        }

        int place(int p, int cell) {
            known(p);
            argument(cell >= -1 && cell < heights.length);
            now(open && seal == 0);
            int barred = cell < 0 ? 0 : firstBroken(p, cell);
            if (barred == 0) {
                where[p] = cell;
            }
            return barred;
        }

        int at(int p) {
            known(p);
            return where[p];
        }

        int axle(int axle, int side) {
            argument(axle >= 0 && axle <= 1 && side >= 0 && side <= 1);
            if (standing(where) == 0) {
                throw new ArithmeticException();
            }
            long upper = 0;
            for (int p = 0; p < where.length; p++) {
                if (where[p] >= 0) {
                    upper += (long) boxes.get(p).weight * (where[p] - first);
                }
            }
            long lower = second - first;
            if (axle == 0) {
                upper = weight(where) * lower - upper;
            }
            long common = java.math.BigInteger.valueOf(upper).gcd(java.math.BigInteger.valueOf(lower)).longValue();
            return (int) ((side == 0 ? upper : lower) / common);
        }

        int bar(int p) {
            known(p);
            now(where[p] < 0);
            List<Integer> left = new ArrayList<>();
            for (int c = 0; c < heights.length; c++) {
                left.add(c);
            }
            for (int rule = 1; rule <= 6; rule++) {
                List<Integer> still = new ArrayList<>();
                for (int c : left) {
                    int[] cells = where.clone();
                    cells[p] = c;
                    if (!breaks(cells, rule)) {
                        still.add(c);
                    }
                }
                left = still;
                if (left.isEmpty()) {
                    return rule;
                }
            }
            return 0;
        }

        boolean change(int p, int stop) {
            known(p);
            argument(stop >= 1 && stop <= 9);
            now(!open);
            int before = boxes.get(p).stop;
            boxes.get(p).stop = stop;
            if (where[p] >= 0 && breaks(where, 5)) {
                boxes.get(p).stop = before;
                return false;
            }
            return true;
        }

        boolean doors(boolean opened) {
            now(!opened || seal == 0);
            boolean before = open;
            open = opened;
            return before;
        }

        boolean seal(int number) {
            argument(number >= 1 && number <= 1000000);
            now(!open && seal == 0);
            if (seals.size() == 10) {
                throw new UnsupportedOperationException();
            }
            if (!seals.add(number)) {
                return false;
            }
            seal = number;
            return true;
        }

        int broken() {
            now(seal != 0);
            int number = seal;
            seal = 0;
            return number;
        }

        int order(int stop, int i) {
            argument(stop >= 1 && stop <= 9 && i >= 0);
            List<Integer> unloaded = new ArrayList<>();
            for (int p = 0; p < where.length; p++) {
                if (where[p] >= 0 && boxes.get(p).stop == stop) {
                    unloaded.add(p);
                }
            }
            unloaded.sort((p, q) -> where[q] - where[p]);
            return i < unloaded.size() ? unloaded.get(i) : -1;
        }

        int manifest(int weight) {
            argument(weight >= 0 && weight <= 10000);
            return weight - weight(where);
        }

        int count(int what) {
            int[] all = {heights.length, boxes.size(), standing(where), open ? 1 : 0, seal, seals.size()};
            return what >= 0 && what < all.length ? all[what] : -1;
        }
    }
}
