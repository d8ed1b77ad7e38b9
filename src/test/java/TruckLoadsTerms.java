import java.util.function.Supplier;

/** Each sentence of the document's opening and of its terms that names a boundary case, with a test of its own. */
public final class TruckLoadsTerms {
    private static final Class<IllegalArgumentException> ARGUMENT = IllegalArgumentException.class;
    private static final Class<UnsupportedOperationException> ROOM = UnsupportedOperationException.class;
    private static final Class<ArrayIndexOutOfBoundsException> INDEX = ArrayIndexOutOfBoundsException.class;
    private static final Supplier<TruckLoads> TWELVE = () -> new TruckLoads(12);

    private static final Sentences the = new Sentences();

    public static void main(String[] args) {
        lastOfTheCalls();
        cells();
        heights();
        heightsAtFirst();
        colds();
        pallets();
        weights();
        stops();
        palletHeights();
        standing();
        axlePositions();
        axleOrder();
        axlesAtFirst();
        loads();
        limits();
        limitsAtFirst();
        limitsAtTheEnds();
        rightHeight();
        rightCold();
        rightDanger();
        rightStops();
        rightAxles();
        exactForAtMost();
        exactMostPallets();
        exactMostWeight();
        exactFirst();
        exactNextOne();
        exactLightened();
        exactNothing();
        ruleOrder();
        ruleBehind();
        ruleButForTheAxles();
        ruleNone();
        bounds();
        boundHighAndCold();
        the.end();
    }

    private static int plain(TruckLoads x, int weight, int stop) {
        return x.pallet(weight, false, false, stop, 1);
    }

    /** A truck whose pallets have these weights, all for stop 1; the doors are shut. */
    private static TruckLoads weighing(int cells, int... weights) {
        TruckLoads x = new TruckLoads(cells);
        for (int weight : weights) {
            plain(x, weight, 1);
        }
        return x;
    }

    /** A truck whose pallets have these stops, all of weight 10; the doors are shut. */
    private static TruckLoads stopping(int cells, int... stops) {
        TruckLoads x = new TruckLoads(cells);
        for (int stop : stops) {
            plain(x, 10, stop);
        }
        return x;
    }

    private static TruckLoads opened(TruckLoads x) {
        x.doors(true);
        return x;
    }

    private static Object cellSet(TruckLoads x, int cell, int height, boolean cold) {
        x.cell(cell, height, cold);
        return "done";
    }

    private static Object axlesSet(TruckLoads x, int first, int second, int limit, int limit2) {
        x.axles(first, second, limit, limit2);
        return "done";
    }

    private static void lastOfTheCalls() {
        the.says("An object is used for at most 512 calls after it has been made");
        TruckLoads x = new TruckLoads(2);
        the.due("call 1", 0, () -> plain(x, 10, 1));
        for (int call = 2; call <= 509; call++) {
            boolean open = call % 2 == 0;
            the.due("call " + call, !open, () -> x.doors(open));
        }
        the.due("call 510", 1, () -> x.solve(1));
        the.due("call 511", true, () -> x.seal(1000000));
        the.due("call 512", 0, () -> x.at(0));
    }

    private static void cells() {
        the.says("CELLS 0, 1, .. as many as it was made for (0 the front one)");
        for (int made = 1; made <= 12; made++) {
            int cells = made;
            the.range(INDEX, 0, cells - 1, () -> new TruckLoads(cells), (x, cell) -> cellSet(x, cell, 5, true));
            the.range(ARGUMENT, -1, cells - 1, () -> opened(weighing(cells, 10)), (x, cell) -> x.place(0, cell));
        }
        TruckLoads none = opened(weighing(0, 10));
        the.refused("of no cells the first one", INDEX, none, () -> cellSet(none, 0, 5, true));
        the.refused("of no cells the first one, by hand", ARGUMENT, none, () -> none.place(0, 0));
        TruckLoads front = weighing(12, 10);
        front.solve(5);
        the.due("the front one", "0 10/1 0/1", () -> front.at(0) + " " + Sentences.fractions(front));
    }

    private static void heights() {
        the.says("A cell has a HEIGHT 1 .. 10");
        the.range(ARGUMENT, 1, 10, TWELVE, (x, height) -> cellSet(x, 0, height, false));
        for (int told = 1; told <= 10; told++) {
            int height = told;
            TruckLoads x = new TruckLoads(1);
            x.cell(0, height, false);
            x.pallet(1, false, false, 1, height);
            the.due("a pallet as high as a cell " + height + " high", 1, () -> x.solve(1));
            if (height < 10) {
                TruckLoads y = new TruckLoads(1);
                y.cell(0, height, false);
                y.pallet(1, false, false, 1, height + 1);
                the.due("one higher than a cell " + height + " high", 0, () -> y.solve(1));
            }
        }
    }

    private static void heightsAtFirst() {
        the.says("(10 at first)");
        TruckLoads x = new TruckLoads(12);
        x.pallet(1, false, false, 1, 10);
        x.doors(true);
        for (int c = 0; c < 12; c++) {
            int cell = c;
            the.due("the highest pallet in cell " + cell, 0, () -> x.place(0, cell));
        }
    }

    private static void colds() {
        the.says("and is COLD or not (not at first)");
        TruckLoads x = new TruckLoads(12);
        x.pallet(1, true, false, 1, 1);
        x.doors(true);
        for (int c = 0; c < 12; c++) {
            int cell = c;
            the.due("a cold pallet in cell " + cell + " at first", 3, () -> x.place(0, cell));
        }
        the.due("in none", 3, () -> x.bar(0));
        x.cell(11, 10, true);
        the.due("in a cold one", 0, () -> x.place(0, 11));
        x.place(0, -1);
        x.cell(11, 10, false);
        the.due("in one that is cold no more", 3, () -> x.place(0, 11));
    }

    private static void pallets() {
        the.says("PALLETS 0, 1, .. (at most 8)");
        for (int made : new int[] {0, 7, 8, 9, 12}) {
            TruckLoads x = new TruckLoads(made);
            for (int p = 0; p < 8; p++) {
                the.due("the next number", p, () -> plain(x, 1, 1));
            }
            the.refused("the ninth", ROOM, x, () -> plain(x, 1, 1));
            the.due("of eight stand by rule what has a cell", Math.min(8, made), () -> x.solve(5));
            the.refused("the ninth, whatever stands", ROOM, x, () -> plain(x, 1, 1));
        }
    }

    private static void weights() {
        the.says("a weight 1 .. 1000");
        the.range(ARGUMENT, 1, 1000, TWELVE, (x, weight) -> plain(x, weight, 1));
        for (int weight : new int[] {1, 1000}) {
            TruckLoads x = weighing(1, weight);
            x.solve(1);
            the.due("it weighs " + weight, -weight, () -> x.manifest(0));
        }
    }

    private static void stops() {
        the.says("a STOP 1 .. 9");
        the.range(ARGUMENT, 1, 9, TWELVE, (x, stop) -> plain(x, 1, stop));
        TruckLoads x = stopping(9, 1, 9);
        the.due("the first and the last stop", 2, () -> x.solve(2));
        the.due("each for its own", "0 1", () -> x.order(1, 0) + " " + x.order(9, 0));
    }

    private static void palletHeights() {
        the.says("a height 1 .. 10");
        the.range(ARGUMENT, 1, 10, TWELVE, (x, height) -> x.pallet(1, false, false, 1, height));
        TruckLoads x = new TruckLoads(2);
        x.cell(0, 1, false);
        x.cell(1, 9, false);
        x.pallet(1, false, false, 1, 1);
        x.pallet(1, false, false, 1, 10);
        the.due("the lowest has a cell, the highest has none", "0 2", () -> x.bar(0) + " " + x.bar(1));
    }

    private static void standing() {
        the.says("A pallet STANDS in a cell, or not; a cell has one at most.");
        TruckLoads x = weighing(2, 10, 20, 30);
        the.due("a new one does not stand", "-1 -1 -1", () -> Sentences.cells(x));
        the.due("no more stand than there are cells", 2, () -> x.solve(5));
        the.due("each in a cell of its own", "-1 0 1", () -> Sentences.cells(x));
        x.doors(true);
        the.due("none beside it in its cell", 1, () -> x.place(0, 1));
        x.place(2, -1);
        the.due("now the cell is left", 0, () -> x.place(0, 1));
    }

    private static void axlePositions() {
        the.says("at cell positions told (0 .. 100 each");
        the.range(ARGUMENT, 0, 99, TWELVE, (x, first) -> axlesSet(x, first, 100, 0, 0));
        the.range(ARGUMENT, 1, 100, TWELVE, (x, second) -> axlesSet(x, 0, second, 0, 0));
        TruckLoads x = weighing(12, 100);
        x.solve(1);
        the.refused("the first one at 100 leaves no place behind it", ARGUMENT, x, () -> axlesSet(x, 100, 100, 0, 0));
        the.refused("nor at 101", ARGUMENT, x, () -> axlesSet(x, 100, 101, 0, 0));
        the.refused("both too far", ARGUMENT, x, () -> axlesSet(x, 101, 102, 0, 0));
        the.refused("as far apart as can be", ARGUMENT, x, () -> axlesSet(x, Integer.MIN_VALUE, Integer.MAX_VALUE, 0, 0));
        x.axles(0, 100, 10000, 10000);
        the.due("the ends", "100/1 0/1", () -> Sentences.fractions(x));
        x.axles(99, 100, 10000, 10000);
        the.due("the last two", "10000/1 -9900/1", () -> Sentences.fractions(x));
    }

    private static void axleOrder() {
        the.says("the second one behind the first");
        for (int at : new int[] {1, 5, 99}) {
            TruckLoads x = weighing(12, 10);
            x.solve(1);
            the.refused("at the same position " + at, ARGUMENT, x, () -> axlesSet(x, at, at, 5, 5));
            the.refused("one in front of " + at, ARGUMENT, x, () -> axlesSet(x, at, at - 1, 5, 5));
            the.due("one behind " + at, "done", () -> axlesSet(x, at, at + 1, 5, 5));
        }
        TruckLoads x = new TruckLoads(1);
        the.refused("both at 0", ARGUMENT, x, () -> axlesSet(x, 0, 0, 5, 5));
    }

    private static void axlesAtFirst() {
        the.says("0 and 10 at first");
        TruckLoads x = opened(weighing(12, 7));
        x.place(0, 0);
        the.due("at the first one", "7/1 0/1", () -> Sentences.fractions(x));
        x.place(0, 10);
        the.due("at the second one", "0/1 7/1", () -> Sentences.fractions(x));
        x.place(0, 9);
        the.due("in front of it", "7/10 63/10", () -> Sentences.fractions(x));
    }

    private static void loads() {
        the.says("of the second one w * (c - first) / (second - first), of the first one the rest of w (also below 0)");
        TruckLoads x = opened(weighing(12, 1000, 1));
        x.axles(3, 7, 10000, 10000);
        String[] due = {"1750/1 -750/1", "1500/1 -500/1", "1250/1 -250/1", "1000/1 0/1", "750/1 250/1", "500/1 500/1",
            "250/1 750/1", "0/1 1000/1", "-250/1 1250/1", "-500/1 1500/1", "-750/1 1750/1", "-1000/1 2000/1"};
        for (int c = 0; c < 12; c++) {
            int cell = c;
            x.place(0, cell);
            the.due("1000 in cell " + cell, due[cell], () -> Sentences.fractions(x));
        }
        x.place(1, 0);
        the.due("two together", "-3993/4 7997/4", () -> Sentences.fractions(x));
    }

    private static void limits() {
        the.says("A LIMIT for each (0 .. 10000");
        the.range(ARGUMENT, 0, 10000, TWELVE, (x, limit) -> axlesSet(x, 0, 10, limit, 5));
        the.range(ARGUMENT, 0, 10000, TWELVE, (x, limit2) -> axlesSet(x, 0, 10, 5, limit2));
    }

    private static void limitsAtFirst() {
        the.says("10000 at first)");
        TruckLoads x = weighing(12, 1000, 1000, 1000, 1000, 1000, 1000, 1000, 1000);
        x.doors(true);
        for (int p = 0; p < 8; p++) {
            int pallet = p;
            the.due("the first axle bears all that can come", 0, () -> x.place(pallet, pallet));
        }
        the.due("that much", "5200/1 2800/1", () -> Sentences.fractions(x));
        for (int p = 7; p >= 0; p--) {
            int pallet = p;
            the.due("the second axle bears all that can come", 0, () -> x.place(pallet, pallet + 4));
        }
        the.due("as much", "2000/1 6000/1", () -> Sentences.fractions(x));
    }

    private static void limitsAtTheEnds() {
        the.says("A LIMIT for each (0 .. 10000; 10000 at first).");
        TruckLoads x = opened(weighing(12, 1000));
        x.axles(0, 1, 10000, 10000);
        the.due("10000 on the second axle", 0, () -> x.place(0, 10));
        the.due("11000 on the second axle", 6, () -> x.place(0, 11));
        x.axles(20, 21, 10000, 10000);
        the.due("10000 on the first axle", 0, () -> x.place(0, 11));
        the.due("11000 on the first axle", 6, () -> x.place(0, 10));
        x.axles(1, 10, 10000, 0);
        the.due("0 on the second axle, which bears 0", 0, () -> x.place(0, 1));
        the.due("below 0 on it", 0, () -> x.place(0, 0));
        the.due("above 0 on it", 6, () -> x.place(0, 2));
        x.axles(1, 10, 0, 10000);
        the.due("0 on the first axle, which bears 0", 0, () -> x.place(0, 10));
        the.due("below 0 on the first axle", 0, () -> x.place(0, 11));
        the.due("above 0 on the first axle", 6, () -> x.place(0, 9));
    }

    private static void rightHeight() {
        the.says("none is in a cell lower than itself");
        TruckLoads x = new TruckLoads(3);
        x.cell(0, 4, false);
        x.cell(1, 5, false);
        x.cell(2, 6, false);
        x.pallet(1, false, false, 1, 5);
        the.due("exactly", 1, () -> x.solve(1));
        the.due("into the first that is as high", 1, () -> x.at(0));
        the.due("by rule", 1, () -> x.solve(0));
        the.due("the same", 1, () -> x.at(0));
        x.doors(true);
        the.due("by hand into a higher one", 0, () -> x.place(0, 2));
        the.due("by hand into a lower one", 2, () -> x.place(0, 0));
    }

    private static void rightCold() {
        the.says("cold ones are in cold cells");
        TruckLoads x = new TruckLoads(3);
        x.cell(1, 10, true);
        x.pallet(1, true, false, 1, 1);
        the.due("exactly", 1, () -> x.solve(1));
        the.due("into the first that is cold", 1, () -> x.at(0));
        the.due("by rule", 1, () -> x.solve(0));
        the.due("the same cell", 1, () -> x.at(0));
        TruckLoads warm = new TruckLoads(1);
        warm.cell(0, 10, true);
        plain(warm, 1, 1);
        the.due("one that is not to be cold stands in a cold cell", 1, () -> warm.solve(1));
    }

    private static void rightDanger() {
        the.says("no two dangerous ones in cells side by side (c and c + 1)");
        TruckLoads x = new TruckLoads(12);
        x.pallet(1, false, true, 1, 1);
        x.pallet(1, false, true, 1, 1);
        plain(x, 1, 1);
        x.doors(true);
        x.place(0, 5);
        int[][] due = {{3, 0}, {4, 4}, {6, 4}, {7, 0}};
        for (int[] row : due) {
            the.due("a dangerous one in cell 5, one in " + row[0], row[1], () -> x.place(1, row[0]));
            x.place(1, -1);
            the.due("one that is not dangerous in " + row[0], 0, () -> x.place(2, row[0]));
            x.place(2, -1);
        }
        x.doors(false);
        the.due("exactly", 3, () -> x.solve(3));
        the.due("the plain one between them", "0 2 1", () -> Sentences.cells(x));
        the.due("by rule", 3, () -> x.solve(2));
        the.due("a cell left between them", "0 2 3", () -> Sentences.cells(x));
    }

    private static void rightStops() {
        the.says("of two pallets the one with the lesser stop is behind (a cell with a greater number)");
        int[][] stops = {{1, 2}, {8, 9}, {1, 9}};
        for (int[] pair : stops) {
            TruckLoads x = stopping(12, pair[0], pair[1]);
            the.due("exactly", 2, () -> x.solve(2));
            the.due("the lesser behind", "1 0", () -> Sentences.cells(x));
            x.doors(true);
            x.place(0, -1);
            x.place(1, 6);
            the.due("the lesser in front", 5, () -> x.place(0, 5));
            the.due("in front of all", 5, () -> x.place(0, 0));
            the.due("behind", 0, () -> x.place(0, 7));
            the.due("the greater behind", 5, () -> x.place(1, 8));
            the.due("the greater in front", 0, () -> x.place(1, 0));
        }
        TruckLoads equal = stopping(3, 4, 4);
        equal.doors(true);
        equal.place(0, 1);
        the.due("an equal one in front", 0, () -> equal.place(1, 0));
        the.due("an equal one behind", 0, () -> equal.place(1, 2));
    }

    private static void rightAxles() {
        the.says("and the load of no axle is above its limit");
        TruckLoads x = weighing(12, 500, 501);
        x.axles(0, 100, 10000, 5);
        x.doors(true);
        the.due("5 where 5 is borne", 0, () -> x.place(0, 1));
        x.place(0, -1);
        the.due("501/100 where 5 is borne", 6, () -> x.place(1, 1));
        the.due("none", 0, () -> x.place(1, 0));
        x.axles(11, 100, 501, 10000);
        the.due("501 where 501 is borne", 0, () -> x.place(1, 11));
        the.due("501 and 501/89 where 501 is borne", 6, () -> x.place(1, 10));
        TruckLoads both = weighing(12, 602, 500);
        both.axles(0, 10, 300, 200);
        the.due("exactly, two axles that bear 500 together", 1, () -> both.solve(2));
        the.due("in the one cell where each bears its part", "-1 4", () -> Sentences.cells(both));
    }

    private static void exactForAtMost() {
        the.says("EXACT, for at most so many pallets as are told");
        for (int told = 0; told <= 5; told++) {
            int most = told;
            TruckLoads x = new TruckLoads(12);
            for (int p = 0; p < most; p++) {
                plain(x, 10, 1);
            }
            the.due("as many as " + most, most, () -> x.solve(most));
            the.due("as many as " + most + " exactly", true, x::exact);
            plain(x, 10, 1);
            the.due("one more than " + most, most + 1, () -> x.solve(most));
            the.due("one more than " + most + " by rule", false, x::exact);
        }
    }

    private static void exactMostPallets() {
        the.says("of all right placings of any pallets the one with the most pallets");
        TruckLoads x = new TruckLoads(3);
        x.cell(2, 10, true);
        x.pallet(1000, true, false, 9, 1);
        plain(x, 1, 1);
        plain(x, 1, 1);
        the.due("two light ones, or a heavy one at the doors that bars both by its stop", 2, () -> x.solve(3));
        the.due("the heavy one does not stand", "-1 0 1", () -> Sentences.cells(x));
        TruckLoads one = weighing(12, 1000, 1);
        one.axles(0, 10, 10000, 0);
        the.due("one where two would be too much", 1, () -> one.solve(2));
        the.due("the heavier one", "0 -1", () -> Sentences.cells(one));
    }

    private static void exactMostWeight() {
        the.says("of such ones the one with the most weight");
        TruckLoads last = weighing(2, 10, 10, 11);
        last.solve(5);
        the.due("1 heavier", "0 -1 1", () -> Sentences.cells(last));
        TruckLoads same = weighing(2, 10, 10, 10);
        same.solve(5);
        the.due("none heavier", "0 1 -1", () -> Sentences.cells(same));
        TruckLoads heaviest = weighing(1, 998, 999, 1000, 999, 1000);
        heaviest.solve(5);
        the.due("of five the first heaviest", "-1 -1 0 -1 -1", () -> Sentences.cells(heaviest));
    }

    private static void exactFirst() {
        the.says("the first pallet stands as far in front as possible (not at all is behind all cells)");
        TruckLoads last = new TruckLoads(12);
        for (int c = 0; c < 11; c++) {
            last.cell(c, 4, false);
        }
        last.pallet(10, false, false, 1, 5);
        last.pallet(10, false, false, 1, 5);
        the.due("one cell for two", 1, () -> last.solve(2));
        the.due("the first one in the last cell, before not at all", "11 -1", () -> Sentences.cells(last));
        TruckLoads front = stopping(3, 1, 2, 1);
        front.solve(5);
        the.due("behind one with a greater stop, before one with the same", "1 0 2", () -> Sentences.cells(front));
    }

    private static void exactNextOne() {
        the.says("then the next one, and so on");
        TruckLoads x = weighing(12, 10, 10, 10, 10, 10);
        x.solve(5);
        the.due("each as far in front as the ones before it leave", "0 1 2 3 4", () -> Sentences.cells(x));
        TruckLoads four = weighing(4, 10, 10, 10, 10, 10);
        four.solve(5);
        the.due("the last one not at all", "0 1 2 3 -1", () -> Sentences.cells(four));
        TruckLoads low = new TruckLoads(6);
        low.cell(4, 4, false);
        for (int height = 1; height <= 5; height++) {
            low.pallet(10, false, false, 1, height);
        }
        low.solve(5);
        the.due("the last one behind a cell too low", "0 1 2 3 5", () -> Sentences.cells(low));
        TruckLoads axle = weighing(12, 10, 10, 10);
        axle.axles(0, 10, 22, 10000);
        axle.solve(5);
        the.due("the last one makes room for those before it", "0 1 7", () -> Sentences.cells(axle));
    }

    private static void exactLightened() {
        the.says("of all right placings of any pallets");
        TruckLoads first = oneCellForTheFirst(9);
        first.axles(0, 10, 0, 10000);
        the.due("two of which the second lightens the first axle", 2, () -> first.solve(2));
        the.due("from the last cell", "9 11", () -> Sentences.cells(first));
        TruckLoads second = oneCellForTheFirst(2);
        second.axles(1, 11, 10000, 0);
        the.due("two of which the second lightens the second axle", 2, () -> second.solve(2));
        the.due("from the front cell", "2 0", () -> Sentences.cells(second));
    }

    /** Twelve cells and two pallets alike but for their heights: the first one fits into this cell alone. */
    private static TruckLoads oneCellForTheFirst(int cell) {
        TruckLoads x = new TruckLoads(12);
        for (int c = 0; c < 12; c++) {
            x.cell(c, c == cell ? 5 : 4, false);
        }
        x.pallet(100, false, false, 1, 5);
        x.pallet(100, false, false, 1, 4);
        return x;
    }

    private static void exactNothing() {
        the.says("of all right placings of any pallets");
        the.due("no pallets, no cells", 0, () -> new TruckLoads(0).solve(5));
        the.due("no pallets", 0, () -> new TruckLoads(12).solve(5));
        TruckLoads x = weighing(0, 10, 10);
        the.due("no cells", 0, () -> x.solve(5));
        the.due("none stands", "-1 -1", () -> Sentences.cells(x));
        TruckLoads y = weighing(9, 10, 10);
        y.solve(5);
        y.axles(0, 10, 0, 0);
        the.due("none that the axles bear, anew", 0, () -> y.solve(5));
        the.due("none stands any more", "-1 -1", () -> Sentences.cells(y));
    }

    private static void ruleOrder() {
        the.says("pallets by stops, the greatest first, of equal ones by number");
        TruckLoads x = stopping(12, 1, 9, 5, 9, 1, 8, 2, 5);
        the.due("eight", 8, () -> x.solve(5));
        the.due("in their order", "6 0 3 1 7 2 5 4", () -> Sentences.cells(x));
        TruckLoads full = stopping(3, 1, 9, 5, 9, 1, 8, 2, 5);
        the.due("three cells", 3, () -> full.solve(5));
        the.due("the greatest stops alone", "-1 0 -1 1 -1 2 -1 -1", () -> Sentences.cells(full));
    }

    private static void ruleBehind() {
        the.says("each comes to the first cell behind which (and at which) none stands yet");
        TruckLoads x = new TruckLoads(4);
        x.cell(0, 4, false);
        x.pallet(1, false, false, 5, 5);
        x.pallet(1, false, false, 5, 4);
        x.pallet(1, false, false, 5, 4);
        x.pallet(1, false, false, 5, 4);
        the.due("an empty cell in front stays empty", 3, () -> x.solve(0));
        the.due("the next cell each, the last one at the doors, then none", "1 2 3 -1", () -> Sentences.cells(x));
    }

    private static void ruleButForTheAxles() {
        the.says("such that the placing is right but for the axles' limits");
        TruckLoads x = weighing(12, 1000, 1000);
        x.axles(0, 1, 0, 0);
        the.due("whatever the axles bear", 2, () -> x.solve(1));
        the.due("in front", "0 1", () -> Sentences.cells(x));
        the.due("exactly they bear none", 0, () -> x.solve(2));
    }

    private static void ruleNone() {
        the.says("if that is none, it does not stand");
        TruckLoads x = new TruckLoads(2);
        x.pallet(1, true, false, 9, 1);
        x.pallet(1, false, true, 8, 1);
        x.pallet(1, false, true, 7, 1);
        plain(x, 1, 6);
        plain(x, 1, 5);
        the.due("a cold one, a dangerous one beside another, one too many", 2, () -> x.solve(4));
        the.due("the others stand", "-1 0 -1 1 -1", () -> Sentences.cells(x));
        x.change(2, 9);
        the.due("placed anew", 2, () -> x.solve(4));
        the.due("one that stood before finds no cell", "-1 -1 0 1 -1", () -> Sentences.cells(x));
        TruckLoads none = weighing(0, 1, 1, 1, 1, 1, 1);
        the.due("no cells", 0, () -> none.solve(5));
    }

    private static void bounds() {
        the.says("the lesser of the pallets that have some cell high (and cold) enough, and the cells");
        for (int cells = 0; cells <= 12; cells++) {
            TruckLoads x = new TruckLoads(cells);
            for (int pallets = 0; pallets <= 8; pallets++) {
                the.due(pallets + " pallets, " + cells + " cells", Math.min(pallets, cells), x::bound);
                if (pallets < 8) {
                    plain(x, 1, 1);
                }
            }
        }
    }

    private static void boundHighAndCold() {
        the.says("some cell high (and cold) enough");
        TruckLoads x = new TruckLoads(2);
        x.cell(0, 5, true);
        x.cell(1, 6, false);
        x.pallet(1, true, false, 1, 5);
        the.due("as high, and cold", 1, x::bound);
        x.pallet(1, true, false, 1, 6);
        the.due("not high and cold at once", 1, x::bound);
        x.pallet(1, false, false, 1, 7);
        the.due("higher than all", 1, x::bound);
        x.pallet(1, false, false, 1, 6);
        the.due("as high as the highest", 2, x::bound);
    }
}
