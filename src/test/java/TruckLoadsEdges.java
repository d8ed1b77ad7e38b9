import java.util.NoSuchElementException;
import java.util.function.Supplier;

/** Each sentence of the eighteen promises that names a boundary case, with a test of its own. */
public final class TruckLoadsEdges {
    private static final Class<ArrayIndexOutOfBoundsException> INDEX = ArrayIndexOutOfBoundsException.class;
    private static final Class<IllegalArgumentException> ARGUMENT = IllegalArgumentException.class;
    private static final Class<IllegalStateException> STATE = IllegalStateException.class;
    private static final Class<UnsupportedOperationException> ROOM = UnsupportedOperationException.class;
    private static final Class<NoSuchElementException> ELEMENT = NoSuchElementException.class;
    private static final Class<ArithmeticException> ARITHMETIC = ArithmeticException.class;
    private static final int LEAST = Integer.MIN_VALUE;
    private static final int MOST = Integer.MAX_VALUE;

    private static final Sentences the = new Sentences();

    public static void main(String[] args) {
        newObject();
        cell();
        axles();
        pallet();
        solve();
        exact();
        bound();
        place();
        at();
        axle();
        bar();
        change();
        doors();
        seal();
        broken();
        order();
        manifest();
        count();
        the.end();
    }

    private static int plain(TruckLoads x, int weight, int stop) {
        return x.pallet(weight, false, false, stop, 1);
    }

    /** A truck with so many pallets alike, which do not stand yet; the doors are shut. */
    private static TruckLoads alike(int cells, int pallets) {
        TruckLoads x = new TruckLoads(cells);
        for (int p = 0; p < pallets; p++) {
            plain(x, 10, 5);
        }
        return x;
    }

    private static TruckLoads solved(TruckLoads x) {
        x.solve(5);
        return x;
    }

    private static TruckLoads opened(TruckLoads x) {
        x.doors(true);
        return x;
    }

    private static TruckLoads sealed(TruckLoads x) {
        x.seal(77);
        return x;
    }

    private static TruckLoads afterTenSeals(TruckLoads x) {
        for (int number = 1; number <= 10; number++) {
            x.seal(number);
            x.broken();
        }
        return x;
    }

    private static Object cellSet(TruckLoads x, int cell, int height, boolean cold) {
        x.cell(cell, height, cold);
        return "done";
    }

    private static Object axlesSet(TruckLoads x, int first, int second, int limit, int limit2) {
        x.axles(first, second, limit, limit2);
        return "done";
    }

    // Promise 1

    private static void newObject() {
        the.says("So many cells: below 0 as 0, above 12 as 12.");
        int[][] made = {{LEAST, 0}, {-1, 0}, {0, 0}, {1, 1}, {11, 11}, {12, 12}, {13, 12}, {MOST, 12}};
        for (int[] row : made) {
            TruckLoads x = opened(alike(row[0], 1));
            the.due("made for " + row[0], row[1], () -> x.count(0));
            the.refused("the first cell that there is not", INDEX, x, () -> cellSet(x, row[1], 5, false));
            the.due("the last one, or out if there is none", 0, () -> x.place(0, row[1] - 1));
        }

        the.says("The doors are shut; no seal.");
        TruckLoads x = alike(2, 1);
        the.due("the doors", 0, () -> x.count(3));
        the.refused("they are shut for a pallet", STATE, x, () -> x.place(0, 0));
        the.due("they were not open", false, () -> x.doors(false));
        the.due("the seal", 0, () -> x.count(4));
        the.due("seals so far", 0, () -> x.count(5));
        the.refused("no seal to be broken", STATE, x, x::broken);
        the.due("no seal bars the doors", false, () -> x.doors(true));
    }

    // Promise 2

    private static void cell() {
        the.says("ArrayIndexOutOfBoundsException (the machine's own, asked first): there is no such cell");
        for (int wrong : new int[] {LEAST, -1, 3, 12, MOST}) {
            TruckLoads x = solved(alike(3, 1));
            the.refused("cell " + wrong, INDEX, x, () -> cellSet(x, wrong, 5, true));
            the.refused("cell " + wrong + " and a height of 0", INDEX, x, () -> cellSet(x, wrong, 0, true));
            the.refused("cell " + wrong + " and a height of 11", INDEX, x, () -> cellSet(x, wrong, 11, true));
        }
        the.range(INDEX, 0, 2, () -> alike(3, 1), (x, cell) -> cellSet(x, cell, 5, true));

        the.says("A cell's height, and whether it is cold. IllegalArgumentException");
        the.range(ARGUMENT, 1, 10, () -> alike(3, 1), (x, height) -> cellSet(x, 2, height, true));
        TruckLoads low = lowAndWarm();
        the.refused("a height of 11 and cold", ARGUMENT, low, () -> cellSet(low, 0, 11, true));
        the.due("it is neither higher nor cold", "2 3", () -> low.bar(0) + " " + low.bar(1));

        the.says("IllegalStateException: a pallet stands there.");
        TruckLoads x = solved(alike(3, 2));
        the.refused("in the first cell", STATE, x, () -> cellSet(x, 0, 10, false));
        the.refused("in the second cell", STATE, x, () -> cellSet(x, 1, 10, false));
        the.due("none in the third", "done", () -> cellSet(x, 2, 10, false));
        the.refused("a height of 0 is asked before", ARGUMENT, x, () -> cellSet(x, 0, 0, false));
        the.refused("a height of 11 is asked before", ARGUMENT, x, () -> cellSet(x, 0, 11, false));
        x.doors(true);
        x.place(0, -1);
        the.due("none any more", "done", () -> cellSet(x, 0, 1, true));
        x.doors(false);
        the.due("nor does a seal bar it", "done", () -> cellSet(sealed(x), 0, 10, false));
        TruckLoads kept = solved(alike(1, 1));
        kept.pallet(10, false, false, 5, 10);
        kept.pallet(10, true, false, 5, 10);
        the.refused("lower and cold", STATE, kept, () -> cellSet(kept, 0, 1, true));
        opened(kept).place(0, -1);
        the.due("it is still as high, and not cold", "0 3", () -> kept.bar(1) + " " + kept.bar(2));
    }

    /** One cell 4 high and not cold, a pallet that is too high for it, and one that is to be cold. */
    private static TruckLoads lowAndWarm() {
        TruckLoads x = new TruckLoads(1);
        x.cell(0, 4, false);
        x.pallet(10, false, false, 1, 5);
        x.pallet(10, true, false, 1, 4);
        return x;
    }

    // Promise 3

    private static void axles() {
        the.says("The axles' positions and limits. IllegalArgumentException.");
        int[][] wrong = {{-1, 10, 5, 5}, {10, 10, 5, 5}, {11, 10, 5, 5}, {0, 101, 5, 5}, {0, 0, 5, 5}, {0, 10, -1, 5},
            {0, 10, 10001, 5}, {0, 10, 5, -1}, {0, 10, 5, 10001}, {LEAST, 10, 5, 5}, {0, MOST, 5, 5}, {MOST, LEAST, 5, 5},
            {LEAST, MOST, 5, 5}, {0, 10, LEAST, 5}, {0, 10, MOST, 5}, {0, 10, 5, LEAST}, {0, 10, 5, MOST}, {100, 100, 5, 5}};
        TruckLoads x = solved(alike(12, 1));
        plain(x, 10, 5);
        for (int[] row : wrong) {
            the.refused(row[0] + " " + row[1] + " " + row[2] + " " + row[3], ARGUMENT, x,
                    () -> axlesSet(x, row[0], row[1], row[2], row[3]));
        }
        the.due("the least", "done", () -> axlesSet(x, 0, 1, 0, 0));
        the.due("its limits bear none", 6, () -> x.bar(1));
        the.due("the greatest", "done", () -> axlesSet(x, 99, 100, 10000, 10000));
        the.due("what stands is counted anew", "1000/1 -990/1", () -> Sentences.fractions(x));
        the.due("with open doors", "done", () -> axlesSet(opened(x), 0, 10, 5, 5));
        x.doors(false);
        the.due("with a seal", "done", () -> axlesSet(sealed(x), 0, 10, 5, 5));
        the.due("what stands stays, though it is too heavy", 0, () -> x.at(0));
    }

    // Promise 4

    private static void pallet() {
        the.says("A pallet: its number.");
        TruckLoads x = new TruckLoads(12);
        for (int p = 0; p < 8; p++) {
            int number = p;
            the.due("the next one", number, () -> plain(x, 1, 1));
            the.due("it does not stand", -1, () -> x.at(number));
        }
        the.says("UnsupportedOperationException: no room");
        the.refused("the ninth", ROOM, x, () -> plain(x, 1, 1));
        the.refused("the ninth, with no cold cell", ROOM, x, () -> x.pallet(1000, true, true, 9, 10));

        the.says("IllegalArgumentException: another number outside its range");
        int[][] wrong = {{0, 5, 5}, {1001, 5, 5}, {5, 0, 5}, {5, 10, 5}, {5, 5, 0}, {5, 5, 11}, {LEAST, 5, 5}, {MOST, 5, 5},
            {5, LEAST, 5}, {5, MOST, 5}, {5, 5, LEAST}, {5, 5, MOST}, {-1, -1, -1}};
        for (int[] row : wrong) {
            for (TruckLoads y : trucksForPallets()) {
                the.refused("weight " + row[0] + ", stop " + row[1] + ", height " + row[2] + " before all else", ARGUMENT, y,
                        () -> y.pallet(row[0], false, false, row[1], row[2]));
            }
        }

        the.says("IllegalStateException: the doors are open.");
        TruckLoads open = opened(alike(3, 7));
        the.refused("with room", STATE, open, () -> plain(open, 1, 1));
        TruckLoads full = opened(alike(3, 8));
        the.refused("before no room", STATE, full, () -> plain(full, 1, 1));
        full.doors(false);
        the.refused("shut again there is no room", ROOM, full, () -> plain(full, 1, 1));
        open.doors(false);
        the.due("shut again there is room for one", 7, () -> plain(open, 1, 1));
        the.due("a seal does not bar it", 0, () -> plain(sealed(new TruckLoads(1)), 1, 1));
    }

    /** Room and shut doors; no room; open doors; both. */
    private static TruckLoads[] trucksForPallets() {
        return new TruckLoads[] {alike(3, 1), alike(3, 8), opened(alike(3, 1)), opened(alike(3, 8))};
    }

    // Promise 5

    private static void solve() {
        the.says("All are placed anew");
        TruckLoads x = opened(alike(4, 2));
        x.place(0, 3);
        x.place(1, 2);
        x.doors(false);
        the.due("exactly", 2, () -> x.solve(2));
        the.due("whatever was by hand", "0 1", () -> Sentences.cells(x));
        x.doors(true);
        x.place(0, 3);
        x.place(1, -1);
        x.doors(false);
        the.due("by rule", 2, () -> x.solve(1));
        the.due("whatever was by hand before", "0 1", () -> Sentences.cells(x));

        the.says("exactly for at most so many pallets (0 .. 5)");
        the.range(ARGUMENT, 0, 5, () -> solved(alike(3, 2)), (y, most) -> y.solve(most));
        the.due("none of none", 0, () -> new TruckLoads(3).solve(0));
        TruckLoads six = alike(12, 6);
        the.due("six for five", 6, () -> six.solve(5));
        the.due("are placed by rule", false, six::exact);

        the.says("IllegalStateException: the doors are open, or there is a seal.");
        TruckLoads open = opened(alike(3, 1));
        the.refused("open doors", STATE, open, () -> open.solve(5));
        the.refused("open doors, for none", STATE, open, () -> open.solve(0));
        TruckLoads seal = sealed(alike(3, 1));
        the.refused("a seal", STATE, seal, () -> seal.solve(5));
        for (int wrong : new int[] {LEAST, -1, 6, MOST}) {
            the.refused(wrong + " before open doors", ARGUMENT, open, () -> open.solve(wrong));
            the.refused(wrong + " before a seal", ARGUMENT, seal, () -> seal.solve(wrong));
        }
        open.doors(false);
        the.due("shut again", 1, () -> open.solve(5));
        seal.broken();
        the.due("broken", 1, () -> seal.solve(5));
    }

    // Promise 6

    private static void exact() {
        the.says("Whether the latest placing was exact (false before).");
        TruckLoads x = alike(3, 2);
        the.due("before", false, x::exact);
        the.refused("a refused placing", ARGUMENT, x, () -> x.solve(6));
        the.due("a refused one is none", false, x::exact);
        x.solve(2);
        the.due("exactly", true, x::exact);
        x.solve(1);
        the.due("by rule", false, x::exact);
        x.solve(5);
        the.due("exactly again", true, x::exact);
        x.doors(true);
        the.refused("a refused placing, doors open", STATE, x, () -> x.solve(1));
        TruckLoads none = new TruckLoads(0);
        none.solve(0);
        the.due("no pallets in no cells", true, none::exact);
    }

    // Promise 7

    private static void bound() {
        the.says("The bound.");
        the.due("nothing there yet", 0, () -> new TruckLoads(12).bound());
        TruckLoads x = new TruckLoads(2);
        x.pallet(10, false, true, 1, 10);
        x.pallet(10, false, true, 1, 10);
        the.due("though they bar one another", 2, x::bound);
        the.due("and one stands alone", 1, () -> x.solve(2));
        the.due("whatever stands", 2, x::bound);
        x.cell(1, 9, false);
        the.due("one cell high enough is enough for both", 2, x::bound);
        plain(x, 1, 1);
        the.due("no more than the cells", 2, x::bound);
    }

    // Promise 8

    private static void place() {
        placeOut();
        placeBars();
        placeOverItself();
        placeRefusals();
    }

    private static void placeOut() {
        the.says("or (cell -1) out (that is 0 always, whatever the axles bear then)");
        TruckLoads x = opened(alike(12, 2));
        the.due("one that does not stand", 0, () -> x.place(0, -1));
        x.place(0, 5);
        x.place(1, 11);
        x.axles(0, 10, 4, 10000);
        the.due("a load of 4 is borne", "4/1 16/1", () -> Sentences.fractions(x));
        the.due("without the one behind it would be 5", 0, () -> x.place(1, -1));
        the.due("it is out", "5/1 5/1", () -> Sentences.fractions(x));
        the.due("the last one too", 0, () -> x.place(0, -1));
        the.due("none stands", "-1 -1", () -> Sentences.cells(x));
    }

    private static void placeBars() {
        the.says("or the first thing that bars it, and it stays where it was");
        for (int things = 0; things < 64; things++) {
            TruckLoads x = barredBy(things);
            int due = things == 0 ? 0 : Integer.numberOfTrailingZeros(things) + 1;
            the.due("into cell 1 with the things " + Integer.toBinaryString(things), due, () -> x.place(0, 1));
            the.due("where it then is", due == 0 ? 1 : -1, () -> x.at(0));
        }
    }

    /**
     * Pallet 0 is out, the cells beside cell 1 are taken, and these things bar it from cell 1: bit 0 another
     * one, 1 the height, 2 the cold, 3 a dangerous one beside, 4 stops, 5 an axle. The doors are open.
     */
    private static TruckLoads barredBy(int things) {
        TruckLoads x = new TruckLoads(3);
        x.cell(1, has(things, 1) ? 4 : 5, !has(things, 2));
        int stop = has(things, 4) ? 4 : 5;
        x.pallet(100, true, true, 5, 5);
        plain(x, 100, stop);
        x.pallet(100, false, has(things, 3), stop, 1);
        plain(x, 100, stop);
        x.doors(true);
        x.place(2, 0);
        x.place(3, 2);
        if (has(things, 0)) {
            x.place(1, 1);
        }
        if (has(things, 5)) {
            x.axles(0, 10, 10000, 29);
        }
        return x;
    }

    private static boolean has(int things, int bit) {
        return (things >> bit & 1) == 1;
    }

    private static void placeOverItself() {
        the.says("1 another one stands there, 2 the height, 3 the cold, 4 a dangerous one beside, 5 stops, 6 an axle");
        TruckLoads x = new TruckLoads(12);
        x.pallet(100, false, true, 5, 1);
        x.doors(true);
        x.place(0, 5);
        the.due("it is not another one itself", 0, () -> x.place(0, 5));
        the.due("nor a dangerous one beside itself", 0, () -> x.place(0, 6));
        x.axles(0, 10, 10000, 70);
        the.due("nor does it bear twice on an axle", 0, () -> x.place(0, 7));
        the.due("too much where it would be", 6, () -> x.place(0, 8));
        the.due("it stays where it was", 7, () -> x.at(0));
        TruckLoads three = opened(alike(12, 3));
        three.place(0, 0);
        three.place(1, 4);
        three.place(2, 8);
        three.axles(0, 10, 18, 12);
        the.due("the others bear on the axle too", 6, () -> three.place(0, 1));
        three.axles(0, 10, 17, 13);
        the.due("13 where 13 is borne", 0, () -> three.place(0, 1));
        the.due("18 where 17 is borne", 6, () -> three.place(0, 0));
    }

    private static void placeRefusals() {
        the.says("IllegalArgumentException: no such cell");
        the.range(ARGUMENT, -1, 2, () -> opened(alike(3, 1)), (x, cell) -> x.place(0, cell));
        the.range(ARGUMENT, -1, -1, () -> opened(alike(0, 1)), (x, cell) -> x.place(0, cell));

        the.says("NoSuchElementException: a pallet that there is not");
        the.range(ELEMENT, 0, 1, () -> opened(alike(3, 2)), (x, pallet) -> x.place(pallet, 0));
        the.range(ELEMENT, 0, 7, () -> opened(alike(3, 8)), (x, pallet) -> x.place(pallet, -1));

        the.says("IllegalStateException: the doors are shut, or there is a seal.");
        TruckLoads shut = alike(3, 1);
        TruckLoads seal = sealed(alike(3, 1));
        for (TruckLoads x : new TruckLoads[] {shut, seal}) {
            String what = x == shut ? "shut" : "a seal";
            the.refused(what, STATE, x, () -> x.place(0, 0));
            the.refused(what + ", for out too", STATE, x, () -> x.place(0, -1));
            the.refused("no such cell before " + what, ARGUMENT, x, () -> x.place(0, 3));
            the.refused("no such cell -2 before " + what, ARGUMENT, x, () -> x.place(0, -2));
            the.refused("no such pallet before " + what, ELEMENT, x, () -> x.place(1, 0));
            the.refused("no such pallet -1 before " + what, ELEMENT, x, () -> x.place(-1, 0));
            the.refused("no such pallet before all", ELEMENT, x, () -> x.place(1, 3));
        }
        TruckLoads open = opened(alike(3, 1));
        the.refused("no such pallet before no such cell", ELEMENT, open, () -> open.place(1, 3));
        the.refused("no such pallet before no such cell -2", ELEMENT, open, () -> open.place(-1, -2));
        shut.doors(true);
        the.due("opened", 0, () -> shut.place(0, 0));
        seal.broken();
        the.refused("broken, the doors are still shut", STATE, seal, () -> seal.place(0, 0));
    }

    // Promise 9

    private static void at() {
        the.says("The cell of a pallet; -1 if it does not stand.");
        TruckLoads x = opened(alike(12, 1));
        the.due("not yet", -1, () -> x.at(0));
        x.place(0, 0);
        the.due("in the first cell", 0, () -> x.at(0));
        x.place(0, 11);
        the.due("in the last cell", 11, () -> x.at(0));
        x.place(0, -1);
        the.due("no more", -1, () -> x.at(0));

        the.says("at throws NoSuchElementException");
        the.range(ELEMENT, 0, 0, () -> alike(3, 1), (y, pallet) -> y.at(pallet));
        the.range(ELEMENT, 0, 7, () -> alike(3, 8), (y, pallet) -> y.at(pallet));
        TruckLoads none = new TruckLoads(3);
        the.refused("nothing there yet", ELEMENT, none, () -> none.at(0));
        the.refused("nothing there yet, -1", ELEMENT, none, () -> none.at(-1));
    }

    // Promise 10

    private static void axle() {
        the.says("as a fraction in lowest terms: its upper number (side 0; below 0 perhaps), its lower one (1; above 0)");
        TruckLoads x = opened(alike(12, 2));
        x.place(0, 11);
        the.due("below 0, a whole number", "-1/1 11/1", () -> Sentences.fractions(x));
        x.axles(0, 4, 10000, 10000);
        the.due("below 0, a half", "-35/2 55/2", () -> Sentences.fractions(x));
        x.axles(11, 100, 10000, 10000);
        the.due("0 is 0 and 1", "10/1 0/1", () -> Sentences.fractions(x));
        x.axles(0, 97, 10000, 10000);
        the.due("no terms in common", "860/97 110/97", () -> Sentences.fractions(x));
        x.axles(0, 100, 10000, 10000);
        the.due("some terms in common", "89/10 11/10", () -> Sentences.fractions(x));
        x.axles(0, 11, 10000, 10000);
        x.place(1, 0);
        the.due("of two pallets", "10/1 10/1", () -> Sentences.fractions(x));

        the.says("The load of an axle (0 or 1). IllegalArgumentException");
        the.range(ARGUMENT, 0, 1, () -> solved(alike(3, 1)), (y, axle) -> y.axle(axle, 0));
        the.range(ARGUMENT, 0, 1, () -> solved(alike(3, 1)), (y, side) -> y.axle(0, side));
        the.range(ARGUMENT, 0, 1, () -> solved(alike(3, 1)), (y, side) -> y.axle(1, side));

        the.says("ArithmeticException (the machine's own): no pallet stands.");
        TruckLoads none = alike(3, 1);
        TruckLoads empty = new TruckLoads(0);
        for (int asked = 0; asked < 4; asked++) {
            int axle = asked / 2;
            int side = asked % 2;
            the.refused("axle " + axle + " side " + side, ARITHMETIC, none, () -> none.axle(axle, side));
            the.refused("no cells, axle " + axle + " side " + side, ARITHMETIC, empty, () -> empty.axle(axle, side));
        }
        int[][] wrong = {{-1, 0}, {2, 0}, {0, -1}, {0, 2}, {LEAST, MOST}};
        for (int[] row : wrong) {
            the.refused("numbers are asked before", ARGUMENT, none, () -> none.axle(row[0], row[1]));
        }
        opened(solved(none)).place(0, -1);
        the.refused("none stands any more", ARITHMETIC, none, () -> none.axle(0, 0));
    }

    // Promise 11

    private static void bar() {
        the.says("1 to 6 as place() tells");
        for (int things = 0; things < 64; things++) {
            TruckLoads x = barredBy(things);
            int due = things == 0 ? 0 : Integer.numberOfTrailingZeros(things) + 1;
            the.due("with the things " + Integer.toBinaryString(things), due, () -> x.bar(0));
        }
        barOfCellsLeft();

        the.says("1 if there are no cells");
        the.due("of none", 1, () -> alike(0, 1).bar(0));
        TruckLoads full = solved(alike(1, 2));
        the.due("no cell left", 1, () -> full.bar(1));

        the.says("0 if some cell is left");
        TruckLoads last = solved(alike(12, 1));
        for (int c = 1; c < 11; c++) {
            last.cell(c, 1, false);
        }
        last.pallet(10, false, false, 5, 2);
        the.due("the last one", 0, () -> last.bar(1));
        last.cell(11, 1, false);
        the.due("none", 2, () -> last.bar(1));

        the.says("bar throws NoSuchElementException, IllegalStateException: it stands.");
        the.range(ELEMENT, 0, 2, () -> alike(3, 3), (x, pallet) -> x.bar(pallet));
        TruckLoads none = new TruckLoads(3);
        the.refused("nothing there yet", ELEMENT, none, () -> none.bar(0));
        TruckLoads x = solved(alike(2, 3));
        the.refused("the first one stands", STATE, x, () -> x.bar(0));
        the.refused("the second one stands", STATE, x, () -> x.bar(1));
        the.due("the third one does not", 1, () -> x.bar(2));
        x.seal(1);
        the.due("with a seal too", 1, () -> x.bar(2));
    }

    private static void barOfCellsLeft() {
        the.says("each asked of the cells that are left");
        TruckLoads x = new TruckLoads(6);
        x.pallet(100, false, true, 5, 1);
        x.pallet(100, true, true, 5, 5);
        plain(x, 100, 6);
        x.doors(true);
        x.place(0, 3);
        x.place(2, 1);
        x.cell(2, 5, true);
        x.cell(4, 4, true);
        x.cell(5, 4, true);
        the.due("one beside, the others too low or not cold", 4, () -> x.bar(1));
        x.cell(0, 5, true);
        the.due("one in front of a greater stop", 5, () -> x.bar(1));
        x.cell(5, 5, true);
        x.axles(0, 10, 10000, 89);
        the.due("one too far behind for the axle", 6, () -> x.bar(1));
        x.axles(0, 10, 10000, 90);
        the.due("one is left", 0, () -> x.bar(1));
        x.cell(2, 4, true);
        x.cell(0, 4, false);
        x.cell(5, 5, false);
        the.due("the last one that is high enough is not cold", 3, () -> x.bar(1));
        x.cell(5, 4, true);
        the.due("all that are not taken are too low", 2, () -> x.bar(1));
    }

    // Promise 12

    private static void change() {
        the.says("A pallet has another stop: true; false, and it stays as it was");
        TruckLoads x = solved(stopping(3, 6, 5, 4));
        the.due("they stand", "0 1 2", () -> Sentences.cells(x));
        int[][] due = {{1, 7, 0}, {1, 6, 1}, {1, 3, 0}, {1, 4, 1}, {0, 3, 0}, {0, 4, 1}, {0, 9, 1}, {2, 5, 0}, {2, 4, 1}, {2, 1, 1}};
        for (int[] row : due) {
            String before = Sentences.state(x);
            boolean can = row[2] == 1;
            the.due("pallet " + row[0] + " to stop " + row[1], can, () -> x.change(row[0], row[1]));
            if (can) {
                the.due("it has it", true, () -> has(x, row[0], row[1]));
            } else {
                the.due("it stays", before, () -> Sentences.state(x));
            }
        }

        the.says("by stops (of others that stand, and its own)");
        TruckLoads y = opened(stopping(3, 6, 5, 4));
        y.place(1, 1);
        y.doors(false);
        for (int stop = 1; stop <= 9; stop++) {
            int told = stop;
            the.due("others that do not stand bar it not", true, () -> y.change(1, told));
            the.due("nor is it barred if it does not stand", true, () -> y.change(0, told));
        }
        changeRefusals();
    }

    private static TruckLoads stopping(int cells, int... stops) {
        TruckLoads x = new TruckLoads(cells);
        for (int stop : stops) {
            plain(x, 10, stop);
        }
        return x;
    }

    private static boolean has(TruckLoads x, int pallet, int stop) {
        for (int i = 0; i < x.count(2); i++) {
            if (x.order(stop, i) == pallet) {
                return true;
            }
        }
        return false;
    }

    private static void changeRefusals() {
        the.says("change throws NoSuchElementException, IllegalArgumentException");
        the.range(ELEMENT, 0, 2, () -> alike(3, 3), (x, pallet) -> x.change(pallet, 5));
        the.range(ARGUMENT, 1, 9, () -> solved(alike(3, 1)), (x, stop) -> x.change(0, stop));
        TruckLoads shut = solved(alike(3, 1));
        the.refused("no such pallet before no such stop", ELEMENT, shut, () -> shut.change(1, 0));
        the.refused("no such pallet -1 before no such stop", ELEMENT, shut, () -> shut.change(-1, 10));

        the.says("IllegalStateException: the doors are open.");
        TruckLoads open = opened(solved(alike(3, 2)));
        the.refused("one that could have it", STATE, open, () -> open.change(0, 9));
        the.refused("one that could not", STATE, open, () -> open.change(0, 1));
        the.refused("the stop that it has", STATE, open, () -> open.change(0, 5));
        the.refused("no such stop before", ARGUMENT, open, () -> open.change(0, 10));
        the.refused("no such stop 0 before", ARGUMENT, open, () -> open.change(0, 0));
        the.refused("no such pallet before", ELEMENT, open, () -> open.change(2, 5));
        the.refused("no such pallet before all", ELEMENT, open, () -> open.change(2, 0));
        open.doors(false);
        the.due("shut again", true, () -> open.change(0, 9));
        the.due("a seal does not bar it", true, () -> sealed(open).change(0, 8));
    }

    // Promise 13

    private static void doors() {
        the.says("The doors are open, or shut: whether they were open.");
        TruckLoads x = new TruckLoads(0);
        boolean[] calls = {false, true, true, false, false, true, false};
        boolean before = false;
        for (boolean open : calls) {
            the.due(open ? "open" : "shut", before, () -> x.doors(open));
            the.due("now", open ? 1 : 0, () -> x.count(3));
            before = open;
        }

        the.says("IllegalStateException: there is a seal and they are to be opened.");
        x.seal(1);
        the.refused("to be opened", STATE, x, () -> x.doors(true));
        the.due("to be shut", false, () -> x.doors(false));
        the.refused("to be opened, after that", STATE, x, () -> x.doors(true));
        x.broken();
        the.due("broken", false, () -> x.doors(true));
    }

    // Promise 14

    private static void seal() {
        the.says("A seal (1 .. 1000000) is put on: true");
        the.range(ARGUMENT, 1, 1000000, () -> new TruckLoads(1), (x, number) -> x.seal(number));
        for (int number : new int[] {1, 1000000}) {
            TruckLoads x = new TruckLoads(1);
            the.due(number + " is put on", true, () -> x.seal(number));
            the.due("it is on", number, () -> x.count(4));
        }

        the.says("false if this number was on before, ever");
        TruckLoads x = new TruckLoads(1);
        for (int number = 1; number <= 9; number++) {
            x.seal(number);
            x.broken();
        }
        for (int was = 1; was <= 9; was++) {
            int number = was;
            String before = Sentences.state(x);
            the.due("the seal " + number, false, () -> x.seal(number));
            the.due("none is put on", before, () -> Sentences.state(x));
        }
        the.due("another one", true, () -> x.seal(10));
        sealRefusals(x);
    }

    private static void sealRefusals(TruckLoads tenth) {
        the.says("IllegalStateException: the doors are open, or there is a seal");
        TruckLoads open = opened(new TruckLoads(1));
        the.refused("open", STATE, open, () -> open.seal(1));
        TruckLoads on = sealed(new TruckLoads(1));
        the.refused("a seal, another number", STATE, on, () -> on.seal(78));
        the.refused("a seal, the same number", STATE, on, () -> on.seal(77));
        the.refused("the tenth is on: before no room", STATE, tenth, () -> tenth.seal(11));
        the.refused("the tenth is on: a number from before", STATE, tenth, () -> tenth.seal(1));
        TruckLoads tenOpen = opened(afterTenSeals(new TruckLoads(1)));
        the.refused("open, before no room", STATE, tenOpen, () -> tenOpen.seal(11));
        the.refused("open, a number from before", STATE, tenOpen, () -> tenOpen.seal(1));

        the.says("UnsupportedOperationException: ten were.");
        TruckLoads ten = afterTenSeals(new TruckLoads(1));
        the.refused("the eleventh", ROOM, ten, () -> ten.seal(11));
        the.refused("one of the ten", ROOM, ten, () -> ten.seal(1));
        for (int wrong : new int[] {LEAST, -1, 0, 1000001, MOST}) {
            for (TruckLoads x : new TruckLoads[] {open, on, tenth, tenOpen, ten}) {
                the.refused(wrong + " before all else", ARGUMENT, x, () -> x.seal(wrong));
            }
        }
    }

    // Promise 15

    private static void broken() {
        the.says("The seal is broken: its number. IllegalStateException: there is none.");
        TruckLoads x = new TruckLoads(1);
        the.refused("none yet", STATE, x, x::broken);
        for (int number : new int[] {1, 1000000, 2}) {
            x.seal(number);
            the.due("its number", number, x::broken);
            the.due("it is off", 0, () -> x.count(4));
            the.refused("none any more", STATE, x, x::broken);
        }
        x.seal(2);
        the.refused("none by a number that was on before", STATE, x, x::broken);
        x.doors(true);
        the.refused("none with open doors", STATE, x, x::broken);
        TruckLoads ten = afterTenSeals(new TruckLoads(1));
        the.refused("none after ten", STATE, ten, ten::broken);
    }

    // Promise 16

    private static void order() {
        the.says("The i-th pallet for a stop, as it is unloaded (from the doors on)");
        TruckLoads x = opened(stopping(12, 9, 5, 5, 5, 1, 5));
        int[][] places = {{0, 0}, {2, 1}, {1, 6}, {3, 10}, {4, 11}};
        for (int[] row : places) {
            x.place(row[0], row[1]);
        }
        int[][] due = {{9, 0, 0}, {9, 1, -1}, {5, 0, 3}, {5, 1, 1}, {5, 2, 2}, {5, 3, -1}, {5, MOST, -1}, {1, 0, 4}, {1, 1, -1},
            {2, 0, -1}, {4, 0, -1}, {6, 0, -1}, {8, 0, -1}};
        for (int[] row : due) {
            the.due("stop " + row[0] + ", i " + row[1], row[2], () -> x.order(row[0], row[1]));
        }

        the.says("-1 if there are not so many that stand");
        TruckLoads none = alike(3, 3);
        the.due("none stands", -1, () -> none.order(5, 0));
        the.due("no pallets, no cells", -1, () -> new TruckLoads(0).order(5, 0));
        x.place(3, -1);
        the.due("one less", "1 2 -1", () -> x.order(5, 0) + " " + x.order(5, 1) + " " + x.order(5, 2));

        the.says("IllegalArgumentException: no such stop, or i is below 0.");
        Supplier<TruckLoads> three = () -> solved(alike(3, 3));
        the.range(ARGUMENT, 1, 9, three, (y, stop) -> y.order(stop, 0));
        for (int wrong : new int[] {-1, -2, LEAST}) {
            TruckLoads y = three.get();
            the.refused("i " + wrong, ARGUMENT, y, () -> y.order(5, wrong));
            the.refused("i " + wrong + " where none stands", ARGUMENT, none, () -> none.order(5, wrong));
        }
    }

    // Promise 17

    private static void manifest() {
        the.says("A manifest's weight (0 .. 10000)");
        the.range(ARGUMENT, 0, 10000, () -> solved(alike(3, 2)), (x, weight) -> x.manifest(weight));

        the.says("what stands weighs so much less (below 0: more)");
        TruckLoads x = new TruckLoads(12);
        the.due("nothing, of 0", 0, () -> x.manifest(0));
        the.due("nothing, of 10000", 10000, () -> x.manifest(10000));
        for (int p = 0; p < 8; p++) {
            plain(x, 1000, 1);
        }
        the.due("what does not stand weighs nothing", 10000, () -> x.manifest(10000));
        x.solve(5);
        the.due("8000, of 0", -8000, () -> x.manifest(0));
        the.due("8000, of 7999", -1, () -> x.manifest(7999));
        the.due("8000, of 8000", 0, () -> x.manifest(8000));
        the.due("8000, of 8001", 1, () -> x.manifest(8001));
        the.due("8000, of 10000", 2000, () -> x.manifest(10000));
    }

    // Promise 18

    private static void count() {
        the.says("0 cells, 1 pallets, 2 those that stand, 3 whether the doors are open, 4 the seal (0 without), 5 seals so far");
        TruckLoads x = alike(2, 3);
        the.due("none stands", "2 3 0 0 0 0", () -> counts(x));
        x.solve(5);
        the.due("two stand", "2 3 2 0 0 0", () -> counts(x));
        x.seal(1000000);
        the.due("a seal", "2 3 2 0 1000000 1", () -> counts(x));
        x.broken();
        the.due("broken", "2 3 2 0 0 1", () -> counts(x));
        x.seal(1000000);
        the.due("not put on again", "2 3 2 0 0 1", () -> counts(x));
        x.seal(1);
        the.due("another seal", "2 3 2 0 1 2", () -> counts(x));
        x.broken();
        x.doors(true);
        x.place(0, -1);
        the.due("open, one out", "2 3 1 1 0 2", () -> counts(x));
        the.due("all eight in twelve cells, ten seals", "12 8 8 0 0 10", () -> counts(afterTenSeals(solved(alike(12, 8)))));
        the.due("nothing", "0 0 0 0 0 0", () -> counts(new TruckLoads(0)));

        the.says("-1 for another what");
        for (int what : new int[] {LEAST, -2, -1, 6, 7, MOST}) {
            the.due("count " + what, -1, () -> x.count(what));
        }
    }

    private static String counts(TruckLoads x) {
        return x.count(0) + " " + x.count(1) + " " + x.count(2) + " " + x.count(3) + " " + x.count(4) + " " + x.count(5);
    }
}
