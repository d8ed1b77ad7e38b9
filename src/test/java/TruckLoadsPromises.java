import java.util.NoSuchElementException;

/** The eighteen promises one by one: ordinary inputs, the edges that the document names, wrong inputs. */
public final class TruckLoadsPromises {
    private static final Class<ArrayIndexOutOfBoundsException> INDEX = ArrayIndexOutOfBoundsException.class;
    private static final Class<IllegalArgumentException> ARGUMENT = IllegalArgumentException.class;
    private static final Class<IllegalStateException> STATE = IllegalStateException.class;
    private static final Class<UnsupportedOperationException> ROOM = UnsupportedOperationException.class;
    private static final Class<NoSuchElementException> ELEMENT = NoSuchElementException.class;
    private static final Class<ArithmeticException> ARITHMETIC = ArithmeticException.class;
    private static final int LEAST = Integer.MIN_VALUE;
    private static final int MOST = Integer.MAX_VALUE;

    private static final Check check = new Check();

    public static void main(String[] args) {
        newObject();
        cell();
        cellRefusals();
        axles();
        pallet();
        solveExactly();
        solveByRule();
        solveRefusals();
        exact();
        bound();
        place();
        placeOverloaded();
        placeRefusals();
        at();
        axle();
        bar();
        change();
        doors();
        seal();
        broken();
        order();
        manifest();
        count();
        check.end();
    }

    private static TruckLoads truck(int cells) {
        return new TruckLoads(cells);
    }

    private static int plain(TruckLoads x, int weight, int stop) {
        return x.pallet(weight, false, false, stop, 1);
    }

    private static String cells(TruckLoads x) {
        StringBuilder all = new StringBuilder();
        for (int p = 0; p < x.count(1); p++) {
            all.append(p == 0 ? "" : " ").append(x.at(p));
        }
        return all.toString();
    }

    private static Object did(Runnable call) {
        call.run();
        return "done";
    }

    private static Object cellSet(TruckLoads x, int cell, int height, boolean cold) {
        return did(() -> x.cell(cell, height, cold));
    }

    private static Object axlesSet(TruckLoads x, int first, int second, int limit, int limit2) {
        return did(() -> x.axles(first, second, limit, limit2));
    }

    private static void newObject() {
        int[][] madeFor = {{LEAST, 0}, {-1, 0}, {0, 0}, {1, 1}, {11, 11}, {12, 12}, {13, 12}, {MOST, 12}};
        for (int[] row : madeFor) {
            check.due("1 cells of " + row[0], row[1], () -> truck(row[0]).count(0));
        }
        TruckLoads x = truck(3);
        for (int what = 1; what <= 5; what++) {
            int asked = what;
            check.due("1 a new object's count " + what, 0, () -> x.count(asked));
        }
        check.due("1 the doors are shut", false, () -> x.doors(false));
        check.refused("1 no seal", STATE, x::broken);
        plain(x, 10, 1);
        x.pallet(10, true, false, 1, 1);
        x.doors(true);
        check.due("1 a cell is not cold at first", 3, () -> x.place(1, 2));
        check.due("1 a cell is 10 high at first", 0, () -> {
            x.doors(false);
            int high = x.pallet(1, false, false, 1, 10);
            x.doors(true);
            return x.place(high, 2);
        });
        TruckLoads y = truck(12);
        plain(y, 10, 1);
        y.doors(true);
        y.place(0, 3);
        check.due("1 axles at 0 and 10 at first", "7/1 3/1", () -> fractions(y));
    }

    private static void cell() {
        TruckLoads x = truck(3);
        int p = x.pallet(10, true, false, 1, 5);
        check.due("2 a cold cell", "done", () -> cellSet(x, 1, 5, true));
        x.doors(true);
        check.due("2 it is as high as told", 0, () -> x.place(p, 1));
        check.due("2 the others are not cold", 3, () -> x.place(p, 0));
        x.place(p, -1);
        check.due("2 with open doors too", "done", () -> cellSet(x, 1, 4, true));
        check.due("2 now it is lower", 2, () -> x.place(p, 1));
        x.cell(1, 10, false);
        check.due("2 no longer cold", 3, () -> x.place(p, 1));
        check.due("2 lowest", "done", () -> cellSet(x, 0, 1, false));
        x.doors(false);
        x.seal(3);
        check.due("2 with a seal too", "done", () -> cellSet(x, 2, 10, true));
    }

    private static void cellRefusals() {
        TruckLoads x = truck(3);
        plain(x, 10, 1);
        x.solve(5);
        for (int wrong : new int[] {LEAST, -1, 3, 12, MOST}) {
            check.refused("2 cell " + wrong, INDEX, () -> cellSet(x, wrong, 5, true));
            check.refused("2 cell first " + wrong, INDEX, () -> cellSet(x, wrong, 0, true));
            check.same("2 thrown by the class, not by the machine", "no such cell",
                    Check.thrownText(() -> cellSet(x, wrong, 5, true)));
        }
        for (int wrong : new int[] {LEAST, 0, 11, MOST}) {
            check.refused("2 height " + wrong, ARGUMENT, () -> cellSet(x, 1, wrong, true));
            check.refused("2 height before the pallet " + wrong, ARGUMENT, () -> cellSet(x, 0, wrong, true));
        }
        check.refused("2 a pallet stands there", STATE, () -> cellSet(x, 0, 10, false));
        check.due("2 none stands there", "done", () -> cellSet(x, 1, 10, false));
    }

    private static void axles() {
        TruckLoads x = truck(12);
        plain(x, 10, 1);
        x.solve(1);
        check.due("3 the ends", "done", () -> axlesSet(x, 0, 100, 0, 10000));
        check.due("3 neighbours", "done", () -> axlesSet(x, 99, 100, 10000, 0));
        check.due("3 in front of both axles, a load below 0", "1000/1 -990/1", () -> fractions(x));
        int[][] wrong = {
            {-1, 10, 0, 0}, {LEAST, 10, 0, 0}, {101, 102, 0, 0}, {0, 101, 0, 0}, {0, MOST, 0, 0}, {LEAST, MOST, 0, 0},
            {5, 5, 0, 0}, {6, 5, 0, 0}, {0, 0, 0, 0}, {0, 10, -1, 0}, {0, 10, 10001, 0}, {0, 10, 0, -1},
            {0, 10, 0, 10001}, {0, 10, LEAST, 0}, {0, 10, 0, MOST}, {5, -5, 0, 0}};
        for (int[] row : wrong) {
            check.refused("3 axles " + row[0] + " " + row[1] + " " + row[2] + " " + row[3], ARGUMENT,
                    () -> axlesSet(x, row[0], row[1], row[2], row[3]));
        }
        check.due("3 refused ones change nothing", "1000/1 -990/1", () -> fractions(x));
        x.doors(true);
        check.due("3 with open doors too", "done", () -> axlesSet(x, 0, 4, 1, 2));
        x.doors(false);
        x.seal(4);
        check.due("3 with a seal too", "done", () -> axlesSet(x, 0, 5, 1, 2));
    }

    private static void pallet() {
        TruckLoads x = truck(3);
        int[][] wrong = {{0, 1, 1}, {-1, 1, 1}, {1001, 1, 1}, {LEAST, 1, 1}, {MOST, 1, 1}, {1, 0, 1}, {1, 10, 1},
            {1, LEAST, 1}, {1, MOST, 1}, {1, 1, 0}, {1, 1, 11}, {1, 1, LEAST}, {1, 1, MOST}};
        for (int[] row : wrong) {
            check.refused("4 pallet " + row[0] + " " + row[1] + " " + row[2], ARGUMENT,
                    () -> x.pallet(row[0], true, true, row[1], row[2]));
        }
        check.due("4 none was taken", 0, () -> x.count(1));
        check.due("4 the least numbers", 0, () -> x.pallet(1, false, false, 1, 1));
        check.due("4 the greatest numbers", 1, () -> x.pallet(1000, true, true, 9, 10));
        x.doors(true);
        check.refused("4 the doors are open", STATE, () -> x.pallet(1, false, false, 1, 1));
        check.refused("4 numbers before the doors", ARGUMENT, () -> x.pallet(0, false, false, 1, 1));
        x.doors(false);
        x.seal(1);
        check.due("4 with a seal too", 2, () -> x.pallet(1, false, false, 1, 1));
        x.broken();
        for (int p = 3; p < 8; p++) {
            int number = p;
            check.due("4 the next one", number, () -> x.pallet(1, false, false, 1, 1));
        }
        check.refused("4 no room", ROOM, () -> x.pallet(1, false, false, 1, 1));
        check.refused("4 numbers before room", ARGUMENT, () -> x.pallet(1, false, false, 1, 11));
        x.doors(true);
        check.refused("4 doors before room", STATE, () -> x.pallet(1, false, false, 1, 1));
        check.due("4 eight there are", 8, () -> x.count(1));
        check.due("4 a new one does not stand", "-1 -1 -1 -1 -1 -1 -1 -1", () -> cells(x));
    }

    private static void solveExactly() {
        TruckLoads most = truck(2);
        plain(most, 1000, 1);
        plain(most, 1, 2);
        plain(most, 2, 3);
        most.axles(0, 10, 900, 10000);
        check.due("5 more pallets before more weight", 2, () -> most.solve(3));
        check.due("5 of them", "-1 1 0", () -> cells(most));

        TruckLoads weight = truck(2);
        plain(weight, 10, 1);
        plain(weight, 30, 1);
        plain(weight, 20, 1);
        check.due("5 more weight of as many", 2, () -> weight.solve(3));
        check.due("5 the heavier two", "-1 0 1", () -> cells(weight));

        TruckLoads first = truck(3);
        for (int p = 0; p < 5; p++) {
            plain(first, 10, 1);
        }
        check.due("5 five pallets", 3, () -> first.solve(5));
        check.due("5 the first pallet in front, the last ones not at all", "0 1 2 -1 -1", () -> cells(first));

        TruckLoads stops = truck(4);
        plain(stops, 10, 1);
        plain(stops, 10, 3);
        plain(stops, 10, 2);
        plain(stops, 10, 3);
        check.due("5 lesser stops behind", 4, () -> stops.solve(4));
        check.due("5 equal ones in their order", "3 0 2 1", () -> cells(stops));
        check.due("5 anew", 4, () -> stops.solve(5));
        check.due("5 anew, the same", "3 0 2 1", () -> cells(stops));

        TruckLoads danger = truck(4);
        for (int p = 0; p < 3; p++) {
            danger.pallet(10, false, true, 1, 1);
        }
        check.due("5 dangerous ones apart", 2, () -> danger.solve(3));
        check.due("5 one cell between", "0 2 -1", () -> cells(danger));

        TruckLoads limits = truck(5);
        plain(limits, 100, 1);
        limits.axles(0, 4, 50, 10000);
        check.due("5 a load that is the limit itself", 1, () -> limits.solve(1));
        check.due("5 the first cell that the front axle bears", "2", () -> cells(limits));
        limits.axles(0, 4, 49, 50);
        check.due("5 no cell that both axles bear", 0, () -> limits.solve(1));
        check.due("5 nowhere", "-1", () -> cells(limits));
        limits.axles(3, 4, 0, 10000);
        check.due("5 behind the second axle", 1, () -> limits.solve(1));
        check.due("5 at it", "4", () -> cells(limits));
        plain(limits, 1000, 2);
        plain(limits, 500, 2);
        limits.axles(1, 2, 0, 10000);
        check.due("5 one behind lightens the front axle", 3, () -> limits.solve(5));
        check.due("5 the first one behind the others", "4 2 3", () -> cells(limits));

        check.due("5 no pallets", 0, () -> truck(3).solve(0));
        check.due("5 no cells", 0, () -> {
            TruckLoads x = truck(0);
            plain(x, 1, 1);
            return x.solve(5);
        });
    }

    private static void solveByRule() {
        TruckLoads x = truck(6);
        x.pallet(10, false, true, 2, 1);
        x.pallet(10, false, true, 5, 1);
        x.pallet(10, false, false, 2, 1);
        x.pallet(10, true, false, 9, 7);
        x.cell(0, 6, true);
        x.cell(1, 7, true);
        check.due("5 by rule for more pallets than told", 4, () -> x.solve(3));
        check.due("5 by stops, then by number, none in front of another", "4 2 5 1", () -> cells(x));
        check.due("5 by rule for none", 4, () -> x.solve(0));
        check.due("5 by rule anew, the same", "4 2 5 1", () -> cells(x));
        x.axles(0, 10, 0, 0);
        check.due("5 by rule whatever the axles bear", 4, () -> x.solve(3));
        check.due("5 exactly for as many", 0, () -> x.solve(4));
        x.axles(0, 10, 10000, 10000);
        x.cell(5, 10, false);
        x.pallet(10, false, false, 1, 1);
        check.due("5 the last one finds no cell", 4, () -> x.solve(3));
        check.due("5 it does not stand", "4 2 5 1 -1", () -> cells(x));

        TruckLoads gap = truck(3);
        gap.cell(1, 2, false);
        gap.cell(2, 2, false);
        gap.pallet(10, false, false, 3, 2);
        gap.pallet(10, false, false, 2, 3);
        gap.pallet(10, false, false, 1, 1);
        check.due("5 one that does not fit leaves the cell to the next", 2, () -> gap.solve(2));
        check.due("5 so they stand", "0 -1 1", () -> cells(gap));
    }

    private static void solveRefusals() {
        TruckLoads x = truck(3);
        plain(x, 10, 1);
        for (int wrong : new int[] {LEAST, -1, 6, MOST}) {
            check.refused("5 solve " + wrong, ARGUMENT, () -> x.solve(wrong));
        }
        x.doors(true);
        check.refused("5 the doors are open", STATE, () -> x.solve(5));
        check.refused("5 numbers before the doors", ARGUMENT, () -> x.solve(6));
        x.doors(false);
        x.seal(1);
        check.refused("5 there is a seal", STATE, () -> x.solve(5));
        check.due("5 refused ones place nothing", "-1", () -> cells(x));
        x.broken();
        check.due("5 broken", 1, () -> x.solve(5));
    }

    private static void exact() {
        TruckLoads x = truck(3);
        check.due("6 before", false, x::exact);
        x.solve(0);
        check.due("6 no pallets for none", true, x::exact);
        plain(x, 1, 1);
        check.due("6 a pallet is no placing", true, x::exact);
        x.solve(0);
        check.due("6 one for none", false, x::exact);
        x.solve(1);
        check.due("6 one for one", true, x::exact);
        check.refused("6 a refused one", ARGUMENT, () -> x.solve(6));
        check.due("6 a refused one is no placing", true, x::exact);
        for (int p = 1; p < 6; p++) {
            plain(x, 1, 1);
        }
        x.solve(5);
        check.due("6 six for five", false, x::exact);
    }

    private static void bound() {
        TruckLoads x = truck(2);
        check.due("7 no pallets", 0, x::bound);
        x.pallet(1, true, false, 1, 8);
        check.due("7 none is cold", 0, x::bound);
        x.cell(0, 7, true);
        check.due("7 the cold one too low, the high one not cold", 0, x::bound);
        x.cell(0, 8, true);
        check.due("7 one both", 1, x::bound);
        x.pallet(1, false, false, 1, 10);
        check.due("7 two", 2, x::bound);
        x.pallet(1, false, false, 1, 1);
        check.due("7 no more than the cells", 2, x::bound);
        x.cell(1, 7, false);
        check.due("7 one too high", 2, x::bound);
        x.cell(0, 7, true);
        check.due("7 two too high", 1, x::bound);
        TruckLoads none = truck(0);
        plain(none, 1, 1);
        check.due("7 no cells", 0, none::bound);
        TruckLoads danger = truck(2);
        danger.pallet(1000, false, true, 1, 1);
        danger.pallet(1000, false, true, 1, 1);
        danger.axles(0, 10, 0, 0);
        check.due("7 whatever else bars them", 2, danger::bound);
    }

    private static void place() {
        TruckLoads x = truck(8);
        x.cell(5, 4, false);
        x.pallet(100, false, true, 5, 4);
        x.pallet(100, false, true, 5, 5);
        x.pallet(100, true, true, 5, 5);
        plain(x, 100, 6);
        plain(x, 100, 4);
        x.doors(true);
        check.due("8 into a cell", 0, () -> x.place(0, 4));
        check.due("8 another one stands there", 1, () -> x.place(2, 4));
        check.due("8 the height before the cold", 2, () -> x.place(2, 5));
        check.due("8 as high", 0, () -> x.place(0, 5));
        check.due("8 the cold before the dangerous one", 3, () -> x.place(2, 4));
        check.due("8 a dangerous one behind", 4, () -> x.place(1, 4));
        check.due("8 a dangerous one in front", 4, () -> x.place(1, 6));
        check.due("8 one cell between", 0, () -> x.place(1, 7));
        check.due("8 a greater stop behind", 5, () -> x.place(3, 6));
        check.due("8 a lesser stop in front", 5, () -> x.place(4, 4));
        check.due("8 a lesser stop behind some only", 5, () -> x.place(4, 6));
        check.due("8 a greater stop in front", 0, () -> x.place(3, 4));
        check.due("8 barred ones stay", "5 7 -1 4 -1", () -> cells(x));
        check.due("8 where it stands already", 0, () -> x.place(1, 7));
        x.place(1, -1);
        check.due("8 beside where it stood itself", 0, () -> x.place(0, 6));
    }

    private static void placeOverloaded() {
        TruckLoads x = truck(11);
        plain(x, 100, 1);
        plain(x, 100, 1);
        x.axles(0, 10, 50, 70);
        x.doors(true);
        check.due("8 too much on the first axle", 6, () -> x.place(0, 4));
        check.due("8 as much as the first axle bears", 0, () -> x.place(0, 5));
        check.due("8 too much on the second axle", 6, () -> x.place(0, 8));
        check.due("8 as much as the second axle bears", 0, () -> x.place(0, 7));
        check.due("8 with what stands there", 6, () -> x.place(1, 6));
        check.due("8 another one before the axle", 1, () -> x.place(1, 7));
        x.axles(0, 10, 29, 70);
        check.due("8 the axle where it stands already", 6, () -> x.place(0, 7));
        check.due("8 it stays", "7 -1", () -> cells(x));
        check.due("8 out whatever the axles bear", 0, () -> x.place(0, -1));
        check.due("8 out", "-1 -1", () -> cells(x));
        check.due("8 out again", 0, () -> x.place(0, -1));
        TruckLoads lever = truck(12);
        plain(lever, 10, 5);
        plain(lever, 100, 5);
        lever.doors(true);
        lever.place(1, 11);
        lever.place(0, 5);
        lever.axles(0, 10, 0, 10000);
        check.due("8 what lightens an axle goes out all the same", 0, () -> lever.place(1, -1));
    }

    private static void placeRefusals() {
        TruckLoads x = truck(3);
        plain(x, 10, 1);
        check.refused("8 the doors are shut", STATE, () -> x.place(0, 0));
        check.refused("8 the doors are shut for out too", STATE, () -> x.place(0, -1));
        check.refused("8 the cell before the doors", ARGUMENT, () -> x.place(0, 3));
        check.refused("8 the pallet before the cell", ELEMENT, () -> x.place(1, 3));
        x.seal(1);
        check.refused("8 there is a seal", STATE, () -> x.place(0, 0));
        x.broken();
        x.doors(true);
        for (int wrong : new int[] {LEAST, -2, 3, MOST}) {
            check.refused("8 cell " + wrong, ARGUMENT, () -> x.place(0, wrong));
        }
        for (int wrong : new int[] {LEAST, -1, 1, 8, MOST}) {
            check.refused("8 pallet " + wrong, ELEMENT, () -> x.place(wrong, 0));
        }
        check.due("8 the last cell", 0, () -> x.place(0, 2));
    }

    private static void at() {
        TruckLoads x = truck(3);
        check.refused("9 no pallets", ELEMENT, () -> x.at(0));
        plain(x, 10, 1);
        check.due("9 it does not stand", -1, () -> x.at(0));
        x.solve(1);
        check.due("9 it stands", 0, () -> x.at(0));
        x.doors(true);
        x.place(0, 2);
        check.due("9 by hand", 2, () -> x.at(0));
        x.place(0, -1);
        check.due("9 out", -1, () -> x.at(0));
        for (int wrong : new int[] {LEAST, -1, 1, 7, 8, MOST}) {
            check.refused("9 pallet " + wrong, ELEMENT, () -> x.at(wrong));
        }
    }

    private static String fractions(TruckLoads x) {
        return x.axle(0, 0) + "/" + x.axle(0, 1) + " " + x.axle(1, 0) + "/" + x.axle(1, 1);
    }

    private static void axle() {
        TruckLoads x = truck(12);
        plain(x, 100, 1);
        plain(x, 7, 1);
        check.refused("10 no pallet stands", ARITHMETIC, () -> x.axle(0, 0));
        check.refused("10 its lower number neither", ARITHMETIC, () -> x.axle(1, 1));
        check.same("10 thrown by the class, not by the machine", "no pallet stands",
                Check.thrownText(() -> x.axle(0, 0)));
        int[][] wrong = {{-1, 0}, {2, 0}, {0, -1}, {0, 2}, {LEAST, 0}, {MOST, 0}, {1, LEAST}, {1, MOST}};
        for (int[] row : wrong) {
            check.refused("10 numbers first " + row[0] + " " + row[1], ARGUMENT, () -> x.axle(row[0], row[1]));
        }
        x.doors(true);
        x.place(0, 0);
        check.due("10 none on the second axle is 0/1", "100/1 0/1", () -> fractions(x));
        x.place(1, 3);
        check.due("10 lowest terms", "1049/10 21/10", () -> fractions(x));
        x.place(0, 11);
        check.due("10 behind the second axle", "-51/10 1121/10", () -> fractions(x));
        x.axles(12, 88, 10000, 10000);
        check.due("10 in front of the first axle", "8295/76 -163/76", () -> fractions(x));
        x.place(1, -1);
        check.due("10 lowest terms below 0", "1925/19 -25/19", () -> fractions(x));
        for (int[] row : wrong) {
            check.refused("10 axle " + row[0] + " " + row[1], ARGUMENT, () -> x.axle(row[0], row[1]));
        }
        x.place(0, -1);
        x.place(1, -1);
        check.refused("10 none stands any more", ARITHMETIC, () -> x.axle(0, 0));
    }

    private static void bar() {
        TruckLoads none = truck(0);
        plain(none, 1, 1);
        check.due("11 no cells", 1, () -> none.bar(0));

        TruckLoads x = truck(4);
        x.pallet(10, false, true, 5, 1);
        x.pallet(10, true, true, 4, 5);
        x.doors(true);
        x.place(0, 1);
        check.due("11 all that are left are not cold", 3, () -> x.bar(1));
        check.refused("11 it stands", STATE, () -> x.bar(0));
        x.cell(0, 4, true);
        x.cell(2, 4, true);
        x.cell(3, 4, true);
        check.due("11 all that are left are too low", 2, () -> x.bar(1));
        x.cell(2, 5, true);
        check.due("11 the one that is left is beside a dangerous one", 4, () -> x.bar(1));
        x.cell(0, 5, true);
        check.due("11 beside it both", 4, () -> x.bar(1));
        x.cell(3, 5, true);
        check.due("11 some cell is left", 0, () -> x.bar(1));
        x.axles(0, 10, 10000, 3);
        check.due("11 an axle", 6, () -> x.bar(1));
        x.axles(0, 10, 10000, 4);
        check.due("11 as much as it bears", 0, () -> x.bar(1));
        x.place(0, -1);
        x.place(0, 3);
        check.due("11 stops of the one cell that is not beside it", 5, () -> x.bar(1));

        TruckLoads full = truck(1);
        plain(full, 1, 1);
        plain(full, 1, 1);
        full.solve(2);
        check.due("11 a full truck", 1, () -> full.bar(1));
        for (int wrong : new int[] {LEAST, -1, 2, 8, MOST}) {
            check.refused("11 pallet " + wrong, ELEMENT, () -> full.bar(wrong));
        }

        TruckLoads stops = truck(3);
        plain(stops, 1, 1);
        plain(stops, 1, 2);
        stops.doors(true);
        stops.place(0, 0);
        check.due("11 stops", 5, () -> stops.bar(1));
        stops.doors(false);
        check.due("11 with a new stop", 0, () -> {
            stops.change(1, 1);
            return stops.bar(1);
        });
    }

    private static void change() {
        TruckLoads x = truck(3);
        plain(x, 1, 5);
        plain(x, 1, 5);
        plain(x, 1, 5);
        x.solve(2);
        check.due("12 all stand", "0 1 2", () -> cells(x));
        check.due("12 a lesser stop before another", false, () -> x.change(1, 4));
        check.due("12 a greater stop behind another", false, () -> x.change(1, 6));
        check.due("12 the same stop", true, () -> x.change(1, 5));
        check.due("12 it stayed as it was", 1, () -> x.order(5, 1));
        check.due("12 the last one lesser", true, () -> x.change(2, 1));
        check.due("12 the first one greater", true, () -> x.change(0, 9));
        check.due("12 the middle one now lesser", true, () -> x.change(1, 1));
        check.due("12 the middle one now greater", true, () -> x.change(1, 9));
        check.due("12 for the new stop", 1, () -> x.order(9, 0));
        check.due("12 the first one no longer lesser", false, () -> x.change(0, 8));
        for (int wrong : new int[] {LEAST, 0, 10, MOST}) {
            check.refused("12 stop " + wrong, ARGUMENT, () -> x.change(0, wrong));
            check.refused("12 pallet before stop " + wrong, ELEMENT, () -> x.change(3, wrong));
        }
        for (int wrong : new int[] {LEAST, -1, 3, MOST}) {
            check.refused("12 pallet " + wrong, ELEMENT, () -> x.change(wrong, 1));
        }
        x.doors(true);
        check.refused("12 the doors are open", STATE, () -> x.change(0, 9));
        check.refused("12 stop before doors", ARGUMENT, () -> x.change(0, 10));
        x.place(1, -1);
        x.doors(false);
        check.due("12 one that does not stand", true, () -> x.change(1, 1));
        x.seal(1);
        check.due("12 with a seal too", true, () -> x.change(1, 2));
        check.due("12 one that does not stand bars none", true, () -> x.change(0, 1));
    }

    private static void doors() {
        TruckLoads x = truck(1);
        check.due("13 opened", false, () -> x.doors(true));
        check.due("13 opened again", true, () -> x.doors(true));
        check.due("13 they are open", 1, () -> x.count(3));
        check.due("13 shut", true, () -> x.doors(false));
        check.due("13 shut again", false, () -> x.doors(false));
        check.due("13 they are shut", 0, () -> x.count(3));
        x.seal(1);
        check.refused("13 there is a seal", STATE, () -> x.doors(true));
        check.due("13 shut with a seal", false, () -> x.doors(false));
        x.broken();
        check.due("13 opened without it", false, () -> x.doors(true));
    }

    private static void seal() {
        TruckLoads x = truck(1);
        for (int wrong : new int[] {LEAST, -1, 0, 1000001, MOST}) {
            check.refused("14 seal " + wrong, ARGUMENT, () -> x.seal(wrong));
        }
        check.due("14 the least", true, () -> x.seal(1));
        check.refused("14 there is a seal", STATE, () -> x.seal(2));
        check.refused("14 the same one", STATE, () -> x.seal(1));
        check.refused("14 numbers before seals", ARGUMENT, () -> x.seal(0));
        x.broken();
        check.due("14 it was on before", false, () -> x.seal(1));
        check.due("14 so there is none", 0, () -> x.count(4));
        check.due("14 the greatest", true, () -> x.seal(1000000));
        x.broken();
        check.due("14 the first one again", false, () -> x.seal(1));
        x.doors(true);
        check.refused("14 the doors are open", STATE, () -> x.seal(3));
        check.refused("14 the doors are open before it was on", STATE, () -> x.seal(1));
        x.doors(false);
        for (int number = 3; number <= 10; number++) {
            int next = number;
            check.due("14 seal " + number, true, () -> x.seal(next));
            if (number == 10) {
                check.refused("14 the seal before room", STATE, () -> x.seal(11));
            }
            x.broken();
        }
        check.refused("14 ten were", ROOM, () -> x.seal(11));
        check.refused("14 ten were, one of them", ROOM, () -> x.seal(10));
        check.refused("14 numbers before room", ARGUMENT, () -> x.seal(0));
        x.doors(true);
        check.refused("14 the doors before room", STATE, () -> x.seal(11));
    }

    private static void broken() {
        TruckLoads x = truck(1);
        check.refused("15 none yet", STATE, x::broken);
        x.seal(42);
        check.due("15 its number", 42, x::broken);
        check.refused("15 no longer", STATE, x::broken);
        x.seal(42);
        check.refused("15 one that was on before is not on", STATE, x::broken);
        x.seal(43);
        check.due("15 the next one's number", 43, x::broken);
    }

    private static void order() {
        TruckLoads x = truck(6);
        plain(x, 1, 3);
        plain(x, 1, 4);
        plain(x, 1, 3);
        plain(x, 1, 3);
        check.due("16 none stands", -1, () -> x.order(3, 0));
        x.doors(true);
        x.place(1, 0);
        x.place(0, 4);
        x.place(2, 2);
        check.due("16 the one at the doors", 0, () -> x.order(3, 0));
        check.due("16 the next one", 2, () -> x.order(3, 1));
        check.due("16 not so many stand", -1, () -> x.order(3, 2));
        check.due("16 a great i", -1, () -> x.order(3, MOST));
        check.due("16 another stop", 1, () -> x.order(4, 0));
        check.due("16 the least stop", -1, () -> x.order(1, 0));
        check.due("16 the greatest stop", -1, () -> x.order(9, 0));
        x.place(3, 5);
        check.due("16 now another one at the doors", 3, () -> x.order(3, 0));
        check.due("16 and the third one", 2, () -> x.order(3, 2));
        int[][] wrong = {{0, 0}, {10, 0}, {LEAST, 0}, {MOST, 0}, {3, -1}, {3, LEAST}, {-1, 0}};
        for (int[] row : wrong) {
            check.refused("16 order " + row[0] + " " + row[1], ARGUMENT, () -> x.order(row[0], row[1]));
        }
    }

    private static void manifest() {
        TruckLoads x = truck(2);
        check.due("17 nothing stands, nothing told", 0, () -> x.manifest(0));
        plain(x, 1000, 1);
        plain(x, 30, 1);
        plain(x, 5, 1);
        check.due("17 nothing stands", 10000, () -> x.manifest(10000));
        x.solve(5);
        check.due("17 so much less", 70, () -> x.manifest(1100));
        check.due("17 as much", 0, () -> x.manifest(1030));
        check.due("17 more", -1030, () -> x.manifest(0));
        for (int wrong : new int[] {LEAST, -1, 10001, MOST}) {
            check.refused("17 manifest " + wrong, ARGUMENT, () -> x.manifest(wrong));
        }
    }

    private static void count() {
        TruckLoads x = truck(2);
        for (int p = 0; p < 3; p++) {
            plain(x, 1, 1);
        }
        x.solve(5);
        check.due("18 cells", 2, () -> x.count(0));
        check.due("18 pallets", 3, () -> x.count(1));
        check.due("18 those that stand", 2, () -> x.count(2));
        x.seal(7);
        check.due("18 the seal", 7, () -> x.count(4));
        check.due("18 seals so far", 1, () -> x.count(5));
        x.broken();
        x.seal(7);
        check.due("18 no seal", 0, () -> x.count(4));
        check.due("18 still one so far", 1, () -> x.count(5));
        x.doors(true);
        check.due("18 the doors are open", 1, () -> x.count(3));
        x.place(0, -1);
        check.due("18 one less stands", 1, () -> x.count(2));
        for (int what : new int[] {LEAST, -1, 6, MOST}) {
            check.due("18 count " + what, -1, () -> x.count(what));
        }
    }
}
