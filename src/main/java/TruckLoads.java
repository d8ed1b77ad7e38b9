import java.util.NoSuchElementException;

/** Loading a truck: cells in a row, pallets placed exactly or by rule, axle loads, doors and seals. */
public final class TruckLoads {
    private static final int MOST_CELLS = 12;
    private static final int MOST_PALLETS = 8;
    private static final int MOST_EXACT = 5;
    private static final int MOST_SEALS = 10;
    private static final int MOST_HEIGHT = 10;
    private static final int MOST_WEIGHT = 1000;
    private static final int MOST_STOP = 9;
    private static final int MOST_POSITION = 100;
    private static final int MOST_LIMIT = 10000;
    private static final int MOST_SEAL_NUMBER = 1000000;
    private static final int MOST_MANIFEST = 10000;

    private static final int NOWHERE = -1;

    // What bars a pallet from a cell, numbered in the order in which it is asked.
    private static final int NOTHING = 0;
    private static final int TAKEN = 1;
    private static final int HEIGHT = 2;
    private static final int COLD = 3;
    private static final int DANGER = 4;
    private static final int STOPS = 5;
    private static final int AXLE = 6;

    private final Load load;
    private final Search search;
    private final Seals seals;
    private boolean open;
    private boolean exact;

    public TruckLoads(int cells) {
        load = new Load(cells);
        search = new Search();
        seals = new Seals();
        open = false;
        exact = false;
    }

    public void cell(int cell, int height, boolean cold)
            throws ArrayIndexOutOfBoundsException, IllegalArgumentException, IllegalStateException {
        if (!load.hasCell(cell)) {
            throw new ArrayIndexOutOfBoundsException("no such cell");
        }
        requireWithin(height, 1, MOST_HEIGHT);
        if (load.isTaken(cell)) {
            throw new IllegalStateException("a pallet stands there");
        }
        load.heights[cell] = height;
        load.colds[cell] = cold;
    }

    public void axles(int first, int second, int limit, int limit2) throws IllegalArgumentException {
        requireWithin(first, 0, MOST_POSITION);
        requireWithin(second, 0, MOST_POSITION);
        requireWithin(limit, 0, MOST_LIMIT);
        requireWithin(limit2, 0, MOST_LIMIT);
        if (second <= first) {
            throw new IllegalArgumentException("the second axle is not behind the first");
        }
        load.axles.set(first, second, limit, limit2);
    }

    public int pallet(int weight, boolean cold, boolean dangerous, int stop, int height)
            throws IllegalArgumentException, IllegalStateException, UnsupportedOperationException {
        requireWithin(weight, 1, MOST_WEIGHT);
        requireWithin(stop, 1, MOST_STOP);
        requireWithin(height, 1, MOST_HEIGHT);
        requireShut();
        if (load.pallets >= MOST_PALLETS) {
            throw new UnsupportedOperationException("no room for a pallet");
        }
        int number = load.pallets;
        load.row[number].set(weight, cold, dangerous, stop, height);
        load.pallets = number + 1;
        return number;
    }

    public int solve(int most) throws IllegalArgumentException, IllegalStateException {
        requireWithin(most, 0, MOST_EXACT);
        requireShut();
        requireNoSeal();
        exact = load.pallets <= most;
        if (exact) {
            search.run(load);
        } else {
            load.placeByRule();
        }
        return load.standing();
    }

    public boolean exact() {
        return exact;
    }

    public int bound() {
        return Math.min(load.palletsWithSomeCell(), load.cells);
    }

    public int place(int pallet, int cell)
            throws NoSuchElementException, IllegalArgumentException, IllegalStateException {
        Pallet one = knownPallet(pallet);
        if (cell != NOWHERE && !load.hasCell(cell)) {
            throw new IllegalArgumentException("no such cell");
        }
        if (!open) {
            throw new IllegalStateException("the doors are shut");
        }
        requireNoSeal();
        int barred = cell == NOWHERE ? NOTHING : load.firstBar(one, cell);
        if (barred == NOTHING) {
            one.cell = cell;
        }
        return barred;
    }

    public int at(int pallet) throws NoSuchElementException {
        return knownPallet(pallet).cell;
    }

    public int axle(int axle, int side) throws IllegalArgumentException, ArithmeticException {
        requireWithin(axle, 0, 1);
        requireWithin(side, 0, 1);
        if (load.standing() == 0) {
            throw new ArithmeticException("no pallet stands");
        }
        return sideInLowestTerms(load.onAxle(axle), load.axles.span(), side);
    }

    public int bar(int pallet) throws NoSuchElementException, IllegalStateException {
        Pallet one = knownPallet(pallet);
        if (one.stands()) {
            throw new IllegalStateException("the pallet stands");
        }
        return load.barFromAllCells(one);
    }

    public boolean change(int pallet, int stop)
            throws NoSuchElementException, IllegalArgumentException, IllegalStateException {
        Pallet one = knownPallet(pallet);
        requireWithin(stop, 1, MOST_STOP);
        requireShut();
        if (one.stands() && load.stopsBar(one, stop, one.cell)) {
            return false;
        }
        one.stop = stop;
        return true;
    }

    public boolean doors(boolean open) throws IllegalStateException {
        if (open) {
            requireNoSeal();
        }
        boolean before = this.open;
        this.open = open;
        return before;
    }

    public boolean seal(int number)
            throws IllegalArgumentException, IllegalStateException, UnsupportedOperationException {
        requireWithin(number, 1, MOST_SEAL_NUMBER);
        requireShut();
        requireNoSeal();
        if (seals.count >= MOST_SEALS) {
            throw new UnsupportedOperationException("no room for a seal");
        }
        if (seals.wasOn(number)) {
            return false;
        }
        seals.putOn(number);
        return true;
    }

    public int broken() throws IllegalStateException {
        if (!seals.isOn()) {
            throw new IllegalStateException("there is no seal");
        }
        return seals.takeOff();
    }

    public int order(int stop, int i) throws IllegalArgumentException {
        requireWithin(stop, 1, MOST_STOP);
        if (i < 0) {
            throw new IllegalArgumentException("below 0");
        }
        return load.fromDoors(stop, i);
    }

    public int manifest(int weight) throws IllegalArgumentException {
        requireWithin(weight, 0, MOST_MANIFEST);
        return weight - load.weight();
    }

    public int count(int what) {
        switch (what) {
            case 0: return load.cells;
            case 1: return load.pallets;
            case 2: return load.standing();
            case 3: return open ? 1 : 0;
            case 4: return seals.current;
            case 5: return seals.count;
            default: return -1;
        }
    }

    private Pallet knownPallet(int number) {
        if (number < 0 || number >= load.pallets) {
            throw new NoSuchElementException("no such pallet");
        }
        return load.row[number];
    }

    private static void requireWithin(int number, int least, int most) {
        if (number < least || number > most) {
            throw new IllegalArgumentException("a number outside its range");
        }
    }

    private void requireShut() {
        if (open) {
            throw new IllegalStateException("the doors are open");
        }
    }

    private void requireNoSeal() {
        if (seals.isOn()) {
            throw new IllegalStateException("there is a seal");
        }
    }

    private static int sideInLowestTerms(int upper, int lower, int side) {
        int told = side == 0 ? upper : lower;
        // The lower number is 100 at most, so trying each divisor is cheap and its end is plain.
        for (int d = lower; d > 1; d--) {
            if (upper % d == 0 && lower % d == 0) {
                return told / d;
            }
        }
        return told;
    }

    private static final class Pallet {
        private int weight = 1;
        private boolean cold = false;
        private boolean dangerous = false;
        private int stop = 1;
        private int height = 1;
        private int cell = NOWHERE;

        private void set(int newWeight, boolean isCold, boolean isDangerous, int newStop, int newHeight) {
            weight = newWeight;
            cold = isCold;
            dangerous = isDangerous;
            stop = newStop;
            height = newHeight;
        }

        private boolean stands() {
            return cell != NOWHERE;
        }
    }

    /** The two axles. Loads are counted times the span, so that they stay whole numbers. */
    private static final class Axles {
        private int first = 0;
        private int second = 10;
        private int limit = MOST_LIMIT;
        private int limit2 = MOST_LIMIT;

        private void set(int newFirst, int newSecond, int newLimit, int newLimit2) {
            first = newFirst;
            second = newSecond;
            limit = newLimit;
            limit2 = newLimit2;
        }

        private int span() {
            return second - first;
        }

        private int share(int axle, int weight, int cell) {
            return axle == 0 ? weight * (second - cell) : weight * (cell - first);
        }

        private boolean bear(int load, int load2) {
            return load <= limit * span() && load2 <= limit2 * span();
        }
    }

    /** The cells, the pallets and the axles, and the rules of a right placing. */
    private static final class Load {
        private final int cells;
        private final int[] heights;
        private final boolean[] colds;
        private final Pallet[] row;
        private final Axles axles;
        private int pallets;

        private Load(int wanted) {
            cells = Math.max(0, Math.min(MOST_CELLS, wanted));
            heights = new int[MOST_CELLS];
            colds = new boolean[MOST_CELLS];
            row = new Pallet[MOST_PALLETS];
            axles = new Axles();
            pallets = 0;
            for (int c = 0; c < MOST_CELLS; c++) {
                heights[c] = MOST_HEIGHT;
            }
            for (int i = 0; i < MOST_PALLETS; i++) {
                row[i] = new Pallet();
            }
        }

        private boolean hasCell(int cell) {
            return cell >= 0 && cell < cells;
        }

        private boolean isTaken(int cell) {
            for (int i = 0; i < pallets; i++) {
                if (row[i].cell == cell) {
                    return true;
                }
            }
            return false;
        }

        private int standing() {
            int standing = 0;
            for (int i = 0; i < pallets; i++) {
                if (row[i].stands()) {
                    standing++;
                }
            }
            return standing;
        }

        private int weight() {
            int weight = 0;
            for (int i = 0; i < pallets; i++) {
                if (row[i].stands()) {
                    weight += row[i].weight;
                }
            }
            return weight;
        }

        private int onAxle(int axle) {
            int sum = 0;
            for (int i = 0; i < pallets; i++) {
                if (row[i].stands()) {
                    sum += axles.share(axle, row[i].weight, row[i].cell);
                }
            }
            return sum;
        }

        private int palletsWithSomeCell() {
            int fitting = 0;
            for (int i = 0; i < pallets; i++) {
                if (fitsSomeCell(row[i])) {
                    fitting++;
                }
            }
            return fitting;
        }

        private boolean fitsSomeCell(Pallet one) {
            for (int c = 0; c < cells; c++) {
                if (!heightBars(one, c) && !coldBars(one, c)) {
                    return true;
                }
            }
            return false;
        }

        /** The first thing that bars a pallet from a cell of the truck, or NOTHING. */
        private int firstBar(Pallet one, int cell) {
            int barred = firstBarButAxles(one, cell);
            if (barred != NOTHING) {
                return barred;
            }
            return axlesBar(one, cell) ? AXLE : NOTHING;
        }

        private int firstBarButAxles(Pallet one, int cell) {
            if (othersBar(one, cell)) {
                return TAKEN;
            }
            if (heightBars(one, cell)) {
                return HEIGHT;
            }
            if (coldBars(one, cell)) {
                return COLD;
            }
            if (dangerBars(one, cell)) {
                return DANGER;
            }
            return stopsBar(one, one.stop, cell) ? STOPS : NOTHING;
        }

        /** The thing that bars the last of the cells that earlier things had left, or NOTHING. */
        private int barFromAllCells(Pallet one) {
            int farthest = TAKEN;
            for (int c = 0; c < cells; c++) {
                int barred = firstBar(one, c);
                if (barred == NOTHING) {
                    return NOTHING;
                }
                farthest = Math.max(farthest, barred);
            }
            return farthest;
        }

        private boolean othersBar(Pallet one, int cell) {
            return one.cell != cell && isTaken(cell);
        }

        private boolean heightBars(Pallet one, int cell) {
            return hasCell(cell) && heights[cell] < one.height;
        }

        private boolean coldBars(Pallet one, int cell) {
            return hasCell(cell) && one.cold && !colds[cell];
        }

        private boolean dangerBars(Pallet one, int cell) {
            for (int i = 0; i < pallets; i++) {
                Pallet other = row[i];
                if (other != one && other.stands() && one.dangerous && other.dangerous
                        && Math.abs(other.cell - cell) == 1) {
                    return true;
                }
            }
            return false;
        }

        private boolean stopsBar(Pallet one, int stop, int cell) {
            for (int i = 0; i < pallets; i++) {
                Pallet other = row[i];
                if (other != one && other.stands()
                        && (other.stop < stop && other.cell < cell || other.stop > stop && other.cell > cell)) {
                    return true;
                }
            }
            return false;
        }

        private boolean axlesBar(Pallet one, int cell) {
            int before = one.cell;
            one.cell = cell;
            boolean borne = axles.bear(onAxle(0), onAxle(1));
            one.cell = before;
            return !borne;
        }

        private void takeAllOut() {
            for (int i = 0; i < pallets; i++) {
                row[i].cell = NOWHERE;
            }
        }

        private void placeByRule() {
            takeAllOut();
            int next = 0;
            for (int stop = MOST_STOP; stop >= 1; stop--) {
                for (int i = 0; i < pallets; i++) {
                    if (row[i].stop == stop) {
                        next = placeFrom(next, row[i]);
                    }
                }
            }
        }

        /** The cell behind the pallet once it stands, or the same cell again if it finds none. */
        private int placeFrom(int next, Pallet one) {
            for (int c = next; c < cells; c++) {
                if (firstBarButAxles(one, c) == NOTHING) {
                    one.cell = c;
                    return c + 1;
                }
            }
            return next;
        }

        private int fromDoors(int stop, int i) {
            int before = 0;
            for (int c = cells - 1; c >= 0; c--) {
                int number = standingFor(stop, c);
                if (number >= 0) {
                    if (before == i) {
                        return number;
                    }
                    before++;
                }
            }
            return -1;
        }

        private int standingFor(int stop, int cell) {
            for (int i = 0; i < pallets; i++) {
                if (row[i].cell == cell && row[i].stop == stop) {
                    return i;
                }
            }
            return -1;
        }
    }

    /**
     * The exact placing of at most MOST_EXACT pallets. Placings are tried in the order that the
     * document calls first, so only one with more pallets or more weight takes the place of the best.
     */
    private static final class Search {
        private final int[] best = new int[MOST_EXACT];
        private int bestStanding = -1;
        private int bestWeight = -1;

        private void run(Load load) {
            load.takeAllOut();
            bestStanding = -1;
            bestWeight = -1;
            tryFrom(load, 0);
            for (int i = 0; i < load.pallets && i < MOST_EXACT; i++) {
                load.row[i].cell = best[i];
            }
        }

        private void tryFrom(Load load, int depth) {
            if (depth > MOST_EXACT || isHopeless(load, depth)) {
                return;
            }
            if (depth >= load.pallets) {
                keep(load);
                return;
            }
            for (int c = 0; c < load.cells; c++) {
                tryIn(load, depth, c);
            }
            tryFrom(load, depth + 1);
        }

        private void tryIn(Load load, int depth, int cell) {
            if (depth >= load.pallets) {
                return;
            }
            Pallet one = load.row[depth];
            if (load.firstBarButAxles(one, cell) == NOTHING) {
                one.cell = cell;
                tryFrom(load, depth + 1);
                one.cell = NOWHERE;
            }
        }

        /** Whether no placing of the pallets from this one on is both right and better than the best. */
        private boolean isHopeless(Load load, int depth) {
            int rest = 0;
            for (int i = depth; i < load.pallets; i++) {
                rest += load.row[i].weight;
            }
            int standing = load.standing() + load.pallets - depth;
            if (standing < bestStanding || standing == bestStanding && load.weight() + rest <= bestWeight) {
                return true;
            }
            // A pallet can lighten an axle: most of all the second one from the front, the first one from the doors.
            int lightest = Math.min(0, load.axles.share(0, rest, load.cells - 1));
            int lightest2 = Math.min(0, load.axles.share(1, rest, 0));
            return !load.axles.bear(load.onAxle(0) + lightest, load.onAxle(1) + lightest2);
        }

        private void keep(Load load) {
            bestStanding = load.standing();
            bestWeight = load.weight();
            for (int i = 0; i < load.pallets && i < MOST_EXACT; i++) {
                best[i] = load.row[i].cell;
            }
        }
    }

    private static final class Seals {
        private final int[] numbers = new int[MOST_SEALS];
        private int count = 0;
        private int current = 0;

        private boolean isOn() {
            return current != 0;
        }

        private boolean wasOn(int number) {
            for (int i = 0; i < count; i++) {
                if (numbers[i] == number) {
                    return true;
                }
            }
            return false;
        }

        private void putOn(int number) {
            if (count < MOST_SEALS) {
                numbers[count] = number;
                count++;
                current = number;
            }
        }

        private int takeOff() {
            int number = current;
            current = 0;
            return number;
        }
    }
}
