import java.util.function.Supplier;

/** Tests the document sentence by sentence. A refused call must also leave all that can be asked as it was. */
final class Sentences {
    interface Numbered {
        Object run(TruckLoads truck, int number);
    }

    private final Check check = new Check();
    private String words = "";

    /** The document's words that the next answers are asked for. */
    void says(String sentence) {
        words = sentence;
    }

    void due(String what, Object want, Check.Call call) {
        check.due(label(what), want, call);
    }

    void refused(String what, Class<? extends RuntimeException> refusal, TruckLoads x, Check.Call call) {
        String before = state(x);
        check.refused(label(what), refusal, call);
        check.same(label(what) + ", and all is as it was,", before, state(x));
    }

    /** The last numbers that are taken, the first ones that are refused on either side, and the ends of int. */
    void range(Class<? extends RuntimeException> refusal, int least, int most, Supplier<TruckLoads> fresh, Numbered call) {
        for (int taken : new int[] {least, most}) {
            TruckLoads x = fresh.get();
            due(taken + " is taken", "taken", () -> {
                call.run(x, taken);
                return "taken";
            });
        }
        for (int wrong : new int[] {least - 1, most + 1, Integer.MIN_VALUE, Integer.MAX_VALUE}) {
            TruckLoads x = fresh.get();
            refused(wrong + " is refused", refusal, x, () -> call.run(x, wrong));
        }
    }

    void end() {
        check.end();
    }

    private String label(String what) {
        return "\"" + words + "\": " + what;
    }

    static String cells(TruckLoads x) {
        StringBuilder all = new StringBuilder();
        for (int p = 0; p < x.count(1); p++) {
            all.append(p == 0 ? "" : " ").append(x.at(p));
        }
        return all.toString();
    }

    static String fractions(TruckLoads x) {
        return x.axle(0, 0) + "/" + x.axle(0, 1) + " " + x.axle(1, 0) + "/" + x.axle(1, 1);
    }

    /** All that can be asked without a change. */
    static String state(TruckLoads x) {
        StringBuilder all = new StringBuilder();
        for (int what = 0; what <= 5; what++) {
            all.append(x.count(what)).append(' ');
        }
        all.append(x.exact()).append(' ').append(x.bound()).append(' ').append(x.manifest(0)).append(" at ").append(cells(x));
        all.append(" axles ").append(Check.answer(() -> fractions(x))).append(" bars");
        for (int p = 0; p < x.count(1); p++) {
            int asked = p;
            all.append(' ').append(Check.answer(() -> x.bar(asked)));
        }
        all.append(" order");
        for (int stop = 1; stop <= 9; stop++) {
            for (int i = 0; i < x.count(1); i++) {
                all.append(' ').append(x.order(stop, i));
            }
        }
        return all.toString();
    }
}
