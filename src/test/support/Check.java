/** Counts what a test compares, prints what is not as due, and ends with exit code 1 if there was any. */
final class Check {
    interface Call {
        Object run();
    }

    private int asked = 0;
    private int wrong = 0;

    /** What a call answers, or throws.Name, so that answers and refusals are compared alike. */
    static String answer(Call call) {
        try {
            return String.valueOf(call.run());
        } catch (RuntimeException e) {
            return "throws." + e.getClass().getSimpleName();
        }
    }

    /** The text of what a call throws: the class writes its own, the machine's are others. */
    static String thrownText(Call call) {
        try {
            return "answered " + call.run();
        } catch (RuntimeException e) {
            return String.valueOf(e.getMessage());
        }
    }

    void due(String what, Object want, Call call) {
        same(what, String.valueOf(want), answer(call));
    }

    void refused(String what, Class<? extends RuntimeException> want, Call call) {
        same(what, "throws." + want.getSimpleName(), answer(call));
    }

    void same(String what, String want, String got) {
        asked++;
        if (!want.equals(got)) {
            wrong++;
            System.out.println(what + " answered " + got + ", due is " + want);
        }
    }

    void end() {
        System.out.println(asked + " answers asked, " + wrong + " not as due");
        if (wrong != 0 || asked == 0) {
            System.exit(1);
        }
    }
}
