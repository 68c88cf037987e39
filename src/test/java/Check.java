/** What all tests here share: answers as text, and how many were not as due. */
final class Check {
    interface Call {
        Object run();
    }

    private final String title;
    private int looked;
    private int wrong;

    Check(String title) {
        this.title = title;
    }

    /** A call's answer, or throws.E if it throws E. */
    static String answer(Call call) {
        try {
            return String.valueOf(call.run());
        } catch (RuntimeException e) {
            return "throws." + e.getClass().getSimpleName();
        }
    }

    void due(String what, Object want, Call call) {
        looked++;
        String got = answer(call);
        if (!got.equals(String.valueOf(want))) {
            wrong++;
            System.out.println(title + ": " + what + " answered " + got + ", due is " + want);
        }
    }

    int looked() {
        return looked;
    }

    void index(String what, Call call) {
        due(what, "throws.IndexOutOfBoundsException", call);
    }

    void argument(String what, Call call) {
        due(what, "throws.IllegalArgumentException", call);
    }

    void unsupported(String what, Call call) {
        due(what, "throws.UnsupportedOperationException", call);
    }

    /** Says how it went, and ends the program with 1 if an answer was wrong. */
    void end() {
        System.out.println(title + ": " + looked + " answers, " + wrong + " not as due");
        if (wrong != 0 || looked == 0) {
            System.exit(1);
        }
    }
}
