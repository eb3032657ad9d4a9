/** Counts what the tests look at, and says what was not as it is due. */
final class Check {
    interface Call {
        void run();
    }

    private static int looked = 0;
    private static int wrong = 0;
    private static String about = "";

    private Check() {
    }

    static void due(String what, Object got, Object want) {
        looked++;
        if (!got.equals(want)) {
            wrong++;
            System.out.println(about + what + " answered " + got + ", due is " + want);
        }
    }

    /** The test of one sentence of the document: what is wrong in it is told with the sentence's words. */
    static void sentence(String words, Call test) {
        about = "[" + words + "] ";
        int before = looked;
        String thrown = thrownBy(test);
        due("whether the test looks at anything", looked > before, true);
        due("what the test throws", thrown, "nothing");
        about = "";
    }

    static void illegalArgument(String what, Call call) {
        due(what, thrownBy(call), "IllegalArgumentException");
    }

    static void illegalState(String what, Call call) {
        due(what, thrownBy(call), "IllegalStateException");
    }

    static void unsupported(String what, Call call) {
        due(what, thrownBy(call), "UnsupportedOperationException");
    }

    static String thrownBy(Call call) {
        try {
            call.run();
            return "nothing";
        } catch (RuntimeException e) {
            return e.getClass().getSimpleName();
        }
    }

    /** Ends the program: with 1 if something was wrong, or if nothing was looked at. */
    static void end(String name) {
        System.out.println(name + ": " + looked + " looked at, " + wrong + " wrong");
        System.exit(wrong == 0 && looked > 0 ? 0 : 1);
    }
}
