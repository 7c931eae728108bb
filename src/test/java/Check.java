/** Counts the answers that are not as due; a test ends by calling end(). */
final class Check {
    private static int wrong = 0;
    private static int checks = 0;
    private static int checksOfSentence = 1;
    private static String sentence = "";

    private Check() {
    }

    /** The checks that follow are for this sentence of the document; a fault tells it. */
    static void sentence(String text) {
        endSentence();
        sentence = text;
        checksOfSentence = 0;
    }

    private static void endSentence() {
        if (checksOfSentence == 0) {
            fault("nothing is checked for it");
        }
    }

    private static void counted() {
        checks++;
        checksOfSentence++;
    }

    static void due(String what, long got, long due) {
        counted();
        if (got != due) {
            fault(what + " answered " + got + ", due is " + due);
        }
    }

    static void due(String what, boolean got, boolean due) {
        due(what, got ? 1 : 0, due ? 1 : 0);
    }

    static void due(String what, double got, double due) {
        counted();
        if (got != due) {
            fault(what + " answered " + got + ", due is " + due);
        }
    }

    /** The call throws just this exception, and changes nothing that can be asked. */
    static void refused(String what, Class<? extends RuntimeException> kind, DewPond downs, Runnable call) {
        counted();
        long before = downs.digest();
        RuntimeException thrown = null;
        try {
            call.run();
        } catch (RuntimeException e) {
            thrown = e;
        }
        if (thrown == null || thrown.getClass() != kind) {
            fault(what + " threw " + thrown + ", due is " + kind.getSimpleName());
        }
        if (downs.digest() != before) {
            fault(what + " threw, but has changed something");
        }
    }

    static void outOfBounds(String what, DewPond downs, Runnable call) {
        refused(what, IndexOutOfBoundsException.class, downs, call);
    }

    static void illegalArgument(String what, DewPond downs, Runnable call) {
        refused(what, IllegalArgumentException.class, downs, call);
    }

    static void illegalState(String what, DewPond downs, Runnable call) {
        refused(what, IllegalStateException.class, downs, call);
    }

    static void fault(String text) {
        wrong++;
        System.out.println((sentence.isEmpty() ? "" : "[" + sentence + "] ") + text);
    }

    static void end() {
        endSentence();
        System.out.println(checks + " checks, " + wrong + " wrong");
        if (wrong != 0 || checks == 0) {
            System.exit(1);
        }
    }
}
