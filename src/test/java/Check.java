// Counts the answers that are not due and prints them.
final class Check {
    private static int wrong = 0;
    private static int asked = 0;

    private Check() {
    }

    // A call whose exception or answer is to be told.
    interface Call {
        double answer();
    }

    static void due(String what, long got, long want) {
        asked++;
        if (got != want) {
            tell(what + " answered " + got + ", due is " + want);
        }
    }

    static void dueDouble(String what, double got, double want) {
        asked++;
        if (got != want) {
            tell(what + " answered " + got + ", due is " + want);
        }
    }

    static void dueText(String what, String got, String want) {
        asked++;
        if (!got.equals(want)) {
            tell(what + " answered \"" + got + "\", due is \"" + want + "\"");
        }
    }

    // Two portraits of a bridge; a difference is told by its first line.
    static void dueSame(String what, String got, String want) {
        asked++;
        if (!got.equals(want)) {
            tell(what + ": it shows " + Portrait.difference(got, want));
        }
    }

    static void dueIndex(String what, Call call) {
        dueThrow(what, call, IndexOutOfBoundsException.class);
    }

    static void dueArgument(String what, Call call) {
        dueThrow(what, call, IllegalArgumentException.class);
    }

    private static void dueThrow(String what, Call call, Class<?> due) {
        asked++;
        try {
            tell(what + " answered " + call.answer() + ", due is " + due.getSimpleName());
        } catch (RuntimeException thrown) {
            if (thrown.getClass() != due) {
                tell(what + " threw " + thrown + ", due is " + due.getSimpleName());
            } else if (!thrown.getStackTrace()[0].getClassName().startsWith("DecadeBridge")) {
                tell(what + ": the machine itself threw " + thrown);
            }
        }
    }

    static void tell(String line) {
        wrong++;
        if (wrong <= 40) {
            System.out.println(line);
        }
    }

    static void end() {
        System.out.println(asked + " answers, " + wrong + " wrong");
        if (wrong > 0) {
            System.exit(1);
        }
    }
}
