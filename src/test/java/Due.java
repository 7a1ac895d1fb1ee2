/** Counts the calls whose answer is the one that is due, and prints the others. */
final class Due {
    interface Call {
        Object answer();
    }

    private static int passed;
    private static int failed;
    private static String place = "";

    private Due() {
    }

    /** Names the place in the document that the next answers belong to. */
    static void nowIn(String newPlace) {
        place = newPlace.isEmpty() ? "" : "[" + newPlace + "] ";
    }

    /** The number of answers that were looked at. */
    static int answers() {
        return passed + failed;
    }

    /** The answer of a call as a text; for an exception "throws." and the name of its class. */
    static String outcome(Call call) {
        try {
            return String.valueOf(call.answer());
        } catch (RuntimeException thrown) {
            String name = thrown.getClass().getName();
            return "throws." + name.substring(name.lastIndexOf('.') + 1);
        }
    }

    static void answers(Object due, String what, Call call) {
        same(String.valueOf(due), what, outcome(call));
    }

    static void same(String due, String what, String got) {
        if (due.equals(got)) {
            passed++;
            return;
        }
        failed++;
        System.out.println(place + what + " answered " + got + ", due is " + due);
    }

    static void end() {
        System.out.println(passed + " passed, " + failed + " failed");
        if (failed != 0 || passed == 0) {
            System.exit(1);
        }
    }
}
