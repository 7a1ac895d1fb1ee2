/**
 * Takes rule books apart, so that two of them can be told from each other. A book serves 512 calls
 * at most, and asking some things changes it, so each view is taken of a new book of its own.
 */
final class Snapshot {
    interface Maker {
        FilterRules make();
    }

    interface Call {
        Object on(FilterRules book);
    }

    interface CallWith {
        Object on(FilterRules book, int argument);
    }

    private static final int OBJECTS = 8;
    private static final int MOST_RANGES = 3;
    private static final int VALUES = 32;
    private static final int RULES = 8;
    /** One view for each object and for each position, and two of all rules. */
    private static final int VIEWS = OBJECTS + RULES + 2;

    private Snapshot() {
    }

    /** A call that throws this exception and leaves the book as it was. */
    static void refuses(Maker maker, String exception, String what, Call call) {
        leaves(untouched(maker), maker, "throws." + exception, what, call);
    }

    /** A call that only asks: it answers and leaves the book as it was. */
    static void asks(Maker maker, Object due, String what, Call call) {
        leaves(untouched(maker), maker, String.valueOf(due), what, call);
    }

    /** Each of the arguments is refused as in refuses. */
    static void refusesEach(int[] arguments, Maker maker, String exception, String what,
            CallWith call) {
        String before = untouched(maker);
        for (int argument : arguments) {
            leaves(before, maker, "throws." + exception, what + ": " + argument,
                book -> call.on(book, argument));
        }
    }

    private static String untouched(Maker maker) {
        return after(maker, FilterRules::rules);
    }

    private static void leaves(String before, Maker maker, String due, String what, Call call) {
        FilterRules book = maker.make();
        Due.same(due, what, Due.outcome(() -> call.on(book)));
        Due.same(before, "the state after " + what, after(maker, call));
    }

    /** Tells all of the book that stands after the call. */
    private static String after(Maker maker, Call call) {
        StringBuilder told = new StringBuilder();
        for (int view = 0; view < VIEWS; view++) {
            FilterRules book = maker.make();
            Due.outcome(() -> call.on(book));
            if (view < OBJECTS) {
                tellObject(told, book, view);
            } else if (view < OBJECTS + RULES) {
                tellPackets(told, book, view - OBJECTS);
            } else if (view == OBJECTS + RULES) {
                tellAnswers(told, book);
            } else {
                tellLastDays(told, book);
            }
            told.append('\n');
        }
        return told.toString();
    }

    private static void tell(StringBuilder told, Due.Call call) {
        told.append(Due.outcome(call)).append(' ');
    }

    private static void tellObject(StringBuilder told, FilterRules book, int object) {
        told.append("object ").append(object).append(' ');
        tell(told, () -> book.users(object));
        tell(told, () -> valuesOf(book, object));
        for (int i = 0; i < OBJECTS; i++) {
            int member = i;
            tell(told, () -> book.removeMember(object, member));
        }
        for (int i = 0; i <= MOST_RANGES; i++) {
            tell(told, () -> valuesOf(book, object));
            tell(told, () -> book.removeRange(object));
        }
    }

    private static String valuesOf(FilterRules book, int object) {
        StringBuilder values = new StringBuilder();
        for (int value = 0; value < VALUES; value++) {
            values.append(book.hasValue(object, value) ? '1' : '0');
        }
        return values.toString();
    }

    private static void tellAnswers(StringBuilder told, FilterRules book) {
        tell(told, book::day);
        tell(told, book::accepted);
        tell(told, book::shadowedShare);
        tell(told, book::meanHits);
        for (int i = 0; i < book.rules(); i++) {
            int rule = book.ruleAt(i);
            told.append("rule ").append(rule).append(' ');
            tell(told, () -> book.hits(rule));
            tell(told, () -> book.busyDays(rule));
            tell(told, () -> book.idleDays(rule));
            tell(told, () -> book.isInForce(rule));
            tell(told, () -> book.matched(rule));
            tell(told, () -> book.decided(rule));
            tell(told, () -> book.decidedBySamples(rule));
            tell(told, () -> book.mainShadow(rule));
            for (int j = 0; j < book.rules(); j++) {
                int position = j;
                tell(told, () -> book.changedByMove(rule, position));
            }
        }
    }

    /** Tells the last days, the owners by them, and the number that a next rule gets. */
    private static void tellLastDays(StringBuilder told, FilterRules book) {
        for (int i = 0; i < book.rules(); i++) {
            int rule = book.ruleAt(i);
            tell(told, () -> book.setLastDay(rule, -1));
        }
        for (int i = 0; i < book.rules(); i++) {
            int rule = book.ruleAt(i);
            book.setLastDay(rule, book.day());
            for (int j = 0; j < 6; j++) {
                int owner = j;
                tell(told, () -> book.expiring(owner, 1));
            }
            book.setLastDay(rule, -1);
        }
        if (book.rules() > 0) {
            book.removeRule(book.ruleAt(0));
        }
        told.append("next ");
        tell(told, () -> book.addRule(0, 'a', -1, -1, -1, 0));
    }

    /** Brings a rule to the front by removing those ahead of it, and sends packets to it. */
    private static void tellPackets(StringBuilder told, FilterRules book, int position) {
        if (position >= book.rules()) {
            return;
        }
        for (int i = 0; i < position; i++) {
            book.removeRule(book.ruleAt(0));
        }
        int rule = book.ruleAt(0);
        told.append("rule ").append(rule).append(' ');
        book.setLastDay(rule, -1);
        for (int i = 0; i < VALUES; i++) {
            int value = i;
            tell(told, () -> book.packet(value, value, value));
        }
        for (int i = 0; i < OBJECTS; i++) {
            int object = i;
            tell(told, () -> book.users(object));
        }
        tell(told, () -> book.hits(rule));
        tell(told, () -> book.busyDays(rule));
        tell(told, () -> book.removeRule(rule));
    }
}
