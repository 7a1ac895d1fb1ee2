/** Takes a rule book apart, so that two of them can be told from each other. */
final class Snapshot {
    interface Maker {
        FilterRules make();
    }

    interface Call {
        Object on(FilterRules book);
    }

    private Snapshot() {
    }

    /** A call that throws this exception and leaves the book as it was. */
    static void refuses(Maker maker, String exception, String what, Call call) {
        FilterRules book = maker.make();
        Due.answers("throws." + exception, what, () -> call.on(book));
        Due.same(of(maker.make()), "the state after " + what, of(book));
    }

    /** A call that only asks: it answers and leaves the book as it was. */
    static void asks(Maker maker, Object due, String what, Call call) {
        FilterRules book = maker.make();
        Due.answers(due, what, () -> call.on(book));
        Due.same(of(maker.make()), "the state after " + what, of(book));
    }

    /** Tells all of a book of few objects and rules; the book is of no use afterwards. */
    static String of(FilterRules book) {
        StringBuilder told = new StringBuilder();
        told.append("day ").append(book.day());
        told.append(" accepted ").append(book.accepted());
        int objects = 0;
        while (objects < 8) {
            int object = objects;
            String values = Due.outcome(() -> valuesOf(book, object));
            if (values.startsWith("throws")) {
                break;
            }
            told.append(" object ").append(values).append(' ').append(book.users(object));
            objects++;
        }
        for (int i = 0; i < book.rules(); i++) {
            tellRule(told, book, book.ruleAt(i));
        }
        for (int object = 0; object < objects; object++) {
            tellParts(told, book, object, objects);
        }
        if (book.rules() == 8) {
            book.removeRule(book.ruleAt(0));
        }
        told.append(" next ").append(book.addRule(0, 'a', -1, -1, -1, 0));
        return told.toString();
    }

    private static String valuesOf(FilterRules book, int object) {
        StringBuilder values = new StringBuilder();
        for (int value = 0; value < 32; value++) {
            values.append(book.hasValue(object, value) ? '1' : '0');
        }
        return values.toString();
    }

    private static void tellRule(StringBuilder told, FilterRules book, int rule) {
        told.append(" rule ").append(rule);
        told.append(' ').append(book.hits(rule)).append(' ').append(book.busyDays(rule));
        told.append(' ').append(book.idleDays(rule)).append(' ').append(book.isInForce(rule));
        told.append(' ').append(book.matched(rule)).append(' ').append(book.decided(rule));
        told.append(" last day ").append(book.setLastDay(rule, book.day()));
        for (int owner = 0; owner < 6; owner++) {
            told.append(' ').append(book.expiring(owner, 1));
        }
        book.setLastDay(rule, -1);
    }

    private static void tellParts(StringBuilder told, FilterRules book, int object, int objects) {
        told.append(" ranges");
        String left = "";
        while (!left.startsWith("throws")) {
            told.append(' ').append(book.values(object));
            left = Due.outcome(() -> book.removeRange(object));
        }
        told.append(" members");
        for (int member = 0; member < objects; member++) {
            int asked = member;
            if (!Due.outcome(() -> book.removeMember(object, asked)).startsWith("throws")) {
                told.append(' ').append(member);
            }
        }
    }
}
