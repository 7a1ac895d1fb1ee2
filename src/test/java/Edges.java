import java.util.stream.IntStream;

/** What the tests of the edges share: books to begin with, and arguments beyond an edge. */
final class Edges {
    static final String INDEX = "IndexOutOfBoundsException";
    static final String ARGUMENT = "IllegalArgumentException";
    static final String STATE = "IllegalStateException";
    static final String UNSUPPORTED = "UnsupportedOperationException";
    static final String NO_ELEMENT = "NoSuchElementException";
    static final String ARITHMETIC = "ArithmeticException";

    private static final int MIN = Integer.MIN_VALUE;
    private static final int MAX = Integer.MAX_VALUE;

    private Edges() {
    }

    static FilterRules objects(int count) {
        FilterRules book = new FilterRules();
        for (int i = 0; i < count; i++) {
            book.addObject();
        }
        return book;
    }

    static FilterRules oneObject() {
        return objects(1);
    }

    static FilterRules allObjects() {
        return objects(8);
    }

    /** Each of these pairs, the first and the last value, makes an object with one range. */
    static FilterRules ranges(int... firstsAndLasts) {
        FilterRules book = objects(firstsAndLasts.length / 2);
        for (int i = 0; i < firstsAndLasts.length / 2; i++) {
            book.addRange(i, firstsAndLasts[2 * i], firstsAndLasts[2 * i + 1]);
        }
        return book;
    }

    /** The rules 0 to 2 were added, each ahead of those before, and rule 1 was removed. */
    static FilterRules gap() {
        FilterRules book = ranges(0, 3);
        book.addRule(0, 'd', -1, 0, -1, 0);
        book.addRule(0, 'a', -1, -1, 0, 1);
        book.addRule(0, 'a', 0, -1, -1, 2);
        book.removeRule(1);
        return book;
    }

    /** Rule 0 for the source 0, rule 1 for the source 1, and so on; 'a' and 'd' take turns. */
    static FilterRules rules(int count) {
        FilterRules book = new FilterRules();
        for (int i = 0; i < count; i++) {
            book.addObject();
            book.addRange(i, i, i);
            book.addRule(i, i % 2 == 0 ? 'a' : 'd', i, -1, -1, i % 6);
        }
        return book;
    }

    static FilterRules allRules() {
        return rules(8);
    }

    static FilterRules allRulesRemoved() {
        FilterRules book = rules(8);
        for (int i = 0; i < 8; i++) {
            book.removeRule(i);
        }
        return book;
    }

    /**
     * Rules in their order, each told by its action and the objects of its fields, where '.' is
     * none: "a1.. d..2". Object 0 has all values, 1 has 0 alone, 2 has 31 alone, 3 has all but 31,
     * 4 has none, 5 has all but 0, 6 has 0 to 15, and 7 has 16 to 31.
     */
    static FilterRules told(String rules) {
        FilterRules book = objects(8);
        int[][] ranges = {{0, 0, 31}, {1, 0, 0}, {2, 31, 31}, {3, 0, 30}, {5, 1, 31}, {6, 0, 15},
            {7, 16, 31}};
        for (int[] range : ranges) {
            book.addRange(range[0], range[1], range[2]);
        }
        for (String rule : rules.split(" ")) {
            book.addRule(book.rules(), rule.charAt(0), objectTold(rule, 1), objectTold(rule, 2),
                objectTold(rule, 3), 0);
        }
        return book;
    }

    private static int objectTold(String rule, int place) {
        return rule.charAt(place) == '.' ? -1 : rule.charAt(place) - '0';
    }

    /** The rules that are told, but this one was in force up to the day before. */
    static FilterRules toldButPast(String rules, int rule) {
        FilterRules book = told(rules);
        book.setLastDay(rule, 0);
        book.pass(1);
        return book;
    }

    /** A book at all of its limits, with members, hits, last days and a rule not in force. */
    static FilterRules fullBook() {
        FilterRules book = rules(8);
        for (int i = 0; i < 8; i++) {
            book.addRange(i, i + 10, i + 12);
            book.addRange(i, i + 10, i + 12);
        }
        for (int i = 0; i < 6; i++) {
            book.addMember(i, i + 1);
            book.addMember(i, i + 2);
        }
        book.setLastDay(2, 1);
        book.setLastDay(5, 40);
        pass(book, 3);
        book.packet(7, 7, 7);
        book.packet(18, 1, 1);
        book.packet(31, 31, 31);
        pass(book, 2);
        return book;
    }

    static void pass(FilterRules book, int days) {
        int left = days;
        while (left > 0) {
            int step = Math.min(left, 99);
            book.pass(step);
            left -= step;
        }
    }

    static String orderOf(FilterRules book) {
        StringBuilder order = new StringBuilder();
        for (int i = 0; i < book.rules(); i++) {
            order.append(book.ruleAt(i)).append(' ');
        }
        return order.toString().strip();
    }

    /** Just outside of low to high, far outside, and what would be inside if bits were lost. */
    static int[] outside(int low, int high) {
        int[] all = {low - 1, high + 1, -2, 8, 32, 36, 100, 1000, low - 32, high + 32, low + 256,
            high + 256, low + 65536, high - 65536, MAX, MAX - 1, MIN, MIN + 1, MIN + low,
            MIN + high};
        return IntStream.of(all).filter(i -> i < low || i > high).distinct().toArray();
    }

    /** A call that asks for an object is refused for all that is none, with 0, 1 and 8 of them. */
    static void refusesNoObject(Snapshot.CallWith call) {
        Snapshot.refusesEach(outside(0, -1), FilterRules::new, INDEX, "no objects", call);
        Snapshot.refusesEach(outside(0, 0), Edges::oneObject, INDEX, "1 object", call);
        Snapshot.refusesEach(outside(0, 7), Edges::allObjects, INDEX, "8 objects", call);
    }

    /** A call that asks for a rule is refused for all that is none. */
    static void refusesNoRule(Snapshot.CallWith call) {
        int[] removed = {1};
        Snapshot.refusesEach(outside(0, -1), FilterRules::new, NO_ELEMENT, "no rules", call);
        Snapshot.refusesEach(outside(0, 2), Edges::gap, NO_ELEMENT, "rules 0 and 2", call);
        Snapshot.refusesEach(removed, Edges::gap, NO_ELEMENT, "removed", call);
        Snapshot.refusesEach(outside(0, 7), Edges::allRules, NO_ELEMENT, "8 rules", call);
        Snapshot.refusesEach(outside(0, -1), Edges::allRulesRemoved, NO_ELEMENT, "all removed",
            call);
    }
}
