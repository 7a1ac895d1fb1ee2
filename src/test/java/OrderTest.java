/** Promises 30 to 35: changes of the order, further ranges, and the two means. */
public final class OrderTest {
    private static final String INDEX = "IndexOutOfBoundsException";
    private static final String ARGUMENT = "IllegalArgumentException";
    private static final String UNSUPPORTED = "UnsupportedOperationException";
    private static final String ARITHMETIC = "ArithmeticException";
    private static final String NO_ELEMENT = "NoSuchElementException";

    private OrderTest() {
    }

    public static void main(String[] args) {
        promise30();
        promise30Skipped();
        promise31();
        promise32();
        promise32Rounds();
        promise33();
        promise33Behind();
        promise34();
        promise35();
        Due.end();
    }

    /**
     * In order: rule 0 accepts source 0-7; rule 1 denies target 0-3; rule 2 accepts source 4-11;
     * rule 3 denies all.
     */
    private static FilterRules sample() {
        FilterRules book = new FilterRules();
        int[][] ranges = {{0, 7}, {0, 3}, {4, 11}};
        for (int i = 0; i < 3; i++) {
            book.addObject();
            book.addRange(i, ranges[i][0], ranges[i][1]);
        }
        book.addRule(0, 'a', 0, -1, -1, 0);
        book.addRule(1, 'd', -1, 1, -1, 0);
        book.addRule(2, 'a', 2, -1, -1, 0);
        book.addRule(3, 'd', -1, -1, -1, 0);
        return book;
    }

    private static String orderOf(FilterRules book) {
        StringBuilder order = new StringBuilder();
        for (int i = 0; i < book.rules(); i++) {
            order.append(book.ruleAt(i)).append(' ');
        }
        return order.toString();
    }

    private static void movesChange(int due, int rule, int position) {
        Snapshot.asks(OrderTest::sample, due, "changedByMove(" + rule + ", " + position + ")",
            x -> x.changedByMove(rule, position));
    }

    private static void promise30() {
        movesChange(0, 0, 0);
        movesChange(8 * 4 * 32, 0, 1);
        movesChange(8 * 4 * 32, 0, 2);
        movesChange(8 * 4 * 32 + 4 * 28 * 32, 0, 3);
        movesChange(8 * 4 * 32, 1, 0);
        movesChange(4 * 4 * 32, 1, 2);
        movesChange(4 * 4 * 32, 1, 3);
        movesChange(4 * 4 * 32, 2, 1);
        movesChange(4 * 4 * 32, 2, 0);
        movesChange(4 * 28 * 32, 2, 3);
        movesChange(4 * 28 * 32, 3, 2);
        movesChange(4 * 28 * 32, 3, 1);
        movesChange(8 * 1024 + 4 * 28 * 32, 3, 0);
        Snapshot.refuses(OrderTest::sample, NO_ELEMENT, "changedByMove(4, 9)",
            x -> x.changedByMove(4, 9));
        Snapshot.refuses(OrderTest::sample, NO_ELEMENT, "changedByMove(-1, 0)",
            x -> x.changedByMove(-1, 0));
        Snapshot.refuses(OrderTest::sample, INDEX, "changedByMove(0, 4)",
            x -> x.changedByMove(0, 4));
        Snapshot.refuses(OrderTest::sample, INDEX, "changedByMove(0, -1)",
            x -> x.changedByMove(0, -1));
    }

    private static void promise30Skipped() {
        FilterRules book = sample();
        book.setLastDay(1, 0);
        book.pass(1);
        Due.answers(0, "changedByMove(0, 2), 1 not in force", () -> book.changedByMove(0, 2));
        Due.answers(0, "changedByMove(1, 0), not in force", () -> book.changedByMove(1, 0));
        Due.answers(0, "changedByMove(2, 0), past none", () -> book.changedByMove(2, 0));
        Due.answers(4 * 1024, "changedByMove(3, 2)", () -> book.changedByMove(3, 2));
        Due.answers(12 * 1024, "changedByMove(3, 0)", () -> book.changedByMove(3, 0));
    }

    private static void promise31() {
        FilterRules book = sample();
        Due.answers(2, "move(2, 2)", () -> book.move(2, 2));
        Due.same("0 1 2 3 ", "the order", orderOf(book));
        book.removeRule(1);
        Due.answers(0, "move(0, 1)", () -> book.move(0, 1));
        Due.same("2 0 3 ", "the order", orderOf(book));
        book.addRule(0, 'a', 0, 1, -1, 0);
        Due.answers(0, "move(4, 2), over two", () -> book.move(4, 2));
        Due.same("2 0 4 3 ", "the order", orderOf(book));
        Due.answers(2, "move(4, 0), back over two", () -> book.move(4, 0));
        Due.same("4 2 0 3 ", "the order", orderOf(book));
        book.setLastDay(3, 0);
        book.pass(1);
        Due.answers(3, "move(3, 0), not in force", () -> book.move(3, 0));
        Due.same("3 4 2 0 ", "the order", orderOf(book));
        Due.answers(1, "decider then", () -> book.decider(4, 0, 0) == 4 ? 1 : 0);
        Snapshot.refuses(OrderTest::sample, NO_ELEMENT, "move(4, 9)", x -> x.move(4, 9));
        Snapshot.refuses(OrderTest::sample, NO_ELEMENT, "move(-1, 0)", x -> x.move(-1, 0));
        Snapshot.refuses(OrderTest::sample, INDEX, "move(0, 4)", x -> x.move(0, 4));
        Snapshot.refuses(OrderTest::sample, INDEX, "move(0, -1)", x -> x.move(0, -1));
        Snapshot.refuses(OrderTest::sample, UNSUPPORTED, "move(0, 1)", x -> x.move(0, 1));
        Snapshot.refuses(OrderTest::sample, UNSUPPORTED, "move(0, 3)", x -> x.move(0, 3));
        Snapshot.refuses(OrderTest::sample, UNSUPPORTED, "move(2, 0)", x -> x.move(2, 0));
        Snapshot.refuses(OrderTest::sample, UNSUPPORTED, "move(3, 2)", x -> x.move(3, 2));
    }

    private static void hit(FilterRules book, int times, int source, int target) {
        for (int i = 0; i < times; i++) {
            book.packet(source, target, 0);
        }
    }

    private static void promise32() {
        Due.answers(0, "sortByHits of a new book", () -> new FilterRules().sortByHits());
        FilterRules kept = sample();
        hit(kept, 3, 20, 0);
        hit(kept, 2, 11, 9);
        hit(kept, 1, 0, 0);
        Due.answers(0, "sortByHits, each swap would change", () -> kept.sortByHits());
        Due.same("0 1 2 3 ", "the order", orderOf(kept));
        FilterRules book = sample();
        book.removeRule(1);
        hit(book, 2, 11, 9);
        hit(book, 1, 0, 0);
        hit(book, 5, 31, 31);
        Due.answers(1, "sortByHits", () -> book.sortByHits());
        Due.same("2 0 3 ", "the order", orderOf(book));
        hit(book, 1, 0, 0);
        Due.answers(0, "sortByHits, as many hits", () -> book.sortByHits());
        Due.same("2 0 3 ", "the order", orderOf(book));
        hit(book, 1, 0, 0);
        Due.answers(1, "sortByHits, one hit more", () -> book.sortByHits());
        Due.same("0 2 3 ", "the order", orderOf(book));
        book.setLastDay(2, 0);
        book.setLastDay(0, 0);
        book.pass(1);
        Due.answers(2, "sortByHits past rules not in force", () -> book.sortByHits());
        Due.same("3 0 2 ", "the order", orderOf(book));
    }

    /** Eight rules for a source each, the last with most hits: all pairs are swapped. */
    private static void promise32Rounds() {
        FilterRules book = new FilterRules();
        for (int i = 0; i < 8; i++) {
            book.addObject();
            book.addRange(i, i, i);
            book.addRule(i, i % 2 == 0 ? 'a' : 'd', i, -1, -1, 0);
            hit(book, i, i, 0);
        }
        Due.answers(28, "sortByHits", () -> book.sortByHits());
        Due.same("7 6 5 4 3 2 1 0 ", "the order", orderOf(book));
        Due.answers(0, "sortByHits again", () -> book.sortByHits());
        FilterRules blocked = new FilterRules();
        for (int i = 0; i < 4; i++) {
            blocked.addObject();
            blocked.addRange(i, i, i);
        }
        blocked.addRange(1, 0, 0);
        blocked.addRule(0, 'a', 0, -1, -1, 0);
        blocked.addRule(1, 'd', 1, -1, -1, 0);
        blocked.addRule(2, 'a', 2, -1, -1, 0);
        blocked.addRule(3, 'd', 3, -1, -1, 0);
        hit(blocked, 1, 1, 0);
        hit(blocked, 2, 2, 0);
        hit(blocked, 3, 3, 0);
        Due.answers(5, "sortByHits, 1 stays behind 0", () -> blocked.sortByHits());
        Due.same("3 2 0 1 ", "the order", orderOf(blocked));
    }

    private static void widens(int due, int object, int low, int high) {
        Snapshot.asks(OrderTest::sample, due,
            "changedByRange(" + object + ", " + low + ", " + high + ")",
            x -> x.changedByRange(object, low, high));
    }

    private static void promise33() {
        widens(0, 0, 0, 7);
        widens(4 * 32, 0, 11, 11);
        widens(1024, 0, 31, 31);
        widens(4 * 4 * 32 + 20 * 1024, 0, 0, 31);
        widens(4 * 32, 1, 4, 4);
        widens(4 * 28 * 32, 1, 0, 31);
        widens(20 * 28 * 32, 2, 0, 31);
        widens(28 * 32, 2, 12, 12);
        Snapshot.refuses(OrderTest::sample, INDEX, "changedByRange(3, 5, 4)",
            x -> x.changedByRange(3, 5, 4));
        Snapshot.refuses(OrderTest::sample, INDEX, "changedByRange(-1, 5, 6)",
            x -> x.changedByRange(-1, 5, 6));
        Snapshot.refuses(OrderTest::sample, ARGUMENT, "changedByRange(0, 5, 4)",
            x -> x.changedByRange(0, 5, 4));
        Snapshot.refuses(OrderTest::sample, ARGUMENT, "changedByRange(0, -1, 4)",
            x -> x.changedByRange(0, -1, 4));
        Snapshot.refuses(OrderTest::sample, ARGUMENT, "changedByRange(0, 5, 32)",
            x -> x.changedByRange(0, 5, 32));
        Snapshot.refuses(OrderTest::sample, ARGUMENT, "changedByRange(0, 32, 32)",
            x -> x.changedByRange(0, 32, 32));
        FilterRules book = sample();
        book.addRange(0, 0, 0);
        book.addRange(0, 1, 1);
        Due.answers(1024, "changedByRange, full", () -> book.changedByRange(0, 31, 31));
        book.setLastDay(0, 0);
        book.pass(1);
        Due.answers(0, "changedByRange, not in force", () -> book.changedByRange(0, 31, 31));
    }

    /** The widened object stands behind members, in several rules and in several fields. */
    private static void promise33Behind() {
        FilterRules book = sample();
        book.addObject();
        book.addMember(0, 3);
        Due.answers(1024, "changedByRange of a member", () -> book.changedByRange(3, 31, 31));
        book.addMember(1, 3);
        Due.answers(1024 + 4 * 32, "changedByRange in two objects",
            () -> book.changedByRange(3, 31, 31));
        book.addObject();
        book.addMember(3, 4);
        Due.answers(1024 + 4 * 32, "changedByRange of a member of a member",
            () -> book.changedByRange(4, 31, 31));
        FilterRules fields = new FilterRules();
        fields.addObject();
        fields.addRange(0, 0, 1);
        fields.addRule(0, 'a', 0, 0, 0, 0);
        Due.answers(19, "changedByRange in three fields",
            () -> fields.changedByRange(0, 2, 2));
        Due.answers(8, "accepted", () -> fields.accepted());
        FilterRules last = new FilterRules();
        last.addObject();
        last.addRule(0, 'd', -1, 0, -1, 0);
        Due.answers(0, "changedByRange, denied anyway", () -> last.changedByRange(0, 0, 31));
        last.addRule(1, 'a', -1, -1, -1, 0);
        Due.answers(32768, "changedByRange, all", () -> last.changedByRange(0, 0, 31));
    }

    private static void promise34() {
        Snapshot.asks(OrderTest::sample, 0.0f, "shadowedShare", x -> x.shadowedShare());
        Snapshot.refuses(FilterRules::new, ARITHMETIC, "shadowedShare of a new book",
            x -> x.shadowedShare());
        FilterRules book = sample();
        book.addRule(1, 'd', 0, 1, -1, 0);
        Due.answers(1.0f / 5.0f, "shadowedShare, 1 of 5", () -> book.shadowedShare());
        book.addRule(0, 'd', -1, -1, -1, 0);
        Due.answers(5.0f / 6.0f, "shadowedShare, 5 of 6", () -> book.shadowedShare());
        book.setLastDay(5, 0);
        book.setLastDay(2, 0);
        book.setLastDay(3, 0);
        book.pass(1);
        Due.answers(1.0f / 3.0f, "shadowedShare, 1 of 3", () -> book.shadowedShare());
        book.setLastDay(0, 1);
        book.setLastDay(1, 1);
        book.setLastDay(4, 1);
        book.pass(1);
        Due.answers("throws." + ARITHMETIC, "shadowedShare, none in force",
            () -> book.shadowedShare());
        FilterRules empty = new FilterRules();
        empty.addObject();
        empty.addRule(0, 'a', 0, -1, -1, 0);
        Due.answers(1.0f, "shadowedShare, all", () -> empty.shadowedShare());
    }

    private static void promise35() {
        Snapshot.asks(OrderTest::sample, 0.0, "meanHits", x -> x.meanHits());
        Snapshot.refuses(FilterRules::new, ARITHMETIC, "meanHits of a new book",
            x -> x.meanHits());
        FilterRules book = sample();
        book.removeRule(1);
        hit(book, 2, 0, 0);
        hit(book, 1, 11, 0);
        hit(book, 1, 30, 30);
        Due.answers(4.0 / 3.0, "meanHits", () -> book.meanHits());
        book.setLastDay(0, 0);
        book.pass(1);
        Due.answers(4.0 / 3.0, "meanHits, one not in force", () -> book.meanHits());
        book.removeRule(0);
        Due.answers(1.0, "meanHits without it", () -> book.meanHits());
        book.addRule(0, 'a', -1, -1, -1, 0);
        Due.answers(2.0 / 3.0, "meanHits with a new one", () -> book.meanHits());
        book.removeRule(2);
        book.removeRule(3);
        book.removeRule(4);
        Due.answers("throws." + ARITHMETIC, "meanHits, all removed", () -> book.meanHits());
    }
}
