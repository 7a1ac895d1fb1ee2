/** Promises 10 to 16: the rules, their owners and their last days. */
public final class RulesTest {
    private static final String INDEX = "IndexOutOfBoundsException";
    private static final String ARGUMENT = "IllegalArgumentException";
    private static final String STATE = "IllegalStateException";
    private static final String NO_ELEMENT = "NoSuchElementException";

    private RulesTest() {
    }

    public static void main(String[] args) {
        promise10();
        promise10Refusals();
        promise11();
        promise11Changes();
        promise12();
        promises13And14();
        promise15();
        promise16();
        Due.end();
    }

    /** On day 10: rule 1 accepts source 0-3; rule 0 denies source 2-9, to day 12, of owner 5. */
    private static FilterRules sample() {
        FilterRules book = new FilterRules();
        book.addObject();
        book.addRange(0, 0, 3);
        book.addObject();
        book.addRange(1, 2, 9);
        book.pass(10);
        book.addRule(0, 'd', 1, -1, -1, 5);
        book.addRule(0, 'a', 0, -1, -1, 0);
        book.setLastDay(0, 12);
        return book;
    }

    private static FilterRules full() {
        FilterRules book = sample();
        for (int i = 2; i < 8; i++) {
            book.addRule(i, 'd', -1, 0, 1, i - 2);
        }
        return book;
    }

    private static String orderOf(FilterRules book) {
        StringBuilder order = new StringBuilder();
        for (int i = 0; i < book.rules(); i++) {
            order.append(book.ruleAt(i)).append(' ');
        }
        return order.toString();
    }

    private static void promise10() {
        FilterRules book = sample();
        Due.answers(2, "addRule at the end", () -> book.addRule(2, 'a', -1, -1, -1, 5));
        Due.answers(3, "addRule between", () -> book.addRule(1, 'd', -1, 0, -1, 0));
        Due.answers(4, "addRule at the front", () -> book.addRule(0, 'a', -1, 1, 0, 1));
        Due.same("4 1 3 0 2 ", "the order", orderOf(book));
        Due.answers(32768, "matched(2)", () -> book.matched(2));
        Due.answers(4096, "matched(3)", () -> book.matched(3));
        Due.answers(1024, "matched(4)", () -> book.matched(4));
        Due.answers('a', "packet of rule 4", () -> book.packet(0, 9, 3));
        Due.answers('d', "packet of rule 3", () -> book.packet(31, 3, 31));
        Due.answers(-1, "setLastDay(4, 10)", () -> book.setLastDay(4, 10));
        Due.answers(1, "expiring(1, 1)", () -> book.expiring(1, 1));
        book.removeRule(4);
        Due.answers(5, "addRule after removeRule", () -> book.addRule(0, 'a', -1, -1, -1, 2));
        Due.answers(0, "hits of the new rule", () -> book.hits(5));
        Due.answers(0, "busyDays of the new rule", () -> book.busyDays(5));
        Due.answers(true, "isInForce of the new rule", () -> book.isInForce(5));
        Due.answers(-1, "last day of the new rule", () -> book.setLastDay(5, -1));
        Due.answers(0, "idleDays of the new rule", () -> book.idleDays(5));
        book.removeRule(5);
        Due.answers(6, "addRule after the last was removed",
            () -> book.addRule(0, 'd', -1, -1, -1, 3));
    }

    private static void promise10Refusals() {
        Snapshot.refuses(RulesTest::sample, INDEX, "position 3",
            x -> x.addRule(3, 'x', 0, 0, 0, 0));
        Snapshot.refuses(RulesTest::sample, INDEX, "position -1",
            x -> x.addRule(-1, 'a', 0, 0, 0, 6));
        Snapshot.refuses(RulesTest::sample, INDEX, "source 2",
            x -> x.addRule(0, 'a', 2, 0, 0, 6));
        Snapshot.refuses(RulesTest::sample, INDEX, "source -2",
            x -> x.addRule(0, 'a', -2, 0, 0, 0));
        Snapshot.refuses(RulesTest::sample, INDEX, "target 2",
            x -> x.addRule(0, 'x', 0, 2, 0, 0));
        Snapshot.refuses(RulesTest::sample, INDEX, "target -2",
            x -> x.addRule(0, 'a', 0, -2, 0, 0));
        Snapshot.refuses(RulesTest::sample, INDEX, "service 2",
            x -> x.addRule(0, 'a', 0, 0, 2, 9));
        Snapshot.refuses(RulesTest::sample, INDEX, "service -2",
            x -> x.addRule(0, 'a', 0, 0, -2, 0));
        Snapshot.refuses(RulesTest::sample, ARGUMENT, "action A",
            x -> x.addRule(0, 'A', 0, 0, 0, 0));
        Snapshot.refuses(RulesTest::sample, ARGUMENT, "action b",
            x -> x.addRule(0, 'b', 0, 0, 0, 0));
        Snapshot.refuses(RulesTest::sample, ARGUMENT, "owner 6",
            x -> x.addRule(0, 'a', 0, 0, 0, 6));
        Snapshot.refuses(RulesTest::sample, ARGUMENT, "owner -1",
            x -> x.addRule(0, 'a', 0, 0, 0, -1));
        Snapshot.refuses(RulesTest::full, STATE, "a ninth rule",
            x -> x.addRule(8, 'a', 0, 0, 0, 0));
        Snapshot.refuses(RulesTest::full, INDEX, "a ninth rule at 9",
            x -> x.addRule(9, 'a', 0, 0, 0, 0));
        Snapshot.refuses(RulesTest::full, INDEX, "a ninth rule with object 2",
            x -> x.addRule(0, 'a', 0, 2, 0, 0));
        Snapshot.refuses(RulesTest::full, ARGUMENT, "a ninth rule of owner 6",
            x -> x.addRule(0, 'a', 0, 0, 0, 6));
        Snapshot.refuses(RulesTest::full, ARGUMENT, "a ninth rule with action x",
            x -> x.addRule(0, 'x', 0, 0, 0, 0));
    }

    private static void promise11() {
        FilterRules book = full();
        Due.answers(0, "removeRule(4), a denying one", () -> book.removeRule(4));
        Due.same("1 0 2 3 5 6 7 ", "the order", orderOf(book));
        Due.answers(7, "rules", () -> book.rules());
        Due.answers(0, "removeRule(7), the last one", () -> book.removeRule(7));
        Due.answers(4096, "removeRule(1), the first one", () -> book.removeRule(1));
        Due.same("0 2 3 5 6 ", "the order", orderOf(book));
        Due.answers("throws." + NO_ELEMENT, "hits(4)", () -> book.hits(4));
        Due.answers("throws." + NO_ELEMENT, "removeRule(4)", () -> book.removeRule(4));
        Snapshot.refuses(RulesTest::sample, NO_ELEMENT, "removeRule(2)", x -> x.removeRule(2));
        Snapshot.refuses(RulesTest::sample, NO_ELEMENT, "removeRule(-1)", x -> x.removeRule(-1));
        Snapshot.refuses(RulesTest::full, NO_ELEMENT, "removeRule(8)", x -> x.removeRule(8));
    }

    private static void promise11Changes() {
        FilterRules book = sample();
        book.addRule(2, 'a', -1, 0, -1, 3);
        book.addRule(3, 'a', -1, -1, 1, 3);
        Due.answers(6 * (4 * 32 + 28 * 8), "removeRule(0): 6 sources, then accepted by 2 or 3",
            () -> book.removeRule(0));
        FilterRules behind = sample();
        behind.addRule(2, 'a', 0, -1, -1, 3);
        Due.answers(0, "removeRule(2), shadowed", () -> behind.removeRule(2));
        behind.addRule(2, 'a', 0, -1, -1, 3);
        Due.answers(2 * 1024, "removeRule(1), rule 3 accepts half", () -> behind.removeRule(1));
        FilterRules expired = sample();
        expired.setLastDay(1, 10);
        expired.pass(1);
        Due.answers(0, "removeRule(1), not in force", () -> expired.removeRule(1));
        FilterRules passed = sample();
        passed.setLastDay(0, 10);
        passed.addRule(2, 'a', 0, -1, -1, 3);
        passed.pass(1);
        Due.answers(0, "removeRule(1), 2 accepts the same", () -> passed.removeRule(1));
    }

    private static void promise12() {
        FilterRules book = sample();
        Due.answers(-1, "setLastDay(1, 10), this day", () -> book.setLastDay(1, 10));
        Due.answers(10, "setLastDay(1, 999)", () -> book.setLastDay(1, 999));
        Due.answers(999, "setLastDay(1, -1)", () -> book.setLastDay(1, -1));
        Due.answers(-1, "setLastDay(1, 11)", () -> book.setLastDay(1, 11));
        Due.answers(12, "setLastDay(0, 12)", () -> book.setLastDay(0, 12));
        book.pass(2);
        Due.answers(false, "isInForce(1) on day 12", () -> book.isInForce(1));
        Due.answers(11, "setLastDay(1, 12), passed before", () -> book.setLastDay(1, 12));
        Due.answers(true, "isInForce(1) again", () -> book.isInForce(1));
        Snapshot.refuses(RulesTest::sample, NO_ELEMENT, "setLastDay(2, 9)",
            x -> x.setLastDay(2, 9));
        Snapshot.refuses(RulesTest::sample, NO_ELEMENT, "setLastDay(-1, 20)",
            x -> x.setLastDay(-1, 20));
        Snapshot.refuses(RulesTest::sample, ARGUMENT, "setLastDay(0, 9)",
            x -> x.setLastDay(0, 9));
        Snapshot.refuses(RulesTest::sample, ARGUMENT, "setLastDay(0, 1000)",
            x -> x.setLastDay(0, 1000));
        Snapshot.refuses(RulesTest::sample, ARGUMENT, "setLastDay(0, -2)",
            x -> x.setLastDay(0, -2));
        Snapshot.refuses(RulesTest::sample, ARGUMENT, "setLastDay(0, 0)",
            x -> x.setLastDay(0, 0));
    }

    private static void promises13And14() {
        Snapshot.asks(RulesTest::sample, 2, "rules", x -> x.rules());
        Snapshot.asks(RulesTest::full, 8, "rules", x -> x.rules());
        Snapshot.asks(RulesTest::sample, 1, "ruleAt(0)", x -> x.ruleAt(0));
        Snapshot.asks(RulesTest::sample, 0, "ruleAt(1)", x -> x.ruleAt(1));
        Snapshot.asks(RulesTest::full, 7, "ruleAt(7)", x -> x.ruleAt(7));
        Snapshot.refuses(RulesTest::sample, INDEX, "ruleAt(2)", x -> x.ruleAt(2));
        Snapshot.refuses(RulesTest::sample, INDEX, "ruleAt(-1)", x -> x.ruleAt(-1));
        Snapshot.refuses(RulesTest::full, INDEX, "ruleAt(8)", x -> x.ruleAt(8));
        FilterRules book = sample();
        book.setLastDay(0, 10);
        book.pass(1);
        Due.answers(2, "rules, one not in force", () -> book.rules());
        book.removeRule(1);
        Due.answers(1, "rules, one removed", () -> book.rules());
        Due.answers(0, "ruleAt(0), one removed", () -> book.ruleAt(0));
        Due.answers("throws." + INDEX, "ruleAt(1), one removed", () -> book.ruleAt(1));
    }

    private static void promise15() {
        Snapshot.asks(RulesTest::sample, true, "isInForce(0)", x -> x.isInForce(0));
        Snapshot.asks(RulesTest::sample, true, "isInForce(1)", x -> x.isInForce(1));
        Snapshot.refuses(RulesTest::sample, NO_ELEMENT, "isInForce(2)", x -> x.isInForce(2));
        Snapshot.refuses(RulesTest::sample, NO_ELEMENT, "isInForce(-1)", x -> x.isInForce(-1));
        FilterRules book = sample();
        book.pass(2);
        Due.answers(true, "isInForce(0) on its last day", () -> book.isInForce(0));
        book.pass(1);
        Due.answers(false, "isInForce(0) on the day after", () -> book.isInForce(0));
        Due.answers(true, "isInForce(1) without a last day", () -> book.isInForce(1));
        Due.answers(4096, "accepted then", () -> book.accepted());
    }

    private static void promise16() {
        Snapshot.asks(RulesTest::sample, 0, "expiring(5, 2)", x -> x.expiring(5, 2));
        Snapshot.asks(RulesTest::sample, 1, "expiring(5, 3)", x -> x.expiring(5, 3));
        Snapshot.asks(RulesTest::sample, 0, "expiring(0, 99)", x -> x.expiring(0, 99));
        Snapshot.asks(RulesTest::sample, 1, "expiring(5, 99)", x -> x.expiring(5, 99));
        Snapshot.refuses(RulesTest::sample, ARGUMENT, "owner 6", x -> x.expiring(6, 1));
        Snapshot.refuses(RulesTest::sample, ARGUMENT, "owner -1", x -> x.expiring(-1, 1));
        Snapshot.refuses(RulesTest::sample, ARGUMENT, "0 days", x -> x.expiring(5, 0));
        Snapshot.refuses(RulesTest::sample, ARGUMENT, "100 days", x -> x.expiring(5, 100));
        FilterRules book = sample();
        book.addRule(0, 'a', 1, 1, 1, 5);
        book.addRule(0, 'a', 1, 1, 1, 5);
        book.setLastDay(2, 13);
        book.setLastDay(3, 20);
        Due.answers(2, "expiring(5, 4)", () -> book.expiring(5, 4));
        Due.answers(3, "expiring(5, 11)", () -> book.expiring(5, 11));
        book.pass(3);
        Due.answers(1, "expiring(5, 1), one passed", () -> book.expiring(5, 1));
        Due.answers(2, "expiring(5, 99), one passed", () -> book.expiring(5, 99));
    }
}
