/** Promises 17 to 23: packets, hits and days. */
public final class PacketsTest {
    private static final String ARGUMENT = "IllegalArgumentException";
    private static final String NO_ELEMENT = "NoSuchElementException";

    private PacketsTest() {
    }

    public static void main(String[] args) {
        promise17();
        promise17Fields();
        promise18();
        promise19();
        promise20();
        promise21();
        promise22And23();
        Due.end();
    }

    /** Rule 1 denies source 0-3 and target 5; rule 0 accepts source 2-9; all else is denied. */
    private static FilterRules sample() {
        FilterRules book = new FilterRules();
        book.addObject();
        book.addRange(0, 2, 9);
        book.addObject();
        book.addRange(1, 0, 3);
        book.addObject();
        book.addRange(2, 5, 5);
        book.addRule(0, 'a', 0, -1, -1, 0);
        book.addRule(0, 'd', 1, 2, -1, 0);
        return book;
    }

    private static void promise17() {
        FilterRules book = sample();
        Due.answers('d', "packet of rule 1", () -> book.packet(3, 5, 0));
        Due.answers("1 0", "hits", () -> book.hits(1) + " " + book.hits(0));
        Due.answers('a', "packet of rule 0", () -> book.packet(3, 6, 31));
        Due.answers("1 1", "hits", () -> book.hits(1) + " " + book.hits(0));
        Due.answers('d', "packet without a rule", () -> book.packet(10, 5, 0));
        Due.answers("1 1", "hits", () -> book.hits(1) + " " + book.hits(0));
        book.setLastDay(1, 0);
        Due.answers('d', "packet on the last day", () -> book.packet(3, 5, 0));
        book.pass(1);
        Due.answers('a', "packet after the last day", () -> book.packet(3, 5, 0));
        Due.answers("2 2", "hits", () -> book.hits(1) + " " + book.hits(0));
        book.removeRange(2);
        book.setLastDay(1, -1);
        Due.answers('a', "packet, rule 1 with an empty object", () -> book.packet(3, 5, 0));
        book.addMember(2, 0);
        Due.answers('d', "packet, rule 1 by a member", () -> book.packet(0, 9, 0));
        int[][] wrong = {{-1, 0, 0}, {32, 0, 0}, {0, -1, 0}, {0, 32, 0}, {0, 0, -1}, {0, 0, 32}};
        for (int[] p : wrong) {
            String values = p[0] + ", " + p[1] + ", " + p[2];
            Snapshot.refuses(PacketsTest::sample, ARGUMENT, "packet " + values,
                x -> x.packet(p[0], p[1], p[2]));
            Snapshot.refuses(PacketsTest::sample, ARGUMENT, "decider " + values,
                x -> x.decider(p[0], p[1], p[2]));
        }
    }

    private static void promise17Fields() {
        FilterRules book = sample();
        book.removeRule(0);
        book.removeRule(1);
        book.addRule(0, 'a', -1, -1, 2, 0);
        book.addRule(0, 'a', -1, 2, -1, 0);
        Due.answers('d', "packet(5, 0, 0)", () -> book.packet(5, 0, 0));
        Due.answers('a', "packet(0, 5, 0)", () -> book.packet(0, 5, 0));
        Due.answers('a', "packet(0, 0, 5)", () -> book.packet(0, 0, 5));
        Due.answers("1 1", "hits", () -> book.hits(2) + " " + book.hits(3));
        Due.answers('a', "packet(0, 5, 5)", () -> book.packet(0, 5, 5));
        Due.answers("1 2", "hits", () -> book.hits(2) + " " + book.hits(3));
    }

    private static void promise18() {
        Snapshot.asks(PacketsTest::sample, 1, "decider(0, 5, 31)", x -> x.decider(0, 5, 31));
        Snapshot.asks(PacketsTest::sample, 0, "decider(2, 4, 0)", x -> x.decider(2, 4, 0));
        Snapshot.asks(PacketsTest::sample, 0, "decider(9, 5, 0)", x -> x.decider(9, 5, 0));
        Snapshot.asks(PacketsTest::sample, -1, "decider(1, 4, 0)", x -> x.decider(1, 4, 0));
        Snapshot.asks(PacketsTest::sample, -1, "decider(31, 31, 31)",
            x -> x.decider(31, 31, 31));
        FilterRules book = sample();
        book.setLastDay(1, 3);
        book.pass(3);
        Due.answers(1, "decider on the last day", () -> book.decider(3, 5, 5));
        book.pass(1);
        Due.answers(0, "decider after it", () -> book.decider(3, 5, 5));
        Due.answers(-1, "decider after it", () -> book.decider(0, 5, 5));
    }

    private static void promise19() {
        Snapshot.asks(PacketsTest::sample, 0, "hits(0)", x -> x.hits(0));
        Snapshot.refuses(PacketsTest::sample, NO_ELEMENT, "hits(2)", x -> x.hits(2));
        Snapshot.refuses(PacketsTest::sample, NO_ELEMENT, "hits(-1)", x -> x.hits(-1));
        FilterRules book = sample();
        for (int i = 1; i <= 40; i++) {
            book.packet(5, i % 32, 0);
            book.decider(5, 0, 0);
        }
        Due.answers(40, "hits(0)", () -> book.hits(0));
        Due.answers(0, "hits(1)", () -> book.hits(1));
        book.pass(9);
        book.packet(5, 0, 0);
        Due.answers(41, "hits(0) on a later day", () -> book.hits(0));
        book.move(0, 1);
        Due.answers(41, "hits(0) after a move", () -> book.hits(0));
        book.removeRule(0);
        Due.answers("throws." + NO_ELEMENT, "hits(0) when removed", () -> book.hits(0));
        Due.answers(0, "hits(1)", () -> book.hits(1));
    }

    private static void promise20() {
        Snapshot.asks(PacketsTest::sample, 0, "busyDays(0)", x -> x.busyDays(0));
        Snapshot.refuses(PacketsTest::sample, NO_ELEMENT, "busyDays(2)", x -> x.busyDays(2));
        Snapshot.refuses(PacketsTest::sample, NO_ELEMENT, "busyDays(-1)", x -> x.busyDays(-1));
        FilterRules book = sample();
        book.packet(5, 0, 0);
        Due.answers(1, "busyDays(0), hit on day 0", () -> book.busyDays(0));
        book.packet(5, 0, 0);
        Due.answers(1, "busyDays(0), hit twice", () -> book.busyDays(0));
        book.pass(1);
        Due.answers(1, "busyDays(0) on day 1", () -> book.busyDays(0));
        book.packet(5, 0, 0);
        book.packet(0, 5, 0);
        book.packet(5, 0, 0);
        Due.answers(2, "busyDays(0), hit on days 0 and 1", () -> book.busyDays(0));
        Due.answers(1, "busyDays(1), hit on day 1", () -> book.busyDays(1));
        book.pass(30);
        book.packet(9, 9, 9);
        Due.answers(3, "busyDays(0), hit on day 31", () -> book.busyDays(0));
    }

    private static void promise21() {
        Snapshot.asks(PacketsTest::sample, 0, "idleDays(0)", x -> x.idleDays(0));
        Snapshot.refuses(PacketsTest::sample, NO_ELEMENT, "idleDays(2)", x -> x.idleDays(2));
        Snapshot.refuses(PacketsTest::sample, NO_ELEMENT, "idleDays(-1)", x -> x.idleDays(-1));
        FilterRules book = sample();
        book.packet(5, 0, 0);
        book.pass(4);
        Due.answers(4, "idleDays(0), hit on day 0", () -> book.idleDays(0));
        Due.answers(4, "idleDays(1), never hit", () -> book.idleDays(1));
        book.addRule(2, 'a', 2, -1, -1, 0);
        Due.answers(0, "idleDays(2), added now", () -> book.idleDays(2));
        book.packet(0, 5, 0);
        book.pass(3);
        book.decider(5, 0, 0);
        Due.answers("7 3 3", "idleDays on day 7",
            () -> book.idleDays(0) + " " + book.idleDays(1) + " " + book.idleDays(2));
        book.packet(5, 0, 0);
        Due.answers(0, "idleDays(0), hit now", () -> book.idleDays(0));
        book.setLastDay(0, 7);
        book.pass(99);
        Due.answers(99, "idleDays(0), not in force", () -> book.idleDays(0));
    }

    private static FilterRules onDay950() {
        FilterRules book = sample();
        for (int i = 0; i < 10; i++) {
            book.pass(95);
        }
        return book;
    }

    private static void promise22And23() {
        FilterRules book = sample();
        Due.answers(1, "pass(1)", () -> book.pass(1));
        Due.answers(100, "pass(99)", () -> book.pass(99));
        Due.answers(100, "day", () -> book.day());
        Snapshot.asks(PacketsTest::onDay950, 950, "day", x -> x.day());
        FilterRules late = onDay950();
        Due.answers(999, "pass(49) to the last day", () -> late.pass(49));
        Due.answers("throws." + ARGUMENT, "pass(1) on day 999", () -> late.pass(1));
        Due.answers(999, "day", () -> late.day());
        Due.answers(-1, "setLastDay on day 999", () -> late.setLastDay(0, 999));
        Snapshot.refuses(PacketsTest::onDay950, ARGUMENT, "pass(50)", x -> x.pass(50));
        Snapshot.refuses(PacketsTest::sample, ARGUMENT, "pass(0)", x -> x.pass(0));
        Snapshot.refuses(PacketsTest::sample, ARGUMENT, "pass(100)", x -> x.pass(100));
        Snapshot.refuses(PacketsTest::sample, ARGUMENT, "pass(-1)", x -> x.pass(-1));
        Snapshot.refuses(PacketsTest::onDay950, ARGUMENT, "pass(MAX)",
            x -> x.pass(Integer.MAX_VALUE));
    }
}
