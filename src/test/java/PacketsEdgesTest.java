import java.io.IOException;

/** The edges of the promises 17 to 23, sentence by sentence. */
public final class PacketsEdgesTest {
    private interface PacketCall {
        Object on(FilterRules book, int source, int target, int service);
    }

    private static final String[] FIELDS = {"source", "target", "service"};

    private PacketsEdgesTest() {
    }

    public static void main(String[] args) throws IOException {
        values("Promise 17", "aaddd", (x, a, b, c) -> x.packet(a, b, c));
        values("Promise 18", "0 0 -1 -1 -1 ", (x, a, b, c) -> x.decider(a, b, c) + " ");
        packetAnswers();
        deciderAnswers();
        hits();
        busyDays();
        idleDays();
        idleDaysAtTheEnds();
        passTakes();
        passRefuses();
        day();
        Sentence.allTested(17, 23);
        Due.end();
    }

    /** One rule accepts the values 0 and 31 in a field, and all in the others. */
    private static FilterRules ends(int field) {
        FilterRules book = Edges.ranges(0, 0);
        book.addRange(0, 31, 31);
        book.addRule(0, 'a', field == 0 ? 0 : -1, field == 1 ? 0 : -1, field == 2 ? 0 : -1, 0);
        return book;
    }

    /** Gives a field the value, and the others 31, the other end. */
    private static Object at(PacketCall call, FilterRules book, int field, int value) {
        return call.on(book, field == 0 ? value : 31, field == 1 ? value : 31,
            field == 2 ? value : 31);
    }

    /** What both promises say of the values of a packet. */
    private static void values(String promise, String due, PacketCall call) {
        for (int i = 0; i < FIELDS.length; i++) {
            int field = i;
            Sentence.test(promise,
                "- `" + FIELDS[i] + "`: its value in field " + i + ", 0 to 31");
            Due.answers(due, "0, 31, 1, 30 and 15", () -> "" + at(call, ends(field), field, 0)
                + at(call, ends(field), field, 31) + at(call, ends(field), field, 1)
                + at(call, ends(field), field, 30) + at(call, ends(field), field, 15));
        }
        Sentence.test(promise, "Throws `IllegalArgumentException` if a value is out of range");
        for (int i = 0; i < FIELDS.length; i++) {
            int field = i;
            Snapshot.refusesEach(Edges.outside(0, 31), FilterRules::new, Edges.ARGUMENT,
                FIELDS[i] + " without rules", (x, value) -> at(call, x, field, value));
            Snapshot.refusesEach(Edges.outside(0, 31), Edges::fullBook, Edges.ARGUMENT,
                FIELDS[i] + " in a full book", (x, value) -> at(call, x, field, value));
        }
        Snapshot.refuses(Edges::allRules, Edges.ARGUMENT, "all three",
            x -> call.on(x, -1, 32, -1));
        Due.answers(false, "the ends", () -> Due.outcome(
            () -> call.on(new FilterRules(), 0, 31, 0)).startsWith("throws"));
    }

    private static FilterRules onlyRule(char action, int object) {
        FilterRules book = Edges.ranges(0, 31, 4, 9);
        book.addObject();
        book.addRule(0, action, object, -1, -1, 0);
        return book;
    }

    private static FilterRules pastRule() {
        FilterRules book = onlyRule('a', -1);
        book.setLastDay(0, 0);
        book.pass(1);
        return book;
    }

    private static void packetAnswers() {
        Sentence.test("Promise 17", "Returns its decision.");
        Snapshot.asks(FilterRules::new, 'd', "no rules", x -> x.packet(0, 0, 0));
        Snapshot.asks(PacketsEdgesTest::pastRule, 'd', "none in force", x -> x.packet(0, 0, 0));
        Snapshot.asks(() -> onlyRule('a', 2), 'd', "none matches", x -> x.packet(0, 0, 0));
        Snapshot.asks(() -> onlyRule('a', 1), 'd', "3 in 4 to 9", x -> x.packet(3, 0, 0));
        Snapshot.asks(() -> onlyRule('a', 1), 'd', "10 in 4 to 9", x -> x.packet(10, 0, 0));
        FilterRules book = onlyRule('a', 1);
        Due.answers("a 1", "4 in 4 to 9", () -> book.packet(4, 31, 0) + " " + book.hits(0));
        Due.answers("a 2", "9 in 4 to 9", () -> book.packet(9, 0, 31) + " " + book.hits(0));
        Due.answers("d 2", "10 in 4 to 9", () -> book.packet(10, 0, 31) + " " + book.hits(0));
        FilterRules denies = onlyRule('d', 0);
        Due.answers("d 1", "denied by a rule", () -> denies.packet(0, 0, 0) + " "
            + denies.hits(0));
    }

    private static void deciderAnswers() {
        Sentence.test("Promise 18", "Returns the number of the rule, or -1 if there is none.");
        Snapshot.asks(FilterRules::new, -1, "no rules", x -> x.decider(0, 0, 0));
        Snapshot.asks(PacketsEdgesTest::pastRule, -1, "none in force", x -> x.decider(0, 0, 0));
        Snapshot.asks(() -> onlyRule('a', 2), -1, "none matches", x -> x.decider(0, 0, 0));
        Snapshot.asks(() -> onlyRule('d', 1), -1, "3 in 4 to 9", x -> x.decider(3, 0, 0));
        Snapshot.asks(() -> onlyRule('d', 1), 0, "4 in 4 to 9", x -> x.decider(4, 0, 0));
        Snapshot.asks(() -> onlyRule('d', 1), 0, "9 in 4 to 9", x -> x.decider(9, 0, 0));
        Snapshot.asks(() -> onlyRule('d', 1), -1, "10 in 4 to 9", x -> x.decider(10, 0, 0));
        Snapshot.asks(Edges::allRules, 0, "the first of 8", x -> x.decider(0, 31, 31));
        Snapshot.asks(Edges::allRules, 7, "the last of 8", x -> x.decider(7, 0, 0));
        Snapshot.asks(Edges::allRules, -1, "behind the last of 8", x -> x.decider(8, 0, 0));
        Snapshot.asks(Edges::gap, 2, "a number that is no position", x -> x.decider(3, 3, 3));
        Snapshot.asks(Edges::allRulesRemoved, -1, "all removed", x -> x.decider(0, 0, 0));
    }

    private static void hits() {
        Sentence.test("Promise 19", "- `rule`: the number of the rule");
        FilterRules book = Edges.allRules();
        book.packet(0, 0, 0);
        book.packet(7, 0, 0);
        book.packet(7, 31, 31);
        Due.answers("1 0 0 2", "hits", () -> book.hits(0) + " " + book.hits(1) + " "
            + book.hits(6) + " " + book.hits(7));
        Sentence.test("Promise 19", "Returns the number of hits.");
        Snapshot.asks(Edges::allRules, 0, "hits without packets", x -> x.hits(7));
        FilterRules many = onlyRule('a', -1);
        for (int i = 0; i < 300; i++) {
            many.packet(i % 32, 31 - i % 32, 0);
        }
        Due.answers(300, "300 packets", () -> many.hits(0));
        many.setLastDay(0, 0);
        many.pass(1);
        many.packet(0, 0, 0);
        Due.answers(300, "one more when it is not in force", () -> many.hits(0));
        Due.outcome(() -> many.packet(32, 0, 0));
        Due.answers(300, "one more that is refused", () -> many.hits(0));
        many.setLastDay(0, -1);
        many.packet(0, 0, 0);
        Due.answers(301, "one more when it is in force again", () -> many.hits(0));
        Sentence.test("Promise 19", "Throws `NoSuchElementException` if there is no such rule");
        Edges.refusesNoRule((x, rule) -> x.hits(rule));
    }

    private static void busyDays() {
        Sentence.test("Promise 20", "- `rule`: the number of the rule");
        FilterRules two = Edges.allRules();
        two.packet(0, 0, 0);
        two.packet(7, 0, 0);
        two.pass(1);
        two.packet(7, 0, 0);
        Due.answers("1 0 2", "busyDays", () -> two.busyDays(0) + " " + two.busyDays(1) + " "
            + two.busyDays(7));
        Sentence.test("Promise 20", "Returns the number of days.");
        Snapshot.asks(Edges::allRules, 0, "never hit", x -> x.busyDays(7));
        FilterRules book = onlyRule('a', -1);
        book.packet(0, 0, 0);
        Due.answers(1, "hit on day 0", () -> book.busyDays(0));
        book.packet(0, 0, 0);
        Due.answers(1, "hit on day 0 again", () -> book.busyDays(0));
        book.pass(1);
        Due.answers(1, "day 1", () -> book.busyDays(0));
        book.packet(0, 0, 0);
        Due.answers(2, "hit on day 1", () -> book.busyDays(0));
        Edges.pass(book, 998);
        book.packet(0, 0, 0);
        book.packet(0, 0, 0);
        Due.answers(3, "hit on day 999", () -> book.busyDays(0));
        FilterRules each = onlyRule('a', -1);
        for (int i = 0; i < 200; i++) {
            each.packet(0, 0, 0);
            each.pass(1);
        }
        Due.answers(200, "hit on each of 200 days", () -> each.busyDays(0));
        Sentence.test("Promise 20", "Throws `NoSuchElementException` if there is no such rule");
        Edges.refusesNoRule((x, rule) -> x.busyDays(rule));
    }

    private static void idleDays() {
        Sentence.test("Promise 21", "- `rule`: the number of the rule");
        FilterRules two = Edges.allRules();
        two.pass(3);
        two.packet(7, 0, 0);
        two.pass(1);
        two.packet(0, 0, 0);
        Due.answers("0 4 1", "idleDays", () -> two.idleDays(0) + " " + two.idleDays(1) + " "
            + two.idleDays(7));
        Sentence.test("Promise 21", "Returns the number of days.");
        FilterRules book = onlyRule('a', -1);
        Due.answers(0, "never hit, added today", () -> book.idleDays(0));
        book.pass(1);
        Due.answers(1, "never hit, added yesterday", () -> book.idleDays(0));
        book.packet(0, 0, 0);
        Due.answers(0, "hit today", () -> book.idleDays(0));
        book.packet(0, 0, 0);
        Due.answers(0, "hit twice today", () -> book.idleDays(0));
        book.pass(1);
        Due.answers(1, "hit yesterday", () -> book.idleDays(0));
        Due.answers(0, "another one asked", () -> book.decider(0, 0, 0));
        Due.answers(1, "a packet that only was asked for", () -> book.idleDays(0));
        Due.answers(true, "a packet refused", () -> Due.outcome(
            () -> book.packet(0, 0, -1)).startsWith("throws"));
        Due.answers(1, "hit yesterday still", () -> book.idleDays(0));
        Sentence.test("Promise 21", "Throws `NoSuchElementException` if there is no such rule");
        Edges.refusesNoRule((x, rule) -> x.idleDays(rule));
    }

    private static void idleDaysAtTheEnds() {
        Sentence.test("Promise 21", "Returns for how many days a rule is idle.");
        FilterRules never = onlyRule('a', -1);
        Edges.pass(never, 999);
        Due.answers(999, "never hit from day 0 to 999", () -> never.idleDays(0));
        FilterRules first = onlyRule('a', -1);
        first.packet(0, 0, 0);
        Edges.pass(first, 999);
        Due.answers(999, "hit on day 0 alone", () -> first.idleDays(0));
        first.packet(0, 0, 0);
        Due.answers(0, "hit on day 999", () -> first.idleDays(0));
        first.addRule(0, 'd', -1, -1, -1, 0);
        Due.answers(0, "added on day 999", () -> first.idleDays(1));
        FilterRules again = onlyRule('a', -1);
        again.packet(0, 0, 0);
        again.removeRule(0);
        again.pass(50);
        again.addRule(0, 'a', -1, -1, -1, 0);
        again.pass(2);
        Due.answers("2 0 0", "a new rule in place of one that was hit", () -> again.idleDays(1)
            + " " + again.hits(1) + " " + again.busyDays(1));
        again.setLastDay(1, 52);
        again.pass(3);
        Due.answers(5, "not in force", () -> again.idleDays(1));
    }

    private static FilterRules onDay(int day) {
        FilterRules book = onlyRule('a', 1);
        Edges.pass(book, day);
        return book;
    }

    private static void passTakes() {
        Sentence.test("Promise 22", "- `days`: the number of days, 1 to 99");
        Due.answers(1, "1 day", () -> new FilterRules().pass(1));
        Due.answers(99, "99 days", () -> new FilterRules().pass(99));
        Due.answers(98, "98 days", () -> new FilterRules().pass(98));
        Sentence.test("Promise 22", "Returns the day after the call.");
        Due.answers(101, "2 days from day 99", () -> onDay(99).pass(2));
        Due.answers(999, "1 day from day 998", () -> onDay(998).pass(1));
        Due.answers(999, "99 days from day 900", () -> onDay(900).pass(99));
        Due.answers(998, "99 days from day 899", () -> onDay(899).pass(99));
        Due.answers(999, "98 days from day 901", () -> onDay(901).pass(98));
        FilterRules book = new FilterRules();
        for (int i = 1; i <= 500; i++) {
            int day = i;
            Due.answers(day, "1 day more", () -> book.pass(1));
        }
    }

    private static void passRefuses() {
        Sentence.test("Promise 22", "Throws `IllegalArgumentException` if the number is out of "
            + "range, or the day would be greater than 999");
        Snapshot.refusesEach(Edges.outside(1, 99), FilterRules::new, Edges.ARGUMENT, "on day 0",
            (x, days) -> x.pass(days));
        Snapshot.refusesEach(Edges.outside(1, 99), () -> onDay(500), Edges.ARGUMENT, "on day 500",
            (x, days) -> x.pass(days));
        Snapshot.refusesEach(Edges.outside(1, 98), () -> onDay(901), Edges.ARGUMENT, "on day 901",
            (x, days) -> x.pass(days));
        Snapshot.refusesEach(Edges.outside(1, 1), () -> onDay(998), Edges.ARGUMENT, "on day 998",
            (x, days) -> x.pass(days));
        int[] any = {1, 2, 50, 99, 100, 0, -1, -999, Integer.MAX_VALUE, Integer.MIN_VALUE};
        Snapshot.refusesEach(any, () -> onDay(999), Edges.ARGUMENT, "on day 999",
            (x, days) -> x.pass(days));
        FilterRules late = onDay(950);
        Due.answers("throws." + Edges.ARGUMENT, "50 days on day 950", () -> late.pass(50));
        Due.answers(999, "49 days on day 950 then", () -> late.pass(49));
    }

    private static void day() {
        Sentence.test("Promise 23", "Returns the day.");
        Snapshot.asks(FilterRules::new, 0, "day", x -> x.day());
        Snapshot.asks(() -> onDay(1), 1, "day", x -> x.day());
        Snapshot.asks(() -> onDay(999), 999, "day", x -> x.day());
        FilterRules book = onDay(998);
        Due.outcome(() -> book.pass(2));
        Due.answers(998, "day after a refused pass", () -> book.day());
        Due.outcome(() -> book.pass(1));
        Due.answers(999, "day after a pass", () -> book.day());
    }
}
