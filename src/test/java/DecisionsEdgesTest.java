import java.io.IOException;

/** The edges of the promises 24 to 29, sentence by sentence. */
public final class DecisionsEdgesTest {
    private static final String RULE = "- `rule`: the number of the rule";
    private static final String NO_RULE =
        "Throws `NoSuchElementException` if there is no such rule";
    /** The eighth rule decides the packets without a 0 or 31; the seventh one nothing. */
    private static final String SEVEN_AHEAD = "a1.. a2.. a.1. a.2. a..1 a..2 d111 d...";

    private DecisionsEdgesTest() {
    }

    public static void main(String[] args) throws IOException {
        matched();
        decided("Promise 25", (x, rule) -> x.decided(rule));
        decided("Promise 26", (x, rule) -> x.decidedBySamples(rule));
        decidedNotInForce("Promise 25", (x, rule) -> x.decided(rule));
        decidedNotInForce("Promise 26", (x, rule) -> x.decidedBySamples(rule));
        decidedWithFewerRules("Promise 25",
            "found by taking off what the rules ahead of it match, piece by piece",
            (x, rule) -> x.decided(rule));
        decidedWithFewerRules("Promise 26",
            "one packet of each group of packets that are matched by the same rules in each field",
            (x, rule) -> x.decidedBySamples(rule));
        isShadowed();
        mainShadowAnswers();
        mainShadowOfSeveral();
        mainShadowRefuses();
        accepted();
        Sentence.allTested(24, 29);
        Due.end();
    }

    private static void matches(int due, String rule) {
        Snapshot.asks(() -> Edges.told(rule), due, rule, x -> x.matched(0));
    }

    private static void matched() {
        Sentence.test("Promise 24", RULE);
        Snapshot.asks(Edges::allRules, 1024, "the first rule", x -> x.matched(0));
        Snapshot.asks(Edges::allRules, 1024, "the last rule", x -> x.matched(7));
        Sentence.test("Promise 24", "Returns the number of packets.");
        matches(32768, "a...");
        matches(32768, "d000");
        matches(31 * 1024, "a3..");
        matches(31 * 31 * 31, "a333");
        matches(1024, "d.2.");
        matches(32, "d2.2");
        matches(1, "a222");
        matches(1, "d121");
        matches(0, "a4..");
        matches(0, "a.4.");
        matches(0, "a..4");
        matches(0, "d444");
        Snapshot.asks(() -> Edges.told("a... d..."), 32768, "shadowed", x -> x.matched(1));
        Snapshot.asks(() -> Edges.toldButPast("a...", 0), 32768, "not in force",
            x -> x.matched(0));
        Sentence.test("Promise 24", NO_RULE);
        Edges.refusesNoRule((x, rule) -> x.matched(rule));
    }

    private static void decides(int due, int rule, String rules, Snapshot.CallWith call) {
        Snapshot.asks(() -> Edges.told(rules), due, rule + " of " + rules,
            x -> call.on(x, rule));
    }

    private static void decided(String promise, Snapshot.CallWith call) {
        Sentence.test(promise, RULE);
        Snapshot.asks(Edges::allRules, 1024, "the first rule", x -> call.on(x, 0));
        Snapshot.asks(Edges::allRules, 1024, "the last rule", x -> call.on(x, 7));
        Sentence.test(promise, "Returns the number of packets, 0 if it is not in force.");
        decides(32768, 0, "a...", call);
        decides(32768, 0, "d000 a000", call);
        decides(0, 1, "d000 a000", call);
        decides(0, 0, "a4.. a...", call);
        decides(32768, 1, "a4.. a...", call);
        decides(1, 0, "a111 d...", call);
        decides(32767, 1, "a111 d...", call);
        decides(1, 3, "a3.. d.3. a..3 d...", call);
        decides(1, 3, "a3.. d.3. a..3 d222", call);
        decides(0, 3, "a3.. d.3. a..3 d111", call);
        decides(0, 2, "a6.. a7.. d...", call);
        decides(0, 2, "a.6. d.7. d222", call);
        decides(512, 1, "a6.. d..1", call);
        decides(512, 1, "a.7. d..1", call);
        decides(32768 - 16 * 31, 1, "a651 d...", call);
        decides(32768 - 31 * 16, 1, "a165 d...", call);
        decides(32768 - 16 * 31, 1, "a516 d...", call);
        decides(30 * 30 * 30, 7, SEVEN_AHEAD, call);
        decides(0, 6, SEVEN_AHEAD, call);
        decides(30 * 32, 2, SEVEN_AHEAD, call);
        decides(30 * 30, 5, SEVEN_AHEAD, call);
        Sentence.test(promise, NO_RULE);
        Edges.refusesNoRule(call);
    }

    private static void decidedNotInForce(String promise, Snapshot.CallWith call) {
        Sentence.test(promise, "0 if it is not in force");
        FilterRules book = Edges.told("a6.. d... a...");
        book.setLastDay(0, 1);
        book.pass(1);
        Due.answers("16384 16384 0", "on the last day of 0",
            () -> call.on(book, 0) + " " + call.on(book, 1) + " " + call.on(book, 2));
        book.pass(1);
        Due.answers("0 32768 0", "after the last day of 0",
            () -> call.on(book, 0) + " " + call.on(book, 1) + " " + call.on(book, 2));
        book.setLastDay(1, 2);
        book.pass(1);
        Due.answers("0 0 32768", "after the last day of 1 too",
            () -> call.on(book, 0) + " " + call.on(book, 1) + " " + call.on(book, 2));
        book.setLastDay(2, 3);
        book.pass(1);
        Due.answers("0 0 0", "none in force",
            () -> call.on(book, 0) + " " + call.on(book, 1) + " " + call.on(book, 2));
        book.setLastDay(0, 4);
        Due.answers("16384 0 0", "0 in force again",
            () -> call.on(book, 0) + " " + call.on(book, 1) + " " + call.on(book, 2));
    }

    /** Asks again while rules go, and with them the groups of values. */
    private static void decidedWithFewerRules(String promise, String how, Snapshot.CallWith call) {
        Sentence.test(promise, how);
        FilterRules book = Edges.objects(8);
        int[] halves = {16, 8, 4, 2, 1};
        for (int i = 0; i < halves.length; i++) {
            for (int low = 0; low < 3 && 2 * low * halves[i] < 32; low++) {
                book.addRange(i, 2 * low * halves[i], (2 * low + 1) * halves[i] - 1);
            }
            book.addRule(i, 'a', i, i, i, 0);
        }
        book.addRule(5, 'd', -1, -1, -1, 0);
        int rest = 32768 - 16 * 16 * 16;
        Due.answers(16 * 16 * 16, "the first of 6", () -> call.on(book, 0));
        for (int i = 4; i > 0; i--) {
            book.removeRule(i);
        }
        Due.answers(rest, "the last of 2", () -> call.on(book, 5));
        book.removeRule(0);
        Due.answers(32768, "the only one", () -> call.on(book, 5));
    }

    private static void shadowed(boolean due, int rule, String rules) {
        Snapshot.asks(() -> Edges.told(rules), due, rule + " of " + rules,
            x -> x.isShadowed(rule));
    }

    private static void isShadowed() {
        Sentence.test("Promise 27", RULE);
        Snapshot.asks(Edges::allRules, false, "the first rule", x -> x.isShadowed(0));
        Snapshot.asks(Edges::allRules, false, "the last rule", x -> x.isShadowed(7));
        Sentence.test("Promise 27", "Returns whether it is.");
        shadowed(false, 0, "a...");
        shadowed(true, 1, "a... a...");
        shadowed(true, 0, "a..4");
        shadowed(false, 0, "a111 d...");
        shadowed(false, 3, "a3.. d.3. a..3 d222");
        shadowed(true, 3, "a3.. d.3. a..3 d111");
        shadowed(true, 2, "a6.. d7.. d222");
        shadowed(true, 6, SEVEN_AHEAD);
        shadowed(false, 7, SEVEN_AHEAD);
        Snapshot.asks(() -> Edges.toldButPast("a... d...", 0), false, "behind one not in force",
            x -> x.isShadowed(1));
        Snapshot.asks(() -> Edges.toldButPast("a... d...", 1), false, "not in force itself",
            x -> x.isShadowed(1));
        Snapshot.asks(() -> Edges.toldButPast("a4..", 0), false, "nothing, not in force",
            x -> x.isShadowed(0));
        FilterRules last = Edges.told("a... d...");
        last.setLastDay(0, 0);
        last.setLastDay(1, 0);
        Due.answers(true, "both on their last day", () -> last.isShadowed(1));
        Sentence.test("Promise 27", NO_RULE);
        Edges.refusesNoRule((x, rule) -> x.isShadowed(rule));
    }

    private static void shadows(Object due, int rule, String rules) {
        Snapshot.asks(() -> Edges.told(rules), due, rule + " of " + rules,
            x -> x.mainShadow(rule));
    }

    private static void mainShadowAnswers() {
        Sentence.test("Promise 28", "- `rule`: the number of the other rule");
        shadows(0, 1, "a... a...");
        shadows(6, 7, "a1.. a2.. a.1. a.2. a..1 a..2 d33. d...");
        Sentence.test("Promise 28", "Returns the rule, of those ahead of another one that are in "
            + "force, that matches most of the packets that the other one matches.");
        shadows(0, 1, "a111 d...");
        shadows(1, 2, "a111 a11. d...");
        shadows(0, 2, "a6.. a111 d..1");
        shadows(1, 2, "a3.. a2.2 d2..");
        shadows(1, 2, "a.6. a7.. d77.");
        shadows(1, 2, "a6.. a3.. d...");
        shadows(0, 1, "a111 d... a...");
        Snapshot.asks(() -> Edges.toldButPast("a... a6.. d...", 0), 1, "0 is not in force",
            x -> x.mainShadow(2));
        Snapshot.asks(() -> Edges.toldButPast("a6.. a... d...", 1), 0, "1 is not in force",
            x -> x.mainShadow(2));
        Snapshot.asks(() -> Edges.toldButPast("a6.. a... d...", 2), 1, "2 is not in force",
            x -> x.mainShadow(2));
    }

    private static void mainShadowOfSeveral() {
        Sentence.test("Promise 28",
            "Returns the number of the rule; of several, the one that is first in the order.");
        shadows(0, 2, "a6.. a7.. d...");
        shadows(0, 7, "a... d... a... d... a... d... a... d...");
        shadows(1, 3, "a.1. a2.. a..2 d2.2");
        FilterRules book = Edges.told("a7.. d...");
        book.addRule(0, 'a', 6, -1, -1, 0);
        Due.answers(2, "rule 2 stands ahead of rule 0", () -> book.mainShadow(1));
        book.move(2, 1);
        Due.answers(0, "rule 0 stands ahead of rule 2", () -> book.mainShadow(1));
        book.setLastDay(0, 0);
        book.pass(1);
        Due.answers(2, "rule 0 is not in force", () -> book.mainShadow(1));
    }

    private static void shadowsNot(int rule, String rules) {
        shadows("throws." + Edges.NO_ELEMENT, rule, rules);
    }

    private static void mainShadowRefuses() {
        Sentence.test("Promise 28", "Throws `NoSuchElementException` if there is no such other "
            + "rule, or no rule ahead of it that is in force matches one of these packets");
        Edges.refusesNoRule((x, rule) -> x.mainShadow(rule));
        shadowsNot(0, "a...");
        shadowsNot(0, "a... d...");
        shadowsNot(1, "a6.. d7..");
        shadowsNot(1, "a4.. d...");
        shadowsNot(1, "a... d4..");
        shadowsNot(3, "a1.. a.1. a..1 d222");
        shadowsNot(7, "a1.. d1.. a1.. d1.. a1.. d1.. a1.. d5..");
        shadows(0, 1, "a66. d.66");
        shadows(2, 3, "a1.. a.1. a..2 d222");
        Snapshot.refuses(() -> Edges.toldButPast("a... d...", 0), Edges.NO_ELEMENT,
            "the only one ahead is not in force", x -> x.mainShadow(1));
        FilterRules last = Edges.told("a... d...");
        last.setLastDay(0, 0);
        Due.answers(0, "the only one ahead is on its last day", () -> last.mainShadow(1));
    }

    private static void accepts(int due, String rules) {
        Snapshot.asks(() -> Edges.told(rules), due, rules, x -> x.accepted());
    }

    private static void accepted() {
        Sentence.test("Promise 29", "Returns the number of packets.");
        Snapshot.asks(FilterRules::new, 0, "no rules", x -> x.accepted());
        Snapshot.asks(Edges::allRulesRemoved, 0, "all removed", x -> x.accepted());
        accepts(32768, "a...");
        accepts(0, "d...");
        accepts(0, "a4..");
        accepts(1, "a111");
        accepts(1, "a111 d...");
        accepts(32767, "d111 a...");
        accepts(0, "d... a...");
        accepts(32768, "a... d...");
        accepts(16384, "a6.. d...");
        accepts(32768, "a6.. a.7. a...");
        accepts(16384 + 8192, "a6.. a.7.");
        accepts(32768 - 30 * 30 * 30, SEVEN_AHEAD);
        Snapshot.asks(() -> Edges.toldButPast("a...", 0), 0, "not in force", x -> x.accepted());
        Snapshot.asks(() -> Edges.toldButPast("d... a...", 0), 32768, "0 not in force",
            x -> x.accepted());
        FilterRules last = Edges.told("d... a...");
        last.setLastDay(0, 0);
        Due.answers(0, "0 on its last day", () -> last.accepted());
    }
}
