import java.io.IOException;

/** The edges of the promises 30 to 35, sentence by sentence. */
public final class OrderEdgesTest {
    private static final String RULE = "- `rule`: the number of the rule";
    private static final String NO_RULE =
        "Throws `NoSuchElementException` if there is no such rule";
    private static final String NO_POSITION =
        "Throws `IndexOutOfBoundsException` if there is no such position";
    private static final String IN_TURN = "a... d... a... d... a... d... a... d...";

    private OrderEdgesTest() {
    }

    public static void main(String[] args) throws IOException {
        changedByMovePlaces();
        changedByMoveAnswers();
        changedByMovePastRules();
        refusedPlaces("Promise 30", (x, rule, position) -> x.changedByMove(rule, position));
        movePlaces();
        refusedPlaces("Promise 31", (x, rule, position) -> x.move(rule, position));
        moveChangesNothing();
        sortByHitsCounts();
        sortByHitsKeepsDecisions();
        changedByRangeTakes();
        changedByRangeAnswers();
        changedByRangeFull();
        changedByRangeRefuses();
        shadowedShareAnswers();
        shadowedShareRefuses();
        meanHitsAnswers();
        meanHitsRefuses();
        Sentence.allTested(30, 35);
        Due.end();
    }

    private interface MoveCall {
        Object on(FilterRules book, int rule, int position);
    }

    /** Asks for the changes, and moves, which is refused if there are changes. */
    private static void changes(int due, int rule, int position, String rules) {
        changes(due, rule, position, rules, () -> Edges.told(rules));
    }

    private static void changes(int due, int rule, int position, String what,
            Snapshot.Maker maker) {
        String move = rule + " to " + position + " in " + what;
        Snapshot.asks(maker, due, move, x -> x.changedByMove(rule, position));
        if (due > 0) {
            Snapshot.refuses(maker, Edges.UNSUPPORTED, move, x -> x.move(rule, position));
        } else {
            FilterRules book = maker.make();
            int accepted = book.accepted();
            Due.answers(rule, move, () -> book.move(rule, position));
            Due.answers(rule, "the position then", () -> book.ruleAt(position));
            Due.answers(accepted, "accepted then", () -> book.accepted());
        }
    }

    private static void changedByMovePlaces() {
        Sentence.test("Promise 30", RULE);
        changes(32768, 0, 1, IN_TURN);
        changes(32768, 7, 0, IN_TURN);
        Sentence.test("Promise 30", "- `position`: the position that it would have then");
        changes(0, 0, 0, "a...");
        changes(0, 0, 0, IN_TURN);
        changes(0, 7, 7, IN_TURN);
        changes(32768, 0, 7, IN_TURN);
        changes(0, 7, 1, IN_TURN);
        changes(0, 1, 7, IN_TURN);
        changes(32768, 1, 0, IN_TURN);
        changes(0, 2, 0, IN_TURN);
    }

    private static void changedByMoveAnswers() {
        Sentence.test("Promise 30", "Returns the number of packets.");
        changes(32768, 0, 1, "a... d...");
        changes(32768, 1, 0, "a... d...");
        changes(0, 0, 1, "a... a...");
        changes(0, 0, 1, "a6.. d7..");
        changes(0, 0, 1, "a4.. d...");
        changes(0, 1, 0, "a... d.4.");
        changes(0, 0, 1, "a111 a...");
        changes(1, 0, 1, "a111 d...");
        changes(1, 1, 0, "a111 d...");
        changes(1, 1, 0, "a3.. d111");
        changes(31, 1, 0, "a3.. d.22");
        changes(16384, 0, 1, "a... d6.. d7..");
        changes(32768, 0, 2, "a... d6.. d7..");
        changes(16384, 2, 0, "a... d6.. d7..");
        changes(0, 2, 1, "a... d6.. d7..");
        changes(0, 1, 2, "d... a6.. d...");
        changes(0, 1, 2, "d11. a1.. d.1.");
        changes(32, 1, 0, "d11. a1.. d.1.");
        changes(1, 0, 2, "a111 d111 a111");
        changes(1, 1, 0, "a111 d111 a111");
        changes(0, 1, 2, "a111 d111 a111");
        changes(0, 2, 0, "a111 d111 a111");
    }

    private static void changedByMovePastRules() {
        Sentence.test("Promise 30", "Returns how many packets would get another decision if a rule "
            + "were moved to a position.");
        changes(0, 0, 1, "0 not in force", () -> Edges.toldButPast("a... d...", 0));
        changes(0, 1, 0, "0 not in force", () -> Edges.toldButPast("a... d...", 0));
        changes(0, 1, 0, "1 not in force", () -> Edges.toldButPast("a... d...", 1));
        changes(0, 0, 2, "1 not in force", () -> Edges.toldButPast("a... d... a...", 1));
        changes(32768, 0, 2, "1 not in force", () -> Edges.toldButPast("a... a... d...", 1));
        FilterRules last = Edges.told("a... d...");
        last.setLastDay(0, 0);
        last.setLastDay(1, 0);
        Due.answers(32768, "both on their last day", () -> last.changedByMove(0, 1));
    }

    /** What both promises say of rules and positions that are not there. */
    private static void refusedPlaces(String promise, MoveCall call) {
        Sentence.test(promise, NO_RULE);
        Edges.refusesNoRule((x, rule) -> call.on(x, rule, 0));
        Edges.refusesNoRule((x, rule) -> call.on(x, rule, -1));
        Sentence.test(promise, NO_POSITION);
        Snapshot.refusesEach(Edges.outside(0, 0), () -> Edges.told("a..."), Edges.INDEX, "of 1",
            (x, position) -> call.on(x, 0, position));
        Snapshot.refusesEach(Edges.outside(0, 1), Edges::gap, Edges.INDEX, "of 2",
            (x, position) -> call.on(x, 2, position));
        Snapshot.refusesEach(Edges.outside(0, 7), Edges::allRules, Edges.INDEX, "of 8, rule 0",
            (x, position) -> call.on(x, 0, position));
        Snapshot.refusesEach(Edges.outside(0, 7), Edges::allRules, Edges.INDEX, "of 8, rule 7",
            (x, position) -> call.on(x, 7, position));
    }

    private static String orderMoved(int rule, int position) {
        FilterRules book = Edges.allRules();
        return book.move(rule, position) + ": " + Edges.orderOf(book);
    }

    private static void movePlaces() {
        Sentence.test("Promise 31", RULE);
        Due.answers("0: 1 0 2 3 4 5 6 7", "move(0, 1)", () -> orderMoved(0, 1));
        Due.answers("7: 0 1 2 3 4 5 7 6", "move(7, 6)", () -> orderMoved(7, 6));
        Sentence.test("Promise 31", "- `position`: the position that it has then");
        Due.answers("0: 1 2 3 4 5 6 7 0", "move(0, 7)", () -> orderMoved(0, 7));
        Due.answers("7: 7 0 1 2 3 4 5 6", "move(7, 0)", () -> orderMoved(7, 0));
        Due.answers("3: 3 0 1 2 4 5 6 7", "move(3, 0)", () -> orderMoved(3, 0));
        Due.answers("3: 0 1 2 4 5 6 7 3", "move(3, 7)", () -> orderMoved(3, 7));
        Due.answers("0: 0 1 2 3 4 5 6 7", "move(0, 0)", () -> orderMoved(0, 0));
        Due.answers("7: 0 1 2 3 4 5 6 7", "move(7, 7)", () -> orderMoved(7, 7));
        Sentence.test("Promise 31", "Returns the position before.");
        FilterRules book = Edges.gap();
        book.removeRule(0);
        Due.answers(0, "the only rule", () -> book.move(2, 0));
        FilterRules turned = Edges.allRules();
        Due.answers("0 6 7 7", "moved again and again", () -> turned.move(0, 7) + " "
            + turned.move(7, 0) + " " + turned.move(0, 7) + " " + turned.move(0, 1));
        Due.answers("7 0 1 2 3 4 5 6", "the order", () -> Edges.orderOf(turned));
    }

    private static void moveChangesNothing() {
        Sentence.test("Promise 31",
            "Throws `UnsupportedOperationException` if a packet would get another decision");
        changes(1, 0, 1, "a222 d...");
        changes(1, 1, 0, "a222 d2..");
        changes(1, 0, 7, "a222 a111 d222 d222 d222 d222 d222 d222");
        changes(0, 0, 7, "a222 a... d222 d222 d222 d222 d222 d222");
        changes(0, 0, 1, "a222 d111");
        changes(32768, 1, 0, "d... a... d...");
        changes(0, 1, 2, "d... a... d...");
        Snapshot.refuses(Edges::fullBook, Edges.UNSUPPORTED, "0 to 1 in a full book",
            x -> x.move(0, 1));
        FilterRules book = Edges.told("a... d...");
        book.setLastDay(0, 0);
        Due.answers("throws." + Edges.UNSUPPORTED, "on the last day", () -> book.move(0, 1));
        book.pass(1);
        Due.answers(0, "after the last day", () -> book.move(0, 1));
    }

    /** The rules of Edges.rules, of which rule 0 has as many hits as the first digit says. */
    private static String sorted(String hits) {
        FilterRules book = Edges.rules(hits.length());
        for (int i = 0; i < hits.length(); i++) {
            for (int j = 0; j < hits.charAt(i) - '0'; j++) {
                book.packet(i, 0, 0);
            }
        }
        return book.sortByHits() + ": " + Edges.orderOf(book);
    }

    private static void sortByHitsCounts() {
        Sentence.test("Promise 32", "Returns the number of swaps.");
        Snapshot.asks(FilterRules::new, 0, "no rules", x -> x.sortByHits());
        Snapshot.asks(Edges::allRulesRemoved, 0, "all removed", x -> x.sortByHits());
        Due.answers("0: 0", "one rule", () -> sorted("3"));
        Due.answers("0: 0 1 2 3 4 5 6 7", "no hits", () -> sorted("00000000"));
        Due.answers("0: 0 1 2 3 4 5 6 7", "as many hits each", () -> sorted("22222222"));
        Due.answers("0: 0 1 2 3 4 5 6 7", "in order", () -> sorted("76543210"));
        Due.answers("0: 0 1", "less hits", () -> sorted("10"));
        Due.answers("1: 1 0", "more hits", () -> sorted("01"));
        Due.answers("1: 0 1 2 3 4 5 7 6", "the last two", () -> sorted("22222212"));
        Due.answers("1: 1 0 2 3 4 5 6 7", "the first two", () -> sorted("12000000"));
        Sentence.test("Promise 32",
            "this is done for all positions again and again until nothing was swapped");
        Due.answers("28: 7 6 5 4 3 2 1 0", "all turned", () -> sorted("01234567"));
        Due.answers("7: 7 0 1 2 3 4 5 6", "the last to the front", () -> sorted("00000001"));
        Due.answers("7: 1 2 3 4 5 6 7 0", "the first to the end", () -> sorted("01111111"));
        Due.answers("13: 7 6 0 1 2 3 4 5", "the last two", () -> sorted("00000012"));
        Due.answers("16: 4 5 6 7 0 1 2 3", "equal ones keep their order",
            () -> sorted("00001111"));
    }

    private static String sortedAfter(FilterRules book, int... firstAndSecondValues) {
        for (int i = 0; i + 1 < firstAndSecondValues.length; i += 2) {
            book.packet(firstAndSecondValues[i], firstAndSecondValues[i + 1], 5);
        }
        return book.sortByHits() + ": " + Edges.orderOf(book);
    }

    private static void sortByHitsKeepsDecisions() {
        Sentence.test("Promise 32", "no packet gets another decision by this");
        Due.answers("0: 0 1", "one packet would change",
            () -> sortedAfter(Edges.told("a111 d..."), 9, 9));
        Due.answers("1: 1 0", "both accept", () -> sortedAfter(Edges.told("a111 a..."), 9, 9));
        Due.answers("1: 1 0", "one has no packets",
            () -> sortedAfter(Edges.told("a4.. d..."), 9, 9));
        Due.answers("1: 1 0", "one is not in force",
            () -> sortedAfter(Edges.toldButPast("a... d...", 0), 9, 9));
        Due.answers("1: 0 2 1", "those in common are decided ahead",
            () -> sortedAfter(Edges.told("d11. a1.. d.1."), 0, 0, 9, 0));
        Due.answers("0: 0 1", "those in common are not decided ahead",
            () -> sortedAfter(Edges.told("a1.. d.1."), 9, 0));
        Due.answers("2: 2 0 1", "the second one stays behind the first",
            () -> sortedAfter(Edges.told("a1.. d.1. a77."), 31, 31, 31, 31));
        Due.answers("1: 1 0 2", "the last one stays at the end",
            () -> sortedAfter(Edges.told("a1.. a2.. d..."), 31, 0, 9, 9, 9, 9));
    }

    private static void widens(int due, int object, int low, int high, String rules) {
        Snapshot.asks(() -> Edges.told(rules), due,
            object + " by " + low + " to " + high + " in " + rules,
            x -> x.changedByRange(object, low, high));
    }

    private static void changedByRangeTakes() {
        Sentence.test("Promise 33", "- `object`: the number of the object");
        Snapshot.asks(Edges::allRules, 1024, "the first object", x -> x.changedByRange(0, 9, 9));
        Snapshot.asks(Edges::allRules, 0, "the last object", x -> x.changedByRange(7, 9, 9));
        Snapshot.asks(Edges::allRules, 1024, "the last but one", x -> x.changedByRange(6, 9, 9));
        Snapshot.asks(Edges::oneObject, 0, "the only object", x -> x.changedByRange(0, 0, 31));
        Sentence.test("Promise 33", "- `low`: the first value, 0 to 31");
        widens(1024, 4, 0, 0, "a4..");
        widens(1024, 4, 31, 31, "a4..");
        Snapshot.refusesEach(Edges.outside(0, 31), Edges::allRules, Edges.ARGUMENT, "low",
            (x, low) -> x.changedByRange(0, low, 31));
        Sentence.test("Promise 33", "- `high`: the last value, from the first one to 31");
        widens(32768, 4, 0, 31, "a4..");
        widens(2048, 4, 30, 31, "a.4.");
        widens(1024, 4, 7, 7, "a..4");
        Snapshot.refusesEach(Edges.outside(7, 31), Edges::allRules, Edges.ARGUMENT, "high",
            (x, high) -> x.changedByRange(0, 7, high));
        Snapshot.refusesEach(Edges.outside(31, 31), Edges::allRules, Edges.ARGUMENT, "high",
            (x, high) -> x.changedByRange(0, 31, high));
    }

    private static void changedByRangeAnswers() {
        Sentence.test("Promise 33", "Returns how many packets would get another decision if a "
            + "range were added to an object.");
        widens(0, 1, 0, 0, "a1..");
        widens(1024, 1, 0, 1, "a1..");
        widens(31 * 1024, 1, 1, 31, "a1..");
        widens(1, 4, 0, 0, "a444");
        widens(32768, 4, 0, 31, "a444");
        widens(7, 1, 31, 31, "a111");
        widens(0, 2, 0, 31, "a111");
        widens(0, 4, 0, 31, "d4..");
        widens(32768, 4, 0, 31, "d4.. a...");
        widens(0, 4, 0, 31, "a... d4..");
        widens(1, 4, 0, 31, "a5.. a.5. a..5 a4..");
        widens(0, 4, 0, 31, "a5.. a.5. a..5 d... a4..");
        widens(16384, 6, 16, 31, "a6.. d7..");
        widens(16384, 7, 0, 15, "d7.. a6..");
        widens(0, 7, 0, 15, "a6.. d7..");
        Snapshot.asks(() -> Edges.toldButPast("a4..", 0), 0, "not in force",
            x -> x.changedByRange(4, 0, 31));
        FilterRules book = Edges.told("a1..");
        book.addMember(1, 2);
        book.addMember(2, 4);
        Due.answers(1024, "a member of a member", () -> book.changedByRange(4, 9, 9));
        book.removeMember(1, 2);
        Due.answers(0, "a member no more", () -> book.changedByRange(4, 9, 9));
    }

    private static FilterRules withRanges(int more) {
        FilterRules book = Edges.told("a1..");
        for (int i = 0; i < more; i++) {
            book.addRange(1, 0, 0);
        }
        return book;
    }

    private static void changedByRangeFull() {
        Sentence.test("Promise 33",
            "Returns the number of packets, whether the object has 3 ranges already or not.");
        for (int i = 0; i < 3; i++) {
            int more = i;
            Snapshot.asks(() -> withRanges(more), 2048, more + 1 + " ranges",
                x -> x.changedByRange(1, 0, 2));
            Snapshot.asks(() -> withRanges(more), 31 * 1024, more + 1 + " ranges",
                x -> x.changedByRange(1, 0, 31));
        }
        widens(2048, 4, 5, 6, "a4..");
        Due.answers("throws." + Edges.STATE, "addRange to 3 ranges",
            () -> withRanges(2).addRange(1, 0, 2));
    }

    private static void changedByRangeRefuses() {
        Sentence.test("Promise 33",
            "Throws `IndexOutOfBoundsException` if there is no such object");
        Edges.refusesNoObject((x, object) -> x.changedByRange(object, 0, 0));
        Sentence.test("Promise 33", "Throws `IllegalArgumentException` if a value is out of range");
        int[][] wrong = {{1, 0}, {31, 30}, {31, 0}, {-1, 0}, {-1, -1}, {32, 32}, {0, 32}, {-1, 32},
            {Integer.MIN_VALUE, Integer.MAX_VALUE}, {Integer.MAX_VALUE, Integer.MIN_VALUE}};
        for (int[] range : wrong) {
            Snapshot.refuses(Edges::oneObject, Edges.ARGUMENT, range[0] + " to " + range[1],
                x -> x.changedByRange(0, range[0], range[1]));
            Snapshot.refuses(Edges::fullBook, Edges.ARGUMENT, range[0] + " to " + range[1],
                x -> x.changedByRange(7, range[0], range[1]));
        }
    }

    private static void shares(float due, String rules) {
        Snapshot.asks(() -> Edges.told(rules), due, rules, x -> x.shadowedShare());
    }

    private static void shadowedShareAnswers() {
        Sentence.test("Promise 34", "Returns the number of rules that are shadowed divided by that "
            + "of the rules in force, both converted to float.");
        shares(0.0f, "a...");
        shares(1.0f, "a4..");
        shares(0.0f, "a111 d...");
        shares(0.5f, "a... d111");
        shares(1.0f / 3.0f, "a6.. a7.. d...");
        shares(2.0f / 3.0f, "a... d... a...");
        shares(5.0f / 6.0f, "a... d... a... d... a... d...");
        shares(6.0f / 7.0f, "a... d... a... d... a... d... a...");
        shares(7.0f / 8.0f, IN_TURN);
        shares(1.0f, "a4.. d4.. a.4. d.4. a..4 d..4 a444 d444");
        shares(0.0f, "a111 a11. a1.. d2.. d..1 d.1. a77. d...");
        Snapshot.asks(() -> Edges.toldButPast("a... d... a...", 0), 0.5f, "0 is not in force",
            x -> x.shadowedShare());
        Snapshot.asks(() -> Edges.toldButPast("a... d... a...", 2), 0.5f, "2 is not in force",
            x -> x.shadowedShare());
    }

    private static void shadowedShareRefuses() {
        Sentence.test("Promise 34", "Throws `ArithmeticException` if no rule is in force");
        Snapshot.refuses(FilterRules::new, Edges.ARITHMETIC, "no rules", x -> x.shadowedShare());
        Snapshot.refuses(Edges::allRulesRemoved, Edges.ARITHMETIC, "all removed",
            x -> x.shadowedShare());
        Snapshot.refuses(() -> Edges.toldButPast("a...", 0), Edges.ARITHMETIC, "one, not in force",
            x -> x.shadowedShare());
        FilterRules book = Edges.told(IN_TURN);
        for (int i = 0; i < 8; i++) {
            book.setLastDay(i, i);
        }
        for (int i = 8; i > 0; i--) {
            Due.answers((float) (i - 1) / (float) i, i + " in force", () -> book.shadowedShare());
            book.pass(1);
        }
        for (int i = 0; i < 2; i++) {
            Due.answers("throws." + Edges.ARITHMETIC, "none in force",
                () -> book.shadowedShare());
        }
        book.setLastDay(3, 8);
        Due.answers(0.0f, "one in force again", () -> book.shadowedShare());
    }

    private static void meanHitsAnswers() {
        Sentence.test("Promise 35", "Returns the sum of the hits of all rules that are there, "
            + "divided by their number, both converted to double.");
        Snapshot.asks(() -> Edges.told("a..."), 0.0, "no hits", x -> x.meanHits());
        Snapshot.asks(Edges::fullBook, 2.0 / 8.0, "2 hits of 8 rules", x -> x.meanHits());
        FilterRules book = Edges.rules(3);
        book.packet(0, 0, 0);
        Due.answers(1.0 / 3.0, "1 hit of 3 rules", () -> book.meanHits());
        book.packet(1, 0, 0);
        Due.answers(2.0 / 3.0, "2 hits of 3 rules", () -> book.meanHits());
        book.packet(9, 0, 0);
        Due.answers(2.0 / 3.0, "a packet that no rule decides", () -> book.meanHits());
        book.setLastDay(0, 0);
        book.pass(1);
        Due.answers(2.0 / 3.0, "one not in force", () -> book.meanHits());
        book.removeRule(0);
        Due.answers(1.0 / 2.0, "it is removed", () -> book.meanHits());
        for (int i = 0; i < 400; i++) {
            book.packet(2, 0, 0);
        }
        Due.answers(401.0 / 2.0, "400 hits more", () -> book.meanHits());
    }

    private static void meanHitsRefuses() {
        Sentence.test("Promise 35", "Throws `ArithmeticException` if there are no rules");
        Snapshot.refuses(FilterRules::new, Edges.ARITHMETIC, "no rules", x -> x.meanHits());
        Snapshot.refuses(Edges::allObjects, Edges.ARITHMETIC, "only objects", x -> x.meanHits());
        Snapshot.refuses(Edges::allRulesRemoved, Edges.ARITHMETIC, "all removed",
            x -> x.meanHits());
        Snapshot.asks(() -> Edges.toldButPast("a...", 0), 0.0, "none in force", x -> x.meanHits());
        FilterRules book = Edges.told("a...");
        book.packet(0, 0, 0);
        Due.answers(1.0, "one rule", () -> book.meanHits());
        book.removeRule(0);
        Due.answers("throws." + Edges.ARITHMETIC, "it is removed", () -> book.meanHits());
        book.addRule(0, 'a', -1, -1, -1, 0);
        Due.answers(0.0, "a new one", () -> book.meanHits());
    }
}
