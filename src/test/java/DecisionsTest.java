/** Promises 24 to 29: what rules match and decide. */
public final class DecisionsTest {
    private static final String NO_ELEMENT = "NoSuchElementException";

    private DecisionsTest() {
    }

    public static void main(String[] args) {
        promise24();
        promises25And26();
        promises25And26InParts();
        promise27();
        promise28();
        promise29();
        Due.end();
    }

    /**
     * In order: rule 0 denies target 0-7; rule 1 accepts source 0-3 and target 4-11; rule 2 denies
     * source 0-3, target 4-11 and service 0-1; rule 3 accepts service 30-31; object 4 is empty.
     */
    private static FilterRules sample() {
        FilterRules book = new FilterRules();
        int[][] ranges = {{0, 7}, {0, 3}, {4, 11}, {0, 1}};
        for (int i = 0; i < 4; i++) {
            book.addObject();
            book.addRange(i, ranges[i][0], ranges[i][1]);
        }
        book.addObject();
        book.addObject();
        book.addRange(5, 30, 31);
        book.addRule(0, 'd', -1, 0, -1, 0);
        book.addRule(1, 'a', 1, 2, -1, 0);
        book.addRule(2, 'd', 1, 2, 3, 0);
        book.addRule(3, 'a', -1, -1, 5, 0);
        return book;
    }

    /** The rules 0 and 1 end on day 3, and it is day 4. */
    private static FilterRules expired() {
        FilterRules book = sample();
        book.setLastDay(0, 3);
        book.setLastDay(1, 3);
        book.pass(4);
        return book;
    }

    private static void promise24() {
        Snapshot.asks(DecisionsTest::sample, 8192, "matched(0)", x -> x.matched(0));
        Snapshot.asks(DecisionsTest::sample, 1024, "matched(1)", x -> x.matched(1));
        Snapshot.asks(DecisionsTest::sample, 64, "matched(2), shadowed", x -> x.matched(2));
        Snapshot.asks(DecisionsTest::sample, 2048, "matched(3)", x -> x.matched(3));
        Snapshot.asks(DecisionsTest::expired, 8192, "matched(0)", x -> x.matched(0));
        Snapshot.refuses(DecisionsTest::sample, NO_ELEMENT, "matched(4)", x -> x.matched(4));
        Snapshot.refuses(DecisionsTest::sample, NO_ELEMENT, "matched(-1)", x -> x.matched(-1));
        FilterRules book = sample();
        book.addRule(0, 'a', -1, -1, -1, 0);
        book.addRule(0, 'a', -1, 4, -1, 0);
        Due.answers(32768, "matched without objects", () -> book.matched(4));
        Due.answers(0, "matched with an empty object", () -> book.matched(5));
        book.addMember(4, 0);
        Due.answers(8192, "matched with a member", () -> book.matched(5));
        book.addRange(0, 8, 8);
        Due.answers(9216, "matched with a wider member", () -> book.matched(5));
    }

    private static void decides(Snapshot.Maker maker, int due, int rule) {
        Snapshot.asks(maker, due, "decided(" + rule + ")", x -> x.decided(rule));
        Snapshot.asks(maker, due, "decidedBySamples(" + rule + ")",
            x -> x.decidedBySamples(rule));
    }

    private static void promises25And26() {
        decides(DecisionsTest::sample, 8192, 0);
        decides(DecisionsTest::sample, 512, 1);
        decides(DecisionsTest::sample, 0, 2);
        decides(DecisionsTest::sample, 2 * (32 * 24 - 4 * 4), 3);
        decides(DecisionsTest::expired, 0, 0);
        decides(DecisionsTest::expired, 0, 1);
        decides(DecisionsTest::expired, 64, 2);
        decides(DecisionsTest::expired, 2048, 3);
        int[] none = {4, -1, 99};
        for (int rule : none) {
            Snapshot.refuses(DecisionsTest::sample, NO_ELEMENT, "decided(" + rule + ")",
                x -> x.decided(rule));
            Snapshot.refuses(DecisionsTest::sample, NO_ELEMENT, "decidedBySamples(" + rule + ")",
                x -> x.decidedBySamples(rule));
        }
        FilterRules book = sample();
        book.addRule(4, 'd', -1, -1, -1, 0);
        int rest = 32768 - 8192 - 512 - 1504;
        Due.answers(rest, "decided(4), the rest", () -> book.decided(4));
        Due.answers(rest, "decidedBySamples(4), the rest", () -> book.decidedBySamples(4));
        book.addRule(0, 'a', -1, -1, -1, 0);
        Due.answers(32768, "decided(5), all", () -> book.decided(5));
        Due.answers(32768, "decidedBySamples(5), all", () -> book.decidedBySamples(5));
        Due.answers(0, "decided(4), nothing is left", () -> book.decided(4));
        Due.answers(0, "decidedBySamples(4)", () -> book.decidedBySamples(4));
    }

    /** Seven rules ahead of one without objects: each takes off one value more of each field. */
    private static void promises25And26InParts() {
        FilterRules book = new FilterRules();
        for (int i = 0; i < 7; i++) {
            book.addObject();
            book.addRange(i, 4 * i, 4 * i);
            book.addRange(i, 4 * i + 2, 4 * i + 3);
            book.addRule(i, 'a', i, i, i, 0);
        }
        book.addRule(7, 'd', -1, -1, -1, 0);
        Due.answers(27, "decided(3)", () -> book.decided(3));
        Due.answers(27, "decidedBySamples(3)", () -> book.decidedBySamples(3));
        Due.answers(32768 - 7 * 27, "decided(7)", () -> book.decided(7));
        Due.answers(32768 - 7 * 27, "decidedBySamples(7)", () -> book.decidedBySamples(7));
        Due.answers(7 * 27, "accepted", () -> book.accepted());
        book.addMember(0, 6);
        Due.answers(216, "decided(0)", () -> book.decided(0));
        Due.answers(0, "decided(6)", () -> book.decided(6));
        Due.answers(216, "decidedBySamples(0)", () -> book.decidedBySamples(0));
        Due.answers(0, "decidedBySamples(6)", () -> book.decidedBySamples(6));
    }

    private static void promise27() {
        Snapshot.asks(DecisionsTest::sample, false, "isShadowed(1)", x -> x.isShadowed(1));
        Snapshot.asks(DecisionsTest::sample, true, "isShadowed(2)", x -> x.isShadowed(2));
        Snapshot.asks(DecisionsTest::expired, false, "isShadowed(0)", x -> x.isShadowed(0));
        Snapshot.asks(DecisionsTest::expired, false, "isShadowed(2)", x -> x.isShadowed(2));
        Snapshot.refuses(DecisionsTest::sample, NO_ELEMENT, "isShadowed(4)",
            x -> x.isShadowed(4));
        Snapshot.refuses(DecisionsTest::sample, NO_ELEMENT, "isShadowed(-1)",
            x -> x.isShadowed(-1));
        FilterRules book = sample();
        book.addRule(0, 'a', 4, -1, -1, 0);
        Due.answers(true, "isShadowed(4), it matches nothing", () -> book.isShadowed(4));
        book.addRange(4, 0, 31);
        Due.answers(false, "isShadowed(4), it matches all", () -> book.isShadowed(4));
        Due.answers(true, "isShadowed(0), behind it", () -> book.isShadowed(0));
        Due.answers(true, "isShadowed(3), behind it", () -> book.isShadowed(3));
        book.setLastDay(0, 0);
        book.pass(1);
        Due.answers(false, "isShadowed(0), not in force", () -> book.isShadowed(0));
    }

    private static void promise28() {
        Snapshot.asks(DecisionsTest::sample, 0, "mainShadow(1)", x -> x.mainShadow(1));
        Snapshot.asks(DecisionsTest::sample, 1, "mainShadow(2)", x -> x.mainShadow(2));
        Snapshot.asks(DecisionsTest::sample, 0, "mainShadow(3)", x -> x.mainShadow(3));
        Snapshot.refuses(DecisionsTest::sample, NO_ELEMENT, "mainShadow(0)",
            x -> x.mainShadow(0));
        Snapshot.refuses(DecisionsTest::sample, NO_ELEMENT, "mainShadow(4)",
            x -> x.mainShadow(4));
        Snapshot.refuses(DecisionsTest::sample, NO_ELEMENT, "mainShadow(-1)",
            x -> x.mainShadow(-1));
        Snapshot.refuses(DecisionsTest::expired, NO_ELEMENT, "mainShadow(2), none in force",
            x -> x.mainShadow(2));
        Snapshot.refuses(DecisionsTest::expired, NO_ELEMENT, "mainShadow(3), none in common",
            x -> x.mainShadow(3));
        FilterRules book = sample();
        book.addRule(4, 'd', 1, 2, 3, 0);
        Due.answers(1, "mainShadow(4), 1 and 2 match as many", () -> book.mainShadow(4));
        book.setLastDay(1, 0);
        book.pass(1);
        Due.answers(2, "mainShadow(4), 1 not in force", () -> book.mainShadow(4));
        book.setLastDay(4, 1);
        book.pass(1);
        Due.answers(2, "mainShadow(4), itself not in force", () -> book.mainShadow(4));
        book.addRule(0, 'a', -1, -1, -1, 0);
        Due.answers(5, "mainShadow(4), the first of several", () -> book.mainShadow(4));
        Due.answers("throws." + NO_ELEMENT, "mainShadow(5)", () -> book.mainShadow(5));
    }

    private static void promise29() {
        Snapshot.asks(DecisionsTest::sample, 512 + 1504, "accepted", x -> x.accepted());
        Snapshot.asks(DecisionsTest::expired, 2048, "accepted", x -> x.accepted());
        FilterRules book = sample();
        book.addRule(4, 'a', -1, -1, -1, 0);
        Due.answers(32768 - 8192, "accepted by the last one too", () -> book.accepted());
        book.addRule(0, 'd', -1, -1, -1, 0);
        Due.answers(0, "accepted, all denied ahead", () -> book.accepted());
        book.addRule(0, 'a', -1, -1, -1, 0);
        Due.answers(32768, "accepted, all accepted ahead", () -> book.accepted());
        book.setLastDay(6, 0);
        book.setLastDay(5, 0);
        book.pass(1);
        Due.answers(32768 - 8192, "accepted, both not in force", () -> book.accepted());
    }
}
