/**
 * A book at all of its limits: eight objects, eight rules, and in each field 32 values of which no
 * two are matched by the same rules (the objects 0, 3, 5, 6 and 7 are the digits of a Gray code).
 * What is due is what Book answers.
 */
public final class FullBookTest {
    private static final int[][] RANGES = {
        {0, 1, 2}, {0, 5, 6}, {0, 9, 10}, {1, 13, 14}, {1, 17, 18}, {1, 21, 22}, {2, 25, 26},
        {2, 29, 30}, {3, 2, 5}, {3, 10, 13}, {3, 18, 21}, {4, 26, 29}, {5, 4, 11}, {5, 20, 27},
        {6, 8, 23}, {7, 16, 31}};
    private static final int[][] MEMBERS = {{0, 1}, {0, 2}, {3, 4}};
    private static final int[] USED = {0, 3, 5, 6, 7, 1, 4, 2};
    private static final int[] LATER = {3, -1, -1, 0, -1, 2, -1, 0};

    private final FilterRules rules = new FilterRules();
    private final Book book = new Book();

    private FullBookTest() {
        for (int i = 0; i < 8; i++) {
            rules.addObject();
            book.addObject();
        }
        for (int[] range : RANGES) {
            rules.addRange(range[0], range[1], range[2]);
            book.addRange(range[0], range[1], range[2]);
        }
        for (int[] member : MEMBERS) {
            rules.addMember(member[0], member[1]);
            book.addMember(member[0], member[1]);
        }
        for (int i = 0; i < 8; i++) {
            char action = i % 3 == 1 ? 'd' : 'a';
            rules.addRule(0, action, USED[i], USED[i], USED[i], i % 6);
            book.addRule(0, action, USED[i], USED[i], USED[i], i % 6);
        }
    }

    public static void main(String[] args) {
        FullBookTest test = new FullBookTest();
        test.compareAll("new");
        test.comparePackets();
        test.compareChanges();
        test.compareAll("with hits");
        test.changeDays();
        test.compareAll("with last days");
        FullBookTest other = new FullBookTest();
        other.rules.removeRange(5);
        other.book.removeRange(5);
        other.rules.addMember(6, 0);
        other.book.addMember(6, 0);
        other.compareAll("with other objects");
        other.removeAll();
        matchEveryPacket();
        Due.end();
    }

    private void both(String call, Due.Call ofRules, Due.Call ofBook) {
        Due.answers(Due.outcome(ofBook), call, ofRules);
    }

    private void compareAll(String state) {
        for (int i = 0; i < 8; i++) {
            int n = i;
            String of = " of " + i + " in a book " + state;
            both("values" + of, () -> rules.values(n), () -> book.values(n));
            both("users" + of, () -> rules.users(n), () -> book.users(n));
            both("ruleAt" + of, () -> rules.ruleAt(n), () -> book.ruleAt(n));
            both("matched" + of, () -> rules.matched(n), () -> book.matched(n));
            both("decided" + of, () -> rules.decided(n), () -> book.decided(n));
            both("decidedBySamples" + of,
                () -> rules.decidedBySamples(n), () -> book.decided(n));
            both("isShadowed" + of, () -> rules.isShadowed(n), () -> book.isShadowed(n));
            both("mainShadow" + of, () -> rules.mainShadow(n), () -> book.mainShadow(n));
            both("changedByMove" + of,
                () -> rules.changedByMove(n, 7 - n), () -> book.changedByMove(n, 7 - n));
            both("changedByRange" + of,
                () -> rules.changedByRange(n, n, 31 - n), () -> book.changedByRange(n, n, 31 - n));
        }
        both("accepted", () -> rules.accepted(), () -> book.accepted());
        both("shadowedShare", () -> rules.shadowedShare(), () -> book.shadowedShare());
        both("meanHits", () -> rules.meanHits(), () -> book.meanHits());
    }

    /** With a last rule for all, none of the 32 values of a field is matched by no rule. */
    private static void matchEveryPacket() {
        FullBookTest test = new FullBookTest();
        test.both("removeRule(7)", () -> test.rules.removeRule(7), () -> test.book.removeRule(7));
        test.both("a rule for all", () -> test.rules.addRule(7, 'a', -1, -1, -1, 0),
            () -> test.book.addRule(7, 'a', -1, -1, -1, 0));
        test.compareAll("with a rule for all");
        test.both("decided of the rule for all",
            () -> test.rules.decided(8), () -> test.book.decided(8));
        test.both("decidedBySamples of the rule for all",
            () -> test.rules.decidedBySamples(8), () -> test.book.decided(8));
    }

    private void comparePackets() {
        for (int i = 0; i < 32; i++) {
            int value = i;
            both("packet " + i, () -> rules.packet(value, value, value),
                () -> book.packet(value, value, value));
            both("decider " + i, () -> rules.decider(value, 31 - value, value),
                () -> book.decider(value, 31 - value, value));
        }
    }

    private void compareChanges() {
        both("a ninth object", () -> rules.addObject(), () -> book.addObject());
        both("a ninth rule", () -> rules.addRule(8, 'a', -1, -1, -1, 0),
            () -> book.addRule(8, 'a', -1, -1, -1, 0));
        both("sortByHits", () -> rules.sortByHits(), () -> book.sortByHits());
        for (int i = 0; i < 8; i++) {
            int n = i;
            both("hits " + i, () -> rules.hits(n), () -> book.hits(n));
            both("move " + i, () -> rules.move(n, (n + 5) % 8), () -> book.move(n, (n + 5) % 8));
        }
    }

    private void changeDays() {
        for (int i = 0; i < 8; i++) {
            rules.setLastDay(i, LATER[i]);
            book.setLastDay(i, LATER[i]);
        }
        both("pass(1)", () -> rules.pass(1), () -> book.pass(1));
        both("sortByHits", () -> rules.sortByHits(), () -> book.sortByHits());
        for (int i = 0; i < 6; i++) {
            int owner = i;
            both("expiring " + i, () -> rules.expiring(owner, 2), () -> book.expiring(owner, 2));
        }
    }

    private void removeAll() {
        int[] rest = {7, 0, 3, 5, 6, 1, 2, 4};
        for (int rule : rest) {
            both("removeRule " + rule, () -> rules.removeRule(rule), () -> book.removeRule(rule));
            both("accepted", () -> rules.accepted(), () -> book.accepted());
        }
        both("addRule", () -> rules.addRule(0, 'a', 0, -1, -1, 0),
            () -> book.addRule(0, 'a', 0, -1, -1, 0));
    }
}
