import java.io.IOException;
import java.util.stream.IntStream;

/** The edges of the promises 10 to 16, sentence by sentence. */
public final class RulesEdgesTest {
    private RulesEdgesTest() {
    }

    public static void main(String[] args) throws IOException {
        addRulePosition();
        addRuleAction();
        addRuleObjects();
        addRuleOwner();
        addRuleNumber();
        addRuleRefusesPlaces();
        addRuleRefusesActions();
        addRuleFull();
        removeRule();
        removeRuleChanges();
        setLastDayTakes();
        setLastDayRefuses();
        rules();
        ruleAt();
        isInForce();
        expiringTakes();
        expiringAnswers();
        Sentence.allTested(10, 16);
        Due.end();
    }

    private static FilterRules sevenRules() {
        return Edges.rules(7);
    }

    /** Eight objects; 0 has one value, 7 has four. */
    private static FilterRules sized() {
        return Edges.ranges(0, 0, 1, 2, 3, 3, 4, 4, 5, 5, 6, 6, 7, 7, 28, 31);
    }

    /** On this day rule 0, of owner 3, has no last day. */
    private static FilterRules onDay(int day) {
        FilterRules book = Edges.ranges(0, 3);
        Edges.pass(book, day);
        book.addRule(0, 'a', 0, -1, -1, 3);
        return book;
    }

    private static String orderAfter(FilterRules book, int position) {
        int rule = book.addRule(position, 'a', -1, -1, -1, 0);
        return rule + " in " + Edges.orderOf(book);
    }

    private static void addRulePosition() {
        Sentence.test("Promise 10", "- `position`: the position, from 0 to the number of rules");
        Due.answers("0 in 0", "at 0 of 0", () -> orderAfter(new FilterRules(), 0));
        Due.answers("3 in 3 2 0", "at 0 of 2", () -> orderAfter(Edges.gap(), 0));
        Due.answers("3 in 2 3 0", "at 1 of 2", () -> orderAfter(Edges.gap(), 1));
        Due.answers("3 in 2 0 3", "at 2 of 2", () -> orderAfter(Edges.gap(), 2));
        Due.answers("7 in 7 0 1 2 3 4 5 6", "at 0 of 7", () -> orderAfter(sevenRules(), 0));
        Due.answers("7 in 0 1 2 3 4 5 7 6", "at 6 of 7", () -> orderAfter(sevenRules(), 6));
        Due.answers("7 in 0 1 2 3 4 5 6 7", "at 7 of 7", () -> orderAfter(sevenRules(), 7));
    }

    private static void addRuleAction() {
        Sentence.test("Promise 10", "- `action`: the action, 'a' or 'd'");
        FilterRules book = new FilterRules();
        Due.answers(0, "a", () -> book.addRule(0, 'a', -1, -1, -1, 0));
        Due.answers("a 32768", "of it", () -> book.packet(0, 0, 0) + " " + book.accepted());
        Due.answers(1, "d", () -> book.addRule(0, 'd', -1, -1, -1, 0));
        Due.answers("d 0", "of it", () -> book.packet(0, 0, 0) + " " + book.accepted());
    }

    /** The packets that a rule with these objects matches, and which of three it decides. */
    private static String matchedBy(int source, int target, int service) {
        FilterRules book = sized();
        book.addRule(0, 'a', source, target, service, 0);
        return book.matched(0) + ": " + book.packet(31, 0, 0) + book.packet(0, 31, 0)
            + book.packet(0, 0, 31);
    }

    private static void addRuleObjects() {
        Sentence.test("Promise 10",
            "- `source`: the number of the object of field 0, or -1 for none");
        Due.answers("32768: aaa", "none", () -> matchedBy(-1, -1, -1));
        Due.answers("1024: daa", "source 0", () -> matchedBy(0, -1, -1));
        Due.answers("4096: add", "source 7", () -> matchedBy(7, -1, -1));
        Sentence.test("Promise 10",
            "- `target`: the number of the object of field 1, or -1 for none");
        Due.answers("1024: ada", "target 0", () -> matchedBy(-1, 0, -1));
        Due.answers("4096: dad", "target 7", () -> matchedBy(-1, 7, -1));
        Due.answers("128: add", "source 7, target 0", () -> matchedBy(7, 0, -1));
        Sentence.test("Promise 10",
            "- `service`: the number of the object of field 2, or -1 for none");
        Due.answers("1024: aad", "service 0", () -> matchedBy(-1, -1, 0));
        Due.answers("4096: dda", "service 7", () -> matchedBy(-1, -1, 7));
        Due.answers("128: dad", "target 7, service 0", () -> matchedBy(-1, 7, 0));
        Due.answers("1: ddd", "0 in all fields", () -> matchedBy(0, 0, 0));
        Due.answers("64: ddd", "7 in all fields", () -> matchedBy(7, 7, 7));
    }

    private static void addRuleOwner() {
        Sentence.test("Promise 10", "- `owner`: the owner, 0 to 5");
        for (int i = 0; i < 6; i++) {
            int owner = i;
            FilterRules book = new FilterRules();
            Due.answers(0, "owner " + i, () -> book.addRule(0, 'a', -1, -1, -1, owner));
            book.setLastDay(0, 0);
            for (int j = 0; j < 6; j++) {
                int other = j;
                Due.answers(i == j ? 1 : 0, "expiring(" + j + ", 1)",
                    () -> book.expiring(other, 1));
            }
        }
        Snapshot.refusesEach(Edges.outside(0, 5), Edges::gap, Edges.ARGUMENT, "owner",
            (x, owner) -> x.addRule(0, 'a', 0, -1, -1, owner));
        Snapshot.refusesEach(Edges.outside(0, 5), Edges::allRules, Edges.ARGUMENT, "owner, full",
            (x, owner) -> x.addRule(0, 'a', 0, -1, -1, owner));
    }

    private static void addRuleNumber() {
        Sentence.test("Promise 10", "Returns the number of the rule, which has no last day.");
        FilterRules book = Edges.allRules();
        for (int i = 0; i < 8; i++) {
            book.setLastDay(i, 0);
        }
        Edges.pass(book, 999);
        for (int i = 8; i < 40; i++) {
            int rule = i;
            book.removeRule(i - 8);
            Due.answers(i, "a rule after " + i, () -> book.addRule(0, 'a', -1, -1, -1, 0));
            Due.answers(true, "it is in force", () -> book.isInForce(rule));
            Due.answers(-1, "its last day", () -> book.setLastDay(rule, 999));
        }
        Due.answers(8, "rules", () -> book.rules());
        Due.answers(0, "the first number", () -> new FilterRules().addRule(0, 'd', -1, -1, -1, 0));
        Due.answers(8, "when all were removed",
            () -> Edges.allRulesRemoved().addRule(0, 'd', -1, -1, -1, 0));
    }

    private static void addRuleRefusesPlaces() {
        Sentence.test("Promise 10", "Throws `IndexOutOfBoundsException` if there is no such "
            + "position, or an object is neither -1 nor the number of one");
        Snapshot.refusesEach(Edges.outside(0, 0), FilterRules::new, Edges.INDEX, "position of 0",
            (x, position) -> x.addRule(position, 'a', -1, -1, -1, 0));
        Snapshot.refusesEach(Edges.outside(0, 2), Edges::gap, Edges.INDEX, "position of 2",
            (x, position) -> x.addRule(position, 'a', -1, -1, -1, 0));
        Snapshot.refusesEach(Edges.outside(0, 7), RulesEdgesTest::sevenRules, Edges.INDEX,
            "position of 7", (x, position) -> x.addRule(position, 'a', -1, -1, -1, 0));
        Snapshot.refusesEach(Edges.outside(0, 8), Edges::allRules, Edges.INDEX, "position of 8",
            (x, position) -> x.addRule(position, 'a', -1, -1, -1, 0));
        Snapshot.Maker[] makers = {FilterRules::new, Edges::gap, RulesEdgesTest::sized};
        int[] objects = {0, 1, 8};
        for (int i = 0; i < makers.length; i++) {
            int[] none = Edges.outside(-1, objects[i] - 1);
            String what = " of " + objects[i];
            Snapshot.refusesEach(none, makers[i], Edges.INDEX, "source" + what,
                (x, object) -> x.addRule(0, 'a', object, -1, -1, 0));
            Snapshot.refusesEach(none, makers[i], Edges.INDEX, "target" + what,
                (x, object) -> x.addRule(0, 'a', -1, object, -1, 0));
            Snapshot.refusesEach(none, makers[i], Edges.INDEX, "service" + what,
                (x, object) -> x.addRule(0, 'a', -1, -1, object, 0));
        }
    }

    private static void addRuleRefusesActions() {
        Sentence.test("Promise 10", "Throws `IllegalArgumentException` if there is no such "
            + "action, or the owner is out of range");
        int[] near = {'a' - 1, 'a' + 1, 'd' - 1, 'd' + 1, 'A', 'D', 0, ' ', 'a' + 256, 'd' + 256,
            'a' + 128, 'd' + 128, 0xffff};
        Snapshot.refusesEach(near, Edges::gap, Edges.ARGUMENT, "action",
            (x, action) -> x.addRule(0, (char) action, 0, -1, -1, 0));
        int refused = 0;
        for (int i = 0; i <= 0xffff; i++) {
            char action = (char) i;
            String got = Due.outcome(() -> new FilterRules().addRule(0, action, -1, -1, -1, 0));
            refused += got.equals("throws." + Edges.ARGUMENT) ? 1 : 0;
        }
        Due.same("65534", "the number of refused actions", String.valueOf(refused));
        Snapshot.refuses(Edges::gap, Edges.ARGUMENT, "owner -1",
            x -> x.addRule(2, 'a', 0, -1, -1, -1));
        Snapshot.refuses(Edges::gap, Edges.ARGUMENT, "owner 6",
            x -> x.addRule(2, 'd', 0, -1, -1, 6));
        Snapshot.refuses(Edges::gap, Edges.ARGUMENT, "both", x -> x.addRule(2, 'x', 0, 0, 0, 6));
        Due.answers(3, "owner 5", () -> Edges.gap().addRule(2, 'd', 0, -1, -1, 5));
    }

    private static void addRuleFull() {
        Sentence.test("Promise 10", "Throws `IllegalStateException` if there are 8 rules");
        Due.answers(7, "an eighth rule", () -> sevenRules().addRule(7, 'a', -1, -1, -1, 0));
        int[] positions = {0, 1, 7, 8};
        Snapshot.refusesEach(positions, Edges::allRules, Edges.STATE, "a ninth rule at",
            (x, position) -> x.addRule(position, 'a', -1, -1, -1, 0));
        Snapshot.refusesEach(positions, Edges::fullBook, Edges.STATE, "a ninth rule at",
            (x, position) -> x.addRule(position, 'd', 7, 7, 7, 5));
        FilterRules book = Edges.allRules();
        for (int i = 0; i < 7; i++) {
            book.setLastDay(i, 0);
        }
        book.pass(1);
        Due.answers("throws." + Edges.STATE, "a ninth rule, one in force",
            () -> book.addRule(0, 'a', -1, -1, -1, 0));
        book.removeRule(7);
        Due.answers(8, "after removeRule", () -> book.addRule(0, 'a', -1, -1, -1, 0));
        Due.answers("throws." + Edges.STATE, "then", () -> book.addRule(0, 'a', -1, -1, -1, 0));
        Due.answers("8 0 1 2 3 4 5 6", "the order", () -> Edges.orderOf(book));
    }

    private static String orderWithout(int rule) {
        FilterRules book = Edges.allRules();
        book.removeRule(rule);
        return Edges.orderOf(book);
    }

    private static void removeRule() {
        Sentence.test("Promise 11", "- `rule`: the number of the rule");
        Due.answers("1 2 3 4 5 6 7", "the first one", () -> orderWithout(0));
        Due.answers("0 1 2 3 5 6 7", "one between", () -> orderWithout(4));
        Due.answers("0 1 2 3 4 5 6", "the last one", () -> orderWithout(7));
        FilterRules only = onDay(0);
        only.removeRule(0);
        Due.answers("0 ", "the only one", () -> only.rules() + " " + Edges.orderOf(only));
        Sentence.test("Promise 11", "Throws `NoSuchElementException` if there is no such rule");
        Edges.refusesNoRule((x, rule) -> x.removeRule(rule));
        Due.answers("throws." + Edges.NO_ELEMENT, "the only one again", () -> only.removeRule(0));
    }

    private static int changedWithout(int rule, String actions, int... objects) {
        FilterRules book = Edges.ranges(0, 31, 0, 0, 5, 5);
        book.addObject();
        for (int i = 0; i < actions.length(); i++) {
            book.addRule(i, actions.charAt(i), objects[i], objects[i], objects[i], 0);
        }
        return book.removeRule(rule);
    }

    private static void removeRuleChanges() {
        Sentence.test("Promise 11",
            "Returns the number of packets whose decision changes by this.");
        Due.answers(32768, "accept all", () -> changedWithout(0, "a", 0));
        Due.answers(32768, "accept all, without objects", () -> changedWithout(0, "a", -1));
        Due.answers(32768, "accept all ahead of deny one", () -> changedWithout(0, "ad", 0, 1));
        Due.answers(0, "deny all, as none would", () -> changedWithout(0, "d", 0));
        Due.answers(0, "accept nothing", () -> changedWithout(0, "a", 3));
        Due.answers(1, "accept one packet", () -> changedWithout(0, "a", 1));
        Due.answers(1, "deny one packet ahead of all", () -> changedWithout(0, "da", 1, 0));
        Due.answers(0, "accept one packet ahead of all", () -> changedWithout(0, "aa", 1, 0));
        Due.answers(32767, "accept all behind one", () -> changedWithout(1, "aa", 1, 0));
        Due.answers(0, "accept one, shadowed", () -> changedWithout(1, "aa", 0, 1));
        Due.answers(0, "deny one, shadowed", () -> changedWithout(1, "ad", 0, 1));
        Due.answers(32768, "deny all ahead of all", () -> changedWithout(0, "da", 0, 0));
        Due.answers(32766, "deny all between", () -> changedWithout(2, "aada", 1, 2, 0, 0));
        FilterRules last = onDay(0);
        last.setLastDay(0, 0);
        Due.answers(4096, "on its last day", () -> last.removeRule(0));
        FilterRules past = onDay(0);
        past.setLastDay(0, 0);
        past.pass(1);
        Due.answers(0, "after its last day", () -> past.removeRule(0));
    }

    private static String lastDayOn(int today, int day) {
        FilterRules book = onDay(today);
        return book.setLastDay(0, day) + ", " + book.setLastDay(0, -1);
    }

    private static void setLastDayTakes() {
        Sentence.test("Promise 12", "- `rule`: the number of the rule");
        FilterRules book = Edges.allRules();
        Due.answers(-1, "the first rule", () -> book.setLastDay(0, 5));
        Due.answers(-1, "the last rule", () -> book.setLastDay(7, 6));
        Due.answers("5 -1 -1 6", "last days", () -> book.setLastDay(0, -1) + " "
            + book.setLastDay(1, -1) + " " + book.setLastDay(6, -1) + " " + book.setLastDay(7, -1));
        Sentence.test("Promise 12", "- `day`: the last day, from this day to 999, or -1 for none");
        Due.answers("-1, 0", "0 on day 0", () -> lastDayOn(0, 0));
        Due.answers("-1, 999", "999 on day 0", () -> lastDayOn(0, 999));
        Due.answers("-1, -1", "-1 on day 0", () -> lastDayOn(0, -1));
        Due.answers("-1, 20", "20 on day 20", () -> lastDayOn(20, 20));
        Due.answers("-1, 999", "999 on day 20", () -> lastDayOn(20, 999));
        Due.answers("-1, 999", "999 on day 999", () -> lastDayOn(999, 999));
        Due.answers("-1, -1", "-1 on day 999", () -> lastDayOn(999, -1));
        Sentence.test("Promise 12", "Returns the last day before, or -1.");
        FilterRules turns = onDay(20);
        Due.answers(-1, "it had none", () -> turns.setLastDay(0, 20));
        Due.answers(20, "it had this day", () -> turns.setLastDay(0, 21));
        Due.answers(21, "it had the next day", () -> turns.setLastDay(0, 21));
        turns.pass(2);
        Due.answers(21, "it had a day that has passed", () -> turns.setLastDay(0, 999));
        Due.answers(999, "it had the day 999", () -> turns.setLastDay(0, -1));
        Due.answers(-1, "it had none again", () -> turns.setLastDay(0, -1));
        FilterRules zero = onDay(0);
        zero.setLastDay(0, 0);
        Due.answers(0, "it had the day 0", () -> zero.setLastDay(0, -1));
    }

    private static void setLastDayRefuses() {
        Sentence.test("Promise 12", "Throws `NoSuchElementException` if there is no such rule");
        Edges.refusesNoRule((x, rule) -> x.setLastDay(rule, 5));
        Edges.refusesNoRule((x, rule) -> x.setLastDay(rule, -1));
        Sentence.test("Promise 12",
            "Throws `IllegalArgumentException` if the day is neither -1 nor in its range");
        int[] today = {0, 20, 999};
        for (int day : today) {
            int[] beyond = IntStream.of(Edges.outside(day, 999))
                .filter(i -> i != -1).toArray();
            Snapshot.refusesEach(beyond, () -> onDay(day), Edges.ARGUMENT, "on day " + day,
                (x, last) -> x.setLastDay(0, last));
        }
        Snapshot.refuses(Edges::fullBook, Edges.ARGUMENT, "the day before, in a full book",
            x -> x.setLastDay(5, 4));
        Snapshot.refuses(Edges::fullBook, Edges.ARGUMENT, "its own day that has passed",
            x -> x.setLastDay(2, 1));
    }

    private static void rules() {
        Sentence.test("Promise 13", "Returns the number of rules.");
        Snapshot.asks(FilterRules::new, 0, "no rules", x -> x.rules());
        Snapshot.asks(() -> onDay(0), 1, "one rule", x -> x.rules());
        Snapshot.asks(Edges::gap, 2, "one of three removed", x -> x.rules());
        Snapshot.asks(RulesEdgesTest::sevenRules, 7, "one rule less", x -> x.rules());
        Snapshot.asks(Edges::allRules, 8, "all rules", x -> x.rules());
        Snapshot.asks(Edges::fullBook, 8, "one not in force", x -> x.rules());
        Snapshot.asks(Edges::allRulesRemoved, 0, "all removed", x -> x.rules());
        FilterRules full = Edges.allRules();
        Due.outcome(() -> full.addRule(0, 'a', -1, -1, -1, 0));
        Due.answers(8, "a ninth refused", () -> full.rules());
        FilterRules past = onDay(0);
        past.setLastDay(0, 0);
        past.pass(1);
        Due.answers(1, "the only one not in force", () -> past.rules());
    }

    private static void ruleAt() {
        Sentence.test("Promise 14", "- `position`: the position");
        Snapshot.asks(() -> onDay(0), 0, "ruleAt(0) of 1", x -> x.ruleAt(0));
        Snapshot.asks(Edges::allRules, 0, "ruleAt(0) of 8", x -> x.ruleAt(0));
        Snapshot.asks(Edges::allRules, 7, "ruleAt(7) of 8", x -> x.ruleAt(7));
        Sentence.test("Promise 14", "Returns the number of the rule.");
        Snapshot.asks(Edges::gap, 2, "ruleAt(0) of 2", x -> x.ruleAt(0));
        Snapshot.asks(Edges::gap, 0, "ruleAt(1) of 2", x -> x.ruleAt(1));
        Sentence.test("Promise 14",
            "Throws `IndexOutOfBoundsException` if there is no such position");
        Snapshot.refusesEach(Edges.outside(0, -1), FilterRules::new, Edges.INDEX, "position of 0",
            (x, position) -> x.ruleAt(position));
        Snapshot.refusesEach(Edges.outside(0, 1), Edges::gap, Edges.INDEX, "position of 2",
            (x, position) -> x.ruleAt(position));
        Snapshot.refusesEach(Edges.outside(0, 6), RulesEdgesTest::sevenRules, Edges.INDEX,
            "position of 7", (x, position) -> x.ruleAt(position));
        Snapshot.refusesEach(Edges.outside(0, 7), Edges::allRules, Edges.INDEX, "position of 8",
            (x, position) -> x.ruleAt(position));
        Snapshot.refusesEach(Edges.outside(0, -1), Edges::allRulesRemoved, Edges.INDEX,
            "position, all removed", (x, position) -> x.ruleAt(position));
    }

    private static void isInForce() {
        Sentence.test("Promise 15", "- `rule`: the number of the rule");
        Snapshot.asks(Edges::allRules, true, "the first rule", x -> x.isInForce(0));
        Snapshot.asks(Edges::allRules, true, "the last rule", x -> x.isInForce(7));
        Snapshot.asks(Edges::fullBook, false, "one whose day has passed", x -> x.isInForce(2));
        Sentence.test("Promise 15", "Returns whether it is.");
        FilterRules book = onDay(0);
        book.setLastDay(0, 0);
        Due.answers(true, "day 0, last day 0", () -> book.isInForce(0));
        book.pass(1);
        Due.answers(false, "day 1, last day 0", () -> book.isInForce(0));
        book.setLastDay(0, 1);
        Due.answers(true, "day 1, last day 1", () -> book.isInForce(0));
        book.setLastDay(0, 999);
        Edges.pass(book, 998);
        Due.answers(true, "day 999, last day 999", () -> book.isInForce(0));
        book.setLastDay(0, -1);
        Due.answers(true, "day 999, no last day", () -> book.isInForce(0));
        Sentence.test("Promise 15", "Throws `NoSuchElementException` if there is no such rule");
        Edges.refusesNoRule((x, rule) -> x.isInForce(rule));
    }

    private static FilterRules endingOn(int today, int lastDay) {
        FilterRules book = onDay(today);
        book.setLastDay(0, lastDay);
        return book;
    }

    private static void expiringTakes() {
        Sentence.test("Promise 16", "- `owner`: the owner, 0 to 5");
        FilterRules book = Edges.allRules();
        for (int i = 0; i < 8; i++) {
            book.setLastDay(i, 0);
        }
        Due.answers("2 2 1 1 1 1", "of 8 rules", () -> book.expiring(0, 1) + " "
            + book.expiring(1, 1) + " " + book.expiring(2, 1) + " " + book.expiring(3, 1) + " "
            + book.expiring(4, 1) + " " + book.expiring(5, 1));
        Sentence.test("Promise 16", "- `days`: the number of days, 1 to 99");
        Snapshot.asks(() -> endingOn(20, 20), 1, "1 day", x -> x.expiring(3, 1));
        Snapshot.asks(() -> endingOn(20, 21), 0, "1 day", x -> x.expiring(3, 1));
        Snapshot.asks(() -> endingOn(20, 118), 0, "98 days", x -> x.expiring(3, 98));
        Snapshot.asks(() -> endingOn(20, 118), 1, "99 days", x -> x.expiring(3, 99));
        Snapshot.asks(() -> endingOn(20, 119), 0, "99 days", x -> x.expiring(3, 99));
        Sentence.test("Promise 16", "Throws `IllegalArgumentException` if the owner or the "
            + "number of days is out of range");
        Snapshot.refusesEach(Edges.outside(0, 5), Edges::allRules, Edges.ARGUMENT, "owner",
            (x, owner) -> x.expiring(owner, 1));
        Snapshot.refusesEach(Edges.outside(1, 99), Edges::allRules, Edges.ARGUMENT, "days",
            (x, days) -> x.expiring(0, days));
        Snapshot.refusesEach(Edges.outside(1, 99), () -> onDay(999), Edges.ARGUMENT, "days",
            (x, days) -> x.expiring(0, days));
        Snapshot.refuses(FilterRules::new, Edges.ARGUMENT, "both", x -> x.expiring(6, 0));
    }

    private static void expiringAnswers() {
        Sentence.test("Promise 16", "Returns the number of rules.");
        Snapshot.asks(FilterRules::new, 0, "no rules", x -> x.expiring(5, 99));
        Snapshot.asks(() -> onDay(20), 0, "no last day", x -> x.expiring(3, 99));
        Snapshot.asks(() -> endingOn(20, 20), 0, "another owner", x -> x.expiring(2, 99));
        Sentence.test("Promise 16", "in force now and not in force any more after some days");
        Snapshot.asks(() -> endingOn(20, 22), 0, "in force on the day then", x -> x.expiring(3, 2));
        Snapshot.asks(() -> endingOn(20, 22), 1, "on the day before", x -> x.expiring(3, 3));
        Snapshot.asks(() -> endingOn(950, 999), 0, "to day 999", x -> x.expiring(3, 49));
        Snapshot.asks(() -> endingOn(950, 999), 1, "past day 999", x -> x.expiring(3, 50));
        Snapshot.asks(() -> endingOn(999, 999), 1, "on day 999", x -> x.expiring(3, 1));
        FilterRules past = endingOn(20, 22);
        past.pass(2);
        Due.answers(1, "on the last day", () -> past.expiring(3, 1));
        past.pass(1);
        Due.answers(0, "not in force now", () -> past.expiring(3, 1));
        FilterRules all = new FilterRules();
        for (int i = 0; i < 8; i++) {
            all.addRule(0, 'a', -1, -1, -1, 5);
            all.setLastDay(i, i);
        }
        Due.answers("1 2 7 8 8", "all rules", () -> all.expiring(5, 1) + " " + all.expiring(5, 2)
            + " " + all.expiring(5, 7) + " " + all.expiring(5, 8) + " " + all.expiring(5, 9));
    }
}
