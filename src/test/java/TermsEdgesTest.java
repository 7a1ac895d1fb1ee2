import java.io.IOException;

/** The edges that the document's terms name, sentence by sentence. */
public final class TermsEdgesTest {
    private static final int MIN = Integer.MIN_VALUE;
    private static final int MAX = Integer.MAX_VALUE;
    private static final String FIRST =
        "If several exceptions apply, the one that is documented first is thrown.";

    private TermsEdgesTest() {
    }

    public static void main(String[] args) throws IOException {
        calls();
        packets();
        objects();
        members();
        dependences();
        rules();
        numbersOfRules();
        partsOfRules();
        inForce();
        matches();
        decisions();
        hits();
        refusedCallsChangeNothing();
        firstExceptionOfObjects();
        firstExceptionOfRules();
        Sentence.allTermsTested();
        Due.end();
    }

    private static void calls() {
        Sentence.test("What it is", "An object is used for at most 512 calls");
        FilterRules packets = new FilterRules();
        packets.addRule(0, 'a', -1, -1, -1, 0);
        for (int i = 0; i < 510; i++) {
            packets.packet(i % 32, 0, 0);
        }
        Due.answers(510, "hits, the 512th call", () -> packets.hits(0));
        FilterRules rules = new FilterRules();
        for (int i = 0; i < 255; i++) {
            rules.addRule(0, 'd', -1, -1, -1, 0);
            rules.removeRule(i);
        }
        rules.addObject();
        Due.answers(255, "addRule, the 512th call", () -> rules.addRule(0, 'a', 0, 0, 0, 0));
        FilterRules refused = new FilterRules();
        for (int i = 0; i < 511; i++) {
            Due.outcome(() -> refused.addRange(0, 0, 0));
        }
        Due.answers(0, "addObject, the 512th call", () -> refused.addObject());
    }

    private static void packets() {
        Sentence.test("Terms", "A packet has a value from 0 to 31 in each of three fields: 0 the "
            + "source, 1 the target, 2 the service; so there are 32768 packets.");
        FilterRules all = Edges.told("a...");
        int[] ends = {0, 31};
        for (int source : ends) {
            for (int target : ends) {
                for (int service : ends) {
                    Due.answers('a', "a packet at a corner",
                        () -> all.packet(source, target, service));
                }
            }
        }
        Due.answers(32768, "all packets", () -> all.matched(0));
        Due.answers("a d d", "the field 0", () -> corners(Edges.told("a2..")));
        Due.answers("d a d", "the field 1", () -> corners(Edges.told("a.2.")));
        Due.answers("d d a", "the field 2", () -> corners(Edges.told("a..2")));
        Due.answers("throws." + Edges.ARGUMENT, "source 32", () -> all.packet(32, 0, 0));
        Due.answers("throws." + Edges.ARGUMENT, "target 32", () -> all.packet(0, 32, 0));
        Due.answers("throws." + Edges.ARGUMENT, "service 32", () -> all.packet(0, 0, 32));
    }

    private static String corners(FilterRules book) {
        return book.packet(31, 0, 0) + " " + book.packet(0, 31, 0) + " " + book.packet(0, 0, 31);
    }

    private static void objects() {
        Sentence.test("Terms",
            "At most 8 objects are numbered from 0 in the order in which they were added.");
        FilterRules book = new FilterRules();
        for (int i = 0; i < 8; i++) {
            int object = i;
            Due.answers("throws." + Edges.INDEX, "values of it before", () -> book.values(object));
            Due.answers(object, "addObject", () -> book.addObject());
            Due.answers(1, "addRange to it", () -> book.addRange(object, 0, object));
            Due.answers(object + 1, "values of it", () -> book.values(object));
        }
        Due.answers("throws." + Edges.STATE, "a ninth one", () -> book.addObject());
        Due.answers("throws." + Edges.INDEX, "values of it", () -> book.values(8));
        Due.answers("1 8", "values of the others", () -> book.values(0) + " " + book.values(7));
    }

    private static void members() {
        Sentence.test("Terms", "An object has at most 3 ranges of values, and at most 2 members, "
            + "which are other objects.");
        FilterRules book = Edges.objects(4);
        Due.answers("1 2 3", "ranges", () -> book.addRange(3, 0, 0) + " " + book.addRange(3, 2, 2)
            + " " + book.addRange(3, 4, 4));
        Due.answers("throws." + Edges.STATE, "a fourth range", () -> book.addRange(3, 6, 6));
        Due.answers("1 2", "members", () -> book.addMember(3, 0) + " " + book.addMember(3, 1));
        Due.answers("throws." + Edges.STATE, "a third member", () -> book.addMember(3, 2));
        Due.answers("throws." + Edges.ARGUMENT, "itself", () -> book.addMember(2, 2));
        Sentence.test("Terms", "Its values are those of its ranges and those of its members.");
        Due.answers(3, "empty members", () -> book.values(3));
        book.addRange(0, 30, 31);
        book.addRange(1, 31, 31);
        Due.answers(5, "a value of both members", () -> book.values(3));
        book.addRange(2, 10, 19);
        book.addMember(1, 2);
        Due.answers(15, "values of a member's member", () -> book.values(3));
        Due.answers(2, "values of the member without members", () -> book.values(0));
        for (int i = 0; i < 3; i++) {
            book.removeRange(3);
        }
        Due.answers(12, "no ranges", () -> book.values(3));
    }

    private static void dependences() {
        Sentence.test("Terms", "An object depends on its members, and on whatever these depend "
            + "on; no object depends on itself.");
        FilterRules ring = Edges.allObjects();
        for (int i = 0; i < 7; i++) {
            ring.addMember(i, i + 1);
        }
        ring.addRule(0, 'a', 0, -1, -1, 0);
        for (int i = 0; i < 8; i++) {
            int object = i;
            Due.answers(1, "users, by 0", () -> ring.users(object));
            boolean itself = i == 7;
            Due.answers("throws." + (itself ? Edges.ARGUMENT : Edges.UNSUPPORTED), i + " in 7",
                () -> ring.addMember(7, object));
        }
        ring.removeMember(3, 4);
        Due.answers("1 0 0", "users when it is cut", () -> ring.users(3) + " " + ring.users(4)
            + " " + ring.users(7));
        Due.answers(1, "0 in 7 when it is cut", () -> ring.addMember(7, 0));
        Due.answers("throws." + Edges.UNSUPPORTED, "4 in 3 then", () -> ring.addMember(3, 4));
        Due.answers("throws." + Edges.UNSUPPORTED, "6 in 0 then", () -> ring.addMember(0, 6));
        Due.answers(2, "3 in 6, which is no ring", () -> ring.addMember(6, 3));
    }

    private static void rules() {
        Sentence.test("Terms", "At most 8 rules are there; a rule has a number, given from 0 on in "
            + "the order in which rules were added, and not given again.");
        FilterRules book = new FilterRules();
        for (int i = 0; i < 8; i++) {
            int rule = i;
            Due.answers("throws." + Edges.NO_ELEMENT, "hits before", () -> book.hits(rule));
            Due.answers(rule, "addRule", () -> book.addRule(0, 'a', -1, -1, -1, 0));
            Due.answers(0, "hits", () -> book.hits(rule));
        }
        for (int i = 0; i < 3; i++) {
            Due.answers("throws." + Edges.STATE, "a ninth one",
                () -> book.addRule(0, 'a', -1, -1, -1, 0));
        }
        Due.answers("throws." + Edges.NO_ELEMENT, "hits of it", () -> book.hits(8));
        book.removeRule(7);
        Due.answers(8, "addRule for the last number", () -> book.addRule(0, 'a', -1, -1, -1, 0));
        book.removeRule(0);
        Due.answers(9, "addRule for the first number", () -> book.addRule(7, 'a', -1, -1, -1, 0));
        Due.answers("throws." + Edges.NO_ELEMENT, "the removed one", () -> book.hits(7));
        Due.answers("throws." + Edges.NO_ELEMENT, "the removed one", () -> book.hits(0));
        Sentence.test("Terms", "Rules are in an order; their positions are numbered from 0.");
        Due.answers("8 6 5 4 3 2 1 9", "the order", () -> Edges.orderOf(book));
        Due.answers("throws." + Edges.INDEX, "position 8", () -> book.ruleAt(8));
        Due.answers("throws." + Edges.INDEX, "position -1", () -> book.ruleAt(-1));
    }

    private static void numbersOfRules() {
        Sentence.test("Terms", "not given again");
        FilterRules book = new FilterRules();
        for (int i = 0; i < 100; i++) {
            int rule = i;
            Due.outcome(() -> book.addRule(1, 'a', -1, -1, -1, 0));
            Due.outcome(() -> book.addRule(0, 'x', -1, -1, -1, 0));
            Due.answers(rule, "addRule", () -> book.addRule(0, 'a', -1, -1, -1, 0));
            Due.answers(32768, "removeRule", () -> book.removeRule(rule));
            Due.answers("throws." + Edges.NO_ELEMENT, "hits", () -> book.hits(rule));
        }
    }

    private static void partsOfRules() {
        Sentence.test("Terms", "A rule has an action, 'a' to accept or 'd' to deny, for each field "
            + "an object or none, an owner from 0 to 5, and a last day, or none.");
        Due.answers("a d", "actions", () -> Edges.told("a...").packet(0, 0, 0) + " "
            + Edges.told("d... a...").packet(0, 0, 0));
        Due.answers("1 32768", "objects, or none", () -> Edges.told("a111").matched(0) + " "
            + Edges.told("a...").matched(0));
        Due.answers("-1 0", "a last day, or none", () -> lastDays());
        FilterRules book = new FilterRules();
        Due.answers("throws." + Edges.ARGUMENT, "owner 6",
            () -> book.addRule(0, 'a', -1, -1, -1, 6));
        Due.answers(0, "owner 5", () -> book.addRule(0, 'a', -1, -1, -1, 5));
        book.setLastDay(0, 0);
        Due.answers("1 0", "of owners 5 and 0", () -> book.expiring(5, 1) + " "
            + book.expiring(0, 1));
    }

    private static String lastDays() {
        FilterRules book = Edges.told("a...");
        return book.setLastDay(0, 0) + " " + book.setLastDay(0, -1);
    }

    private static void inForce() {
        Sentence.test("Terms", "A rule is in force up to its last day.");
        FilterRules book = Edges.told("a...");
        book.setLastDay(0, 7);
        for (int day = 0; day < 10; day++) {
            boolean due = day <= 7;
            Due.answers(due, "isInForce on day " + day, () -> book.isInForce(0));
            Due.answers(due ? 32768 : 0, "accepted", () -> book.accepted());
            Due.answers(due ? 32768 : 0, "decided", () -> book.decided(0));
            Due.answers(due ? 32768 : 0, "decidedBySamples", () -> book.decidedBySamples(0));
            Due.answers(due ? 0 : -1, "decider", () -> book.decider(0, 0, 0));
            Due.answers(due ? 'a' : 'd', "packet", () -> book.packet(0, 0, 0));
            Due.answers(Math.min(day, 7) + 1, "hits", () -> book.hits(0));
            Due.answers(due ? "0.0" : "throws." + Edges.ARITHMETIC, "shadowedShare",
                () -> book.shadowedShare());
            book.pass(1);
        }
    }

    private static void matches() {
        Sentence.test("Terms", "A rule matches a packet if, for each field for which it has an "
            + "object, the value of the packet is among the values of the object.");
        Due.answers(0, "all fields match", () -> Edges.told("a111").decider(0, 0, 0));
        Due.answers(-1, "not the source", () -> Edges.told("a111").decider(1, 0, 0));
        Due.answers(-1, "not the target", () -> Edges.told("a111").decider(0, 1, 0));
        Due.answers(-1, "not the service", () -> Edges.told("a111").decider(0, 0, 1));
        Due.answers(0, "no source asked for", () -> Edges.told("a.11").decider(31, 0, 0));
        Due.answers(0, "no target asked for", () -> Edges.told("a1.1").decider(0, 31, 0));
        Due.answers(0, "no service asked for", () -> Edges.told("a11.").decider(0, 0, 31));
        Due.answers(0, "nothing asked for", () -> Edges.told("a...").decider(31, 0, 31));
        Due.answers(-1, "an empty object", () -> Edges.told("a..4").decider(0, 0, 0));
        FilterRules book = Edges.told("a.4.");
        book.addRange(4, 9, 9);
        Due.answers("-1 0", "a range more", () -> decidersOfTargets(book, 8, 9));
        book.addMember(4, 1);
        Due.answers("0 0", "a member more", () -> decidersOfTargets(book, 0, 9));
        book.removeRange(4);
        Due.answers("0 -1", "a range less", () -> decidersOfTargets(book, 0, 9));
        book.removeMember(4, 1);
        Due.answers("-1 -1", "a member less", () -> decidersOfTargets(book, 0, 9));
        FilterRules chain = Edges.allObjects();
        for (int i = 0; i < 7; i++) {
            chain.addMember(i, i + 1);
        }
        chain.addRule(0, 'a', -1, 0, -1, 0);
        chain.addRange(7, 9, 9);
        Due.answers("-1 0", "a chain of 7 members", () -> decidersOfTargets(chain, 8, 9));
    }

    private static String decidersOfTargets(FilterRules book, int one, int other) {
        return book.decider(0, one, 0) + " " + book.decider(0, other, 0);
    }

    private static void decisions() {
        Sentence.test("Terms", "A packet is decided by the first rule in the order that is in "
            + "force and matches it; its decision is the action of this rule.");
        FilterRules book = Edges.told("a... d1.. a1.1 d111");
        Due.answers("0 a", "all match", () -> book.decider(0, 0, 0) + " " + book.packet(0, 0, 0));
        book.setLastDay(0, 0);
        book.pass(1);
        Due.answers("1 d", "0 past", () -> book.decider(0, 0, 0) + " " + book.packet(0, 0, 0));
        book.setLastDay(1, 1);
        book.pass(1);
        Due.answers("2 a", "1 past", () -> book.decider(0, 0, 0) + " " + book.packet(0, 0, 0));
        book.removeRule(2);
        Due.answers("3 d", "2 out", () -> book.decider(0, 0, 0) + " " + book.packet(0, 0, 0));
        Sentence.test("Terms", "If there is none, its decision is 'd'.");
        Due.answers("-1 d", "none matches",
            () -> book.decider(0, 0, 1) + " " + book.packet(0, 0, 1));
        Due.answers('d', "no rules", () -> new FilterRules().packet(0, 0, 0));
        Due.answers('d', "none in force", () -> Edges.toldButPast("a...", 0).packet(0, 0, 0));
        Sentence.test("Terms",
            "A rule is shadowed if it is in force and decides none of the 32768 packets.");
        Due.answers(true, "0 packets", () -> Edges.told("a5.. d5..").isShadowed(1));
        Due.answers(false, "1 packet", () -> Edges.told("a5.. a.5. a..5 d...").isShadowed(3));
        Due.answers(false, "not in force", () -> Edges.toldButPast("a5.. d5..", 1).isShadowed(1));
        Sentence.test("Terms", "A rule that is told to be shadowed decides no packet.");
        FilterRules hidden = Edges.told("a5.. a.5. a..5 d555");
        Due.answers("true 0 0", "a shadowed rule", () -> hidden.isShadowed(3) + " "
            + hidden.decided(3) + " " + hidden.decidedBySamples(3));
    }

    private static void hits() {
        Sentence.test("Terms", "When a packet comes, the hits of the rule that decides it increase "
            + "by 1, and the rule was last hit on this day.");
        FilterRules book = Edges.told("a1.. d...");
        book.pass(4);
        Due.answers('a', "packet", () -> book.packet(0, 0, 0));
        Due.answers("1 0", "hits", () -> book.hits(0) + " " + book.hits(1));
        Due.answers("0 4", "idleDays", () -> book.idleDays(0) + " " + book.idleDays(1));
        Sentence.test("Terms", "A rule is idle for as many days as have passed since it was last "
            + "hit, or, if it never was, since it was added.");
        book.addRule(0, 'd', 2, -1, -1, 0);
        book.pass(1);
        Due.answers("1 5 1", "idleDays", () -> book.idleDays(0) + " " + book.idleDays(1) + " "
            + book.idleDays(2));
        Due.answers('d', "packet", () -> book.packet(1, 0, 0));
        Due.answers("1 0 1", "idleDays", () -> book.idleDays(0) + " " + book.idleDays(1) + " "
            + book.idleDays(2));
    }

    /** Each exception of each method once, all on one book, which stays as it was. */
    private static void refusedCallsChangeNothing() {
        Sentence.test("Terms", "A method that throws an exception changes nothing.");
        Snapshot.asks(Edges::fullBook, 47, "all refused calls one after another",
            TermsEdgesTest::refusedCalls);
        Snapshot.asks(Edges::fullBook, 2 * 47, "and all of them again",
            x -> refusedCalls(x) + refusedCalls(x));
    }

    private static int refusedCalls(FilterRules x) {
        FilterRules none = new FilterRules();
        Due.Call[] calls = {
            () -> x.addObject(), () -> x.addRange(8, 0, 0), () -> x.addRange(0, 1, 0),
            () -> x.addRange(0, 0, 31), () -> x.removeRange(-1), () -> none.removeRange(0),
            () -> x.addMember(8, 0), () -> x.addMember(7, 7), () -> x.addMember(7, 0),
            () -> x.addMember(0, 3), () -> x.removeMember(0, 8), () -> x.removeMember(0, 3),
            () -> x.values(8), () -> x.hasValue(8, 0), () -> x.hasValue(0, 32), () -> x.users(8),
            () -> x.addRule(9, 'a', 0, 0, 0, 0), () -> x.addRule(0, 'b', 0, 0, 0, 0),
            () -> x.addRule(0, 'a', 0, 0, 0, 0), () -> x.removeRule(8), () -> x.setLastDay(8, -1),
            () -> x.setLastDay(0, 0), () -> x.ruleAt(8), () -> x.isInForce(8),
            () -> x.expiring(6, 1), () -> x.expiring(0, 100), () -> x.packet(0, 0, 32),
            () -> x.decider(32, 0, 0), () -> x.hits(8), () -> x.busyDays(8), () -> x.idleDays(8),
            () -> x.pass(100), () -> x.matched(8), () -> x.decided(8), () -> x.decidedBySamples(8),
            () -> x.isShadowed(8), () -> x.mainShadow(8), () -> x.mainShadow(0),
            () -> x.changedByMove(8, 0), () -> x.changedByMove(0, 8), () -> x.move(8, 0),
            () -> x.move(0, 8), () -> x.move(0, 1), () -> x.changedByRange(8, 0, 0),
            () -> x.changedByRange(0, 1, 0), () -> none.shadowedShare(), () -> none.meanHits()};
        int refused = 0;
        for (Due.Call call : calls) {
            refused += Due.outcome(call).startsWith("throws.") ? 1 : 0;
        }
        return refused;
    }

    private static void first(String exception, String what, Snapshot.Call call) {
        Snapshot.refuses(Edges::fullBook, exception, what, call);
    }

    private static void firstExceptionOfObjects() {
        Sentence.test("Terms", FIRST);
        first(Edges.INDEX, "addRange: index, argument", x -> x.addRange(8, 32, -1));
        first(Edges.ARGUMENT, "addRange: argument, state", x -> x.addRange(0, 1, 0));
        first(Edges.INDEX, "addMember: index, argument", x -> x.addMember(8, 8));
        first(Edges.INDEX, "addMember: index, state", x -> x.addMember(0, 8));
        first(Edges.ARGUMENT, "addMember: argument, unsupported", x -> x.addMember(7, 7));
        first(Edges.ARGUMENT, "addMember: argument, state", x -> x.addMember(0, 1));
        first(Edges.ARGUMENT, "addMember: all but index", x -> x.addMember(0, 0));
        first(Edges.UNSUPPORTED, "addMember: unsupported, state", x -> x.addMember(5, 0));
        first(Edges.INDEX, "removeMember: index, no element", x -> x.removeMember(0, -1));
        first(Edges.INDEX, "removeMember: index, no element", x -> x.removeMember(8, 0));
        first(Edges.INDEX, "hasValue: index, argument", x -> x.hasValue(8, 32));
        first(Edges.INDEX, "changedByRange: index, argument", x -> x.changedByRange(-1, 5, 4));
        Snapshot.refuses(FilterRules::new, Edges.INDEX, "addMember of a new book",
            x -> x.addMember(0, 0));
        Snapshot.refuses(FilterRules::new, Edges.INDEX, "removeRange of a new book",
            x -> x.removeRange(0));
    }

    private static void firstExceptionOfRules() {
        Sentence.test("Terms", FIRST);
        first(Edges.INDEX, "addRule: all, by position", x -> x.addRule(9, 'x', 0, 0, 0, 6));
        first(Edges.INDEX, "addRule: all, by source", x -> x.addRule(0, 'x', 8, 0, 0, 6));
        first(Edges.INDEX, "addRule: all, by target", x -> x.addRule(0, 'x', 0, -2, 0, 6));
        first(Edges.INDEX, "addRule: all, by service", x -> x.addRule(0, 'x', 0, 0, 8, 6));
        first(Edges.INDEX, "addRule: index, state", x -> x.addRule(9, 'a', 0, 0, 0, 0));
        first(Edges.ARGUMENT, "addRule: action, state", x -> x.addRule(8, 'x', 0, 0, 0, 0));
        first(Edges.ARGUMENT, "addRule: owner, state", x -> x.addRule(8, 'd', 0, 0, 0, -1));
        first(Edges.NO_ELEMENT, "setLastDay: element, argument", x -> x.setLastDay(8, 1000));
        first(Edges.NO_ELEMENT, "setLastDay: element, argument", x -> x.setLastDay(MAX, MIN));
        first(Edges.NO_ELEMENT, "changedByMove: element, index", x -> x.changedByMove(8, 8));
        first(Edges.NO_ELEMENT, "move: element, index", x -> x.move(8, 8));
        first(Edges.NO_ELEMENT, "move: element, index", x -> x.move(MIN, MAX));
        first(Edges.INDEX, "move: index, unsupported", x -> x.move(0, 8));
        first(Edges.INDEX, "move: index, unsupported", x -> x.move(0, -1));
        Snapshot.refuses(FilterRules::new, Edges.NO_ELEMENT, "move of a new book",
            x -> x.move(0, 0));
    }
}
