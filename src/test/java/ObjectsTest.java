/** Promises 1 to 9: a new rule book and its objects. */
public final class ObjectsTest {
    private static final String INDEX = "IndexOutOfBoundsException";
    private static final String ARGUMENT = "IllegalArgumentException";
    private static final String STATE = "IllegalStateException";
    private static final String UNSUPPORTED = "UnsupportedOperationException";
    private static final String NO_ELEMENT = "NoSuchElementException";

    private ObjectsTest() {
    }

    public static void main(String[] args) {
        promise1();
        promise2();
        promise3();
        promise4();
        promise5();
        promise5Cycles();
        promise6();
        promise7();
        promise8();
        promise9();
        Due.end();
    }

    private static FilterRules withObjects(int count) {
        FilterRules book = new FilterRules();
        for (int i = 0; i < count; i++) {
            book.addObject();
        }
        return book;
    }

    /** 0 has 4-9, 8-12 and 30-30; 1 has 0-3 and the members 2 and 3; 2 has 3; 3 has 20-25. */
    private static FilterRules sample() {
        FilterRules book = withObjects(4);
        book.addRange(0, 4, 9);
        book.addRange(0, 8, 12);
        book.addRange(0, 30, 30);
        book.addRange(1, 0, 3);
        book.addMember(1, 2);
        book.addMember(1, 3);
        book.addMember(2, 3);
        book.addRange(3, 20, 25);
        book.addRule(0, 'a', 0, -1, 3, 1);
        book.addRule(1, 'd', -1, 1, -1, 2);
        return book;
    }

    private static FilterRules fullOfObjects() {
        return withObjects(8);
    }

    private static void promise1() {
        FilterRules book = new FilterRules();
        Due.answers(0, "day of a new book", () -> book.day());
        Due.answers(0, "rules of a new book", () -> book.rules());
        Due.answers(0, "accepted of a new book", () -> book.accepted());
        Due.answers('d', "packet of a new book", () -> book.packet(31, 0, 31));
        Due.answers(-1, "decider of a new book", () -> book.decider(0, 31, 0));
        Due.answers("throws." + INDEX, "values(0) of a new book", () -> book.values(0));
        Due.answers("throws." + INDEX, "ruleAt(0) of a new book", () -> book.ruleAt(0));
        FilterRules other = new FilterRules();
        book.addObject();
        book.pass(5);
        Due.answers(0, "day of another book", () -> other.day());
        Due.answers("throws." + INDEX, "users(0) of another book", () -> other.users(0));
    }

    private static void promise2() {
        FilterRules book = new FilterRules();
        for (int i = 0; i < 8; i++) {
            Due.answers(i, "addObject", () -> book.addObject());
            int object = i;
            Due.answers(0, "values of a new object", () -> book.values(object));
            Due.answers("throws." + STATE, "removeRange of it", () -> book.removeRange(object));
        }
        Snapshot.refuses(ObjectsTest::fullOfObjects, STATE, "a ninth object", x -> x.addObject());
    }

    private static void promise3() {
        FilterRules book = withObjects(2);
        Due.answers(1, "addRange(1, 0, 31)", () -> book.addRange(1, 0, 31));
        Due.answers(32, "values(1)", () -> book.values(1));
        Due.answers(0, "values(0)", () -> book.values(0));
        Due.answers(1, "addRange(0, 31, 31)", () -> book.addRange(0, 31, 31));
        Due.answers(true, "hasValue(0, 31)", () -> book.hasValue(0, 31));
        Due.answers(false, "hasValue(0, 30)", () -> book.hasValue(0, 30));
        Due.answers(2, "addRange(0, 0, 0)", () -> book.addRange(0, 0, 0));
        Due.answers(3, "addRange(0, 0, 0) again", () -> book.addRange(0, 0, 0));
        Due.answers(2, "values(0) then", () -> book.values(0));
        Due.answers("throws." + STATE, "a fourth range", () -> book.addRange(0, 5, 6));
        Snapshot.refuses(ObjectsTest::sample, INDEX, "addRange(4,..)", x -> x.addRange(4, 1, 2));
        Snapshot.refuses(ObjectsTest::sample, INDEX, "addRange(-1,..)", x -> x.addRange(-1, 9, 2));
        Snapshot.refuses(ObjectsTest::sample, INDEX, "addRange(8,..)", x -> x.addRange(8, 1, 2));
        Snapshot.refuses(ObjectsTest::sample, ARGUMENT, "low -1", x -> x.addRange(1, -1, 2));
        Snapshot.refuses(ObjectsTest::sample, ARGUMENT, "high 32", x -> x.addRange(1, 1, 32));
        Snapshot.refuses(ObjectsTest::sample, ARGUMENT, "low 32", x -> x.addRange(1, 32, 32));
        Snapshot.refuses(ObjectsTest::sample, ARGUMENT, "5 to 4", x -> x.addRange(1, 5, 4));
        Snapshot.refuses(ObjectsTest::sample, ARGUMENT, "5 to 4, full", x -> x.addRange(0, 5, 4));
        Snapshot.refuses(ObjectsTest::sample, STATE, "a fourth one", x -> x.addRange(0, 4, 5));
    }

    private static void promise4() {
        FilterRules book = sample();
        Due.answers(2, "removeRange(0)", () -> book.removeRange(0));
        Due.answers(false, "hasValue(0, 30)", () -> book.hasValue(0, 30));
        Due.answers(9, "values(0) without 30", () -> book.values(0));
        Due.answers(1, "removeRange(0)", () -> book.removeRange(0));
        Due.answers(6, "values(0) with 4-9 alone", () -> book.values(0));
        Due.answers(2, "addRange(0, 0, 1)", () -> book.addRange(0, 0, 1));
        Due.answers(8, "values(0) with 4-9 and 0-1", () -> book.values(0));
        Due.answers(1, "removeRange(0)", () -> book.removeRange(0));
        Due.answers(0, "removeRange(0)", () -> book.removeRange(0));
        Due.answers(0, "values(0) without ranges", () -> book.values(0));
        Due.answers(0, "matched(0) without ranges", () -> book.matched(0));
        Due.answers("throws." + STATE, "removeRange(0)", () -> book.removeRange(0));
        Due.answers(0, "removeRange(3)", () -> book.removeRange(3));
        Due.answers(4, "values(1) with an empty member", () -> book.values(1));
        Snapshot.refuses(ObjectsTest::sample, INDEX, "removeRange(4)", x -> x.removeRange(4));
        Snapshot.refuses(ObjectsTest::sample, INDEX, "removeRange(-1)", x -> x.removeRange(-1));
        Snapshot.refuses(ObjectsTest::sample, STATE, "removeRange(2)", x -> x.removeRange(2));
    }

    private static void promise5() {
        FilterRules book = withObjects(4);
        book.addRange(1, 0, 3);
        book.addRange(2, 2, 9);
        book.addRule(0, 'a', -1, 0, -1, 0);
        Due.answers(1, "addMember(0, 2)", () -> book.addMember(0, 2));
        Due.answers(8, "values(0)", () -> book.values(0));
        Due.answers(8192, "matched(0)", () -> book.matched(0));
        Due.answers(2, "addMember(0, 1)", () -> book.addMember(0, 1));
        Due.answers(10, "values(0)", () -> book.values(0));
        Due.answers(10240, "matched(0)", () -> book.matched(0));
        Due.answers(1, "addMember(3, 0)", () -> book.addMember(3, 0));
        Due.answers(2, "addMember(3, 1), a member of its member", () -> book.addMember(3, 1));
        Due.answers("throws." + STATE, "addMember(3, 2)", () -> book.addMember(3, 2));
        Snapshot.refuses(ObjectsTest::sample, INDEX, "addMember(4, 0)", x -> x.addMember(4, 0));
        Snapshot.refuses(ObjectsTest::sample, INDEX, "addMember(0, 4)", x -> x.addMember(0, 4));
        Snapshot.refuses(ObjectsTest::sample, INDEX, "addMember(4, 4)", x -> x.addMember(4, 4));
        Snapshot.refuses(ObjectsTest::sample, INDEX, "addMember(-1, 0)", x -> x.addMember(-1, 0));
        Snapshot.refuses(ObjectsTest::sample, INDEX, "addMember(0, -1)", x -> x.addMember(0, -1));
        Snapshot.refuses(ObjectsTest::sample, ARGUMENT, "addMember(0, 0)", x -> x.addMember(0, 0));
        Snapshot.refuses(ObjectsTest::sample, ARGUMENT, "addMember(1, 1)", x -> x.addMember(1, 1));
        Snapshot.refuses(ObjectsTest::sample, ARGUMENT, "addMember(2, 3)", x -> x.addMember(2, 3));
        Snapshot.refuses(ObjectsTest::sample, ARGUMENT, "addMember(1, 2)", x -> x.addMember(1, 2));
        Snapshot.refuses(ObjectsTest::sample, STATE, "addMember(1, 0)", x -> x.addMember(1, 0));
    }

    private static void promise5Cycles() {
        Snapshot.refuses(ObjectsTest::sample, UNSUPPORTED, "3 in 2 in 3", x -> x.addMember(3, 2));
        Snapshot.refuses(ObjectsTest::sample, UNSUPPORTED, "1 in 2", x -> x.addMember(2, 1));
        Snapshot.refuses(ObjectsTest::chain, UNSUPPORTED, "0 in 7", x -> x.addMember(7, 0));
        Snapshot.refuses(ObjectsTest::chain, UNSUPPORTED, "0 in 1", x -> x.addMember(1, 0));
        FilterRules by = withObjects(3);
        by.addMember(2, 0);
        by.addMember(0, 1);
        by.addRule(0, 'a', 2, -1, -1, 0);
        Due.answers("throws." + UNSUPPORTED, "2 in 1, by 0", () -> by.addMember(1, 2));
        Due.answers(1, "users(1), by 0 and 2", () -> by.users(1));
        FilterRules full = sample();
        full.addMember(3, 0);
        full.addObject();
        full.addMember(3, 4);
        Due.answers("throws." + UNSUPPORTED, "full and round", () -> full.addMember(3, 1));
        FilterRules book = chain();
        Due.answers(2, "addMember(0, 7)", () -> book.addMember(0, 7));
        book.removeMember(6, 7);
        Due.answers("throws." + UNSUPPORTED, "0 in 7 still", () -> book.addMember(7, 0));
        book.removeMember(0, 7);
        Due.answers(1, "addMember(7, 0) when the chain is cut", () -> book.addMember(7, 0));
    }

    /** Eight objects, each but the last with the next one as a member; the last has 5-7. */
    private static FilterRules chain() {
        FilterRules book = withObjects(8);
        for (int i = 0; i < 7; i++) {
            book.addMember(i, i + 1);
        }
        book.addRange(7, 5, 7);
        return book;
    }

    private static void promise6() {
        FilterRules book = sample();
        Due.answers(1, "removeMember(1, 3)", () -> book.removeMember(1, 3));
        Due.answers(10, "values(1), by 2 still", () -> book.values(1));
        Due.answers(0, "removeMember(1, 2)", () -> book.removeMember(1, 2));
        Due.answers(4, "values(1)", () -> book.values(1));
        Due.answers(4096, "matched(1)", () -> book.matched(1));
        Due.answers("throws." + NO_ELEMENT, "removed twice", () -> book.removeMember(1, 2));
        Due.answers(1, "addMember(3, 1)", () -> book.addMember(3, 1));
        Snapshot.refuses(ObjectsTest::sample, INDEX, "removeMember(4, 3)",
            x -> x.removeMember(4, 3));
        Snapshot.refuses(ObjectsTest::sample, INDEX, "removeMember(1, 4)",
            x -> x.removeMember(1, 4));
        Snapshot.refuses(ObjectsTest::sample, INDEX, "removeMember(1, -1)",
            x -> x.removeMember(1, -1));
        Snapshot.refuses(ObjectsTest::sample, INDEX, "removeMember(-1, 1)",
            x -> x.removeMember(-1, 1));
        Snapshot.refuses(ObjectsTest::sample, NO_ELEMENT, "removeMember(3, 2)",
            x -> x.removeMember(3, 2));
        Snapshot.refuses(ObjectsTest::sample, NO_ELEMENT, "removeMember(1, 1)",
            x -> x.removeMember(1, 1));
        Snapshot.refuses(ObjectsTest::sample, NO_ELEMENT, "removeMember(0, 3)",
            x -> x.removeMember(0, 3));
    }

    private static void promise7() {
        Snapshot.asks(ObjectsTest::sample, 10, "values(0), two ranges overlap", x -> x.values(0));
        Snapshot.asks(ObjectsTest::sample, 10, "values(1), 3 reached twice", x -> x.values(1));
        Snapshot.asks(ObjectsTest::sample, 6, "values(2), by its member", x -> x.values(2));
        Snapshot.asks(ObjectsTest::chain, 3, "values(0) of a chain", x -> x.values(0));
        Snapshot.asks(ObjectsTest::fullOfObjects, 0, "values(7), nothing", x -> x.values(7));
        Snapshot.refuses(ObjectsTest::sample, INDEX, "values(4)", x -> x.values(4));
        Snapshot.refuses(ObjectsTest::sample, INDEX, "values(-1)", x -> x.values(-1));
        Snapshot.refuses(ObjectsTest::chain, INDEX, "values(8)", x -> x.values(8));
    }

    private static void promise8() {
        int[] in = {4, 9, 10, 12, 30};
        for (int value : in) {
            Due.answers(true, "hasValue(0, " + value + ")", () -> sample().hasValue(0, value));
        }
        int[] out = {0, 3, 13, 29, 31};
        for (int value : out) {
            Due.answers(false, "hasValue(0, " + value + ")", () -> sample().hasValue(0, value));
        }
        Snapshot.asks(ObjectsTest::sample, true, "hasValue(1, 25)", x -> x.hasValue(1, 25));
        Snapshot.asks(ObjectsTest::sample, false, "hasValue(2, 3)", x -> x.hasValue(2, 3));
        Snapshot.asks(ObjectsTest::chain, true, "hasValue(0, 5)", x -> x.hasValue(0, 5));
        Snapshot.refuses(ObjectsTest::sample, INDEX, "hasValue(4, 32)", x -> x.hasValue(4, 32));
        Snapshot.refuses(ObjectsTest::sample, INDEX, "hasValue(-1, 0)", x -> x.hasValue(-1, 0));
        Snapshot.refuses(ObjectsTest::sample, ARGUMENT, "hasValue(0, 32)", x -> x.hasValue(0, 32));
        Snapshot.refuses(ObjectsTest::sample, ARGUMENT, "hasValue(0, -1)", x -> x.hasValue(0, -1));
        Snapshot.refuses(ObjectsTest::sample, ARGUMENT, "hasValue(0, 36)", x -> x.hasValue(0, 36));
    }

    private static void promise9() {
        Snapshot.asks(ObjectsTest::sample, 1, "users(0)", x -> x.users(0));
        Snapshot.asks(ObjectsTest::sample, 1, "users(1)", x -> x.users(1));
        Snapshot.asks(ObjectsTest::sample, 1, "users(2), by 1", x -> x.users(2));
        Snapshot.asks(ObjectsTest::sample, 2, "users(3), in both", x -> x.users(3));
        Snapshot.asks(ObjectsTest::chain, 0, "users(7) without rules", x -> x.users(7));
        Snapshot.refuses(ObjectsTest::sample, INDEX, "users(4)", x -> x.users(4));
        Snapshot.refuses(ObjectsTest::sample, INDEX, "users(-1)", x -> x.users(-1));
        FilterRules book = chain();
        book.addRule(0, 'a', 3, 0, 3, 0);
        book.addRule(0, 'd', -1, -1, 6, 0);
        book.addRule(0, 'd', -1, -1, -1, 0);
        Due.answers(2, "users(7)", () -> book.users(7));
        Due.answers(1, "users(5)", () -> book.users(5));
        Due.answers(1, "users(1), by 0 in field 1", () -> book.users(1));
        book.setLastDay(1, 0);
        book.pass(1);
        Due.answers(2, "users(7), one rule not in force", () -> book.users(7));
        book.removeRule(1);
        Due.answers(1, "users(7) without that rule", () -> book.users(7));
        book.removeMember(5, 6);
        Due.answers(0, "users(7) when the chain is cut", () -> book.users(7));
        Due.answers(1, "users(5) when the chain is cut", () -> book.users(5));
    }
}
