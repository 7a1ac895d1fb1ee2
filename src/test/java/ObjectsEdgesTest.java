import java.io.IOException;

/** The edges of the promises 1 to 9, sentence by sentence. */
public final class ObjectsEdgesTest {
    private ObjectsEdgesTest() {
    }

    public static void main(String[] args) throws IOException {
        newBookHasNoObjects();
        newBookHasNoRules();
        addObject();
        addRangeTakes();
        addRangeRefuses();
        addRangeFull();
        removeRange();
        addMemberTakes();
        addMemberRefuses();
        addMemberRound();
        addMemberFull();
        removeMember();
        values();
        hasValue();
        users();
        Sentence.allTested(1, 9);
        Due.end();
    }

    private static void newBookHasNoObjects() {
        Sentence.test("Promise 1", "Creates a rule book without objects and rules, on the day 0.");
        Snapshot.Maker made = FilterRules::new;
        Snapshot.refuses(made, Edges.INDEX, "addRange", x -> x.addRange(0, 0, 0));
        Snapshot.refuses(made, Edges.INDEX, "removeRange", x -> x.removeRange(0));
        Snapshot.refuses(made, Edges.INDEX, "addMember", x -> x.addMember(0, 1));
        Snapshot.refuses(made, Edges.INDEX, "removeMember", x -> x.removeMember(0, 1));
        Snapshot.refuses(made, Edges.INDEX, "values", x -> x.values(0));
        Snapshot.refuses(made, Edges.INDEX, "hasValue", x -> x.hasValue(0, 0));
        Snapshot.refuses(made, Edges.INDEX, "users", x -> x.users(0));
        Snapshot.refuses(made, Edges.INDEX, "changedByRange", x -> x.changedByRange(0, 0, 0));
        Snapshot.asks(made, 0, "day", x -> x.day());
        Snapshot.asks(made, 'd', "packet", x -> x.packet(0, 0, 0));
        Snapshot.asks(made, -1, "decider", x -> x.decider(0, 0, 0));
        Due.answers(0, "the first object", () -> new FilterRules().addObject());
        Due.answers(1, "the first day to come", () -> new FilterRules().pass(1));
    }

    private static void newBookHasNoRules() {
        Sentence.test("Promise 1", "without objects and rules");
        Snapshot.Maker made = FilterRules::new;
        Snapshot.refuses(made, Edges.INDEX, "ruleAt", x -> x.ruleAt(0));
        Snapshot.refuses(made, Edges.NO_ELEMENT, "removeRule", x -> x.removeRule(0));
        Snapshot.refuses(made, Edges.NO_ELEMENT, "hits", x -> x.hits(0));
        Snapshot.refuses(made, Edges.NO_ELEMENT, "move", x -> x.move(0, 0));
        Snapshot.refuses(made, Edges.ARITHMETIC, "shadowedShare", x -> x.shadowedShare());
        Snapshot.refuses(made, Edges.ARITHMETIC, "meanHits", x -> x.meanHits());
        Snapshot.asks(made, 0, "rules", x -> x.rules());
        Snapshot.asks(made, 0, "accepted", x -> x.accepted());
        Snapshot.asks(made, 0, "expiring", x -> x.expiring(0, 99));
        Snapshot.asks(made, 0, "sortByHits", x -> x.sortByHits());
        Due.answers(0, "the first rule", () -> new FilterRules().addRule(0, 'a', -1, -1, -1, 0));
    }

    private static void addObject() {
        Sentence.test("Promise 2", "Returns the number of the object.");
        Due.answers(0, "the first object", () -> new FilterRules().addObject());
        Due.answers(7, "the last object", () -> Edges.objects(7).addObject());
        Sentence.test("Promise 2", "Adds an object without ranges and members.");
        FilterRules book = Edges.ranges(0, 31, 3, 4);
        book.addObject();
        Due.answers(0, "its values", () -> book.values(2));
        Due.answers("throws." + Edges.STATE, "its ranges", () -> book.removeRange(2));
        Due.answers("throws." + Edges.NO_ELEMENT, "its members", () -> book.removeMember(2, 0));
        Due.answers("throws." + Edges.NO_ELEMENT, "its members", () -> book.removeMember(2, 1));
        Sentence.test("Promise 2", "Throws `IllegalStateException` if there are 8 objects");
        Due.answers(7, "addObject to 7", () -> Edges.objects(7).addObject());
        Snapshot.refuses(Edges::allObjects, Edges.STATE, "addObject to 8", x -> x.addObject());
        Snapshot.refuses(Edges::fullBook, Edges.STATE, "addObject, full", x -> x.addObject());
        FilterRules full = Edges.allObjects();
        for (int i = 0; i < 300; i++) {
            Due.answers("throws." + Edges.STATE, "addObject", () -> full.addObject());
        }
        Due.answers("throws." + Edges.INDEX, "values(8) then", () -> full.values(8));
        Due.answers(0, "values(7) then", () -> full.values(7));
    }

    private static void addRangeTakes() {
        Sentence.test("Promise 3", "- `object`: the number of the object");
        FilterRules book = Edges.allObjects();
        Due.answers(1, "addRange(0, 0, 1)", () -> book.addRange(0, 0, 1));
        Due.answers(1, "addRange(7, 29, 31)", () -> book.addRange(7, 29, 31));
        Due.answers("2 0 0 3", "values", () -> book.values(0) + " " + book.values(1) + " "
            + book.values(6) + " " + book.values(7));
        Sentence.test("Promise 3", "- `low`: the first value, 0 to 31");
        Due.answers("6: 0 to 5", "0 to 5", () -> valuesAfterRange(0, 5));
        Due.answers("1: 31 to 31", "31 to 31", () -> valuesAfterRange(31, 31));
        Due.answers("31: 1 to 31", "1 to 31", () -> valuesAfterRange(1, 31));
        Due.answers("2: 30 to 31", "30 to 31", () -> valuesAfterRange(30, 31));
        Snapshot.refusesEach(Edges.outside(0, 31), Edges::oneObject, Edges.ARGUMENT, "low",
            (x, low) -> x.addRange(0, low, 31));
        Sentence.test("Promise 3", "- `high`: the last value, from the first one to 31");
        Due.answers("1: 0 to 0", "0 to 0", () -> valuesAfterRange(0, 0));
        Due.answers("1: 7 to 7", "7 to 7", () -> valuesAfterRange(7, 7));
        Due.answers("24: 7 to 30", "7 to 30", () -> valuesAfterRange(7, 30));
        Due.answers("25: 7 to 31", "7 to 31", () -> valuesAfterRange(7, 31));
        Due.answers("32: 0 to 31", "0 to 31", () -> valuesAfterRange(0, 31));
        Snapshot.refusesEach(Edges.outside(7, 31), Edges::oneObject, Edges.ARGUMENT, "high",
            (x, high) -> x.addRange(0, 7, high));
        Snapshot.refusesEach(Edges.outside(31, 31), Edges::oneObject, Edges.ARGUMENT, "high",
            (x, high) -> x.addRange(0, 31, high));
        Sentence.test("Promise 3", "Returns the number of ranges of the object then.");
        FilterRules ranges = Edges.oneObject();
        Due.answers(1, "the first range", () -> ranges.addRange(0, 4, 9));
        Due.answers(2, "the same range", () -> ranges.addRange(0, 4, 9));
        Due.answers(3, "a range that touches it", () -> ranges.addRange(0, 10, 10));
        Due.answers(7, "values", () -> ranges.values(0));
    }

    private static String valuesAfterRange(int low, int high) {
        FilterRules book = Edges.oneObject();
        book.addRange(0, low, high);
        int first = 0;
        while (first < 31 && !book.hasValue(0, first)) {
            first++;
        }
        int last = 31;
        while (last > 0 && !book.hasValue(0, last)) {
            last--;
        }
        return book.values(0) + ": " + first + " to " + last;
    }

    private static void addRangeRefuses() {
        Sentence.test("Promise 3", "Throws `IndexOutOfBoundsException` if there is no such object");
        Edges.refusesNoObject((x, object) -> x.addRange(object, 0, 0));
        Sentence.test("Promise 3", "Throws `IllegalArgumentException` if a value is out of range");
        int[][] wrong = {{1, 0}, {5, 4}, {31, 0}, {31, 30}, {-1, 32}, {32, 32}, {-1, -1}, {32, -1},
            {0, 32}, {-1, 0}, {-1, 31}, {64, 64}, {Integer.MIN_VALUE, Integer.MAX_VALUE},
            {Integer.MAX_VALUE, Integer.MIN_VALUE}, {Integer.MAX_VALUE, Integer.MAX_VALUE}};
        for (int[] range : wrong) {
            Snapshot.refuses(Edges::oneObject, Edges.ARGUMENT, range[0] + " to " + range[1],
                x -> x.addRange(0, range[0], range[1]));
            Snapshot.refuses(Edges::fullBook, Edges.ARGUMENT, range[0] + " to " + range[1],
                x -> x.addRange(0, range[0], range[1]));
        }
        Due.answers(1, "0 to 0", () -> Edges.oneObject().addRange(0, 0, 0));
        Due.answers(1, "31 to 31", () -> Edges.oneObject().addRange(0, 31, 31));
    }

    private static FilterRules threeRanges() {
        FilterRules book = Edges.ranges(4, 9, 4, 9);
        book.addRange(0, 0, 0);
        book.addRange(0, 4, 9);
        return book;
    }

    private static void addRangeFull() {
        Sentence.test("Promise 3", "Throws `IllegalStateException` if the object has 3 ranges");
        FilterRules two = Edges.ranges(4, 9);
        two.addRange(0, 0, 0);
        Due.answers(3, "a third range", () -> two.addRange(0, 31, 31));
        Due.answers(8, "values then", () -> two.values(0));
        Snapshot.Maker three = ObjectsEdgesTest::threeRanges;
        Snapshot.refuses(three, Edges.STATE, "a fourth range", x -> x.addRange(0, 20, 25));
        Snapshot.refuses(three, Edges.STATE, "all values", x -> x.addRange(0, 0, 31));
        Snapshot.refuses(three, Edges.STATE, "a range that it has", x -> x.addRange(0, 4, 9));
        FilterRules book = threeRanges();
        Due.answers(2, "addRange to another object", () -> book.addRange(1, 20, 25));
        book.removeRange(0);
        Due.answers(3, "addRange after removeRange", () -> book.addRange(0, 20, 25));
        Due.answers("throws." + Edges.STATE, "addRange then", () -> book.addRange(0, 1, 1));
        Due.answers(13, "values then", () -> book.values(0));
    }

    private static void removeRange() {
        Sentence.test("Promise 4", "- `object`: the number of the object");
        FilterRules book = Edges.rules(8);
        Due.answers(0, "removeRange(0)", () -> book.removeRange(0));
        Due.answers(0, "removeRange(7)", () -> book.removeRange(7));
        Due.answers("0 1 1 0", "values", () -> book.values(0) + " " + book.values(1) + " "
            + book.values(6) + " " + book.values(7));
        Sentence.test("Promise 4", "Returns the number of ranges of the object then.");
        FilterRules three = threeRanges();
        Due.answers(2, "removeRange from 3", () -> three.removeRange(0));
        Due.answers(7, "values, 4 to 9 stands still", () -> three.values(0));
        Due.answers(1, "removeRange from 2", () -> three.removeRange(0));
        Due.answers(6, "values", () -> three.values(0));
        Due.answers(0, "removeRange from 1", () -> three.removeRange(0));
        Due.answers(0, "values", () -> three.values(0));
        Sentence.test("Promise 4", "Throws `IndexOutOfBoundsException` if there is no such object");
        Edges.refusesNoObject((x, object) -> x.removeRange(object));
        Sentence.test("Promise 4", "Throws `IllegalStateException` if it has none");
        Due.answers(0, "removeRange of its only one", () -> Edges.ranges(0, 31).removeRange(0));
        Snapshot.refuses(Edges::oneObject, Edges.STATE, "none added", x -> x.removeRange(0));
        Snapshot.refuses(ObjectsEdgesTest::onlyMembers, Edges.STATE, "members alone",
            x -> x.removeRange(0));
        for (int i = 0; i < 3; i++) {
            Due.answers("throws." + Edges.STATE, "none left", () -> three.removeRange(0));
        }
        Due.answers(1, "addRange then", () -> three.addRange(0, 2, 3));
        Due.answers(2, "values then", () -> three.values(0));
    }

    private static FilterRules onlyMembers() {
        FilterRules book = Edges.objects(3);
        book.addMember(0, 1);
        book.addMember(0, 2);
        book.addRange(1, 0, 15);
        book.addRange(2, 15, 31);
        return book;
    }

    private static void addMemberTakes() {
        Sentence.test("Promise 5", "- `object`: the number of the object that gets a member");
        FilterRules first = Edges.allObjects();
        Due.answers(1, "addMember(0, 7)", () -> first.addMember(0, 7));
        first.addRange(7, 3, 5);
        Due.answers("3 0", "values", () -> first.values(0) + " " + first.values(1));
        Sentence.test("Promise 5", "- `member`: the number of the member");
        FilterRules last = Edges.allObjects();
        Due.answers(1, "addMember(7, 0)", () -> last.addMember(7, 0));
        last.addRange(0, 3, 5);
        Due.answers("3 0", "values", () -> last.values(7) + " " + last.values(6));
        Sentence.test("Promise 5", "Returns the number of members of the object then.");
        FilterRules book = Edges.objects(4);
        Due.answers(1, "the first member", () -> book.addMember(1, 3));
        Due.answers(2, "the second member", () -> book.addMember(1, 0));
        Due.answers(1, "the first member of another", () -> book.addMember(2, 3));
        book.removeMember(1, 3);
        Due.answers(2, "the second one again", () -> book.addMember(1, 2));
    }

    private static void addMemberRefuses() {
        Sentence.test("Promise 5",
            "Throws `IndexOutOfBoundsException` if there is no such object, for either");
        Edges.refusesNoObject((x, object) -> x.addMember(object, 0));
        Edges.refusesNoObject((x, member) -> x.addMember(0, member));
        Edges.refusesNoObject((x, both) -> x.addMember(both, both));
        Sentence.test("Promise 5",
            "Throws `IllegalArgumentException` if both are the same, or it is a member already");
        Snapshot.refuses(Edges::oneObject, Edges.ARGUMENT, "0 in 0", x -> x.addMember(0, 0));
        Snapshot.refuses(Edges::fullBook, Edges.ARGUMENT, "7 in 7", x -> x.addMember(7, 7));
        Snapshot.refuses(Edges::fullBook, Edges.ARGUMENT, "0 in 0, full", x -> x.addMember(0, 0));
        Snapshot.refuses(ObjectsEdgesTest::onlyMembers, Edges.ARGUMENT, "its first member",
            x -> x.addMember(0, 1));
        Snapshot.refuses(ObjectsEdgesTest::onlyMembers, Edges.ARGUMENT, "its second member",
            x -> x.addMember(0, 2));
        FilterRules book = Edges.objects(3);
        book.addMember(0, 1);
        book.addMember(1, 2);
        Due.answers("throws." + Edges.ARGUMENT, "1 in 0 again", () -> book.addMember(0, 1));
        Due.answers(2, "2 in 0, no member yet but by 1", () -> book.addMember(0, 2));
        Due.answers("throws." + Edges.ARGUMENT, "2 in 0 again", () -> book.addMember(0, 2));
        book.removeMember(0, 1);
        Due.answers(2, "1 in 0 after removeMember", () -> book.addMember(0, 1));
    }

    /** Each of 8 objects but the last has the next one as a member. */
    private static FilterRules chain() {
        FilterRules book = Edges.allObjects();
        for (int i = 0; i < 7; i++) {
            book.addMember(i, i + 1);
        }
        return book;
    }

    private static FilterRules bySecondMembers() {
        FilterRules book = Edges.objects(6);
        book.addMember(0, 3);
        book.addMember(0, 1);
        book.addMember(1, 4);
        book.addMember(1, 2);
        return book;
    }

    private static void addMemberRound() {
        Sentence.test("Promise 5",
            "Throws `UnsupportedOperationException` if an object would depend on itself");
        Snapshot.Maker chain = ObjectsEdgesTest::chain;
        for (int i = 1; i < 8; i++) {
            int last = i;
            Snapshot.refuses(chain, Edges.UNSUPPORTED, "0 in " + i, x -> x.addMember(last, 0));
            Snapshot.refuses(chain, Edges.UNSUPPORTED, i - 1 + " in " + i,
                x -> x.addMember(last, last - 1));
        }
        Snapshot.refuses(ObjectsEdgesTest::bySecondMembers, Edges.UNSUPPORTED, "by second members",
            x -> x.addMember(2, 0));
        FilterRules book = bySecondMembers();
        book.removeMember(0, 1);
        Due.answers(1, "0 in 2 when 1 is out of 0", () -> book.addMember(2, 0));
        Due.answers("throws." + Edges.UNSUPPORTED, "1 in 3, with 3 in 0, 0 in 2 and 2 in 1",
            () -> book.addMember(3, 1));
        for (int i = 2; i < 8; i++) {
            int member = i;
            Due.answers(2, i + " in 0, with the chain", () -> chain().addMember(0, member));
        }
        FilterRules cut = chain();
        cut.removeMember(6, 7);
        Due.answers(1, "0 in 7 when the chain is cut", () -> cut.addMember(7, 0));
        Due.answers("throws." + Edges.UNSUPPORTED, "7 in 6 then", () -> cut.addMember(6, 7));
        FilterRules two = Edges.objects(2);
        Due.answers(1, "1 in 0", () -> two.addMember(0, 1));
        Due.answers("throws." + Edges.UNSUPPORTED, "0 in 1", () -> two.addMember(1, 0));
    }

    private static void addMemberFull() {
        Sentence.test("Promise 5", "Throws `IllegalStateException` if the object has 2 members");
        FilterRules book = Edges.allObjects();
        Due.answers(1, "the first member", () -> book.addMember(0, 1));
        Due.answers(2, "the second member", () -> book.addMember(0, 2));
        Due.answers("throws." + Edges.STATE, "a third member", () -> book.addMember(0, 3));
        for (int i = 3; i < 7; i++) {
            int object = i;
            Due.answers(1, "1 in " + i + " too", () -> book.addMember(object, 1));
        }
        book.removeMember(0, 1);
        Due.answers(2, "3 in 0 when 1 is out", () -> book.addMember(0, 3));
        Due.answers("throws." + Edges.STATE, "1 in 0 then", () -> book.addMember(0, 1));
        Snapshot.refuses(Edges::fullBook, Edges.STATE, "7 in 0", x -> x.addMember(0, 7));
        Snapshot.refuses(Edges::fullBook, Edges.STATE, "7 in 4", x -> x.addMember(4, 7));
        Due.answers(1, "7 in 6, which has none", () -> Edges.fullBook().addMember(6, 7));
    }

    private static void removeMember() {
        Sentence.test("Promise 6", "- `object`: the number of the object that has the member");
        FilterRules first = chain();
        first.addRange(1, 0, 3);
        Due.answers(0, "removeMember(0, 1)", () -> first.removeMember(0, 1));
        Due.answers("0 4", "values", () -> first.values(0) + " " + first.values(1));
        Sentence.test("Promise 6", "- `member`: the number of the member");
        FilterRules last = chain();
        last.addRange(7, 0, 3);
        Due.answers(0, "removeMember(6, 7)", () -> last.removeMember(6, 7));
        Due.answers("0 0 4", "values",
            () -> last.values(0) + " " + last.values(6) + " " + last.values(7));
        Sentence.test("Promise 6", "Returns the number of members of the object then.");
        FilterRules book = onlyMembers();
        Due.answers(1, "removeMember from 2", () -> book.removeMember(0, 1));
        Due.answers(17, "values", () -> book.values(0));
        Due.answers(0, "removeMember from 1", () -> book.removeMember(0, 2));
        Due.answers(0, "values", () -> book.values(0));
        Sentence.test("Promise 6",
            "Throws `IndexOutOfBoundsException` if there is no such object, for either");
        Edges.refusesNoObject((x, object) -> x.removeMember(object, 0));
        Edges.refusesNoObject((x, member) -> x.removeMember(0, member));
        Edges.refusesNoObject((x, both) -> x.removeMember(both, both));
        Sentence.test("Promise 6",
            "Throws `NoSuchElementException` if it is no member of this object");
        Snapshot.Maker chain = ObjectsEdgesTest::chain;
        Snapshot.refuses(Edges::oneObject, Edges.NO_ELEMENT, "itself", x -> x.removeMember(0, 0));
        Snapshot.refuses(Edges::allObjects, Edges.NO_ELEMENT, "none", x -> x.removeMember(0, 7));
        Snapshot.refuses(chain, Edges.NO_ELEMENT, "turned round", x -> x.removeMember(1, 0));
        Snapshot.refuses(chain, Edges.NO_ELEMENT, "by another one", x -> x.removeMember(0, 2));
        Snapshot.refuses(chain, Edges.NO_ELEMENT, "of none", x -> x.removeMember(7, 6));
        Due.answers("throws." + Edges.NO_ELEMENT, "out again", () -> book.removeMember(0, 2));
        Due.answers(0, "a member", () -> chain().removeMember(0, 1));
    }

    private static void values() {
        Sentence.test("Promise 7", "- `object`: the number of the object");
        Snapshot.asks(Edges::fullBook, 18, "values(0)", x -> x.values(0));
        Snapshot.asks(Edges::fullBook, 4, "values(7)", x -> x.values(7));
        Sentence.test("Promise 7", "Returns the number of values, each one counted once.");
        Snapshot.asks(Edges::oneObject, 0, "nothing", x -> x.values(0));
        Snapshot.asks(() -> Edges.ranges(31, 31), 1, "one value", x -> x.values(0));
        Snapshot.asks(() -> Edges.ranges(0, 30), 31, "all but one", x -> x.values(0));
        Snapshot.asks(() -> Edges.ranges(0, 31), 32, "all", x -> x.values(0));
        Snapshot.asks(ObjectsEdgesTest::onlyMembers, 32, "all by two members", x -> x.values(0));
        Snapshot.asks(ObjectsEdgesTest::threeRanges, 7, "a range twice", x -> x.values(0));
        Snapshot.asks(ObjectsEdgesTest::chain, 0, "a chain of nothing", x -> x.values(0));
        FilterRules chain = chain();
        chain.addRange(7, 9, 9);
        Due.answers(1, "9 by a chain of 7 members", () -> chain.values(0));
        chain.addMember(0, 7);
        Due.answers(1, "9 by 7 members and by one", () -> chain.values(0));
        chain.addRange(0, 9, 10);
        Due.answers(2, "9 of its own too", () -> chain.values(0));
        Sentence.test("Promise 7", "Throws `IndexOutOfBoundsException` if there is no such object");
        Edges.refusesNoObject((x, object) -> x.values(object));
    }

    private static void hasValue() {
        Sentence.test("Promise 8", "- `object`: the number of the object");
        Snapshot.asks(Edges::fullBook, true, "hasValue(0, 0)", x -> x.hasValue(0, 0));
        Snapshot.asks(Edges::fullBook, true, "hasValue(7, 7)", x -> x.hasValue(7, 7));
        Snapshot.asks(Edges::fullBook, false, "hasValue(7, 0)", x -> x.hasValue(7, 0));
        Sentence.test("Promise 8", "- `value`: the value, 0 to 31");
        Snapshot.asks(() -> Edges.ranges(0, 0), true, "0 in 0 to 0", x -> x.hasValue(0, 0));
        Snapshot.asks(() -> Edges.ranges(0, 0), false, "31 in 0 to 0", x -> x.hasValue(0, 31));
        Snapshot.asks(() -> Edges.ranges(31, 31), true, "31 in 31", x -> x.hasValue(0, 31));
        Snapshot.asks(() -> Edges.ranges(31, 31), false, "0 in 31", x -> x.hasValue(0, 0));
        Sentence.test("Promise 8", "Returns whether it is.");
        FilterRules book = Edges.ranges(4, 9, 0, 31);
        book.addObject();
        for (int i = 0; i < 32; i++) {
            int value = i;
            Due.answers(i >= 4 && i <= 9, i + " in 4 to 9", () -> book.hasValue(0, value));
            Due.answers(true, i + " in 0 to 31", () -> book.hasValue(1, value));
            Due.answers(false, i + " in nothing", () -> book.hasValue(2, value));
        }
        FilterRules chain = chain();
        chain.addRange(7, 9, 9);
        Due.answers("false true false", "8, 9 and 10 by a chain of 7 members",
            () -> chain.hasValue(0, 8) + " " + chain.hasValue(0, 9) + " " + chain.hasValue(0, 10));
        Sentence.test("Promise 8", "Throws `IndexOutOfBoundsException` if there is no such object");
        Edges.refusesNoObject((x, object) -> x.hasValue(object, 0));
        Sentence.test("Promise 8",
            "Throws `IllegalArgumentException` if the value is out of range");
        Snapshot.refusesEach(Edges.outside(0, 31), Edges::oneObject, Edges.ARGUMENT, "nothing",
            (x, value) -> x.hasValue(0, value));
        Snapshot.refusesEach(Edges.outside(0, 31), () -> Edges.ranges(0, 31), Edges.ARGUMENT,
            "all values", (x, value) -> x.hasValue(0, value));
    }

    private static void users() {
        Sentence.test("Promise 9", "- `object`: the number of the object");
        Snapshot.asks(Edges::allRules, 1, "users(0)", x -> x.users(0));
        Snapshot.asks(Edges::allRules, 1, "users(7)", x -> x.users(7));
        Snapshot.asks(Edges::fullBook, 7, "users(7), all but 6", x -> x.users(7));
        Sentence.test("Promise 9",
            "Returns the number of rules, in force or not, each one counted once.");
        Snapshot.asks(Edges::allObjects, 0, "no rules", x -> x.users(7));
        FilterRules book = chain();
        for (int i = 0; i < 8; i++) {
            book.addRule(i, 'a', i % 3 == 0 ? 0 : -1, i % 3 < 2 ? 0 : -1, i % 3 > 0 ? 0 : -1, 0);
            book.setLastDay(i, 0);
        }
        Due.answers("8 8", "8 rules by each two fields", () -> book.users(0) + " "
            + book.users(7));
        book.pass(1);
        Due.answers("8 8", "no rule in force", () -> book.users(0) + " " + book.users(7));
        book.removeRule(3);
        Due.answers("7 7", "one removed", () -> book.users(0) + " " + book.users(7));
        FilterRules three = chain();
        three.addRule(0, 'a', 4, 5, 6, 0);
        Due.answers("0 1 1 1", "by one rule in three fields", () -> three.users(3) + " "
            + three.users(4) + " " + three.users(6) + " " + three.users(7));
        FilterRules fields = Edges.told("a1.. a.2. a..3");
        Due.answers("0 1 1 1 0", "by one rule in each field", () -> fields.users(0) + " "
            + fields.users(1) + " " + fields.users(2) + " " + fields.users(3) + " "
            + fields.users(4));
        three.addRule(0, 'a', -1, -1, -1, 0);
        Due.answers("0 1", "a rule without objects", () -> three.users(0) + " " + three.users(7));
        Sentence.test("Promise 9", "Throws `IndexOutOfBoundsException` if there is no such object");
        Edges.refusesNoObject((x, object) -> x.users(object));
    }
}
