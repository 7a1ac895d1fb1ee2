import java.util.Arrays;
import java.util.NoSuchElementException;

/**
 * A keeper of filter rules: objects that are sets of values, rules over three fields in an order,
 * and what each rule still decides behind those ahead of it.
 *
 * <p>Sets are held in the bits of an int: of values (bit v for the value v), of objects (bit o for
 * the object o) and of positions (bit p for the rule at the position p).
 */
public final class FilterRules {
    private static final int MAX_OBJECTS = 8;
    private static final int MAX_RANGES = 3;
    private static final int MAX_MEMBERS = 2;
    private static final int MAX_RULES = 8;
    private static final int FIELDS = 3;
    private static final int VALUES = 32;
    private static final int OWNERS = 6;
    private static final int LAST_DAY = 999;
    private static final int MOST_DAYS_AT_ONCE = 99;
    private static final int NONE = -1;
    private static final int EVERY_VALUE = -1;
    private static final int EVERY_POSITION = (1 << MAX_RULES) - 1;
    /** A decider is a position, or MAX_RULES where no rule decides. */
    private static final int DECIDERS = MAX_RULES + 1;
    /** Every pass but the last swaps two rules for good, and there are fewer pairs than this. */
    private static final int MOST_PASSES = MAX_RULES * MAX_RULES;
    private static final char ACCEPT = 'a';
    private static final char DENY = 'd';

    /** What the document calls an object. */
    private static final class ValueSet {
        private final int[] ranges = new int[MAX_RANGES];
        private int rangeCount;
        private int members;

        private int ownValues() {
            int found = 0;
            for (int i = 0; i < rangeCount; i++) {
                found |= ranges[i];
            }
            return found;
        }
    }

    private static final class Rule {
        private int number;
        private char action;
        private int owner;
        private int lastDay;
        private int addedOn;
        private int hitCount;
        private int hitDays;
        private int lastHitOn;
        private final int[] objects = new int[FIELDS];
        /** The values that match in each field, kept up to date with the objects. */
        private final int[] matching = new int[FIELDS];

        /** Wipes what an earlier rule has left: the rows of rules are used again. */
        private void begin(int newNumber, char newAction, int newOwner, int today) {
            number = newNumber;
            action = newAction;
            owner = newOwner;
            lastDay = NONE;
            addedOn = today;
            hitCount = 0;
            hitDays = 0;
            lastHitOn = NONE;
        }

        private void hitOn(int today) {
            if (lastHitOn != today) {
                hitDays++;
            }
            hitCount++;
            lastHitOn = today;
        }

        private boolean lastsOn(int someDay) {
            return lastDay == NONE || someDay <= lastDay;
        }

        private boolean matches(int source, int target, int service) {
            return contains(matching[0], source)
                && contains(matching[1], target)
                && contains(matching[2], service);
        }
    }

    /** The values of one field in groups: those of a group have the same marks. */
    private static final class Groups {
        private final int[] marks = new int[VALUES];
        private final int[] sizes = new int[VALUES];
        private int count;

        private void put(int valueMarks) {
            for (int i = 0; i < count; i++) {
                if (marks[i] == valueMarks) {
                    sizes[i]++;
                    return;
                }
            }
            if (count < VALUES) {
                marks[count] = valueMarks;
                sizes[count] = 1;
                count++;
            }
        }
    }

    private final ValueSet[] sets = new ValueSet[MAX_OBJECTS];
    private int objectCount;
    /** The rules in their order; behind them the rows that wait for new ones, so none is null. */
    private final Rule[] order = new Rule[MAX_RULES];
    private int ruleCount;
    private int nextNumber;
    private int today;
    /** Rows for the samples, made once and filled anew by each call that needs them. */
    private final Groups[] groups = new Groups[FIELDS];
    private final int[] marksOfValues = new int[VALUES];
    private final int[][] tally = new int[DECIDERS][DECIDERS];

    public FilterRules() {
        for (int i = 0; i < MAX_OBJECTS; i++) {
            sets[i] = new ValueSet();
        }
        for (int i = 0; i < MAX_RULES; i++) {
            order[i] = new Rule();
        }
        for (int i = 0; i < FIELDS; i++) {
            groups[i] = new Groups();
        }
    }

    // ---- objects

    public int addObject() throws IllegalStateException {
        if (objectCount >= MAX_OBJECTS) {
            throw new IllegalStateException("there are 8 objects");
        }
        objectCount++;
        return objectCount - 1;
    }

    public int addRange(int object, int low, int high)
            throws IndexOutOfBoundsException, IllegalArgumentException, IllegalStateException {
        requireObject(object);
        requireRange(low, high);
        ValueSet set = sets[object];
        if (set.rangeCount >= MAX_RANGES) {
            throw new IllegalStateException("the object has 3 ranges");
        }
        set.ranges[set.rangeCount] = rangeOf(low, high);
        set.rangeCount++;
        updateMatching();
        return set.rangeCount;
    }

    public int removeRange(int object) throws IndexOutOfBoundsException, IllegalStateException {
        requireObject(object);
        ValueSet set = sets[object];
        if (set.rangeCount <= 0) {
            throw new IllegalStateException("the object has no range");
        }
        set.rangeCount--;
        updateMatching();
        return set.rangeCount;
    }

    public int addMember(int object, int member)
            throws IndexOutOfBoundsException, IllegalArgumentException,
            UnsupportedOperationException, IllegalStateException {
        requireObject(object);
        requireObject(member);
        ValueSet set = sets[object];
        if (object == member || contains(set.members, member)) {
            throw new IllegalArgumentException("both are the same, or it is a member already");
        }
        if (needs(sets, member, object, 0)) {
            throw new UnsupportedOperationException("an object would depend on itself");
        }
        if (Integer.bitCount(set.members) >= MAX_MEMBERS) {
            throw new IllegalStateException("the object has 2 members");
        }
        set.members |= 1 << member;
        updateMatching();
        return Integer.bitCount(set.members);
    }

    public int removeMember(int object, int member)
            throws IndexOutOfBoundsException, NoSuchElementException {
        requireObject(object);
        requireObject(member);
        ValueSet set = sets[object];
        if (!contains(set.members, member)) {
            throw new NoSuchElementException("it is no member of this object");
        }
        set.members &= ~(1 << member);
        updateMatching();
        return Integer.bitCount(set.members);
    }

    public int values(int object) throws IndexOutOfBoundsException {
        requireObject(object);
        return Integer.bitCount(valuesOf(sets, object, 0));
    }

    public boolean hasValue(int object, int value)
            throws IndexOutOfBoundsException, IllegalArgumentException {
        requireObject(object);
        requireValue(value);
        return contains(valuesOf(sets, object, 0), value);
    }

    public int users(int object) throws IndexOutOfBoundsException {
        requireObject(object);
        int count = 0;
        for (int i = 0; i < ruleCount; i++) {
            int[] objects = order[i].objects;
            if (isOrNeeds(objects[0], object) || isOrNeeds(objects[1], object)
                    || isOrNeeds(objects[2], object)) {
                count++;
            }
        }
        return count;
    }

    // ---- rules

    public int addRule(int position, char action, int source, int target, int service, int owner)
            throws IndexOutOfBoundsException, IllegalArgumentException, IllegalStateException {
        if (position < 0 || position > ruleCount) {
            throw new IndexOutOfBoundsException("there is no such position");
        }
        requireObjectOrNone(source);
        requireObjectOrNone(target);
        requireObjectOrNone(service);
        if (action != ACCEPT && action != DENY) {
            throw new IllegalArgumentException("there is no such action");
        }
        requireOwner(owner);
        if (ruleCount >= MAX_RULES) {
            throw new IllegalStateException("there are 8 rules");
        }
        Rule rule = order[ruleCount];
        rule.begin(nextNumber, action, owner, today);
        rule.objects[0] = source;
        rule.objects[1] = target;
        rule.objects[2] = service;
        nextNumber++;
        ruleCount++;
        shift(ruleCount - 1, position);
        updateMatching();
        return rule.number;
    }

    public int removeRule(int rule) throws NoSuchElementException {
        int position = requireRule(rule);
        int changed = changedByRemoval(position);
        shift(position, ruleCount - 1);
        ruleCount--;
        return changed;
    }

    public int setLastDay(int rule, int day)
            throws NoSuchElementException, IllegalArgumentException {
        Rule found = order[requireRule(rule)];
        if (day != NONE && (day < today || day > LAST_DAY)) {
            throw new IllegalArgumentException("the day is out of range");
        }
        int before = found.lastDay;
        found.lastDay = day;
        return before;
    }

    public int rules() {
        return ruleCount;
    }

    public int ruleAt(int position) throws IndexOutOfBoundsException {
        requirePosition(position);
        return order[position].number;
    }

    public boolean isInForce(int rule) throws NoSuchElementException {
        return order[requireRule(rule)].lastsOn(today);
    }

    public int expiring(int owner, int days) throws IllegalArgumentException {
        requireOwner(owner);
        requireDays(days);
        int count = 0;
        for (int i = 0; i < ruleCount; i++) {
            Rule rule = order[i];
            if (rule.owner == owner && rule.lastsOn(today) && !rule.lastsOn(today + days)) {
                count++;
            }
        }
        return count;
    }

    // ---- packets and days

    public char packet(int source, int target, int service) throws IllegalArgumentException {
        requirePacket(source, target, service);
        int position = deciding(source, target, service);
        if (position == NONE) {
            return DENY;
        }
        Rule rule = order[position];
        rule.hitOn(today);
        return rule.action;
    }

    public int decider(int source, int target, int service) throws IllegalArgumentException {
        requirePacket(source, target, service);
        int position = deciding(source, target, service);
        return position == NONE ? NONE : order[position].number;
    }

    public int hits(int rule) throws NoSuchElementException {
        return order[requireRule(rule)].hitCount;
    }

    public int busyDays(int rule) throws NoSuchElementException {
        return order[requireRule(rule)].hitDays;
    }

    public int idleDays(int rule) throws NoSuchElementException {
        Rule found = order[requireRule(rule)];
        return today - (found.lastHitOn == NONE ? found.addedOn : found.lastHitOn);
    }

    public int pass(int days) throws IllegalArgumentException {
        requireDays(days);
        if (today + days > LAST_DAY) {
            throw new IllegalArgumentException("the day would be greater than 999");
        }
        today += days;
        return today;
    }

    public int day() {
        return today;
    }

    // ---- what rules decide

    public int matched(int rule) throws NoSuchElementException {
        Rule found = order[requireRule(rule)];
        return packetsInBoth(found, found);
    }

    public int decided(int rule) throws NoSuchElementException {
        return decidedAt(requireRule(rule));
    }

    public int decidedBySamples(int rule) throws NoSuchElementException {
        int position = requireRule(rule);
        tallyDeciders(NONE, 0);
        return tally[position][position];
    }

    public boolean isShadowed(int rule) throws NoSuchElementException {
        return isShadowedAt(requireRule(rule));
    }

    public int mainShadow(int rule) throws NoSuchElementException {
        int position = requireRule(rule);
        int most = 0;
        int shadow = NONE;
        for (int i = 0; i < position; i++) {
            int common = packetsInBoth(order[i], order[position]);
            if (order[i].lastsOn(today) && common > most) {
                most = common;
                shadow = order[i].number;
            }
        }
        if (most == 0) {
            throw new NoSuchElementException("no rule ahead of it matches one of its packets");
        }
        return shadow;
    }

    public int accepted() {
        int count = 0;
        for (int i = 0; i < ruleCount; i++) {
            if (order[i].action == ACCEPT) {
                count += decidedAt(i);
            }
        }
        return count;
    }

    // ---- the order

    public int changedByMove(int rule, int position)
            throws NoSuchElementException, IndexOutOfBoundsException {
        int from = requireRule(rule);
        requirePosition(position);
        return changedByShift(from, position);
    }

    public int move(int rule, int position)
            throws NoSuchElementException, IndexOutOfBoundsException,
            UnsupportedOperationException {
        int from = requireRule(rule);
        requirePosition(position);
        if (changedByShift(from, position) != 0) {
            throw new UnsupportedOperationException("a packet would get another decision");
        }
        shift(from, position);
        return from;
    }

    public int sortByHits() {
        int swaps = 0;
        for (int pass = 0; pass < MOST_PASSES; pass++) {
            int more = swapByHits();
            if (more == 0) {
                return swaps;
            }
            swaps += more;
        }
        return swaps;
    }

    public int changedByRange(int object, int low, int high)
            throws IndexOutOfBoundsException, IllegalArgumentException {
        requireObject(object);
        requireRange(low, high);
        tallyDeciders(object, rangeOf(low, high));
        int changed = 0;
        for (int now = 0; now < DECIDERS; now++) {
            for (int then = 0; then < DECIDERS; then++) {
                if (actionOf(now) != actionOf(then)) {
                    changed += tally[now][then];
                }
            }
        }
        return changed;
    }

    public float shadowedShare() throws ArithmeticException {
        int inForce = Integer.bitCount(inForceAhead(ruleCount));
        if (inForce == 0) {
            throw new ArithmeticException("no rule is in force");
        }
        int shadowed = 0;
        for (int i = 0; i < ruleCount; i++) {
            if (isShadowedAt(i)) {
                shadowed++;
            }
        }
        return (float) shadowed / (float) inForce;
    }

    public double meanHits() throws ArithmeticException {
        if (ruleCount == 0) {
            throw new ArithmeticException("there are no rules");
        }
        int sum = 0;
        for (int i = 0; i < ruleCount; i++) {
            sum += order[i].hitCount;
        }
        return (double) sum / (double) ruleCount;
    }

    // ---- what the calls demand of their arguments

    private void requireObject(int object) {
        if (object < 0 || object >= objectCount) {
            throw new IndexOutOfBoundsException("there is no such object");
        }
    }

    private void requireObjectOrNone(int object) {
        if (object != NONE) {
            requireObject(object);
        }
    }

    private void requirePosition(int position) {
        if (position < 0 || position >= ruleCount) {
            throw new IndexOutOfBoundsException("there is no such position");
        }
    }

    /** Answers the position of the rule. */
    private int requireRule(int number) {
        for (int i = 0; i < ruleCount; i++) {
            if (order[i].number == number) {
                return i;
            }
        }
        throw new NoSuchElementException("there is no such rule");
    }

    private static void requireValue(int value) {
        if (value < 0 || value >= VALUES) {
            throw new IllegalArgumentException("a value is out of range");
        }
    }

    private static void requireRange(int low, int high) {
        requireValue(low);
        requireValue(high);
        if (high < low) {
            throw new IllegalArgumentException("the last value is less than the first one");
        }
    }

    private static void requirePacket(int source, int target, int service) {
        requireValue(source);
        requireValue(target);
        requireValue(service);
    }

    private static void requireOwner(int owner) {
        if (owner < 0 || owner >= OWNERS) {
            throw new IllegalArgumentException("the owner is out of range");
        }
    }

    private static void requireDays(int days) {
        if (days < 1 || days > MOST_DAYS_AT_ONCE) {
            throw new IllegalArgumentException("the number of days is out of range");
        }
    }

    // ---- sets of values

    private static boolean contains(int bits, int element) {
        return (bits >>> element & 1) != 0;
    }

    private static int rangeOf(int low, int high) {
        return EVERY_VALUE << low & EVERY_VALUE >>> (VALUES - 1 - high);
    }

    /** No chain of members is longer than the number of objects, so the depth ends there. */
    private static int valuesOf(ValueSet[] sets, int object, int depth) {
        if (depth >= MAX_OBJECTS) {
            return 0;
        }
        int found = sets[object].ownValues();
        for (int i = 0; i < MAX_OBJECTS; i++) {
            if (contains(sets[object].members, i)) {
                found |= valuesOf(sets, i, depth + 1);
            }
        }
        return found;
    }

    /** Whether the object depends on the other one; the depth ends as in valuesOf. */
    private static boolean needs(ValueSet[] sets, int object, int other, int depth) {
        if (depth >= MAX_OBJECTS) {
            return false;
        }
        int members = sets[object].members;
        if (contains(members, other)) {
            return true;
        }
        for (int i = 0; i < MAX_OBJECTS; i++) {
            if (contains(members, i) && needs(sets, i, other, depth + 1)) {
                return true;
            }
        }
        return false;
    }

    private boolean isOrNeeds(int objectOrNone, int other) {
        return objectOrNone != NONE
            && (objectOrNone == other || needs(sets, objectOrNone, other, 0));
    }

    private void updateMatching() {
        for (int i = 0; i < ruleCount; i++) {
            Rule rule = order[i];
            for (int field = 0; field < FIELDS; field++) {
                int object = rule.objects[field];
                rule.matching[field] = object == NONE ? EVERY_VALUE : valuesOf(sets, object, 0);
            }
        }
    }

    // ---- what rules match and decide

    private int deciding(int source, int target, int service) {
        for (int i = 0; i < ruleCount; i++) {
            if (order[i].lastsOn(today) && order[i].matches(source, target, service)) {
                return i;
            }
        }
        return NONE;
    }

    private char actionOf(int decider) {
        return decider < ruleCount ? order[decider].action : DENY;
    }

    private static int packetsIn(int source, int target, int service) {
        return Integer.bitCount(source) * Integer.bitCount(target) * Integer.bitCount(service);
    }

    private static int packetsInBoth(Rule one, Rule other) {
        return packetsIn(
            one.matching[0] & other.matching[0],
            one.matching[1] & other.matching[1],
            one.matching[2] & other.matching[2]);
    }

    private int inForceAhead(int end) {
        int positions = 0;
        for (int i = 0; i < end; i++) {
            if (order[i].lastsOn(today)) {
                positions |= 1 << i;
            }
        }
        return positions;
    }

    /** The first of the positions, or MAX_RULES if there is none. */
    private static int firstOf(int positions) {
        int lowestBit = positions & -positions;
        return Math.min(Integer.bitCount(lowestBit - 1), MAX_RULES);
    }

    /**
     * Counts the packets that both rules match and none of the rules at some positions does. The
     * caller leaves the two rules themselves out of these positions.
     */
    private int leftOfBoth(Rule one, Rule other, int positions) {
        return leftOver(
            order,
            positions,
            one.matching[0] & other.matching[0],
            one.matching[1] & other.matching[1],
            one.matching[2] & other.matching[2]);
    }

    /**
     * Counts the packets of a piece that none of the rules at some positions matches. What the first
     * of them leaves is cut into three pieces that share no packet; each call has one position less,
     * so the calls go at most MAX_RULES deep.
     */
    private static int leftOver(Rule[] order, int positions, int source, int target, int service) {
        if (source == 0 || target == 0 || service == 0) {
            return 0;
        }
        int first = firstOf(positions);
        if (first >= MAX_RULES) {
            return packetsIn(source, target, service);
        }
        int[] gone = order[first].matching;
        int others = positions & ~(1 << first);
        int inSource = source & gone[0];
        int inTarget = target & gone[1];
        return leftOver(order, others, source & ~gone[0], target, service)
            + leftOver(order, others, inSource, target & ~gone[1], service)
            + leftOver(order, others, inSource, inTarget, service & ~gone[2]);
    }

    private int decidedAt(int position) {
        Rule rule = order[position];
        return rule.lastsOn(today) ? leftOfBoth(rule, rule, inForceAhead(position)) : 0;
    }

    private boolean isShadowedAt(int position) {
        return order[position].lastsOn(today) && decidedAt(position) == 0;
    }

    // ---- samples

    /**
     * Counts in tally[now][then] the packets that the one decides now and the other would decide if
     * the object had the further values. Of the packets that no rule decides, now or then, not all
     * are counted: no answer needs them.
     */
    private void tallyDeciders(int object, int furtherValues) {
        for (int i = 0; i < DECIDERS; i++) {
            Arrays.fill(tally[i], 0);
        }
        for (int field = 0; field < FIELDS; field++) {
            markValues(field, object, furtherValues);
            groupValues(groups[field]);
        }
        Groups sources = groups[0];
        Groups targets = groups[1];
        for (int i = 0; i < sources.count; i++) {
            for (int j = 0; j < targets.count; j++) {
                int marks = sources.marks[i] & targets.marks[j];
                if (marks != 0) {
                    tallyServices(marks, sources.sizes[i] * targets.sizes[j]);
                }
            }
        }
    }

    private void tallyServices(int marksSoFar, int sizeSoFar) {
        Groups services = groups[2];
        for (int i = 0; i < services.count; i++) {
            int marks = marksSoFar & services.marks[i];
            int now = firstOf(marks & EVERY_POSITION);
            int then = firstOf(marks >>> MAX_RULES);
            tally[now][then] += sizeSoFar * services.sizes[i];
        }
    }

    /**
     * Marks each value of a field with the positions of the rules in force that match it now, and,
     * MAX_RULES bits higher, of those that would match it if the object had the further values.
     */
    private void markValues(int field, int object, int furtherValues) {
        Arrays.fill(marksOfValues, 0);
        for (int i = 0; i < ruleCount; i++) {
            Rule rule = order[i];
            if (rule.lastsOn(today)) {
                int now = rule.matching[field];
                int then = now;
                if (furtherValues != 0 && isOrNeeds(rule.objects[field], object)) {
                    then |= furtherValues;
                }
                for (int value = 0; value < VALUES; value++) {
                    marksOfValues[value] |= (now >>> value & 1) << i;
                    marksOfValues[value] |= (then >>> value & 1) << (i + MAX_RULES);
                }
            }
        }
    }

    private void groupValues(Groups ofField) {
        ofField.count = 0;
        for (int value = 0; value < VALUES; value++) {
            ofField.put(marksOfValues[value]);
        }
    }

    // ---- changes of the order

    /** Moves a row of the order; those between move up by one. */
    private void shift(int from, int to) {
        Rule moved = order[from];
        for (int i = from; i < to; i++) {
            order[i] = order[i + 1];
        }
        for (int i = from; i > to; i--) {
            order[i] = order[i - 1];
        }
        order[to] = moved;
    }

    private int changedByShift(int from, int to) {
        return to < from ? changedAgainst(from, to, from) : changedAgainst(from, from + 1, to + 1);
    }

    /** The packets that a rule decides fall to the first one behind it, or to none, which denies. */
    private int changedByRemoval(int position) {
        Rule rule = order[position];
        int changed = changedAgainst(position, position + 1, ruleCount);
        if (rule.action == ACCEPT && rule.lastsOn(today)) {
            int others = inForceAhead(ruleCount) & ~(1 << position);
            changed += leftOfBoth(rule, rule, others);
        }
        return changed;
    }

    /**
     * Counts the packets that a rule matches and for which, the rule itself left aside, the first
     * other one stands at a position from start to before end and has another action: these change
     * when the rule gets past this other one.
     */
    private int changedAgainst(int position, int start, int end) {
        Rule rule = order[position];
        if (!rule.lastsOn(today)) {
            return 0;
        }
        int changed = 0;
        for (int i = start; i < end; i++) {
            Rule other = order[i];
            if (other.lastsOn(today) && other.action != rule.action) {
                changed += leftOfBoth(rule, other, inForceAhead(i) & ~(1 << position));
            }
        }
        return changed;
    }

    /** Goes through the positions once and answers the number of swaps. */
    private int swapByHits() {
        int swaps = 0;
        for (int i = 0; i < ruleCount - 1; i++) {
            if (order[i + 1].hitCount > order[i].hitCount && changedByShift(i, i + 1) == 0) {
                shift(i, i + 1);
                swaps++;
            }
        }
        return swaps;
    }
}
