import java.util.ArrayList;
import java.util.HashSet;
import java.util.List;
import java.util.NoSuchElementException;
import java.util.Set;

/**
 * The rule book once more, as slow and plain as the document's words: every number of packets is
 * found by asking each of the 32768 packets. What FilterRules answers is compared with it.
 */
final class Book {
    private static final int PACKETS = 32768;

    private static final class Thing {
        final List<int[]> ranges = new ArrayList<>();
        final List<Integer> members = new ArrayList<>();
    }

    private static final class Entry {
        int number;
        char action;
        int[] fields;
        int owner;
        int lastDay = -1;
        int added;
        final List<Integer> hitOn = new ArrayList<>();
    }

    private final List<Thing> things = new ArrayList<>();
    private final List<Entry> entries = new ArrayList<>();
    private int next;
    private int today;

    int addObject() {
        if (things.size() == 8) {
            throw new IllegalStateException();
        }
        things.add(new Thing());
        return things.size() - 1;
    }

    int addRange(int object, int low, int high) {
        Thing thing = thing(object);
        range(low, high);
        if (thing.ranges.size() == 3) {
            throw new IllegalStateException();
        }
        thing.ranges.add(new int[] {low, high});
        return thing.ranges.size();
    }

    int removeRange(int object) {
        Thing thing = thing(object);
        if (thing.ranges.isEmpty()) {
            throw new IllegalStateException();
        }
        thing.ranges.remove(thing.ranges.size() - 1);
        return thing.ranges.size();
    }

    int addMember(int object, int member) {
        Thing thing = thing(object);
        thing(member);
        if (object == member || thing.members.contains(member)) {
            throw new IllegalArgumentException();
        }
        if (depends(member, object)) {
            throw new UnsupportedOperationException();
        }
        if (thing.members.size() == 2) {
            throw new IllegalStateException();
        }
        thing.members.add(member);
        return thing.members.size();
    }

    int removeMember(int object, int member) {
        Thing thing = thing(object);
        thing(member);
        if (!thing.members.remove(Integer.valueOf(member))) {
            throw new NoSuchElementException();
        }
        return thing.members.size();
    }

    int values(int object) {
        thing(object);
        int count = 0;
        for (int value = 0; value < 32; value++) {
            count += has(object, value) ? 1 : 0;
        }
        return count;
    }

    boolean hasValue(int object, int value) {
        thing(object);
        range(value, value);
        return has(object, value);
    }

    int users(int object) {
        thing(object);
        int count = 0;
        for (Entry entry : entries) {
            boolean uses = false;
            for (int field : entry.fields) {
                uses |= field >= 0 && (field == object || depends(field, object));
            }
            count += uses ? 1 : 0;
        }
        return count;
    }

    int addRule(int position, char action, int source, int target, int service, int owner) {
        if (position < 0 || position > entries.size()) {
            throw new IndexOutOfBoundsException();
        }
        int[] fields = {source, target, service};
        for (int field : fields) {
            if (field != -1) {
                thing(field);
            }
        }
        if (action != 'a' && action != 'd' || owner < 0 || owner > 5) {
            throw new IllegalArgumentException();
        }
        if (entries.size() == 8) {
            throw new IllegalStateException();
        }
        Entry entry = new Entry();
        entry.number = next++;
        entry.action = action;
        entry.fields = fields;
        entry.owner = owner;
        entry.added = today;
        entries.add(position, entry);
        return entry.number;
    }

    int removeRule(int rule) {
        int place = place(rule);
        char[] before = decisions();
        entries.remove(place);
        return differences(before, decisions());
    }

    int setLastDay(int rule, int day) {
        Entry entry = entries.get(place(rule));
        if (day != -1 && (day < today || day > 999)) {
            throw new IllegalArgumentException();
        }
        int before = entry.lastDay;
        entry.lastDay = day;
        return before;
    }

    int rules() {
        return entries.size();
    }

    int ruleAt(int position) {
        position(position);
        return entries.get(position).number;
    }

    boolean isInForce(int rule) {
        return inForce(entries.get(place(rule)), today);
    }

    int expiring(int owner, int days) {
        if (owner < 0 || owner > 5 || days < 1 || days > 99) {
            throw new IllegalArgumentException();
        }
        int count = 0;
        for (Entry entry : entries) {
            boolean counts = entry.owner == owner && inForce(entry, today);
            count += counts && !inForce(entry, today + days) ? 1 : 0;
        }
        return count;
    }

    char packet(int source, int target, int service) {
        Entry entry = decidingOf(source, target, service);
        if (entry == null) {
            return 'd';
        }
        entry.hitOn.add(today);
        return entry.action;
    }

    int decider(int source, int target, int service) {
        Entry entry = decidingOf(source, target, service);
        return entry == null ? -1 : entry.number;
    }

    int hits(int rule) {
        return entries.get(place(rule)).hitOn.size();
    }

    int busyDays(int rule) {
        Set<Integer> days = new HashSet<>(entries.get(place(rule)).hitOn);
        return days.size();
    }

    int idleDays(int rule) {
        Entry entry = entries.get(place(rule));
        int hits = entry.hitOn.size();
        return today - (hits == 0 ? entry.added : entry.hitOn.get(hits - 1));
    }

    int pass(int days) {
        if (days < 1 || days > 99 || today + days > 999) {
            throw new IllegalArgumentException();
        }
        today += days;
        return today;
    }

    int day() {
        return today;
    }

    int matched(int rule) {
        boolean[] matched = packetsOf(entries.get(place(rule)));
        return common(matched, matched);
    }

    int decided(int rule) {
        place(rule);
        int count = 0;
        for (int decider : deciders()) {
            count += decider == rule ? 1 : 0;
        }
        return count;
    }

    boolean isShadowed(int rule) {
        return isInForce(rule) && decided(rule) == 0;
    }

    int mainShadow(int rule) {
        int place = place(rule);
        boolean[] own = packetsOf(entries.get(place));
        int most = 0;
        int shadow = -1;
        for (Entry entry : entries.subList(0, place)) {
            int both = inForce(entry, today) ? common(own, packetsOf(entry)) : 0;
            if (both > most) {
                most = both;
                shadow = entry.number;
            }
        }
        if (most == 0) {
            throw new NoSuchElementException();
        }
        return shadow;
    }

    int accepted() {
        int count = 0;
        for (char decision : decisions()) {
            count += decision == 'a' ? 1 : 0;
        }
        return count;
    }

    int changedByMove(int rule, int position) {
        int place = place(rule);
        position(position);
        char[] before = decisions();
        entries.add(position, entries.remove(place));
        char[] after = decisions();
        entries.add(place, entries.remove(position));
        return differences(before, after);
    }

    int move(int rule, int position) {
        if (changedByMove(rule, position) > 0) {
            throw new UnsupportedOperationException();
        }
        int place = place(rule);
        entries.add(position, entries.remove(place));
        return place;
    }

    int sortByHits() {
        int swaps = 0;
        boolean again = true;
        while (again) {
            again = false;
            for (int i = 0; i + 1 < entries.size(); i++) {
                Entry first = entries.get(i);
                Entry second = entries.get(i + 1);
                if (second.hitOn.size() > first.hitOn.size()
                        && changedByMove(first.number, i + 1) == 0) {
                    entries.set(i, second);
                    entries.set(i + 1, first);
                    swaps++;
                    again = true;
                }
            }
        }
        return swaps;
    }

    int changedByRange(int object, int low, int high) {
        Thing thing = thing(object);
        range(low, high);
        char[] before = decisions();
        thing.ranges.add(new int[] {low, high});
        char[] after = decisions();
        thing.ranges.remove(thing.ranges.size() - 1);
        return differences(before, after);
    }

    float shadowedShare() {
        int inForce = 0;
        int shadowed = 0;
        for (Entry entry : entries) {
            inForce += inForce(entry, today) ? 1 : 0;
            shadowed += isShadowed(entry.number) ? 1 : 0;
        }
        if (inForce == 0) {
            throw new ArithmeticException();
        }
        return (float) shadowed / (float) inForce;
    }

    double meanHits() {
        if (entries.isEmpty()) {
            throw new ArithmeticException();
        }
        int sum = 0;
        for (Entry entry : entries) {
            sum += entry.hitOn.size();
        }
        return (double) sum / (double) entries.size();
    }

    private Thing thing(int object) {
        if (object < 0 || object >= things.size()) {
            throw new IndexOutOfBoundsException();
        }
        return things.get(object);
    }

    private static void range(int low, int high) {
        if (low < 0 || low > 31 || high < low || high > 31) {
            throw new IllegalArgumentException();
        }
    }

    private void position(int position) {
        if (position < 0 || position >= entries.size()) {
            throw new IndexOutOfBoundsException();
        }
    }

    private int place(int rule) {
        for (int i = 0; i < entries.size(); i++) {
            if (entries.get(i).number == rule) {
                return i;
            }
        }
        throw new NoSuchElementException();
    }

    private boolean depends(int object, int other) {
        for (int member : things.get(object).members) {
            if (member == other || depends(member, other)) {
                return true;
            }
        }
        return false;
    }

    private boolean has(int object, int value) {
        for (int[] range : things.get(object).ranges) {
            if (range[0] <= value && value <= range[1]) {
                return true;
            }
        }
        for (int member : things.get(object).members) {
            if (has(member, value)) {
                return true;
            }
        }
        return false;
    }

    private static boolean inForce(Entry entry, int someDay) {
        return entry.lastDay == -1 || someDay <= entry.lastDay;
    }

    private boolean matchesIn(Entry entry, int field, int value) {
        return entry.fields[field] == -1 || has(entry.fields[field], value);
    }

    private Entry decidingOf(int source, int target, int service) {
        range(source, source);
        range(target, target);
        range(service, service);
        for (Entry entry : entries) {
            if (inForce(entry, today) && matchesIn(entry, 0, source)
                    && matchesIn(entry, 1, target) && matchesIn(entry, 2, service)) {
                return entry;
            }
        }
        return null;
    }

    private boolean[] packetsOf(Entry entry) {
        boolean[][] fields = new boolean[3][32];
        for (int field = 0; field < 3; field++) {
            for (int value = 0; value < 32; value++) {
                fields[field][value] = matchesIn(entry, field, value);
            }
        }
        boolean[] matched = new boolean[PACKETS];
        for (int i = 0; i < PACKETS; i++) {
            matched[i] = fields[0][i / 1024] && fields[1][i / 32 % 32] && fields[2][i % 32];
        }
        return matched;
    }

    private static int common(boolean[] one, boolean[] other) {
        int count = 0;
        for (int i = 0; i < PACKETS; i++) {
            count += one[i] && other[i] ? 1 : 0;
        }
        return count;
    }

    /** The number of the deciding rule of each packet, or -1. */
    private int[] deciders() {
        int[] deciders = new int[PACKETS];
        java.util.Arrays.fill(deciders, -1);
        for (Entry entry : entries) {
            if (inForce(entry, today)) {
                boolean[] matched = packetsOf(entry);
                for (int i = 0; i < PACKETS; i++) {
                    if (deciders[i] == -1 && matched[i]) {
                        deciders[i] = entry.number;
                    }
                }
            }
        }
        return deciders;
    }

    private char[] decisions() {
        int[] deciders = deciders();
        char[] actions = new char[next];
        for (Entry entry : entries) {
            actions[entry.number] = entry.action;
        }
        char[] decisions = new char[PACKETS];
        for (int i = 0; i < PACKETS; i++) {
            decisions[i] = deciders[i] == -1 ? 'd' : actions[deciders[i]];
        }
        return decisions;
    }

    private static int differences(char[] before, char[] after) {
        int count = 0;
        for (int i = 0; i < PACKETS; i++) {
            count += before[i] != after[i] ? 1 : 0;
        }
        return count;
    }
}
