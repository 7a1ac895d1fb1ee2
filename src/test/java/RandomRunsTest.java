import java.util.Random;

/** Compares long runs of chosen-by-seed calls of FilterRules with those of Book. */
public final class RandomRunsTest {
    private static final int RUNS = 120;
    private static final int CALLS = 512;
    private static final int[] STRANGE = {-2, -1, 32, 33, 99, 100, 1000,
        Integer.MAX_VALUE, Integer.MIN_VALUE, Integer.MAX_VALUE - 7};

    private final Random random;
    private final int run;
    private final FilterRules rules = new FilterRules();
    private final Book book = new Book();

    private RandomRunsTest(int run) {
        this.run = run;
        this.random = new Random(7919L * run + 17);
    }

    public static void main(String[] args) {
        for (int run = 0; run < RUNS; run++) {
            RandomRunsTest test = new RandomRunsTest(run);
            for (int call = 0; call < CALLS; call++) {
                test.callOnce(call);
            }
        }
        Due.end();
    }

    private void callOnce(int call) {
        int kind = random.nextInt(100);
        if (call < 12 && run % 3 != 0) {
            kind = random.nextInt(12);
        }
        if (kind < 26) {
            callObjects(kind);
        } else if (kind < 56) {
            callRules(kind);
        } else if (kind < 76) {
            callDecisions(kind);
        } else {
            callOrder(kind);
        }
    }

    private void callObjects(int kind) {
        int object = object();
        int member = object();
        int low = value();
        int high = value(low);
        if (kind < 4) {
            both("addObject", () -> rules.addObject(), () -> book.addObject());
        } else if (kind < 9) {
            both("addRange " + object + " " + low + " " + high,
                () -> rules.addRange(object, low, high), () -> book.addRange(object, low, high));
        } else if (kind < 14) {
            both("addMember " + object + " " + member,
                () -> rules.addMember(object, member), () -> book.addMember(object, member));
        } else if (kind < 16) {
            both("removeRange " + object,
                () -> rules.removeRange(object), () -> book.removeRange(object));
        } else if (kind < 18) {
            both("removeMember " + object + " " + member,
                () -> rules.removeMember(object, member), () -> book.removeMember(object, member));
        } else if (kind < 20) {
            both("values " + object, () -> rules.values(object), () -> book.values(object));
        } else if (kind < 23) {
            both("hasValue " + object + " " + low,
                () -> rules.hasValue(object, low), () -> book.hasValue(object, low));
        } else {
            both("users " + object, () -> rules.users(object), () -> book.users(object));
        }
    }

    private void callRules(int kind) {
        int rule = rule();
        int owner = strangeOr(random.nextInt(6));
        int days = strangeOr(1 + random.nextInt(random.nextBoolean() ? 9 : 99));
        int day = random.nextInt(4) == 0 ? -1 : strangeOr(book.day() + random.nextInt(30) - 2);
        int position = position();
        if (kind < 36) {
            addRule(owner);
        } else if (kind < 38) {
            both("removeRule " + rule, () -> rules.removeRule(rule), () -> book.removeRule(rule));
        } else if (kind < 42) {
            both("setLastDay " + rule + " " + day,
                () -> rules.setLastDay(rule, day), () -> book.setLastDay(rule, day));
        } else if (kind < 45) {
            both("isInForce " + rule, () -> rules.isInForce(rule), () -> book.isInForce(rule));
        } else if (kind < 48) {
            both("expiring " + owner + " " + days,
                () -> rules.expiring(owner, days), () -> book.expiring(owner, days));
        } else if (kind < 50) {
            both("rules", () -> rules.rules(), () -> book.rules());
        } else if (kind < 53) {
            both("ruleAt " + position, () -> rules.ruleAt(position), () -> book.ruleAt(position));
        } else if (kind < 55) {
            both("pass " + days, () -> rules.pass(days), () -> book.pass(days));
        } else {
            both("day", () -> rules.day(), () -> book.day());
        }
    }

    private void addRule(int owner) {
        int position = position();
        char action = "aaaaaaddddddAx\u0000\u0161".charAt(random.nextInt(16));
        int source = random.nextInt(3) == 0 ? -1 : object();
        int target = random.nextInt(3) == 0 ? -1 : object();
        int service = random.nextInt(3) == 0 ? -1 : object();
        both("addRule " + position + " " + (int) action + " " + source + " " + target + " "
                + service + " " + owner,
            () -> rules.addRule(position, action, source, target, service, owner),
            () -> book.addRule(position, action, source, target, service, owner));
    }

    private void callDecisions(int kind) {
        int rule = rule();
        int source = value();
        int target = value();
        int service = value();
        if (kind < 66) {
            both("packet " + source + " " + target + " " + service,
                () -> rules.packet(source, target, service),
                () -> book.packet(source, target, service));
        } else if (kind < 68) {
            both("decider " + source + " " + target + " " + service,
                () -> rules.decider(source, target, service),
                () -> book.decider(source, target, service));
        } else if (kind < 69) {
            both("hits " + rule, () -> rules.hits(rule), () -> book.hits(rule));
        } else if (kind < 70) {
            both("busyDays " + rule, () -> rules.busyDays(rule), () -> book.busyDays(rule));
        } else if (kind < 72) {
            both("idleDays " + rule, () -> rules.idleDays(rule), () -> book.idleDays(rule));
        } else if (kind < 73) {
            both("matched " + rule, () -> rules.matched(rule), () -> book.matched(rule));
        } else if (kind < 74) {
            both("decided " + rule, () -> rules.decided(rule), () -> book.decided(rule));
        } else {
            both("decidedBySamples " + rule,
                () -> rules.decidedBySamples(rule), () -> book.decided(rule));
        }
    }

    private void callOrder(int kind) {
        int rule = rule();
        int position = position();
        int object = object();
        int low = value();
        int high = value(low);
        if (kind < 78) {
            both("isShadowed " + rule, () -> rules.isShadowed(rule), () -> book.isShadowed(rule));
        } else if (kind < 80) {
            both("mainShadow " + rule, () -> rules.mainShadow(rule), () -> book.mainShadow(rule));
        } else if (kind < 82) {
            both("accepted", () -> rules.accepted(), () -> book.accepted());
        } else if (kind < 85) {
            both("changedByMove " + rule + " " + position,
                () -> rules.changedByMove(rule, position),
                () -> book.changedByMove(rule, position));
        } else if (kind < 88) {
            both("move " + rule + " " + position,
                () -> rules.move(rule, position), () -> book.move(rule, position));
        } else if (kind < 91) {
            both("sortByHits", () -> rules.sortByHits(), () -> book.sortByHits());
        } else if (kind < 95) {
            both("changedByRange " + object + " " + low + " " + high,
                () -> rules.changedByRange(object, low, high),
                () -> book.changedByRange(object, low, high));
        } else if (kind < 97) {
            both("shadowedShare", () -> rules.shadowedShare(), () -> book.shadowedShare());
        } else {
            both("meanHits", () -> rules.meanHits(), () -> book.meanHits());
        }
    }

    private void both(String call, Due.Call ofRules, Due.Call ofBook) {
        Due.answers(Due.outcome(ofBook), "run " + run + ": " + call, ofRules);
    }

    private int strangeOr(int ordinary) {
        return random.nextInt(25) == 0 ? STRANGE[random.nextInt(STRANGE.length)] : ordinary;
    }

    private int object() {
        return strangeOr(random.nextInt(random.nextInt(4) == 0 ? 9 : 4));
    }

    private int value() {
        return strangeOr(random.nextInt(32));
    }

    private int value(int low) {
        boolean ordered = low >= 0 && low < 32 && random.nextInt(8) != 0;
        return strangeOr(ordered ? low + random.nextInt(32 - low) : random.nextInt(32));
    }

    private int position() {
        return strangeOr(random.nextInt(book.rules() + 1));
    }

    private int rule() {
        boolean present = book.rules() > 0 && random.nextInt(10) != 0;
        return strangeOr(present ? book.ruleAt(random.nextInt(book.rules())) : random.nextInt(20));
    }
}
