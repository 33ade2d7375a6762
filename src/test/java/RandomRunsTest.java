import java.util.Random;
import java.util.function.LongSupplier;

/** Runs of 512 calls drawn from fixed seeds, each call answered by the class and by the model. */
public final class RandomRunsTest {
    private static final int RUNS = 1500;
    private static final int CALLS = 512;

    private final Random random;
    private final int seed;
    private final BondLayers x = new BondLayers();
    private final Model model = new Model();
    private String pending = "";

    private RandomRunsTest(int seed) {
        this.seed = seed;
        this.random = new Random(seed);
    }

    public static void main(String[] args) {
        for (int seed = 0; seed < RUNS && !Check.hasWrong(); seed++) {
            new RandomRunsTest(seed).run();
        }
        Check.end("RandomRunsTest");
    }

    private void run() {
        for (int number = 1; number <= CALLS && !Check.hasWrong(); number++) {
            if (pending.isEmpty()) {
                oneCall(number);
            } else {
                int code = pending.charAt(0);
                pending = pending.substring(1);
                same(number, "append(" + code + ")", () -> x.append(code), () -> model.append(code));
                if (pending.isEmpty()) {
                    same(number, "give()", x::give, model::give);
                }
            }
            if (number % 40 == 0) {
                Check.due(label(number, "digest()"), x.digest(), digestOfModel());
            }
        }
        Check.due(label(CALLS, "digest()"), x.digest(), digestOfModel());
    }

    private String label(int number, String call) {
        return "seed " + seed + ", call " + number + ": " + call;
    }

    private void same(int number, String call, LongSupplier got, LongSupplier want) {
        Check.due(label(number, call), answer(got), answer(want));
    }

    /** The answer, or a number far from all answers for each exception. */
    private static long answer(LongSupplier call) {
        try {
            return call.getAsLong();
        } catch (RuntimeException thrown) {
            Class<?> type = thrown.getClass();
            if (type == IndexOutOfBoundsException.class) {
                return Long.MIN_VALUE + 1;
            }
            if (type == IllegalArgumentException.class) {
                return Long.MIN_VALUE + 2;
            }
            return type == IllegalStateException.class ? Long.MIN_VALUE + 3 : Long.MIN_VALUE + 4;
        }
    }

    private void oneCall(int number) {
        int p = person();
        int q = person();
        int b = bond();
        int amount = amount();
        switch (random.nextInt(26)) {
            case 0: case 1: same(number, "bring(" + p + ", " + amount + ")", () -> x.bring(p, amount), () -> model.bring(p, amount)); break;
            case 2: takeOut(number, p, amount); break;
            case 3: guarantee(number, p, random.nextInt(6) == 0 ? -1 : q); break;
            case 4: repay(number, p, q, amount); break;
            case 5: set(number); break;
            case 6: case 7: case 8: call(number, b, amount); break;
            case 9: same(number, "reach(" + b + ")", () -> x.reach(b), () -> model.reach(b)); break;
            case 10: if (random.nextInt(3) == 0) {
                same(number, "end(" + b + ")", () -> x.end(b), () -> model.end(b));
            } break;
            case 11: case 12: newText(number); break;
            case 13: same(number, "firstError()", x::firstError, model::firstError); break;
            case 14: same(number, "undo()", x::undo, model::undo); break;
            case 15: loose(number); break;
            default: look(number, p, q, b, amount); break;
        }
    }

    private void takeOut(int number, int p, int amount) {
        int most = answer(() -> model.spare(p)) > 0 ? model.spare(p) : 0;
        int taken = random.nextInt(3) == 0 ? amount : most + random.nextInt(3) - 1;
        same(number, "takeOut(" + p + ", " + taken + ")", () -> x.takeOut(p, taken), () -> model.takeOut(p, taken));
    }

    private void guarantee(int number, int p, int q) {
        int percent = random.nextInt(12) == 0 ? random.nextInt(104) - 1 : 1 + random.nextInt(100);
        same(number, "guarantee(" + p + ", " + q + ", " + percent + ")",
            () -> x.guarantee(p, q, percent), () -> model.guarantee(p, q, percent));
    }

    private void repay(int number, int p, int q, int amount) {
        int from = p;
        int to = q;
        for (int tries = 0; tries < 64 && random.nextInt(20) != 0; tries++) {
            int one = random.nextInt(8);
            int other = random.nextInt(8);
            if (model.debt(one, other) > 0) {
                from = one;
                to = other;
                break;
            }
        }
        int debtor = from;
        int creditor = to;
        long owed = answer(() -> model.debt(debtor, creditor));
        int paid = owed > 0 && random.nextInt(3) != 0 ? 1 + random.nextInt((int) owed + 1) : amount;
        same(number, "repay(" + debtor + ", " + creditor + ", " + paid + ")",
            () -> x.repay(debtor, creditor, paid), () -> model.repay(debtor, creditor, paid));
    }

    private void set(int number) {
        int setting = random.nextInt(20) == 0 ? random.nextInt(7) - 2 : random.nextInt(3);
        int value = setting == 1 ? random.nextInt(104) - 1 : random.nextInt(12) - 1;
        same(number, "set(" + setting + ", " + value + ")", () -> x.set(setting, value), () -> model.set(setting, value));
    }

    private void call(int number, int b, int amount) {
        int proof = random.nextInt(15) == 0 ? random.nextInt(14) - 2 : 9 - random.nextInt(6);
        same(number, "call(" + b + ", " + amount + ", " + proof + ")",
            () -> x.call(b, amount, proof), () -> model.call(b, amount, proof));
    }

    private void newText(int number) {
        same(number, "clearBuffer()", x::clearBuffer, model::clearBuffer);
        StringBuilder text = new StringBuilder();
        int principal = random.nextInt(8);
        int sum = 1 + random.nextInt(random.nextInt(4) == 0 ? 99999 : 2000);
        text.append('p').append(principal).append('s').append(sum).append(':');
        int layers = 1 + random.nextInt(4);
        int first = random.nextInt(7);
        int step = random.nextInt(3) == 0 ? 3 : 1;
        for (int layer = 0; layer < layers; layer++) {
            int surety = (principal + 1 + (first + layer * step) % 7) % 8;
            int most = Math.max(1, sum / layers);
            int limit = random.nextInt(3) == 0 ? most : 1 + random.nextInt(most);
            text.append(layer == 0 ? "" : "+").append(surety).append('*').append(limit);
        }
        text.append('@');
        int milestones = 1 + random.nextInt(5);
        for (int milestone = 0; milestone < milestones; milestone++) {
            int most = 1000 / milestones;
            text.append(milestone == 0 ? "" : "+").append(1 + random.nextInt(random.nextInt(15) == 0 ? 1000 : most));
        }
        text.append(random.nextBoolean() ? 'l' : 'e');
        if (random.nextInt(5) == 0) {
            String signs = "ps:*+@le0123456789x";
            char sign = signs.charAt(random.nextInt(signs.length()));
            int place = random.nextInt(text.length());
            if (random.nextBoolean()) {
                text.setCharAt(place, sign);
            } else if (random.nextBoolean()) {
                text.insert(place, sign);
            } else {
                text.deleteCharAt(place);
            }
        }
        pending = text.toString();
    }

    private void loose(int number) {
        String likely = "p0s1:1*1@1le+99";
        int length = model.buffer().length();
        int code = random.nextInt(3) == 0 ? 30 + random.nextInt(100) : likely.charAt(length % likely.length());
        same(number, "append(" + code + ")", () -> x.append(code), () -> model.append(code));
        if (random.nextInt(6) == 0) {
            same(number, "give()", x::give, model::give);
        }
    }

    private void look(int number, int p, int q, int b, int amount) {
        int what = random.nextInt(15) - 1;
        switch (random.nextInt(11)) {
            case 0: same(number, "person(" + p + ", " + what + ")", () -> x.person(p, what), () -> model.person(p, what)); break;
            case 1: same(number, "bond(" + b + ", " + what + ")", () -> x.bond(b, what), () -> model.bond(b, what)); break;
            case 2: layer(number, b); break;
            case 3: same(number, "debt(" + p + ", " + q + ")", () -> x.debt(p, q), () -> model.debt(p, q)); break;
            case 4: same(number, "count(" + what + ")", () -> x.count(what), () -> model.count(what)); break;
            case 5: same(number, "setting(" + (what - 1) + ")", () -> x.setting(what - 1), () -> model.setting(what - 1)); break;
            case 6: same(number, "ifCalled(" + b + ", " + amount + ", " + what + ")",
                () -> x.ifCalled(b, amount, what), () -> model.ifCalled(b, amount, what)); break;
            case 7: same(number, "thin(" + b + ")", () -> x.thin(b), () -> model.thin(b)); break;
            case 8: same(number, "worst()", x::worst, model::worst); break;
            case 9: same(number, "spare(" + p + ")", () -> x.spare(p), () -> model.spare(p)); break;
            default: same(number, "paidShare()", () -> Double.doubleToRawLongBits(x.paidShare()),
                () -> Double.doubleToRawLongBits(model.paidShare())); break;
        }
    }

    private void layer(int number, int b) {
        int layer = random.nextInt(6) - 1;
        int what = random.nextInt(6) - 1;
        same(number, "layer(" + b + ", " + layer + ", " + what + ")",
            () -> x.layer(b, layer, what), () -> model.layer(b, layer, what));
    }

    private int person() {
        return random.nextInt(40) == 0 ? random.nextInt(14) - 3 : random.nextInt(8);
    }

    private int bond() {
        int bonds = model.count(0);
        return bonds == 0 || random.nextInt(30) == 0 ? random.nextInt(14) - 2 : random.nextInt(bonds);
    }

    private int amount() {
        switch (random.nextInt(12)) {
            case 0: return random.nextInt(100010) - 3;
            case 1: return random.nextInt(4) - 1;
            case 2: return 99997 + random.nextInt(4);
            default: return 1 + random.nextInt(random.nextBoolean() ? 60 : 800);
        }
    }

    private long digestOfModel() {
        long hash = 2503;
        for (int what = 0; what <= 9; what++) {
            hash = 31 * hash + model.count(what);
        }
        for (int setting = 0; setting <= 2; setting++) {
            hash = 31 * hash + model.setting(setting);
        }
        for (int p = 0; p < 8; p++) {
            for (int what = 0; what <= 10; what++) {
                hash = 31 * hash + model.person(p, what);
            }
            hash = 31 * hash + model.spare(p);
            for (int q = 0; q < 8; q++) {
                hash = 31 * hash + model.debt(p, q);
            }
        }
        for (int b = 0; b < model.count(0); b++) {
            hash = digestOfBond(hash, b);
        }
        hash = 31 * hash + model.worst();
        hash = 31 * hash + Double.doubleToLongBits(model.paidShare());
        hash = 31 * hash + model.buffer().length();
        for (char code : model.buffer().toCharArray()) {
            hash = 31 * hash + code;
        }
        return hash;
    }

    private long digestOfBond(long start, int b) {
        long hash = start;
        for (int what = 0; what <= 11; what++) {
            hash = 31 * hash + model.bond(b, what);
        }
        for (int layer = 0; layer < model.bond(b, 3); layer++) {
            for (int what = 0; what <= 3; what++) {
                hash = 31 * hash + model.layer(b, layer, what);
            }
        }
        for (int what = 0; what <= 10; what++) {
            hash = 31 * hash + model.ifCalled(b, 1000, what);
        }
        return 31 * hash + model.thin(b);
    }
}
