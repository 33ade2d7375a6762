import java.math.BigInteger;
import java.util.ArrayDeque;
import java.util.ArrayList;
import java.util.Deque;
import java.util.List;
import java.util.regex.Matcher;
import java.util.regex.Pattern;

/**
 * A second program for the same document, written to be plain and with the whole Java library: the
 * state is copied before each change, and what would be is found by doing it to a copy.
 */
final class Model {
    private static final String NUMBER = "[1-9][0-9]{0,4}";
    private static final String LAYER = "[0-7]\\*" + NUMBER;
    private static final String SHARE = "(1000|[1-9][0-9]{0,2})";
    private static final Pattern BOND = Pattern.compile(
        "p[0-7]s" + NUMBER + ":" + LAYER + "(\\+" + LAYER + "){0,3}@" + SHARE + "(\\+" + SHARE + "){0,4}[le]");

    private static final class Layer {
        int surety;
        int limit;
        int left;
        int paid;
    }

    private static final class Bond {
        int principal;
        int sum;
        boolean shared;
        final List<Layer> layers = new ArrayList<>();
        final List<Integer> shares = new ArrayList<>();
        int reached;
        int called;
        int paid;
        int released;
        boolean runs = true;

        int left() {
            return sum - called - released;
        }

        int limitsLeft() {
            int all = 0;
            for (Layer layer : layers) {
                all += layer.left;
            }
            return all;
        }

        void trim() {
            for (int index = layers.size() - 1; index >= 0; index--) {
                Layer layer = layers.get(index);
                while (layer.left > 0 && limitsLeft() > left()) {
                    layer.left -= Math.min(layer.left, limitsLeft() - left());
                }
            }
        }

        Bond copy() {
            Bond other = new Bond();
            other.principal = principal;
            other.sum = sum;
            other.shared = shared;
            for (Layer layer : layers) {
                Layer same = new Layer();
                same.surety = layer.surety;
                same.limit = layer.limit;
                same.left = layer.left;
                same.paid = layer.paid;
                other.layers.add(same);
            }
            other.shares.addAll(shares);
            other.reached = reached;
            other.called = called;
            other.paid = paid;
            other.released = released;
            other.runs = runs;
            return other;
        }
    }

    private static final class World {
        final int[] cash = new int[8];
        final int[] guarantor = {-1, -1, -1, -1, -1, -1, -1, -1};
        final int[] percent = new int[8];
        final int[] asPrincipal = new int[8];
        final int[] asSurety = new int[8];
        final int[] asCounter = new int[8];
        final int[][] owes = new int[8][8];
        final int[] settings = {5, 20, 5};
        final List<Bond> bonds = new ArrayList<>();
        int brought;

        World copy() {
            World other = new World();
            for (int p = 0; p < 8; p++) {
                other.cash[p] = cash[p];
                other.guarantor[p] = guarantor[p];
                other.percent[p] = percent[p];
                other.asPrincipal[p] = asPrincipal[p];
                other.asSurety[p] = asSurety[p];
                other.asCounter[p] = asCounter[p];
                for (int q = 0; q < 8; q++) {
                    other.owes[p][q] = owes[p][q];
                }
            }
            for (int s = 0; s < 3; s++) {
                other.settings[s] = settings[s];
            }
            for (Bond bond : bonds) {
                other.bonds.add(bond.copy());
            }
            other.brought = brought;
            return other;
        }
    }

    private World world = new World();
    private final Deque<World> saved = new ArrayDeque<>();
    private String buffer = "";

    private void save() {
        saved.addLast(world.copy());
        if (saved.size() > 6) {
            saved.removeFirst();
        }
    }

    private static void index(boolean fits) {
        if (!fits) {
            throw new IndexOutOfBoundsException();
        }
    }

    private static void argument(boolean fits) {
        if (!fits) {
            throw new IllegalArgumentException();
        }
    }

    private static void state(boolean fits) {
        if (!fits) {
            throw new IllegalStateException();
        }
    }

    private static boolean in(int value, int least, int most) {
        return least <= value && value <= most;
    }

    int bring(int p, int amount) {
        index(in(p, 0, 7));
        argument(in(amount, 1, 99999));
        save();
        world.cash[p] += amount;
        world.brought += amount;
        return world.cash[p];
    }

    int takeOut(int p, int amount) {
        index(in(p, 0, 7));
        argument(in(amount, 1, 99999));
        state(world.cash[p] >= amount);
        state(world.cash[p] - amount >= bound(p) * world.settings[1] / 100);
        save();
        world.cash[p] -= amount;
        world.brought -= amount;
        return world.cash[p];
    }

    int guarantee(int p, int guarantor, int percent) {
        index(in(p, 0, 7));
        index(in(guarantor, -1, 7));
        argument(guarantor == -1 || in(percent, 1, 100));
        World then = world.copy();
        then.guarantor[p] = guarantor;
        for (int one = 0; one < 8; one++) {
            int next = then.guarantor[one];
            for (int step = 0; step < 20 && next >= 0; step++) {
                state(next != one);
                next = then.guarantor[next];
            }
        }
        save();
        int previous = world.guarantor[p];
        world.guarantor[p] = guarantor;
        world.percent[p] = guarantor == -1 ? 0 : percent;
        return previous;
    }

    int repay(int p, int other, int amount) {
        index(in(p, 0, 7) && in(other, 0, 7));
        argument(in(amount, 1, 99999));
        state(world.owes[p][other] >= amount && world.cash[p] >= amount);
        save();
        world.cash[p] -= amount;
        world.cash[other] += amount;
        world.owes[p][other] -= amount;
        return world.owes[p][other];
    }

    int set(int setting, int value) {
        index(in(setting, 0, 2));
        int[] least = {0, 0, 1};
        int[] most = {9, 100, 9};
        argument(in(value, least[setting], most[setting]));
        save();
        int previous = world.settings[setting];
        world.settings[setting] = value;
        return previous;
    }

    int call(int b, int amount, int proof) {
        index(in(b, 0, world.bonds.size() - 1));
        argument(in(amount, 1, 99999) && in(proof, 0, 9));
        state(world.bonds.get(b).runs && proof >= world.settings[0]);
        save();
        return doCall(world, b, amount)[0];
    }

    /** Carries a call out; answers what is paid, the loss, and the thin layer. */
    private static int[] doCall(World w, int b, int wanted) {
        Bond bond = w.bonds.get(b);
        int amount = Math.min(wanted, bond.left());
        bond.called += amount;
        int open = amount;
        int byPrincipal = Math.min(open, w.cash[bond.principal]);
        w.cash[bond.principal] -= byPrincipal;
        w.asPrincipal[bond.principal] += byPrincipal;
        open -= byPrincipal;
        int[] parts = bond.shared ? parts(bond, open) : null;
        int thin = -1;
        for (int number = 0; number < bond.layers.size(); number++) {
            Layer layer = bond.layers.get(number);
            int should = bond.shared ? parts[number] : Math.min(open, layer.left);
            int pays = Math.min(should, w.cash[layer.surety]);
            thin = thin < 0 && pays < should ? number : thin;
            w.cash[layer.surety] -= pays;
            w.asSurety[layer.surety] += pays;
            w.owes[bond.principal][layer.surety] += pays;
            layer.paid += pays;
            layer.left -= pays;
            open -= pays;
            makeGood(w, bond.principal, bond.principal, layer.surety, pays);
        }
        bond.paid += amount - open;
        bond.trim();
        return new int[] {amount - open, open, thin};
    }

    private static int[] parts(Bond bond, int open) {
        int layers = bond.layers.size();
        int[] parts = new int[layers];
        int all = bond.limitsLeft();
        if (all == 0) {
            return parts;
        }
        int rest = Math.min(open, all);
        List<BigInteger> remainders = new ArrayList<>();
        int given = 0;
        for (int number = 0; number < layers; number++) {
            BigInteger product = BigInteger.valueOf(rest).multiply(BigInteger.valueOf(bond.layers.get(number).left));
            BigInteger[] division = product.divideAndRemainder(BigInteger.valueOf(all));
            parts[number] = division[0].intValueExact();
            remainders.add(division[1]);
            given += parts[number];
        }
        List<Integer> order = new ArrayList<>();
        for (int number = 0; number < layers; number++) {
            order.add(number);
        }
        order.sort((one, two) -> {
            int byRemainder = remainders.get(two).compareTo(remainders.get(one));
            return byRemainder != 0 ? byRemainder : Integer.compare(one, two);
        });
        for (int turn = 0; turn < rest - given; turn++) {
            parts[order.get(turn)]++;
        }
        return parts;
    }

    private static void makeGood(World w, int principal, int ahead, int surety, int money) {
        int payer = w.guarantor[ahead];
        if (payer < 0) {
            return;
        }
        int should = money * w.percent[ahead] / 100;
        int pays = payer == surety ? 0 : Math.min(should, w.cash[payer]);
        w.cash[payer] -= pays;
        w.asCounter[payer] += pays;
        w.cash[surety] += pays;
        w.owes[principal][surety] -= pays;
        w.owes[principal][payer] += pays;
        makeGood(w, principal, payer, surety, should - pays);
    }

    int reach(int b) {
        index(in(b, 0, world.bonds.size() - 1));
        state(world.bonds.get(b).runs && world.bonds.get(b).reached < world.bonds.get(b).shares.size());
        save();
        Bond bond = world.bonds.get(b);
        int released = Math.min(bond.left(), bond.sum * bond.shares.get(bond.reached) / 1000);
        bond.reached++;
        bond.released += released;
        bond.trim();
        return released;
    }

    int end(int b) {
        index(in(b, 0, world.bonds.size() - 1));
        state(world.bonds.get(b).runs);
        save();
        Bond bond = world.bonds.get(b);
        int released = bond.left();
        bond.released += released;
        bond.runs = false;
        bond.trim();
        return released;
    }

    int append(int code) {
        argument(in(code, 33, 126));
        state(buffer.length() < 60);
        buffer = buffer + (char) code;
        return buffer.length();
    }

    int clearBuffer() {
        int length = buffer.length();
        buffer = "";
        return length;
    }

    int firstError() {
        for (int length = 1; length <= buffer.length(); length++) {
            Matcher matcher = BOND.matcher(buffer.substring(0, length));
            if (!matcher.matches() && !matcher.hitEnd()) {
                return length - 1;
            }
        }
        return buffer.length();
    }

    int give() {
        argument(BOND.matcher(buffer).matches());
        Bond bond = new Bond();
        bond.principal = buffer.charAt(1) - '0';
        bond.sum = Integer.parseInt(buffer.substring(3, buffer.indexOf(':')));
        bond.shared = buffer.endsWith("e");
        int limits = 0;
        String seen = "" + bond.principal;
        for (String part : buffer.substring(buffer.indexOf(':') + 1, buffer.indexOf('@')).split("\\+")) {
            Layer layer = new Layer();
            layer.surety = part.charAt(0) - '0';
            layer.limit = Integer.parseInt(part.substring(2));
            layer.left = layer.limit;
            limits += layer.limit;
            argument(seen.indexOf(part.charAt(0)) < 0);
            seen = seen + layer.surety;
            bond.layers.add(layer);
        }
        int shares = 0;
        for (String part : buffer.substring(buffer.indexOf('@') + 1, buffer.length() - 1).split("\\+")) {
            bond.shares.add(Integer.parseInt(part));
            shares += Integer.parseInt(part);
        }
        argument(limits <= bond.sum && shares <= 1000);
        state(world.bonds.size() < 10);
        for (Layer layer : bond.layers) {
            state(bound(layer.surety) + layer.limit <= world.cash[layer.surety] * world.settings[2]);
        }
        save();
        buffer = "";
        world.bonds.add(bond);
        return world.bonds.size() - 1;
    }

    int undo() {
        state(!saved.isEmpty());
        world = saved.removeLast();
        return saved.size();
    }

    private int bound(int p) {
        int all = 0;
        for (Bond bond : world.bonds) {
            for (Layer layer : bond.layers) {
                all += layer.surety == p ? layer.left : 0;
            }
        }
        return all;
    }

    int person(int p, int what) {
        index(in(p, 0, 7));
        argument(in(what, 0, 10));
        int owed = 0;
        int owedTo = 0;
        for (int q = 0; q < 8; q++) {
            owed += world.owes[p][q];
            owedTo += world.owes[q][p];
        }
        int chain = 0;
        for (int next = world.guarantor[p]; next >= 0; next = world.guarantor[next]) {
            chain++;
        }
        int running = 0;
        for (Bond bond : world.bonds) {
            running += bond.runs && bond.principal == p ? 1 : 0;
        }
        return new int[] {world.cash[p], owed, owedTo, bound(p), world.guarantor[p], world.percent[p], chain,
            world.asPrincipal[p], world.asSurety[p], world.asCounter[p], running}[what];
    }

    int bond(int b, int what) {
        index(in(b, 0, world.bonds.size() - 1));
        argument(in(what, 0, 11));
        Bond bond = world.bonds.get(b);
        return new int[] {bond.principal, bond.sum, bond.shared ? 1 : 0, bond.layers.size(), bond.shares.size(),
            bond.reached, bond.called, bond.paid, bond.released, bond.left(), bond.limitsLeft(),
            bond.runs ? 1 : 0}[what];
    }

    int layer(int b, int l, int what) {
        index(in(b, 0, world.bonds.size() - 1));
        index(in(l, 0, world.bonds.get(b).layers.size() - 1));
        argument(in(what, 0, 3));
        Layer layer = world.bonds.get(b).layers.get(l);
        return new int[] {layer.surety, layer.limit, layer.left, layer.paid}[what];
    }

    int debt(int p, int other) {
        index(in(p, 0, 7) && in(other, 0, 7));
        return world.owes[p][other];
    }

    int count(int what) {
        argument(in(what, 0, 9));
        int cash = 0;
        int debts = 0;
        for (int p = 0; p < 8; p++) {
            cash += world.cash[p];
            debts += person(p, 1);
        }
        int running = 0;
        int called = 0;
        int paid = 0;
        int released = 0;
        for (Bond bond : world.bonds) {
            running += bond.runs ? 1 : 0;
            called += bond.called;
            paid += bond.paid;
            released += bond.released;
        }
        return new int[] {world.bonds.size(), running, cash, world.brought, called, paid, called - paid, debts,
            released, saved.size()}[what];
    }

    int setting(int setting) {
        index(in(setting, 0, 2));
        return world.settings[setting];
    }

    int ifCalled(int b, int amount, int what) {
        index(in(b, 0, world.bonds.size() - 1));
        argument(in(amount, 1, 99999) && in(what, 0, 10));
        if (!world.bonds.get(b).runs) {
            return 0;
        }
        World then = world.copy();
        int[] done = doCall(then, b, amount);
        if (what < 2) {
            return done[what];
        }
        return what == 10 ? then.bonds.get(b).limitsLeft() : then.cash[what - 2] - world.cash[what - 2];
    }

    int thin(int b) {
        index(in(b, 0, world.bonds.size() - 1));
        Bond bond = world.bonds.get(b);
        return bond.runs ? doCall(world.copy(), b, bond.left())[2] : -1;
    }

    int worst() {
        int worst = -1;
        int greatest = 0;
        for (int b = 0; b < world.bonds.size(); b++) {
            Bond bond = world.bonds.get(b);
            int loss = bond.runs ? doCall(world.copy(), b, bond.left())[1] : 0;
            if (loss > greatest) {
                greatest = loss;
                worst = b;
            }
        }
        return worst;
    }

    int spare(int p) {
        index(in(p, 0, 7));
        int kept = bound(p) * world.settings[1] / 100;
        return world.cash[p] > kept ? world.cash[p] - kept : 0;
    }

    double paidShare() {
        return count(4) == 0 ? 1.0 : (double) count(5) / count(4);
    }

    String buffer() {
        return buffer;
    }
}
