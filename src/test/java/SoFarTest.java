/**
 * What the document adds up: "so far", "what the person owes", "what others owe to the person", "all
 * debts", each over several calls, bonds and persons, and what is not counted by them.
 */
public final class SoFarTest {
    private SoFarTest() {
    }

    public static void main(String[] args) {
        paidSoFar();
        stillThereWhenEnded();
        goneWhenUndone();
        madeGoodSoFar();
        repaidIsNotPaid();
        lossesSoFar();
        releasedSoFar();
        byANewBond();
        anyCashForACall();
        everybodyOwesToEverybody();
        sumsOfAllDebts();
        debtsAreNoBonds();
        Check.end("SoFarTest");
    }

    /** Three bonds, and six calls of them: 18 and 9 and 7, of which person 0 paid 10 and person 1 paid 7 as principals. */
    private static BondLayers called() {
        BondLayers x = Check.withCash(10, 99, 99);
        Check.give(x, "p0s100:1*50@1l");
        Check.give(x, "p0s100:1*20+2*20@1e");
        Check.give(x, "p1s100:2*5@1l");
        Check.due("by the principal", x.call(0, 4, 9), 4);
        Check.due("by the principal, of another bond", x.call(1, 3, 9), 3);
        Check.due("3 by the principal, 6 by the layer", x.call(0, 9, 9), 9);
        Check.due("by the layer", x.call(0, 5, 9), 5);
        Check.due("3 by each layer", x.call(1, 6, 9), 6);
        Check.due("by a surety of others", x.call(2, 7, 9), 7);
        return x;
    }

    /** Promise 15: "7: what the person paid as a principal so far; 8: as a surety so far"; 17: "3: what it paid so far". */
    private static void paidSoFar() {
        BondLayers x = called();
        duePaidSoFar(x);
        Check.dueCash("all calls", x, 0, 78, 96);
        Check.due("bond(0, 9)", x.bond(0, 9), 82);
        Check.due("bond(1, 9)", x.bond(1, 9), 91);
        Check.due("bond(2, 9)", x.bond(2, 9), 93);
        Check.due("count(2), brought in and not paid", x.count(2), 208 - 34);
    }

    private static void duePaidSoFar(BondLayers x) {
        Check.due("person(0, 7)", x.person(0, 7), 10);
        Check.due("person(1, 7)", x.person(1, 7), 7);
        Check.due("person(2, 7)", x.person(2, 7), 0);
        Check.due("person(0, 8)", x.person(0, 8), 0);
        Check.due("person(1, 8)", x.person(1, 8), 14);
        Check.due("person(2, 8)", x.person(2, 8), 3);
        Check.duePaid("two calls", x, 0, 11);
        Check.duePaid("one call", x, 1, 3, 3);
        Check.duePaid("no call", x, 2, 0);
        int[] sums = {18, 9, 7};
        for (int bond = 0; bond < 3; bond++) {
            Check.due("bond(" + bond + ", 6)", x.bond(bond, 6), sums[bond]);
            Check.due("bond(" + bond + ", 7)", x.bond(bond, 7), sums[bond]);
        }
        Check.due("count(4)", x.count(4), 34);
        Check.due("count(5)", x.count(5), 34);
        Check.due("count(6)", x.count(6), 0);
        Check.dueDebts("debts of two bonds", x, 0, 0, 14, 3);
        Check.due("count(7)", x.count(7), 17);
    }

    /** "so far": what a bond that does not run any more has brought is counted on. */
    private static void stillThereWhenEnded() {
        BondLayers x = called();
        Check.due("end(1)", x.end(1), 91);
        duePaidSoFar(x);
        Check.due("end(0)", x.end(0), 82);
        Check.due("end(2)", x.end(2), 93);
        duePaidSoFar(x);
        Check.due("count(8)", x.count(8), 266);
        Check.due("layer(0, 0, 1), the limit", x.layer(0, 0, 1), 50);
        Check.due("layer(0, 0, 2), nothing is left of it", x.layer(0, 0, 2), 0);
    }

    /** "Restores the latest saved state": the sums, too. */
    private static void goneWhenUndone() {
        BondLayers x = called();
        x.call(1, 41, 9);
        Check.due("person(1, 8), 17 more", x.person(1, 8), 31);
        x.undo();
        duePaidSoFar(x);
        x.undo();
        Check.due("person(1, 7)", x.person(1, 7), 0);
        x.undo();
        Check.dueDebts("the shares were undone", x, 0, 0, 11, 0);
        Check.due("person(1, 8)", x.person(1, 8), 11);
        x.undo();
        Check.due("person(1, 8)", x.person(1, 8), 6);
        Check.duePaid("one call of two", x, 0, 6);
        x.undo();
        Check.due("person(0, 7)", x.person(0, 7), 7);
        Check.due("count(5)", x.count(5), 7);
        Check.due("count(7)", x.count(7), 0);
    }

    /** Persons 0 and 2 are principals without cash; person 3 makes good for both what person 1 has paid. */
    private static BondLayers madeGood() {
        BondLayers x = Check.withCash(0, 100, 0, 100);
        x.guarantee(0, 3, 50);
        x.guarantee(2, 3, 20);
        Check.give(x, "p0s100:1*50@1l");
        Check.give(x, "p2s100:1*50@1l");
        x.call(0, 10, 9);
        x.call(0, 4, 9);
        x.call(1, 20, 9);
        return x;
    }

    /** Promise 15: "9: as a counter-guarantor so far"; "1: what the person owes; 2: what others owe to the person". */
    private static void madeGoodSoFar() {
        BondLayers x = madeGood();
        Check.due("person(3, 9), 5 and 2 and 4", x.person(3, 9), 11);
        Check.due("person(3, 8)", x.person(3, 8), 0);
        Check.due("person(1, 8)", x.person(1, 8), 34);
        Check.dueDebts("person 0", x, 0, 0, 7, 0, 7);
        Check.dueDebts("person 2", x, 2, 0, 16, 0, 4);
        Check.due("person(0, 1)", x.person(0, 1), 14);
        Check.due("person(2, 1)", x.person(2, 1), 20);
        Check.due("person(1, 2), by two", x.person(1, 2), 23);
        Check.due("person(3, 2), by two", x.person(3, 2), 11);
        Check.due("person(1, 1)", x.person(1, 1), 0);
        Check.due("person(0, 2)", x.person(0, 2), 0);
        Check.due("count(7)", x.count(7), 34);
        Check.dueCash("made good for both", x, 0, 77, 0, 89);
        x.guarantee(0, BondLayers.NONE, 0);
        x.guarantee(2, 0, 100);
        Check.due("person(3, 9), no counter-guarantor any more", x.person(3, 9), 11);
        Check.dueDebts("debts stay", x, 2, 0, 16, 0, 4);
    }

    /** Promise 5: "Pays a debt back, out of the cash into that of the other person", and nothing else. */
    private static void repaidIsNotPaid() {
        BondLayers x = madeGood();
        x.bring(0, 30);
        Check.due("repay(0, 1, 7)", x.repay(0, 1, 7), 0);
        Check.due("repay(0, 3, 5)", x.repay(0, 3, 5), 2);
        Check.dueCash("repaid", x, 18, 84, 0, 94);
        Check.dueDebts("what is left of it", x, 0, 0, 0, 0, 2);
        Check.dueDebts("another one's debts", x, 2, 0, 16, 0, 4);
        Check.due("person(0, 7)", x.person(0, 7), 0);
        Check.due("person(1, 8)", x.person(1, 8), 34);
        Check.due("person(3, 9)", x.person(3, 9), 11);
        Check.duePaid("what was paid stays", x, 0, 14);
        Check.dueLeft("limits do not come back", x, 0, 36);
        Check.due("count(2)", x.count(2), 196);
        Check.due("count(3)", x.count(3), 230);
        Check.due("count(5)", x.count(5), 34);
        Check.due("count(7)", x.count(7), 22);
    }

    /** Promise 19: "6: losses so far", over several bonds, though cash comes later. */
    private static void lossesSoFar() {
        BondLayers x = Check.withCash(0, 5, 6);
        Check.give(x, "p0s100:1*5@1l");
        Check.give(x, "p0s100:2*6@1e");
        Check.due("a loss of 5", x.call(0, 10, 9), 5);
        Check.due("a loss of 14", x.call(1, 20, 9), 6);
        Check.due("a loss of 10", x.call(0, 10, 9), 0);
        Check.due("count(6)", x.count(6), 29);
        x.bring(0, 99);
        x.bring(1, 99);
        Check.due("no loss", x.call(0, 10, 9), 10);
        Check.due("count(6)", x.count(6), 29);
        x.end(0);
        Check.due("count(6), one was ended", x.count(6), 29);
        Check.due("count(4)", x.count(4), 50);
        Check.due("count(5)", x.count(5), 21);
        Check.dueDouble("paidShare()", x.paidShare(), 21.0 / 50);
    }

    /** Promises 16, 19: "8: what was released": by milestones and by the end, over several bonds. */
    private static void releasedSoFar() {
        BondLayers x = Check.withBond("p0s100:1*5@100+200+300l", 0, 99);
        Check.give(x, "p0s1000:1*5@10+20e");
        x.reach(0);
        x.reach(1);
        x.reach(0);
        Check.due("bond(0, 8)", x.bond(0, 8), 30);
        Check.due("bond(1, 8)", x.bond(1, 8), 10);
        Check.due("count(8)", x.count(8), 40);
        x.end(1);
        Check.due("bond(1, 8)", x.bond(1, 8), 1000);
        Check.due("bond(1, 5), those that were reached", x.bond(1, 5), 1);
        Check.due("count(8)", x.count(8), 1030);
        x.reach(0);
        Check.due("count(8)", x.count(8), 1060);
    }

    /** Settings: "for how many times the own cash a person can be bound by a new bond": by the new one alone. */
    private static void byANewBond() {
        BondLayers x = Check.withCash(0, 10, 10);
        Check.give(x, "p0s100:1*50@1l");
        x.set(2, 1);
        Check.due("person(1, 3), bound for more than the cash", x.person(1, 3), 50);
        Check.due("another surety has as much as is needed", Check.give(x, "p0s100:2*10@1l"), 1);
        Check.write(x, "p0s100:1*1@1l");
        Check.dueState("give(), the surety of the first one", x, x::give);
        Check.due("bond(0, 11)", x.bond(0, 11), 1);
        Check.dueLeft("the first one stays", x, 0, 50);
        Check.due("takeOut(2, 8), cash is taken out all the same", x.takeOut(2, 8), 2);
    }

    /** "Each layer pays .. as far as its cash allows": what has to be kept is for takeOut alone. */
    private static void anyCashForACall() {
        BondLayers x = Check.withCash(0, 100, 100);
        x.set(1, 100);
        x.guarantee(0, 2, 100);
        Check.give(x, "p0s500:1*100@1l");
        Check.give(x, "p3s900:1*400+2*500@1e");
        Check.due("spare(1)", x.spare(1), 0);
        Check.due("spare(2)", x.spare(2), 0);
        Check.due("call(0, 100, 9)", x.call(0, 100, 9), 100);
        Check.dueCash("all of it was made good", x, 0, 100, 0);
        BondLayers y = Check.withCash(100, 100);
        y.set(1, 100);
        Check.give(y, "p2s500:0*500@1l");
        Check.give(y, "p0s500:1*100@1l");
        Check.due("by a principal who is bound", y.call(1, 100, 9), 100);
        Check.dueCash("all of it", y, 0, 100);
    }

    /** What a person owes to the ones 0, 1, 2 .. 7 numbers farther on, for bonds that are not ten times as great. */
    private static final int[] OWED = {0, 3, 2, 3, 4, 1, 2, 3};

    private static int times(int principal) {
        return principal == 4 ? 10 : 1;
    }

    /** Eight bonds of eight principals, each paid by the next four, and made good in part by the three behind them. */
    private static BondLayers owing() {
        BondLayers x = Check.withCash(99, 99, 99, 99, 99, 99, 99, 99);
        x.set(1, 0);
        x.set(2, 9);
        for (int principal = 0; principal < 8; principal++) {
            int times = times(principal);
            int[] limits = {9 * times, 2 * times, 3 * times, 5 * times};
            StringBuilder text = new StringBuilder("p" + principal + "s" + 100 * times + ":");
            for (int layer = 0; layer < 4; layer++) {
                int surety = (principal + 1 + layer) % 8;
                text.append(layer == 0 ? "" : "+").append(surety).append('*').append(limits[layer]);
            }
            Check.give(x, text + "@1l");
        }
        for (int principal = 0; principal < 8; principal++) {
            callWithAChain(x, principal);
        }
        for (int person = 0; person < 8; person++) {
            makeCash(x, person, 0);
        }
        return x;
    }

    /** 18 are called; of the 9 of the first layer 1, 2 and 3 are made good, then the chain has no cash. */
    private static void callWithAChain(BondLayers x, int principal) {
        int times = times(principal);
        int[] cash = {0, 9, 2, 3, 4, 1, 2, 3};
        for (int step = 0; step < 8; step++) {
            makeCash(x, (principal + step) % 8, cash[step] * times);
        }
        int[] chain = {principal, (principal + 5) % 8, (principal + 6) % 8, (principal + 7) % 8};
        for (int place = 0; place < 3; place++) {
            x.guarantee(chain[place], chain[place + 1], 100);
        }
        Check.due("call(" + principal + ", ..)", x.call(principal, 18 * times, 9), 18 * times);
        for (int place = 0; place < 3; place++) {
            x.guarantee(chain[place], BondLayers.NONE, 0);
        }
    }

    private static void makeCash(BondLayers x, int person, int amount) {
        int cash = x.person(person, 0);
        if (cash < amount) {
            x.bring(person, amount - cash);
        } else if (cash > amount) {
            x.takeOut(person, cash - amount);
        }
    }

    /** Promise 18: "Returns what a person owes to another one": of each to each. */
    private static void everybodyOwesToEverybody() {
        BondLayers x = owing();
        for (int person = 0; person < 8; person++) {
            for (int step = 0; step < 8; step++) {
                int other = (person + step) % 8;
                Check.due("debt(" + person + ", " + other + ")", x.debt(person, other), OWED[step] * times(person));
            }
        }
    }

    /** Promises 15, 19, 23: sums of these debts, and what has nothing to do with them. */
    private static void sumsOfAllDebts() {
        BondLayers x = owing();
        for (int person = 0; person < 8; person++) {
            int toOthers = 18 * times(person);
            // the one of ten times as much is person 4
            int byOthers = 18 + 9 * OWED[(person + 4) % 8];
            Check.due("person(" + person + ", 1)", x.person(person, 1), toOthers);
            Check.due("person(" + person + ", 2)", x.person(person, 2), byOthers);
            Check.due("person(" + person + ", 3)", x.person(person, 3), person == 0 ? 10 : 1);
            Check.due("person(" + person + ", 10)", x.person(person, 10), 1);
        }
        int[] counts = {8, 8, 0, 306, 306, 306, 0, 306, 0, 6};
        for (int what = 0; what <= 9; what++) {
            Check.due("count(" + what + ")", x.count(what), counts[what]);
        }
        // nobody has cash, and ten times as much is left of bond 4
        Check.due("worst()", x.worst(), 4);
        Check.due("reach(4)", x.reach(4), 1);
        Check.due("end(4)", x.end(4), 819);
        Check.due("worst() of all alike", x.worst(), 0);
        Check.due("count(8)", x.count(8), 820);
        Check.due("person(0, 3), bound for bond 4 no more", x.person(0, 3), 0);
    }

    /** Promise 15: "10: bonds that run of which the person is the principal", whatever others owe. */
    private static void debtsAreNoBonds() {
        BondLayers x = Check.withBond("p5s9:7*5@1l", 0, 0, 0, 0, 0, 0, 0, 9);
        x.call(0, 5, 9);
        Check.due("debt(5, 7)", x.debt(5, 7), 5);
        for (int person = 0; person < 8; person++) {
            Check.due("person(" + person + ", 10)", x.person(person, 10), person == 5 ? 1 : 0);
        }
    }
}
