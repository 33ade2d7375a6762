/** Promises 7 to 9: call, reach, end; and the terms "Bonds", "Calls", "Milestones". */
public final class BondsTest {
    private BondsTest() {
    }

    public static void main(String[] args) {
        principalPaysFirst();
        oneByOne();
        sharedByLimits();
        sharedWithEqualRemainders();
        sharedWithoutLimitsLeft();
        sharedWithOneLeft();
        greatProducts();
        callIsCutToWhatIsLeft();
        chainMakesGood();
        chainIsRoundedDown();
        suretyInTheChain();
        recoveredCashCanBeUsedAgain();
        counterGuarantorIsALaterSurety();
        bondsDoNotTouch();
        callThrows();
        reach();
        reachIsCutToWhatIsLeft();
        trimsFromTheLastLayerOn();
        end();
        Check.end("BondsTest");
    }

    private static void principalPaysFirst() {
        BondLayers x = Check.withCash(30, 100);
        Check.give(x, "p0s100:1*50@1l");
        Check.due("call(0, 30, 5)", x.call(0, 30, 5), 30);
        Check.dueCash("call of 30", x, 0, 100);
        Check.due("person(0, 7)", x.person(0, 7), 30);
        Check.due("person(1, 8)", x.person(1, 8), 0);
        Check.due("count(7)", x.count(7), 0);
        Check.due("call(0, 5, 9)", x.call(0, 5, 9), 5);
        Check.dueCash("call of 5", x, 0, 95);
        Check.due("debt(0, 1)", x.debt(0, 1), 5);
        Check.due("debt(1, 0)", x.debt(1, 0), 0);
        Check.due("person(0, 7)", x.person(0, 7), 30);
        Check.due("person(1, 8)", x.person(1, 8), 5);
        Check.due("layer(0, 0, 3)", x.layer(0, 0, 3), 5);
        Check.due("bond(0, 6)", x.bond(0, 6), 35);
        Check.due("bond(0, 7)", x.bond(0, 7), 35);
        Check.due("bond(0, 9)", x.bond(0, 9), 65);
        Check.dueLeft("calls of 35", x, 0, 45);
    }

    private static void oneByOne() {
        BondLayers x = Check.withCash(10, 20, 100, 100);
        Check.give(x, "p0s200:1*40+2*30+3*25@1l");
        // 10 by the principal, 20 (its cash) of 40, 30 (its limit), 15 of 25
        Check.due("call(0, 75, 5)", x.call(0, 75, 5), 75);
        Check.dueCash("one by one", x, 0, 0, 70, 85);
        Check.dueLeft("one by one", x, 0, 20, 0, 10);
        Check.due("debt(0, 1)", x.debt(0, 1), 20);
        Check.due("debt(0, 2)", x.debt(0, 2), 30);
        Check.due("debt(0, 3)", x.debt(0, 3), 15);
        Check.due("call(0, 60, 5), a loss of 50", x.call(0, 60, 5), 10);
        Check.due("count(6)", x.count(6), 50);
        Check.due("bond(0, 7)", x.bond(0, 7), 85);
        Check.dueLeft("all but the first paid", x, 0, 20, 0, 0);
    }

    private static void sharedByLimits() {
        BondLayers x = Check.withCash(0, 100, 100, 100, 100);
        Check.give(x, "p0s1000:1*70+2*50+3*30+4*20@1e");
        // 100 * 70 / 170 = 41 r 30, 50: 29 r 70, 30: 17 r 110, 20: 11 r 130; two are left over
        Check.due("call(0, 100, 5)", x.call(0, 100, 5), 100);
        Check.dueCash("shared", x, 0, 59, 71, 82, 88);
        Check.dueLeft("shared", x, 0, 29, 21, 12, 8);
        BondLayers y = Check.withCash(0, 100, 100, 5);
        Check.give(y, "p0s1000:3*10+1*50+2*30@1e");
        // 45 * 10 / 90 = 5, but then the cash 2
        y.takeOut(3, 3);
        Check.due("call(0, 45, 5), a share beyond cash", y.call(0, 45, 5), 42);
        Check.dueCash("a share beyond cash", y, 0, 75, 85, 0);
        Check.dueLeft("a share beyond cash", y, 0, 8, 25, 15);
        Check.due("count(6)", y.count(6), 3);
    }

    private static void sharedWithEqualRemainders() {
        BondLayers x = Check.withCash(0, 100, 100, 100);
        Check.give(x, "p0s100:1*10+2*10+3*10@1e");
        Check.due("call(0, 1, 5)", x.call(0, 1, 5), 1);
        Check.dueLeft("1 of 3", x, 0, 9, 10, 10);
        // 1 * 9 / 29 and 1 * 10 / 29: the greater remainder is that of the second layer
        Check.due("call(0, 1, 5)", x.call(0, 1, 5), 1);
        Check.dueLeft("1 more", x, 0, 9, 9, 10);
        Check.due("bond(0, 10)", x.bond(0, 10), 28);
        Check.due("call(0, 29, 5), 28 of it by the layers", x.call(0, 29, 5), 28);
        Check.dueLeft("all", x, 0, 0, 0, 0);
        BondLayers y = Check.withCash(0, 100, 100, 100);
        Check.give(y, "p0s100:1*10+2*10+3*10@1e");
        Check.due("call(0, 2, 5)", y.call(0, 2, 5), 2);
        Check.dueLeft("2 of 3", y, 0, 9, 9, 10);
    }

    private static void sharedWithoutLimitsLeft() {
        BondLayers x = Check.withCash(0, 100);
        Check.give(x, "p0s100:1*10@1e");
        Check.due("call(0, 20, 5)", x.call(0, 20, 5), 10);
        Check.due("call(0, 20, 5), no limit is left", x.call(0, 20, 5), 0);
        Check.due("thin(0), no limit is left", x.thin(0), -1);
        Check.due("bond(0, 9)", x.bond(0, 9), 60);
        Check.dueCash("no limit is left", x, 0, 90);
    }

    private static void sharedWithOneLeft() {
        BondLayers x = Check.withCash(0, 100, 100);
        Check.give(x, "p0s100:1*1+2*1@1e");
        Check.due("call(0, 1, 5)", x.call(0, 1, 5), 1);
        Check.dueLeft("1 is left", x, 0, 0, 1);
        Check.due("call(0, 7, 5), by the last 1", x.call(0, 7, 5), 1);
        Check.dueLeft("none is left", x, 0, 0, 0);
    }

    private static void greatProducts() {
        BondLayers x = Check.withCash(0, 99999, 99999);
        Check.give(x, "p0s99999:1*66666+2*33333@1000e");
        Check.due("call(0, 99998, 5)", x.call(0, 99998, 5), 99998);
        // 99998 * 66666 / 99999 = 66665 r 33333, 33333: 33332 r 66666
        Check.dueLeft("a great call", x, 0, 1, 0);
        Check.due("reach(0)", x.reach(0), 1);
        Check.dueLeft("all is released", x, 0, 0, 0);
    }

    private static void callIsCutToWhatIsLeft() {
        BondLayers x = Check.withCash(500, 100);
        Check.give(x, "p0s100:1*50@100l");
        Check.due("reach(0)", x.reach(0), 10);
        Check.due("call(0, 99999, 5)", x.call(0, 99999, 5), 90);
        Check.due("bond(0, 6)", x.bond(0, 6), 90);
        Check.due("bond(0, 9)", x.bond(0, 9), 0);
        Check.due("bond(0, 11), it still runs", x.bond(0, 11), 1);
        Check.dueLeft("nothing is left", x, 0, 0);
        Check.due("call(0, 1, 5) of nothing", x.call(0, 1, 5), 0);
        Check.due("count(6)", x.count(6), 0);
    }

    private static void chainMakesGood() {
        BondLayers x = Check.withCash(10, 200, 200, 0, 30, 20, 100);
        x.guarantee(0, 4, 50);
        x.guarantee(4, 5, 80);
        x.guarantee(5, 6, 75);
        Check.give(x, "p0s500:1*100+2*100@1l");
        // layer 0 pays 100: 4 should 50, has 30; 5 should 16, pays 16; 6 should 0
        // layer 1 pays 55: 4 should 27, has 0; 5 should 21, has 4; 6 should 12
        Check.due("call(0, 165, 5)", x.call(0, 165, 5), 165);
        Check.dueCash("the chain", x, 0, 146, 161, 0, 0, 0, 88);
        Check.due("debt(0, 1)", x.debt(0, 1), 54);
        Check.due("debt(0, 2)", x.debt(0, 2), 39);
        Check.due("debt(0, 4)", x.debt(0, 4), 30);
        Check.due("debt(0, 5)", x.debt(0, 5), 20);
        Check.due("debt(0, 6)", x.debt(0, 6), 12);
        Check.due("person(0, 1)", x.person(0, 1), 155);
        Check.due("person(4, 9)", x.person(4, 9), 30);
        Check.due("person(5, 9)", x.person(5, 9), 20);
        Check.due("person(6, 9)", x.person(6, 9), 12);
        Check.due("person(1, 8), all that was paid as a surety", x.person(1, 8), 100);
        Check.due("layer(0, 0, 3)", x.layer(0, 0, 3), 100);
        Check.due("bond(0, 7)", x.bond(0, 7), 165);
        Check.due("count(5)", x.count(5), 165);
    }

    private static void chainIsRoundedDown() {
        BondLayers x = Check.withCash(0, 1000, 1000, 1000);
        x.guarantee(0, 2, 99);
        Check.give(x, "p0s500:1*400@1l");
        Check.due("call(0, 100, 5)", x.call(0, 100, 5), 100);
        Check.due("person(2, 9), 99 of 100", x.person(2, 9), 99);
        Check.due("call(0, 1, 5)", x.call(0, 1, 5), 1);
        Check.due("person(2, 9), 0 of 1", x.person(2, 9), 99);
        x.guarantee(0, 2, 1);
        x.call(0, 199, 5);
        Check.due("person(2, 9), 1 of 199", x.person(2, 9), 100);
        Check.due("debt(0, 1)", x.debt(0, 1), 200);
        x.guarantee(0, 2, 100);
        x.call(0, 1, 5);
        Check.due("person(2, 9), 1 of 1", x.person(2, 9), 101);
        Check.due("debt(0, 1)", x.debt(0, 1), 200);
    }

    private static void suretyInTheChain() {
        BondLayers x = Check.withCash(0, 100, 100, 100);
        x.guarantee(0, 1, 50);
        x.guarantee(1, 2, 40);
        x.guarantee(2, 3, 10);
        Check.give(x, "p0s500:1*40+2*20@1l");
        // layer 0: 1 should 20 and is the surety, 2 should 8 and pays; layer 1: 1 should 10 and pays
        Check.due("call(0, 60, 5)", x.call(0, 60, 5), 60);
        Check.dueCash("the surety in the chain", x, 0, 58, 82, 100);
        Check.due("debt(0, 1)", x.debt(0, 1), 42);
        Check.due("debt(0, 2)", x.debt(0, 2), 18);
        Check.due("person(1, 9)", x.person(1, 9), 10);
        Check.due("person(2, 9)", x.person(2, 9), 8);
        Check.due("person(3, 9)", x.person(3, 9), 0);
    }

    private static void recoveredCashCanBeUsedAgain() {
        BondLayers x = Check.withCash(0, 50, 0, 100);
        x.guarantee(0, 3, 100);
        Check.give(x, "p0s500:1*100@1l");
        Check.due("call(0, 80, 5)", x.call(0, 80, 5), 50);
        Check.dueCash("made good wholly", x, 0, 50, 0, 50);
        Check.due("debt(0, 1)", x.debt(0, 1), 0);
        Check.due("debt(0, 3)", x.debt(0, 3), 50);
        Check.due("call(0, 80, 5) again", x.call(0, 80, 5), 50);
        Check.dueCash("made good wholly again", x, 0, 50, 0, 0);
        Check.dueLeft("the limit is used up", x, 0, 0);
    }

    private static void counterGuarantorIsALaterSurety() {
        BondLayers x = Check.withCash(0, 100, 30);
        x.guarantee(0, 2, 50);
        Check.give(x, "p0s500:1*40+2*40@1l");
        // 2 makes good 20 of the 40, so 10 are there when the own layer should pay 40
        Check.due("call(0, 80, 5)", x.call(0, 80, 5), 50);
        Check.dueCash("a later surety", x, 0, 80, 0);
        Check.due("debt(0, 1)", x.debt(0, 1), 20);
        Check.due("debt(0, 2)", x.debt(0, 2), 30);
        Check.due("undo()", x.undo(), 4);
        Check.due("thin(0)", x.thin(0), 1);
        BondLayers y = Check.withCash(0, 100, 30);
        y.guarantee(0, 2, 50);
        Check.give(y, "p0s80:1*40+2*40@1e");
        Check.due("call(0, 60, 5), shared", y.call(0, 60, 5), 45);
        Check.dueCash("a later surety, shared", y, 0, 85, 0);
        Check.dueLeft("trimmed from the last on", y, 0, 10, 10);
    }

    private static void bondsDoNotTouch() {
        BondLayers x = Check.withCash(0, 99, 99, 99, 99);
        for (int bond = 0; bond < 10; bond++) {
            int limit = 10 + bond;
            Check.give(x, "p0s100:1*" + limit + "+2*" + limit + "+3*" + limit + "+4*" + limit + "@10+20+30+40+50l");
        }
        for (int bond = 9; bond >= 0; bond--) {
            Check.due("call", x.call(bond, 4, 5), 4);
        }
        for (int bond = 0; bond < 10; bond++) {
            int limit = 10 + bond;
            Check.dueLeft("ten bonds", x, bond, limit - 4, limit, limit, limit);
            Check.due("bond(" + bond + ", 4)", x.bond(bond, 4), 5);
            for (int milestone = 1; milestone <= 5; milestone++) {
                Check.due("reach(" + bond + ")", x.reach(bond), milestone);
            }
        }
    }

    private static void callThrows() {
        BondLayers x = Check.withCash(10, 10);
        Check.dueIndex("call(0, 1, 9) without bonds", x, () -> x.call(0, 1, 9));
        Check.give(x, "p0s100:1*50@1l");
        Check.dueIndex("call(1, 0, 9)", x, () -> x.call(1, 0, 9));
        Check.dueIndex("call(-1, 1, 9)", x, () -> x.call(-1, 1, 9));
        Check.dueArgument("call(0, 0, 9)", x, () -> x.call(0, 0, 9));
        Check.dueArgument("call(0, 100000, 9)", x, () -> x.call(0, 100000, 9));
        Check.dueArgument("call(0, 1, 10)", x, () -> x.call(0, 1, 10));
        Check.dueArgument("call(0, 1, -1)", x, () -> x.call(0, 1, -1));
        Check.dueArgument("call(0, 0, 0)", x, () -> x.call(0, 0, 0));
        Check.dueState("call(0, 1, 4)", x, () -> x.call(0, 1, 4));
        Check.due("call(0, 1, 5)", x.call(0, 1, 5), 1);
        x.set(0, 9);
        Check.dueState("call(0, 1, 8)", x, () -> x.call(0, 1, 8));
        Check.due("call(0, 1, 9)", x.call(0, 1, 9), 1);
        x.set(0, 0);
        Check.due("call(0, 1, 0)", x.call(0, 1, 0), 1);
        x.end(0);
        Check.dueState("call(0, 1, 9), ended", x, () -> x.call(0, 1, 9));
        Check.dueArgument("call(0, 0, 9), ended", x, () -> x.call(0, 0, 9));
    }

    private static void reach() {
        BondLayers x = Check.withCash(0, 100);
        Check.give(x, "p0s999:1*500@250+1+500e");
        Check.due("reach(0), rounded down", x.reach(0), 249);
        Check.due("bond(0, 5)", x.bond(0, 5), 1);
        Check.due("bond(0, 8)", x.bond(0, 8), 249);
        Check.due("reach(0), rounded down to 0", x.reach(0), 0);
        Check.due("bond(0, 5)", x.bond(0, 5), 2);
        Check.dueLeft("750 are left", x, 0, 500);
        Check.due("reach(0)", x.reach(0), 499);
        Check.due("bond(0, 9)", x.bond(0, 9), 251);
        Check.dueLeft("trimmed", x, 0, 251);
        Check.due("count(8)", x.count(8), 748);
        Check.due("count(9)", x.count(9), 5);
        Check.dueState("reach(0), all were reached", x, () -> x.reach(0));
        Check.due("bond(0, 11), it runs", x.bond(0, 11), 1);
        Check.dueIndex("reach(1)", x, () -> x.reach(1));
        Check.dueIndex("reach(-1)", x, () -> x.reach(-1));
        x.undo();
        Check.due("undone: bond(0, 5)", x.bond(0, 5), 2);
        Check.dueLeft("undone", x, 0, 500);
        x.end(0);
        Check.dueState("reach(0), ended", x, () -> x.reach(0));
    }

    private static void reachIsCutToWhatIsLeft() {
        BondLayers x = Check.withCash(900, 100);
        Check.give(x, "p0s1000:1*500@300+300e");
        x.call(0, 600, 5);
        Check.due("reach(0)", x.reach(0), 300);
        Check.due("reach(0), less is left", x.reach(0), 100);
        Check.due("bond(0, 9)", x.bond(0, 9), 0);
        Check.dueLeft("nothing is left", x, 0, 0);
    }

    private static void trimsFromTheLastLayerOn() {
        BondLayers x = Check.withCash(0, 100, 100, 100);
        Check.give(x, "p0s100:1*40+2*30+3*20@150+200+100+500l");
        Check.due("reach(0)", x.reach(0), 15);
        Check.dueLeft("85 are left", x, 0, 40, 30, 15);
        Check.due("reach(0)", x.reach(0), 20);
        Check.dueLeft("65 are left", x, 0, 40, 25, 0);
        Check.due("person(3, 3)", x.person(3, 3), 0);
        Check.due("person(2, 3)", x.person(2, 3), 25);
        // the call of 10 is paid by layer 0, and brings the limits to what is left, 55
        Check.due("call(0, 10, 5)", x.call(0, 10, 5), 10);
        Check.dueLeft("55 are left", x, 0, 30, 25, 0);
        Check.due("layer(0, 2, 1), the limit itself stays", x.layer(0, 2, 1), 20);
        x.takeOut(1, 70);
        Check.due("call(0, 30, 5)", x.call(0, 30, 5), 30);
        // layer 0 paid its cash 20 of 30, layer 1 paid 10 of 25; 25 are left: 10 + 15
        Check.dueLeft("25 are left", x, 0, 10, 15, 0);
        Check.due("reach(0)", x.reach(0), 10);
        Check.dueLeft("15 are left", x, 0, 10, 5, 0);
        Check.due("reach(0)", x.reach(0), 15);
        Check.dueLeft("none are left", x, 0, 0, 0, 0);
        BondLayers y = Check.withCash(100, 100, 100);
        Check.give(y, "p0s100:1*60+2*40@1l");
        Check.due("call(0, 70, 5), paid by the principal", y.call(0, 70, 5), 70);
        Check.dueLeft("trimmed by a call", y, 0, 30, 0);
    }

    private static void end() {
        BondLayers x = Check.withCash(50, 100);
        Check.give(x, "p0s100:1*50@100l");
        Check.give(x, "p0s200:1*70@100l");
        x.call(0, 20, 5);
        x.reach(0);
        Check.due("person(0, 10)", x.person(0, 10), 2);
        Check.due("person(1, 3)", x.person(1, 3), 120);
        Check.due("end(0)", x.end(0), 70);
        Check.due("bond(0, 8)", x.bond(0, 8), 80);
        Check.due("bond(0, 9)", x.bond(0, 9), 0);
        Check.due("bond(0, 10)", x.bond(0, 10), 0);
        Check.due("bond(0, 11)", x.bond(0, 11), 0);
        Check.dueLeft("ended", x, 0, 0);
        Check.due("person(0, 10)", x.person(0, 10), 1);
        Check.due("person(1, 3)", x.person(1, 3), 70);
        Check.due("count(0)", x.count(0), 2);
        Check.due("count(1)", x.count(1), 1);
        Check.due("count(8)", x.count(8), 80);
        Check.due("count(9)", x.count(9), 6);
        Check.dueState("end(0) again", x, () -> x.end(0));
        Check.dueIndex("end(2)", x, () -> x.end(2));
        Check.dueIndex("end(-1)", x, () -> x.end(-1));
        x.undo();
        Check.due("undone: bond(0, 11)", x.bond(0, 11), 1);
        Check.due("undone: bond(0, 9)", x.bond(0, 9), 70);
    }
}
