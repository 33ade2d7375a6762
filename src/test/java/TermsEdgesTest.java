import java.util.Arrays;

/**
 * The edges that "Terms" names in the document, sentence by sentence: each test quotes the words
 * that it holds. What "Terms" says of exceptions stands in RefusedTest.
 */
public final class TermsEdgesTest {
    private TermsEdgesTest() {
    }

    public static void main(String[] args) {
        persons();
        bonds();
        leftAndTrimmed();
        calls();
        recourse();
        milestones();
        settings();
        undo();
        useOfOneObject();
        Check.end("TermsEdgesTest");
    }

    private static void persons() {
        eightPersons();
        twoPersonsOweToEachOther();
        chainsOfEveryLength();
        nobodyIsInTheOwnChain();
        chainsMayMeetAndBeCut();
    }

    /** "There are 8 persons, numbered from 0"; "A person has cash, at first 0". */
    private static void eightPersons() {
        BondLayers x = new BondLayers();
        Check.dueCash("at first", x, 0, 0, 0, 0, 0, 0, 0, 0);
        for (int person = 0; person < 8; person++) {
            Check.due("bring(" + person + ", " + (person + 1) + ")", x.bring(person, person + 1), person + 1);
        }
        Check.dueCash("each has the own cash", x, 1, 2, 3, 4, 5, 6, 7, 8);
        Check.dueIndex("person(-1, 0)", x, () -> x.person(-1, 0));
        Check.dueIndex("person(8, 0)", x, () -> x.person(8, 0));
    }

    /** "(two persons can owe to each other)". */
    private static void twoPersonsOweToEachOther() {
        BondLayers x = Check.withCash(1, 1);
        Check.give(x, "p0s9:1*5@1l");
        Check.give(x, "p1s9:0*5@1l");
        // 1 by the principal, 1 by person 1 who has no more; then person 1 has nothing to pay as a principal
        x.call(0, 5, 9);
        x.bring(0, 3);
        x.call(1, 2, 9);
        Check.due("debt(0, 1)", x.debt(0, 1), 1);
        Check.due("debt(1, 0)", x.debt(1, 0), 2);
        Check.due("person(0, 1)", x.person(0, 1), 1);
        Check.due("person(0, 2)", x.person(0, 2), 2);
        Check.due("count(7)", x.count(7), 3);
    }

    /** "the chain of a person is the counter-guarantor, the counter-guarantor of that one, and so on". */
    private static void chainsOfEveryLength() {
        BondLayers x = new BondLayers();
        for (int person = 6; person >= 0; person--) {
            x.guarantee(person, person + 1, 100);
            for (int other = 0; other < 8; other++) {
                Check.due("person(" + other + ", 6)", x.person(other, 6), other >= person ? 7 - other : 0);
            }
        }
    }

    /** "Nobody is in the own chain": rings of one to eight persons, closed at each of them. */
    private static void nobodyIsInTheOwnChain() {
        for (int size = 1; size <= 8; size++) {
            for (int last = 0; last < size; last++) {
                BondLayers x = new BondLayers();
                for (int person = 0; person < size; person++) {
                    if (person != last) {
                        x.guarantee(person, (person + 1) % size, 50);
                    }
                }
                int from = last;
                int to = (last + 1) % size;
                Check.dueState("a ring of " + size + " at " + from, x, () -> x.guarantee(from, to, 50));
                Check.due("no guarantor by a refused call", x.person(from, 4), -1);
            }
        }
    }

    /** "Nobody is in the own chain": chains that meet, and ones that were cut, are none of these. */
    private static void chainsMayMeetAndBeCut() {
        BondLayers x = new BondLayers();
        x.guarantee(0, 1, 50);
        x.guarantee(1, 2, 50);
        Check.due("two have the same guarantor", x.guarantee(3, 1, 50), -1);
        Check.due("the guarantor's guarantor", x.guarantee(0, 2, 50), 1);
        Check.due("back again", x.guarantee(0, 1, 50), 2);
        Check.dueState("guarantee(2, 0, 50)", x, () -> x.guarantee(2, 0, 50));
        Check.due("cut", x.guarantee(1, BondLayers.NONE, 50), 2);
        Check.due("guarantee(2, 0, 50) after the cut", x.guarantee(2, 0, 50), -1);
        Check.due("person(2, 6)", x.person(2, 6), 2);
        Check.dueState("guarantee(1, 2, 50) after it", x, () -> x.guarantee(1, 2, 50));
        Check.dueState("guarantee(1, 3, 50), that one comes to 1", x, () -> x.guarantee(1, 3, 50));
        Check.due("guarantee(1, 7, 50)", x.guarantee(1, 7, 50), -1);
        Check.due("person(2, 6)", x.person(2, 6), 3);
    }

    private static void bonds() {
        tenBonds();
        sums();
        limits();
        limitsTogether();
        shares();
        layersAndMilestones();
        sureties();
        runsUntilEnded();
        boundForAllOwnLayers();
    }

    /** "There are at most 10 bonds, numbered from 0 in the order in which they came". */
    private static void tenBonds() {
        BondLayers x = Check.withCash(0, 99);
        for (int bond = 0; bond < 10; bond++) {
            Check.due("count(0)", x.count(0), bond);
            int missing = bond;
            Check.dueIndex("bond(" + bond + ", 0), not given yet", x, () -> x.bond(missing, 0));
            Check.due("give()", Check.give(x, "p0s" + (bond + 1) + ":1*1@1l"), bond);
        }
        for (int bond = 0; bond < 10; bond++) {
            Check.due("bond(" + bond + ", 1)", x.bond(bond, 1), bond + 1);
        }
        Check.write(x, "p0s11:1*1@1l");
        Check.dueState("the eleventh", x, x::give);
        Check.due("count(0)", x.count(0), 10);
        x.undo();
        Check.due("the tenth was undone", x.count(0), 9);
        Check.due("give() of another tenth", x.give(), 9);
        Check.due("bond(9, 1)", x.bond(9, 1), 11);
    }

    /** "a sum, 1 to 99999". */
    private static void sums() {
        Check.due("sum 1", Check.withBond("p0s1:1*1@1l", 0, 99).bond(0, 1), 1);
        Check.due("sum 99999", Check.withBond("p0s99999:1*1@1l", 0, 99).bond(0, 1), 99999);
        dueWrongBond("p0s0:1*1@1l");
        dueWrongBond("p0s100000:1*1@1l");
    }

    /** "a limit, at least 1". */
    private static void limits() {
        Check.due("limit 1", Check.withBond("p0s99999:1*1@1l", 0, 99999).layer(0, 0, 1), 1);
        Check.due("limit 99999", Check.withBond("p0s99999:1*99999@1l", 0, 99999).layer(0, 0, 1), 99999);
        dueWrongBond("p0s99999:1*0@1l");
        dueWrongBond("p0s99999:1*1+2*0@1l");
        dueWrongBond("p0s99999:1*100000@1l");
    }

    /** "the limits together are at most the sum". */
    private static void limitsTogether() {
        String[] within = {"p0s10:1*9@1l", "p0s10:1*10@1l", "p0s10:1*9+2*1@1l", "p0s10:1*1+2*9@1l",
            "p0s10:1*1+2*2+3*7@1l", "p0s10:1*1+2*2+3*3+4*4@1l", "p0s99999:1*33333+2*33333+3*33333@1l"};
        for (String text : within) {
            BondLayers x = Check.withBond(text, 0, 99999, 99999, 99999, 99999);
            Check.due(text + ": bond(0, 3)", x.bond(0, 3), text.split("\\*").length - 1);
        }
        String[] beyond = {"p0s10:1*11@1l", "p0s10:1*10+2*1@1l", "p0s10:1*1+2*10@1l", "p0s10:1*1+2*2+3*8@1l",
            "p0s10:1*1+2*2+3*3+4*5@1l", "p0s10:1*2+2*2+3*3+4*4@1l", "p0s99999:1*33334+2*33333+3*33333@1l",
            "p0s99999:1*99999+2*99999+3*99999+4*99999@1l", "p0s1:1*1+2*1@1l"};
        for (String text : beyond) {
            dueWrongBond(text);
        }
    }

    /** "A milestone has a share in thousandths, at least 1; the shares together are at most 1000". */
    private static void shares() {
        String[] within = {"1", "1000", "999+1", "1+999", "200+200+200+200+200", "1+1+1+1+996", "1+1+1+1+1"};
        for (String shares : within) {
            BondLayers x = Check.withBond("p0s1000:1*1@" + shares + "e", 0, 99);
            String[] each = shares.split("\\+");
            Check.due(shares + ": bond(0, 4)", x.bond(0, 4), each.length);
            for (String share : each) {
                Check.due(shares + ": reach(0)", x.reach(0), Integer.parseInt(share));
            }
        }
        String[] beyond = {"0", "1001", "1000+1", "1+1000", "999+2", "200+200+200+200+201", "1+1+1+1+997",
            "1+0", "1000+1000+1000+1000+1000"};
        for (String shares : beyond) {
            dueWrongBond("p0s1000:1*1@" + shares + "e");
        }
    }

    /** "one to four layers, numbered from 0, and one to five milestones". */
    private static void layersAndMilestones() {
        String[] layers = {"1*1", "2*2", "3*3", "4*4", "5*5"};
        String[] shares = {"100", "101", "102", "103", "104", "105"};
        for (int count = 1; count <= 4; count++) {
            String text = "p0s1000:" + String.join("+", Arrays.copyOf(layers, count)) + "@1e";
            BondLayers x = Check.withBond(text, 0, 99, 99, 99, 99, 99);
            Check.due(text + ": bond(0, 3)", x.bond(0, 3), count);
            for (int layer = 0; layer < count; layer++) {
                Check.due(text + ": layer(0, " + layer + ", 0)", x.layer(0, layer, 0), layer + 1);
                Check.due(text + ": layer(0, " + layer + ", 1)", x.layer(0, layer, 1), layer + 1);
            }
            int none = count;
            Check.dueIndex(text + ": layer(0, " + none + ", 0)", x, () -> x.layer(0, none, 0));
            Check.dueIndex(text + ": layer(0, -1, 0)", x, () -> x.layer(0, -1, 0));
        }
        for (int count = 1; count <= 5; count++) {
            String text = "p0s1000:1*1@" + String.join("+", Arrays.copyOf(shares, count)) + "e";
            BondLayers x = Check.withBond(text, 0, 99);
            Check.due(text + ": bond(0, 4)", x.bond(0, 4), count);
            for (int milestone = 0; milestone < count; milestone++) {
                Check.due(text + ": reach(0)", x.reach(0), 100 + milestone);
            }
            Check.dueState(text + ": reach(0) of one more", x, () -> x.reach(0));
        }
        dueWrongBond("p0s1000:@1e");
        dueWrongBond("p0s1000:" + String.join("+", layers) + "@1e");
        dueWrongBond("p0s1000:1*1@e");
        dueWrongBond("p0s1000:1*1@" + String.join("+", shares) + "e");
    }

    /** "(the surety; not the principal, and not that of another layer of it)". */
    private static void sureties() {
        for (int wrong = 0; wrong < 4; wrong++) {
            dueWrongBond(withSurety(wrong, 0));
            for (int ahead = 0; ahead < 4; ahead++) {
                if (ahead != wrong) {
                    dueWrongBond(withSurety(wrong, ahead + 1));
                }
            }
            Check.due("surety 7", Check.withBond(withSurety(wrong, 7), 9, 9, 9, 9, 9, 9, 9, 9).layer(0, wrong, 0), 7);
        }
        // another bond may have the same ones, and the principal of one may be a surety of another
        BondLayers x = Check.withBond("p0s9:1*1+2*1@1l", 9, 9, 9);
        Check.due("the same once more", Check.give(x, "p0s9:1*1+2*1@1l"), 1);
        Check.due("the other way round", Check.give(x, "p1s9:0*1+2*1@1l"), 2);
    }

    /** Layers of the persons 1, 2, 3, 4, but for one of them. */
    private static String withSurety(int layer, int surety) {
        StringBuilder text = new StringBuilder("p0s99:");
        for (int each = 0; each < 4; each++) {
            text.append(each == 0 ? "" : "+").append(each == layer ? surety : each + 1).append("*1");
        }
        return text.append("@1l").toString();
    }

    private static void dueWrongBond(String text) {
        BondLayers x = Check.withText(text, 99999, 99999, 99999, 99999, 99999, 99999, 99999, 99999);
        Check.dueArgument("give() of " + text, x, x::give);
        Check.due("count(0) after " + text, x.count(0), 0);
    }

    /** "A bond runs until it is ended": neither a call of all nor the last milestone ends it. */
    private static void runsUntilEnded() {
        BondLayers x = Check.withBond("p0s9:1*1@1000l", 9, 9);
        Check.due("given: bond(0, 11)", x.bond(0, 11), 1);
        x.call(0, 9, 9);
        Check.due("all called: bond(0, 11)", x.bond(0, 11), 1);
        Check.due("all called: count(1)", x.count(1), 1);
        Check.due("all called: person(0, 10)", x.person(0, 10), 1);
        Check.due("reach(0) of nothing", x.reach(0), 0);
        Check.due("all reached: bond(0, 11)", x.bond(0, 11), 1);
        Check.due("call(0, 1, 9) of nothing", x.call(0, 1, 9), 0);
        Check.due("end(0) of nothing", x.end(0), 0);
        Check.due("ended: bond(0, 11)", x.bond(0, 11), 0);
        Check.due("ended: count(1)", x.count(1), 0);
        Check.due("ended: count(0)", x.count(0), 1);
        Check.due("ended: person(0, 10)", x.person(0, 10), 0);
    }

    /** "A person is bound for what is left of all limits of the own layers together". */
    private static void boundForAllOwnLayers() {
        BondLayers x = Check.withCash(0, 1000, 1000, 1000, 1000, 1000);
        Check.due("without a bond", x.person(1, 3), 0);
        Check.give(x, "p0s1000:1*10+2*500@1l");
        Check.give(x, "p0s1000:2*100+1*20@1l");
        Check.give(x, "p3s60:2*10+4*1+5*1+1*48@500e");
        Check.due("person(0, 3), a principal", x.person(0, 3), 0);
        Check.due("person(1, 3)", x.person(1, 3), 78);
        Check.due("person(2, 3)", x.person(2, 3), 610);
        Check.due("person(3, 3)", x.person(3, 3), 0);
        x.call(0, 4, 9);
        Check.due("4 were paid", x.person(1, 3), 74);
        x.reach(2);
        Check.due("30 were trimmed", x.person(1, 3), 44);
        x.end(1);
        Check.due("20 were released", x.person(1, 3), 24);
        Check.due("another surety of the ended one", x.person(2, 3), 510);
    }

    private static void leftAndTrimmed() {
        leftOfABond();
        trimmedByCalls();
        trimmedByMilestones();
        trimmedFromTheLastOn();
        trimmedByEnd();
    }

    /** "What is left of a bond is its sum, less what was called, less what was released". */
    private static void leftOfABond() {
        BondLayers x = Check.withBond("p0s100:1*1@100+100e", 30, 9);
        Check.due("at first", x.bond(0, 9), 100);
        x.call(0, 30, 9);
        Check.due("30 were called", x.bond(0, 9), 70);
        x.reach(0);
        Check.due("10 were released", x.bond(0, 9), 60);
        // nobody but the layer, for 1, pays: it is called all the same
        Check.due("call(0, 50, 9)", x.call(0, 50, 9), 1);
        Check.due("50 were called", x.bond(0, 9), 10);
        Check.due("reach(0)", x.reach(0), 10);
        Check.due("nothing is left", x.bond(0, 9), 0);
    }

    /** "whenever what is left of all limits of a bond together is more than what is left of the bond". */
    private static void trimmedByCalls() {
        BondLayers x = Check.withBond("p0s100:1*50+2*30@1l", 100, 99, 99);
        Check.dueLeft("80 of 100", x, 0, 50, 30);
        x.call(0, 19, 9);
        Check.dueLeft("80 of 81", x, 0, 50, 30);
        x.call(0, 1, 9);
        Check.dueLeft("80 of 80", x, 0, 50, 30);
        x.call(0, 1, 9);
        Check.dueLeft("79 are left", x, 0, 50, 29);
        x.call(0, 28, 9);
        Check.dueLeft("51 are left", x, 0, 50, 1);
        x.call(0, 1, 9);
        Check.dueLeft("50 are left", x, 0, 50, 0);
        x.call(0, 1, 9);
        Check.dueLeft("49 are left", x, 0, 49, 0);
        x.call(0, 48, 9);
        Check.dueLeft("1 is left", x, 0, 1, 0);
        x.call(0, 1, 9);
        Check.dueLeft("nothing is left", x, 0, 0, 0);
        Check.due("bond(0, 10)", x.bond(0, 10), 0);
        Check.due("layer(0, 0, 1), the limit stays", x.layer(0, 0, 1), 50);
        Check.due("layer(0, 1, 1), the limit stays", x.layer(0, 1, 1), 30);
    }

    /** "its share of the sum .. is released; and the limits are trimmed". */
    private static void trimmedByMilestones() {
        BondLayers x = Check.withBond("p0s100:1*50+2*30@200+10+290+10+490e", 0, 99, 99);
        int[][] left = {{50, 30}, {50, 29}, {50, 0}, {49, 0}, {0, 0}};
        int[] released = {20, 1, 29, 1, 49};
        for (int milestone = 0; milestone < 5; milestone++) {
            Check.due("reach(0)", x.reach(0), released[milestone]);
            Check.dueLeft("milestone " + milestone, x, 0, left[milestone]);
        }
    }

    /** "it becomes less by the difference, in the last layer first, then in the one ahead of it, and so on". */
    private static void trimmedFromTheLastOn() {
        int[][] left = {{4, 3, 2, 1}, {4, 3, 2, 0}, {4, 3, 1, 0}, {4, 3, 0, 0}, {4, 2, 0, 0}, {4, 1, 0, 0},
            {4, 0, 0, 0}, {3, 0, 0, 0}, {2, 0, 0, 0}, {1, 0, 0, 0}, {0, 0, 0, 0}};
        for (int called = 1; called <= 10; called++) {
            BondLayers x = Check.withBond("p0s10:1*4+2*3+3*2+4*1@1l", 10, 9, 9, 9, 9);
            x.call(0, called, 9);
            Check.dueLeft("a call of " + called, x, 0, left[called]);
            Check.due("bond(0, 10)", x.bond(0, 10), 10 - called);
        }
        BondLayers x = Check.withBond("p0s10:1*4+2*3+3*2+4*1@1e", 10, 9, 9, 9, 9);
        for (int called = 1; called <= 10; called++) {
            x.call(0, 1, 9);
            Check.dueLeft(called + " calls of 1", x, 0, left[called]);
        }
    }

    /** "When a bond is ended, all that is left of it is released, and the limits are trimmed". */
    private static void trimmedByEnd() {
        BondLayers x = Check.withBond("p0s100:1*4+2*3+3*2+4*1@100e", 0, 9, 9, 9, 9);
        x.reach(0);
        Check.due("end(0)", x.end(0), 90);
        Check.dueLeft("ended", x, 0, 0, 0, 0, 0);
        Check.due("bond(0, 8)", x.bond(0, 8), 100);
        Check.due("bond(0, 9)", x.bond(0, 9), 0);
    }

    private static void calls() {
        callOfWhatIsLeft();
        countsAsCalledWhoeverPays();
        principalPaysAsTheCashAllows();
        layersPayAsLimitAndCashAllow();
        layersPayOneByOne();
        sharesOfTheRest();
        restIsAtMostTheLimits();
        shareBeyondCash();
        trimmedWhenAllHavePaid();
    }

    /** "for an amount, or for what is left of the bond, if that is less". */
    private static void callOfWhatIsLeft() {
        int[][] calls = {{1, 1}, {99, 99}, {100, 100}, {101, 100}, {99999, 100}};
        for (int[] call : calls) {
            BondLayers x = Check.withBond("p0s110:1*1@90e", 500, 9);
            Check.due("reach(0), rounded down", x.reach(0), 9);
            x.call(0, 1, 9);
            Check.due("call(0, " + call[0] + ", 9)", x.call(0, call[0], 9), call[1]);
            Check.due("bond(0, 6)", x.bond(0, 6), call[1] + 1);
            Check.due("bond(0, 9)", x.bond(0, 9), 100 - call[1]);
            Check.due("count(6)", x.count(6), 0);
        }
        BondLayers x = Check.withBond("p0s9:1*1@1000e", 500, 9);
        x.reach(0);
        Check.due("call(0, 1, 9), nothing is left", x.call(0, 1, 9), 0);
        Check.due("count(4)", x.count(4), 0);
        Check.dueCash("nobody paid", x, 500, 9);
    }

    /** "it counts as called, whoever pays"; "What nobody pays is a loss". */
    private static void countsAsCalledWhoeverPays() {
        BondLayers x = Check.withBond("p0s100:1*5@1l", 0, 5);
        x.set(1, 0);
        x.takeOut(1, 5);
        Check.due("call(0, 10, 9), nobody has cash", x.call(0, 10, 9), 0);
        Check.due("bond(0, 6)", x.bond(0, 6), 10);
        Check.due("bond(0, 7)", x.bond(0, 7), 0);
        Check.due("count(6), all is a loss", x.count(6), 10);
        Check.due("count(7), nobody owes", x.count(7), 0);
        Check.dueLeft("nothing was paid", x, 0, 5);
        x.bring(1, 4);
        Check.due("call(0, 5, 9), a loss of 1", x.call(0, 5, 9), 4);
        Check.due("count(6)", x.count(6), 11);
        x.bring(0, 5);
        Check.due("call(0, 5, 9), no loss", x.call(0, 5, 9), 5);
        Check.due("count(6)", x.count(6), 11);
        Check.due("count(4)", x.count(4), 20);
        Check.due("count(5)", x.count(5), 9);
    }

    /** "The principal pays as much of it as the cash allows". */
    private static void principalPaysAsTheCashAllows() {
        int[] cash = {0, 1, 39, 40, 41};
        for (int each : cash) {
            BondLayers x = Check.withBond("p0s100:1*50@1l", each, 50);
            Check.due("call(0, 40, 9) with cash " + each, x.call(0, 40, 9), 40);
            int paid = Math.min(each, 40);
            Check.due("person(0, 7)", x.person(0, 7), paid);
            Check.dueCash("cash " + each, x, each - paid, 10 + paid);
            Check.due("debt(0, 1)", x.debt(0, 1), 40 - paid);
        }
    }

    /** "as much of what is not paid yet as what is left of its limit, and its cash, allow". */
    private static void layersPayAsLimitAndCashAllow() {
        for (int amount = 9; amount <= 11; amount++) {
            for (int limit = 9; limit <= 11; limit++) {
                for (int cash = 9; cash <= 11; cash++) {
                    BondLayers x = Check.withBond("p0s1000:1*" + limit + "+2*99@1l", 0, cash, 99);
                    String call = "call(0, " + amount + ", 9), limit " + limit + ", cash " + cash;
                    Check.due(call, x.call(0, amount, 9), amount);
                    int paid = Math.min(amount, Math.min(limit, cash));
                    Check.duePaid(call, x, 0, paid, amount - paid);
                    Check.dueLeft(call, x, 0, limit - paid, 99 - (amount - paid));
                }
            }
        }
    }

    /** "By the way 0, the layers pay the rest one by one". */
    private static void layersPayOneByOne() {
        int[][] paid = {{1, 1, 0, 0, 0}, {10, 10, 0, 0, 0}, {11, 10, 1, 0, 0}, {30, 10, 20, 0, 0}, {31, 10, 20, 1, 0},
            {60, 10, 20, 30, 0}, {61, 10, 20, 30, 1}, {100, 10, 20, 30, 40}, {101, 10, 20, 30, 40}};
        for (int[] each : paid) {
            BondLayers x = Check.withBond("p0s1000:1*10+2*20+3*30+4*40@1l", 0, 99, 99, 99, 99);
            Check.due("call(0, " + each[0] + ", 9)", x.call(0, each[0], 9), Math.min(100, each[0]));
            Check.duePaid("a call of " + each[0], x, 0, each[1], each[2], each[3], each[4]);
            Check.due("count(6)", x.count(6), Math.max(0, each[0] - 100));
        }
    }

    /** "what remains by rounding comes, 1 each, to the layers with the greatest remainders .. to the lowest". */
    private static void sharesOfTheRest() {
        dueShares("1*3+2*3+3*3", 1, 1, 0, 0);
        dueShares("1*3+2*3+3*3", 2, 1, 1, 0);
        dueShares("1*3+2*3+3*3", 3, 1, 1, 1);
        dueShares("1*3+2*3+3*3", 4, 2, 1, 1);
        dueShares("1*3+2*3+3*3", 8, 3, 3, 2);
        dueShares("1*3+2*3+3*3", 9, 3, 3, 3);
        dueShares("1*1+2*2", 1, 0, 1);
        dueShares("1*2+2*1", 1, 1, 0);
        dueShares("1*1+2*1", 1, 1, 0);
        // 5/10, 10/10, 15/10, 20/10: the 1 comes to the lower of the two with the remainder 5
        dueShares("1*1+2*2+3*3+4*4", 5, 1, 1, 1, 2);
        dueShares("1*4+2*3+3*2+4*1", 5, 2, 2, 1, 0);
        // 7/10, 7/10, 7/10, 49/10: the greatest remainder is the last one, 9
        dueShares("1*1+2*1+3*1+4*7", 7, 1, 1, 0, 5);
        dueShares("1*1+2*1+3*1+4*7", 1, 0, 0, 0, 1);
        // 9/10, 9/10, 9/10, 63/10: three remain, and the remainder of the last one is 3
        dueShares("1*1+2*1+3*1+4*7", 9, 1, 1, 1, 6);
        dueShares("1*99998+2*1", 1, 1, 0);
        dueShares("1*1+2*99998", 99998, 1, 99997);
        dueShares("1*33333+2*33333+3*33333", 99998, 33333, 33333, 33332);
        dueShares("1*33333+2*33333+3*33333", 99997, 33333, 33332, 33332);
        dueShares("1*99999", 99999, 99999);
        dueShares("1*99999", 1, 1);
    }

    private static void dueShares(String layers, int amount, int... shares) {
        BondLayers x = Check.withBond("p0s99999:" + layers + "@1e", 0, 99999, 99999, 99999, 99999);
        Check.due(layers + ": call(0, " + amount + ", 9)", x.call(0, amount, 9), amount);
        Check.duePaid(layers + ", " + amount, x, 0, shares);
    }

    /** "the rest (but at most what is left of all limits together) is shared". */
    private static void restIsAtMostTheLimits() {
        int[][] calls = {{9, 4, 5, 0}, {10, 4, 6, 0}, {11, 4, 6, 1}, {50, 4, 6, 40}};
        for (int[] each : calls) {
            BondLayers x = Check.withBond("p0s100:1*4+2*6@1e", 3, 99, 99);
            Check.due("call", x.call(0, each[0] + 3, 9), 3 + each[1] + each[2]);
            Check.duePaid("a rest of " + each[0], x, 0, each[1], each[2]);
            Check.due("count(6)", x.count(6), each[3]);
        }
        BondLayers x = Check.withBond("p0s100:1*4+2*6@1e", 0, 99, 99);
        x.call(0, 10, 9);
        Check.due("call(0, 5, 9), no limit is left", x.call(0, 5, 9), 0);
        Check.duePaid("no limit is left", x, 0, 4, 6);
        Check.due("count(6)", x.count(6), 5);
        // a layer of which nothing is left has no share; 6 of 10 are left ahead of it
        BondLayers y = Check.withBond("p0s10:1*6+2*4@400e", 0, 99, 99);
        y.reach(0);
        Check.due("call(0, 5, 9)", y.call(0, 5, 9), 5);
        Check.duePaid("the last layer was trimmed to 0", y, 0, 5, 0);
    }

    /** "Each layer pays its share, as far as its cash allows"; the others pay no more for it. */
    private static void shareBeyondCash() {
        int[][] cash = {{4, 4, 0}, {5, 5, 0}, {6, 5, 0}};
        for (int[] each : cash) {
            BondLayers x = Check.withBond("p0s100:1*10+2*10@1e", 0, each[0], 99);
            Check.due("call(0, 10, 9) with cash " + each[0], x.call(0, 10, 9), each[1] + 5);
            Check.duePaid("cash " + each[0], x, 0, each[1], 5);
            Check.due("count(6)", x.count(6), 5 - each[1]);
        }
    }

    /** "What a layer pays is taken from what is left of its limit. When all have paid, the limits are trimmed". */
    private static void trimmedWhenAllHavePaid() {
        for (String way : new String[] {"l", "e"}) {
            BondLayers x = Check.withBond("p0s100:1*60+2*40@1" + way, 0, 99, 99);
            Check.due("call of all, " + way, x.call(0, 100, 9), 100);
            Check.duePaid("trimmed behind", x, 0, 60, 40);
            Check.dueLeft("all is paid", x, 0, 0, 0);
        }
        BondLayers y = Check.withBond("p0s100:1*60+2*40@1l", 0, 99, 99);
        y.takeOut(1, 87);
        Check.due("call(0, 50, 9), the first has 12", y.call(0, 50, 9), 50);
        Check.duePaid("the second pays 38", y, 0, 12, 38);
        // 48 and 2 are left, and 50 of the bond
        Check.dueLeft("nothing to trim", y, 0, 48, 2);
        y.set(1, 0);
        y.takeOut(2, 61);
        Check.due("call(0, 10, 9), nobody has cash", y.call(0, 10, 9), 0);
        Check.dueLeft("10 are trimmed", y, 0, 40, 0);
    }

    private static void recourse() {
        principalOwesWhatALayerPaid();
        firstOfTheChain();
        nextOfTheChain();
        chainOfSeven();
        suretyPaysNothing();
        layerByLayer();
        isNotPaidForTheCall();
    }

    /** "When a layer has paid some money, the principal owes it to the surety". */
    private static void principalOwesWhatALayerPaid() {
        BondLayers x = Check.withBond("p0s100:1*10+2*10@1l", 5, 20, 20);
        x.call(0, 5, 9);
        Check.dueDebts("the principal paid", x, 0, 0, 0, 0);
        x.call(0, 1, 9);
        Check.dueDebts("the first paid", x, 0, 0, 1, 0);
        x.call(0, 10, 9);
        Check.dueDebts("both paid", x, 0, 0, 10, 1);
        Check.due("debt(1, 0)", x.debt(1, 0), 0);
    }

    /** "the first one should pay the money times the percentage of the principal, divided by 100". */
    private static void firstOfTheChain() {
        int[][] parts = {{99, 1, 0}, {100, 1, 1}, {199, 1, 1}, {200, 1, 2}, {1, 99, 0}, {1, 100, 1}, {2, 50, 1},
            {1, 50, 0}, {99999, 100, 99999}, {99999, 99, 98999}, {99999, 1, 999}};
        for (int[] each : parts) {
            BondLayers x = Check.withCash(0, 99999, 99999);
            x.guarantee(0, 2, each[1]);
            Check.give(x, "p0s99999:1*99999@1l");
            x.call(0, each[0], 9);
            String call = each[1] + " percent of " + each[0];
            Check.due(call, x.person(2, 9), each[2]);
            Check.dueCash(call, x, 0, 99999 - each[0] + each[2], 99999 - each[2]);
            Check.dueDebts(call, x, 0, 0, each[0] - each[2], each[2]);
        }
    }

    /** "each next one .. what the one ahead of it should have paid and did not, times the percentage". */
    private static void nextOfTheChain() {
        // money 100, percentages 80 and 50: the first one should pay 80
        int[][] parts = {{80, 80, 0}, {79, 79, 0}, {78, 78, 1}, {0, 0, 40}, {81, 80, 0}, {1, 1, 39}};
        for (int[] each : parts) {
            BondLayers x = Check.withCash(0, 100, each[0], 99);
            x.guarantee(0, 2, 80);
            x.guarantee(2, 3, 50);
            Check.give(x, "p0s1000:1*100@1l");
            x.call(0, 100, 9);
            String call = "the first has " + each[0];
            Check.due(call + ": person(2, 9)", x.person(2, 9), each[1]);
            Check.due(call + ": person(3, 9)", x.person(3, 9), each[2]);
            Check.dueCash(call, x, 0, each[1] + each[2], each[0] - each[1], 99 - each[2]);
            Check.dueDebts(call, x, 0, 0, 100 - each[1] - each[2], each[1], each[2]);
        }
        // "Each one pays as much as the cash allows": the last one's cash, too
        BondLayers x = Check.withCash(0, 100, 10, 9);
        x.guarantee(0, 2, 100);
        x.guarantee(2, 3, 100);
        Check.give(x, "p0s1000:1*100@1l");
        x.call(0, 100, 9);
        Check.dueDebts("neither has enough", x, 0, 0, 81, 10, 9);
        Check.dueCash("neither has enough", x, 0, 19, 0, 0);
    }

    /** "person by person": the longest chain there is, seven, of which the last one pays. */
    private static void chainOfSeven() {
        BondLayers x = Check.withCash(0, 50, 0, 0, 0, 0, 0, 50);
        for (int person = 0; person < 7; person++) {
            x.guarantee(person, person + 1, 100);
        }
        Check.give(x, "p0s100:1*50@1l");
        x.call(0, 50, 9);
        Check.dueDebts("the seventh pays", x, 0, 0, 0, 0, 0, 0, 0, 0, 50);
        Check.dueCash("the seventh pays", x, 0, 50, 0, 0, 0, 0, 0, 0);
        Check.due("person(7, 9)", x.person(7, 9), 50);
        // somebody else's chain makes nothing good
        BondLayers y = Check.withCash(0, 50, 50);
        y.guarantee(1, 2, 100);
        y.guarantee(3, 2, 100);
        Check.give(y, "p0s100:1*50@1l");
        y.call(0, 50, 9);
        Check.dueDebts("the principal has no chain", y, 0, 0, 50, 0);
    }

    /** "one who is the surety pays nothing (so all that this one should have paid is not paid ..)". */
    private static void suretyPaysNothing() {
        int[][] chains = {{1, 2, 3, 0, 48, 0}, {2, 1, 3, 80, 0, 0}, {2, 3, 1, 80, 0, 0}};
        for (int[] chain : chains) {
            BondLayers x = Check.withCash(0, 200, 200, 200);
            x.guarantee(0, chain[0], 80);
            x.guarantee(chain[0], chain[1], 60);
            x.guarantee(chain[1], chain[2], 50);
            Check.give(x, "p0s1000:1*100@1l");
            x.call(0, 100, 9);
            for (int place = 0; place < 3; place++) {
                Check.due("person(" + chain[place] + ", 9)", x.person(chain[place], 9), chain[3 + place]);
            }
        }
        // in the middle, behind one without cash: 80 of 100, 48 not paid by the surety, 24 of these
        BondLayers x = Check.withCash(0, 200, 0, 200);
        x.guarantee(0, 2, 80);
        x.guarantee(2, 1, 60);
        x.guarantee(1, 3, 50);
        Check.give(x, "p0s1000:1*100@1l");
        x.call(0, 100, 9);
        Check.dueDebts("the surety in the middle", x, 0, 0, 76, 0, 24);
        Check.due("person(1, 9)", x.person(1, 9), 0);
        // at the end nobody is left to pay
        BondLayers y = Check.withCash(0, 200, 0, 0);
        y.guarantee(0, 2, 100);
        y.guarantee(2, 1, 100);
        Check.give(y, "p0s1000:1*100@1l");
        y.call(0, 100, 9);
        Check.dueDebts("the surety at the end", y, 0, 0, 100, 0);
        Check.dueCash("the surety at the end", y, 0, 100, 0);
    }

    /** "(Layer by layer: behind one has paid, ahead of the next one.)" */
    private static void layerByLayer() {
        // the cash of person 1 is made good by 2, and is there again when 1 makes good for 3
        BondLayers x = Check.withCash(0, 50, 50, 50);
        x.guarantee(0, 1, 100);
        x.guarantee(1, 2, 100);
        Check.give(x, "p0s1000:1*50+3*50@1l");
        Check.due("call(0, 100, 9)", x.call(0, 100, 9), 100);
        Check.dueCash("made good for both", x, 0, 0, 0, 50);
        Check.dueDebts("made good for both", x, 0, 0, 50, 50, 0);
        Check.due("person(1, 9)", x.person(1, 9), 50);
        Check.due("person(1, 8)", x.person(1, 8), 50);
        // person 2 makes good 30 for the first layer, and has 10 for the own one
        for (String way : new String[] {"l", "e"}) {
            BondLayers y = Check.withCash(0, 60, 40);
            y.guarantee(0, 2, 50);
            Check.give(y, "p0s1000:1*60+2*60@1" + way);
            Check.due("call(0, 120, 9), " + way, y.call(0, 120, 9), 70);
            Check.duePaid("a counter-guarantor's own layer", y, 0, 60, 10);
            Check.dueDebts("a counter-guarantor's own layer", y, 0, 0, 30, 40);
        }
    }

    /** "the principal owes it to the one who paid, and no more to the surety (it does not count as paid ..)". */
    private static void isNotPaidForTheCall() {
        BondLayers x = Check.withCash(0, 40, 40);
        x.guarantee(0, 2, 100);
        Check.give(x, "p0s1000:1*50@1l");
        Check.due("call(0, 50, 9)", x.call(0, 50, 9), 40);
        Check.due("bond(0, 7)", x.bond(0, 7), 40);
        Check.due("count(5)", x.count(5), 40);
        Check.due("count(6)", x.count(6), 10);
        Check.due("layer(0, 0, 3)", x.layer(0, 0, 3), 40);
        Check.due("person(1, 8)", x.person(1, 8), 40);
        Check.due("person(2, 8)", x.person(2, 8), 0);
        Check.dueDebts("all was made good", x, 0, 0, 0, 40);
        Check.due("count(7)", x.count(7), 40);
        Check.due("count(2)", x.count(2), 40);
    }

    private static void milestones() {
        milestonesInTheirOrder();
        shareIsRoundedDown();
        atMostWhatIsLeft();
    }

    /** "(they are reached in their order)". */
    private static void milestonesInTheirOrder() {
        BondLayers x = Check.withBond("p0s1000:1*1@5+1+4+2+3e", 0, 9);
        int[] released = {5, 1, 4, 2, 3};
        for (int milestone = 0; milestone < 5; milestone++) {
            Check.due("bond(0, 5)", x.bond(0, 5), milestone);
            Check.due("reach(0)", x.reach(0), released[milestone]);
        }
        Check.due("bond(0, 5)", x.bond(0, 5), 5);
        Check.due("bond(0, 8)", x.bond(0, 8), 15);
    }

    /** "its share of the sum (times the thousandths, divided by 1000)": the sum, not what is left of it. */
    private static void shareIsRoundedDown() {
        int[][] shares = {{1, 999, 0}, {1, 1000, 1}, {999, 1, 0}, {1000, 1, 1}, {1999, 1, 1}, {2000, 1, 2},
            {99999, 1, 99}, {99999, 999, 99899}, {99999, 1000, 99999}, {3, 333, 0}, {3, 334, 1}};
        for (int[] each : shares) {
            BondLayers x = Check.withBond("p0s" + each[0] + ":1*1@" + each[1] + "e", 0, 9);
            Check.due(each[1] + " thousandths of " + each[0], x.reach(0), each[2]);
        }
        BondLayers x = Check.withBond("p0s1000:1*1@100+100e", 500, 9);
        x.call(0, 500, 9);
        x.reach(0);
        Check.due("reach(0), of the sum", x.reach(0), 100);
    }

    /** "but at most what is left of the bond, is released". */
    private static void atMostWhatIsLeft() {
        int[][] left = {{101, 100}, {100, 100}, {99, 99}, {1, 1}, {0, 0}};
        for (int[] each : left) {
            BondLayers x = Check.withBond("p0s1000:1*1@100e", 1000, 9);
            x.call(0, 1000 - each[0], 9);
            Check.due("reach(0) with " + each[0], x.reach(0), each[1]);
            Check.due("bond(0, 9)", x.bond(0, 9), each[0] - each[1]);
            Check.due("bond(0, 5)", x.bond(0, 5), 1);
        }
    }

    private static void settings() {
        firstAndEdgeValues();
        leastProof();
        whatToKeep();
        timesTheCash();
    }

    /** "0 to 9, at first 5"; "in percent, 0 to 100, at first 20"; "1 to 9, at first 5". */
    private static void firstAndEdgeValues() {
        int[][] settings = {{5, 0, 9}, {20, 0, 100}, {5, 1, 9}};
        for (int setting = 0; setting < 3; setting++) {
            BondLayers x = new BondLayers();
            int number = setting;
            int least = settings[setting][1];
            int most = settings[setting][2];
            Check.due("setting(" + setting + ") at first", x.setting(setting), settings[setting][0]);
            Check.due("set to the least", x.set(setting, least), settings[setting][0]);
            Check.due("setting(" + setting + ")", x.setting(setting), least);
            Check.due("set to the most", x.set(setting, most), least);
            Check.due("setting(" + setting + ")", x.setting(setting), most);
            Check.dueArgument("set below the least", x, () -> x.set(number, least - 1));
            Check.dueArgument("set above the most", x, () -> x.set(number, most + 1));
            for (int other = 0; other < 3; other++) {
                if (other != setting) {
                    Check.due("setting(" + other + ") stays", x.setting(other), settings[other][0]);
                }
            }
        }
    }

    /** "0: the least proof of a call". */
    private static void leastProof() {
        for (int least = 0; least <= 9; least++) {
            BondLayers x = Check.withBond("p0s100:1*1@1l", 100, 9);
            x.set(0, least);
            Check.due("call(0, 1, " + least + ")", x.call(0, 1, least), 1);
            int less = least - 1;
            if (less >= 0) {
                Check.dueState("call(0, 1, " + less + ")", x, () -> x.call(0, 1, less));
            }
            Check.due("call(0, 1, 9)", x.call(0, 1, 9), 1);
        }
    }

    /** "1: what a person has to keep of what the person is bound for, in percent"; "rounded down". */
    private static void whatToKeep() {
        int[][] keeps = {{100, 0, 0}, {100, 1, 1}, {99, 1, 0}, {199, 1, 1}, {1, 99, 0}, {1, 100, 1}, {254, 20, 50},
            {255, 20, 51}, {99999, 100, 99999}, {99999, 99, 98999}};
        for (int[] each : keeps) {
            BondLayers x = Check.withBond("p0s99999:1*" + each[0] + "@1l", 0, 99999);
            x.set(1, each[1]);
            String kept = each[1] + " percent of " + each[0];
            int most = 99999 - each[2];
            Check.due(kept + ": spare(1)", x.spare(1), most);
            if (most < 99999) {
                Check.dueState(kept + ": takeOut(1, " + (most + 1) + ")", x, () -> x.takeOut(1, most + 1));
            }
            if (most > 0) {
                Check.due(kept + ": takeOut(1, " + most + ")", x.takeOut(1, most), each[2]);
            }
        }
    }

    /** "2: for how many times the own cash a person can be bound by a new bond". */
    private static void timesTheCash() {
        for (int times = 1; times <= 9; times++) {
            BondLayers x = Check.withCash(0, 7);
            x.set(2, times);
            Check.write(x, "p0s999:1*" + (7 * times + 1) + "@1l");
            Check.dueState("bound for 1 more than " + times + " times", x, x::give);
            Check.due("bound for " + times + " times", Check.give(x, "p0s999:1*" + 7 * times + "@1l"), 0);
            Check.write(x, "p0s999:1*1@1l");
            Check.dueState("bound for 1 more by another", x, x::give);
        }
    }

    private static void undo() {
        atMostSix();
        eachUndoableSaves();
        savesThoughNothingChanges();
        allButTheBuffer();
    }

    /** "At most 6 states are saved; the oldest one is dropped first". */
    private static void atMostSix() {
        for (int saves = 0; saves <= 9; saves++) {
            BondLayers x = new BondLayers();
            for (int times = 0; times < saves; times++) {
                x.bring(0, 1);
            }
            int kept = Math.min(6, saves);
            Check.due(saves + " saves: count(9)", x.count(9), kept);
            for (int left = kept - 1; left >= 0; left--) {
                Check.due("undo()", x.undo(), left);
                Check.due("person(0, 0)", x.person(0, 0), saves - kept + left);
            }
            Check.dueState("undo() of nothing", x, x::undo);
            Check.due("the oldest that was kept", x.person(0, 0), saves - kept);
        }
    }

    /** "Each method that is marked "undoable" .. saves the state from before it"; the others save nothing. */
    private static void eachUndoableSaves() {
        for (int method = 0; method < 9; method++) {
            BondLayers x = beforeUndo();
            long before = x.digest();
            undoable(x, method);
            Check.due("undoable " + method + ": count(9)", x.count(9), 6);
            Check.due("undoable " + method + ": undo()", x.undo(), 5);
            if (method == 8) {
                Check.due("give() cleared the buffer", x.clearBuffer(), 0);
                Check.write(x, "p1s9:2*1@1l");
            }
            Check.due("undoable " + method + ", undone", x.digest(), before);
        }
        BondLayers x = beforeUndo();
        x.clearBuffer();
        x.append('p');
        x.firstError();
        x.ifCalled(0, 1, 0);
        x.thin(0);
        x.worst();
        x.spare(0);
        x.paidShare();
        x.digest();
        looks(x);
        Check.due("the others save nothing", x.count(9), 5);
        x.undo();
        Check.due("undo() saves nothing", x.count(9), 4);
    }

    /** Five saved states; bond 0 runs, and person 0 has cash and owes some. */
    private static BondLayers beforeUndo() {
        BondLayers x = Check.withBond("p0s90:1*9@500+500l", 0, 9, 9);
        x.call(0, 2, 9);
        x.bring(0, 9);
        Check.write(x, "p1s9:2*1@1l");
        return x;
    }

    private static void looks(BondLayers x) {
        x.person(0, 0);
        x.bond(0, 0);
        x.layer(0, 0, 0);
        x.debt(0, 0);
        x.count(0);
        x.setting(0);
    }

    private static void undoable(BondLayers x, int method) {
        switch (method) {
            case 0: x.bring(0, 1); break;
            case 1: x.takeOut(1, 1); break;
            case 2: x.guarantee(0, 1, 1); break;
            case 3: x.repay(0, 1, 1); break;
            case 4: x.set(0, 1); break;
            case 5: x.call(0, 1, 9); break;
            case 6: x.reach(0); break;
            case 7: x.end(0); break;
            default: x.give(); break;
        }
    }

    /** "saves the state from before it (also if it changes nothing)". */
    private static void savesThoughNothingChanges() {
        BondLayers x = Check.withBond("p0s9:1*1@1+1l", 9, 9);
        x.call(0, 9, 9);
        Check.due("count(9)", x.count(9), 4);
        Check.due("set(0, 5), as it is", x.set(0, 5), 5);
        Check.due("count(9)", x.count(9), 5);
        Check.due("guarantee(0, NONE, 0), as it is", x.guarantee(0, BondLayers.NONE, 0), -1);
        Check.due("count(9)", x.count(9), 6);
        x.undo();
        x.undo();
        Check.due("call(0, 1, 9) of nothing", x.call(0, 1, 9), 0);
        Check.due("count(9)", x.count(9), 5);
        Check.due("reach(0) of nothing", x.reach(0), 0);
        Check.due("count(9)", x.count(9), 6);
        Check.due("undo()", x.undo(), 5);
        Check.due("bond(0, 5)", x.bond(0, 5), 0);
        x.undo();
        x.guarantee(1, 2, 50);
        Check.due("guarantee(1, 2, 50), as it is", x.guarantee(1, 2, 50), 2);
        Check.due("count(9)", x.count(9), 6);
    }

    /** "all but the buffer and the saved states". */
    private static void allButTheBuffer() {
        BondLayers x = Check.withCash(0, 9);
        Check.write(x, "p0s9:1*1@1l");
        x.bring(0, 1);
        x.clearBuffer();
        x.append('p');
        Check.due("undo()", x.undo(), 1);
        Check.due("the buffer is the later one", x.clearBuffer(), 1);
        Check.give(x, "p0s9:1*1@1l");
        Check.due("undo() of give()", x.undo(), 1);
        Check.due("count(0)", x.count(0), 0);
        Check.due("the text does not come back", x.clearBuffer(), 0);
        for (int times = 0; times < 7; times++) {
            x.bring(0, 1);
        }
        for (int left = 5; left >= 0; left--) {
            Check.due("saved states do not come back", x.undo(), left);
        }
        Check.dueState("undo() of the seventh", x, x::undo);
        Check.due("person(0, 0)", x.person(0, 0), 1);
    }

    /** "An object is used for at most 512 calls": the last of them is answered like the first. */
    private static void useOfOneObject() {
        BondLayers x = new BondLayers();
        for (int times = 1; times <= 511; times++) {
            Check.due("bring(1, 99999), call " + times, x.bring(1, 99999), 99999L * times);
        }
        Check.due("count(2), call 512", x.count(2), 51099489);
        BondLayers y = new BondLayers();
        y.set(2, 9);
        for (int times = 0; times < 470; times++) {
            y.bring(1, 99999);
        }
        Check.due("give() with much cash", Check.give(y, "p0s99999:1*99999@1l"), 0);
        Check.due("spare(1)", y.spare(1), 470 * 99999 - 19999);
        BondLayers z = Check.withCash(0, 99999);
        z.set(2, 9);
        z.set(1, 100);
        // the most that one person can be bound for with few calls: nine times the cash
        int bonds = 0;
        for (int bond = 0; bond < 9; bond++) {
            bonds += Check.give(z, "p0s99999:1*99999@1l");
        }
        Check.due("nine bonds", bonds, 36);
        Check.due("person(1, 3)", z.person(1, 3), 899991);
        Check.due("spare(1)", z.spare(1), 0);
        for (int times = 0; times < 9; times++) {
            z.bring(1, 99999);
        }
        Check.due("spare(1)", z.spare(1), 99999);
        Check.due("takeOut(1, 99999)", z.takeOut(1, 99999), 899991);
    }
}
