/** Promises 21 to 26: ifCalled, thin, worst, spare, paidShare, digest. */
public final class WouldBeTest {
    private WouldBeTest() {
    }

    public static void main(String[] args) {
        ifCalled();
        ifCalledTrims();
        ifCalledThrows();
        thin();
        worst();
        spare();
        paidShare();
        digest();
        Check.end("WouldBeTest");
    }

    private static void dueEffects(BondLayers x, int bond, int amount, int... want) {
        for (int what = 0; what <= 10; what++) {
            Check.due("ifCalled(" + bond + ", " + amount + ", " + what + ")", x.ifCalled(bond, amount, what), want[what]);
        }
    }

    private static void ifCalled() {
        BondLayers x = Check.withCash(10, 100, 60, 0, 0, 0, 0, 25);
        x.guarantee(0, 7, 50);
        x.set(0, 9);
        Check.give(x, "p0s300:1*50+2*100@1l");
        long before = x.digest();
        // 10, then 50 of which 25 are made good, then 40
        dueEffects(x, 0, 100, 100, 0, -10, -25, -40, 0, 0, 0, 0, -25, 60);
        dueEffects(x, 0, 10, 10, 0, -10, 0, 0, 0, 0, 0, 0, 0, 150);
        dueEffects(x, 0, 99999, 120, 180, -10, -25, -60, 0, 0, 0, 0, -25, 0);
        Check.due("digest(), nothing is changed", x.digest(), before);
        Check.due("call(0, 100, 9) does it", x.call(0, 100, 9), 100);
        Check.dueCash("call", x, 0, 75, 20, 0, 0, 0, 0, 0);
        x.end(0);
        dueEffects(x, 0, 100, 0, 0, 0, 0, 0, 0, 0, 0, 0, 0, 0);
        BondLayers y = Check.withCash(0, 5, 0, 100);
        y.guarantee(0, 1, 100);
        Check.give(y, "p0s300:3*50@1l");
        // what is made good raises the cash of the surety again
        dueEffects(y, 0, 30, 30, 0, 0, -5, 0, -25, 0, 0, 0, 0, 20);
    }

    private static void ifCalledTrims() {
        BondLayers x = Check.withCash(500, 100, 100);
        Check.give(x, "p0s100:1*60+2*40@1e");
        dueEffects(x, 0, 30, 30, 0, -30, 0, 0, 0, 0, 0, 0, 0, 70);
        dueEffects(x, 0, 100, 100, 0, -100, 0, 0, 0, 0, 0, 0, 0, 0);
        Check.dueLeft("nothing is changed", x, 0, 60, 40);
    }

    private static void ifCalledThrows() {
        BondLayers x = Check.withCash(10, 100);
        Check.give(x, "p0s300:1*50@1l");
        Check.dueIndex("ifCalled(1, 1, 0)", x, () -> x.ifCalled(1, 1, 0));
        Check.dueIndex("ifCalled(-1, 0, 11)", x, () -> x.ifCalled(-1, 0, 11));
        Check.dueArgument("ifCalled(0, 0, 0)", x, () -> x.ifCalled(0, 0, 0));
        Check.dueArgument("ifCalled(0, 100000, 0)", x, () -> x.ifCalled(0, 100000, 0));
        Check.dueArgument("ifCalled(0, 1, 11)", x, () -> x.ifCalled(0, 1, 11));
        Check.dueArgument("ifCalled(0, 1, -1)", x, () -> x.ifCalled(0, 1, -1));
        x.end(0);
        Check.dueArgument("ifCalled(0, 0, 0), ended", x, () -> x.ifCalled(0, 0, 0));
        Check.dueArgument("ifCalled(0, 1, 11), ended", x, () -> x.ifCalled(0, 1, 11));
    }

    private static void thin() {
        BondLayers x = Check.withCash(0, 100, 39, 10);
        Check.give(x, "p0s150:1*100+2*40+3*10@1l");
        Check.due("thin(0)", x.thin(0), 1);
        x.bring(2, 1);
        Check.due("thin(0), all have enough", x.thin(0), -1);
        x.takeOut(1, 1);
        // then 99 + 40 + 10: the first one fails, the others pay as much as their limits
        Check.due("thin(0), the first", x.thin(0), 0);
        x.bring(0, 150);
        Check.due("thin(0), the principal pays all", x.thin(0), -1);
        x.takeOut(0, 1);
        Check.due("thin(0), only 1 is for the first", x.thin(0), -1);
        x.end(0);
        Check.due("thin(0), ended", x.thin(0), -1);
        Check.dueIndex("thin(1)", x, () -> x.thin(1));
        Check.dueIndex("thin(-1)", x, () -> x.thin(-1));
        BondLayers y = Check.withCash(50, 25, 24);
        Check.give(y, "p0s100:1*50+2*50@1e");
        Check.due("thin(0), a share of 25", y.thin(0), 1);
        y.bring(2, 1);
        Check.due("thin(0), both have their share", y.thin(0), -1);
        y.takeOut(0, 1);
        // 51 are shared as 26 and 25
        Check.due("thin(0), the share with the rest", y.thin(0), 0);
        BondLayers z = Check.withCash(0, 20, 5);
        Check.give(z, "p0s1000:1*20+2*5@1e");
        Check.due("thin(0), the rest is more than the limits", z.thin(0), -1);
        Check.due("worst(), though 975 are lost", z.worst(), 0);
    }

    private static void worst() {
        BondLayers x = Check.withCash(0, 100, 100);
        Check.due("worst() without bonds", x.worst(), -1);
        Check.give(x, "p0s50:1*50@1l");
        Check.due("worst() without a loss", x.worst(), -1);
        Check.give(x, "p0s70:1*60@1l");
        Check.due("worst()", x.worst(), 1);
        Check.give(x, "p0s70:2*60@1l");
        Check.due("worst() of two alike", x.worst(), 1);
        Check.give(x, "p0s71:2*60@1l");
        Check.due("worst() of all", x.worst(), 3);
        x.end(3);
        Check.due("worst(), the worst was ended", x.worst(), 1);
        x.reach(1);
        x.call(1, 5, 5);
        Check.due("worst()", x.worst(), 1);
        x.bring(0, 9);
        Check.due("worst() of two losses of 1", x.worst(), 1);
        x.bring(0, 1);
        Check.due("worst() with help of the principal", x.worst(), -1);
    }

    private static void spare() {
        BondLayers x = Check.withCash(0, 99999);
        x.bring(1, 99999);
        Check.due("spare(1), beyond the range of an amount", x.spare(1), 199998);
        Check.due("spare(0)", x.spare(0), 0);
        Check.give(x, "p0s99999:1*99999@1l");
        Check.due("spare(1), 19999 are kept", x.spare(1), 179999);
        x.set(1, 100);
        Check.due("spare(1), 99999 are kept", x.spare(1), 99999);
        Check.due("takeOut(1, 99999)", x.takeOut(1, 99999), 99999);
        Check.due("spare(1)", x.spare(1), 0);
        Check.dueIndex("spare(8)", x, () -> x.spare(8));
        Check.dueIndex("spare(-1)", x, () -> x.spare(-1));
    }

    private static void paidShare() {
        BondLayers x = Check.withCash(1, 2);
        Check.give(x, "p0s3:1*1@1l");
        Check.dueDouble("paidShare() without calls", x.paidShare(), 1.0);
        x.call(0, 1, 5);
        Check.dueDouble("paidShare()", x.paidShare(), 1.0);
        x.call(0, 2, 5);
        Check.dueDouble("paidShare()", x.paidShare(), 2.0 / 3);
        x.undo();
        x.takeOut(1, 2);
        x.call(0, 2, 5);
        Check.dueDouble("paidShare()", x.paidShare(), 1.0 / 3);
        BondLayers y = Check.withCash(0, 2);
        Check.give(y, "p0s3:1*1@1l");
        y.takeOut(1, 2);
        y.call(0, 3, 5);
        Check.dueDouble("paidShare() of a loss", y.paidShare(), 0.0);
    }

    /** The hash, built from the answers of the looks as the promise lists them. */
    static long digestByLooks(BondLayers x, String buffer) {
        long hash = 2503;
        for (int what = 0; what <= 9; what++) {
            hash = 31 * hash + x.count(what);
        }
        for (int setting = 0; setting <= 2; setting++) {
            hash = 31 * hash + x.setting(setting);
        }
        for (int person = 0; person < 8; person++) {
            for (int what = 0; what <= 10; what++) {
                hash = 31 * hash + x.person(person, what);
            }
            hash = 31 * hash + x.spare(person);
            for (int other = 0; other < 8; other++) {
                hash = 31 * hash + x.debt(person, other);
            }
        }
        for (int bond = 0; bond < x.count(0); bond++) {
            for (int what = 0; what <= 11; what++) {
                hash = 31 * hash + x.bond(bond, what);
            }
            for (int layer = 0; layer < x.bond(bond, 3); layer++) {
                for (int what = 0; what <= 3; what++) {
                    hash = 31 * hash + x.layer(bond, layer, what);
                }
            }
            for (int what = 0; what <= 10; what++) {
                hash = 31 * hash + x.ifCalled(bond, 1000, what);
            }
            hash = 31 * hash + x.thin(bond);
        }
        hash = 31 * hash + x.worst();
        hash = 31 * hash + Double.doubleToLongBits(x.paidShare());
        hash = 31 * hash + buffer.length();
        for (int index = 0; index < buffer.length(); index++) {
            hash = 31 * hash + buffer.charAt(index);
        }
        return hash;
    }

    private static void dueDigest(BondLayers x, String buffer) {
        Check.due("digest()", x.digest(), digestByLooks(x, buffer));
    }

    private static void digest() {
        BondLayers x = new BondLayers();
        dueDigest(x, "");
        Check.write(x, "p0~!");
        dueDigest(x, "p0~!");
        x.bring(0, 10);
        x.bring(1, 5000);
        x.bring(2, 1000);
        x.guarantee(0, 2, 70);
        Check.give(x, "p0s9000:1*3000+2*900@250+500l");
        Check.give(x, "p1s900:2*300+0*40@1000e");
        dueDigest(x, "");
        x.call(0, 1234, 9);
        dueDigest(x, "");
        x.call(0, 5000, 9);
        dueDigest(x, "");
        x.reach(0);
        x.end(1);
        dueDigest(x, "");
        x.call(0, 9, 9);
        dueDigest(x, "");
        BondLayers z = Check.withCash(0, 9);
        Check.give(z, "p0s9:1*9@1l");
        z.set(1, 0);
        z.takeOut(1, 9);
        z.call(0, 9, 9);
        Check.dueDouble("paidShare() of a loss", z.paidShare(), 0.0);
        dueDigest(z, "");
        BondLayers y = Check.withCash(0, 9);
        Check.give(y, "p0s9:1*9@1l");
        y.takeOut(1, 7);
        for (int times = 0; times < 4; times++) {
            y.call(0, 3, 9);
            dueDigest(y, "");
        }
        digestsOfManyShares();
    }

    private static void digestsOfManyShares() {
        for (int paid = 1; paid < 400; paid += 7) {
            BondLayers x = Check.withCash(paid, 20000);
            Check.give(x, "p0s99999:1*1@1l");
            x.takeOut(1, 19000);
            for (int amount = paid; amount < 99999; amount = amount * 3 + 1) {
                x.call(0, amount, 9);
                dueDigest(x, "");
            }
        }
        BondLayers least = Check.withCash(0, 1);
        for (int bond = 0; bond < 5; bond++) {
            Check.give(least, "p0s99999:1*1@1l");
        }
        for (int bond = 0; bond < 5; bond++) {
            least.call(bond, 99999, 9);
            dueDigest(least, "");
        }
    }
}
