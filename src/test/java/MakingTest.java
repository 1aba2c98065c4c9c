/** Promises 4 to 6: identity, pager, join. */
public final class MakingTest {
    private static final Due due = new Due("MakingTest");
    private static final int NONE = WakingPagers.NONE;

    public static void main(String[] args) {
        identitiesInOrder();
        wrongIdentities();
        idleIsNoAddress();
        atMostTwelveIdentities();
        atMostSixPagers();
        joining();
        wrongJoins();
        due.end();
    }

    private static void identitiesInOrder() {
        WakingPagers x = new WakingPagers();
        due.is("identity(0, 0)", x.identity(0, 0), 0);
        due.is("identity(2^21 - 1, 1)", x.identity((1 << 21) - 1, 1), 1);
        due.is("identity(1, 1)", x.identity(1, 1), 2);
    }

    private static void wrongIdentities() {
        WakingPagers x = new WakingPagers();
        due.is("identity(-1, 0)", x.identity(-1, 0), NONE);
        due.is("identity(2^21, 0)", x.identity(1 << 21, 0), NONE);
        due.is("identity(min, 1)", x.identity(Integer.MIN_VALUE, 1), NONE);
        due.is("identity(5, -1)", x.identity(5, -1), NONE);
        due.is("identity(5, 2)", x.identity(5, 2), NONE);
        due.is("identity(5, 0)", x.identity(5, 0), 0);
        due.is("identity(5, 0) again", x.identity(5, 0), NONE);
        due.is("identity(5, 1), other kind", x.identity(5, 1), NONE);
        due.is("identity(6, 1)", x.identity(6, 1), 1);
    }

    private static void idleIsNoAddress() {
        WakingPagers x = new WakingPagers();
        int first = 0x3D44E * 8;
        for (int k = 0; k < 8; k++) {
            due.is("identity of IDLE + " + k, x.identity(first + k, k % 2), NONE);
        }
        due.is("identity before IDLE", x.identity(first - 1, 0), 0);
        due.is("identity behind IDLE", x.identity(first + 8, 0), 1);
    }

    private static void atMostTwelveIdentities() {
        WakingPagers x = new WakingPagers();
        for (int k = 0; k < 12; k++) {
            due.is("identity " + k, x.identity(100 + k, k % 2), k);
        }
        due.is("identity 12", x.identity(200, 0), NONE);
        due.is("identity 12 again", x.identity(200, 1), NONE);
    }

    private static void atMostSixPagers() {
        WakingPagers x = new WakingPagers();
        for (int k = 0; k < 6; k++) {
            due.is("kept before " + k, x.kept(k), NONE);
            due.is("pager " + k, x.pager(), k);
            due.is("kept(" + k + ")", x.kept(k), 0);
            for (int what = 0; what < 4; what++) {
                due.is("count(" + k + ", " + what + ")", x.count(k, what), 0);
            }
        }
        due.is("pager 6", x.pager(), NONE);
        due.is("kept(6)", x.kept(6), NONE);
    }

    private static void joining() {
        WakingPagers x = new WakingPagers();
        for (int k = 0; k < 6; k++) {
            x.identity(k, k % 2);
        }
        x.pager();
        x.pager();
        due.is("join(0, 5)", x.join(0, 5), 1);
        due.is("join(0, 5) again", x.join(0, 5), NONE);
        due.is("join(0, 0)", x.join(0, 0), 2);
        due.is("join(0, 3)", x.join(0, 3), 3);
        due.is("join(0, 1)", x.join(0, 1), 4);
        due.is("join(0, 2), a fifth", x.join(0, 2), NONE);
        due.is("join(0, 1) again", x.join(0, 1), NONE);
        due.is("join(1, 5)", x.join(1, 5), 1);
    }

    private static void wrongJoins() {
        WakingPagers x = new WakingPagers();
        x.identity(9, 0);
        due.is("join without pagers", x.join(0, 0), NONE);
        x.pager();
        due.is("join(1, 0)", x.join(1, 0), NONE);
        due.is("join(-1, 0)", x.join(-1, 0), NONE);
        due.is("join(0, 1)", x.join(0, 1), NONE);
        due.is("join(0, -1)", x.join(0, -1), NONE);
        due.is("join(0, 0)", x.join(0, 0), 1);
    }
}
