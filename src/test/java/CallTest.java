/** Promises 7 to 10 and 20: load, unload, call, waiting, desk. */
public final class CallTest {
    private static final Due due = new Due("CallTest");
    private static final int NONE = WakingPagers.NONE;

    public static void main(String[] args) {
        loadTakesHighestByteFirst();
        wrongLoads();
        loadStopsAtTwenty();
        unloading();
        calls();
        wrongCalls();
        signsOfTheKinds();
        sixtyWait();
        twoHundredInAll();
        deskKeepsTheLatest();
        wrongDesks();
        due.end();
    }

    private static void loadTakesHighestByteFirst() {
        WakingPagers x = Net.single(1, 1);
        due.is("load(0x414243, 3)", x.load(0x414243L, 3), 3);
        due.is("load with more bytes above", x.load(0xFFFFFFFFFFFF4445L, 2), 5);
        due.is("load of eight", x.load(0x4647484950515253L, 8), 13);
        due.is("call", x.call(0, 0), 0);
        int[] signs = {0x41, 0x42, 0x43, 0x44, 0x45, 0x46, 0x47, 0x48, 0x49, 0x50, 0x51, 0x52, 0x53};
        for (int i = 0; i < signs.length; i++) {
            due.is("desk(0, 0, " + i + ")", x.desk(0, 0, i), signs[i]);
        }
        due.is("desk behind the signs", x.desk(0, 0, signs.length), NONE);
    }

    private static void wrongLoads() {
        WakingPagers x = new WakingPagers();
        due.is("load(65, 0)", x.load(65L, 0), NONE);
        due.is("load(65, -1)", x.load(65L, -1), NONE);
        due.is("load(65, 9)", x.load(65L, 9), NONE);
        due.is("load(65, min)", x.load(65L, Integer.MIN_VALUE), NONE);
        due.is("load(65, max)", x.load(65L, Integer.MAX_VALUE), NONE);
        due.is("load(127, 1)", x.load(127L, 1), NONE);
        due.is("load(255, 1)", x.load(255L, 1), NONE);
        due.is("load(128, 1)", x.load(128L, 1), NONE);
        due.is("load with a wrong sign in the midst", x.load(0x417F41L, 3), NONE);
        due.is("load with a wrong sign first", x.load(0x8041414141414141L, 8), NONE);
        due.is("unload: nothing was loaded", x.unload(), 0);
        due.is("load(126, 1)", x.load(126L, 1), 1);
        due.is("load(0, 1)", x.load(0L, 1), 2);
        due.is("load(20, 1)", x.load(20L, 1), 3);
    }

    private static void loadStopsAtTwenty() {
        WakingPagers x = new WakingPagers();
        due.is("load 8", x.load(0L, 8), 8);
        due.is("load 16", x.load(0L, 8), 16);
        due.is("load 21", x.load(0L, 5), NONE);
        due.is("load 20", x.load(0L, 4), 20);
        due.is("load 21 by one", x.load(0L, 1), NONE);
        due.is("unload", x.unload(), 20);
    }

    private static void unloading() {
        WakingPagers x = Net.single(1, 0);
        Net.loadDigits(x, "123");
        due.is("unload()", x.unload(), 3);
        due.is("unload() again", x.unload(), 0);
        due.is("call without signs", x.call(0, 0), NONE);
        due.is("call of new signs", Net.callDigits(x, 0, 0, "9"), 0);
        due.is("desk(0, 0, 0)", x.desk(0, 0, 0), 9);
        due.is("desk(0, 0, 1)", x.desk(0, 0, 1), NONE);
        due.is("unload() behind a call", x.unload(), 0);
    }

    private static void calls() {
        WakingPagers x = new WakingPagers();
        x.identity(1, 0);
        x.identity(2, 1);
        due.is("first call to 0", Net.callDigits(x, 0, 0, "1"), 0);
        due.is("first call to 1", Net.callText(x, 1, 3, "a"), 0);
        due.is("second call to 0", Net.callDigits(x, 0, 3, "2"), 1);
        due.is("third call to 0", Net.callDigits(x, 0, 1, "3"), 2);
        due.is("second call to 1", Net.callText(x, 1, 2, "b"), 1);
        due.is("waiting()", x.waiting(), 5);
    }

    private static void wrongCalls() {
        WakingPagers x = new WakingPagers();
        x.identity(1, 0);
        due.is("call without signs", x.call(0, 0), NONE);
        Net.loadDigits(x, "12");
        due.is("call(-1, 0)", x.call(-1, 0), NONE);
        due.is("call(1, 0)", x.call(1, 0), NONE);
        due.is("call(0, -1)", x.call(0, -1), NONE);
        due.is("call(0, 4)", x.call(0, 4), NONE);
        due.is("waiting()", x.waiting(), 0);
        due.is("call(0, 3) with the signs still there", x.call(0, 3), 0);
        due.is("desk(0, 0, 1)", x.desk(0, 0, 1), 2);
        due.is("waiting()", x.waiting(), 1);
    }

    private static void signsOfTheKinds() {
        for (int sign = 0; sign <= 126; sign++) {
            for (int kind = 0; kind < 2; kind++) {
                boolean right = kind == 0 ? sign <= 11 : sign >= 32;
                WakingPagers x = Net.single(1, kind);
                // A sign of the kind stands before it, so that the last one is looked at too.
                x.load(kind == 0 ? 0 : 32, 1);
                x.load(sign, 1);
                due.is("call of sign " + sign + " to kind " + kind, x.call(0, 0), right ? 0 : NONE);
                due.is("waiting()", x.waiting(), right ? 1 : 0);
                due.is("unload()", x.unload(), right ? 0 : 2);
            }
        }
    }

    private static void sixtyWait() {
        WakingPagers x = new WakingPagers();
        x.identity(1, 0);
        x.identity(2, 0);
        for (int k = 0; k < 60; k++) {
            due.is("call " + k, Net.callDigits(x, k % 2, 0, "5"), k / 2);
        }
        Net.loadDigits(x, "7");
        due.is("call 60", x.call(0, 0), NONE);
        due.is("waiting()", x.waiting(), 60);
        x.transmit(1);
        due.is("waiting() behind a transmission", x.waiting(), 58);
        due.is("call with the signs still there", x.call(0, 0), 30);
        due.is("waiting()", x.waiting(), 59);
        due.is("desk(0, 30, 0)", x.desk(0, 30, 0), 7);
    }

    private static void twoHundredInAll() {
        WakingPagers x = new WakingPagers();
        x.identity(1, 0);
        x.identity(2, 0);
        for (int k = 0; k < 200; k++) {
            int to = k < 130 ? 0 : 1;
            due.is("call " + k, Net.callDigits(x, to, 0, "1"), (k < 130 ? k : k - 130) % 64);
            if (k % 4 == 3) {
                x.transmit(4);
            }
        }
        Net.loadDigits(x, "1");
        due.is("call 200", x.call(0, 0), NONE);
        due.is("call 200 to the other", x.call(1, 0), NONE);
        due.is("unload(): the signs are still there", x.unload(), 1);
    }

    private static void deskKeepsTheLatest() {
        WakingPagers x = new WakingPagers();
        x.identity(1, 0);
        x.identity(2, 1);
        for (int k = 0; k < 66; k++) {
            Net.callDigits(x, 0, 0, k < 64 ? "123" : "9");
            x.transmit(1);
        }
        due.is("desk(0, 0, 0), called again", x.desk(0, 0, 0), 9);
        due.is("desk(0, 0, 1), of the older one only", x.desk(0, 0, 1), NONE);
        due.is("desk(0, 1, 0), called again", x.desk(0, 1, 0), 9);
        due.is("desk(0, 2, 0)", x.desk(0, 2, 0), 1);
        due.is("desk(0, 63, 2)", x.desk(0, 63, 2), 3);
        due.is("desk of the other identity", x.desk(1, 0, 0), NONE);
        Net.callText(x, 1, 0, "x");
        due.is("desk of a message that waits", x.desk(1, 0, 0), 'x');
    }

    private static void wrongDesks() {
        WakingPagers x = Net.single(1, 0);
        Net.callDigits(x, 0, 0, "12");
        due.is("desk(0, 0, 1)", x.desk(0, 0, 1), 2);
        due.is("desk(0, 0, 2)", x.desk(0, 0, 2), NONE);
        due.is("desk(0, 0, -1)", x.desk(0, 0, -1), NONE);
        due.is("desk(0, 1, 0)", x.desk(0, 1, 0), NONE);
        due.is("desk(0, -1, 0)", x.desk(0, -1, 0), NONE);
        due.is("desk(0, 64, 0)", x.desk(0, 64, 0), NONE);
        due.is("desk(1, 0, 0)", x.desk(1, 0, 0), NONE);
        due.is("desk(-1, 0, 0)", x.desk(-1, 0, 0), NONE);
    }
}
