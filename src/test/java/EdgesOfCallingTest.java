/** Promises 7 to 10 and 20 at their edges: each test has a sentence of the document above it. */
public final class EdgesOfCallingTest {
    private static final Due due = new Due("EdgesOfCallingTest");
    private static final int NONE = WakingPagers.NONE;
    private static final int MAX = Integer.MAX_VALUE;
    private static final int MIN = Integer.MIN_VALUE;

    public static void main(String[] args) {
        oneToEightSignsALoad();
        tooFewOrTooManySignsALoad();
        greatestSignOfALoad();
        signsAboveTheGreatest();
        bytesAboveThoseLoaded();
        highestByteFirst();
        twentySignsAtMost();
        refusedLoadChangesNothing();
        unloadOfNone();
        unloadOfAll();
        callOfOneSign();
        callOfTwentySigns();
        callOfNoSigns();
        callToNoIdentity();
        prioritiesOfCalls();
        signsOfNumericCalls();
        signsOfTextCalls();
        wrongSignAnywhere();
        sixtyWaitAtMost();
        twoHundredAtMost();
        numbersWrapAround();
        numbersOfEachIdentity();
        refusedCallTakesNoNumber();
        waitingFromNone();
        deskOfNoIdentity();
        deskOfNoNumber();
        deskOfNoSign();
        deskOfTheLatest();
        deskBehindTransmissions();
        deskOfWhatWasNotCalled();
        due.end();
    }

    // "NONE .. when n is not 1 .. 8"
    private static void oneToEightSignsALoad() {
        for (int n = 1; n <= 8; n++) {
            WakingPagers x = new WakingPagers();
            due.is("load(0, " + n + ")", x.load(0L, n), n);
            due.is("unload()", x.unload(), n);
        }
    }

    // "NONE, changing nothing, when n is not 1 .. 8"
    private static void tooFewOrTooManySignsALoad() {
        WakingPagers x = new WakingPagers();
        int[] wrong = {0, -1, -8, 9, 10, 16, 21, MIN, MAX};
        for (int n : wrong) {
            due.is("load(0, " + n + ")", x.load(0L, n), NONE);
        }
        due.is("unload()", x.unload(), 0);
    }

    // "NONE .. when .. one is above 126": 126 is not
    private static void greatestSignOfALoad() {
        due.is("load(126, 1)", new WakingPagers().load(126L, 1), 1);
        due.is("load of eight 126", new WakingPagers().load(0x7E7E7E7E7E7E7E7EL, 8), 8);
    }

    // "NONE, changing nothing, when .. one is above 126": wherever it is
    private static void signsAboveTheGreatest() {
        int[] above = {127, 128, 129, 200, 254, 255};
        for (int sign : above) {
            for (int n = 1; n <= 8; n++) {
                for (int k = 0; k < n; k++) {
                    WakingPagers x = new WakingPagers();
                    due.is("load with " + sign + " as byte " + k + " of " + n, x.load((long) sign << 8 * k, n), NONE);
                    due.is("unload()", x.unload(), 0);
                }
            }
        }
    }

    // "the n lowest bytes of a long": what is above them is not looked at
    private static void bytesAboveThoseLoaded() {
        for (int n = 1; n < 8; n++) {
            WakingPagers x = Net.single(1, 1);
            long signs = -1L << 8 * n | 0x61626364656667L & (1L << 8 * n) - 1;
            due.is("load below bytes 255, " + n, x.load(signs, n), n);
            due.is("call", x.call(0, 0), 0);
            due.is("the lowest byte is the last sign", x.desk(0, 0, n - 1), 0x67);
        }
    }

    // "the highest first, behind those there are"
    private static void highestByteFirst() {
        WakingPagers x = Net.single(1, 1);
        due.is("load of two", x.load(0x4142L, 2), 2);
        due.is("load of eight", x.load(0x434445464748494AL, 8), 10);
        due.is("load of one", x.load(0x4BL, 1), 11);
        x.call(0, 0);
        for (int i = 0; i < 11; i++) {
            due.is("desk(0, 0, " + i + ")", x.desk(0, 0, i), 0x41 + i);
        }
    }

    // "NONE, changing nothing, when .. there would be more than 20"
    private static void twentySignsAtMost() {
        for (int n = 1; n <= 8; n++) {
            WakingPagers x = new WakingPagers();
            for (int k = 0; k < 20 - n; k++) {
                x.load(1L, 1);
            }
            if (n < 8) {
                due.is("load of " + (n + 1) + " behind " + (20 - n), x.load(0L, n + 1), NONE);
            }
            due.is("load of " + n + " behind " + (20 - n), x.load(0L, n), 20);
            due.is("load of one more", x.load(0L, 1), NONE);
            due.is("load of eight more", x.load(0L, 8), NONE);
            due.is("unload()", x.unload(), 20);
        }
    }

    // "NONE, changing nothing": the signs that there were are those called
    private static void refusedLoadChangesNothing() {
        WakingPagers x = Net.single(1, 0);
        for (int k = 0; k < 19; k++) {
            x.load(k % 10, 1);
        }
        due.is("load of none", x.load(0x0B0BL, 0), NONE);
        due.is("load of nine", x.load(0x0B0BL, 9), NONE);
        due.is("load of a right sign and a wrong one", x.load(0x0B7FL, 2), NONE);
        due.is("load of two more", x.load(0x0B0BL, 2), NONE);
        due.is("load of one more", x.load(7L, 1), 20);
        due.is("call", x.call(0, 0), 0);
        for (int i = 0; i < 20; i++) {
            due.is("desk(0, 0, " + i + ")", x.desk(0, 0, i), i == 19 ? 7 : i % 10);
        }
    }

    // "The signs for the next message are none: how many there were.": none
    private static void unloadOfNone() {
        WakingPagers x = Net.single(1, 0);
        due.is("unload() of a new object", x.unload(), 0);
        Net.callDigits(x, 0, 0, "1");
        due.is("unload() behind a call", x.unload(), 0);
    }

    // "The signs for the next message are none: how many there were.": all twenty
    private static void unloadOfAll() {
        WakingPagers x = Net.single(1, 0);
        x.load(0L, 8);
        x.load(0L, 8);
        x.load(0L, 4);
        due.is("unload()", x.unload(), 20);
        due.is("unload() again", x.unload(), 0);
        due.is("call: there are no signs", x.call(0, 0), NONE);
        due.is("load begins anew", x.load(3L, 1), 1);
        due.is("call", x.call(0, 0), 0);
        due.is("desk(0, 0, 0)", x.desk(0, 0, 0), 3);
        due.is("desk(0, 0, 1)", x.desk(0, 0, 1), NONE);
    }

    // "1 to 20 SIGNS": one
    private static void callOfOneSign() {
        for (int kind = 0; kind < 2; kind++) {
            WakingPagers x = Net.single(1, kind);
            x.load(kind == 0 ? 11 : 126, 1);
            due.is("call", x.call(0, 0), 0);
            due.is("desk(0, 0, 0)", x.desk(0, 0, 0), kind == 0 ? 11 : 126);
            due.is("desk(0, 0, 1)", x.desk(0, 0, 1), NONE);
            x.transmit(1);
            due.is("hear(0, 0)", x.hear(0, 0), 1);
            due.is("message(0, 0, 2)", x.message(0, 0, 2), 1);
            due.is("sign(0, 0, 0)", x.sign(0, 0, 0), kind == 0 ? 11 : 126);
        }
    }

    // "1 to 20 SIGNS": twenty
    private static void callOfTwentySigns() {
        for (int kind = 0; kind < 2; kind++) {
            WakingPagers x = Net.single(1, kind);
            for (int k = 0; k < 20; k++) {
                x.load(kind == 0 ? k % 12 : 107 + k, 1);
            }
            due.is("call", x.call(0, 0), 0);
            x.transmit(1);
            due.is("hear(0, 0)", x.hear(0, 0), 1);
            due.is("message(0, 0, 2)", x.message(0, 0, 2), 20);
            for (int i = 0; i < 20; i++) {
                int want = kind == 0 ? i % 12 : 107 + i;
                due.is("sign(0, 0, " + i + ")", x.sign(0, 0, i), want);
                due.is("desk(0, 0, " + i + ")", x.desk(0, 0, i), want);
            }
            due.is("sign(0, 0, 20)", x.sign(0, 0, 20), NONE);
            due.is("desk(0, 0, 20)", x.desk(0, 0, 20), NONE);
        }
    }

    /** A refused call has changed nothing: neither what waits nor the signs nor the numbers. */
    private static void nothingIsChanged(WakingPagers x, int waiting, int signs) {
        due.is("waiting()", x.waiting(), waiting);
        due.is("unload()", x.unload(), signs);
    }

    // "NONE, changing nothing, when .. there are no signs"
    private static void callOfNoSigns() {
        WakingPagers x = Net.single(1, 0);
        due.is("call(0, 0) of a new object", x.call(0, 0), NONE);
        nothingIsChanged(x, 0, 0);
        due.is("call with a sign", Net.callDigits(x, 0, 0, "1"), 0);
        due.is("call: the signs are none then", x.call(0, 0), NONE);
        nothingIsChanged(x, 1, 0);
        due.is("desk of the refused one", x.desk(0, 1, 0), NONE);
    }

    // "NONE, changing nothing, when there is no such identity"
    private static void callToNoIdentity() {
        int[] none = {-1, 2, 11, 12, MIN, MAX};
        for (int identity : none) {
            WakingPagers x = new WakingPagers();
            x.identity(1, 0);
            x.identity(2, 0);
            Net.loadDigits(x, "123");
            due.is("call(" + identity + ", 0)", x.call(identity, 0), NONE);
            nothingIsChanged(x, 0, 3);
            due.is("call(1, 0)", Net.callDigits(x, 1, 0, "1"), 0);
        }
    }

    // "a PRIORITY 0 .. 3", "NONE, changing nothing, when .. priority is not 0 .. 3"
    private static void prioritiesOfCalls() {
        WakingPagers x = Net.single(1, 0);
        for (int priority = 0; priority <= 3; priority++) {
            due.is("call(0, " + priority + ")", Net.callDigits(x, 0, priority, "1"), priority);
        }
        int[] none = {-1, 4, 5, MIN, MAX};
        for (int priority : none) {
            Net.loadDigits(x, "12");
            due.is("call(0, " + priority + ")", x.call(0, priority), NONE);
            nothingIsChanged(x, 4, 2);
        }
        due.is("call(0, 0)", Net.callDigits(x, 0, 0, "1"), 4);
    }

    private static int callOfSign(int kind, int sign) {
        WakingPagers x = Net.single(1, kind);
        x.load(sign, 1);
        int answer = x.call(0, 0);
        nothingIsChanged(x, answer == NONE ? 0 : 1, answer == NONE ? 1 : 0);
        return answer;
    }

    // "SIGNS (0 .. 11 if numeric, ..)", "NONE, changing nothing, when .. one is not of the identity's kind"
    private static void signsOfNumericCalls() {
        for (int sign = 0; sign <= 126; sign++) {
            due.is("numeric call of " + sign, callOfSign(0, sign), sign <= 11 ? 0 : NONE);
        }
    }

    // "SIGNS (.. 32 .. 126 if text)", "NONE, changing nothing, when .. one is not of the identity's kind"
    private static void signsOfTextCalls() {
        for (int sign = 0; sign <= 126; sign++) {
            due.is("text call of " + sign, callOfSign(1, sign), sign >= 32 ? 0 : NONE);
        }
    }

    // "NONE, changing nothing, when .. one is not of the identity's kind": wherever it is
    private static void wrongSignAnywhere() {
        for (int kind = 0; kind < 2; kind++) {
            for (int k = 0; k < 20; k++) {
                WakingPagers x = Net.single(1, kind);
                for (int i = 0; i < 20; i++) {
                    x.load(i == k ? (kind == 0 ? 12 : 31) : (kind == 0 ? 11 : 32), 1);
                }
                due.is("call with sign " + k + " wrong", x.call(0, 0), NONE);
                nothingIsChanged(x, 0, 20);
            }
        }
    }

    // "at most 60 wait", "NONE, changing nothing, when .. 60 messages wait"
    private static void sixtyWaitAtMost() {
        WakingPagers x = new WakingPagers();
        x.identity(1, 0);
        x.identity(2, 0);
        for (int k = 0; k < 60; k++) {
            due.is("call " + k, Net.callDigits(x, 0, k % 4, "1"), k);
        }
        Net.loadDigits(x, "12");
        due.is("call 60", x.call(0, 3), NONE);
        due.is("call 60 to another", x.call(1, 3), NONE);
        nothingIsChanged(x, 60, 2);
        due.is("desk of the refused one", x.desk(0, 60, 0), NONE);
        x.transmit(1);
        due.is("waiting()", x.waiting(), 59);
        due.is("call when 59 wait", Net.callDigits(x, 0, 0, "3"), 60);
        due.is("call when 60 wait again", Net.callDigits(x, 0, 0, "4"), NONE);
        nothingIsChanged(x, 60, 1);
    }

    // "at most 200 in all", "NONE, changing nothing, when .. there were 200"
    private static void twoHundredAtMost() {
        WakingPagers x = new WakingPagers();
        for (int k = 0; k < 8; k++) {
            x.identity(k, 0);
        }
        for (int k = 0; k < 200; k++) {
            due.is("call " + k, Net.callDigits(x, k % 8, 0, "1"), k / 8);
            if (k % 32 == 31) {
                x.transmit(4);
            }
        }
        x.transmit(4);
        due.is("waiting()", x.waiting(), 0);
        for (int identity = 0; identity < 8; identity++) {
            Net.loadDigits(x, "1");
            due.is("call 200 to " + identity, x.call(identity, 3), NONE);
            nothingIsChanged(x, 0, 1);
        }
        due.is("desk of the refused one", x.desk(0, 25, 0), NONE);
        due.is("desk of the last one", x.desk(7, 24, 0), 1);
    }

    // "a NUMBER: how many were called to the identity before, modulo 64"
    private static void numbersWrapAround() {
        for (int kind = 0; kind < 2; kind++) {
            WakingPagers x = Net.single(0, kind);
            for (int k = 0; k < 130; k++) {
                x.load(kind == 0 ? 1 : 'a', 1);
                due.is("call " + k, x.call(0, 0), k % 64);
                x.transmit(1);
            }
            due.is("hear(0, 0) of the 130th", x.hear(0, 0), 1);
            due.is("message(0, 0, 1)", x.message(0, 0, 1), 1);
        }
    }

    // "a NUMBER: how many were called to the identity before": to others does not count
    private static void numbersOfEachIdentity() {
        WakingPagers x = new WakingPagers();
        for (int k = 0; k < 12; k++) {
            x.identity(k, 0);
        }
        for (int k = 0; k < 36; k++) {
            due.is("call " + k, Net.callDigits(x, k % 12, k % 4, "1"), k / 12);
        }
    }

    // "how many were called to the identity before": what was refused was not called
    private static void refusedCallTakesNoNumber() {
        WakingPagers x = Net.single(1, 0);
        due.is("call", Net.callDigits(x, 0, 0, "1"), 0);
        due.is("call without signs", x.call(0, 0), NONE);
        due.is("call of a sign of text", Net.callText(x, 0, 0, "a"), NONE);
        x.unload();
        Net.loadDigits(x, "2");
        due.is("call of no priority", x.call(0, 4), NONE);
        due.is("call", x.call(0, 0), 1);
    }

    // "How many messages wait.": from none to sixty
    private static void waitingFromNone() {
        WakingPagers x = Net.single(1, 0);
        due.is("waiting() of a new object", x.waiting(), 0);
        x.transmit(4);
        due.is("waiting() when nothing was called", x.waiting(), 0);
        for (int k = 0; k < 60; k++) {
            Net.callDigits(x, 0, 0, "1");
            due.is("waiting()", x.waiting(), k + 1);
        }
        for (int k = 0; k < 15; k++) {
            x.transmit(4);
            due.is("waiting(): four went out", x.waiting(), 56 - 4 * k);
        }
        x.transmit(4);
        due.is("waiting() when none waits", x.waiting(), 0);
    }

    // "NONE when there is none.": no such identity
    private static void deskOfNoIdentity() {
        WakingPagers x = Net.single(1, 0);
        Net.callDigits(x, 0, 0, "1");
        int[] none = {-1, 1, 11, 12, MIN, MAX};
        for (int identity : none) {
            due.is("desk(" + identity + ", 0, 0)", x.desk(identity, 0, 0), NONE);
        }
        due.is("desk(0, 0, 0)", x.desk(0, 0, 0), 1);
    }

    // "NONE when there is none.": no such number
    private static void deskOfNoNumber() {
        WakingPagers x = Net.single(1, 0);
        due.is("desk(0, 0, 0) before a call", x.desk(0, 0, 0), NONE);
        for (int k = 0; k < 3; k++) {
            Net.callDigits(x, 0, 0, "1");
        }
        int[] none = {-1, 3, 63, 64, 65, -64, MIN, MAX};
        for (int number : none) {
            due.is("desk(0, " + number + ", 0)", x.desk(0, number, 0), NONE);
        }
        due.is("desk(0, 2, 0)", x.desk(0, 2, 0), 1);
    }

    // "NONE when there is none.": no such sign
    private static void deskOfNoSign() {
        WakingPagers x = Net.single(1, 0);
        Net.callDigits(x, 0, 0, "12345");
        Net.callDigits(x, 0, 0, "678");
        int[] none = {-1, 3, 4, 19, 20, MIN, MAX};
        for (int i : none) {
            due.is("desk(0, 1, " + i + ")", x.desk(0, 1, i), NONE);
        }
        due.is("desk(0, 1, 0)", x.desk(0, 1, 0), 6);
        due.is("desk(0, 1, 2)", x.desk(0, 1, 2), 8);
        due.is("desk(0, 0, 4)", x.desk(0, 0, 4), 5);
    }

    // "the latest called of such"
    private static void deskOfTheLatest() {
        WakingPagers x = new WakingPagers();
        x.identity(1, 0);
        x.identity(2, 0);
        for (int k = 0; k < 64; k++) {
            Net.callDigits(x, 0, 0, "12");
            x.transmit(1);
        }
        due.is("desk(0, 0, 1) before the 65th", x.desk(0, 0, 1), 2);
        Net.callDigits(x, 0, 0, "7");
        due.is("desk(0, 0, 0)", x.desk(0, 0, 0), 7);
        due.is("desk(0, 0, 1), a sign of the older one alone", x.desk(0, 0, 1), NONE);
        due.is("desk(0, 1, 1), not called again", x.desk(0, 1, 1), 2);
        due.is("desk(0, 63, 1)", x.desk(0, 63, 1), 2);
        Net.callDigits(x, 1, 0, "9");
        due.is("desk(0, 0, 0), not that of the other identity", x.desk(0, 0, 0), 7);
        due.is("desk(1, 0, 0)", x.desk(1, 0, 0), 9);
    }

    // "a desk keeps what was called": also what waits, and what has gone out
    private static void deskBehindTransmissions() {
        WakingPagers x = Net.single(1, 1);
        Net.callText(x, 0, 0, "ab");
        due.is("desk(0, 0, 1) while it waits", x.desk(0, 0, 1), 'b');
        x.transmit(1);
        due.is("desk(0, 0, 1) when it is on the air", x.desk(0, 0, 1), 'b');
        x.transmit(1);
        due.is("desk(0, 0, 1) when it is on the air no more", x.desk(0, 0, 1), 'b');
        Net.loadText(x, "cdefg");
        due.is("desk(0, 0, 2): new signs are not of it", x.desk(0, 0, 2), NONE);
    }

    // "Sign i of the message to an identity": what was not called is none
    private static void deskOfWhatWasNotCalled() {
        WakingPagers x = Net.single(1, 0);
        Net.loadDigits(x, "12");
        due.is("desk of signs that are loaded", x.desk(0, 0, 0), NONE);
        due.is("call(0, 4)", x.call(0, 4), NONE);
        due.is("desk of a refused call", x.desk(0, 0, 0), NONE);
    }
}
