/** Promises 10 to 13: waiting, transmit, bit, flip. */
public final class TransmitTest {
    private static final Due due = new Due("TransmitTest");
    private static final int NONE = WakingPagers.NONE;

    public static void main(String[] args) {
        lengthsAndEmptyTransmission();
        wrongTransmissions();
        wrongBits();
        flipping();
        numericWords();
        textWords();
        numbersInWords();
        frames();
        priorities();
        oddPlaceAndNextBatch();
        orderOfOneIdentity();
        identityIsHeldBack();
        othersFillTheGap();
        addressWordMayBeZero();
        due.end();
    }

    private static void lengthsAndEmptyTransmission() {
        WakingPagers x = new WakingPagers();
        for (int n = 4; n >= 1; n--) {
            if (n == 2) {
                x = new WakingPagers();
            }
            due.is("transmit(" + n + ")", x.transmit(n), 64 + 544 * n);
            due.is("last bit", x.bit(63 + 544 * n), 1);
            due.is("behind the last bit", x.bit(64 + 544 * n), NONE);
            for (int i = 0; i < 64; i++) {
                due.is("bit(" + i + ")", x.bit(i), 1 - i % 2);
            }
            for (int w = 0; w < 17 * n; w++) {
                due.is("word " + w, emptyWord(n, w), w % 17 == 0 ? Net.SYNC : Net.IDLE);
            }
        }
    }

    private static int emptyWord(int n, int w) {
        WakingPagers x = new WakingPagers();
        x.transmit(n);
        return Net.wordAt(x, 64 + 32 * w);
    }

    private static void wrongTransmissions() {
        WakingPagers x = Net.single(1, 0);
        Net.callDigits(x, 0, 0, "1");
        int[] wrong = {0, -1, 5, Integer.MAX_VALUE, Integer.MIN_VALUE};
        for (int n : wrong) {
            due.is("transmit(" + n + ")", x.transmit(n), NONE);
        }
        due.is("waiting()", x.waiting(), 1);
        due.is("bit(0): no transmission yet", x.bit(0), NONE);
        x.transmit(1);
        x.flip(0);
        due.is("transmit(5)", x.transmit(5), NONE);
        due.is("bit(0) as it was", x.bit(0), 0);
        due.is("bit(607) as it was", x.bit(607), 1);
        due.is("bit(608) as it was", x.bit(608), NONE);
    }

    private static void wrongBits() {
        WakingPagers x = new WakingPagers();
        x.transmit(2);
        int[] wrong = {-1, 1152, 1153, 2239, Integer.MAX_VALUE, Integer.MIN_VALUE};
        for (int i : wrong) {
            due.is("bit(" + i + ")", x.bit(i), NONE);
            due.is("flip(" + i + ")", x.flip(i), NONE);
        }
        due.is("bit(1151)", x.bit(1151), 1);
        due.is("flip(1151)", x.flip(1151), 0);
    }

    private static void flipping() {
        WakingPagers x = new WakingPagers();
        x.transmit(1);
        for (int i = 0; i < 608; i += 31) {
            int before = x.bit(i);
            int next = x.bit(i + 1);
            due.is("flip(" + i + ")", x.flip(i), 1 - before);
            due.is("bit(" + i + ")", x.bit(i), 1 - before);
            due.is("bit behind it", x.bit(i + 1), next);
            due.is("flip(" + i + ") again", x.flip(i), before);
        }
        x.flip(3);
        x.transmit(1);
        due.is("bit(3) of a new transmission", x.bit(3), 0);
    }

    private static void numericWords() {
        WakingPagers x = Net.single(8 * 77 + 2, 0);
        Net.callDigits(x, 0, 0, "123");
        Net.callDigits(x, 0, 0, "0ab4");
        x.transmit(3);
        due.is("address word", Net.wordAtPlace(x, 4), x.code(4 * 77));
        due.is("content", Net.wordAtPlace(x, 5), Net.messageWord(x, Net.digits(0, 0, 1, 2, 3)));
        due.is("behind it", Net.wordAtPlace(x, 6), Net.IDLE);
        due.is("second address word", Net.wordAtPlace(x, 20), x.code(4 * 77));
        due.is("content 0", Net.wordAtPlace(x, 21), Net.messageWord(x, Net.digits(0, 1, 0, 10, 11)));
        due.is("content 1", Net.wordAtPlace(x, 22), Net.messageWord(x, Net.digits(4, 12, 12, 12, 12)));
        due.is("behind it", Net.wordAtPlace(x, 23), Net.IDLE);
        // Lowest bit first: sign 1 is sent as 1000.
        due.is("bit of sign 1", x.bit(Net.bitOfPlace(5) + 1 + 8), 1);
        due.is("message bit", x.bit(Net.bitOfPlace(5)), 1);
    }

    private static void textWords() {
        WakingPagers x = Net.single(8 * 9 + 5, 1);
        Net.callText(x, 0, 0, "Az");
        x.transmit(1);
        due.is("address word", Net.wordAtPlace(x, 10), x.code(4 * 9 + 3));
        // The signs 32, 65, 122, seven bits each, the lowest first, then 0.
        String bits = "0000010" + "1000001" + "0101111" + "0000000000000000000";
        int first = Integer.parseInt(bits.substring(0, 20), 2);
        int second = Integer.parseInt(bits.substring(20, 40), 2);
        due.is("content 0", Net.wordAtPlace(x, 11), Net.messageWord(x, first));
        due.is("content 1", Net.wordAtPlace(x, 12), Net.messageWord(x, second));
        due.is("behind it", Net.wordAtPlace(x, 13), Net.IDLE);
    }

    private static void numbersInWords() {
        WakingPagers x = Net.single(8, 0);
        for (int k = 0; k < 65; k++) {
            x.load(0x050505L, 3);
            x.call(0, 0);
            x.transmit(1);
            if (k > 0 && k < 63 && k != 9 && k != 10) {
                continue;
            }
            int number = k % 64;
            int content = Net.digits(number / 10, number % 10, 5, 5, 5);
            due.is("content of number " + number, Net.wordAtPlace(x, 1), Net.messageWord(x, content));
        }
    }

    private static void frames() {
        for (int frame = 0; frame < 8; frame++) {
            for (int place = 0; place < 16; place++) {
                WakingPagers x = Net.single(8 * 3 + frame, 0);
                Net.callDigits(x, 0, 0, "1");
                x.transmit(1);
                int want = place == 2 * frame ? x.code(12)
                        : place == 2 * frame + 1 ? Net.messageWord(x, Net.digits(0, 0, 1, 12, 12)) : Net.IDLE;
                due.is("frame " + frame + ", place " + place, Net.wordAtPlace(x, place), want);
            }
        }
    }

    private static void priorities() {
        WakingPagers x = new WakingPagers();
        for (int k = 0; k < 4; k++) {
            x.identity(8 * (k + 1), 0);
        }
        Net.callDigits(x, 0, 1, "1");
        Net.callDigits(x, 1, 3, "1");
        Net.callDigits(x, 2, 0, "1");
        Net.callDigits(x, 3, 3, "1");
        int[] order = {1, 3, 0, 2};
        for (int k = 0; k < 4; k++) {
            x.transmit(1);
            due.is("transmission " + k, Net.wordAtPlace(x, 0), x.code(4 * (order[k] + 1)));
            due.is("waiting()", x.waiting(), 3 - k);
        }
        x.transmit(1);
        due.is("nothing waits", Net.wordAtPlace(x, 0), Net.IDLE);
    }

    private static void oddPlaceAndNextBatch() {
        WakingPagers x = new WakingPagers();
        x.identity(7, 0);
        x.identity(8 + 6, 1);
        // Three words from place 12 on take the first place of frame 7.
        Net.callText(x, 1, 3, "abc");
        Net.callDigits(x, 0, 0, "1");
        x.transmit(1);
        due.is("place 12", Net.wordAtPlace(x, 12), x.code(7));
        due.is("place 15 would end behind the last place", Net.wordAtPlace(x, 15), Net.IDLE);
        due.is("waiting()", x.waiting(), 1);
        Net.callText(x, 1, 3, "abc");
        x.transmit(2);
        due.is("place 15, with its content in the next batch", Net.wordAtPlace(x, 15), x.code(0));
        due.is("place 16", Net.wordAtPlace(x, 16), Net.messageWord(x, Net.digits(0, 0, 1, 12, 12)));
        due.is("waiting()", x.waiting(), 0);
    }

    private static void orderOfOneIdentity() {
        WakingPagers x = new WakingPagers();
        x.identity(0, 1);
        x.identity(1, 0);
        // The long one of greater priority can't be at place 0 with place 2 taken before it.
        Net.callDigits(x, 1, 3, "1");
        Net.callText(x, 0, 2, "abcdefgh");
        Net.callText(x, 0, 1, "a");
        x.transmit(4);
        due.is("place 0", Net.wordAtPlace(x, 0), Net.IDLE);
        due.is("place 2", Net.wordAtPlace(x, 2), x.code(0));
        due.is("place 16, the long one", Net.wordAtPlace(x, 16), x.code(3));
        due.is("place 32, the short one, though place 0 was free", Net.wordAtPlace(x, 32), x.code(3));
        due.is("waiting()", x.waiting(), 0);
    }

    private static void identityIsHeldBack() {
        WakingPagers x = new WakingPagers();
        x.identity(0, 1);
        x.identity(1, 0);
        Net.callDigits(x, 1, 3, "1");
        Net.callText(x, 0, 2, "abcdefgh");
        Net.callText(x, 0, 2, "a");
        Net.callText(x, 0, 0, "b");
        x.transmit(1);
        due.is("waiting(): the short ones wait behind the long one", x.waiting(), 3);
        due.is("place 0", Net.wordAtPlace(x, 0), Net.IDLE);
        due.is("place 2", Net.wordAtPlace(x, 2), x.code(0));
        x.transmit(1);
        due.is("waiting(): the long one has gone out", x.waiting(), 2);
        due.is("place 0", Net.wordAtPlace(x, 0), x.code(3));
        x.transmit(2);
        due.is("waiting()", x.waiting(), 0);
    }

    private static void othersFillTheGap() {
        WakingPagers x = new WakingPagers();
        x.identity(0, 1);
        x.identity(1, 0);
        x.identity(8, 0);
        Net.callDigits(x, 1, 3, "1");
        Net.callText(x, 0, 2, "abcdefgh");
        Net.callDigits(x, 2, 0, "7");
        x.transmit(1);
        due.is("waiting()", x.waiting(), 1);
        due.is("place 0, another identity of the frame", Net.wordAtPlace(x, 0), x.code(4));
        due.is("place 1", Net.wordAtPlace(x, 1), Net.messageWord(x, Net.digits(0, 0, 7, 12, 12)));
    }

    private static void addressWordMayBeZero() {
        WakingPagers x = new WakingPagers();
        x.identity(0, 0);
        x.identity(8, 0);
        Net.callDigits(x, 0, 1, "1");
        Net.callDigits(x, 1, 0, "2");
        x.transmit(1);
        due.is("place 0 is taken by a word of bits 0", Net.wordAtPlace(x, 0), 0);
        due.is("waiting()", x.waiting(), 1);
    }
}
