import java.util.function.Supplier;

/** Promises 11 to 13 at their edges: each test has a sentence of the document above it. */
public final class EdgesOfTransmissionTest {
    private static final Due due = new Due("EdgesOfTransmissionTest");
    private static final int NONE = WakingPagers.NONE;
    private static final int MAX = Integer.MAX_VALUE;
    private static final int MIN = Integer.MIN_VALUE;
    private static final String TWENTY = "abcdefghijklmnopqrst";

    public static void main(String[] args) {
        oneToFourBatches();
        tooFewOrTooManyBatches();
        refusedTransmissionLeavesTheAir();
        newTransmissionTakesThePlace();
        preamble();
        syncBeforeEachBatch();
        highestBitFirst();
        nothingWaits();
        allPlacesTaken();
        greaterPriorityFirst();
        orderOfTheCalls();
        firstPlaceOfTheFrame();
        secondPlaceOfTheFrame();
        frameOfTheNextBatch();
        asLongAsThePlaces();
        longerThanThePlaces();
        lastPlaceAlone();
        acrossTheBatches();
        freeUpToTheNext();
        notFreeAtItsEnd();
        notBeforeTheEarlierOne();
        anewInTheNextTransmission();
        waitsNoMore();
        waitsOn();
        allBehindItWaitToo();
        onlyThisTime();
        othersDoNotWait();
        numericContentIsFull();
        numericContentIsFilled();
        textContentIsFull();
        textContentIsFilled();
        numbersAsDigits();
        numbersAsText();
        bitsThatAreNone();
        flipsThatAreNone();
        flipsAtTheEnds();
        flipIsTheNewBit();
        due.end();
    }

    /** The words at all places; an object has not calls enough to tell them all. */
    private static int[] places(Supplier<WakingPagers> made, int n) {
        int[] words = new int[16 * n];
        for (int place = 0; place < words.length; place++) {
            words[place] = Net.wordAtPlace(made.get(), place);
        }
        return words;
    }

    private static int code(int data) {
        return new WakingPagers().code(data);
    }

    // "A TRANSMISSION of n batches (1 .. 4)": "how many bits it has"
    private static void oneToFourBatches() {
        int[] lengths = {608, 1152, 1696, 2240};
        for (int n = 1; n <= 4; n++) {
            WakingPagers x = new WakingPagers();
            due.is("transmit(" + n + ")", x.transmit(n), lengths[n - 1]);
            due.is("the last bit, of IDLE", x.bit(lengths[n - 1] - 1), 1);
            due.is("no bit behind it", x.bit(lengths[n - 1]), NONE);
        }
    }

    // "NONE, changing nothing, when n is not 1 .. 4": what waits waits on, and there is no transmission
    private static void tooFewOrTooManyBatches() {
        WakingPagers x = Net.single(0, 0);
        Net.callDigits(x, 0, 0, "1");
        int[] wrong = {0, -1, -4, 5, 6, 8, MIN, MAX};
        for (int n : wrong) {
            due.is("transmit(" + n + ")", x.transmit(n), NONE);
            due.is("waiting()", x.waiting(), 1);
            due.is("bit(0)", x.bit(0), NONE);
        }
        due.is("transmit(1)", x.transmit(1), 608);
        due.is("waiting()", x.waiting(), 0);
    }

    // "NONE, changing nothing, when n is not 1 .. 4": the transmission is the one that was
    private static void refusedTransmissionLeavesTheAir() {
        int[] wrong = {0, -1, 5, MIN, MAX};
        for (int n : wrong) {
            WakingPagers x = Net.single(0, 0);
            Net.callDigits(x, 0, 0, "1");
            x.transmit(2);
            x.flip(64);
            Net.callDigits(x, 0, 0, "2");
            due.is("transmit(" + n + ")", x.transmit(n), NONE);
            due.is("waiting()", x.waiting(), 1);
            due.is("bit(64), flipped", x.bit(64), 1);
            due.is("bit(1151)", x.bit(1151), 1);
            due.is("bit(1152)", x.bit(1152), NONE);
            due.is("hear(0, 0): the first message is still on the air", x.hear(0, 0), 1);
        }
    }

    // "in place of the one that was"
    private static void newTransmissionTakesThePlace() {
        WakingPagers x = Net.single(0, 0);
        Net.callDigits(x, 0, 0, "1");
        x.transmit(4);
        x.flip(0);
        x.flip(600);
        due.is("transmit(1)", x.transmit(1), 608);
        due.is("bit(0) is not flipped", x.bit(0), 1);
        due.is("bit(600) is not flipped", x.bit(600), Net.IDLE >>> 7 & 1);
        due.is("bit(608) is there no more", x.bit(608), NONE);
        due.is("place 0", Net.wordAtPlace(x, 0), Net.IDLE);
        due.is("transmit(2)", x.transmit(2), 1152);
        due.is("place 16", Net.wordAtPlace(x, 16), Net.IDLE);
    }

    // "64 bits 1, 0, 1, 0, .."
    private static void preamble() {
        for (int n = 1; n <= 4; n++) {
            WakingPagers x = new WakingPagers();
            x.transmit(n);
            for (int i = 0; i < 64; i++) {
                due.is("bit(" + i + ")", x.bit(i), i % 2 == 0 ? 1 : 0);
            }
        }
    }

    // "then each batch: the bits of SYNC, and of 16 words"
    private static void syncBeforeEachBatch() {
        for (int n = 1; n <= 4; n++) {
            WakingPagers x = new WakingPagers();
            x.transmit(n);
            for (int b = 0; b < n; b++) {
                due.is("sync of batch " + b, Net.wordAt(x, 64 + 544 * b), Net.SYNC);
                due.is("word behind it", Net.wordAt(x, 96 + 544 * b), Net.IDLE);
                due.is("last word of the batch", Net.wordAt(x, 64 + 544 * b + 512), Net.IDLE);
            }
        }
    }

    // "(bit 31 of each word first)"
    private static void highestBitFirst() {
        WakingPagers x = Net.single(0, 0);
        Net.callDigits(x, 0, 0, "1");
        x.transmit(1);
        // 0x7CD215D8 begins with 0111, and ends with 1000; IDLE ends with 0111.
        int[] first = {0, 1, 1, 1};
        for (int k = 0; k < 4; k++) {
            due.is("bit(" + (64 + k) + ")", x.bit(64 + k), first[k]);
            due.is("bit(" + (92 + k) + ")", x.bit(92 + k), 1 - first[k]);
            due.is("bit(" + (604 + k) + ")", x.bit(604 + k), first[k]);
        }
        due.is("the address word's first bit is 0", x.bit(96), 0);
        due.is("the message word's first bit is 1", x.bit(128), 1);
    }

    // "What is left free are IDLE words.": all of them
    private static void nothingWaits() {
        for (int n = 1; n <= 4; n++) {
            int batches = n;
            int[] words = places(() -> {
                WakingPagers x = Net.single(0, 0);
                x.transmit(batches);
                return x;
            }, n);
            for (int place = 0; place < 16 * n; place++) {
                due.is("place " + place, words[place], Net.IDLE);
            }
        }
    }

    private static WakingPagers full() {
        WakingPagers x = new WakingPagers();
        for (int frame = 0; frame < 8; frame++) {
            x.identity(8 * (frame + 1) + frame, 0);
        }
        for (int k = 0; k < 33; k++) {
            x.load(k % 8, 1);
            x.call(k % 8, 0);
        }
        x.transmit(4);
        return x;
    }

    // "What is left free are IDLE words.": none of them
    private static void allPlacesTaken() {
        int[] words = places(EdgesOfTransmissionTest::full, 4);
        for (int place = 0; place < 64; place += 2) {
            int frame = place % 16 / 2;
            due.is("place " + place, words[place], code(4 * (frame + 1)));
            int content = Net.digits(0, place / 16, frame, 12, 12);
            due.is("place " + (place + 1), words[place + 1], code(1 << 20 | content));
        }
        due.is("waiting(): there is no place for the last one", full().waiting(), 1);
    }

    /** Four identities of frame 0, with the address words 4, 8, 12, 16 and one message each. */
    private static WakingPagers fourOfAFrame(int... priorities) {
        WakingPagers x = new WakingPagers();
        for (int k = 0; k < 4; k++) {
            x.identity(8 * (k + 1), 0);
        }
        for (int k = 0; k < 4; k++) {
            Net.callDigits(x, k, priorities[k], "1");
        }
        return x;
    }

    private static void goOutAs(WakingPagers x, int... order) {
        for (int k = 0; k < order.length; k++) {
            x.transmit(1);
            due.is("transmission " + k, Net.wordAtPlace(x, 0), code(4 * (order[k] + 1)));
            due.is("waiting()", x.waiting(), order.length - 1 - k);
        }
    }

    // "those of greater priority first"
    private static void greaterPriorityFirst() {
        goOutAs(fourOfAFrame(0, 1, 2, 3), 3, 2, 1, 0);
        goOutAs(fourOfAFrame(3, 0, 2, 1), 0, 2, 3, 1);
    }

    // "of one priority in the order of the calls"
    private static void orderOfTheCalls() {
        for (int priority = 0; priority <= 3; priority++) {
            goOutAs(fourOfAFrame(priority, priority, priority, priority), 0, 1, 2, 3);
        }
        goOutAs(fourOfAFrame(2, 3, 2, 3), 1, 3, 0, 2);
        WakingPagers x = new WakingPagers();
        for (int k = 0; k < 4; k++) {
            x.identity(8 * (k + 1), 0);
        }
        for (int k = 3; k >= 0; k--) {
            Net.callDigits(x, k, 1, "1");
        }
        goOutAs(x, 3, 2, 1, 0);
    }

    // "laid at the least place that is in a frame of its identity (place modulo 16, divided by 2)"
    private static void firstPlaceOfTheFrame() {
        for (int frame = 0; frame < 8; frame++) {
            int address = 8 * 5 + frame;
            int[] words = places(() -> {
                WakingPagers x = Net.single(address, 0);
                Net.callDigits(x, 0, 0, "1");
                x.transmit(2);
                return x;
            }, 2);
            for (int place = 0; place < 32; place++) {
                boolean free = place != 2 * frame && place != 2 * frame + 1;
                due.holds("frame " + frame + ", place " + place + " is free: " + free, free == (words[place] == Net.IDLE));
            }
            due.is("place " + 2 * frame, words[2 * frame], code(20));
        }
    }

    // "the least place that is in a frame of its identity": its first one is taken by an earlier message
    private static void secondPlaceOfTheFrame() {
        WakingPagers x = new WakingPagers();
        x.identity(8, 1);
        x.identity(17, 0);
        Net.callText(x, 0, 1, "ab");
        Net.callDigits(x, 1, 0, "1");
        x.transmit(2);
        due.is("place 0, three words", Net.wordAtPlace(x, 0), x.code(7));
        due.is("place 3", Net.wordAtPlace(x, 3), x.code(8));
        due.is("place 4", Net.wordAtPlace(x, 4), Net.messageWord(x, Net.digits(0, 0, 1, 12, 12)));
        due.is("place 18", Net.wordAtPlace(x, 18), Net.IDLE);
    }

    // "the least place that is in a frame of its identity": both are taken in the first batch
    private static void frameOfTheNextBatch() {
        WakingPagers x = new WakingPagers();
        x.identity(8, 1);
        x.identity(17, 0);
        Net.callText(x, 0, 1, "abcde");
        Net.callDigits(x, 1, 0, "1");
        x.transmit(2);
        due.is("place 0, four words", Net.wordAtPlace(x, 0), x.code(7));
        due.is("place 4", Net.wordAtPlace(x, 4), Net.IDLE);
        due.is("place 18", Net.wordAtPlace(x, 18), x.code(8));
        due.is("waiting()", x.waiting(), 0);
    }

    /** Whether a text of so many signs is laid into one empty transmission by an identity of a frame. */
    private static boolean isLaid(int frame, int signs, int n) {
        WakingPagers x = Net.single(8 + frame, 1);
        Net.callText(x, 0, 0, TWENTY.substring(0, signs));
        x.transmit(n);
        return x.waiting() == 0;
    }

    // "it and as many places behind it as the message has words more are .. there": just as many
    private static void asLongAsThePlaces() {
        due.holds("two words in the last frame", isLaid(7, 1, 1));
        due.holds("four words in frame 6", isLaid(6, 7, 1));
        due.holds("eight words in frame 4", isLaid(4, 19, 1));
        due.holds("nine words in frame 3", isLaid(3, 20, 1));
    }

    // "it and as many places behind it as the message has words more are .. there": one too few
    private static void longerThanThePlaces() {
        due.holds("three words in the last frame", !isLaid(7, 2, 1));
        due.holds("five words in frame 6", !isLaid(6, 8, 1));
        due.holds("nine words in frame 4", !isLaid(4, 20, 1));
        due.holds("three words in the last frame, with a batch more", isLaid(7, 2, 2));
        due.holds("nine words in frame 4, with a batch more", isLaid(4, 20, 2));
    }

    // "are .. there": the last place of all has none behind it
    private static void lastPlaceAlone() {
        for (int n = 1; n <= 4; n++) {
            WakingPagers x = new WakingPagers();
            x.identity(8 + 6, 1);
            x.identity(16 + 7, 0);
            for (int k = 0; k < n; k++) {
                Net.callText(x, 0, 3, "ab");
                Net.callDigits(x, 1, 0, "1");
            }
            x.transmit(n);
            // Three words in frame 6 leave place 15 alone, which goes on into the next batch if there is one.
            due.is("waiting() of " + n, x.waiting(), 1);
            due.is("the last place of " + n, Net.wordAtPlace(x, 16 * n - 1), Net.IDLE);
        }
    }

    // "as many places behind it": also those of the next batch
    private static void acrossTheBatches() {
        WakingPagers x = Net.single(8 + 7, 1);
        Net.callText(x, 0, 0, "abcdefgh");
        x.transmit(2);
        due.is("place 14", Net.wordAtPlace(x, 14), x.code(7));
        due.is("sync between", Net.wordAt(x, 608), Net.SYNC);
        due.holds("place 18 is of it", Net.wordAtPlace(x, 18) != Net.IDLE);
        due.is("place 19", Net.wordAtPlace(x, 19), Net.IDLE);
        due.is("hear(0, 0)", x.hear(0, 0), 1);
        due.is("message(0, 0, 2)", x.message(0, 0, 2), 8);
    }

    /** A message of two words at places 4 and 5, and then one of frame 0 with so many signs. */
    private static WakingPagers beforeAnother(int signs) {
        WakingPagers x = new WakingPagers();
        x.identity(8 + 2, 0);
        x.identity(16, 1);
        Net.callDigits(x, 0, 3, "1");
        Net.callText(x, 1, 0, TWENTY.substring(0, signs));
        x.transmit(2);
        return x;
    }

    // "such that it and as many places behind it as the message has words more are free": just as many
    private static void freeUpToTheNext() {
        WakingPagers x = beforeAnother(7);
        due.is("place 0, four words", Net.wordAtPlace(x, 0), x.code(11));
        due.holds("place 3 is of it", Net.wordAtPlace(x, 3) != Net.IDLE);
        due.is("place 4", Net.wordAtPlace(x, 4), x.code(4));
        due.is("place 16", Net.wordAtPlace(x, 16), Net.IDLE);
    }

    // "such that it and as many places behind it as the message has words more are free": one too few
    private static void notFreeAtItsEnd() {
        WakingPagers x = beforeAnother(8);
        due.is("place 0", Net.wordAtPlace(x, 0), Net.IDLE);
        due.is("place 1", Net.wordAtPlace(x, 1), Net.IDLE);
        due.is("place 4", Net.wordAtPlace(x, 4), x.code(4));
        due.is("place 16, five words", Net.wordAtPlace(x, 16), x.code(11));
        due.is("waiting()", x.waiting(), 0);
    }

    // "not before the end of an earlier one of its identity in this transmission"
    private static void notBeforeTheEarlierOne() {
        WakingPagers x = new WakingPagers();
        x.identity(8 + 1, 0);
        x.identity(16, 1);
        Net.callDigits(x, 0, 3, "1");
        Net.callText(x, 1, 2, "ab");
        Net.callText(x, 1, 1, "c");
        x.transmit(2);
        due.is("place 0, where the short one would go", Net.wordAtPlace(x, 0), Net.IDLE);
        due.is("place 16, the long one", Net.wordAtPlace(x, 16), x.code(11));
        due.is("waiting(): the short one waits", x.waiting(), 1);
    }

    // "an earlier one of its identity in this transmission": not in the one before
    private static void anewInTheNextTransmission() {
        WakingPagers x = Net.single(8, 0);
        for (int k = 0; k < 4; k++) {
            Net.callDigits(x, 0, 0, "1");
        }
        x.transmit(3);
        due.is("waiting()", x.waiting(), 1);
        x.transmit(1);
        due.is("place 0", Net.wordAtPlace(x, 0), x.code(4));
        due.is("waiting()", x.waiting(), 0);
    }

    // "it waits no more then"
    private static void waitsNoMore() {
        WakingPagers x = Net.single(8, 0);
        Net.callDigits(x, 0, 0, "1");
        x.transmit(4);
        due.is("waiting()", x.waiting(), 0);
        due.is("place 0", Net.wordAtPlace(x, 0), x.code(4));
        due.is("place 16: it goes out once", Net.wordAtPlace(x, 16), Net.IDLE);
        x.transmit(4);
        due.is("place 0 the next time", Net.wordAtPlace(x, 0), Net.IDLE);
    }

    // "If there is none, it waits on"
    private static void waitsOn() {
        WakingPagers x = Net.single(8 + 7, 1);
        Net.callText(x, 0, 0, "ab");
        for (int k = 0; k < 3; k++) {
            x.transmit(1);
            due.is("waiting()", x.waiting(), 1);
            due.is("place 14", Net.wordAtPlace(x, 14), Net.IDLE);
        }
        x.transmit(2);
        due.is("waiting()", x.waiting(), 0);
        due.is("place 14", Net.wordAtPlace(x, 14), x.code(7));
    }

    // "and so do, this time, all messages of its identity behind it"
    private static void allBehindItWaitToo() {
        WakingPagers x = Net.single(8 + 7, 1);
        Net.callText(x, 0, 0, "c");
        Net.callText(x, 0, 2, "ab");
        Net.callText(x, 0, 2, "d");
        Net.callText(x, 0, 3, "e");
        x.transmit(1);
        // The one before it went out; those behind it, of its priority and of a lesser one, did not.
        due.is("waiting()", x.waiting(), 3);
        x.hear(0, 0);
        due.is("number of what went out", x.message(0, 0, 1), 3);
        x.transmit(1);
        due.is("waiting(): the long one is the first now", x.waiting(), 3);
        due.is("place 14", Net.wordAtPlace(x, 14), Net.IDLE);
    }

    // "this time"
    private static void onlyThisTime() {
        WakingPagers x = Net.single(8 + 7, 1);
        Net.callText(x, 0, 1, "ab");
        Net.callText(x, 0, 0, "c");
        x.transmit(1);
        due.is("waiting()", x.waiting(), 2);
        x.transmit(2);
        due.is("waiting()", x.waiting(), 0);
        due.is("place 14", Net.wordAtPlace(x, 14), x.code(7));
        due.is("place 30", Net.wordAtPlace(x, 30), x.code(7));
        due.is("hear(0, 0)", x.hear(0, 0), 2);
    }

    // "all messages of its identity": those of another one do not wait, though of the same frame and word
    private static void othersDoNotWait() {
        WakingPagers x = new WakingPagers();
        x.identity(8 + 7, 1);
        x.identity(16 + 7, 1);
        x.identity(8 + 6, 1);
        Net.callText(x, 0, 3, "ab");
        Net.callText(x, 1, 1, "c");
        Net.callText(x, 2, 0, "d");
        x.transmit(1);
        due.is("waiting()", x.waiting(), 1);
        due.is("place 12", Net.wordAtPlace(x, 12), x.code(7));
        due.is("place 14", Net.wordAtPlace(x, 14), x.code(11));
    }

    private static WakingPagers sent(int kind, String signs) {
        WakingPagers x = Net.single(8, kind);
        if (kind == 0) {
            Net.callDigits(x, 0, 0, signs);
        } else {
            Net.callText(x, 0, 0, signs);
        }
        x.transmit(1);
        return x;
    }

    // "signs 12 until the last content is full": it is full without
    private static void numericContentIsFull() {
        WakingPagers x = sent(0, "ab0");
        due.is("place 1", Net.wordAtPlace(x, 1), Net.messageWord(x, Net.digits(0, 0, 10, 11, 0)));
        due.is("place 2", Net.wordAtPlace(x, 2), Net.IDLE);
        WakingPagers y = sent(0, "12345678");
        due.is("place 2", Net.wordAtPlace(y, 2), Net.messageWord(y, Net.digits(4, 5, 6, 7, 8)));
        due.is("place 3", Net.wordAtPlace(y, 3), Net.IDLE);
    }

    // "signs 12 until the last content is full": from one to four
    private static void numericContentIsFilled() {
        int[] contents = {Net.digits(4, 12, 12, 12, 12), Net.digits(4, 5, 12, 12, 12), Net.digits(4, 5, 6, 12, 12),
            Net.digits(4, 5, 6, 7, 12)};
        for (int k = 0; k < 4; k++) {
            WakingPagers x = sent(0, "1234567".substring(0, 4 + k));
            due.is("place 1", Net.wordAtPlace(x, 1), Net.messageWord(x, Net.digits(0, 0, 1, 2, 3)));
            due.is("place 2", Net.wordAtPlace(x, 2), Net.messageWord(x, contents[k]));
            due.is("place 3", Net.wordAtPlace(x, 3), Net.IDLE);
        }
        WakingPagers y = sent(0, "01234567899876543210");
        due.is("the last of five contents", Net.wordAtPlace(y, 5), Net.messageWord(y, Net.digits(1, 0, 12, 12, 12)));
        due.is("place 6", Net.wordAtPlace(y, 6), Net.IDLE);
    }

    /** The contents of text signs, made as a text of bits. */
    private static int textContent(String signs, int content) {
        StringBuilder bits = new StringBuilder();
        for (int k = 0; k < signs.length(); k++) {
            for (int b = 0; b < 7; b++) {
                bits.append(signs.charAt(k) >>> b & 1);
            }
        }
        bits.append("0".repeat(20));
        return Integer.parseInt(bits.substring(20 * content, 20 * content + 20), 2);
    }

    // "and then bits 0 until it is full": it is full without
    private static void textContentIsFull() {
        String signs = TWENTY.substring(0, 19);
        WakingPagers x = sent(1, signs);
        for (int k = 0; k < 7; k++) {
            due.is("place " + (k + 1), Net.wordAtPlace(x, k + 1), Net.messageWord(x, textContent(" " + signs, k)));
        }
        due.is("place 8", Net.wordAtPlace(x, 8), Net.IDLE);
    }

    // "and then bits 0 until it is full": in the midst of the last content
    private static void textContentIsFilled() {
        int[] lengths = {1, 2, 5, 20};
        for (int length : lengths) {
            String signs = TWENTY.substring(0, length);
            WakingPagers x = sent(1, signs);
            int last = (7 * length + 6) / 20;
            due.is("the last content of " + length, Net.wordAtPlace(x, last + 1), Net.messageWord(x, textContent(" " + signs, last)));
            due.is("the word behind it", Net.wordAtPlace(x, last + 2), Net.IDLE);
        }
    }

    /** The first content of the message with a number, the signs of which are all the same. */
    private static int contentOfNumber(int kind, int number, int sign) {
        WakingPagers x = Net.single(8, kind);
        for (int k = 0; k <= number; k++) {
            x.load(sign * 0x010101L, 3);
            x.call(0, 0);
            x.transmit(1);
        }
        return Net.wordAtPlace(x, 1);
    }

    // "numeric: the signs number / 10, number modulo 10 and then its own"
    private static void numbersAsDigits() {
        int[] numbers = {0, 1, 9, 10, 11, 19, 20, 59, 60, 63, 64, 73};
        for (int number : numbers) {
            int content = Net.digits(number % 64 / 10, number % 64 % 10, 11, 11, 11);
            due.is("content of number " + number, contentOfNumber(0, number, 11), code(1 << 20 | content));
        }
    }

    // "text: the signs 32 + number and then its own"
    private static void numbersAsText() {
        int[] numbers = {0, 1, 31, 32, 62, 63, 64, 65};
        for (int number : numbers) {
            int content = textContent((char) (32 + number % 64) + "zzz", 0);
            due.is("content of number " + number, contentOfNumber(1, number, 'z'), code(1 << 20 | content));
        }
    }

    // "Bit i of the transmission, from 0; NONE when there is none."
    private static void bitsThatAreNone() {
        for (int n = 1; n <= 4; n++) {
            WakingPagers x = new WakingPagers();
            due.is("bit(0) before", x.bit(0), NONE);
            int length = x.transmit(n);
            int[] none = {-1, -2, length, length + 1, length + 31, length + 544, MIN, MAX};
            for (int i : none) {
                due.is("bit(" + i + ") of " + n, x.bit(i), NONE);
            }
            due.is("bit(0)", x.bit(0), 1);
            due.is("bit(" + (length - 1) + ")", x.bit(length - 1), 1);
        }
    }

    // "Bit i of the transmission is changed on the air: ..; NONE when there is none."
    private static void flipsThatAreNone() {
        for (int n = 1; n <= 4; n++) {
            WakingPagers x = new WakingPagers();
            due.is("flip(0) before", x.flip(0), NONE);
            int length = x.transmit(n);
            int[] none = {-1, -2, length, length + 1, length + 31, length + 544, MIN, MAX};
            for (int i : none) {
                due.is("flip(" + i + ") of " + n, x.flip(i), NONE);
            }
            due.is("bit(0)", x.bit(0), 1);
            due.is("bit(" + (length - 1) + ")", x.bit(length - 1), 1);
        }
    }

    // "Bit i of the transmission is changed on the air": the first and the last
    private static void flipsAtTheEnds() {
        for (int n = 1; n <= 4; n++) {
            WakingPagers x = new WakingPagers();
            int length = x.transmit(n);
            due.is("flip(0)", x.flip(0), 0);
            due.is("bit(0)", x.bit(0), 0);
            due.is("bit(1)", x.bit(1), 0);
            due.is("flip(" + (length - 1) + ")", x.flip(length - 1), 0);
            due.is("bit(" + (length - 1) + ")", x.bit(length - 1), 0);
            due.is("bit(" + (length - 2) + ")", x.bit(length - 2), 1);
        }
    }

    // "what it is then": 0 or 1, and no other bit is changed, also where words meet
    private static void flipIsTheNewBit() {
        int[] bits = {31, 32, 63, 64, 95, 96, 127, 128, 575, 576};
        for (int i : bits) {
            WakingPagers x = new WakingPagers();
            x.transmit(1);
            int before = x.bit(i);
            int left = x.bit(i - 1);
            int right = x.bit(i + 1);
            due.is("flip(" + i + ")", x.flip(i), 1 - before);
            due.is("bit(" + i + ")", x.bit(i), 1 - before);
            due.is("bit(" + (i - 1) + ")", x.bit(i - 1), left);
            due.is("bit(" + (i + 1) + ")", x.bit(i + 1), right);
            due.is("flip(" + i + ") again", x.flip(i), before);
            due.is("bit(" + i + ")", x.bit(i), before);
        }
    }
}
