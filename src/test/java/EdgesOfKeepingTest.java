/** Promises 15 to 19 at their edges: each test has a sentence of the document above it. */
public final class EdgesOfKeepingTest {
    private static final Due due = new Due("EdgesOfKeepingTest");
    private static final int NONE = WakingPagers.NONE;
    private static final int MAX = Integer.MAX_VALUE;
    private static final int MIN = Integer.MIN_VALUE;
    private static final int LOST = 3;

    public static void main(String[] args) {
        noSignAtAll();
        wholeTextSigns();
        wholeNumericSigns();
        partOfASignIsGone();
        ofMoreThanTwentyTwoTextSigns();
        ofMoreThanTwentyTwoNumericSigns();
        numericNumbers();
        numericSignsThatAreNoNumber();
        textNumbers();
        twelvesAtTheEnd();
        twelvesBeforeTheEnd();
        nothingButTwelves();
        twelveAsTheLastOfTwentyTwo();
        zerosAtTheEnd();
        zerosBeforeTheEnd();
        nothingButZeros();
        numericZerosAndTextTwelvesStay();
        identityOfTheMessage();
        tenAreKept();
        ofElevenTheOldestIsGone();
        ofManyTheLatestTen();
        lostIsCountedAndNotKept();
        keptOfNoPager();
        messageOfNoPager();
        messageThatIsNone();
        messageOfNoWhat();
        signThatIsNone();
        eachPagerKeepsItsOwn();
        countOfNoPager();
        countOfNoWhat();
        countsGoOn();
        missedOfNoPager();
        missedOfWhatItDoesNotHear();
        missedIsEmptyAtFirst();
        firstNumberBecomesTheLatest();
        sameNumberAgain();
        everyStep();
        stepOfThirtyOne();
        stepOfThirtyTwo();
        stepBack();
        numbersBetweenAroundTheEnd();
        lastNumberIsMissed();
        lateNumberIsMissedNoMore();
        nextNumberIsMissedNoMore();
        missedNumberStaysMissed();
        markedNumberCounts();
        lostNumberDoesNotCount();
        eachIdentityHasItsOwnNumbers();
        due.end();
    }

    private static void keptIs(WakingPagers x, int k, String want) {
        String got = Net.keptAs(x, 0, k);
        due.holds("kept message " + k + " is " + want + " (it is " + got + ")", got.equals(want));
    }

    /** The contents of a numeric message with number 1 and then signs 0 .. 15 as hex digits. */
    private static int[] digitContents(String signs) {
        String all = "01" + signs;
        int[] contents = new int[all.length() / 5];
        for (int k = 0; k < contents.length; k++) {
            contents[k] = Net.digits(digit(all, 5 * k), digit(all, 5 * k + 1), digit(all, 5 * k + 2), digit(all, 5 * k + 3),
                    digit(all, 5 * k + 4));
        }
        return contents;
    }

    private static int digit(String digits, int k) {
        return Character.digit(digits.charAt(k), 16);
    }

    private static void numericIsKeptAs(String sent, String kept) {
        WakingPagers x = Net.onAir(0, digitContents(sent));
        due.is("hear of " + sent, x.hear(0, 0), 1);
        keptIs(x, 0, "0:1:" + kept);
        due.is("message(0, 0, 2)", x.message(0, 0, 2), kept.length());
        due.is("sign behind the last", x.sign(0, 0, kept.length()), NONE);
    }

    /** The signs of a text with number 5 are kept up to one of them. */
    private static void textIsKeptUpTo(int kept, int... signs) {
        int[] all = new int[signs.length + 1];
        all[0] = 32 + 5;
        System.arraycopy(signs, 0, all, 1, signs.length);
        WakingPagers x = Net.onAir(1, Net.textContents(all));
        due.is("hear(0, 0)", x.hear(0, 0), 1);
        due.is("message(0, 0, 1)", x.message(0, 0, 1), 5);
        due.is("message(0, 0, 2)", x.message(0, 0, 2), kept);
        for (int i = 0; i < kept; i++) {
            due.is("sign(0, 0, " + i + ")", x.sign(0, 0, i), signs[i]);
        }
        due.is("sign behind the last", x.sign(0, 0, kept), NONE);
    }

    // "its bits make signs as above, as many as are whole": none
    private static void noSignAtAll() {
        for (int kind = 0; kind < 2; kind++) {
            WakingPagers x = Net.onAir(kind);
            due.is("hear(0, 0)", x.hear(0, 0), 0);
            due.is("count(0, 3)", x.count(0, LOST), 1);
            due.is("kept(0)", x.kept(0), 0);
        }
    }

    // "its bits make signs as above, as many as are whole": what is left of a content is none
    private static void wholeTextSigns() {
        int[] signs = {2, 5, 8, 11, 14, 17, 20, 22};
        for (int words = 1; words <= 8; words++) {
            int[] contents = new int[words];
            for (int k = 0; k < words; k++) {
                contents[k] = 0xFFFFF;
            }
            // The first sign is 33, the number 1; all others are 127.
            contents[0] = 0x84000 | 0x1FFF;
            WakingPagers x = Net.onAir(1, contents);
            due.is("hear of " + words + " contents", x.hear(0, 0), 1);
            due.is("message(0, 0, 1)", x.message(0, 0, 1), 1);
            due.is("message(0, 0, 2)", x.message(0, 0, 2), signs[words - 1] - 1);
            due.is("the last sign", x.sign(0, 0, signs[words - 1] - 2), 127);
        }
    }

    // "its bits make signs as above, as many as are whole": numeric, five of each content
    private static void wholeNumericSigns() {
        numericIsKeptAs("234", "234");
        numericIsKeptAs("23456789", "23456789");
        numericIsKeptAs("2345678901234", "2345678901234");
        numericIsKeptAs("234567890123456789", "234567890123456789");
    }

    // "as many as are whole": the part that is left is not of the next message either
    private static void partOfASignIsGone() {
        WakingPagers x = Net.single(24, 1);
        // The number 1, a sign 127 and six bits 1 that make no sign; then the same message once more.
        x.transmit(2);
        for (int batch = 0; batch < 2; batch++) {
            Net.writeOverIdle(x, 16 * batch, Net.addressWord(x, 24, 1));
            Net.writeOverIdle(x, 16 * batch + 1, Net.messageWord(x, 0x84000 | 0x1FFF));
        }
        due.is("hear(0, 0)", x.hear(0, 0), 2);
        due.is("hear(0, 0) again", x.hear(0, 0), 2);
        for (int k = 0; k < 4; k++) {
            due.is("message(0, " + k + ", 1)", x.message(0, k, 1), 1);
            due.is("message(0, " + k + ", 2)", x.message(0, k, 2), 1);
            due.is("sign(0, " + k + ", 0)", x.sign(0, k, 0), 127);
        }
    }

    // "of more than 22 the first 22": of text the number and 21 more
    private static void ofMoreThanTwentyTwoTextSigns() {
        int[] signs = new int[24];
        for (int k = 0; k < 24; k++) {
            signs[k] = 40 + k;
        }
        textIsKeptUpTo(21, signs);
        int[] fitting = new int[21];
        System.arraycopy(signs, 0, fitting, 0, 21);
        textIsKeptUpTo(21, fitting);
    }

    // "of more than 22 the first 22": of numeric the number and 20 more
    private static void ofMoreThanTwentyTwoNumericSigns() {
        numericIsKeptAs("98765432109876543210123", "98765432109876543210");
        numericIsKeptAs("9876543210987654321012345678", "98765432109876543210");
        numericIsKeptAs("98765432109876543211ccc", "98765432109876543211");
    }

    private static int numberOf(int kind, int... contents) {
        WakingPagers x = Net.onAir(kind, contents);
        int answer = x.hear(0, 0);
        due.is("kept or lost", x.kept(0) + x.count(0, LOST), 1);
        due.is("kept(0)", x.kept(0), answer);
        return x.message(0, 0, 1);
    }

    // "Numeric: the first two .. make a number 0 .. 63"
    private static void numericNumbers() {
        for (int number = 0; number <= 99; number++) {
            int got = numberOf(0, Net.digits(number / 10, number % 10, 1, 1, 1));
            due.is("number " + number, got, number <= 63 ? number : NONE);
        }
    }

    // "the first two, both 9 or less": one of them is more, though ten times the first and the second make 0 .. 63
    private static void numericSignsThatAreNoNumber() {
        for (int more = 10; more <= 15; more++) {
            for (int other = 0; other <= 15; other++) {
                due.is("signs " + other + ", " + more, numberOf(0, Net.digits(other, more, 1, 1, 1)), NONE);
                due.is("signs " + more + ", " + other, numberOf(0, Net.digits(more, other, 1, 1, 1)), NONE);
            }
        }
    }

    // "text: the first one is from 32 to 95, which less 32 is the number"
    private static void textNumbers() {
        for (int sign = 0; sign < 128; sign++) {
            int got = numberOf(1, Net.textContents(sign, 'a'));
            due.is("first sign " + sign, got, sign >= 32 && sign <= 95 ? sign - 32 : NONE);
        }
    }

    // "signs 12 at the end are left out"
    private static void twelvesAtTheEnd() {
        numericIsKeptAs("2cc", "2");
        numericIsKeptAs("23c", "23");
        numericIsKeptAs("234ccccc", "234");
        numericIsKeptAs("234cccccccccc", "234");
    }

    // "signs 12 at the end are left out": not those before another sign
    private static void twelvesBeforeTheEnd() {
        numericIsKeptAs("cc2", "cc2");
        numericIsKeptAs("2cd", "2cd");
        numericIsKeptAs("cccccccfccccc", "cccccccf");
    }

    // "signs 12 at the end are left out": all that there are
    private static void nothingButTwelves() {
        numericIsKeptAs("ccc", "");
        numericIsKeptAs("cccccccc", "");
        numericIsKeptAs("ccccccccccccccccccccccc", "");
    }

    // "of more than 22 the first 22 .. and signs 12 at the end are left out": at the end of the 22
    private static void twelveAsTheLastOfTwentyTwo() {
        numericIsKeptAs("9876543210987654321c777", "9876543210987654321");
        numericIsKeptAs("987654321098765432cc777", "987654321098765432");
    }

    // "signs 0 at the end are left out"
    private static void zerosAtTheEnd() {
        textIsKeptUpTo(1, 'a');
        textIsKeptUpTo(1, 'a', 0, 0, 0, 0);
        textIsKeptUpTo(2, 'a', 'b', 0);
    }

    // "signs 0 at the end are left out": not those before another sign
    private static void zerosBeforeTheEnd() {
        textIsKeptUpTo(2, 0, 'b');
        textIsKeptUpTo(4, 'a', 0, 0, 1);
        textIsKeptUpTo(4, 'a', 0, 0, 127, 0);
    }

    // "signs 0 at the end are left out": all that there are
    private static void nothingButZeros() {
        textIsKeptUpTo(0);
        textIsKeptUpTo(0, 0, 0, 0, 0, 0, 0);
    }

    // "signs 12 at the end", "signs 0 at the end": each of its own kind alone
    private static void numericZerosAndTextTwelvesStay() {
        numericIsKeptAs("200", "200");
        numericIsKeptAs("000", "000");
        textIsKeptUpTo(4, 'a', 12, 12, 12);
    }

    // "The signs behind are kept, with identity, number and whether it is marked"
    private static void identityOfTheMessage() {
        WakingPagers x = new WakingPagers();
        x.pager();
        for (int k = 0; k < 12; k++) {
            x.identity(k, k % 2);
        }
        x.join(0, 11);
        x.join(0, 0);
        Net.callText(x, 11, 0, "z");
        Net.callDigits(x, 0, 0, "b");
        x.transmit(1);
        due.is("hear(0, 0)", x.hear(0, 0), 2);
        keptIs(x, 0, "0:0:b");
        keptIs(x, 1, "11:0:z");
    }

    private static WakingPagers keptSoMany(int many) {
        WakingPagers x = Net.single(8, 0);
        for (int k = 0; k < many; k++) {
            x.load(k % 10, 1);
            x.call(0, 0);
            x.transmit(1);
            due.is("hear of message " + k, x.hear(0, 0), 1);
            due.is("kept(0)", x.kept(0), Math.min(k + 1, 10));
        }
        return x;
    }

    // "of more than 10 kept ones the oldest is gone": ten are not more
    private static void tenAreKept() {
        WakingPagers x = keptSoMany(10);
        for (int k = 0; k < 10; k++) {
            keptIs(x, k, "0:" + k + ":" + k);
        }
        due.is("message(0, 10, 1)", x.message(0, 10, 1), NONE);
    }

    // "of more than 10 kept ones the oldest is gone": eleven are more
    private static void ofElevenTheOldestIsGone() {
        WakingPagers x = keptSoMany(11);
        for (int k = 0; k < 10; k++) {
            keptIs(x, k, "0:" + (k + 1) + ":" + (k + 1) % 10);
        }
        due.is("message(0, 10, 1)", x.message(0, 10, 1), NONE);
    }

    // "of more than 10 kept ones the oldest is gone": each time
    private static void ofManyTheLatestTen() {
        WakingPagers x = keptSoMany(33);
        for (int k = 0; k < 10; k++) {
            keptIs(x, k, "0:" + (k + 23) + ":" + (k + 23) % 10);
        }
        due.is("message(0, 10, 1)", x.message(0, 10, 1), NONE);
    }

    // "If there is no such number, it is LOST (counted)."
    private static void lostIsCountedAndNotKept() {
        WakingPagers x = Net.onAir(0, Net.digits(6, 4, 1, 1, 1));
        for (int k = 1; k <= 12; k++) {
            due.is("hear " + k, x.hear(0, 0), 0);
            due.is("count(0, 3)", x.count(0, LOST), k);
            due.is("kept(0)", x.kept(0), 0);
        }
        due.is("message(0, 0, 0)", x.message(0, 0, 0), NONE);
    }

    // "How many messages a pager has kept (10 at most); NONE when there is no such pager."
    private static void keptOfNoPager() {
        WakingPagers x = new WakingPagers();
        int[] none = {-1, 1, 5, 6, MIN, MAX};
        due.is("kept(0) before it is made", x.kept(0), NONE);
        x.pager();
        for (int pager : none) {
            due.is("kept(" + pager + ")", x.kept(pager), NONE);
        }
        due.is("kept(0) of a new pager", x.kept(0), 0);
    }

    // "NONE when there is none such": no such pager
    private static void messageOfNoPager() {
        WakingPagers x = keptSoMany(1);
        int[] none = {-1, 1, 5, 6, MIN, MAX};
        for (int pager : none) {
            for (int what = 0; what <= 3; what++) {
                due.is("message(" + pager + ", 0, " + what + ")", x.message(pager, 0, what), NONE);
            }
            due.is("sign(" + pager + ", 0, 0)", x.sign(pager, 0, 0), NONE);
        }
    }

    // "NONE when there is none such": no such kept message
    private static void messageThatIsNone() {
        int[] many = {0, 1, 9, 10, 12};
        for (int kept : many) {
            WakingPagers x = kept == 0 ? Net.single(8, 0) : keptSoMany(kept);
            int there = Math.min(kept, 10);
            int[] none = {-1, -10, there, there + 1, there + 10, MIN, MAX};
            for (int k : none) {
                for (int what = 0; what <= 3; what++) {
                    due.is("message(0, " + k + ", " + what + ")", x.message(0, k, what), NONE);
                }
                due.is("sign(0, " + k + ", 0)", x.sign(0, k, 0), NONE);
            }
        }
    }

    // "NONE when .. what is none of these"
    private static void messageOfNoWhat() {
        WakingPagers x = keptSoMany(2);
        int[] none = {-1, 4, 5, MIN, MAX};
        for (int what : none) {
            due.is("message(0, 1, " + what + ")", x.message(0, 1, what), NONE);
        }
        int[] want = {0, 1, 1, 0};
        for (int what = 0; what <= 3; what++) {
            due.is("message(0, 1, " + what + ")", x.message(0, 1, what), want[what]);
        }
    }

    // "Sign i (from 0) of a pager's kept message k; NONE when there is none."
    private static void signThatIsNone() {
        WakingPagers x = Net.onAir(0, digitContents("987cc654"));
        x.hear(0, 0);
        Net.putOnAir(x, 0, digitContents("1cc"));
        x.hear(0, 0);
        int[] none = {-1, 8, 9, 19, 20, 21, 22, MIN, MAX};
        for (int i : none) {
            due.is("sign(0, 0, " + i + ")", x.sign(0, 0, i), NONE);
            due.is("sign(0, 1, " + i + ")", x.sign(0, 1, i), NONE);
        }
        due.is("sign(0, 0, 7)", x.sign(0, 0, 7), 4);
        due.is("sign(0, 1, 0)", x.sign(0, 1, 0), 1);
        due.is("sign(0, 1, 1), of fewer signs", x.sign(0, 1, 1), NONE);
    }

    // "Of a pager's kept message k": not of another pager's
    private static void eachPagerKeepsItsOwn() {
        WakingPagers x = new WakingPagers();
        for (int k = 0; k < 6; k++) {
            x.pager();
            x.identity(k, 0);
            x.join(k, k);
            Net.callDigits(x, k, 0, "12345678".substring(0, k + 1));
        }
        x.transmit(4);
        for (int k = 0; k < 6; k++) {
            due.is("hear(" + k + ", 0)", x.hear(k, 0), 1);
        }
        for (int k = 0; k < 6; k++) {
            due.is("message(" + k + ", 0, 0)", x.message(k, 0, 0), k);
            due.is("message(" + k + ", 0, 2)", x.message(k, 0, 2), k + 1);
            due.is("sign(" + k + ", 0, " + k + ")", x.sign(k, 0, k), k + 1);
            due.is("kept(" + k + ")", x.kept(k), 1);
        }
    }

    // "NONE when there is no such pager, or what is none of these": no such pager
    private static void countOfNoPager() {
        WakingPagers x = new WakingPagers();
        x.pager();
        int[] none = {-1, 1, 5, 6, MIN, MAX};
        for (int what = 0; what <= 3; what++) {
            for (int pager : none) {
                due.is("count(" + pager + ", " + what + ")", x.count(pager, what), NONE);
            }
            due.is("count(0, " + what + ") of a new pager", x.count(0, what), 0);
        }
    }

    // "NONE when there is no such pager, or what is none of these": no such what
    private static void countOfNoWhat() {
        WakingPagers x = keptSoMany(1);
        int[] none = {-1, 4, 5, MIN, MAX};
        for (int what : none) {
            due.is("count(0, " + what + ")", x.count(0, what), NONE);
        }
    }

    // "Of a pager: what = 0 for how many bits it was awake ..": of all that it listened to, and it alone
    private static void countsGoOn() {
        WakingPagers x = Net.onAir(0, Net.digits(6, 4, 1, 1, 1));
        x.pager();
        Net.damagePlace(x, 1, 2);
        Net.damagePlace(x, 2, 3);
        int[] want = {96 + 96, 2, 1, 1};
        for (int k = 1; k <= 3; k++) {
            x.hear(0, 0);
            for (int what = 0; what <= 3; what++) {
                due.is("count(0, " + what + "), " + k + " times", x.count(0, what), k * want[what]);
                due.is("count(1, " + what + ")", x.count(1, what), 0);
            }
        }
    }

    /** The pager hears a message of a number, written on the air as if it had been called. */
    private static void hearNumber(WakingPagers x, int number) {
        Net.putOnAir(x, 0, Net.digits(number / 10, number % 10, 1, 12, 12));
        due.is("hear of number " + number, x.hear(0, 0), 1);
    }

    private static long missedAfter(int... numbers) {
        WakingPagers x = Net.single(24, 0);
        for (int number : numbers) {
            hearNumber(x, number);
        }
        return x.missed(0, 0);
    }

    private static long bits(int... numbers) {
        long set = 0;
        for (int k : numbers) {
            set |= 1L << k;
        }
        return set;
    }

    // "0 when there is no such pager or it does not hear it": no such pager
    private static void missedOfNoPager() {
        WakingPagers x = Net.single(24, 0);
        hearNumber(x, 0);
        hearNumber(x, 2);
        int[] none = {-1, 1, 5, 6, MIN, MAX};
        for (int pager : none) {
            due.is("missed(" + pager + ", 0)", x.missed(pager, 0), 0);
        }
        due.is("missed(0, 0)", x.missed(0, 0), bits(1));
    }

    // "0 when there is no such pager or it does not hear it": it does not, or there is no such identity
    private static void missedOfWhatItDoesNotHear() {
        WakingPagers x = Net.single(24, 0);
        x.identity(32, 0);
        hearNumber(x, 0);
        hearNumber(x, 2);
        int[] none = {-1, 1, 2, 11, 12, MIN, MAX};
        for (int identity : none) {
            due.is("missed(0, " + identity + ")", x.missed(0, identity), 0);
        }
        due.is("missed(0, 0)", x.missed(0, 0), bits(1));
    }

    // "a pager has a set of numbers, empty at first"
    private static void missedIsEmptyAtFirst() {
        WakingPagers x = Net.single(24, 0);
        due.is("missed(0, 0) before all", x.missed(0, 0), 0);
        for (int k = 0; k < 3; k++) {
            Net.callDigits(x, 0, 0, "1");
            x.transmit(1);
        }
        due.is("missed(0, 0): it has not listened", x.missed(0, 0), 0);
        due.is("hear(0, 0) of number 2", x.hear(0, 0), 1);
        due.is("missed(0, 0): those before the first are not missed", x.missed(0, 0), 0);
    }

    // "without a latest one k becomes it"
    private static void firstNumberBecomesTheLatest() {
        int[] firsts = {0, 1, 31, 32, 40, 62, 63};
        for (int first : firsts) {
            due.is("missed behind " + first, missedAfter(first), 0);
            due.is("missed behind " + first + " and two further", missedAfter(first, (first + 2) % 64), bits((first + 1) % 64));
        }
    }

    // "if m is 1 to 31": m is 0
    private static void sameNumberAgain() {
        due.is("missed behind 7, 7", missedAfter(7, 7), 0);
        due.is("missed behind 7, 7, 8", missedAfter(7, 7, 8), 0);
        due.is("missed behind 5, 7, 7", missedAfter(5, 7, 7), bits(6));
        due.is("missed behind 5, 7, 7, 9", missedAfter(5, 7, 7, 9), bits(6, 8));
    }

    // "if m is 1 to 31, all m - 1 numbers between (modulo 64) are missed, and k is the latest"
    private static void everyStep() {
        int[] firsts = {0, 20, 45, 63};
        for (int first : firsts) {
            for (int m = 0; m < 64; m++) {
                boolean forward = m >= 1 && m <= 31;
                long want = 0;
                for (int k = 1; k < m && forward; k++) {
                    want |= 1L << (first + k) % 64;
                }
                int second = (first + m) % 64;
                due.is("missed behind " + first + ", " + second, missedAfter(first, second), want);
                // Two further than the latest one, there is one between.
                int latest = forward ? second : first;
                want |= 1L << (latest + 1) % 64;
                int third = (latest + 2) % 64;
                want &= ~(1L << third);
                due.is("missed behind a third, " + third, missedAfter(first, second, third), want);
            }
        }
    }

    // "if m is 1 to 31": the greatest step
    private static void stepOfThirtyOne() {
        due.is("missed behind 0, 31", missedAfter(0, 31), 0x7FFFFFFEL);
        due.is("missed behind 40, 7", missedAfter(40, 7), 0xFFFFFE000000007FL);
        due.is("31 is the latest", missedAfter(0, 31, 33), 0x7FFFFFFEL | 1L << 32);
    }

    // "if m is 1 to 31": one more is no step
    private static void stepOfThirtyTwo() {
        due.is("missed behind 0, 32", missedAfter(0, 32), 0);
        due.is("0 is the latest", missedAfter(0, 32, 2), bits(1));
        due.is("missed behind 40, 8", missedAfter(40, 8), 0);
        due.is("40 is the latest", missedAfter(40, 8, 42), bits(41));
    }

    // "if m is 1 to 31": 63 is one back
    private static void stepBack() {
        due.is("missed behind 5, 4", missedAfter(5, 4), 0);
        due.is("5 is the latest", missedAfter(5, 4, 6), 0);
        due.is("missed behind 0, 63", missedAfter(0, 63), 0);
        due.is("0 is the latest", missedAfter(0, 63, 1), 0);
    }

    // "all m - 1 numbers between (modulo 64) are missed": those before and behind the end
    private static void numbersBetweenAroundTheEnd() {
        due.is("missed behind 61, 2", missedAfter(61, 2), bits(62, 63, 0, 1));
        due.is("missed behind 63, 0", missedAfter(63, 0), 0);
        due.is("missed behind 63, 1", missedAfter(63, 1), bits(0));
        due.is("missed behind 62, 1, 63", missedAfter(62, 1, 63), bits(0));
    }

    // "bit k for k": the highest bit too
    private static void lastNumberIsMissed() {
        due.is("missed behind 62, 0", missedAfter(62, 0), Long.MIN_VALUE);
        due.is("missed behind 31, 33", missedAfter(31, 33), 1L << 32);
        due.is("missed behind 30, 32", missedAfter(30, 32), 1L << 31);
    }

    // "in any case k itself is not missed any more": it comes late, and the latest stays
    private static void lateNumberIsMissedNoMore() {
        due.is("missed behind 2, 6, 4", missedAfter(2, 6, 4), bits(3, 5));
        due.is("missed behind 2, 6, 4, 7", missedAfter(2, 6, 4, 7), bits(3, 5));
        due.is("missed behind 2, 6, 5, 3, 4", missedAfter(2, 6, 5, 3, 4), 0);
        due.is("missed behind 62, 0, 63", missedAfter(62, 0, 63), 0);
    }

    // "in any case k itself is not missed any more": it comes as the next one, a turn later
    private static void nextNumberIsMissedNoMore() {
        WakingPagers x = Net.single(24, 0);
        int[] numbers = {0, 2, 30, 60};
        for (int number : numbers) {
            hearNumber(x, number);
        }
        due.is("number 1 is missed", x.missed(0, 0) & 2, 2);
        hearNumber(x, 1);
        due.is("number 1 is missed no more", x.missed(0, 0) & 2, 0);
        due.is("numbers between are", x.missed(0, 0) & bits(61, 62, 63, 0), bits(61, 62, 63, 0));
        hearNumber(x, 3);
        due.is("1 was the latest, 2 is between", x.missed(0, 0) & bits(1, 2, 3), bits(2));
    }

    // "all m - 1 numbers between (modulo 64) are missed": also those that are missed already
    private static void missedNumberStaysMissed() {
        WakingPagers x = Net.single(24, 0);
        int[] numbers = {0, 2, 30, 60, 3};
        for (int number : numbers) {
            hearNumber(x, number);
        }
        due.is("numbers 0 to 3", x.missed(0, 0) & 15, bits(0, 1, 2));
        due.is("numbers 4 to 29 of the turn before", x.missed(0, 0) & bits(4, 29, 30, 31, 59, 60, 61), bits(4, 29, 31, 59, 61));
    }

    // "When a message of it is kept with number k": also a marked one
    private static void markedNumberCounts() {
        WakingPagers x = Net.single(24, 0);
        hearNumber(x, 3);
        Net.putOnAir(x, 0, Net.digits(0, 6, 1, 1, 1), 0);
        Net.damagePlace(x, 2, 3);
        due.is("hear(0, 0)", x.hear(0, 0), 1);
        due.is("it is marked", x.message(0, 1, 3), 1);
        due.is("missed(0, 0)", x.missed(0, 0), bits(4, 5));
    }

    // "When a message of it is kept with number k": not one that is lost
    private static void lostNumberDoesNotCount() {
        WakingPagers x = Net.single(24, 0);
        hearNumber(x, 3);
        Net.putOnAir(x, 0, Net.digits(6, 4, 1, 1, 1));
        due.is("hear of a lost one", x.hear(0, 0), 0);
        due.is("missed(0, 0)", x.missed(0, 0), 0);
        hearNumber(x, 5);
        due.is("missed(0, 0): 3 was the latest", x.missed(0, 0), bits(4));
    }

    // "for each identity that it hears a pager has a set of numbers .. and perhaps a number that was LATEST"
    private static void eachIdentityHasItsOwnNumbers() {
        WakingPagers x = new WakingPagers();
        x.pager();
        x.pager();
        for (int k = 0; k < 4; k++) {
            x.identity(2 * k, k % 2);
            x.join(0, k);
        }
        x.join(1, 3);
        for (int k = 0; k < 7; k++) {
            for (int identity = 0; identity < 4; identity++) {
                x.load(identity % 2 == 0 ? 1 : 'a', 1);
                x.call(identity, 0);
            }
            x.transmit(1);
            if (k % 3 == 0) {
                // A broken address word: each time another identity hears nothing.
                Net.damagePlace(x, 4 * (k / 3), 3);
                due.is("hear(0, 0)", x.hear(0, 0), 3);
            }
        }
        due.is("hear(1, 0)", x.hear(1, 0), 1);
        due.is("missed(0, 0)", x.missed(0, 0), bits(4, 5));
        due.is("missed(0, 1)", x.missed(0, 1), bits(1, 2, 3, 4, 5));
        due.is("missed(0, 2)", x.missed(0, 2), bits(1, 2));
        due.is("missed(0, 3)", x.missed(0, 3), bits(1, 2, 4, 5));
        due.is("missed(1, 3)", x.missed(1, 3), 0);
    }
}
