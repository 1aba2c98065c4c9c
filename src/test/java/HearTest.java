/** Promises 14 to 17 and 19: hear, kept, message, sign, count. */
public final class HearTest {
    private static final Due due = new Due("HearTest");
    private static final int NONE = WakingPagers.NONE;
    private static final int AWAKE = 0;
    private static final int REPAIRED = 1;
    private static final int BROKEN = 2;
    private static final int LOST = 3;

    public static void main(String[] args) {
        wrongHears();
        hearsAndSleeps();
        startsAnywhere();
        syncWithWrongBits();
        lostSyncEndsTheMessage();
        lostMessageDoesNotGoOn();
        huntsAnewFromEmpty();
        syncOffTheGrid();
        tooFewBitsForAWord();
        repairsAreCounted();
        brokenWordMarks();
        brokenWordsOutsideMessages();
        sameWordInOtherFrames();
        nextMessageEndsTheLast();
        messageWithoutContentIsLost();
        numbersThatAreNone();
        fillersAtTheEnd();
        atMostTwentyTwoSigns();
        keepsTheLatestTen();
        marksGoWithTheOldest();
        wrongQuestions();
        due.end();
    }

    private static void keptIs(WakingPagers x, int pager, int k, String want) {
        String got = Net.keptAs(x, pager, k);
        due.holds("kept message " + k + " is " + want + " (it is " + got + ")", got.equals(want));
    }

    private static void countsAre(WakingPagers x, int awake, int repaired, int broken, int lost) {
        due.is("count(0, 0)", x.count(0, AWAKE), awake);
        due.is("count(0, 1)", x.count(0, REPAIRED), repaired);
        due.is("count(0, 2)", x.count(0, BROKEN), broken);
        due.is("count(0, 3)", x.count(0, LOST), lost);
    }

    private static void wrongHears() {
        WakingPagers x = Net.single(1, 0);
        due.is("hear without a transmission", x.hear(0, 0), NONE);
        x.transmit(1);
        due.is("hear(1, 0)", x.hear(1, 0), NONE);
        due.is("hear(-1, 0)", x.hear(-1, 0), NONE);
        due.is("hear(0, -1)", x.hear(0, -1), NONE);
        due.is("hear(0, 608)", x.hear(0, 608), NONE);
        due.is("count(0, 0)", x.count(0, AWAKE), 0);
        due.is("hear(0, 607)", x.hear(0, 607), 0);
        due.is("count(0, 0)", x.count(0, AWAKE), 1);
    }

    private static void hearsAndSleeps() {
        WakingPagers x = Net.single(8 * 5 + 3, 1);
        x.pager();
        x.identity(8 * 5 + 6, 1);
        x.join(1, 1);
        x.pager();
        Net.callText(x, 0, 0, "wake up");
        x.transmit(2);
        due.is("hear(0, 0)", x.hear(0, 0), 1);
        keptIs(x, 0, 0, "0:0:wake up");
        // 96 bits of hunting, the sync, two frames, and two words more of content, one behind it.
        countsAre(x, 96 + 32 + 4 * 32 + 3 * 32, 0, 0, 0);
        due.is("hear(1, 0)", x.hear(1, 0), 0);
        due.is("count(1, 0)", x.count(1, AWAKE), 96 + 32 + 4 * 32);
        due.is("hear(2, 0), which hears nothing", x.hear(2, 0), 0);
        due.is("count(2, 0)", x.count(2, AWAKE), 96 + 32);
        due.is("kept(0)", x.kept(0), 1);
        due.is("kept(1)", x.kept(1), 0);
    }

    private static void startsAnywhere() {
        WakingPagers x = Net.single(0, 0);
        Net.callDigits(x, 0, 0, "1");
        Net.callDigits(x, 0, 0, "2");
        x.transmit(2);
        due.is("hear from the sync's first bit", x.hear(0, 64), 2);
        due.is("hear from behind it", x.hear(0, 65), 1);
        keptIs(x, 0, 2, "0:1:2");
        due.is("hear from the second sync", x.hear(0, 608), 1);
        due.is("hear from behind that", x.hear(0, 609), 0);
    }

    private static void syncWithWrongBits() {
        WakingPagers x = Net.single(0, 0);
        Net.callDigits(x, 0, 0, "1");
        Net.callDigits(x, 0, 0, "2");
        x.transmit(2);
        x.flip(64);
        x.flip(95);
        x.flip(620);
        x.flip(630);
        due.is("hear with two wrong bits in each sync", x.hear(0, 0), 2);
        countsAre(x, 96 + 3 * 32 + 32 + 3 * 32, 0, 0, 0);
        x.flip(80);
        due.is("hear with three wrong in the first", x.hear(0, 0), 1);
        due.is("hear found the second", x.message(0, 2, 1), 1);
        due.is("count(0, 0)", x.count(0, AWAKE), 320 + 640 + 3 * 32);
        x.flip(80);
        x.flip(625);
        due.is("hear with three wrong in the second", x.hear(0, 0), 1);
        due.is("hear found the first", x.message(0, 3, 1), 0);
        due.is("count(0, 0)", x.count(0, AWAKE), 320 + 736 + 96 + 3 * 32 + 32 + 512);
    }

    private static void lostSyncEndsTheMessage() {
        WakingPagers x = Net.single(7, 1);
        Net.callText(x, 0, 0, "abcdef");
        x.transmit(2);
        due.is("hear across the sync", x.hear(0, 0), 1);
        keptIs(x, 0, 0, "0:0:abcdef");
        x.flip(608);
        x.flip(609);
        x.flip(610);
        due.is("hear without the sync", x.hear(0, 0), 1);
        // Content bits: 20, so the number's sign and one whole sign more.
        keptIs(x, 0, 1, "0:0:a");
        due.is("it hunted to the end", x.count(0, AWAKE), 96 + 2 * 32 + 32 + 3 * 32 + 2 * 32 + 96 + 2 * 32 + 32 + 512);
    }

    private static void lostMessageDoesNotGoOn() {
        WakingPagers x = Net.single(8 * 6 + 7, 0);
        Net.callDigits(x, 0, 0, "12345678");
        x.transmit(3);
        for (int k = 0; k < 5; k++) {
            x.flip(608 + 3 * k);
        }
        // A message word where the third batch begins, of which the message must not have more.
        Net.writeOverIdle(x, 32, Net.messageWord(x, Net.digits(7, 7, 7, 7, 7)));
        due.is("hear(0, 0)", x.hear(0, 0), 1);
        keptIs(x, 0, 0, "0:0:123");
        due.is("it sleeps in the third batch till frame 7", x.count(0, AWAKE), 96 + 64 + 32 + 544 + 64);
    }

    private static void huntsAnewFromEmpty() {
        WakingPagers x = Net.single(0, 0);
        x.transmit(2);
        // The second sync is lost; all of SYNC but its first bit stands right behind it.
        Net.write(x, 608, 0);
        Net.write(x, 640, Net.SYNC << 1);
        due.is("hear(0, 0)", x.hear(0, 0), 0);
        due.is("31 bits are no sync", x.count(0, AWAKE), 96 + 2 * 32 + 32 + 512);
        // Nor do the bits of the lost sync count, though SYNC begins in them.
        WakingPagers y = Net.single(0, 0);
        y.transmit(2);
        Net.write(y, 608, Net.SYNC >>> 8);
        Net.write(y, 640, Net.SYNC << 24);
        due.is("hear(0, 0)", y.hear(0, 0), 0);
        due.is("a sync across both is none", y.count(0, AWAKE), 96 + 2 * 32 + 32 + 512);
    }

    private static void syncOffTheGrid() {
        WakingPagers x = Net.single(8 * 40, 0);
        x.transmit(1);
        // A sync inside the preamble, with an address word and a content behind it.
        Net.write(x, 13, Net.SYNC);
        Net.write(x, 45, Net.addressWord(x, 8 * 40, 0));
        Net.write(x, 77, Net.messageWord(x, Net.digits(0, 7, 3, 12, 12)));
        Net.write(x, 109, Net.IDLE);
        due.is("hear(0, 0)", x.hear(0, 0), 1);
        keptIs(x, 0, 0, "0:7:3");
        // 45 + 16 * 32 = 557: a sync of 32 bits is taken there, and 19 bits are hunted through.
        countsAre(x, 45 + 3 * 32 + 32 + 19, 0, 0, 0);
    }

    private static void tooFewBitsForAWord() {
        WakingPagers x = Net.single(8 * 40 + 7, 0);
        x.transmit(1);
        // Words from bit 110 on: 15 of them are whole, and 18 bits are left of the last one.
        Net.write(x, 78, Net.SYNC);
        Net.write(x, 110 + 14 * 32, Net.addressWord(x, 8 * 40 + 7, 0));
        due.is("hear(0, 70)", x.hear(0, 70), 0);
        countsAre(x, 40 + 32, 0, 0, 1);
        WakingPagers y = Net.single(8 * 40, 0);
        y.transmit(1);
        // The sync ends 5 bits before the last one.
        Net.write(y, 571, Net.SYNC);
        due.is("hear(0, 540)", y.hear(0, 540), 0);
        countsAre(y, 63, 0, 0, 0);
        WakingPagers z = Net.single(8 * 40 + 1, 0);
        z.transmit(1);
        // It sleeps through frame 0, of which only one word is there.
        Net.write(z, 530, Net.SYNC);
        due.is("hear(0, 520)", z.hear(0, 520), 0);
        countsAre(z, 42, 0, 0, 0);
    }

    private static void repairsAreCounted() {
        WakingPagers x = Net.single(8 * 11 + 2, 0);
        Net.callDigits(x, 0, 0, "123");
        x.transmit(1);
        x.flip(Net.bitOfPlace(4) + 31);
        x.flip(Net.bitOfPlace(5));
        x.flip(Net.bitOfPlace(5) + 17);
        x.flip(Net.bitOfPlace(6) + 4);
        x.flip(Net.bitOfPlace(8) + 4);
        x.flip(Net.bitOfPlace(0) + 4);
        due.is("hear(0, 0)", x.hear(0, 0), 1);
        keptIs(x, 0, 0, "0:0:123");
        countsAre(x, 96 + 3 * 32, 4, 0, 0);
        due.is("the transmission is as it was", x.bit(Net.bitOfPlace(5)), 0);
    }

    private static void breakPlace(WakingPagers x, int place) {
        for (int k = 0; k < 3; k++) {
            x.flip(Net.bitOfPlace(place) + 10 * k);
        }
    }

    private static void brokenWordMarks() {
        WakingPagers x = Net.single(8 * 11 + 1, 1);
        Net.callText(x, 0, 0, "abcdefgh");
        x.transmit(1);
        breakPlace(x, 4);
        due.is("hear(0, 0)", x.hear(0, 0), 1);
        keptIs(x, 0, 0, "0:0!:a");
        due.is("message(0, 0, 3)", x.message(0, 0, 3), 1);
        // It slept behind the broken word.
        countsAre(x, 96 + 3 * 32, 0, 1, 0);
        breakPlace(x, 4);
        due.is("hear again, without wrong bits", x.hear(0, 0), 1);
        keptIs(x, 0, 1, "0:0:abcdefgh");
        due.is("message(0, 1, 3)", x.message(0, 1, 3), 0);
    }

    private static void brokenWordsOutsideMessages() {
        WakingPagers x = Net.single(8 * 11 + 1, 1);
        Net.callText(x, 0, 0, "abc");
        x.transmit(1);
        breakPlace(x, 2);
        due.is("hear with a broken address word", x.hear(0, 0), 0);
        countsAre(x, 96 + 2 * 32, 0, 1, 0);
        breakPlace(x, 2);
        breakPlace(x, 3);
        due.is("hear with a broken first content", x.hear(0, 0), 0);
        countsAre(x, 2 * (96 + 2 * 32), 0, 2, 1);
        breakPlace(x, 9);
        due.is("hear with a broken word that it sleeps through", x.hear(0, 0), 0);
        due.is("count(0, 2)", x.count(0, BROKEN), 3);
    }

    private static void sameWordInOtherFrames() {
        WakingPagers x = new WakingPagers();
        x.identity(8 * 20 + 1, 0);
        x.identity(8 * 20 + 4, 0);
        x.identity(8 * 21 + 4, 0);
        x.pager();
        x.join(0, 0);
        x.join(0, 2);
        Net.callDigits(x, 1, 0, "9");
        Net.callDigits(x, 0, 0, "8");
        x.transmit(1);
        due.is("hear(0, 0): the word of frame 4 is not its own", x.hear(0, 0), 1);
        keptIs(x, 0, 0, "0:0:8");
        x.join(0, 1);
        due.is("hear(0, 0) with both", x.hear(0, 0), 2);
        keptIs(x, 0, 1, "0:0:8");
        keptIs(x, 0, 2, "1:0:9");
        // An identity of the other kind has another word.
        WakingPagers y = Net.single(8 * 20 + 1, 1);
        y.transmit(1);
        Net.writePlace(y, 2, Net.addressWord(y, 8 * 20 + 1, 0));
        Net.writePlace(y, 3, Net.messageWord(y, 0));
        due.is("hear(0, 0)", y.hear(0, 0), 0);
        countsAre(y, 96 + 64, 0, 0, 0);
    }

    private static void nextMessageEndsTheLast() {
        WakingPagers x = new WakingPagers();
        x.identity(8 * 3 + 1, 0);
        x.identity(8 * 4 + 2, 1);
        x.pager();
        x.join(0, 0);
        x.join(0, 1);
        Net.callDigits(x, 0, 3, "5");
        Net.callText(x, 1, 0, "hi");
        x.transmit(1);
        due.is("hear(0, 0)", x.hear(0, 0), 2);
        keptIs(x, 0, 0, "0:0:5");
        keptIs(x, 0, 1, "1:0:hi");
        // The word of an identity of another frame ends a message, and begins none.
        Net.writePlace(x, 3, Net.addressWord(x, 8 * 4 + 2, 1));
        due.is("hear(0, 0)", x.hear(0, 0), 1);
        due.is("count(0, 3)", x.count(0, LOST), 1);
        // The end of the transmission ends a message too.
        WakingPagers y = Net.single(8 * 3 + 7, 0);
        Net.callDigits(y, 0, 0, "5");
        y.transmit(1);
        due.is("hear(0, 0)", y.hear(0, 0), 1);
        keptIs(y, 0, 0, "0:0:5");
    }

    private static void messageWithoutContentIsLost() {
        WakingPagers x = Net.single(8 * 3 + 1, 0);
        x.transmit(1);
        Net.writePlace(x, 2, Net.addressWord(x, 8 * 3 + 1, 0));
        due.is("hear(0, 0)", x.hear(0, 0), 0);
        countsAre(x, 96 + 64, 0, 0, 1);
        Net.writePlace(x, 3, Net.addressWord(x, 8 * 3 + 1, 0));
        due.is("hear of two of them", x.hear(0, 0), 0);
        due.is("count(0, 3)", x.count(0, LOST), 3);
        due.is("missed(0, 0)", x.missed(0, 0), 0);
    }

    private static int hearContent(int kind, int... contents) {
        WakingPagers x = Net.single(8 * 3, kind);
        x.transmit(1);
        Net.writePlace(x, 0, Net.addressWord(x, 8 * 3, kind));
        for (int k = 0; k < contents.length; k++) {
            Net.writePlace(x, 1 + k, Net.messageWord(x, contents[k]));
        }
        int answer = x.hear(0, 0);
        due.is("lost or kept", x.count(0, LOST) + x.kept(0), 1);
        due.is("kept(0)", x.kept(0), answer);
        return answer == 0 ? NONE : x.message(0, 0, 1);
    }

    private static void numbersThatAreNone() {
        due.is("number 63", hearContent(0, Net.digits(6, 3, 1, 1, 1)), 63);
        due.is("number 64", hearContent(0, Net.digits(6, 4, 1, 1, 1)), NONE);
        due.is("number 99", hearContent(0, Net.digits(9, 9, 1, 1, 1)), NONE);
        due.is("signs 0, 10", hearContent(0, Net.digits(0, 10, 1, 1, 1)), NONE);
        due.is("signs 10, 0", hearContent(0, Net.digits(10, 0, 1, 1, 1)), NONE);
        due.is("signs 5, 13", hearContent(0, Net.digits(5, 13, 1, 1, 1)), NONE);
        due.is("signs 12, 12", hearContent(0, Net.digits(12, 12, 12, 12, 12)), NONE);
        due.is("number 9", hearContent(0, Net.digits(0, 9, 12, 12, 12)), 9);
        for (int sign = 0; sign < 128; sign += 1) {
            int content = Integer.reverse(sign) >>> 25 << 13;
            due.is("text number of sign " + sign, hearContent(1, content), sign >= 32 && sign <= 95 ? sign - 32 : NONE);
        }
    }

    private static void fillersAtTheEnd() {
        WakingPagers x = Net.single(8 * 3, 0);
        x.transmit(1);
        Net.writePlace(x, 0, Net.addressWord(x, 8 * 3, 0));
        Net.writePlace(x, 1, Net.messageWord(x, Net.digits(1, 2, 12, 15, 12)));
        due.is("hear(0, 0)", x.hear(0, 0), 1);
        keptIs(x, 0, 0, "0:12:cf");
        Net.writePlace(x, 2, Net.messageWord(x, Net.digits(12, 12, 12, 12, 12)));
        due.is("hear(0, 0)", x.hear(0, 0), 1);
        keptIs(x, 0, 1, "0:12:cf");
        Net.writePlace(x, 1, Net.messageWord(x, Net.digits(1, 2, 12, 12, 12)));
        due.is("hear(0, 0)", x.hear(0, 0), 1);
        keptIs(x, 0, 2, "0:12:");
        due.is("message(0, 2, 2)", x.message(0, 2, 2), 0);
        due.is("sign(0, 2, 0)", x.sign(0, 2, 0), NONE);
        Net.writePlace(x, 2, Net.messageWord(x, Net.digits(12, 0, 0, 0, 0)));
        due.is("hear(0, 0): signs 0 stay", x.hear(0, 0), 1);
        keptIs(x, 0, 3, "0:12:cccc0000");
    }

    private static void atMostTwentyTwoSigns() {
        WakingPagers x = Net.single(8 * 3, 1);
        x.transmit(1);
        Net.writeOverIdle(x, 0, Net.addressWord(x, 8 * 3, 1));
        // The first sign is 33, the number 1.
        Net.writeOverIdle(x, 1, Net.messageWord(x, 0x84000 | 0x1FFF));
        for (int place = 2; place < 10; place++) {
            Net.writeOverIdle(x, place, Net.messageWord(x, 0xFFFFF));
        }
        due.is("hear of 25 text signs", x.hear(0, 0), 1);
        due.is("number", x.message(0, 0, 1), 1);
        due.is("how many signs", x.message(0, 0, 2), 21);
        due.is("sign 20", x.sign(0, 0, 20), 127);
        due.is("sign 21", x.sign(0, 0, 21), NONE);
        WakingPagers y = Net.single(8 * 3 + 1, 0);
        y.transmit(1);
        Net.writeOverIdle(y, 2, Net.addressWord(y, 8 * 3 + 1, 0));
        for (int place = 3; place < 9; place++) {
            int content = place == 7 ? Net.digits(7, 12, 7, 7, 7) : Net.digits(2, 1, 7, 7, 7);
            Net.writeOverIdle(y, place, Net.messageWord(y, content));
        }
        due.is("hear of 30 numeric signs", y.hear(0, 0), 1);
        due.is("number", y.message(0, 0, 1), 21);
        due.is("the 22nd sign is 12, at the end, and left out", y.message(0, 0, 2), 19);
        due.is("sign 18", y.sign(0, 0, 18), 7);
        due.is("sign 19", y.sign(0, 0, 19), NONE);
    }

    private static void keepsTheLatestTen() {
        WakingPagers x = new WakingPagers();
        x.pager();
        for (int k = 0; k < 4; k++) {
            x.identity(8 + 2 * k, 0);
            x.join(0, k);
        }
        for (int k = 0; k < 12; k++) {
            Net.callDigits(x, k % 4, 0, "12345678".substring(0, 3 - k % 3));
        }
        x.transmit(3);
        due.is("waiting()", x.waiting(), 0);
        due.is("hear(0, 0) keeps more than there are in the end", x.hear(0, 0), 12);
        due.is("kept(0)", x.kept(0), 10);
        for (int k = 0; k < 10; k++) {
            keptIs(x, 0, k, (k + 2) % 4 + ":" + (k + 2) / 4 + ":" + "123".substring(0, 3 - (k + 2) % 3));
        }
        due.is("message(0, 10, 0)", x.message(0, 10, 0), NONE);
        x.transmit(1);
        Net.callDigits(x, 3, 0, "7");
        x.transmit(1);
        due.is("hear(0, 0)", x.hear(0, 0), 1);
        due.is("kept(0)", x.kept(0), 10);
        keptIs(x, 0, 0, "3:0:123");
        keptIs(x, 0, 9, "3:3:7");
    }

    private static void marksGoWithTheOldest() {
        WakingPagers x = Net.single(8, 1);
        Net.callText(x, 0, 0, "abcd");
        x.transmit(1);
        breakPlace(x, 2);
        due.is("hear(0, 0)", x.hear(0, 0), 1);
        due.is("message(0, 0, 3)", x.message(0, 0, 3), 1);
        breakPlace(x, 2);
        for (int k = 1; k < 13; k++) {
            due.is("hear " + k, x.hear(0, 0), 1);
            due.is("message " + Math.min(k, 9) + " is marked", x.message(0, Math.min(k, 9), 3), 0);
            due.is("message 0 is marked", x.message(0, 0, 3), k < 10 ? 1 : 0);
        }
    }

    private static void wrongQuestions() {
        WakingPagers x = Net.single(1, 0);
        Net.callDigits(x, 0, 0, "45");
        x.transmit(1);
        x.hear(0, 0);
        due.is("message(0, 0, 2)", x.message(0, 0, 2), 2);
        due.is("message(0, 0, 4)", x.message(0, 0, 4), NONE);
        due.is("message(0, 0, -1)", x.message(0, 0, -1), NONE);
        due.is("message(0, 1, 0)", x.message(0, 1, 0), NONE);
        due.is("message(0, -1, 0)", x.message(0, -1, 0), NONE);
        due.is("message(1, 0, 0)", x.message(1, 0, 0), NONE);
        due.is("message(-1, 0, 0)", x.message(-1, 0, 0), NONE);
        due.is("sign(0, 0, 1)", x.sign(0, 0, 1), 5);
        due.is("sign(0, 0, 2)", x.sign(0, 0, 2), NONE);
        due.is("sign(0, 0, -1)", x.sign(0, 0, -1), NONE);
        due.is("sign(0, 1, 0)", x.sign(0, 1, 0), NONE);
        due.is("sign(0, -1, 0)", x.sign(0, -1, 0), NONE);
        due.is("sign(1, 0, 0)", x.sign(1, 0, 0), NONE);
        due.is("kept(1)", x.kept(1), NONE);
        due.is("kept(-1)", x.kept(-1), NONE);
        due.is("count(0, 4)", x.count(0, 4), NONE);
        due.is("count(0, -1)", x.count(0, -1), NONE);
        due.is("count(1, 0)", x.count(1, 0), NONE);
        due.is("count(-1, 0)", x.count(-1, 0), NONE);
    }
}
