/** Promise 14 and the counts of promise 19 at their edges: each test has a sentence of the document above it. */
public final class EdgesOfHearingTest {
    private static final Due due = new Due("EdgesOfHearingTest");
    private static final int NONE = WakingPagers.NONE;
    private static final int MAX = Integer.MAX_VALUE;
    private static final int MIN = Integer.MIN_VALUE;
    private static final int AWAKE = 0;
    private static final int REPAIRED = 1;
    private static final int BROKEN = 2;
    private static final int LOST = 3;

    public static void main(String[] args) {
        noSuchPager();
        noSuchBit();
        noTransmission();
        firstAndLastBit();
        howManyItKept();
        keepsAgain();
        listensAnewEachTime();
        syncWithTwoWrongBits();
        syncWithThreeWrongBits();
        thirtyTwoBitsOfHunting();
        thirtyOneBitsOfHunting();
        wordsBehindTheSync();
        syncInsideAText();
        awakeForNothing();
        awakeForOneFrame();
        awakeForFramesOnce();
        awakeForAllFrames();
        awakeWhileAMessageRuns();
        nextSyncWithTwoWrongBits();
        nextSyncWithThreeWrongBits();
        lostSyncEndsAMessageForGood();
        huntsBehindTheLostSync();
        lostSyncIsNotHuntedThrough();
        wordsFollowAgain();
        noBitLeftForTheSync();
        noBitLeftForHunting();
        bitsForAWord();
        bitsForAWordOfAMessage();
        bitsForASync();
        bitsForASyncOfAMessage();
        sleepsToTheEnd();
        repairedBits();
        repairedBitsOfOthers();
        brokenWordEndsMarked();
        brokenWordDoesNothingMore();
        brokenWordWhereNoneRuns();
        messageWordWhereNoneRuns();
        idleEndsAMessage();
        addressWordEndsAMessage();
        addressWordOfAnotherFrame();
        bothPlacesOfTheFrame();
        addressWordOfWhatItDoesNotHear();
        addressWordWithTwoWrongBits();
        due.end();
    }

    private static void countsAre(String when, WakingPagers x, int awake, int repaired, int broken, int lost) {
        due.is(when + ": count(0, 0)", x.count(0, AWAKE), awake);
        due.is(when + ": count(0, 1)", x.count(0, REPAIRED), repaired);
        due.is(when + ": count(0, 2)", x.count(0, BROKEN), broken);
        due.is(when + ": count(0, 3)", x.count(0, LOST), lost);
    }

    private static void keptIs(WakingPagers x, int k, String want) {
        String got = Net.keptAs(x, 0, k);
        due.holds("kept message " + k + " is " + want + " (it is " + got + ")", got.equals(want));
    }

    // "NONE when there is no such pager"
    private static void noSuchPager() {
        WakingPagers x = Net.single(8, 0);
        x.transmit(1);
        int[] none = {-1, 1, 5, 6, MIN, MAX};
        for (int pager : none) {
            due.is("hear(" + pager + ", 0)", x.hear(pager, 0), NONE);
        }
        countsAre("refused", x, 0, 0, 0, 0);
        x.pager();
        due.is("hear(1, 0), made since", x.hear(1, 0), 0);
    }

    // "NONE when there is no such .. bit"
    private static void noSuchBit() {
        for (int n = 1; n <= 4; n++) {
            WakingPagers x = Net.single(8, 0);
            x.transmit(4);
            int length = x.transmit(n);
            int[] none = {-1, -2, length, length + 1, length + 544, MIN, MAX};
            for (int i : none) {
                due.is("hear(0, " + i + ") of " + n, x.hear(0, i), NONE);
            }
            countsAre("refused", x, 0, 0, 0, 0);
        }
    }

    // "NONE when there is no such .. bit": without a transmission there is none
    private static void noTransmission() {
        WakingPagers x = Net.single(8, 0);
        due.is("hear(0, 0)", x.hear(0, 0), NONE);
        x.transmit(5);
        due.is("hear(0, 0) behind a refused transmission", x.hear(0, 0), NONE);
        x.transmit(1);
        due.is("hear(0, 0) behind a transmission", x.hear(0, 0), 0);
    }

    // "A pager listens to the transmission from bit i on"
    private static void firstAndLastBit() {
        for (int n = 1; n <= 4; n++) {
            WakingPagers x = new WakingPagers();
            x.pager();
            int length = x.transmit(n);
            due.is("hear of the last bit", x.hear(0, length - 1), 0);
            due.is("count(0, 0)", x.count(0, AWAKE), 1);
            due.is("hear from the first bit", x.hear(0, 0), 0);
            due.is("count(0, 0)", x.count(0, AWAKE), 1 + 96 + 32 * (n - 1));
        }
    }

    // "how many messages it kept by that": not those it kept before, nor those it lost
    private static void howManyItKept() {
        WakingPagers x = new WakingPagers();
        x.pager();
        for (int k = 0; k < 4; k++) {
            x.identity(2 * k, 0);
            x.join(0, k);
        }
        x.transmit(1);
        due.is("hear of none", x.hear(0, 0), 0);
        for (int k = 0; k < 16; k++) {
            Net.callDigits(x, k % 4, 0, "1");
        }
        x.transmit(4);
        due.is("hear of sixteen, of which ten are kept in the end", x.hear(0, 0), 16);
        due.is("kept(0)", x.kept(0), 10);
        Net.damagePlace(x, 1, 3);
        due.is("hear of fifteen, and one that is lost", x.hear(0, 0), 15);
        due.is("count(0, 3)", x.count(0, LOST), 1);
        due.is("hear of the last batch", x.hear(0, 64 + 3 * 544), 4);
    }

    // "how many messages it kept by that": also one that it has heard before
    private static void keepsAgain() {
        WakingPagers x = Net.onAir(0, Net.digits(0, 5, 1, 2, 3));
        due.is("hear(0, 0)", x.hear(0, 0), 1);
        due.is("hear(0, 0) again", x.hear(0, 0), 1);
        due.is("kept(0)", x.kept(0), 2);
        keptIs(x, 0, "0:5:123");
        keptIs(x, 1, "0:5:123");
        countsAre("twice", x, 2 * (96 + 96), 0, 0, 0);
    }

    // "When no bit is left .. listening is over, and a message that runs ends": it does not run on for another
    private static void listensAnewEachTime() {
        WakingPagers x = Net.single(15, 0);
        x.pager();
        x.identity(8, 0);
        x.join(1, 1);
        Net.callDigits(x, 0, 0, "1");
        x.transmit(1);
        due.is("hear of the one whose message ends with the bits", x.hear(0, 0), 1);
        due.is("hear of the other", x.hear(1, 0), 0);
        due.is("count(1, 0)", x.count(1, AWAKE), 96 + 64);
        due.is("kept(0)", x.kept(0), 1);
        due.is("kept(1)", x.kept(1), 0);
    }

    // "until the latest 32 .. differ from SYNC in at most two places": in two
    private static void syncWithTwoWrongBits() {
        for (int a = 0; a < 32; a++) {
            WakingPagers x = Net.single(8, 0);
            Net.callDigits(x, 0, 0, "1");
            x.transmit(1);
            x.flip(64 + a);
            due.is("hear with bit " + a + " of SYNC wrong", x.hear(0, 0), 1);
            x.flip(64 + (a + 7) % 32);
            due.is("hear with two bits wrong", x.hear(0, 0), 1);
            countsAre("wrong bits of a sync are not repaired", x, 2 * (96 + 96), 0, 0, 0);
        }
    }

    // "until the latest 32 .. differ from SYNC in at most two places": not in three
    private static void syncWithThreeWrongBits() {
        for (int a = 0; a < 32; a++) {
            WakingPagers x = Net.single(8, 0);
            Net.callDigits(x, 0, 0, "1");
            x.transmit(1);
            x.flip(64 + a);
            x.flip(64 + (a + 7) % 32);
            x.flip(64 + (a + 19) % 32);
            due.is("hear with three bits wrong from " + a, x.hear(0, 0), 0);
            countsAre("it hunts to the end, and a sync is no word", x, 608, 0, 0, 0);
        }
    }

    // "until the latest 32 that it took while hunting": just 32
    private static void thirtyTwoBitsOfHunting() {
        WakingPagers x = Net.single(8, 0);
        Net.callDigits(x, 0, 0, "1");
        x.transmit(1);
        due.is("hear(0, 64)", x.hear(0, 64), 1);
        countsAre("32 bits", x, 32 + 96, 0, 0, 0);
        due.is("hear(0, 63)", x.hear(0, 63), 1);
        countsAre("33 bits", x, 32 + 96 + 33 + 96, 0, 0, 0);
    }

    // "until the latest 32 that it took while hunting": 31 are too few, though SYNC's first bit is 0
    private static void thirtyOneBitsOfHunting() {
        WakingPagers x = Net.single(8, 0);
        Net.callDigits(x, 0, 0, "1");
        x.transmit(1);
        due.is("hear(0, 65)", x.hear(0, 65), 0);
        countsAre("31 bits", x, 608 - 65, 0, 0, 0);
        due.is("hear(0, 66)", x.hear(0, 66), 0);
        countsAre("30 bits", x, 608 - 65 + 608 - 66, 0, 0, 0);
    }

    // "the 16 words of a batch begin behind them": wherever they are
    private static void wordsBehindTheSync() {
        for (int shift = 0; shift < 32; shift++) {
            WakingPagers x = Net.single(24, 0);
            x.transmit(1);
            Net.write(x, 20 + shift, Net.SYNC);
            Net.write(x, 52 + shift, Net.addressWord(x, 24, 0));
            Net.write(x, 84 + shift, Net.messageWord(x, Net.digits(4, 2, 1, 12, 12)));
            Net.write(x, 116 + shift, Net.IDLE);
            due.is("hear(0, " + shift + ")", x.hear(0, shift), 1);
            keptIs(x, 0, "0:42:1");
            // Behind 16 words 44 - shift bits are left: if they are enough, a sync is taken and the rest hunted through.
            int rest = 44 - shift >= 32 ? 44 - shift : 0;
            countsAre("shift " + shift, x, 52 + 96 + rest, 0, 0, 0);
        }
    }

    // "until the latest 32 that it took while hunting differ from SYNC": also those of no sync at all
    private static void syncInsideAText() {
        WakingPagers x = Net.single(8, 1);
        Net.callText(x, 0, 0, "0123456789x,Bb");
        x.transmit(1);
        due.is("the text's fifth content", Net.wordAtPlace(x, 5), Net.SYNC << 1);
        due.is("hear from the sync on", x.hear(0, 64), 1);
        keptIs(x, 0, "0:0:0123456789x,Bb");
        countsAre("the sync", x, 32 + 8 * 32, 0, 0, 0);
        // The bit before place 5 and 31 of it are SYNC. The words behind lie one bit too early; as the code is
        // cyclic, they are repaired: two bits of the text's last word, one of IDLE. One bit is left in the end.
        due.is("hear from behind the sync's first bit", x.hear(0, 65), 0);
        int hunted = Net.bitOfPlace(6) - 1 - 65;
        countsAre("the text for a sync", x, 32 + 8 * 32 + hunted + 64, 3, 0, 0);
        // Behind the lost sync of the second batch nothing of what was taken before belongs to the hunt.
        WakingPagers y = Net.single(7, 1);
        y.transmit(2);
        Net.damage(y, 608, 3);
        Net.writeOverIdle(y, 16, Net.SYNC << 1);
        due.is("hear(0, 0)", y.hear(0, 0), 0);
        countsAre("31 bits of a sync right behind a lost one", y, 96 + 64 + 32 + 512, 0, 0, 0);
    }

    // "It is AWAKE for those in frames of identities that it hears": it hears none
    private static void awakeForNothing() {
        for (int n = 1; n <= 4; n++) {
            WakingPagers x = new WakingPagers();
            x.pager();
            x.transmit(n);
            x.hear(0, 0);
            countsAre("no identity, " + n, x, 96 + 32 * (n - 1), 0, 0, 0);
        }
    }

    // "It is AWAKE for those in frames of identities that it hears": each of the eight
    private static void awakeForOneFrame() {
        for (int frame = 0; frame < 8; frame++) {
            WakingPagers x = Net.single(8 + frame, 0);
            x.transmit(2);
            // The wrong bits that it repairs tell for which words it was awake.
            for (int place = 0; place < 16; place++) {
                Net.damagePlace(x, place, place / 2 == frame ? 1 : 2);
            }
            x.hear(0, 0);
            countsAre("frame " + frame, x, 96 + 32 + 4 * 32, 2, 0, 0);
        }
    }

    // "It is AWAKE for those in frames of identities that it hears": of two of one frame just once
    private static void awakeForFramesOnce() {
        WakingPagers x = new WakingPagers();
        x.pager();
        for (int k = 0; k < 4; k++) {
            x.identity(8 * k + 3, k % 2);
            x.join(0, k);
        }
        x.transmit(1);
        x.hear(0, 0);
        countsAre("four of one frame", x, 96 + 64, 0, 0, 0);
    }

    // "It is AWAKE for those in frames of identities that it hears": four frames are the most
    private static void awakeForAllFrames() {
        WakingPagers x = new WakingPagers();
        x.pager();
        int[] frames = {0, 7, 3, 4};
        for (int k = 0; k < 4; k++) {
            x.identity(frames[k], 0);
            x.join(0, k);
        }
        x.transmit(1);
        x.hear(0, 0);
        countsAre("four frames", x, 96 + 4 * 64, 0, 0, 0);
    }

    // "and for all while a message RUNS": up to the word that ends it, and then it sleeps again
    private static void awakeWhileAMessageRuns() {
        for (int words = 0; words <= 8; words++) {
            int[] contents = new int[words];
            for (int k = 0; k < words; k++) {
                contents[k] = Net.digits(1, 1, 1, 1, 1);
            }
            WakingPagers x = Net.onAir(0, contents);
            Net.damagePlace(x, 12, 3);
            due.is("hear(0, 0)", x.hear(0, 0), words == 0 ? 0 : 1);
            countsAre(words + " contents", x, 96 + 32 * (2 + words), 0, 0, words == 0 ? 1 : 0);
        }
    }

    /** A text with its address word and a content in the first batch, and two contents more in the next. */
    private static WakingPagers acrossTheSync() {
        WakingPagers x = Net.single(15, 1);
        Net.callText(x, 0, 0, "abcdef");
        x.transmit(2);
        return x;
    }

    // "if these differ from SYNC in more than two places, a message that runs ends": two are not more
    private static void nextSyncWithTwoWrongBits() {
        for (int a = 0; a < 32; a++) {
            WakingPagers x = acrossTheSync();
            x.flip(608 + a);
            x.flip(608 + (a + 11) % 32);
            due.is("hear(0, 0)", x.hear(0, 0), 1);
            keptIs(x, 0, "0:0:abcdef");
            countsAre("two wrong from " + a, x, 96 + 64 + 32 + 96 + 64, 0, 0, 0);
        }
    }

    // "if these differ from SYNC in more than two places, a message that runs ends": three are more
    private static void nextSyncWithThreeWrongBits() {
        for (int a = 0; a < 32; a++) {
            WakingPagers x = acrossTheSync();
            x.flip(608 + a);
            x.flip(608 + (a + 11) % 32);
            x.flip(608 + (a + 20) % 32);
            due.is("hear(0, 0)", x.hear(0, 0), 1);
            keptIs(x, 0, "0:0:a");
            countsAre("three wrong from " + a, x, 96 + 64 + 32 + 512, 0, 0, 0);
        }
    }

    // "a message that runs ends": it does not run on when the next sync is found
    private static void lostSyncEndsAMessageForGood() {
        WakingPagers x = Net.single(15, 1);
        Net.callText(x, 0, 0, "abcdef");
        x.transmit(3);
        Net.damage(x, 608, 3);
        Net.writeOverIdle(x, 32, Net.messageWord(x, 0xFFFFF));
        due.is("hear(0, 0)", x.hear(0, 0), 1);
        keptIs(x, 0, "0:0:a");
        countsAre("found again", x, 96 + 64 + 32 + 544 + 64, 0, 0, 0);
    }

    // "and it hunts anew, with the bits behind them": with the very next ones
    private static void huntsBehindTheLostSync() {
        WakingPagers x = Net.single(24, 0);
        x.transmit(2);
        Net.damage(x, 608, 3);
        Net.writeOverIdle(x, 16, Net.SYNC);
        Net.writeOverIdle(x, 17, Net.addressWord(x, 24, 0));
        Net.writeOverIdle(x, 18, Net.messageWord(x, Net.digits(3, 3, 9, 12, 12)));
        due.is("hear(0, 0)", x.hear(0, 0), 1);
        keptIs(x, 0, "0:33:9");
        countsAre("a sync right behind", x, 96 + 64 + 32 + 32 + 96, 0, 0, 0);
    }

    // "with the bits behind them": not with those of the lost sync
    private static void lostSyncIsNotHuntedThrough() {
        for (int part = 1; part < 32; part += 5) {
            WakingPagers x = Net.single(24, 0);
            x.transmit(2);
            Net.write(x, 608, 0);
            Net.write(x, 608 + part, Net.SYNC);
            due.is("hear(0, 0)", x.hear(0, 0), 0);
            countsAre("SYNC from bit " + part + " of the lost one", x, 96 + 64 + 32 + 512, 0, 0, 0);
        }
    }

    // "otherwise 16 words follow again": in all four batches
    private static void wordsFollowAgain() {
        WakingPagers x = Net.single(11, 0);
        for (int k = 0; k < 4; k++) {
            Net.callDigits(x, 0, 0, "123");
        }
        x.transmit(4);
        due.is("hear(0, 0)", x.hear(0, 0), 4);
        countsAre("four batches", x, 96 + 3 * 32 + 4 * 96, 0, 0, 0);
        for (int k = 0; k < 4; k++) {
            keptIs(x, k, "0:" + k + ":123");
        }
    }

    // "Behind these words, if there are bits": there are none, and a message that runs ends
    private static void noBitLeftForTheSync() {
        WakingPagers x = Net.single(15, 0);
        Net.callDigits(x, 0, 0, "1");
        x.transmit(1);
        due.is("hear(0, 0)", x.hear(0, 0), 1);
        keptIs(x, 0, "0:0:1");
        countsAre("no bit left", x, 96 + 64, 0, 0, 0);
    }

    // "When no bit is left to be taken .. listening is over": hunting takes all, though fewer than 32
    private static void noBitLeftForHunting() {
        for (int bits = 1; bits <= 33; bits++) {
            WakingPagers x = Net.single(24, 0);
            x.transmit(1);
            due.is("hear of " + bits, x.hear(0, 608 - bits), 0);
            countsAre(bits + " bits", x, bits, 0, 0, 0);
        }
        WakingPagers y = Net.single(24, 0);
        y.transmit(1);
        Net.writeOverIdle(y, 15, Net.SYNC);
        due.is("hear of SYNC alone", y.hear(0, 576), 0);
        countsAre("SYNC alone", y, 32, 0, 0, 0);
    }

    // "or fewer than 32 for words": 32 and 33 are not fewer, 31 are
    private static void bitsForAWord() {
        for (int left = 30; left <= 34; left++) {
            int sync = 608 - left - 32;
            WakingPagers x = Net.single(24, 0);
            x.transmit(1);
            Net.write(x, sync, Net.SYNC);
            if (left >= 32) {
                Net.write(x, sync + 32, Net.addressWord(x, 24, 0));
            }
            due.is("hear(0, " + sync + ")", x.hear(0, sync), 0);
            int taken = left >= 32 ? 32 : 0;
            countsAre(left + " bits left", x, 32 + taken, 0, 0, taken / 32);
        }
    }

    // "or fewer than 32 for words ..: listening is over, and a message that runs ends"
    private static void bitsForAWordOfAMessage() {
        for (int left = 31; left <= 33; left++) {
            int sync = 608 - left - 96;
            WakingPagers x = Net.single(24, 0);
            x.transmit(1);
            Net.write(x, sync, Net.SYNC);
            Net.write(x, sync + 32, Net.addressWord(x, 24, 0));
            Net.write(x, sync + 64, Net.messageWord(x, Net.digits(0, 8, 7, 6, 5)));
            if (left >= 32) {
                Net.write(x, sync + 96, Net.messageWord(x, Net.digits(4, 12, 12, 12, 12)));
            }
            due.is("hear(0, " + sync + ")", x.hear(0, sync), 1);
            keptIs(x, 0, left < 32 ? "0:8:765" : "0:8:7654");
            countsAre(left + " bits left", x, 32 + 64 + (left < 32 ? 0 : 32), 0, 0, 0);
        }
    }

    // "or fewer than 32 for .. a sync": 32 and 33 are not fewer, 31 are
    private static void bitsForASync() {
        for (int left = 29; left <= 34; left++) {
            int sync = 608 - left - 544;
            WakingPagers x = new WakingPagers();
            x.pager();
            x.transmit(1);
            Net.write(x, sync, Net.SYNC);
            due.is("hear(0, " + sync + ")", x.hear(0, sync), 0);
            // What is left is taken as a sync, which it is not, and then hunted through.
            countsAre(left + " bits left", x, 32 + (left >= 32 ? left : 0), 0, 0, 0);
        }
    }

    // "or fewer than 32 for .. a sync ..: listening is over, and a message that runs ends"
    private static void bitsForASyncOfAMessage() {
        for (int left = 31; left <= 33; left++) {
            int sync = 608 - left - 544;
            WakingPagers x = Net.single(31, 0);
            x.transmit(1);
            Net.write(x, sync, Net.SYNC);
            Net.write(x, sync + 32 + 14 * 32, Net.addressWord(x, 31, 0));
            Net.write(x, sync + 32 + 15 * 32, Net.messageWord(x, Net.digits(0, 8, 7, 6, 5)));
            due.is("hear(0, " + sync + ")", x.hear(0, sync), 1);
            keptIs(x, 0, "0:8:765");
            countsAre(left + " bits left", x, 32 + 64 + (left >= 32 ? left : 0), 0, 0, 0);
        }
        WakingPagers y = Net.single(31, 0);
        y.transmit(1);
        Net.write(y, 32, Net.SYNC);
        Net.write(y, 64 + 14 * 32, Net.addressWord(y, 31, 0));
        Net.write(y, 64 + 15 * 32, Net.messageWord(y, Net.digits(0, 8, 7, 6, 5)));
        Net.write(y, 576, Net.SYNC);
        due.is("hear with a sync at the very end", y.hear(0, 32), 1);
        keptIs(y, 0, "0:8:765");
        countsAre("a sync at the very end", y, 32 + 64 + 32, 0, 0, 0);
    }

    // "also those through which it sleeps"
    private static void sleepsToTheEnd() {
        for (int whole = 0; whole <= 15; whole++) {
            WakingPagers x = Net.single(24 + 7, 0);
            x.identity(24 + 2, 0);
            x.join(0, 1);
            x.transmit(1);
            // So many words are whole, and 31 bits are left of the next one.
            int sync = 608 - 31 - 32 * whole - 32;
            Net.write(x, sync, Net.SYNC);
            due.is("hear(0, " + sync + ")", x.hear(0, sync), 0);
            int words = Math.max(0, Math.min(whole - 4, 2)) + Math.max(0, whole - 14);
            due.is("count(0, 0), " + whole + " words whole", x.count(0, AWAKE), 32 + 32 * words);
            due.is("count(0, 3)", x.count(0, LOST), 0);
        }
    }

    // "A word that it is awake for is repaired; the bits that this changed are counted."
    private static void repairedBits() {
        for (int wrong = 0; wrong <= 2; wrong++) {
            for (int place = 0; place <= 3; place++) {
                WakingPagers x = Net.onAir(0, Net.digits(0, 1, 2, 3, 4), Net.digits(5, 6, 7, 8, 9));
                Net.damagePlace(x, place, wrong);
                due.is("hear(0, 0)", x.hear(0, 0), 1);
                keptIs(x, 0, "0:1:23456789");
                countsAre(wrong + " wrong at place " + place, x, 96 + 4 * 32, wrong, 0, 0);
            }
        }
    }

    // "1 how many bits were repaired in words": not of syncs, of broken words, or of those it sleeps through
    private static void repairedBitsOfOthers() {
        WakingPagers x = Net.onAir(0, Net.digits(0, 1, 2, 3, 4));
        Net.damage(x, 64, 2);
        Net.damagePlace(x, 3, 2);
        Net.damagePlace(x, 15, 1);
        x.flip(0);
        due.is("hear(0, 0)", x.hear(0, 0), 1);
        countsAre("none that it is awake for", x, 96 + 96, 0, 0, 0);
        Net.damagePlace(x, 2, 3);
        Net.damagePlace(x, 9, 3);
        due.is("hear(0, 0)", x.hear(0, 0), 1);
        countsAre("a broken one", x, 2 * (96 + 96), 0, 1, 0);
    }

    // "If a message runs: a broken word ends it, MARKED"
    private static void brokenWordEndsMarked() {
        for (int place = 2; place <= 4; place++) {
            WakingPagers x = Net.onAir(0, Net.digits(0, 1, 2, 3, 4), Net.digits(5, 5, 5, 5, 5), Net.digits(6, 6, 6, 6, 6));
            Net.damagePlace(x, place, 3);
            due.is("hear(0, 0)", x.hear(0, 0), 1);
            keptIs(x, 0, "0:1!:" + "2345555566666".substring(0, 5 * place - 7));
            countsAre("broken at place " + place, x, 96 + 32 * (place + 1), 0, 1, 0);
        }
        WakingPagers y = Net.onAir(0, Net.digits(0, 1, 2, 3, 4));
        Net.damagePlace(y, 1, 3);
        due.is("hear without a whole content", y.hear(0, 0), 0);
        countsAre("marked and lost", y, 96 + 64, 0, 1, 1);
    }

    // "and does nothing more": no message begins by it, though it is nearly an address word
    private static void brokenWordDoesNothingMore() {
        WakingPagers x = Net.onAir(0);
        Net.writeOverIdle(x, 1, Net.addressWord(x, 24, 0));
        Net.damagePlace(x, 1, 3);
        Net.writeOverIdle(x, 2, Net.messageWord(x, Net.digits(0, 1, 2, 3, 4)));
        due.is("hear(0, 0)", x.hear(0, 0), 0);
        countsAre("a broken address word", x, 96 + 64, 0, 1, 1);
        Net.damagePlace(x, 1, 3);
        due.is("hear(0, 0) of the whole one", x.hear(0, 0), 1);
        countsAre("a whole address word", x, 96 + 64 + 96 + 4 * 32, 0, 1, 2);
    }

    // "(A word that was broken .. does nothing then.)"
    private static void brokenWordWhereNoneRuns() {
        WakingPagers x = Net.onAir(0, Net.digits(0, 1, 2, 3, 4));
        Net.damagePlace(x, 0, 3);
        due.is("hear(0, 0)", x.hear(0, 0), 0);
        countsAre("a broken address word", x, 96 + 64, 0, 1, 0);
        Net.damagePlace(x, 1, 3);
        due.is("hear(0, 0)", x.hear(0, 0), 0);
        countsAre("two broken words", x, 2 * (96 + 64), 0, 3, 0);
    }

    // "(A word that .. is another one, does nothing then.)"
    private static void messageWordWhereNoneRuns() {
        WakingPagers x = Net.single(24, 0);
        x.transmit(1);
        Net.writeOverIdle(x, 0, Net.messageWord(x, Net.digits(0, 1, 2, 3, 4)));
        Net.writeOverIdle(x, 1, Net.messageWord(x, Net.digits(0, 1, 2, 3, 4)));
        Net.writeOverIdle(x, 2, Net.messageWord(x, Net.digits(0, 1, 2, 3, 4)));
        due.is("hear(0, 0)", x.hear(0, 0), 0);
        countsAre("message words alone", x, 96 + 64, 0, 0, 0);
    }

    // "another one ends it, and is then looked at": IDLE, also with two wrong bits
    private static void idleEndsAMessage() {
        WakingPagers x = Net.onAir(0, Net.digits(0, 1, 2, 3, 4));
        Net.writeOverIdle(x, 3, Net.messageWord(x, Net.digits(5, 5, 5, 5, 5)));
        Net.damagePlace(x, 2, 2);
        due.is("hear(0, 0)", x.hear(0, 0), 1);
        keptIs(x, 0, "0:1:234");
        countsAre("IDLE between", x, 96 + 96, 2, 0, 0);
    }

    // "another one ends it, and is then looked at": an address word in its frame begins the next
    private static void addressWordEndsAMessage() {
        WakingPagers x = Net.onAir(0);
        Net.writeOverIdle(x, 1, Net.addressWord(x, 24, 0));
        Net.writeOverIdle(x, 2, Net.messageWord(x, Net.digits(0, 7, 1, 12, 12)));
        due.is("hear(0, 0)", x.hear(0, 0), 1);
        keptIs(x, 0, "0:7:1");
        countsAre("two address words", x, 96 + 4 * 32, 0, 0, 1);
    }

    // "the address word of an identity that the pager hears, in a frame of that identity": in another it begins none
    private static void addressWordOfAnotherFrame() {
        WakingPagers x = Net.onAir(0, Net.digits(0, 1, 2, 3, 4));
        Net.writeOverIdle(x, 2, Net.addressWord(x, 24, 0));
        Net.writeOverIdle(x, 3, Net.messageWord(x, Net.digits(0, 7, 1, 12, 12)));
        due.is("hear(0, 0)", x.hear(0, 0), 1);
        keptIs(x, 0, "0:1:234");
        countsAre("its word behind its frame", x, 96 + 96, 0, 0, 0);
    }

    // "in a frame of that identity": both places of it, and none beside
    private static void bothPlacesOfTheFrame() {
        for (int place = 4; place <= 9; place++) {
            WakingPagers x = new WakingPagers();
            x.pager();
            x.identity(8 * 20 + 3, 0);
            x.identity(8 * 30 + 2, 0);
            x.identity(8 * 30 + 4, 0);
            for (int k = 0; k < 3; k++) {
                x.join(0, k);
            }
            x.transmit(1);
            Net.writeOverIdle(x, place, Net.addressWord(x, 8 * 20, 0));
            Net.writeOverIdle(x, place + 1, Net.messageWord(x, Net.digits(0, 1, 2, 3, 4)));
            due.is("hear of place " + place, x.hear(0, 0), place == 6 || place == 7 ? 1 : 0);
            due.is("count(0, 3)", x.count(0, LOST), 0);
        }
    }

    // "of an identity that the pager hears": not of another, nor of the other kind
    private static void addressWordOfWhatItDoesNotHear() {
        WakingPagers x = Net.single(24, 0);
        x.identity(32, 0);
        Net.callDigits(x, 1, 0, "1");
        x.transmit(1);
        due.is("hear of another address", x.hear(0, 0), 0);
        countsAre("another address", x, 96 + 64, 0, 0, 0);
        x.join(0, 1);
        due.is("hear of it when it has joined", x.hear(0, 0), 1);
        WakingPagers y = Net.single(24, 1);
        Net.putOnAir(y, 0, Net.textContents('!', 'a'));
        due.is("hear of the other kind", y.hear(0, 0), 0);
        countsAre("the other kind", y, 96 + 64, 0, 0, 0);
    }

    // "A word that it is awake for is repaired": before it is looked at
    private static void addressWordWithTwoWrongBits() {
        for (int wrong = 0; wrong <= 3; wrong++) {
            WakingPagers x = Net.onAir(1, Net.textContents('!', 'a'));
            Net.damagePlace(x, 0, wrong);
            due.is("hear with " + wrong + " wrong", x.hear(0, 0), wrong <= 2 ? 1 : 0);
            due.is("count(0, 1)", x.count(0, REPAIRED), wrong <= 2 ? wrong : 0);
            due.is("count(0, 2)", x.count(0, BROKEN), wrong <= 2 ? 0 : 1);
        }
    }
}
