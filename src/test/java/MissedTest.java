/** Promise 18: missed. */
public final class MissedTest {
    private static final Due due = new Due("MissedTest");

    public static void main(String[] args) {
        firstNumberMissesNothing();
        numbersBetweenAreMissed();
        oldNumbersComeAgain();
        stepsAroundHalf();
        stepsAroundTheEnd();
        eachIdentityAndPager();
        wrongQuestions();
        due.end();
    }

    /** The pager hears a message of a number, written on the air as if it had been called. */
    private static void hearNumber(WakingPagers x, int number) {
        x.transmit(1);
        Net.writeOverIdle(x, 0, Net.addressWord(x, 8, 0));
        Net.writeOverIdle(x, 1, Net.messageWord(x, Net.digits(number / 10, number % 10, 1, 12, 12)));
        due.is("hear of number " + number, x.hear(0, 0), 1);
    }

    private static long bits(int... numbers) {
        long set = 0;
        for (int k : numbers) {
            set |= 1L << k;
        }
        return set;
    }

    private static void firstNumberMissesNothing() {
        WakingPagers x = Net.single(8, 0);
        due.is("missed before", x.missed(0, 0), 0);
        hearNumber(x, 40);
        due.is("missed behind the first", x.missed(0, 0), 0);
        hearNumber(x, 41);
        due.is("missed behind the next", x.missed(0, 0), 0);
    }

    private static void numbersBetweenAreMissed() {
        WakingPagers x = Net.single(8, 0);
        hearNumber(x, 2);
        hearNumber(x, 5);
        due.is("missed behind 2, 5", x.missed(0, 0), bits(3, 4));
        hearNumber(x, 7);
        due.is("missed behind 2, 5, 7", x.missed(0, 0), bits(3, 4, 6));
        hearNumber(x, 7);
        due.is("missed behind 7 again", x.missed(0, 0), bits(3, 4, 6));
    }

    private static void oldNumbersComeAgain() {
        WakingPagers x = Net.single(8, 0);
        hearNumber(x, 2);
        hearNumber(x, 6);
        hearNumber(x, 4);
        due.is("4 is missed no more", x.missed(0, 0), bits(3, 5));
        hearNumber(x, 7);
        due.is("6 is still the latest", x.missed(0, 0), bits(3, 5));
        hearNumber(x, 1);
        due.is("1 was never missed", x.missed(0, 0), bits(3, 5));
        hearNumber(x, 3);
        hearNumber(x, 5);
        due.is("none is missed", x.missed(0, 0), 0);
    }

    private static void stepsAroundHalf() {
        WakingPagers x = Net.single(8, 0);
        hearNumber(x, 0);
        hearNumber(x, 31);
        due.is("31 further", x.missed(0, 0), (1L << 31) - 2);
        WakingPagers y = Net.single(8, 0);
        hearNumber(y, 0);
        hearNumber(y, 32);
        due.is("32 further is no step", y.missed(0, 0), 0);
        hearNumber(y, 2);
        due.is("0 was still the latest", y.missed(0, 0), bits(1));
    }

    private static void stepsAroundTheEnd() {
        WakingPagers x = Net.single(8, 0);
        hearNumber(x, 61);
        hearNumber(x, 2);
        due.is("from 61 to 2", x.missed(0, 0), bits(62, 63, 0, 1));
        hearNumber(x, 63);
        due.is("63 comes late", x.missed(0, 0), bits(62, 0, 1));
        hearNumber(x, 4);
        due.is("2 was still the latest", x.missed(0, 0), bits(62, 0, 1, 3));
        // A whole turn later 1 is between again, and 62 comes with its new message.
        hearNumber(x, 30);
        hearNumber(x, 60);
        hearNumber(x, 62);
        due.is("bit 62", x.missed(0, 0) >>> 62 & 1, 0);
        due.is("bit 61", x.missed(0, 0) >>> 61 & 1, 1);
    }

    private static void eachIdentityAndPager() {
        WakingPagers x = new WakingPagers();
        x.identity(8, 0);
        x.identity(17, 1);
        x.pager();
        x.pager();
        x.join(0, 1);
        x.join(0, 0);
        x.join(1, 1);
        for (int k = 0; k < 3; k++) {
            Net.callDigits(x, 0, 0, "1");
            Net.callText(x, 1, 0, "a");
            x.transmit(1);
            if (k != 1) {
                x.hear(0, 0);
            }
            if (k != 0) {
                x.hear(1, 0);
            }
        }
        due.is("missed(0, 0)", x.missed(0, 0), bits(1));
        due.is("missed(0, 1)", x.missed(0, 1), bits(1));
        due.is("missed(1, 1)", x.missed(1, 1), 0);
        due.is("missed(1, 0), which it does not hear", x.missed(1, 0), 0);
        due.is("join(1, 0)", x.join(1, 0), 2);
        due.is("missed(1, 0), which it hears now", x.missed(1, 0), 0);
    }

    private static void wrongQuestions() {
        WakingPagers x = Net.single(8, 0);
        x.identity(9, 0);
        hearNumber(x, 0);
        hearNumber(x, 3);
        due.is("missed(0, 0)", x.missed(0, 0), bits(1, 2));
        due.is("missed(0, 1)", x.missed(0, 1), 0);
        due.is("missed(0, 2)", x.missed(0, 2), 0);
        due.is("missed(0, -1)", x.missed(0, -1), 0);
        due.is("missed(1, 0)", x.missed(1, 0), 0);
        due.is("missed(-1, 0)", x.missed(-1, 0), 0);
    }
}
