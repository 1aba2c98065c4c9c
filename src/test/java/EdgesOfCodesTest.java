/** Promises 1 to 3 at their edges: each test has a sentence of the document above it. */
public final class EdgesOfCodesTest {
    private static final Due due = new Due("EdgesOfCodesTest");
    private static final int NONE = WakingPagers.NONE;
    private static final int DATA_BOUND = 1 << 21;
    // A codeword as near to that of 0 as any is.
    private static final int LIGHT_DATA = lightData();

    public static void main(String[] args) {
        nothingIsThereAtFirst();
        dataFromZeroOn();
        dataUpToTheGreatest();
        noDataHasNoCodeword();
        dataInTheHighBits();
        whatIsLeftOfTheDivision();
        nothingIsLeftOfTheDivision();
        evenNumberOfBits();
        codewordsDifferInSixBits();
        noBitWrong();
        oneBitWrong();
        twoBitsWrong();
        threeBitsWrong();
        betweenTwoCodewords();
        greatestDataIsNotNone();
        syncAndIdleAreCodewords();
        due.end();
    }

    // An object is promised for 512 calls alone, so each of these many calls has its own.
    private static int code(int data) {
        return new WakingPagers().code(data);
    }

    private static int repair(int word) {
        return new WakingPagers().repair(word);
    }

    private static int lightData() {
        int data = 1;
        while (data < DATA_BOUND - 1 && Integer.bitCount(code(data)) != 6) {
            data++;
        }
        return data;
    }

    // "No identities, pagers, messages; no transmission."
    private static void nothingIsThereAtFirst() {
        WakingPagers x = new WakingPagers();
        x.load(5, 1);
        for (int identity = 0; identity < 12; identity++) {
            due.is("call(" + identity + ", 0)", x.call(identity, 0), NONE);
            due.is("desk(" + identity + ", 0, 0)", x.desk(identity, 0, 0), NONE);
        }
        for (int pager = 0; pager < 6; pager++) {
            due.is("kept(" + pager + ")", x.kept(pager), NONE);
            due.is("missed(" + pager + ", 0)", x.missed(pager, 0), 0);
        }
        due.is("waiting()", x.waiting(), 0);
        int[] bits = {0, 1, 63, 64, 607, 2239};
        for (int i : bits) {
            due.is("bit(" + i + ")", x.bit(i), NONE);
            due.is("flip(" + i + ")", x.flip(i), NONE);
        }
        due.is("unload() of the one sign", x.unload(), 1);
    }

    // "DATA are numbers 0 .. 2^21 - 1."
    private static void dataFromZeroOn() {
        due.is("code(0)", code(0), 0);
        due.is("code(1)", code(1), 0xED3);
        due.is("code(2)", code(2) >>> 11, 2);
    }

    // "DATA are numbers 0 .. 2^21 - 1."
    private static void dataUpToTheGreatest() {
        due.is("code(2^21 - 1)", code(DATA_BOUND - 1), 0xFFFFFFFF);
        due.is("code(2^21 - 2)", code(DATA_BOUND - 2) >>> 11, DATA_BOUND - 2);
        due.is("code(2^20)", code(1 << 20) >>> 11, 1 << 20);
    }

    // "The codeword of data; 0 when it is none."
    private static void noDataHasNoCodeword() {
        int[] none = {-1, -2, -DATA_BOUND, 1 - DATA_BOUND, DATA_BOUND, DATA_BOUND + 1, 2 * DATA_BOUND - 1, 5 | 1 << 30,
            Integer.MAX_VALUE, Integer.MIN_VALUE, Integer.MIN_VALUE + 5, Net.SYNC, Net.IDLE};
        for (int data : none) {
            due.is("code(" + data + ")", code(data), 0);
        }
    }

    // "bits 31 to 11 are d"
    private static void dataInTheHighBits() {
        for (int k = 0; k < 21; k++) {
            due.is("code(2^" + k + ") >>> 11", code(1 << k) >>> 11, 1 << k);
            due.is("code(2^" + k + " - 1) >>> 11", code((1 << k) - 1) >>> 11, (1 << k) - 1);
        }
    }

    // "bits 10 to 1 are what is left when d * 1024 is divided by 0x769"
    private static void whatIsLeftOfTheDivision() {
        // x^10 leaves 0x769 without its highest bit; each further x doubles what is left.
        int left = 0x369;
        for (int k = 0; k < 21; k++) {
            due.is("code(2^" + k + "), bits 10 to 1", code(1 << k) >>> 1 & 0x3FF, left);
            left = left >= 0x200 ? left << 1 ^ 0x769 : left << 1;
        }
    }

    // "bits 10 to 1 are what is left when d * 1024 is divided by 0x769": here it is 0
    private static void nothingIsLeftOfTheDivision() {
        for (int k = 0; k <= 10; k++) {
            due.is("code(0x769 << " + k + ")", code(0x769 << k), 0x769 << (k + 11) | 1);
        }
    }

    // "bit 0 is such that the number of bits that are 1 is even"
    private static void evenNumberOfBits() {
        int[] ends = new int[2];
        for (int data = 0; data < DATA_BOUND; data += 4999) {
            int word = code(data);
            due.is("bits of code(" + data + "), modulo 2", Integer.bitCount(word) % 2, 0);
            ends[word & 1]++;
        }
        due.holds("bit 0 is 0 in some and 1 in others", ends[0] > 0 && ends[1] > 0);
    }

    // "Two codewords differ in six bits or more."
    private static void codewordsDifferInSixBits() {
        // What two codewords differ in is a codeword too, so that none but 0 may have fewer bits.
        int fewest = 32;
        WakingPagers x = new WakingPagers();
        for (int data = 1; data < DATA_BOUND; data++) {
            if (data % 512 == 0) {
                x = new WakingPagers();
            }
            fewest = Math.min(fewest, Integer.bitCount(x.code(data)));
        }
        due.is("fewest bits of a codeword but that of 0", fewest, 6);
    }

    private static int[] someData() {
        return new int[] {0, 1, 0x769, 1 << 20, (1 << 20) - 1, 0x155555, DATA_BOUND - 2, DATA_BOUND - 1, LIGHT_DATA};
    }

    // "the data whose codeword differs from it in at most two bits": in none
    private static void noBitWrong() {
        for (int data : someData()) {
            due.is("repair of " + data, repair(code(data)), data);
        }
    }

    // "the data whose codeword differs from it in at most two bits": in one, wherever it is
    private static void oneBitWrong() {
        for (int data : someData()) {
            for (int a = 0; a < 32; a++) {
                due.is("repair of " + data + " but bit " + a, repair(code(data) ^ 1 << a), data);
            }
        }
    }

    // "the data whose codeword differs from it in at most two bits": in two, wherever they are
    private static void twoBitsWrong() {
        for (int data : someData()) {
            for (int a = 0; a < 32; a++) {
                for (int b = 0; b < a; b++) {
                    int word = code(data) ^ 1 << a ^ 1 << b;
                    due.is("repair of " + data + " but bits " + a + ", " + b, repair(word), data);
                }
            }
        }
    }

    // "it is BROKEN if there are none", "NONE when it is broken"
    private static void threeBitsWrong() {
        for (int data : someData()) {
            for (int a = 0; a < 32; a++) {
                int word = code(data) ^ 1 << a ^ 1 << (a + 1) % 32 ^ 1 << (a + 13) % 32;
                due.is("repair of " + data + " with three wrong from " + a, repair(word), NONE);
            }
        }
    }

    // "the data whose codeword differs from it in at most two bits; it is BROKEN if there are none"
    private static void betweenTwoCodewords() {
        int other = code(LIGHT_DATA);
        due.is("bits of the near codeword", Integer.bitCount(other), 6);
        int word = 0;
        for (int changed = 0; changed <= 6; changed++) {
            int want = changed <= 2 ? 0 : changed == 3 ? NONE : LIGHT_DATA;
            due.is("repair, " + changed + " of six bits further", repair(word), want);
            word |= Integer.lowestOneBit(other & ~word);
        }
    }

    // "NONE when it is broken": a word of bits 1 is the codeword of the greatest data, and not broken
    private static void greatestDataIsNotNone() {
        due.is("repair(-1)", repair(-1), DATA_BOUND - 1);
        due.is("repair(0x7FFFFFFF)", repair(Integer.MAX_VALUE), DATA_BOUND - 1);
        due.is("repair(0x80000000)", repair(Integer.MIN_VALUE), 0);
        due.is("repair(0)", repair(0), 0);
    }

    // "SYNC is 0x7CD215D8, IDLE 0x7A89C197; both are codewords."
    private static void syncAndIdleAreCodewords() {
        due.is("repair(SYNC)", repair(Net.SYNC), 0xF9A42);
        due.is("code of that", code(0xF9A42), Net.SYNC);
        due.is("repair(IDLE)", repair(Net.IDLE), 4 * 0x3D44E);
        due.is("code of that", code(4 * 0x3D44E), Net.IDLE);
    }
}
