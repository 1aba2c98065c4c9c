/** Promises 1 to 3: a new object, code, repair. */
public final class CodeTest {
    private static final Due due = new Due("CodeTest");

    public static void main(String[] args) {
        newObjectIsEmpty();
        codewords();
        codeOfNoData();
        repairsUpToTwoBits();
        threeWrongBitsAreBroken();
        due.end();
    }

    private static void newObjectIsEmpty() {
        WakingPagers x = new WakingPagers();
        due.is("waiting()", x.waiting(), 0);
        due.is("unload()", x.unload(), 0);
        due.is("bit(0)", x.bit(0), WakingPagers.NONE);
        due.is("flip(0)", x.flip(0), WakingPagers.NONE);
        due.is("kept(0)", x.kept(0), WakingPagers.NONE);
        due.is("count(0, 0)", x.count(0, 0), WakingPagers.NONE);
        due.is("hear(0, 0)", x.hear(0, 0), WakingPagers.NONE);
        due.is("message(0, 0, 0)", x.message(0, 0, 0), WakingPagers.NONE);
        due.is("sign(0, 0, 0)", x.sign(0, 0, 0), WakingPagers.NONE);
        due.is("missed(0, 0)", x.missed(0, 0), 0);
        due.is("desk(0, 0, 0)", x.desk(0, 0, 0), WakingPagers.NONE);
        due.is("join(0, 0)", x.join(0, 0), WakingPagers.NONE);
        due.is("call(0, 0)", x.call(0, 0), WakingPagers.NONE);
        due.is("identity(0, 0)", x.identity(0, 0), 0);
        due.is("pager()", x.pager(), 0);
        due.is("NONE", WakingPagers.NONE, -1);
    }

    /** Long division by hand, on a long. */
    private static int plainCodeword(int data) {
        long rest = (long) data << 10;
        for (int k = 30; k >= 10; k--) {
            if ((rest >> k & 1) == 1) {
                rest ^= 0x769L << (k - 10);
            }
        }
        int word = data << 11 | (int) rest << 1;
        return Integer.bitCount(word) % 2 == 0 ? word : word + 1;
    }

    // An object is promised for 512 calls alone, so each of these many calls has its own.
    private static int code(int data) {
        return new WakingPagers().code(data);
    }

    private static int repair(int word) {
        return new WakingPagers().repair(word);
    }

    private static void codewords() {
        due.is("code(0)", code(0), 0);
        due.is("code(1)", code(1), 0xED3);
        due.is("code of SYNC's data", code(Net.SYNC >>> 11), Net.SYNC);
        due.is("code of IDLE's data", code(Net.IDLE >>> 11), Net.IDLE);
        due.is("code(2^21 - 1)", code((1 << 21) - 1), -1);
        for (int data = 0; data < 1 << 21; data += 97) {
            due.is("code(" + data + ")", code(data), plainCodeword(data));
        }
    }

    private static void codeOfNoData() {
        int[] wrong = {-1, 1 << 21, (1 << 21) + 1, Integer.MAX_VALUE, Integer.MIN_VALUE};
        for (int data : wrong) {
            due.is("code(" + data + ")", code(data), 0);
        }
    }

    private static void repairsUpToTwoBits() {
        int[] some = {0, 1, 0x155555, 0x0F0F0F, (1 << 21) - 1, 1 << 20, Net.IDLE >>> 11};
        for (int data : some) {
            int word = plainCodeword(data);
            due.is("repair of " + data, repair(word), data);
            for (int a = 0; a < 32; a++) {
                due.is("repair of " + data + " but " + a, repair(word ^ 1 << a), data);
                for (int b = a + 1; b < 32; b++) {
                    due.is("repair of " + data + " but " + a + ", " + b, repair(word ^ 1 << a ^ 1 << b), data);
                }
            }
        }
    }

    private static void threeWrongBitsAreBroken() {
        int[] some = {0, 0x12345, (1 << 21) - 1};
        for (int data : some) {
            int word = plainCodeword(data);
            for (int a = 0; a < 32; a++) {
                for (int b = a + 1; b < 32; b++) {
                    for (int c = b + 1; c < 32; c++) {
                        int wrong = word ^ 1 << a ^ 1 << b ^ 1 << c;
                        due.is("repair of " + data + " with three wrong", repair(wrong), WakingPagers.NONE);
                    }
                }
            }
        }
    }
}
