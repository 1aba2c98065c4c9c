import java.util.Random;

/** Runs of at most 512 calls, always the same ones, in which the program is held against PlainModel. */
public final class ModelTest {
    private static final Due due = new Due("ModelTest");
    private static final int RUNS = 1500;
    private static final int CALLS = 512;

    private final Random random;
    private final WakingPagers x = new WakingPagers();
    private final PlainModel model = new PlainModel();
    private final int run;
    private int used = 0;
    private int bits = 0;

    private ModelTest(int run) {
        this.run = run;
        random = new Random(run);
    }

    public static void main(String[] args) {
        for (int run = 0; run < RUNS; run++) {
            new ModelTest(run).go();
        }
        due.end();
    }

    private void is(String call, long got, long want) {
        used++;
        due.is("run " + run + ", call " + used + ": " + call, got, want);
    }

    private int upTo(int bound) {
        return random.nextInt(bound);
    }

    private boolean oneIn(int n) {
        return random.nextInt(n) == 0;
    }

    /** Mostly 0 .. bound - 1, now and then a little or far outside. */
    private int about(int bound) {
        if (oneIn(30)) {
            int[] wild = {-1, bound, bound + 1, Integer.MAX_VALUE, Integer.MIN_VALUE};
            return wild[upTo(wild.length)];
        }
        return upTo(bound);
    }

    private void go() {
        setUp();
        while (used < CALLS - 120) {
            step();
        }
        askAll();
    }

    private void setUp() {
        int people = 1 + upTo(12);
        for (int k = 0; k < people; k++) {
            makeIdentity();
        }
        int pagers = 1 + upTo(3);
        for (int k = 0; k < pagers; k++) {
            is("pager()", x.pager(), model.pager());
            for (int j = 1 + upTo(4); j > 0; j--) {
                join();
            }
        }
    }

    private void makeIdentity() {
        // Few addresses, so that some share frames and some share words.
        int address = oneIn(10) ? about(1 << 21) : oneIn(20) ? 0x3D44E * 8 - 2 + upTo(12) : 8 * upTo(2) + upTo(8);
        int kind = about(2);
        is("identity(" + address + ", " + kind + ")", x.identity(address, kind), model.identity(address, kind));
    }

    private void join() {
        int pager = about(3);
        int identity = about(6);
        is("join(" + pager + ", " + identity + ")", x.join(pager, identity), model.join(pager, identity));
    }

    private void step() {
        switch (upTo(14)) {
            case 0 -> {
                if (oneIn(4)) {
                    makeIdentity();
                } else {
                    join();
                }
            }
            case 1, 2, 3, 4, 5 -> callMany();
            case 6, 7 -> transmit();
            case 8 -> flipSome();
            case 9 -> rewriteWord();
            case 10 -> ask();
            default -> hear();
        }
    }

    private void callMany() {
        for (int k = 1 + upTo(oneIn(8) ? 20 : 4); k > 0 && used < CALLS - 130; k--) {
            load();
            call();
        }
    }

    private void load() {
        boolean text = random.nextBoolean();
        for (int k = oneIn(3) ? 3 : 1; k > 0; k--) {
            int n = oneIn(20) ? about(9) : 1 + upTo(8);
            long signs = oneIn(20) ? random.nextLong() : 0;
            for (int b = 0; b < 8; b++) {
                signs = signs << 8 | (text ? 32 + upTo(95) : upTo(oneIn(20) ? 13 : 12));
            }
            is("load(" + signs + ", " + n + ")", x.load(signs, n), model.load(signs, n));
        }
    }

    private void call() {
        // The signs may be of either kind, so some identities are tried.
        for (int k = 0; k < 3; k++) {
            int identity = about(7);
            int priority = about(4);
            int got = x.call(identity, priority);
            is("call(" + identity + ", " + priority + ")", got, model.call(identity, priority));
            if (got != WakingPagers.NONE) {
                return;
            }
        }
        is("unload()", x.unload(), model.unload());
    }

    private void transmit() {
        int n = oneIn(20) ? about(5) : 1 + upTo(4);
        int got = x.transmit(n);
        is("transmit(" + n + ")", got, model.transmit(n));
        bits = got == WakingPagers.NONE ? bits : got;
        is("waiting()", x.waiting(), model.waiting());
    }

    private void flip(int i) {
        is("flip(" + i + ")", x.flip(i), model.flip(i));
    }

    private void flipSome() {
        if (bits == 0) {
            flip(about(2));
            return;
        }
        // Now and then a sync.
        int word = oneIn(3) ? 2 + 17 * upTo((bits / 32 - 2) / 17) : upTo(bits / 32);
        for (int k = 1 + upTo(5); k > 0; k--) {
            flip(oneIn(4) ? about(bits) : 32 * word + upTo(32));
        }
    }

    /** Makes 32 bits, mostly where a word is, those of another word. */
    private void rewriteWord() {
        if (bits == 0) {
            return;
        }
        int from = oneIn(4) ? upTo(bits - 31) : 32 * upTo(bits / 32);
        int[] words = {Net.SYNC, Net.IDLE, model.code(upTo(1 << 21)), model.code(1 << 20 | upTo(1 << 20)),
            model.code(4 * upTo(2) + 3 * upTo(2)), model.code(1 << 20 | Net.digits(upTo(8), upTo(11), 12, 1, 12))};
        int word = words[upTo(words.length)];
        for (int k = 0; k < 32; k++) {
            if (model.bit(from + k) != (word >>> (31 - k) & 1)) {
                flip(from + k);
            }
        }
    }

    private void hear() {
        int pager = about(3);
        int from = oneIn(3) ? about(Math.max(bits, 1)) : upTo(66);
        is("hear(" + pager + ", " + from + ")", x.hear(pager, from), model.hear(pager, from));
        for (int what = 0; what < 4; what++) {
            is("count(" + pager + ", " + what + ")", x.count(pager, what), model.count(pager, what));
        }
        int kept = model.kept(pager);
        is("kept(" + pager + ")", x.kept(pager), kept);
        int k = kept <= 0 || oneIn(4) ? about(10) : kept - 1;
        askMessage(pager, k);
    }

    private void askMessage(int pager, int k) {
        for (int what = 0; what < 4; what++) {
            is("message(" + pager + ", " + k + ", " + what + ")", x.message(pager, k, what), model.message(pager, k, what));
        }
        int signs = Math.max(model.message(pager, k, 2), 0);
        int[] asked = {0, upTo(signs + 1), signs - 1, signs};
        for (int i : asked) {
            is("sign(" + pager + ", " + k + ", " + i + ")", x.sign(pager, k, i), model.sign(pager, k, i));
        }
        int identity = oneIn(4) ? about(12) : model.message(pager, k, 0);
        is("missed(" + pager + ", " + identity + ")", x.missed(pager, identity), model.missed(pager, identity));
    }

    private void ask() {
        int identity = about(6);
        int number = about(oneIn(3) ? 64 : 4);
        int i = about(10);
        is("desk(" + identity + ", " + number + ", " + i + ")", x.desk(identity, number, i), model.desk(identity, number, i));
        int at = about(Math.max(bits, 1));
        is("bit(" + at + ")", x.bit(at), model.bit(at));
        int what = about(4);
        is("count(0, " + what + ")", x.count(0, what), model.count(0, what));
        is("message(0, 0, " + what + ")", x.message(0, 0, what), model.message(0, 0, what));
        int data = about(1 << 21);
        is("code(" + data + ")", x.code(data), model.code(data));
        int word = oneIn(3) ? random.nextInt() : model.code(upTo(1 << 21)) ^ 1 << upTo(32) ^ 1 << upTo(32);
        is("repair(" + word + ")", x.repair(word), model.repair(word));
    }

    private void askAll() {
        for (int pager = 0; pager < 3 && used < CALLS - 40; pager++) {
            for (int k = 0; k < 10 && used < CALLS - 20; k++) {
                askMessage(pager, k);
            }
        }
        for (int identity = 0; identity < 4; identity++) {
            is("missed(0, " + identity + ")", x.missed(0, identity), model.missed(0, identity));
        }
    }
}
