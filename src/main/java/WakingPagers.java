import java.util.Arrays;

/**
 * A net of radio pagers: messages with numbers wait by priority and are laid into frames of
 * batches of codewords; pagers sleep through frames that are not theirs, find the batches by
 * their sync words, repair up to two wrong bits a word, and tell which numbers they missed; and
 * a desk keeps what was called.
 */
public final class WakingPagers {
    public static final int NONE = -1;

    private static final int MOST_IDENTITIES = 12;
    private static final int MOST_PAGERS = 6;
    private static final int MOST_MESSAGES = 200;
    private static final int MOST_WAITING = 60;
    private static final int MOST_LOADED = 20;
    private static final int MOST_IN_A_LONG = 8;
    private static final int GREATEST_SIGN = 126;
    private static final int GREATEST_PRIORITY = 3;

    private static final int DATA_BOUND = 1 << 21;
    private static final int WORD_BITS = 32;
    private static final int CHECK_BITS = 11;
    private static final int CONTENT_BITS = 20;
    private static final int CONTENT_MASK = (1 << CONTENT_BITS) - 1;
    private static final int MESSAGE_FLAG = 1 << CONTENT_BITS;
    private static final int SYNC = 0x7CD215D8;
    private static final int IDLE = 0x7A89C197;

    private static final int MOST_BATCHES = 4;
    private static final int BATCH_WORDS = 16;
    private static final int FRAMES = 8;
    private static final int FRAME_WORDS = 2;

    private static final int NUMBERS = 64;
    private static final int TEXT_NUMBER_BASE = 32;
    private static final int MOST_SIGNS_HEARD = 22;

    private final Identity[] identities = new Identity[MOST_IDENTITIES];
    private int identityCount = 0;
    private final Pager[] pagers = new Pager[MOST_PAGERS];
    private int pagerCount = 0;
    private final Message[] messages = new Message[MOST_MESSAGES];
    private int messageCount = 0;
    private int waitingCount = 0;
    private final int[] loaded = new int[MOST_LOADED];
    private int loadedCount = 0;
    private final Layout layout = new Layout();
    private final Air air = new Air();
    private final Listener listener = new Listener();

    /** No identities, pagers, messages; no transmission. */
    public WakingPagers() {
    }

    /** The codeword of data; 0 when it is none. */
    public int code(int data) {
        return data >= 0 && data < DATA_BOUND ? codewordOf(data) : 0;
    }

    /** The data to which a word is repaired; NONE when it is broken. */
    public int repair(int word) {
        int wrong = Repairer.wrongBits(word);
        return wrong == Repairer.BROKEN ? NONE : (word ^ wrong) >>> CHECK_BITS;
    }

    /** A new identity: its number; NONE when it can't be made. */
    public int identity(int address, int kind) {
        if (address < 0 || address >= DATA_BOUND || (kind != Identity.NUMERIC && kind != Identity.TEXT)) {
            return NONE;
        }
        if (address / FRAMES == Identity.RESERVED || identityCount >= MOST_IDENTITIES || isAddressUsed(address)) {
            return NONE;
        }
        identities[identityCount] = new Identity(identityCount, address, kind);
        identityCount++;
        return identityCount - 1;
    }

    /** A new pager, which hears nothing: its number; NONE when there are six. */
    public int pager() {
        if (pagerCount >= MOST_PAGERS) {
            return NONE;
        }
        pagers[pagerCount] = new Pager();
        pagerCount++;
        return pagerCount - 1;
    }

    /** A pager hears one more identity: how many it hears; NONE when it can't. */
    public int join(int pager, int identity) {
        Pager who = pagerAt(pager);
        Identity what = identityAt(identity);
        if (who == null || what == null) {
            return NONE;
        }
        return who.addHeard(what) ? who.heardCount : NONE;
    }

    /** Signs for the next message behind those there are: how many there are; NONE when wrong. */
    public int load(long signs, int n) {
        if (n < 1 || n > MOST_IN_A_LONG || loadedCount + n > MOST_LOADED) {
            return NONE;
        }
        for (int k = 0; k < n; k++) {
            if (byteOf(signs, k) > GREATEST_SIGN) {
                return NONE;
            }
        }
        for (int k = n - 1; k >= 0; k--) {
            loaded[loadedCount] = byteOf(signs, k);
            loadedCount++;
        }
        return loadedCount;
    }

    /** The signs for the next message are none: how many there were. */
    public int unload() {
        int before = loadedCount;
        loadedCount = 0;
        return before;
    }

    /** Calls a message of the loaded signs to an identity: its number; NONE when it can't. */
    public int call(int identity, int priority) {
        Identity to = identityAt(identity);
        if (to == null || priority < 0 || priority > GREATEST_PRIORITY || !areLoadedSignsOf(to)) {
            return NONE;
        }
        if (waitingCount >= MOST_WAITING || messageCount >= MOST_MESSAGES) {
            return NONE;
        }
        int number = to.called % NUMBERS;
        messages[messageCount] = new Message(to, priority, number, Arrays.copyOf(loaded, loadedCount));
        messageCount++;
        waitingCount++;
        to.called++;
        loadedCount = 0;
        return number;
    }

    /** How many messages wait. */
    public int waiting() {
        return waitingCount;
    }

    /** Makes the transmission of n batches: how many bits it has; NONE when n is not 1 .. 4. */
    public int transmit(int n) {
        if (n < 1 || n > MOST_BATCHES) {
            return NONE;
        }
        layMessages(n);
        air.send(layout.places, n);
        return air.bitCount;
    }

    /** Bit i of the transmission; NONE when there is none. */
    public int bit(int i) {
        return air.hasBit(i) ? air.bitAt(i) : NONE;
    }

    /** Bit i of the transmission is changed: what it is then; NONE when there is none. */
    public int flip(int i) {
        if (!air.hasBit(i)) {
            return NONE;
        }
        air.changeBit(i);
        return air.bitAt(i);
    }

    /** A pager listens from bit i on: how many messages it kept by that; NONE when it can't. */
    public int hear(int pager, int i) {
        Pager who = pagerAt(pager);
        return who == null || !air.hasBit(i) ? NONE : listener.listen(who, air, i);
    }

    /** How many messages a pager has kept; NONE when there is no such pager. */
    public int kept(int pager) {
        Pager who = pagerAt(pager);
        return who == null ? NONE : who.storedCount;
    }

    /** Of a kept message: 0 its identity, 1 its number, 2 how many signs, 3 whether marked. */
    public int message(int pager, int k, int what) {
        Stored stored = storedAt(pager, k);
        if (stored == null) {
            return NONE;
        }
        switch (what) {
            case 0:
                return stored.identity;
            case 1:
                return stored.number;
            case 2:
                return stored.signCount;
            case 3:
                return stored.marked ? 1 : 0;
            default:
                return NONE;
        }
    }

    /** Sign i of a pager's kept message k; NONE when there is none. */
    public int sign(int pager, int k, int i) {
        Stored stored = storedAt(pager, k);
        return stored == null || i < 0 || i >= stored.signCount ? NONE : stored.signs[i];
    }

    /** The numbers that a pager missed of an identity, bit k for k; 0 when it does not hear it. */
    public long missed(int pager, int identity) {
        Pager who = pagerAt(pager);
        Heard heard = who == null ? null : who.heardOf(identity);
        return heard == null ? 0L : heard.gaps;
    }

    /** Of a pager: 0 bits awake, 1 bits repaired, 2 words broken, 3 messages lost; else NONE. */
    public int count(int pager, int what) {
        Pager who = pagerAt(pager);
        if (who == null) {
            return NONE;
        }
        switch (what) {
            case 0:
                return who.bitsAwake;
            case 1:
                return who.bitsRepaired;
            case 2:
                return who.wordsBroken;
            case 3:
                return who.messagesLost;
            default:
                return NONE;
        }
    }

    /** Sign i of the latest message to an identity with a number; NONE when there is none. */
    public int desk(int identity, int number, int i) {
        Identity to = identityAt(identity);
        if (to == null) {
            return NONE;
        }
        for (int m = messageCount - 1; m >= 0; m--) {
            if (messages[m].to == to && messages[m].number == number) {
                int[] signs = messages[m].signs;
                return i >= 0 && i < signs.length ? signs[i] : NONE;
            }
        }
        return NONE;
    }

    private Identity identityAt(int i) {
        return i >= 0 && i < identityCount ? identities[i] : null;
    }

    private Pager pagerAt(int p) {
        return p >= 0 && p < pagerCount ? pagers[p] : null;
    }

    private Stored storedAt(int p, int k) {
        Pager who = pagerAt(p);
        return who == null ? null : who.storedAt(k);
    }

    private boolean isAddressUsed(int address) {
        for (int i = 0; i < identityCount; i++) {
            if (identities[i].address == address) {
                return true;
            }
        }
        return false;
    }

    private boolean areLoadedSignsOf(Identity to) {
        for (int k = 0; k < loadedCount; k++) {
            if (loaded[k] < to.leastSign || loaded[k] > to.greatestSign) {
                return false;
            }
        }
        return loadedCount > 0;
    }

    private void layMessages(int batches) {
        layout.clear(batches);
        for (int i = 0; i < identityCount; i++) {
            identities[i].nextPlace = 0;
        }
        for (int priority = GREATEST_PRIORITY; priority >= 0; priority--) {
            for (int m = 0; m < messageCount; m++) {
                Message message = messages[m];
                if (message.waits && message.priority == priority && layout.lay(message)) {
                    message.waits = false;
                    waitingCount--;
                }
            }
        }
    }

    private static int byteOf(long signs, int k) {
        return (int) (signs >>> (8 * k)) & 0xFF;
    }

    private static int codewordOf(int data) {
        int shifted = data << CHECK_BITS;
        int checked = shifted | Repairer.remainder(shifted >>> 1) << 1;
        return checked | Integer.bitCount(checked) & 1;
    }

    private static boolean isSync(int word) {
        return Integer.bitCount(word ^ SYNC) <= 2;
    }

    /**
     * Finds the wrong bits of a word by its trace: what is left by the generator, and the parity.
     * The trace of a codeword is 0, and that of any word is the xor of the traces of its wrong
     * bits, so that it need not be compared with codewords.
     */
    private static final class Repairer {
        // No two wrong bits look like this.
        static final int BROKEN = -1;

        private static final int GENERATOR = 0x769;
        private static final int GENERATOR_DEGREE = 10;

        // The traces of the words of which bit 0, 1, .. alone is 1.
        private static final int[] TRACES = {
            0x001, 0x003, 0x005, 0x009, 0x011, 0x021, 0x041, 0x081,
            0x101, 0x201, 0x401, 0x6D3, 0x377, 0x6ED, 0x30B, 0x615,
            0x2FB, 0x5F5, 0x53B, 0x4A7, 0x79F, 0x1EF, 0x3DD, 0x7B9,
            0x1A3, 0x345, 0x689, 0x3C3, 0x785, 0x1DB, 0x3B5, 0x769,
        };

        static int remainder(int polynomial) {
            int rest = polynomial;
            for (int k = WORD_BITS - 2; k >= GENERATOR_DEGREE; k--) {
                if ((rest >>> k & 1) == 1) {
                    rest ^= GENERATOR << (k - GENERATOR_DEGREE);
                }
            }
            return rest;
        }

        private static int traceOf(int word) {
            return remainder(word >>> 1) << 1 | Integer.bitCount(word) & 1;
        }

        /** The at most two bits to change so that a word becomes a codeword, or BROKEN. */
        static int wrongBits(int word) {
            int trace = traceOf(word);
            if (trace == 0) {
                return 0;
            }
            // Codewords are even, so the parity tells one wrong bit from two.
            return (trace & 1) == 1 ? oneWrongBit(trace) : twoWrongBits(trace);
        }

        private static int oneWrongBit(int trace) {
            for (int b = 0; b < WORD_BITS; b++) {
                if (TRACES[b] == trace) {
                    return 1 << b;
                }
            }
            return BROKEN;
        }

        private static int twoWrongBits(int trace) {
            for (int a = 0; a < WORD_BITS; a++) {
                for (int b = a + 1; b < WORD_BITS; b++) {
                    if ((TRACES[a] ^ TRACES[b]) == trace) {
                        return 1 << a | 1 << b;
                    }
                }
            }
            return BROKEN;
        }
    }

    /** An address with a kind, and what that kind says of the signs. */
    private static final class Identity {
        static final int NUMERIC = 0;
        static final int TEXT = 1;
        // The address / 8 whose numeric address word would be IDLE.
        static final int RESERVED = 0x3D44E;

        final int index;
        final int address;
        final boolean isText;
        final int frame;
        final int addressWord;
        final int leastSign;
        final int greatestSign;
        final int signBits;
        final int filler;
        int called = 0;
        // While messages are laid: the least place for the next one, NONE when it must wait.
        int nextPlace = 0;

        Identity(int index, int address, int kind) {
            this.index = index;
            this.address = address;
            isText = kind == TEXT;
            frame = address % FRAMES;
            addressWord = codewordOf(address / FRAMES * 4 + (isText ? 3 : 0));
            leastSign = isText ? 32 : 0;
            greatestSign = isText ? GREATEST_SIGN : 11;
            signBits = isText ? 7 : 4;
            filler = isText ? 0 : 12;
        }

        /** How many signs stand for the number before a message's own. */
        int numberSigns() {
            return isText ? 1 : 2;
        }

        /** Sign s of those that stand for a number. */
        int numberSign(int s, int number) {
            if (isText) {
                return TEXT_NUMBER_BASE + number;
            }
            return s == 0 ? number / 10 : number % 10;
        }

        /** The number that the first of the signs make; NONE when they make none. */
        int numberIn(int[] signs, int n) {
            if (n < numberSigns()) {
                return NONE;
            }
            int number = isText ? signs[0] - TEXT_NUMBER_BASE : decimal(signs[0], signs[1]);
            return number >= 0 && number < NUMBERS ? number : NONE;
        }

        private static int decimal(int tens, int ones) {
            return tens <= 9 && ones <= 9 ? 10 * tens + ones : NONE;
        }
    }

    /** A message that was called, with the words that it goes out as. */
    private static final class Message {
        final Identity to;
        final int priority;
        final int number;
        final int[] signs;
        final int[] words;
        boolean waits = true;

        Message(Identity to, int priority, int number, int[] signs) {
            this.to = to;
            this.priority = priority;
            this.number = number;
            this.signs = signs;
            words = wordsOf(to, number, signs);
        }

        private static int[] wordsOf(Identity to, int number, int[] signs) {
            int bits = (to.numberSigns() + signs.length) * to.signBits;
            int[] words = new int[1 + (bits + CONTENT_BITS - 1) / CONTENT_BITS];
            words[0] = to.addressWord;
            int sign = 0;
            int bitOfSign = 0;
            for (int w = 1; w < words.length; w++) {
                int content = 0;
                for (int k = 0; k < CONTENT_BITS; k++) {
                    content = content << 1 | sentSign(sign, to, number, signs) >>> bitOfSign & 1;
                    bitOfSign++;
                    if (bitOfSign == to.signBits) {
                        bitOfSign = 0;
                        sign++;
                    }
                }
                words[w] = codewordOf(MESSAGE_FLAG | content);
            }
            return words;
        }

        /** Sign s of what goes out: those of the number, then the message's own, then fillers. */
        private static int sentSign(int s, Identity to, int number, int[] signs) {
            int own = s - to.numberSigns();
            if (own < 0) {
                return to.numberSign(s, number);
            }
            return own < signs.length ? signs[own] : to.filler;
        }
    }

    /** The places of a transmission while messages are laid into them. */
    private static final class Layout {
        // IDLE stands for a free place: no address word or message word is ever equal to it.
        final int[] places = new int[MOST_BATCHES * BATCH_WORDS];
        private int placeCount = 0;

        void clear(int batches) {
            Arrays.fill(places, IDLE);
            placeCount = batches * BATCH_WORDS;
        }

        /** Lays a message, or holds its identity back for the rest of this transmission. */
        boolean lay(Message message) {
            Identity to = message.to;
            int length = message.words.length;
            int place = to.nextPlace == NONE ? NONE : findPlace(to, length);
            if (place == NONE) {
                to.nextPlace = NONE;
                return false;
            }
            System.arraycopy(message.words, 0, places, place, length);
            to.nextPlace = place + length;
            return true;
        }

        private int findPlace(Identity to, int length) {
            for (int place = to.nextPlace; place + length <= placeCount; place++) {
                if (place % BATCH_WORDS / FRAME_WORDS == to.frame && areFree(place, length)) {
                    return place;
                }
            }
            return NONE;
        }

        private boolean areFree(int from, int length) {
            for (int place = from; place < from + length; place++) {
                if (places[place] != IDLE) {
                    return false;
                }
            }
            return true;
        }
    }

    /** The transmission's bits. All of its parts are whole words, so it is held in words. */
    private static final class Air {
        private static final int PREAMBLE = 0xAAAAAAAA;
        private static final int PREAMBLE_WORDS = 2;
        static final int MOST_WORDS = PREAMBLE_WORDS + MOST_BATCHES * (1 + BATCH_WORDS);

        private final int[] words = new int[MOST_WORDS];
        int bitCount = 0;

        void send(int[] places, int batches) {
            int w = 0;
            for (int k = 0; k < PREAMBLE_WORDS; k++) {
                words[w++] = PREAMBLE;
            }
            for (int b = 0; b < batches; b++) {
                words[w++] = SYNC;
                System.arraycopy(places, b * BATCH_WORDS, words, w, BATCH_WORDS);
                w += BATCH_WORDS;
            }
            bitCount = w * WORD_BITS;
        }

        boolean hasBit(int i) {
            return i >= 0 && i < bitCount;
        }

        boolean hasWord(int from) {
            return from >= 0 && from <= bitCount - WORD_BITS;
        }

        int bitAt(int i) {
            return words[i / WORD_BITS] >>> (WORD_BITS - 1 - i % WORD_BITS) & 1;
        }

        void changeBit(int i) {
            words[i / WORD_BITS] ^= 1 << (WORD_BITS - 1 - i % WORD_BITS);
        }

        /** The 32 bits from a bit on, which need not be where a word was sent. */
        int wordAt(int from) {
            int w = from / WORD_BITS;
            int shift = from % WORD_BITS;
            return shift == 0 ? words[w] : words[w] << shift | words[w + 1] >>> (WORD_BITS - shift);
        }
    }

    /** What a pager knows of an identity that it hears. */
    private static final class Heard {
        final Identity identity;
        long gaps = 0L;
        private int latest = NONE;

        Heard(Identity identity) {
            this.identity = identity;
        }

        void noteNumber(int number) {
            int step = latest == NONE ? 0 : Math.floorMod(number - latest, NUMBERS);
            // A step of 32 or more is taken for an old message that comes again.
            if (latest == NONE) {
                latest = number;
            } else if (step >= 1 && step < NUMBERS / 2) {
                for (int k = 1; k < step; k++) {
                    gaps |= 1L << (latest + k) % NUMBERS;
                }
                latest = number;
            }
            gaps &= ~(1L << number);
        }
    }

    /** A message as a pager keeps it; the same object is used again when it is the oldest. */
    private static final class Stored {
        int identity = NONE;
        int number = NONE;
        boolean marked = false;
        // One number sign at least is never kept.
        final int[] signs = new int[MOST_SIGNS_HEARD - 1];
        int signCount = 0;
    }

    /** A pager: what it hears, what it keeps, and its counts. */
    private static final class Pager {
        private static final int MOST_HEARD = 4;
        private static final int MOST_STORED = 10;

        private final Heard[] heard = new Heard[MOST_HEARD];
        int heardCount = 0;
        // A ring, so that the oldest message's row is used again for the newest.
        private final Stored[] ring = new Stored[MOST_STORED];
        private int oldest = 0;
        int storedCount = 0;
        int bitsAwake = 0;
        int bitsRepaired = 0;
        int wordsBroken = 0;
        int messagesLost = 0;

        Pager() {
            for (int k = 0; k < MOST_STORED; k++) {
                ring[k] = new Stored();
            }
        }

        boolean addHeard(Identity identity) {
            if (heardCount >= MOST_HEARD || heardOf(identity.index) != null) {
                return false;
            }
            heard[heardCount] = new Heard(identity);
            heardCount++;
            return true;
        }

        Heard heardOf(int identity) {
            for (int h = 0; h < heardCount; h++) {
                if (heard[h].identity.index == identity) {
                    return heard[h];
                }
            }
            return null;
        }

        boolean hasFrame(int frame) {
            for (int h = 0; h < heardCount; h++) {
                if (heard[h].identity.frame == frame) {
                    return true;
                }
            }
            return false;
        }

        /** Whom a word calls in a frame; identities of other frames may have the same word. */
        Heard calledBy(int word, int frame) {
            for (int h = 0; h < heardCount; h++) {
                Identity identity = heard[h].identity;
                if (identity.frame == frame && identity.addressWord == word) {
                    return heard[h];
                }
            }
            return null;
        }

        Stored storedAt(int k) {
            return k >= 0 && k < storedCount ? ring[(oldest + k) % MOST_STORED] : null;
        }

        /** The row for a new message: a fresh one, or the oldest one's. */
        Stored nextStored() {
            Stored next = ring[(oldest + storedCount) % MOST_STORED];
            if (storedCount < MOST_STORED) {
                storedCount++;
            } else {
                oldest = (oldest + 1) % MOST_STORED;
            }
            return next;
        }
    }

    /** One pager's listening to the transmission, with the message that runs in it. */
    private static final class Listener {
        private Air air = null;
        private Pager pager = null;
        private int storedNow = 0;
        // Whose message runs; null when none does.
        private Heard running = null;
        private final int[] signs = new int[MOST_SIGNS_HEARD];
        private int signCount = 0;
        private int partOfSign = 0;
        private int partBits = 0;

        /** How many messages the pager kept by listening from a bit on. */
        int listen(Pager who, Air what, int from) {
            pager = who;
            air = what;
            storedNow = 0;
            int at = hunt(from);
            // Each turn takes a word at least, so there are no more turns than words on the air.
            for (int turn = 0; turn < Air.MOST_WORDS && air.hasWord(at); turn++) {
                at = takeSync(takeBatch(at));
            }
            endMessage(false);
            return storedNow;
        }

        /** The bit behind a sync, or behind the last bit when there is no sync. */
        private int hunt(int from) {
            int latest = 0;
            for (int at = from; at < air.bitCount; at++) {
                latest = latest << 1 | air.bitAt(at);
                pager.bitsAwake++;
                if (at - from >= WORD_BITS - 1 && isSync(latest)) {
                    return at + 1;
                }
            }
            return air.bitCount;
        }

        /** The bit behind a batch, or behind the last bit when the batch is not whole. */
        private int takeBatch(int from) {
            int at = from;
            for (int k = 0; k < BATCH_WORDS; k++) {
                if (!air.hasWord(at)) {
                    return air.bitCount;
                }
                int frame = k / FRAME_WORDS;
                if (running != null || pager.hasFrame(frame)) {
                    takeWord(air.wordAt(at), frame);
                }
                at += WORD_BITS;
            }
            return at;
        }

        /** The bit at which words begin again: behind this sync or, if it is none, behind the next. */
        private int takeSync(int from) {
            if (!air.hasWord(from)) {
                return air.bitCount;
            }
            pager.bitsAwake += WORD_BITS;
            if (isSync(air.wordAt(from))) {
                return from + WORD_BITS;
            }
            endMessage(false);
            return hunt(from + WORD_BITS);
        }

        private void takeWord(int word, int frame) {
            pager.bitsAwake += WORD_BITS;
            int wrong = Repairer.wrongBits(word);
            if (wrong == Repairer.BROKEN) {
                pager.wordsBroken++;
                endMessage(true);
                return;
            }
            pager.bitsRepaired += Integer.bitCount(wrong);
            int data = (word ^ wrong) >>> CHECK_BITS;
            if (running != null && (data & MESSAGE_FLAG) != 0) {
                addContent(data & CONTENT_MASK);
                return;
            }
            endMessage(false);
            beginMessage(pager.calledBy(word ^ wrong, frame));
        }

        private void beginMessage(Heard called) {
            running = called;
            signCount = 0;
            partOfSign = 0;
            partBits = 0;
        }

        private void addContent(int content) {
            for (int k = CONTENT_BITS - 1; k >= 0; k--) {
                partOfSign |= (content >>> k & 1) << partBits;
                partBits++;
                if (partBits == running.identity.signBits) {
                    addSign(partOfSign);
                    partOfSign = 0;
                    partBits = 0;
                }
            }
        }

        private void addSign(int sign) {
            if (signCount < MOST_SIGNS_HEARD) {
                signs[signCount] = sign;
                signCount++;
            }
        }

        /** Ends the message that runs, if one does. */
        private void endMessage(boolean marked) {
            if (running == null) {
                return;
            }
            int number = running.identity.numberIn(signs, signCount);
            if (number == NONE) {
                pager.messagesLost++;
            } else {
                store(number, marked);
                running.noteNumber(number);
                storedNow++;
            }
            running = null;
        }

        private void store(int number, boolean marked) {
            Identity identity = running.identity;
            int first = identity.numberSigns();
            int end = signCount;
            while (end > first && signs[end - 1] == identity.filler) {
                end--;
            }
            Stored stored = pager.nextStored();
            stored.identity = identity.index;
            stored.number = number;
            stored.marked = marked;
            stored.signCount = end - first;
            System.arraycopy(signs, first, stored.signs, 0, end - first);
        }
    }
}
