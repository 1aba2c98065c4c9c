/** Short ways to bring a net into the state that a test needs. */
final class Net {
    static final int SYNC = 0x7CD215D8;
    static final int IDLE = 0x7A89C197;

    private Net() {
    }

    /** A net with one pager that hears one identity. */
    static WakingPagers single(int address, int kind) {
        WakingPagers x = new WakingPagers();
        x.identity(address, kind);
        x.pager();
        x.join(0, 0);
        return x;
    }

    /** Loads the characters of a text as signs: what the last load answered. */
    static int loadText(WakingPagers x, String text) {
        int answer = 0;
        for (int k = 0; k < text.length(); k++) {
            answer = x.load(text.charAt(k), 1);
        }
        return answer;
    }

    /** Loads numeric signs, 0 .. 9 and then a, b for 10, 11. */
    static int loadDigits(WakingPagers x, String digits) {
        int answer = 0;
        for (int k = 0; k < digits.length(); k++) {
            answer = x.load(Character.digit(digits.charAt(k), 16), 1);
        }
        return answer;
    }

    static int callText(WakingPagers x, int identity, int priority, String text) {
        loadText(x, text);
        return x.call(identity, priority);
    }

    static int callDigits(WakingPagers x, int identity, int priority, String digits) {
        loadDigits(x, digits);
        return x.call(identity, priority);
    }

    /** Where the bits of a place begin. */
    static int bitOfPlace(int place) {
        return 64 + place / 16 * 17 * 32 + 32 + place % 16 * 32;
    }

    /** The 32 bits from a bit on. */
    static int wordAt(WakingPagers x, int from) {
        int word = 0;
        for (int k = 0; k < 32; k++) {
            word = word << 1 | x.bit(from + k);
        }
        return word;
    }

    static int wordAtPlace(WakingPagers x, int place) {
        return wordAt(x, bitOfPlace(place));
    }

    /** Changes the bits from a bit on so that they are those of a word. */
    static void write(WakingPagers x, int from, int word) {
        int changes = wordAt(x, from) ^ word;
        for (int k = 0; k < 32; k++) {
            if ((changes >>> (31 - k) & 1) == 1) {
                x.flip(from + k);
            }
        }
    }

    static void writePlace(WakingPagers x, int place, int word) {
        write(x, bitOfPlace(place), word);
    }

    /** The same where IDLE is known to stand; an object has calls for many of these. */
    static void writeOverIdle(WakingPagers x, int place, int word) {
        for (int k = 0; k < 32; k++) {
            if (((word ^ IDLE) >>> (31 - k) & 1) == 1) {
                x.flip(bitOfPlace(place) + k);
            }
        }
    }

    static int addressWord(WakingPagers x, int address, int kind) {
        return x.code(address / 8 * 4 + (kind == 0 ? 0 : 3));
    }

    static int messageWord(WakingPagers x, int content) {
        return x.code(1 << 20 | content);
    }

    /** A content of five numeric signs. */
    static int digits(int a, int b, int c, int d, int e) {
        return swap(a) << 16 | swap(b) << 12 | swap(c) << 8 | swap(d) << 4 | swap(e);
    }

    private static int swap(int sign) {
        return Integer.reverse(sign) >>> 28;
    }

    /** The contents of text signs, with bits 0 at the end. */
    static int[] textContents(int... signs) {
        int[] contents = new int[(7 * signs.length + 19) / 20];
        for (int k = 0; k < 7 * signs.length; k++) {
            contents[k / 20] |= (signs[k / 7] >>> k % 7 & 1) << (19 - k % 20);
        }
        return contents;
    }

    /** A net with one pager that hears address 24, of frame 0, to which contents are on the air. */
    static WakingPagers onAir(int kind, int... contents) {
        WakingPagers x = single(24, kind);
        putOnAir(x, kind, contents);
        return x;
    }

    /** A new transmission of contents to address 24, of which no call has been made. */
    static void putOnAir(WakingPagers x, int kind, int... contents) {
        x.transmit(1);
        writeOverIdle(x, 0, addressWord(x, 24, kind));
        for (int k = 0; k < contents.length; k++) {
            writeOverIdle(x, 1 + k, messageWord(x, contents[k]));
        }
    }

    /** Changes up to four bits of the word that begins at a bit. */
    static void damage(WakingPagers x, int from, int bits) {
        for (int k = 0; k < bits; k++) {
            x.flip(from + 10 * k);
        }
    }

    static void damagePlace(WakingPagers x, int place, int bits) {
        damage(x, bitOfPlace(place), bits);
    }

    /** Kept message k as a text: identity, number, "!" if it is marked, and its signs. */
    static String keptAs(WakingPagers x, int pager, int k) {
        StringBuilder text = new StringBuilder();
        text.append(x.message(pager, k, 0)).append(':').append(x.message(pager, k, 1));
        text.append(x.message(pager, k, 3) == 1 ? "!" : "").append(':');
        boolean readable = true;
        for (int i = 0; i < x.message(pager, k, 2); i++) {
            readable &= x.sign(pager, k, i) >= 32;
        }
        for (int i = 0; i < x.message(pager, k, 2); i++) {
            int sign = x.sign(pager, k, i);
            text.append(readable ? (char) sign : sign < 16 ? Character.forDigit(sign, 16) : '?');
        }
        return text.toString();
    }
}
