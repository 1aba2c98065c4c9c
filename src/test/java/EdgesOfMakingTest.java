/** Promises 4 to 6 at their edges: each test has a sentence of the document above it. */
public final class EdgesOfMakingTest {
    private static final Due due = new Due("EdgesOfMakingTest");
    private static final int NONE = WakingPagers.NONE;
    private static final int ADDRESS_BOUND = 1 << 21;
    private static final int MAX = Integer.MAX_VALUE;
    private static final int MIN = Integer.MIN_VALUE;

    public static void main(String[] args) {
        twelveIdentities();
        leastAddress();
        greatestAddress();
        addressTooSmall();
        addressTooLarge();
        kindsThatAreNone();
        addressOfAnother();
        sameWordOfAnotherFrame();
        addressesOfIdle();
        addressesBesideIdle();
        refusedIdentityTakesNothing();
        frameIsTheAddressModuloEight();
        addressWordAtTheEnds();
        sixPagers();
        newPagerHearsNothing();
        fourIdentitiesAPager();
        joinOfNoPager();
        joinOfNoIdentity();
        joinOfWhatItHears();
        refusedJoinChangesNothing();
        manyPagersHearOneIdentity();
        due.end();
    }

    // "IDENTITIES 0, 1, .. as they are made, at most 12", "NONE when .. there are 12"
    private static void twelveIdentities() {
        WakingPagers x = new WakingPagers();
        for (int k = 0; k < 12; k++) {
            due.is("identity " + k, x.identity(1000 - 7 * k, k % 2), k);
        }
        due.is("identity 12", x.identity(5, 0), NONE);
        due.is("identity 12, text", x.identity(6, 1), NONE);
        x.pager();
        due.is("join of identity 11", x.join(0, 11), 1);
        due.is("join of identity 12", x.join(0, 12), NONE);
        due.is("call to identity 11", Net.callText(x, 11, 0, "a"), 0);
    }

    // "an ADDRESS (0 .. 2^21 - 1)"
    private static void leastAddress() {
        for (int kind = 0; kind < 2; kind++) {
            due.is("identity(0, " + kind + ")", new WakingPagers().identity(0, kind), 0);
        }
    }

    // "an ADDRESS (0 .. 2^21 - 1)"
    private static void greatestAddress() {
        for (int kind = 0; kind < 2; kind++) {
            due.is("identity(2^21 - 1, " + kind + ")", new WakingPagers().identity(ADDRESS_BOUND - 1, kind), 0);
        }
    }

    // "NONE when address .. is out of its bounds"
    private static void addressTooSmall() {
        int[] small = {-1, -8, -ADDRESS_BOUND, MIN};
        for (int address : small) {
            due.is("identity(" + address + ", 0)", new WakingPagers().identity(address, 0), NONE);
            due.is("identity(" + address + ", 1)", new WakingPagers().identity(address, 1), NONE);
        }
    }

    // "NONE when address .. is out of its bounds"
    private static void addressTooLarge() {
        int[] large = {ADDRESS_BOUND, ADDRESS_BOUND + 1, 1 << 30, MAX};
        for (int address : large) {
            due.is("identity(" + address + ", 0)", new WakingPagers().identity(address, 0), NONE);
            due.is("identity(" + address + ", 1)", new WakingPagers().identity(address, 1), NONE);
        }
    }

    // "a KIND (0 numeric, 1 text)", "NONE when .. kind is out of its bounds"
    private static void kindsThatAreNone() {
        int[] none = {-1, 2, 3, MIN, MAX};
        for (int kind : none) {
            due.is("identity(9, " + kind + ")", new WakingPagers().identity(9, kind), NONE);
        }
    }

    // "NONE when .. another one has the address"
    private static void addressOfAnother() {
        WakingPagers x = new WakingPagers();
        int[] addresses = {17, 0, ADDRESS_BOUND - 1};
        for (int address : addresses) {
            x.identity(address, 0);
        }
        for (int address : addresses) {
            due.is("identity(" + address + ", 0) again", x.identity(address, 0), NONE);
            due.is("identity(" + address + ", 1), the other kind", x.identity(address, 1), NONE);
        }
        due.is("identity(18, 0)", x.identity(18, 0), 3);
    }

    // "another one has the address": the same address / 8 alone is no hindrance
    private static void sameWordOfAnotherFrame() {
        WakingPagers x = new WakingPagers();
        for (int k = 0; k < 8; k++) {
            due.is("identity(" + (80 + k) + ", 0)", x.identity(80 + k, 0), k);
        }
    }

    // "NONE when .. its address / 8 is that of IDLE (0x3D44E)"
    private static void addressesOfIdle() {
        WakingPagers x = new WakingPagers();
        for (int k = 0; k < 8; k++) {
            due.is("numeric identity of IDLE, frame " + k, x.identity(0x3D44E * 8 + k, 0), NONE);
            due.is("text identity of IDLE, frame " + k, x.identity(0x3D44E * 8 + k, 1), NONE);
        }
        due.is("the first one", x.identity(0x3D44E, 0), 0);
    }

    // "NONE when .. its address / 8 is that of IDLE (0x3D44E)": those beside are not
    private static void addressesBesideIdle() {
        WakingPagers x = new WakingPagers();
        due.is("the address before", x.identity(0x3D44E * 8 - 1, 0), 0);
        due.is("the address behind", x.identity(0x3D44E * 8 + 8, 1), 1);
    }

    // "A new identity: its number. NONE when ..": what is refused is not made
    private static void refusedIdentityTakesNothing() {
        WakingPagers x = new WakingPagers();
        x.pager();
        due.is("identity(7, 2)", x.identity(7, 2), NONE);
        due.is("join of what was refused", x.join(0, 0), NONE);
        due.is("identity(7, 1): its address is free", x.identity(7, 1), 0);
        due.is("identity(7, 0)", x.identity(7, 0), NONE);
        due.is("identity(8, 0): the next number", x.identity(8, 0), 1);
        due.is("call to the first, still of text", Net.callText(x, 0, 0, "a"), 0);
    }

    // "THE FRAME of an identity is its address modulo 8."
    private static void frameIsTheAddressModuloEight() {
        int[] firsts = {0, 8, ADDRESS_BOUND - 8};
        for (int first : firsts) {
            for (int frame = 0; frame < 8; frame++) {
                WakingPagers x = Net.single(first + frame, 0);
                Net.callDigits(x, 0, 0, "1");
                x.transmit(1);
                int word = Net.addressWord(x, first + frame, 0);
                due.is("place " + 2 * frame, Net.wordAtPlace(x, 2 * frame), word);
                due.is("hear(0, 0)", x.hear(0, 0), 1);
            }
        }
    }

    // "the codeword of 4 * (address / 8) + (0 if numeric, else 3); so bit 20 of its data is 0"
    private static void addressWordAtTheEnds() {
        int[] addresses = {0, 0, 7, 7, ADDRESS_BOUND - 8, ADDRESS_BOUND - 8, ADDRESS_BOUND - 1, ADDRESS_BOUND - 1};
        int[] data = {0, 3, 0, 3, (1 << 20) - 4, (1 << 20) - 1, (1 << 20) - 4, (1 << 20) - 1};
        for (int k = 0; k < addresses.length; k++) {
            WakingPagers x = Net.single(addresses[k], k % 2);
            x.load(k % 2 == 0 ? 5 : 'a', 1);
            x.call(0, 0);
            x.transmit(1);
            int word = Net.wordAtPlace(x, addresses[k] % 8 * 2);
            due.is("address word of " + addresses[k] + ", kind " + k % 2, word, x.code(data[k]));
            due.is("hear(0, 0)", x.hear(0, 0), 1);
        }
    }

    // "PAGERS 0, 1, .. as they are made, at most 6", "NONE when there are 6"
    private static void sixPagers() {
        WakingPagers x = Net.single(3, 0);
        for (int k = 1; k < 6; k++) {
            due.is("pager " + k, x.pager(), k);
        }
        due.is("pager 6", x.pager(), NONE);
        due.is("pager 6 again", x.pager(), NONE);
        due.is("join(5, 0)", x.join(5, 0), 1);
        due.is("join(6, 0)", x.join(6, 0), NONE);
        due.is("pager 0 still hears", x.join(0, 0), NONE);
    }

    // "A new pager, which hears nothing"
    private static void newPagerHearsNothing() {
        WakingPagers x = Net.single(0, 0);
        x.pager();
        Net.callDigits(x, 0, 0, "1");
        x.transmit(1);
        due.is("hear of the new one", x.hear(1, 0), 0);
        due.is("it slept through all words", x.count(1, 0), 96);
        due.is("join: the first one it hears", x.join(1, 0), 1);
        due.is("hear of it then", x.hear(1, 0), 1);
    }

    // "each HEAR up to 4 identities", "NONE when .. it hears .. four"
    private static void fourIdentitiesAPager() {
        WakingPagers x = new WakingPagers();
        x.pager();
        x.pager();
        for (int k = 0; k < 5; k++) {
            x.identity(k, 0);
            Net.callDigits(x, k, 0, "1");
        }
        for (int k = 0; k < 4; k++) {
            due.is("join(0, " + k + ")", x.join(0, k), k + 1);
        }
        due.is("join(0, 4), a fifth", x.join(0, 4), NONE);
        due.is("join(1, 4): the other pager's first", x.join(1, 4), 1);
        x.transmit(1);
        due.is("hear(0, 0) of four", x.hear(0, 0), 4);
        due.is("the fifth's frame is slept through, but for the word that ends the fourth", x.count(0, 0), 96 + 9 * 32);
    }

    // "NONE when there is no such pager"
    private static void joinOfNoPager() {
        WakingPagers x = Net.single(1, 0);
        int[] none = {-1, 1, 5, 6, MIN, MAX};
        for (int pager : none) {
            due.is("join(" + pager + ", 0)", x.join(pager, 0), NONE);
        }
        x.pager();
        due.is("join(1, 0), made since", x.join(1, 0), 1);
    }

    // "NONE when there is no such .. identity"
    private static void joinOfNoIdentity() {
        WakingPagers x = Net.single(1, 0);
        int[] none = {-1, 1, 11, 12, MIN, MAX};
        for (int identity : none) {
            due.is("join(0, " + identity + ")", x.join(0, identity), NONE);
        }
        x.identity(2, 0);
        due.is("join(0, 1), made since", x.join(0, 1), 2);
    }

    // "NONE when .. it hears that already"
    private static void joinOfWhatItHears() {
        WakingPagers x = new WakingPagers();
        x.pager();
        for (int k = 0; k < 4; k++) {
            x.identity(k, 1);
            due.is("join(0, " + k + ")", x.join(0, k), k + 1);
            for (int j = 0; j <= k; j++) {
                due.is("join(0, " + j + ") again", x.join(0, j), NONE);
            }
        }
    }

    // "A pager hears one more identity: how many it hears. NONE when ..": what is refused changes nothing
    private static void refusedJoinChangesNothing() {
        WakingPagers x = Net.single(8, 0);
        x.identity(9, 0);
        for (int number = 0; number < 3; number += 2) {
            x.transmit(1);
            Net.writeOverIdle(x, 0, Net.addressWord(x, 8, 0));
            Net.writeOverIdle(x, 1, Net.messageWord(x, Net.digits(0, number, 1, 1, 1)));
            x.hear(0, 0);
        }
        due.is("join(0, 0) again", x.join(0, 0), NONE);
        due.is("missed(0, 0) as it was", x.missed(0, 0), 2);
        due.is("join(0, 1): the second", x.join(0, 1), 2);
    }

    // "A pager hears one more identity": others may hear it too
    private static void manyPagersHearOneIdentity() {
        WakingPagers x = Net.single(1, 0);
        Net.callDigits(x, 0, 0, "1");
        x.transmit(1);
        for (int pager = 1; pager < 6; pager++) {
            x.pager();
            due.is("join(" + pager + ", 0)", x.join(pager, 0), 1);
            due.is("hear(" + pager + ", 0)", x.hear(pager, 0), 1);
        }
    }
}
