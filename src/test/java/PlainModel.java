import java.util.ArrayList;
import java.util.HashMap;
import java.util.List;
import java.util.Map;
import java.util.TreeSet;

/**
 * The document once more, as plainly as can be, with lists and texts of bits, so that ModelTest
 * can hold the program against it. Nothing of the program is used here.
 */
final class PlainModel {
    private static final int NONE = -1;
    private static final String SYNC = text(0x7CD215D8);
    private static final String IDLE = text(0x7A89C197);
    /** Words that were repaired once: their data, or NONE. */
    private static final Map<String, Integer> REPAIRED = new HashMap<>();

    private static final class Person {
        int address;
        int kind;
        int called;
    }

    private static final class Call {
        int to;
        int priority;
        int number;
        List<Integer> signs;
        boolean waits = true;
    }

    private static final class Note {
        int identity;
        int number;
        boolean marked;
        List<Integer> signs;
    }

    private static final class Receiver {
        List<Integer> hears = new ArrayList<>();
        Map<Integer, TreeSet<Integer>> missed = new HashMap<>();
        Map<Integer, Integer> latest = new HashMap<>();
        List<Note> notes = new ArrayList<>();
        int[] counts = new int[4];
        int running = NONE;
        StringBuilder content = new StringBuilder();
        int keptNow;
    }

    private final List<Person> people = new ArrayList<>();
    private final List<Receiver> receivers = new ArrayList<>();
    private final List<Call> calls = new ArrayList<>();
    private List<Integer> loaded = new ArrayList<>();
    private StringBuilder air = new StringBuilder();

    private static String text(int word) {
        StringBuilder bits = new StringBuilder();
        for (int k = 31; k >= 0; k--) {
            bits.append(word >>> k & 1);
        }
        return bits.toString();
    }

    private static String codeword(int data) {
        StringBuilder bits = new StringBuilder(text(data).substring(11));
        char[] rest = (bits + "0000000000").toCharArray();
        String generator = Integer.toBinaryString(0x769);
        for (int k = 0; k < 21; k++) {
            if (rest[k] == '0') {
                continue;
            }
            for (int g = 0; g < 11; g++) {
                rest[k + g] = rest[k + g] == generator.charAt(g) ? '0' : '1';
            }
        }
        bits.append(new String(rest).substring(21));
        return bits.append(bits.chars().filter(c -> c == '1').count() % 2).toString();
    }

    private static String but(String word, int bit) {
        return word.substring(0, bit) + (word.charAt(bit) == '0' ? '1' : '0') + word.substring(bit + 1);
    }

    private static int differences(String a, String b) {
        int n = 0;
        for (int k = 0; k < 32; k++) {
            n += a.charAt(k) == b.charAt(k) ? 0 : 1;
        }
        return n;
    }

    private static int dataOf(String word) {
        return Integer.parseInt(word.substring(0, 21), 2);
    }

    private static int near(String word) {
        // At most two of the upper 21 bits are wrong; the others follow from them.
        for (int a = 0; a <= 21; a++) {
            String once = a == 21 ? word : but(word, a);
            for (int b = a; b <= 21; b++) {
                String twice = b == a || b == 21 ? once : but(once, b);
                if (differences(codeword(dataOf(twice)), word) <= 2) {
                    return dataOf(twice);
                }
            }
        }
        return NONE;
    }

    private static int repaired(String word) {
        return REPAIRED.computeIfAbsent(word, PlainModel::near);
    }

    int code(int data) {
        return data < 0 || data >= 1 << 21 ? 0 : Integer.parseUnsignedInt(codeword(data), 2);
    }

    int repair(int word) {
        return repaired(text(word));
    }

    int identity(int address, int kind) {
        boolean wrong = address < 0 || address >= 1 << 21 || kind < 0 || kind > 1 || people.size() == 12;
        if (wrong || address / 8 == 0x3D44E || people.stream().anyMatch(p -> p.address == address)) {
            return NONE;
        }
        Person person = new Person();
        person.address = address;
        person.kind = kind;
        people.add(person);
        return people.size() - 1;
    }

    int pager() {
        if (receivers.size() == 6) {
            return NONE;
        }
        receivers.add(new Receiver());
        return receivers.size() - 1;
    }

    private boolean isPager(int p) {
        return p >= 0 && p < receivers.size();
    }

    private boolean isIdentity(int i) {
        return i >= 0 && i < people.size();
    }

    int join(int pager, int identity) {
        if (!isPager(pager) || !isIdentity(identity)) {
            return NONE;
        }
        Receiver r = receivers.get(pager);
        if (r.hears.contains(identity) || r.hears.size() == 4) {
            return NONE;
        }
        r.hears.add(identity);
        r.missed.put(identity, new TreeSet<>());
        return r.hears.size();
    }

    int load(long signs, int n) {
        if (n < 1 || n > 8) {
            return NONE;
        }
        List<Integer> more = new ArrayList<>(loaded);
        for (int k = n; k >= 1; k--) {
            int sign = (int) (signs >> 8 * (k - 1) & 255);
            if (sign > 126) {
                return NONE;
            }
            more.add(sign);
        }
        if (more.size() > 20) {
            return NONE;
        }
        loaded = more;
        return loaded.size();
    }

    int unload() {
        int n = loaded.size();
        loaded = new ArrayList<>();
        return n;
    }

    int call(int identity, int priority) {
        if (!isIdentity(identity) || priority < 0 || priority > 3 || loaded.isEmpty()) {
            return NONE;
        }
        Person to = people.get(identity);
        for (int sign : loaded) {
            if (to.kind == 0 ? sign > 11 : sign < 32) {
                return NONE;
            }
        }
        if (waiting() == 60 || calls.size() == 200) {
            return NONE;
        }
        Call call = new Call();
        call.to = identity;
        call.priority = priority;
        call.number = to.called++ % 64;
        call.signs = loaded;
        loaded = new ArrayList<>();
        calls.add(call);
        return call.number;
    }

    int waiting() {
        return (int) calls.stream().filter(c -> c.waits).count();
    }

    private String addressWord(int identity) {
        Person p = people.get(identity);
        return codeword(4 * (p.address / 8) + (p.kind == 0 ? 0 : 3));
    }

    private List<String> wordsOf(Call call) {
        int kind = people.get(call.to).kind;
        List<Integer> signs = new ArrayList<>();
        if (kind == 0) {
            signs.add(call.number / 10);
            signs.add(call.number % 10);
        } else {
            signs.add(32 + call.number);
        }
        signs.addAll(call.signs);
        while (kind == 0 && signs.size() % 5 != 0) {
            signs.add(12);
        }
        StringBuilder bits = new StringBuilder();
        for (int sign : signs) {
            for (int k = 0; k < (kind == 0 ? 4 : 7); k++) {
                bits.append(sign >> k & 1);
            }
        }
        while (bits.length() % 20 != 0) {
            bits.append('0');
        }
        List<String> words = new ArrayList<>();
        words.add(addressWord(call.to));
        for (int k = 0; k < bits.length(); k += 20) {
            words.add(codeword(Integer.parseInt("1" + bits.substring(k, k + 20), 2)));
        }
        return words;
    }

    int transmit(int n) {
        if (n < 1 || n > 4) {
            return NONE;
        }
        String[] places = new String[16 * n];
        Map<Integer, Integer> ends = new HashMap<>();
        List<Integer> held = new ArrayList<>();
        List<Call> order = new ArrayList<>(calls);
        order.removeIf(c -> !c.waits);
        order.sort((a, b) -> b.priority - a.priority);
        for (Call call : order) {
            if (held.contains(call.to) || !lay(call, places, ends)) {
                held.add(call.to);
            }
        }
        air = new StringBuilder("10".repeat(32));
        for (int place = 0; place < places.length; place++) {
            air.append(place % 16 == 0 ? SYNC : "").append(places[place] == null ? IDLE : places[place]);
        }
        return air.length();
    }

    private boolean lay(Call call, String[] places, Map<Integer, Integer> ends) {
        List<String> words = wordsOf(call);
        for (int place = ends.getOrDefault(call.to, 0); place < places.length; place++) {
            boolean fits = place % 16 / 2 == people.get(call.to).address % 8;
            for (int k = 0; k < words.size(); k++) {
                fits = fits && place + k < places.length && places[place + k] == null;
            }
            if (fits) {
                for (int k = 0; k < words.size(); k++) {
                    places[place + k] = words.get(k);
                }
                ends.put(call.to, place + words.size());
                call.waits = false;
                return true;
            }
        }
        return false;
    }

    int bit(int i) {
        return i < 0 || i >= air.length() ? NONE : air.charAt(i) - '0';
    }

    int flip(int i) {
        if (bit(i) == NONE) {
            return NONE;
        }
        air.setCharAt(i, air.charAt(i) == '0' ? '1' : '0');
        return bit(i);
    }

    int hear(int pager, int i) {
        if (!isPager(pager) || bit(i) == NONE) {
            return NONE;
        }
        Receiver r = receivers.get(pager);
        r.keptNow = 0;
        String left = air.substring(i);
        String hunted = "";
        // -1 while hunting, else the next word of the batch, 16 for a sync.
        int next = -1;
        while (!left.isEmpty()) {
            int taken = next < 0 ? 1 : 32;
            if (left.length() < taken) {
                break;
            }
            String bits = left.substring(0, taken);
            left = left.substring(taken);
            if (next < 0) {
                r.counts[0]++;
                hunted += bits;
                int n = hunted.length();
                if (n >= 32 && differences(hunted.substring(n - 32), SYNC) <= 2) {
                    next = 0;
                }
            } else if (next < 16) {
                take(r, bits, next / 2);
                next++;
            } else {
                r.counts[0] += 32;
                next = 0;
                if (differences(bits, SYNC) > 2) {
                    finish(r, false);
                    hunted = "";
                    next = -1;
                }
            }
        }
        finish(r, false);
        return r.keptNow;
    }

    private void take(Receiver r, String word, int frame) {
        boolean awake = r.running != NONE || r.hears.stream().anyMatch(h -> people.get(h).address % 8 == frame);
        if (!awake) {
            return;
        }
        r.counts[0] += 32;
        int data = repaired(word);
        if (data == NONE) {
            r.counts[2]++;
            finish(r, true);
            return;
        }
        r.counts[1] += differences(word, codeword(data));
        if (r.running != NONE) {
            if (data >= 1 << 20) {
                r.content.append(text(data).substring(12));
                return;
            }
            finish(r, false);
        }
        for (int h : r.hears) {
            if (people.get(h).address % 8 == frame && addressWord(h).equals(codeword(data))) {
                r.running = h;
                r.content = new StringBuilder();
            }
        }
    }

    private void finish(Receiver r, boolean marked) {
        if (r.running == NONE) {
            return;
        }
        int identity = r.running;
        r.running = NONE;
        int kind = people.get(identity).kind;
        int width = kind == 0 ? 4 : 7;
        List<Integer> signs = new ArrayList<>();
        for (int k = 0; k + width <= r.content.length() && signs.size() < 22; k += width) {
            String bits = new StringBuilder(r.content.substring(k, k + width)).reverse().toString();
            signs.add(Integer.parseInt(bits, 2));
        }
        int number = kind == 0 ? numericNumber(signs) : textNumber(signs);
        if (number == NONE) {
            r.counts[3]++;
            return;
        }
        signs = signs.subList(kind == 0 ? 2 : 1, signs.size());
        while (!signs.isEmpty() && signs.get(signs.size() - 1) == (kind == 0 ? 12 : 0)) {
            signs.remove(signs.size() - 1);
        }
        Note note = new Note();
        note.identity = identity;
        note.number = number;
        note.marked = marked;
        note.signs = signs;
        r.notes.add(note);
        if (r.notes.size() > 10) {
            r.notes.remove(0);
        }
        r.keptNow++;
        noteNumber(r, identity, number);
    }

    private static int numericNumber(List<Integer> signs) {
        if (signs.size() < 2 || signs.get(0) > 9 || signs.get(1) > 9) {
            return NONE;
        }
        int number = signs.get(0) * 10 + signs.get(1);
        return number <= 63 ? number : NONE;
    }

    private static int textNumber(List<Integer> signs) {
        return signs.isEmpty() || signs.get(0) < 32 || signs.get(0) > 95 ? NONE : signs.get(0) - 32;
    }

    private static void noteNumber(Receiver r, int identity, int k) {
        Integer latest = r.latest.get(identity);
        if (latest == null) {
            r.latest.put(identity, k);
        } else {
            int m = (k - latest + 64) % 64;
            if (m >= 1 && m <= 31) {
                for (int between = (latest + 1) % 64; between != k; between = (between + 1) % 64) {
                    r.missed.get(identity).add(between);
                }
                r.latest.put(identity, k);
            }
        }
        r.missed.get(identity).remove(k);
    }

    int kept(int pager) {
        return isPager(pager) ? receivers.get(pager).notes.size() : NONE;
    }

    private Note note(int pager, int k) {
        return k < 0 || k >= kept(pager) ? null : receivers.get(pager).notes.get(k);
    }

    int message(int pager, int k, int what) {
        Note note = note(pager, k);
        if (note == null || what < 0 || what > 3) {
            return NONE;
        }
        return new int[] {note.identity, note.number, note.signs.size(), note.marked ? 1 : 0}[what];
    }

    int sign(int pager, int k, int i) {
        Note note = note(pager, k);
        return note == null || i < 0 || i >= note.signs.size() ? NONE : note.signs.get(i);
    }

    long missed(int pager, int identity) {
        if (!isPager(pager) || !receivers.get(pager).hears.contains(identity)) {
            return 0;
        }
        long bits = 0;
        for (int k : receivers.get(pager).missed.get(identity)) {
            bits += 1L << k;
        }
        return bits;
    }

    int count(int pager, int what) {
        return !isPager(pager) || what < 0 || what > 3 ? NONE : receivers.get(pager).counts[what];
    }

    int desk(int identity, int number, int i) {
        Call found = null;
        for (Call call : calls) {
            if (call.to == identity && call.number == number) {
                found = call;
            }
        }
        return found == null || i < 0 || i >= found.signs.size() ? NONE : found.signs.get(i);
    }
}
