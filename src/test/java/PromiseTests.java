/** One method for each promise: ordinary inputs, the edges that the document names, wrong inputs. */
public final class PromiseTests {
    private static int wrong = 0;
    private static int promise = 0;

    private static void due(String call, long got, long want) {
        if (got != want) {
            wrong++;
            System.out.println("promise " + promise + ": " + call + " answered " + got + ", due is " + want);
        }
    }

    private static void due(String call, boolean got, boolean want) {
        due(call, got ? 1 : 0, want ? 1 : 0);
    }

    public static void main(String[] args) {
        promise = 1; newObject();
        promise = 2; format();
        promise = 3; feed();
        promise = 4; register(); registerRoom();
        promise = 5; begin(); beginRoom();
        promise = 6; send(); sendTwice(); sendRoom(); sendBookRoom(); tapeGoes();
        promise = 7; later();
        promise = 8; end(); endBytes();
        promise = 9; mark();
        promise = 10; marked();
        promise = 11; tick(); tickOrder(); tickLimits(); tickClosed();
        promise = 12; fetch(); fetchCommitted();
        promise = 13; answer();
        promise = 14; sync();
        promise = 15; crash(); crashOrder();
        promise = 16; open(); openEveryPrefix(); openTells(); openWithoutParts(); openForgets();
        promise = 17; partition();
        promise = 18; entry();
        promise = 19; producer();
        promise = 20; next();
        promise = 21; byteOf();
        promise = 22; count();
        System.out.println(wrong == 0 ? "all answers are as due" : wrong + " answers are not as due");
        if (wrong != 0) System.exit(1);
    }

    private static OnceLedger house(int partitions, int capacity, int timeout) {
        OnceLedger x = new OnceLedger();
        due("format", x.format(partitions, capacity, timeout), true);
        return x;
    }

    /**
     * Fills the BOOK until so many bytes are left, in some 320 calls (an object has 512): TRANSACTIONS of
     * the KEYS 8 to 31 that tick() ends bring four ENTRIES each, marks the rest.
     */
    private static void fillBook(OnceLedger x, int left) {
        int full = 16000 - left;
        for (int key = 8; key < 32; key++) due("register in fillBook", x.register(key), 0);
        int bytes = x.count(5);
        int epoch = 0;
        for (; bytes + 24 * 64 <= full; bytes += 24 * 64) {
            for (int key = 8; key < 32; key++) due("begin in fillBook", Math.min(x.begin(key, epoch), 0), 0);
            due("tick in fillBook", x.tick(101), 24);
            epoch++;
        }
        for (; bytes + 64 <= full; bytes += 64) {
            due("begin in fillBook", Math.min(x.begin(8, epoch), 0), 0);
            epoch++;
            due("register in fillBook", x.register(8), epoch);
        }
        for (; bytes + 16 <= full; bytes += 16) due("mark in fillBook", x.mark(0, 0, 0), 0);
        due("bytes of the book", x.count(5), full);
    }

    private static void newObject() {
        OnceLedger x = new OnceLedger();
        due("NONE", OnceLedger.NONE, -1);
        due("count(0)", x.count(0), 4);
        due("count(1)", x.count(1), 2000);
        due("count(2)", x.count(2), 100);
        for (int what = 3; what <= 11; what++) due("count(" + what + ")", x.count(what), 0);
        due("answer(0)", x.answer(0), -1);
        for (int key = 0; key < 32; key++) due("producer", x.producer(key, 0), -1);
        for (int group = 0; group < 8; group++) due("marked", x.marked(group, 3), -1);
        for (int p = 0; p < 4; p++) due("partition", x.partition(p, 2), 0);
        due("partition(4, 0)", x.partition(4, 0), -1);
    }

    private static void format() {
        OnceLedger x = new OnceLedger();
        x.feed(3, 0x030201L, 0);
        x.register(1);
        x.send(1, 0, 0, 0, false);
        x.feed(2, 0x0504L, 0);
        x.fetch(0, 0, false);
        x.mark(1, 1, 5);
        x.begin(1, 0);
        x.tick(7);
        int[][] refused = {{0, 100, 1}, {9, 100, 1}, {-1, 100, 1}, {1, 99, 1}, {1, 4001, 1}, {1, 100, 0},
            {1, 100, 1001}, {Integer.MIN_VALUE, 100, 1}, {1, Integer.MAX_VALUE, 1}, {1, 100, Integer.MAX_VALUE}};
        for (int[] f : refused) due("refused format", x.format(f[0], f[1], f[2]), false);
        due("count(3) is as it was", x.count(3), 7);
        due("producer is as it was", x.producer(1, 1), 0);
        due("answer is as it was", x.answer(2), 3);
        due("marked is as it was", x.marked(1, 1), 5);
        x.crash(10);
        due("format(8, 4000, 1000)", x.format(8, 4000, 1000), true);
        due("answer(0)", x.answer(0), -1);
        due("tape stays", x.count(6), 2);
        int[] counts = {8, 4000, 1000, 0, 0, 0, 2, 0, 0, 0, 0, 0};
        for (int what = 0; what < 12; what++) due("count(" + what + ")", x.count(what), counts[what]);
        due("marked(1, 1)", x.marked(1, 1), -1);
        due("producer(1, 0)", x.producer(1, 0), -1);
        for (int p = 0; p < 8; p++) due("partition bytes", x.partition(p, 2), 0);
        due("register(1)", x.register(1), 0);
        due("send(1, 0, 7, 0)", x.send(1, 0, 7, 0, false), 0);
        due("entry(7, 0, 4)", x.entry(7, 0, 4), 2);
        due("send(1, 0, 0, 0)", x.send(1, 0, 0, 0, false), 0);
        due("format(1, 100, 1)", x.format(1, 100, 1), true);
        due("partition(0, 0)", x.partition(0, 0), 0);
        due("partition(0, 2)", x.partition(0, 2), 0);
        due("byteOf(0, 0)", x.byteOf(0, 0), -1);
        due("partition(1, 0)", x.partition(1, 0), -1);
        due("count(4)", x.count(4), 0);
        x.register(0);
        x.crash(3);
        x.open();
        due("count(8) of the open", x.count(8), 3);
        x.format(1, 100, 1);
        due("count(8) of a new house", x.count(8), 0);
    }

    private static void feed() {
        OnceLedger x = new OnceLedger();
        due("feed(0)", x.feed(0, 1, 1), -1);
        due("feed(-1)", x.feed(-1, 1, 1), -1);
        due("feed(17)", x.feed(17, 1, 1), -1);
        due("feed(MIN)", x.feed(Integer.MIN_VALUE, 1, 1), -1);
        due("feed(MAX)", x.feed(Integer.MAX_VALUE, 1, 1), -1);
        due("feed(16)", x.feed(16, 0x8807060504030201L, 0xF00F0E0D0C0B0A09L), 16);
        due("feed(9)", x.feed(9, -1L, 0x7E), 25);
        due("feed(16) too much", x.feed(16, 1, 1), -1);
        due("count(6)", x.count(6), 25);
        due("feed(15)", x.feed(15, 5, 6), 40);
        due("feed(1) too much", x.feed(1, 5, 6), -1);
        x.register(0);
        due("send", x.send(0, 0, 0, 0, false), 0);
        due("fetch", x.fetch(0, 0, true), 0);
        int[] first = {1, 2, 3, 4, 5, 6, 7, 0x88, 9, 10, 11, 12, 13, 14, 15, 0xF0,
            255, 255, 255, 255, 255, 255, 255, 255, 0x7E, 5, 0, 0, 0, 0, 0, 0, 0, 6, 0, 0, 0, 0, 0, 0};
        for (int i = 0; i < 40; i++) due("answer(" + i + ")", x.answer(i), first[i]);
        x.crash(0);
        due("feed while CLOSED", x.feed(2, 0, 0), 2);
        due("tape while CLOSED", x.count(6), 2);
    }

    private static void register() {
        OnceLedger x = new OnceLedger();
        due("register(-1)", x.register(-1), -2);
        due("register(32)", x.register(32), -2);
        due("register(MIN)", x.register(Integer.MIN_VALUE), -2);
        due("count(5)", x.count(5), 0);
        due("register(31)", x.register(31), 0);
        due("register(31)", x.register(31), 1);
        due("register(0)", x.register(0), 0);
        due("count(9)", x.count(9), 2);
        x.begin(31, 1);
        x.send(31, 1, 2, 0, true);
        x.later(31, 1, 0, 0, 4);
        int bytes = x.count(5);
        due("register(31)", x.register(31), 2);
        due("book bytes", x.count(5), bytes + 48);
        due("DECIDE", x.byteOf(4, bytes + 4), 4);
        due("DECIDE abort", x.byteOf(4, bytes + 11), 0);
        due("DECIDE epoch", x.byteOf(4, bytes + 7), 1);
        due("DONE", x.byteOf(4, bytes + 20), 5);
        due("REGISTER", x.byteOf(4, bytes + 36), 0);
        due("REGISTER key", x.byteOf(4, bytes + 37), 31);
        due("REGISTER epoch", x.byteOf(4, bytes + 39), 2);
        for (int i = 40; i < 48; i++) due("REGISTER A, B", x.byteOf(4, bytes + i), 0);
        due("ABORT", x.entry(2, 1, 0), 3);
        due("ABORT epoch", x.entry(2, 1, 2), 1);
        due("open", x.producer(31, 1), -1);
        due("no mark", x.marked(0, 0), -1);
        x.crash(0);
        due("register while CLOSED", x.register(31), -1);
        due("register(99) while CLOSED", x.register(99), -1);
    }

    private static void registerRoom() {
        OnceLedger x = new OnceLedger();
        x.register(1);
        fillBook(x, 64 + 16);
        x.begin(1, 0);
        due("register(2) takes the last place", x.register(2), 0);
        due("register(2)", x.register(2), -8);
        due("register(3)", x.register(3), -8);
        due("register(40)", x.register(40), -2);
        due("producer(3, 0)", x.producer(3, 0), -1);
        due("producer(2, 0)", x.producer(2, 0), 0);
        due("count(5)", x.count(5), 15952);
        due("register(1) from kept place", x.register(1), 1);
        due("count(5)", x.count(5), 16000);
        due("register(1) in a full book", x.register(1), -8);
    }

    private static void begin() {
        OnceLedger x = new OnceLedger();
        due("begin(0, 0) not REGISTERED", x.begin(0, 0), -2);
        due("begin(-1, 0)", x.begin(-1, 0), -2);
        due("begin(32, 0)", x.begin(32, 0), -2);
        x.register(5);
        x.register(6);
        x.register(6);
        x.tick(300);
        due("begin(5, 1)", x.begin(5, 1), -3);
        due("begin(6, 0)", x.begin(6, 0), -3);
        due("begin(6, -1)", x.begin(6, -1), -3);
        int bytes = x.count(5);
        due("begin(6, 1)", x.begin(6, 1), 0);
        int[] body = {1, 6, 0, 1, 0, 0, 1, 44, 0, 0, 0, 0};
        for (int i = 0; i < 12; i++) due("BEGIN byte " + i, x.byteOf(4, bytes + 4 + i), body[i]);
        due("begin(6, 1)", x.begin(6, 1), -4);
        due("begin(6, 0)", x.begin(6, 0), -3);
        due("begin(5, 0)", x.begin(5, 0), 1);
        x.end(6, 1, false);
        due("begin(6, 1)", x.begin(6, 1), 2);
        due("producer(6, 2)", x.producer(6, 2), 300);
        x.crash(0);
        due("begin while CLOSED", x.begin(6, 1), -1);
        due("begin while CLOSED", x.begin(77, 1), -1);
    }

    private static void beginRoom() {
        OnceLedger x = new OnceLedger();
        x.register(1);
        x.register(2);
        fillBook(x, 64 + 64 - 16);
        due("begin(1, 0)", x.begin(1, 0) >= 0, true);
        due("begin(2, 0) lacks 16", x.begin(2, 0), -8);
        due("begin(2, 0) one is OPEN comes ahead", x.begin(1, 0), -4);
        due("count(10)", x.count(10), 1);
        x = new OnceLedger();
        x.register(1);
        x.register(2);
        fillBook(x, 64 + 64);
        due("begin(1, 0)", x.begin(1, 0) >= 0, true);
        due("begin(2, 0) fits", x.begin(2, 0) >= 0, true);
        due("mark", x.mark(0, 0, 0), -8);
        due("end", x.end(1, 0, true), 0);
        due("count(5)", x.count(5), 15936);
        due("mark", x.mark(0, 0, 0), 0);
        due("mark", x.mark(0, 0, 0), -8);
    }

    private static void send() {
        OnceLedger x = house(2, 200, 10);
        due("send not REGISTERED", x.send(0, 0, 0, 0, false), -2);
        x.register(0);
        x.register(0);
        due("send key", x.send(-1, 1, 0, 0, false), -2);
        due("send key", x.send(32, 1, 0, 0, false), -2);
        due("send partition", x.send(0, 1, 2, 0, false), -2);
        due("send partition", x.send(0, 1, -1, 0, false), -2);
        due("send partition ahead of FENCED", x.send(0, 0, 2, 0, false), -2);
        due("send FENCED", x.send(0, 0, 0, 0, false), -3);
        due("send FENCED ahead of -5", x.send(0, 2, 0, 0, true), -3);
        due("send part", x.send(0, 1, 0, 0, true), -5);
        due("send -5 ahead of -6", x.send(0, 1, 0, 9, true), -5);
        due("send NEXT", x.send(0, 1, 0, 1, false), -6);
        due("send NEXT", x.send(0, 1, 0, -1, false), -6);
        due("send", x.send(0, 1, 0, 0, false), 0);
        due("no ADD for PLAIN", x.count(5), 32);
        x.begin(0, 1);
        due("send plain in a TRANSACTION", x.send(0, 1, 0, 1, false), -5);
        due("send again in a TRANSACTION, plain", x.send(0, 1, 0, 0, false), -5);
        due("send again in a TRANSACTION, part", x.send(0, 1, 0, 0, true), 0);
        due("nothing was ADDED", x.producer(0, 3), 0);
        x.feed(2, 0xBBAAL, 0);
        due("send part", x.send(0, 1, 1, 0, true), 0);
        due("ADDED", x.producer(0, 3), 2);
        int[] add = {2, 0, 0, 1, 0, 0, 0, 1, 0, 0, 0, 0};
        for (int i = 0; i < 12; i++) due("ADD byte " + i, x.byteOf(2, 48 + 4 + i), add[i]);
        int[] entry = {0, 2, 1, 0, 0, 1, 0, 0, 0, 0, 0xAA, 0xBB};
        for (int i = 0; i < 12; i++) due("PART byte " + i, x.byteOf(1, 4 + i), entry[i]);
        due("sum", sumAt(x, 1, 0), sumOf(x, 1, 4, 16));
        due("sum", sumAt(x, 2, 48), sumOf(x, 2, 52, 64));
        due("send part", x.send(0, 1, 1, 1, true), 1);
        due("one ADD alone", x.count(5), 64);
        x.crash(0);
        due("send while CLOSED", x.send(0, 1, 1, 1, true), -1);
        due("send while CLOSED", x.send(99, 1, 1, 1, true), -1);
    }

    private static int sumAt(OnceLedger x, int file, int at) {
        return x.byteOf(file, at) << 24 | x.byteOf(file, at + 1) << 16 | x.byteOf(file, at + 2) << 8
            | x.byteOf(file, at + 3);
    }

    private static int sumOf(OnceLedger x, int file, int from, int to) {
        int s = 17;
        for (int i = from; i < to; i++) s = s * 31 + x.byteOf(file, i);
        return s;
    }

    private static void sendTwice() {
        OnceLedger x = new OnceLedger();
        x.register(0);
        x.register(1);
        for (int i = 0; i < 3; i++) x.send(0, 0, 0, i, false);
        due("other KEY", x.send(1, 0, 0, 0, false), 3);
        x.begin(0, 0);
        for (int i = 3; i < 6; i++) x.send(0, 0, 0, i, true);
        x.end(0, 0, false);
        due("entries", x.partition(0, 0), 8);
        due("send 5 again", x.send(0, 0, 0, 5, false), 6);
        due("send 3 again", x.send(0, 0, 0, 3, false), 4);
        due("send 2 again", x.send(0, 0, 0, 2, false), 2);
        due("send 1 again, the fifth latest", x.send(0, 0, 0, 1, false), 1);
        due("send 0 again, the sixth latest", x.send(0, 0, 0, 0, false), -6);
        due("send 0 again by 1", x.send(1, 0, 0, 0, false), 3);
        due("send 7", x.send(0, 0, 0, 7, false), -6);
        due("nothing was done", x.partition(0, 0), 8);
        due("send 5 elsewhere", x.send(0, 0, 1, 5, false), -6);
        x.register(0);
        due("send 5 with a new EPOCH", x.send(0, 1, 0, 5, false), -6);
        due("send 0 with a new EPOCH", x.send(0, 1, 0, 0, false), 8);
        due("send 1 with a new EPOCH", x.send(0, 1, 0, 1, false), 9);
        x.sync();
        x.crash(0);
        x.open();
        due("send 0 again, after opening", x.send(0, 1, 0, 0, false), 8);
        due("send 2, after opening", x.send(0, 1, 0, 2, false), 10);
    }

    private static void sendRoom() {
        OnceLedger x = house(2, 100, 10);
        x.register(0);
        x.register(1);
        feedMany(x, 40);
        due("send 54", x.send(0, 0, 0, 0, false), 0);
        feedMany(x, 33);
        due("send 47 of 46", x.send(0, 0, 0, 1, false), -8);
        feedMany(x, 32);
        due("send 46 of 46", x.send(0, 0, 0, 1, false), 1);
        due("bytes", x.partition(0, 2), 100);
        due("send to a full one", x.send(0, 0, 0, 2, false), -8);
        due("send again to a full one", x.send(0, 0, 0, 1, false), 1);
        due("-6 ahead of -8", x.send(0, 0, 0, 3, false), -6);
        x.begin(0, 0);
        feedMany(x, 40);
        due("send part", x.send(0, 0, 1, 0, true), 0);
        feedMany(x, 19);
        due("send part, 14 are kept", x.send(0, 0, 1, 1, true), -8);
        x.begin(1, 0);
        feedMany(x, 5);
        due("send part, 28 are kept", x.send(1, 0, 1, 0, true), -8);
        due("refused, so not ADDED", x.producer(1, 3), 0);
        due("book", x.count(5), 16 * 5);
        feedMany(x, 4);
        due("send part, 28 are kept", x.send(1, 0, 1, 0, true), 1);
        due("bytes", x.partition(1, 2), 72);
        x.register(2);
        due("send plain, 28 are kept", x.send(2, 0, 1, 0, false), -8);
        x.end(0, 0, true);
        x.end(1, 0, true);
        due("bytes", x.partition(1, 2), 100);
        due("full of PARTS", x.send(2, 0, 1, 0, false), -8);
    }

    private static void sendBookRoom() {
        OnceLedger x = house(2, 4000, 10);
        x.register(0);
        fillBook(x, 64 + 16);
        x.begin(0, 0);
        due("send part with the last ADD", x.send(0, 0, 0, 0, true), 0);
        due("send part without place for an ADD", x.send(0, 0, 1, 0, true), -8);
        due("send part without need of an ADD", x.send(0, 0, 0, 1, true), 1);
        due("later", x.later(0, 0, 0, 0, 0), -8);
        due("mark", x.mark(0, 0, 0), -8);
        due("end", x.end(0, 0, true), 0);
        due("begin", x.begin(0, 0), -8);
        due("send plain", x.send(0, 0, 1, 0, false), 0);
        due("book", x.count(5), 15984);
        due("mark", x.mark(0, 1, 1), 0);
        due("mark", x.mark(0, 1, 2), -8);
        due("marked", x.marked(0, 1), 1);
    }

    private static void feedMany(OnceLedger x, int n) {
        for (int left = n; left > 0; left -= 16) x.feed(Math.min(left, 16), 0x0807060504030201L, 0x100F0E0D0C0B0A09L);
        due("tape", x.count(6), n);
    }

    private static void tapeGoes() {
        OnceLedger x = house(1, 100, 10);
        int[][] calls = {{9, 0, 0, 0, 0, -2}, {0, 5, 0, 0, 0, -3}, {0, 0, 3, 0, 0, -2}, {0, 0, 0, 0, 1, -5},
            {0, 0, 0, 4, 0, -6}, {0, 0, 0, 0, 0, 0}, {0, 0, 0, 0, 0, 0}, {0, 0, 0, 1, 0, 1}, {0, 0, 0, 2, 0, -8}};
        x.register(0);
        for (int[] c : calls) {
            feedMany(x, 30);
            due("send", x.send(c[0], c[1], c[2], c[3], c[4] == 1), c[5]);
            due("tape behind send", x.count(6), 0);
        }
        x.feed(3, 1, 1);
        x.crash(0);
        due("tape behind crash", x.count(6), 3);
        due("send while CLOSED", x.send(0, 0, 0, 0, false), -1);
        due("tape behind send", x.count(6), 0);
    }

    private static void later() {
        OnceLedger x = house(2, 200, 10);
        due("not REGISTERED", x.later(0, 0, 0, 0, 0), -2);
        x.register(0);
        due("group", x.later(0, 0, 8, 0, 0), -2);
        due("group", x.later(0, 0, -1, 0, 0), -2);
        due("partition", x.later(0, 0, 0, 2, 0), -2);
        due("partition", x.later(0, 0, 0, -1, 0), -2);
        due("offset", x.later(0, 0, 0, 0, -1), -2);
        due("offset ahead of FENCED", x.later(0, 1, 0, 0, -1), -2);
        due("key", x.later(32, 0, 0, 0, 0), -2);
        due("FENCED ahead of -5", x.later(0, 1, 0, 0, 0), -3);
        due("no TRANSACTION", x.later(0, 0, 0, 0, 0), -5);
        x.begin(0, 0);
        due("later", x.later(0, 0, 7, 1, Integer.MAX_VALUE), 0);
        int[] body = {3, 0, 0, 0, 0, 0, 0, 57, 127, 255, 255, 255};
        for (int i = 0; i < 12; i++) due("LATER byte " + i, x.byteOf(2, 32 + 4 + i), body[i]);
        due("later", x.later(0, 0, 7, 1, 3), 0);
        due("later", x.later(0, 0, 0, 0, 9), 0);
        due("how many", x.producer(0, 4), 3);
        due("marked", x.marked(7, 1), -1);
        x.mark(7, 1, 50);
        x.end(0, 0, true);
        due("the last LATER holds", x.marked(7, 1), 3);
        due("marked", x.marked(0, 0), 9);
        due("ADDED is none by LATER", x.partition(1, 0), 0);
        x.begin(0, 0);
        x.later(0, 0, 7, 1, 77);
        x.end(0, 0, false);
        due("abort leaves the MARK", x.marked(7, 1), 3);
        x.begin(0, 0);
        x.end(0, 0, true);
        due("LATER of an earlier one is gone", x.marked(7, 1), 3);
        x.sync();
        x.crash(0);
        due("later while CLOSED", x.later(0, 0, 0, 0, -1), -1);
        x.open();
        due("marked behind open", x.marked(7, 1), 3);
    }

    private static void end() {
        OnceLedger x = house(2, 200, 10);
        due("not REGISTERED", x.end(0, 0, true), -2);
        x.register(0);
        due("key", x.end(32, 0, true), -2);
        due("key", x.end(-1, 0, true), -2);
        due("FENCED", x.end(0, 1, true), -3);
        due("none is OPEN", x.end(0, 0, true), -5);
        x.begin(0, 0);
        due("FENCED", x.end(0, 1, true), -3);
        due("end", x.end(0, 0, true), 0);
        due("end again", x.end(0, 0, true), -5);
        due("nothing came to a PARTITION", x.partition(0, 0) + x.partition(1, 0), 0);
        due("OPEN", x.producer(0, 1), -1);
        x.crash(0);
        due("end while CLOSED", x.end(0, 0, true), -1);
    }

    private static void endBytes() {
        for (int commit = 0; commit < 2; commit++) {
            OnceLedger x = house(8, 200, 10);
            x.register(9);
            x.begin(9, 0);
            x.end(9, 0, true);
            x.begin(9, 0);
            x.send(9, 0, 6, 0, true);
            x.send(9, 0, 2, 0, true);
            int bytes = x.count(5);
            x.sync();
            x.end(9, 0, commit == 1);
            due("bytes", x.count(4), 60);
            int[] decide = {4, 9, 0, 0, 0, 0, 0, commit, 0, 0, 0, 1};
            int[] done = {5, 9, 0, 0, 0, 0, 0, 0, 0, 0, 0, 1};
            int[] ended = {0, 0, 2 + 1 - commit, 9, 0, 0, 0, 0, 0, 1};
            for (int i = 0; i < 12; i++) due("DECIDE byte " + i, x.byteOf(8, bytes + 4 + i), decide[i]);
            for (int i = 0; i < 12; i++) due("DONE byte " + i, x.byteOf(8, bytes + 20 + i), done[i]);
            for (int i = 0; i < 10; i++) due("end in 2, byte " + i, x.byteOf(2, 18 + i), ended[i]);
            for (int i = 0; i < 10; i++) due("end in 6, byte " + i, x.byteOf(6, 18 + i), ended[i]);
            due("sum", sumAt(x, 6, 14), sumOf(x, 6, 18, 28));
            due("sum", sumAt(x, 8, bytes), sumOf(x, 8, bytes + 4, bytes + 16));
            due("SEEN COMMITTED", x.partition(6, 4), commit);
        }
    }

    private static void mark() {
        OnceLedger x = house(2, 200, 10);
        due("group", x.mark(8, 0, 0), -2);
        due("group", x.mark(-1, 0, 0), -2);
        due("partition", x.mark(0, 2, 0), -2);
        due("partition", x.mark(0, -1, 0), -2);
        due("offset", x.mark(0, 0, -1), -2);
        due("mark", x.mark(7, 1, 258), 0);
        int[] body = {6, 0, 0, 0, 0, 0, 0, 57, 0, 0, 1, 2};
        for (int i = 0; i < 12; i++) due("MARK byte " + i, x.byteOf(2, 4 + i), body[i]);
        due("mark", x.mark(7, 1, 2), 0);
        due("marked", x.marked(7, 1), 2);
        due("count(9)", x.count(9), 0);
        fillBook(x, 0);
        due("mark in a full BOOK", x.mark(7, 1, 4), -8);
        due("-2 ahead of -8", x.mark(8, 1, 4), -2);
        due("marked", x.marked(7, 1), 2);
        x.crash(0);
        due("mark while CLOSED", x.mark(7, 1, 4), -1);
        due("mark while CLOSED", x.mark(9, 1, 4), -1);
    }

    private static void marked() {
        OnceLedger x = house(8, 200, 10);
        for (int g = 0; g < 8; g++) for (int p = 0; p < 8; p++) x.mark(g, p, 100 * g + p);
        for (int g = 0; g < 8; g++) for (int p = 0; p < 8; p++) due("marked", x.marked(g, p), 100 * g + p);
        due("group", x.marked(8, 0), -1);
        due("group", x.marked(-1, 7), -1);
        due("partition", x.marked(0, 8), -1);
        due("partition", x.marked(1, -1), -1);
        due("MAX", x.marked(Integer.MAX_VALUE, Integer.MAX_VALUE), -1);
        x.mark(0, 0, 7);
        x.crash(64 * 16);
        due("while CLOSED", x.marked(0, 0), -1);
        x.open();
        due("behind open", x.marked(0, 0), 0);
        due("behind open", x.marked(7, 7), 707);
    }

    private static void tick() {
        OnceLedger x = house(2, 300, 10);
        x.register(3);
        x.begin(3, 0);
        x.send(3, 0, 1, 0, true);
        x.later(3, 0, 0, 0, 5);
        due("tick(10)", x.tick(10), 0);
        due("OPEN", x.producer(3, 1), 0);
        int bytes = x.count(5);
        due("tick(1)", x.tick(1), 1);
        due("EPOCH", x.producer(3, 0), 1);
        due("OPEN", x.producer(3, 1), -1);
        due("ABORT", x.entry(1, 1, 0), 3);
        due("ABORT's EPOCH", x.entry(1, 1, 2), 0);
        due("book", x.count(5), bytes + 48);
        due("marked", x.marked(0, 0), -1);
        due("send", x.send(3, 0, 1, 1, true), -3);
        due("tick(0)", x.tick(0), 0);
        due("CLOCK", x.count(3), 11);
    }

    private static void tickOrder() {
        OnceLedger x = house(2, 400, 5);
        for (int key = 0; key < 4; key++) x.register(key);
        x.begin(2, 0);
        x.begin(0, 0);
        x.send(0, 0, 0, 0, true);
        x.send(2, 0, 0, 0, true);
        x.tick(1);
        x.begin(3, 0);
        x.begin(1, 0);
        x.end(1, 0, false);
        int bytes = x.count(5);
        due("tick(5)", x.tick(5), 2);
        int[] kinds = {4, 5, 0, 4, 5, 0};
        int[] keys = {2, 2, 2, 0, 0, 0};
        for (int i = 0; i < 6; i++) {
            due("kind " + i, x.byteOf(2, bytes + 16 * i + 4), kinds[i]);
            due("key " + i, x.byteOf(2, bytes + 16 * i + 5), keys[i]);
        }
        due("first ABORT", x.entry(0, 2, 3), 0);
        due("second ABORT", x.entry(0, 3, 3), 1);
        due("OPEN still", x.producer(3, 1), 2);
        due("EPOCH of the others", x.producer(1, 0) + x.producer(3, 0), 0);
        due("tick(1)", x.tick(1), 1);
    }

    /** The CLOCK's end lies behind an object's 512th call; what the words say holds there too. */
    private static void tickLimits() {
        OnceLedger x = new OnceLedger();
        due("tick(-1)", x.tick(-1), -2);
        due("tick(1001)", x.tick(1001), -2);
        due("tick(MAX)", x.tick(Integer.MAX_VALUE), -2);
        due("tick(MIN)", x.tick(Integer.MIN_VALUE), -2);
        due("CLOCK", x.count(3), 0);
        for (int i = 0; i < 999; i++) x.tick(1000);
        due("tick(999)", x.tick(999), 0);
        due("tick(2)", x.tick(2), -2);
        due("CLOCK", x.count(3), 999999);
        due("tick(1)", x.tick(1), 0);
        due("CLOCK", x.count(3), 1000000);
        due("tick(1)", x.tick(1), -2);
        due("tick(0)", x.tick(0), 0);
    }

    private static void tickClosed() {
        OnceLedger x = house(2, 400, 5);
        x.register(0);
        x.tick(2);
        x.begin(0, 0);
        x.sync();
        x.crash(0);
        due("tick(6) while CLOSED", x.tick(6), 0);
        due("tick(1001) while CLOSED", x.tick(1001), -2);
        due("CLOCK", x.count(3), 8);
        due("open", x.open(), 0);
        due("began", x.producer(0, 2), 2);
        due("tick(0)", x.tick(0), 1);
        due("EPOCH", x.producer(0, 0), 1);
    }

    private static void fetch() {
        OnceLedger x = house(2, 300, 10);
        x.register(0);
        x.feed(2, 0x0201, 0);
        x.send(0, 0, 0, 0, false);
        x.begin(0, 0);
        x.feed(1, 3, 0);
        x.send(0, 0, 0, 1, true);
        x.end(0, 0, false);
        x.feed(1, 4, 0);
        x.send(0, 0, 0, 2, false);
        due("fetch 0", x.fetch(0, 0, false), 0);
        due("answer", x.answer(1), 2);
        due("fetch 1", x.fetch(0, 1, false), 1);
        due("answer", x.answer(0), 3);
        due("answer", x.answer(1), -1);
        due("fetch 2", x.fetch(0, 2, false), 3);
        due("answer", x.answer(0), 4);
        due("fetch 4", x.fetch(0, 4, false), -1);
        due("answer", x.answer(0), -1);
        int[][] none = {{0, -1}, {0, 4}, {0, Integer.MAX_VALUE}, {0, Integer.MIN_VALUE}, {1, 0}, {2, 0}, {-1, 0}};
        for (int[] n : none) {
            for (int c = 0; c < 2; c++) {
                x.fetch(0, 0, false);
                due("fetch none", x.fetch(n[0], n[1], c == 1), -1);
                due("answer", x.answer(0), -1);
            }
        }
        x.fetch(0, 0, false);
        x.sync();
        x.crash(0);
        due("ANSWER behind crash", x.answer(0), 1);
        due("fetch while CLOSED", x.fetch(0, 0, false), -1);
        due("answer", x.answer(0), -1);
    }

    private static void fetchCommitted() {
        OnceLedger x = house(1, 1000, 10);
        for (int key = 0; key < 3; key++) x.register(key);
        x.begin(0, 0);
        x.begin(1, 0);
        x.send(2, 0, 0, 0, false);
        x.send(0, 0, 0, 0, true);
        x.send(1, 0, 0, 0, true);
        x.send(2, 0, 0, 1, false);
        x.end(1, 0, true);
        due("below STABLE", x.fetch(0, 0, true), 0);
        due("STABLE", x.partition(0, 1), 1);
        due("above STABLE", x.fetch(0, 1, true), -1);
        due("above STABLE", x.fetch(0, 2, true), -1);
        due("COMMITTED", x.partition(0, 4), 1);
        x.end(0, 0, false);
        due("STABLE", x.partition(0, 1), 6);
        due("aborted", x.fetch(0, 1, true), 2);
        due("PLAIN", x.fetch(0, 3, true), 3);
        due("ends are not SEEN", x.fetch(0, 4, true), -1);
        due("ends are not SEEN", x.fetch(0, 4, false), -1);
        x.begin(0, 0);
        due("STABLE without a PART", x.partition(0, 1), 6);
        x.send(0, 0, 0, 1, true);
        due("STABLE", x.partition(0, 1), 6);
        x.end(0, 0, true);
        due("first aborted", x.fetch(0, 1, true), 2);
        due("then committed", x.fetch(0, 4, true), 6);
        due("COMMITTED", x.partition(0, 4), 4);
    }

    private static void answer() {
        OnceLedger x = house(1, 300, 10);
        x.register(0);
        due("answer(0)", x.answer(0), -1);
        feedMany(x, 40);
        x.send(0, 0, 0, 0, false);
        x.feed(1, 0xFF, 0);
        x.send(0, 0, 0, 1, false);
        x.fetch(0, 0, true);
        due("answer(-1)", x.answer(-1), -1);
        due("answer(0)", x.answer(0), 1);
        due("answer(39)", x.answer(39), 8);
        due("answer(40)", x.answer(40), -1);
        due("answer(MAX)", x.answer(Integer.MAX_VALUE), -1);
        due("answer(MIN)", x.answer(Integer.MIN_VALUE), -1);
        x.fetch(0, 1, true);
        due("answer(0)", x.answer(0), 255);
        due("answer(1)", x.answer(1), -1);
    }

    private static void sync() {
        OnceLedger x = house(1, 300, 10);
        due("sync of nothing", x.sync(), 0);
        x.register(0);
        x.feed(3, 0, 0);
        x.send(0, 0, 0, 0, false);
        due("sync", x.sync(), 33);
        due("sync again", x.sync(), 0);
        due("UNSYNCED", x.partition(0, 3) + x.count(4), 0);
        x.mark(0, 0, 0);
        x.sync();
        due("crash keeps what is synced", x.crash(0), 0);
        due("bytes", x.count(5), 32);
        due("sync while CLOSED", x.sync(), -1);
    }

    private static void crash() {
        OnceLedger x = house(1, 300, 10);
        x.register(0);
        due("crash(17)", x.crash(17), -2);
        due("crash(-1)", x.crash(-1), -2);
        due("crash(MIN)", x.crash(Integer.MIN_VALUE), -2);
        due("crash(MAX)", x.crash(Integer.MAX_VALUE), -2);
        due("not CLOSED", x.count(7), 0);
        due("crash(16)", x.crash(16), 0);
        due("CLOSED", x.count(7), 1);
        due("crash while CLOSED", x.crash(0), -1);
        due("crash(-1) while CLOSED", x.crash(-1), -1);
        due("open", x.open(), 0);
        due("EPOCH", x.producer(0, 0), 0);
        due("crash(0)", x.crash(0), 0);
        due("open", x.open(), 0);
        due("EPOCH", x.producer(0, 0), 0);
        x.register(0);
        x.register(1);
        due("crash(15)", x.crash(15), 17);
        due("bytes", x.count(5), 31);
        x.open();
        due("bytes", x.count(5), 16);
        due("EPOCH", x.producer(0, 0), 0);
        due("not REGISTERED", x.producer(1, 0), -1);
        due("CUT", x.count(8), 15);
    }

    private static void crashOrder() {
        int[] files = {2, 0, 1, 0, 2, 1};
        int[] sizes = {16, 15, 14, 16, 16, 14};
        for (int kept = 0; kept <= 91; kept++) {
            OnceLedger x = house(2, 300, 10);
            x.register(0);
            x.sync();
            x.register(1);
            x.feed(1, 1, 0);
            x.send(0, 0, 0, 0, false);
            x.send(0, 0, 1, 0, false);
            x.feed(2, 1, 0);
            x.send(1, 0, 0, 0, false);
            x.mark(0, 0, 1);
            x.send(1, 0, 1, 0, false);
            due("crash(" + kept + ")", x.crash(kept), 91 - kept);
            int[] bytes = {0, 0, 16};
            int left = kept;
            for (int i = 0; i < 6; i++) {
                int part = Math.min(left, sizes[i]);
                bytes[files[i]] += part;
                left -= part;
            }
            due("bytes of 0", x.partition(0, 2), bytes[0]);
            due("bytes of 1", x.partition(1, 2), bytes[1]);
            due("bytes of the BOOK", x.count(5), bytes[2]);
            due("UNSYNCED", x.count(4) + x.partition(0, 3) + x.partition(1, 3), 0);
            due("whole ENTRIES of 0", x.partition(0, 0), bytes[0] < 15 ? 0 : bytes[0] < 31 ? 1 : 2);
            due("entry that is not whole", x.entry(1, bytes[1] / 14, 0), -1);
            due("byte", x.byteOf(1, bytes[1]), -1);
            x.open();
            int whole = (bytes[0] < 15 ? 0 : bytes[0] < 31 ? 15 : 31) + bytes[1] / 14 * 14 + bytes[2] / 16 * 16;
            due("CUT", x.count(8), bytes[0] + bytes[1] + bytes[2] - whole);
            due("bytes behind open", x.partition(0, 2) + x.partition(1, 2) + x.count(5), whole);
            due("NEXT", x.next(0, 1), bytes[1] < 14 ? 0 : 1);
        }
    }

    private static void open() {
        OnceLedger x = house(2, 300, 10);
        due("open while it is not CLOSED", x.open(), -1);
        x.crash(0);
        due("open of nothing", x.open(), 0);
        due("open again", x.open(), -1);
        due("not CLOSED", x.count(7), 0);
        x.register(0);
        x.begin(0, 0);
        x.send(0, 0, 1, 0, true);
        x.later(0, 0, 3, 1, 8);
        x.sync();
        x.end(0, 0, true);
        x.crash(16);
        due("open", x.open(), 1);
        due("MARK", x.marked(3, 1), 8);
        due("COMMIT", x.entry(1, 1, 0), 2);
        due("UNSYNCED", x.count(4), 30);
        due("DONE", x.byteOf(2, x.count(5) - 12), 5);
        due("TRANSACTION", x.producer(0, 1), -1);
        x.sync();
        x.crash(0);
        due("open of what is done", x.open(), 0);
        due("MARK", x.marked(3, 1), 8);
    }

    /** A commit in two PARTITIONS, with every possible crash behind its DECIDE's first byte. */
    private static void openEveryPrefix() {
        for (int kept = 0; kept <= 60; kept++) {
            for (int commit = 0; commit < 2; commit++) {
                OnceLedger x = house(3, 300, 10);
                x.register(0);
                x.begin(0, 0);
                x.send(0, 0, 2, 0, true);
                x.send(0, 0, 0, 0, true);
                x.later(0, 0, 1, 1, 4);
                x.sync();
                x.end(0, 0, commit == 1);
                due("crash", x.crash(kept), 60 - kept);
                int ended = kept >= 16 && kept < 60 ? 1 : 0;
                due("open at " + kept, x.open(), ended);
                boolean over = kept >= 16;
                int cut = kept < 16 ? kept : kept < 44 ? (kept - 16) % 14 : kept < 60 ? kept - 44 : 0;
                due("CUT at " + kept, x.count(8), cut);
                due("OPEN at " + kept, x.producer(0, 1), over ? -1 : 0);
                for (int p = 0; p < 3; p += 2) {
                    due("ENTRIES", x.partition(p, 0), over ? 2 : 1);
                    due("KIND", x.entry(p, 1, 0), over ? 3 - commit : -1);
                    due("COMMITTED", x.partition(p, 4), over ? commit : 0);
                    due("STABLE", x.partition(p, 1), over ? 2 : 0);
                }
                due("not ADDED", x.partition(1, 0), 0);
                due("MARK", x.marked(1, 1), over && commit == 1 ? 4 : -1);
                due("ADDED", x.producer(0, 3), over ? 0 : 5);
                due("LATER", x.producer(0, 4), over ? 0 : 1);
                due("book", x.count(5), 96 + (over ? 32 : 0) - 16);
            }
        }
    }

    private static void openTells() {
        OnceLedger x = house(2, 500, 10);
        x.register(0);
        x.register(0);
        x.register(7);
        x.mark(0, 0, 1);
        x.begin(7, 0);
        x.later(7, 0, 0, 0, 5);
        x.mark(0, 0, 2);
        x.end(7, 0, true);
        x.mark(1, 0, 3);
        x.tick(4);
        x.begin(0, 1);
        x.send(0, 1, 1, 0, true);
        x.begin(7, 0);
        x.end(7, 0, false);
        x.feed(2, 0x0505, 0);
        x.crash(x.count(4));
        due("count(9) while CLOSED", x.count(9), -1);
        due("open", x.open(), 0);
        due("EPOCH", x.producer(0, 0), 1);
        due("EPOCH", x.producer(7, 0), 0);
        due("OPEN", x.producer(0, 1), 1);
        due("began", x.producer(0, 2), 4);
        due("ADDED", x.producer(0, 3), 2);
        due("MARK", x.marked(0, 0), 5);
        due("MARK", x.marked(1, 0), 3);
        due("next number", x.count(11), 3);
        due("CLOCK", x.count(3), 4);
        due("tape stays", x.count(6), 2);
        due("PARTITIONS", x.count(0) * 10000 + x.count(1), 20500);
        due("STABLE", x.partition(1, 1), 0);
        due("OPEN that ADDED", x.partition(1, 5), 1);
        due("end", x.end(0, 1, true), 0);
        due("COMMITTED", x.partition(1, 4), 1);
    }

    /** An ADD that was kept without its PART: the end is then the first ENTRY, and comes but once. */
    private static void openWithoutParts() {
        for (int kept = 16; kept <= 46; kept++) {
            OnceLedger x = house(1, 500, 10);
            x.register(0);
            x.begin(0, 0);
            x.sync();
            x.send(0, 0, 0, 0, true);
            due("crash", x.crash(16), 14);
            due("open", x.open(), 0);
            due("ADDED", x.producer(0, 3), 1);
            due("STABLE", x.partition(0, 1), 0);
            due("OPEN that ADDED", x.partition(0, 5), 1);
            x.end(0, 0, true);
            due("crash", x.crash(kept), 46 - kept);
            due("open", x.open(), kept < 46 ? 1 : 0);
            due("ENTRIES", x.partition(0, 0), 1);
            due("KIND", x.entry(0, 0, 0), 2);
        }
    }

    private static void openForgets() {
        OnceLedger x = house(1, 500, 10);
        x.register(0);
        x.sync();
        x.send(0, 0, 0, 0, false);
        x.send(0, 0, 0, 1, false);
        due("COMMITTED", x.partition(0, 4), 2);
        x.crash(14);
        x.open();
        due("COMMITTED", x.partition(0, 4), 1);
        due("fetch behind the last", x.fetch(0, 1, true), -1);
        due("fetch behind the last", x.fetch(0, 1, false), -1);
        due("send again", x.send(0, 0, 0, 1, false), 1);
    }

    private static void partition() {
        OnceLedger x = house(2, 500, 10);
        x.register(0);
        x.register(1);
        x.feed(1, 1, 0);
        x.send(0, 0, 0, 0, false);
        x.sync();
        x.begin(0, 0);
        x.begin(1, 0);
        x.send(0, 0, 0, 1, true);
        x.send(1, 0, 0, 0, true);
        int[] due = {3, 1, 43, 28, 1, 2};
        for (int what = 0; what < 6; what++) due("partition(0, " + what + ")", x.partition(0, what), due[what]);
        due("what", x.partition(0, 6), -1);
        due("what", x.partition(0, -1), -1);
        due("what", x.partition(0, Integer.MIN_VALUE), -1);
        for (int what = 0; what < 6; what++) {
            due("partition(1, " + what + ")", x.partition(1, what), 0);
            due("partition(2, " + what + ")", x.partition(2, what), -1);
            due("partition(-1, " + what + ")", x.partition(-1, what), -1);
        }
        x.end(0, 0, true);
        due("STABLE", x.partition(0, 1), 2);
        due("COMMITTED", x.partition(0, 4), 2);
        due("OPEN that ADDED", x.partition(0, 5), 1);
        x.crash(16 * 4 + 28 + 5);
        int[] closed = {3, -1, 43, 0, -1, -1};
        for (int what = 0; what < 6; what++) due("CLOSED (0, " + what + ")", x.partition(0, what), closed[what]);
    }

    private static void entry() {
        OnceLedger x = house(1, 500, 10);
        x.register(20);
        x.register(20);
        x.send(20, 1, 0, 0, false);
        x.feed(5, 1, 0);
        x.send(20, 1, 0, 1, false);
        x.begin(20, 1);
        x.send(20, 1, 0, 2, true);
        x.end(20, 1, true);
        x.begin(20, 1);
        x.send(20, 1, 0, 3, true);
        x.end(20, 1, false);
        int[][] entries = {{0, 20, 1, 0, 0}, {0, 20, 1, 1, 5}, {1, 20, 1, 2, 0}, {2, 20, 1, 0, 0},
            {1, 20, 1, 3, 0}, {3, 20, 1, 1, 0}};
        for (int round = 0; round < 2; round++) {
            for (int o = 0; o < 6; o++) {
                for (int what = 0; what < 5; what++) {
                    due("entry(0, " + o + ", " + what + ")", x.entry(0, o, what), entries[o][what]);
                }
            }
            due("offset", x.entry(0, 6, 0), -1);
            due("offset", x.entry(0, -1, 0), -1);
            due("offset", x.entry(0, Integer.MAX_VALUE, 0), -1);
            due("what", x.entry(0, 0, 5), -1);
            due("what", x.entry(0, 0, -1), -1);
            due("partition", x.entry(1, 0, 0), -1);
            due("partition", x.entry(-1, 0, 0), -1);
            x.crash(round == 0 ? x.count(4) : 0);
        }
    }

    private static void producer() {
        OnceLedger x = house(8, 500, 10);
        due("not REGISTERED", x.producer(4, 0), -1);
        x.register(4);
        int[] idle = {0, -1, -1, 0, 0};
        for (int what = 0; what < 5; what++) due("idle " + what, x.producer(4, what), idle[what]);
        x.register(4);
        x.tick(5);
        x.begin(4, 1);
        x.send(4, 1, 7, 0, true);
        x.send(4, 1, 0, 0, true);
        x.later(4, 1, 0, 0, 0);
        x.later(4, 1, 0, 0, 0);
        int[] busy = {1, 0, 5, 129, 2};
        for (int what = 0; what < 5; what++) due("busy " + what, x.producer(4, what), busy[what]);
        for (int what = 0; what < 5; what++) {
            due("key", x.producer(-1, what), -1);
            due("key", x.producer(32, what), -1);
            due("key", x.producer(5, what), -1);
        }
        due("what", x.producer(4, 5), -1);
        due("what", x.producer(4, -1), -1);
        x.end(4, 1, true);
        idle[0] = 1;
        for (int what = 0; what < 5; what++) due("ended " + what, x.producer(4, what), idle[what]);
        x.sync();
        x.crash(0);
        for (int what = 0; what < 5; what++) due("CLOSED " + what, x.producer(4, what), -1);
    }

    private static void next() {
        OnceLedger x = house(2, 500, 10);
        due("not REGISTERED", x.next(0, 0), -1);
        x.register(0);
        x.register(1);
        due("next", x.next(0, 0), 0);
        x.send(0, 0, 0, 0, false);
        x.send(1, 0, 0, 0, false);
        x.begin(0, 0);
        x.send(0, 0, 0, 1, true);
        x.send(0, 0, 1, 0, true);
        x.end(0, 0, false);
        due("next", x.next(0, 0), 2);
        due("next", x.next(0, 1), 1);
        due("next", x.next(1, 0), 1);
        due("next", x.next(1, 1), 0);
        due("key", x.next(32, 0), -1);
        due("key", x.next(-1, 0), -1);
        due("partition", x.next(0, 2), -1);
        due("partition", x.next(0, -1), -1);
        x.sync();
        x.send(0, 0, 0, 2, false);
        x.crash(13);
        due("while CLOSED", x.next(0, 0), -1);
        x.open();
        due("next", x.next(0, 0), 2);
        x.register(0);
        due("next anew", x.next(0, 0), 0);
    }

    private static void byteOf() {
        OnceLedger x = house(1, 500, 10);
        x.register(0);
        x.feed(1, 200, 0);
        x.send(0, 0, 0, 0, false);
        due("payload", x.byteOf(0, 14), 200);
        due("behind the end", x.byteOf(0, 15), -1);
        due("ahead of the beginning", x.byteOf(0, -1), -1);
        due("MAX", x.byteOf(0, Integer.MAX_VALUE), -1);
        due("MIN", x.byteOf(1, Integer.MIN_VALUE), -1);
        due("book", x.byteOf(1, 15), 0);
        due("book", x.byteOf(1, 16), -1);
        due("file", x.byteOf(2, 0), -1);
        due("file", x.byteOf(-1, 0), -1);
        due("sum", sumAt(x, 0, 0), sumOf(x, 0, 4, 15));
        due("sum", sumAt(x, 1, 0), sumOf(x, 1, 4, 16));
        int byHand = 17;
        for (int i = 0; i < 12; i++) byHand *= 31;
        due("the sum of twelve zeros", sumAt(x, 1, 0), byHand);
        x.crash(30);
        due("while CLOSED, not whole", x.byteOf(0, 13), 0);
        due("while CLOSED, gone", x.byteOf(0, 14), -1);
        x.open();
        due("CUT", x.byteOf(0, 0), -1);
    }

    private static void count() {
        OnceLedger x = house(3, 400, 20);
        x.register(0);
        x.register(1);
        x.send(0, 0, 0, 0, false);
        x.sync();
        x.begin(0, 0);
        x.tick(9);
        x.feed(4, 0, 0);
        int[] due = {3, 400, 20, 9, 16, 48, 4, 0, 0, 2, 1, 1};
        for (int what = 0; what < 12; what++) due("count(" + what + ")", x.count(what), due[what]);
        due("count(12)", x.count(12), -1);
        due("count(-1)", x.count(-1), -1);
        x.crash(7);
        int[] closed = {3, 400, 20, 9, 0, 39, 4, 1, 0, -1, -1, -1};
        for (int what = 0; what < 12; what++) due("CLOSED " + what, x.count(what), closed[what]);
        x.open();
        int[] opened = {3, 400, 20, 9, 0, 32, 4, 0, 7, 2, 0, 0};
        for (int what = 0; what < 12; what++) due("opened " + what, x.count(what), opened[what]);
        x.crash(0);
        due("CUT by the latest open()", x.count(8), 7);
        x.open();
        due("CUT by the latest open()", x.count(8), 0);
    }
}
