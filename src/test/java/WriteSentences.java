/** The sentences of the promises that change the house: 1 to 9 and 11. */
final class WriteSentences {
    private static final int MAX = Integer.MAX_VALUE;
    private static final int MIN = Integer.MIN_VALUE;

    private WriteSentences() {
    }

    static void all(Sentences s) {
        format(s);
        feed(s);
        register(s);
        begin(s);
        send(s);
        later(s);
        end(s);
        mark(s);
        tick(s);
    }

    private static void format(Sentences s) {
        s.test("Promise 1", "As format(4, 2000, 100).", WriteSentences::newObjectIsAsFormat);
        s.test("Promise 1", "An empty tape, an empty ANSWER.", WriteSentences::newObjectHasNoTapeAndAnswer);
        s.test("Promise 2", "A new house of so many PARTITIONS with that CAPACITY: no ENTRIES, no PRODUCERS, no MARKS, "
            + "the CLOCK is 0;", WriteSentences::formatMakesANewHouse);
        s.test("Promise 2", "a TRANSACTION may be OPEN for timeout ticks.", WriteSentences::formatSetsTheTimeout);
        s.test("Promise 2", "The ANSWER is empty; the tape stays.", WriteSentences::formatLeavesTheTape);
        s.test("Promise 2", "False, and nothing is done, if partitions is not 1 to 8, capacity not 100 to 4000, or "
            + "timeout not 1 to 1000.", WriteSentences::formatIsFalse);
    }

    private static void newObjectIsAsFormat() {
        Checks.same("new", House::new, () -> House.of(4, 2000, 100));
        House h = new House();
        Checks.due("PARTITIONS", h.count(0), 4);
        Checks.due("CAPACITY", h.count(1), 2000);
        Checks.due("timeout", h.count(2), 100);
        h.register(0);
        Checks.due("the last PARTITION", h.send(0, 0, 3, 0, false), 0);
        Checks.due("none behind it", h.send(0, 0, 4, 0, false), -2);
        h.fillPartition(0, 0, 0, 1986);
        Checks.due("15 bytes behind 1986", h.sendBytes(0, 0, 0, 15, false), -8);
        Checks.due("14 bytes behind 1986", Math.min(h.sendBytes(0, 0, 0, 14, false), 0), 0);
        h.begin(0, 0);
        Checks.due("tick(100)", h.tick(100), 0);
        Checks.due("tick(1)", h.tick(1), 1);
    }

    private static void newObjectHasNoTapeAndAnswer() {
        House h = new House();
        Checks.due("bytes of the tape", h.count(6), 0);
        for (int i = -1; i <= 40; i++) Checks.due("answer(" + i + ")", h.answer(i), -1);
        h.register(0);
        h.send(0, 0, 0, 0, false);
        Checks.due("size of a payload of the new tape", h.entry(0, 0, 4), 0);
    }

    private static void formatMakesANewHouse() {
        for (int[] f : new int[][] {{1, 100, 1}, {8, 4000, 1000}, {3, 300, 20}}) {
            Checks.same("format of a busy house", () -> {
                House h = House.of(f[0], f[1], f[2]);
                h.feed(5, 0x5544332211L, 0);
                return h;
            }, () -> {
                House h = Houses.busy();
                h.format(f[0], f[1], f[2]);
                return h;
            });
            Checks.same("format of a CLOSED house", () -> {
                House h = House.of(f[0], f[1], f[2]);
                h.feed(5, 0x5544332211L, 0);
                return h;
            }, () -> {
                House h = Houses.closed();
                h.format(f[0], f[1], f[2]);
                return h;
            });
            Checks.same("format of an opened house", () -> House.of(f[0], f[1], f[2]), () -> {
                House h = Houses.closed();
                h.send(0, 0, 0, 0, false);
                h.open();
                h.format(f[0], f[1], f[2]);
                return h;
            });
        }
        House h = Houses.busy();
        h.format(2, 100, 5);
        int[] counts = {2, 100, 5, 0, 0, 0, 5, 0, 0, 0, 0, 0};
        for (int what = 0; what < 12; what++) Checks.due("count(" + what + ")", h.count(what), counts[what]);
        for (int p = 0; p < 2; p++) Checks.due("ENTRIES", h.partition(p, 0), 0);
        for (int key = 0; key < 32; key++) Checks.due("PRODUCERS", h.producer(key, 0), -1);
        for (int g = 0; g < 8; g++) for (int p = 0; p < 2; p++) Checks.due("MARKS", h.marked(g, p), -1);
        Checks.due("EPOCH", h.register(0), 0);
        Checks.due("number", h.begin(0, 0), 0);
        Checks.due("NUMBER", h.send(0, 0, 0, 0, true), 0);
    }

    private static void formatSetsTheTimeout() {
        for (int timeout : new int[] {1, 2, 999, 1000}) {
            House h = House.of(1, 100, timeout);
            h.register(0);
            h.tick(3);
            h.begin(0, 0);
            Checks.due("tick to timeout", h.tick(timeout), 0);
            Checks.due("OPEN", h.count(10), 1);
            Checks.due("tick beyond it", h.tick(1), 1);
            Checks.due("OPEN", h.count(10), 0);
        }
    }

    private static void formatLeavesTheTape() {
        House h = Houses.busy();
        Checks.due("answer(0)", h.answer(0), 0xA1);
        Checks.due("format", h.format(1, 100, 1), 1);
        for (int i = 0; i <= 40; i++) Checks.due("answer(" + i + ")", h.answer(i), -1);
        Checks.due("bytes of the tape", h.count(6), 5);
        h.register(0);
        h.send(0, 0, 0, 0, false);
        Checks.bytes("the tape", h, 0, 14, 0x11, 0x22, 0x33, 0x44, 0x55, -1);
        House full = new House();
        full.tape(40, 1);
        full.format(1, 100, 1);
        Checks.due("a full tape", full.feed(1, 1, 1), -1);
        Checks.due("a full tape", full.count(6), 40);
    }

    private static void formatIsFalse() {
        for (int[] f : new int[][] {{0, 100, 1}, {9, 100, 1}, {-1, 100, 1}, {MIN, 100, 1}, {MAX, 100, 1}, {1, 99, 1},
            {1, 4001, 1}, {1, 0, 1}, {1, -100, 1}, {1, MIN, 1}, {1, MAX, 1}, {1, 100, 0}, {1, 100, 1001}, {1, 100, -1},
            {1, 100, MIN}, {1, 100, MAX}, {0, 99, 0}}) {
            String call = "format(" + f[0] + ", " + f[1] + ", " + f[2] + ")";
            Checks.nothing(call, Houses::busy, h -> h.format(f[0], f[1], f[2]), 0);
            Checks.nothing("CLOSED: " + call, Houses::closed, h -> h.format(f[0], f[1], f[2]), 0);
        }
        for (int[] f : new int[][] {{1, 100, 1}, {8, 100, 1}, {1, 4000, 1}, {1, 100, 1000}, {2, 101, 2}, {7, 3999, 999}}) {
            House h = new House();
            Checks.due("format", h.format(f[0], f[1], f[2]), 1);
            for (int what = 0; what < 3; what++) Checks.due("count(" + what + ")", h.count(what), f[what]);
        }
    }

    private static void feed(Sentences s) {
        s.test("Promise 3", "The n first bytes of a and b (first those of a, of each the lowest one first) come behind "
            + "the tape: how many it has.", WriteSentences::feedBringsBytes);
        s.test("Promise 3", "NONE, and nothing is done, if n is not 1 to 16,", WriteSentences::feedOfTooFewOrMany);
        s.test("Promise 3", "or it would have more than 40.", WriteSentences::feedOfAFullTape);
    }

    private static void feedBringsBytes() {
        long a = 0x8877665544332211L;
        long b = 0xFFEEDDCCBBAA0099L;
        int[] bytes = {0x11, 0x22, 0x33, 0x44, 0x55, 0x66, 0x77, 0x88, 0x99, 0, 0xAA, 0xBB, 0xCC, 0xDD, 0xEE, 0xFF};
        for (int n = 1; n <= 16; n++) {
            House h = new House();
            h.register(0);
            Checks.due("feed(" + n + ")", h.feed(n, a, b), n);
            Checks.due("feed(1) behind it", h.feed(1, 0x5A, a), n + 1);
            Checks.due("bytes of the tape", h.count(6), n + 1);
            h.send(0, 0, 0, 0, false);
            for (int i = 0; i < n; i++) Checks.due("byte " + i + " of " + n, h.byteOf(0, 14 + i), bytes[i]);
            Checks.due("the byte behind them", h.byteOf(0, 14 + n), 0x5A);
            Checks.due("the end", h.byteOf(0, 15 + n), -1);
        }
        Checks.tapeAlone("feed(2)", Houses::busy, h -> h.feed(2, 1, 1), 7, 7);
        Checks.tapeAlone("CLOSED: feed(16)", Houses::closed, h -> h.feed(16, 1, 1), 21, 21);
        House negative = new House();
        negative.register(0);
        negative.feed(16, -1L, Long.MIN_VALUE);
        negative.send(0, 0, 0, 0, false);
        Checks.bytes("-1 and MIN", negative, 0, 14, 255, 255, 255, 255, 255, 255, 255, 255, 0, 0, 0, 0, 0, 0, 0, 128);
    }

    private static void feedOfTooFewOrMany() {
        for (int n : new int[] {0, -1, 17, 18, 40, MIN, MAX, -16, 256 + 1}) {
            Checks.nothing("feed(" + n + ")", Houses::busy, h -> h.feed(n, 1, 1), -1);
            Checks.nothing("empty: feed(" + n + ")", House::new, h -> h.feed(n, 1, 1), -1);
            Checks.nothing("CLOSED: feed(" + n + ")", Houses::closed, h -> h.feed(n, 1, 1), -1);
        }
        Checks.due("feed(1)", new House().feed(1, 1, 1), 1);
        Checks.due("feed(16)", new House().feed(16, 1, 1), 16);
    }

    private static House taped(int bytes) {
        House h = Houses.busy();
        h.send(0, 1, -1, 0, false);
        h.tape(bytes, 100);
        return h;
    }

    private static void feedOfAFullTape() {
        for (int n : new int[] {1, 2, 15, 16}) {
            Checks.due("feed(" + n + ") to 40", taped(40 - n).feed(n, 1, 1), 40);
            Checks.nothing("feed(" + n + ") to 41", () -> taped(41 - n), h -> h.feed(n, 1, 1), -1);
            Checks.nothing("feed(" + n + ") to a full tape", () -> taped(40), h -> h.feed(n, 1, 1), -1);
        }
        House h = taped(39);
        Checks.due("feed(2) to 41", h.feed(2, 1, 1), -1);
        Checks.due("feed(1) to 40", h.feed(1, 1, 1), 40);
        h.send(0, 1, -1, 0, false);
        Checks.due("feed behind a send", h.feed(16, 1, 1), 16);
    }

    private static void register(Sentences s) {
        s.test("Promise 4", "The PRODUCER is REGISTERED, with EPOCH 0, or one more than it had;",
            WriteSentences::registerRaisesTheEpoch);
        s.test("Promise 4", "ahead of that its TRANSACTION, if one is OPEN, is ENDED with abort. Its EPOCH.",
            WriteSentences::registerEndsTheTransaction);
        s.test("Promise 4", "Here and below: -1 the house is CLOSED;", WriteSentences::closedRefuses);
        s.test("Promise 4", "-2 there is no such KEY (0 to 31), PARTITION, GROUP, or (but here) the KEY is not "
            + "REGISTERED;", WriteSentences::unknownIsRefused);
        s.test("Promise 4", "here then -8.", WriteSentences::registerWithoutRoom);
    }

    private static void registerRaisesTheEpoch() {
        House h = new House();
        for (int key : new int[] {0, 31, 16}) {
            Checks.due("not REGISTERED", h.producer(key, 0), -1);
            for (int epoch = 0; epoch < 3; epoch++) {
                Checks.due("register(" + key + ")", h.register(key), epoch);
                Checks.due("EPOCH", h.producer(key, 0), epoch);
            }
        }
        Checks.due("REGISTERED", h.count(9), 3);
        Checks.due("another KEY is as it was", h.producer(1, 0), -1);
        h.sync();
        h.register(0);
        h.crash(15);
        h.open();
        Checks.due("behind a crash one more than was kept", h.register(0), 3);
        House many = new House();
        for (int epoch = 0; epoch < 500; epoch++) Checks.due("register", many.register(7), epoch);
        Checks.due("EPOCH", many.producer(7, 0), 499);
        Checks.bytes("EPOCH", many, 4, 499 * 16 + 6, 1, 243);
    }

    private static void registerEndsTheTransaction() {
        int each = 16 + 14 + 14 + 16 + 16;
        for (int kept = 0; kept <= each; kept++) {
            House h = House.of(3, 300, 10);
            h.register(4);
            h.begin(4, 0);
            h.send(4, 0, 2, 0, true);
            h.send(4, 0, 0, 0, true);
            h.later(4, 0, 0, 0, 5);
            h.sync();
            int book = h.count(5);
            Checks.due("register", h.register(4), 1);
            Checks.due("bytes that came", h.count(4), each);
            Checks.bytes("DECIDE abort", h, 3, book + 4, 4, 4, 0, 0, 0, 0, 0, 0, 0, 0, 0, 0);
            Checks.bytes("DONE", h, 3, book + 20, 5, 4, 0, 0, 0, 0, 0, 0, 0, 0, 0, 0);
            Checks.bytes("REGISTER", h, 3, book + 36, 0, 4, 0, 1, 0, 0, 0, 0, 0, 0, 0, 0);
            Checks.due("ABORT", h.entry(2, 1, 0), 3);
            Checks.due("ABORT's EPOCH", h.entry(2, 1, 2), 0);
            Checks.due("no MARK", h.marked(0, 0), -1);
            Checks.due("OPEN", h.producer(4, 1), -1);
            Checks.due("STABLE", h.partition(0, 1), 2);
            h.crash(kept);
            Checks.due("open at " + kept, h.open(), kept >= 16 && kept < 60 ? 1 : 0);
            Checks.due("EPOCH at " + kept, h.producer(4, 0), kept == each ? 1 : 0);
            Checks.due("OPEN at " + kept, h.producer(4, 1), kept < 16 ? 0 : -1);
        }
        House idle = House.of(1, 300, 10);
        idle.register(0);
        idle.sync();
        idle.register(0);
        Checks.due("without one there is but the REGISTER", idle.count(4), 16);
        idle.begin(0, 1);
        idle.register(3);
        Checks.due("another's TRANSACTION is OPEN still", idle.producer(0, 1), 0);
    }

    private static void closedRefuses() {
        Checks.nothing("register", Houses::closed, h -> h.register(0), -1);
        Checks.nothing("begin", Houses::closed, h -> h.begin(0, 1), -1);
        Checks.tapeAlone("send", Houses::closed, h -> h.send(0, 1, 0, 1, false), -1);
        Checks.nothing("later", Houses::closed, h -> h.later(5, 0, 0, 0, 0), -1);
        Checks.nothing("end", Houses::closed, h -> h.end(5, 0, true), -1);
        Checks.nothing("mark", Houses::closed, h -> h.mark(0, 0, 0), -1);
        Checks.nothing("sync", Houses::closed, House::sync, -1);
        Checks.nothing("crash", Houses::closed, h -> h.crash(0), -1);
    }

    private static void unknownIsRefused() {
        for (int key : new int[] {-1, 32, MIN, MAX}) {
            Checks.nothing("register(" + key + ")", Houses::busy, h -> h.register(key), -2);
        }
        Checks.due("but here: a KEY that is not REGISTERED", Houses.busy().register(1), 0);
        for (int key : new int[] {-1, 1, 30, 32, MIN, MAX}) {
            Checks.nothing("begin(" + key + ", ..)", Houses::busy, h -> h.begin(key, 0), -2);
            Checks.tapeAlone("send(" + key + ", ..)", Houses::busy, h -> h.send(key, 0, 0, 0, false), -2);
            Checks.nothing("later(" + key + ", ..)", Houses::busy, h -> h.later(key, 0, 0, 0, 0), -2);
            Checks.nothing("end(" + key + ", ..)", Houses::busy, h -> h.end(key, 0, true), -2);
        }
        for (int p : new int[] {-1, 3, 8, MIN, MAX}) {
            Checks.tapeAlone("send to " + p, Houses::busy, h -> h.send(0, 1, p, 0, false), -2);
            Checks.nothing("later for " + p, Houses::busy, h -> h.later(5, 0, 0, p, 0), -2);
            Checks.nothing("mark for " + p, Houses::busy, h -> h.mark(0, p, 0), -2);
        }
        for (int group : new int[] {-1, 8, MIN, MAX}) {
            Checks.nothing("later of " + group, Houses::busy, h -> h.later(5, 0, group, 0, 0), -2);
            Checks.nothing("mark of " + group, Houses::busy, h -> h.mark(group, 0, 0), -2);
        }
    }

    /** The BOOK has so many bytes left besides those that so many OPEN ones of the KEYS 0 and 1 need. */
    private static House leftInBook(int left, int open) {
        House h = House.of(2, 400, 100);
        for (int key = 0; key < 4; key++) h.register(key);
        h.fillBook(left + 64 * open);
        for (int key = 0; key < open; key++) h.begin(key, 0);
        h.tape(3, 9);
        return h;
    }

    private static void registerWithoutRoom() {
        Checks.due("register to a full BOOK", leftInBook(16, 0).register(3), 1);
        Checks.due("a new one to a full BOOK", leftInBook(16, 0).register(4), 0);
        Checks.nothing("register", () -> leftInBook(0, 0), h -> h.register(3), -8);
        Checks.nothing("a new one", () -> leftInBook(0, 0), h -> h.register(4), -8);
        Checks.due("register besides an OPEN one", leftInBook(16, 1).register(3), 1);
        Checks.nothing("register besides an OPEN one", () -> leftInBook(0, 1), h -> h.register(3), -8);
        House h = leftInBook(0, 1);
        Checks.due("its own place", h.register(0), 1);
        Checks.due("the BOOK is full", h.count(5), 16000);
        Checks.due("register again", h.register(0), -8);
        Checks.due("EPOCH", h.producer(0, 0), 1);
    }

    private static void begin(Sentences s) {
        s.test("Promise 5", "A TRANSACTION is OPEN: its number.", WriteSentences::beginOpens);
        s.test("Promise 5", "-1; -2;", WriteSentences::beginOfUnknown);
        s.test("Promise 5", "-3 FENCED;", WriteSentences::beginFenced);
        s.test("Promise 5", "-4 one is OPEN;", WriteSentences::beginTwice);
        s.test("Promise 5", "-8 (it needs 48 bytes more besides its BEGIN).", WriteSentences::beginWithoutRoom);
    }

    private static void beginOpens() {
        House h = House.of(2, 300, 10);
        h.register(2);
        h.register(1);
        Checks.due("the first", h.begin(2, 0), 0);
        Checks.due("OPEN", h.producer(2, 1), 0);
        Checks.due("the second", h.begin(1, 0), 1);
        h.end(2, 0, true);
        Checks.due("the third", h.begin(2, 0), 2);
        Checks.due("OPEN", h.count(10), 2);
        Checks.due("nothing came to a PARTITION", h.partition(0, 2) + h.partition(1, 2), 0);
        h.sync();
        h.crash(0);
        h.open();
        h.end(1, 0, true);
        Checks.due("behind open", h.begin(1, 0), 3);
        h.crash(0);
        h.open();
        h.end(1, 0, true);
        Checks.due("a number whose BEGIN went comes again", h.begin(1, 0), 3);
    }

    private static void beginOfUnknown() {
        Checks.nothing("begin while CLOSED", Houses::closed, h -> h.begin(0, 1), -1);
        for (int key : new int[] {-1, 1, 30, 32, MIN, MAX}) {
            Checks.nothing("begin(" + key + ", 0)", Houses::busy, h -> h.begin(key, 0), -2);
        }
    }

    private static void beginFenced() {
        for (int epoch : new int[] {0, 2, -1, MIN, MAX}) {
            Checks.nothing("begin(0, " + epoch + ")", Houses::busy, h -> h.begin(0, epoch), -3);
        }
        Checks.due("begin(0, 1)", Houses.busy().begin(0, 1), 3);
    }

    private static void beginTwice() {
        Checks.nothing("begin(5, 0)", Houses::busy, h -> h.begin(5, 0), -4);
        House h = Houses.busy();
        h.end(5, 0, false);
        Checks.due("begin behind its end", h.begin(5, 0), 3);
        Checks.due("begin again", h.begin(5, 0), -4);
        h.crash(h.count(4));
        h.open();
        Checks.due("begin behind open", h.begin(5, 0), -4);
    }

    private static void beginWithoutRoom() {
        for (int open = 0; open < 3; open++) {
            int still = open;
            Checks.due("64 are left", Math.min(leftInBook(64, open).begin(3, 0), 0), 0);
            Checks.nothing("48 are left", () -> leftInBook(48, still), h -> h.begin(3, 0), -8);
            Checks.nothing("none is left", () -> leftInBook(0, still), h -> h.begin(3, 0), -8);
        }
        House h = leftInBook(64, 0);
        int number = h.count(11);
        Checks.due("begin", h.begin(3, 0), number);
        Checks.due("then nothing more", h.mark(0, 0, 0), -8);
        Checks.due("register ends it", h.register(3), 1);
        Checks.due("the BOOK is full", h.count(5), 16000);
    }

    private static void send(Sentences s) {
        s.test("Promise 6", "The tape (which is empty then, whatever came of it) is the payload of an ENTRY, PLAIN or "
            + "PART;", WriteSentences::tapeIsThePayload);
        s.test("Promise 6", "if the TRANSACTION has not ADDED the PARTITION, that is ADDED ahead of it. Its OFFSET.",
            WriteSentences::sendAddsThePartition);
        s.test("Promise 6", "-1; -2; -3;", WriteSentences::sendOfUnknown);
        s.test("Promise 6", "-5 (part) no TRANSACTION is OPEN, or (else) one is;", WriteSentences::sendInTheWrongMode);
        s.test("Promise 6", "if the number is one of those of the five latest ENTRIES of this KEY and EPOCH there with "
            + "KIND 0 or 1: the OFFSET of that, and nothing is done;", WriteSentences::sendOfTheFiveLatest);
        s.test("Promise 6", "if the number is one of those of the five latest ENTRIES of this KEY and EPOCH there with "
            + "KIND 0 or 1: the OFFSET of that, and nothing is done;", WriteSentences::sendAgainBehindACrash);
        s.test("Promise 6", "-6 the number is not NEXT;", WriteSentences::sendThatIsNotNext);
        s.test("Promise 6", "-8 (of PARTITION or BOOK; an ADD needs 14 bytes more besides the ENTRY).",
            WriteSentences::sendWithoutRoom);
    }

    private static void tapeIsThePayload() {
        for (int size : new int[] {0, 1, 39, 40}) {
            for (int part = 0; part < 2; part++) {
                House h = House.of(1, 300, 10);
                h.register(0);
                if (part == 1) h.begin(0, 0);
                h.tape(size, 100);
                Checks.due("send", h.send(0, 0, 0, 0, part == 1), 0);
                Checks.due("KIND", h.entry(0, 0, 0), part);
                Checks.due("size", h.entry(0, 0, 4), size);
                for (int i = 0; i < size; i++) Checks.due("payload", h.byteOf(0, 14 + i), 100 + i);
                Checks.due("the tape is empty", h.count(6), 0);
                h.send(0, 0, 0, 1, part == 1);
                Checks.due("the next payload is empty", h.entry(0, 1, 4), 0);
            }
        }
        int[][] outcomes = {{99, 0, 0, 0, 0, -2}, {0, 0, 9, 0, 0, -2}, {0, 0, 0, 0, 0, -3}, {0, 1, 0, 0, 1, -5},
            {0, 1, 0, 0, 0, 0}, {0, 1, 0, 5, 0, -6}, {0, 1, 0, 1, 0, 4}};
        for (int[] o : outcomes) {
            House h = Houses.busy();
            Checks.due("send", h.send(o[0], o[1], o[2], o[3], o[4] == 1), o[5]);
            Checks.due("the tape is empty behind " + o[5], h.count(6), 0);
        }
        House closed = Houses.closed();
        Checks.due("send while CLOSED", closed.send(0, 1, 0, 1, false), -1);
        Checks.due("the tape is empty behind -1", closed.count(6), 0);
        House full = House.of(1, 100, 10);
        full.register(0);
        full.fillPartition(0, 0, 0, 100);
        full.tape(4, 1);
        Checks.due("send to a full one", full.send(0, 0, 0, full.next(0, 0), false), -8);
        Checks.due("the tape is empty behind -8", full.count(6), 0);
    }

    private static void sendAddsThePartition() {
        for (int kept = 0; kept <= 46; kept++) {
            House h = House.of(2, 300, 10);
            h.register(3);
            h.begin(3, 0);
            h.sync();
            int book = h.count(5);
            h.feed(2, 0x0201, 0);
            Checks.due("first PART", h.send(3, 0, 1, 0, true), 0);
            Checks.due("an ADD and a PART", h.count(4), 32);
            Checks.bytes("ADD", h, 2, book + 4, 2, 3, 0, 0, 0, 0, 0, 1, 0, 0, 0, 0);
            Checks.due("second PART", h.send(3, 0, 1, 1, true), 1);
            Checks.due("no ADD again", h.count(4), 46);
            Checks.due("ADDED", h.producer(3, 3), 2);
            h.crash(kept);
            Checks.due("the ADD comes ahead, at " + kept, h.count(5), book + Math.min(kept, 16));
            Checks.due("the PART, at " + kept, h.partition(1, 2), Math.max(kept - 16, 0));
            h.open();
            Checks.due("ADDED at " + kept, h.producer(3, 3), kept >= 16 ? 2 : 0);
            h.sync();
            int next = h.next(3, 1);
            Checks.due("send again", h.send(3, 0, 1, next, true), next);
            Checks.due("ADDED again only if it went, at " + kept, h.count(4), kept >= 16 ? 14 : 30);
        }
        House plain = House.of(2, 300, 10);
        plain.register(3);
        plain.send(3, 0, 0, 0, false);
        Checks.due("PLAIN needs no ADD", plain.count(5), 16);
        plain.begin(3, 0);
        plain.send(3, 0, 0, 1, true);
        plain.end(3, 0, true);
        plain.begin(3, 0);
        Checks.due("a new TRANSACTION", plain.producer(3, 3), 0);
        int bytes = plain.count(5);
        plain.send(3, 0, 0, 2, true);
        Checks.due("ADDS anew", plain.count(5), bytes + 16);
    }

    private static void sendOfUnknown() {
        Checks.tapeAlone("while CLOSED", Houses::closed, h -> h.send(0, 1, 0, 0, false), -1);
        for (int key : new int[] {-1, 1, 32, MIN, MAX}) {
            Checks.tapeAlone("KEY " + key, Houses::busy, h -> h.send(key, 0, 0, 0, false), -2);
        }
        for (int p : new int[] {-1, 3, 8, MIN, MAX}) {
            Checks.tapeAlone("PARTITION " + p, Houses::busy, h -> h.send(5, 0, p, 0, true), -2);
        }
        for (int epoch : new int[] {-1, 1, 65536, MIN, MAX}) {
            Checks.tapeAlone("EPOCH " + epoch, Houses::busy, h -> h.send(5, epoch, 0, 1, true), -3);
        }
        Checks.due("the last PARTITION", Houses.busy().send(5, 0, 2, 0, true), 1);
    }

    private static void sendInTheWrongMode() {
        Checks.tapeAlone("part, none is OPEN", Houses::busy, h -> h.send(0, 1, 0, 1, true), -5);
        Checks.tapeAlone("plain, one is OPEN", Houses::busy, h -> h.send(5, 0, 0, 1, false), -5);
        Checks.tapeAlone("plain elsewhere, one is OPEN", Houses::busy, h -> h.send(5, 0, 2, 0, false), -5);
        Checks.due("plain, none is OPEN", Houses.busy().send(0, 1, 0, 1, false), 4);
        Checks.due("part, one is OPEN", Houses.busy().send(5, 0, 0, 1, true), 4);
        House h = Houses.busy();
        h.end(5, 0, true);
        Checks.due("part behind its end", h.send(5, 0, 0, 1, true), -5);
        Checks.due("plain behind its end", h.send(5, 0, 0, 1, false), 5);
    }

    /**
     * Of KEY 0 with EPOCH 1 in PARTITION 0 the NUMBERS 0 to 6 at the OFFSETS 2, 3, 5, 6, 8, 9, 11: PLAIN 0 and 1, PART 2
     * and 3 (aborted), PART 4 and 5 (committed), PLAIN 6; between them KEY 1's, and ahead KEY 0's with EPOCH 0.
     */
    private static House sevenSent() {
        House h = House.of(2, 400, 100);
        h.register(0);
        h.register(1);
        h.send(0, 0, 0, 0, false);
        h.send(0, 0, 0, 1, false);
        h.register(0);
        h.send(0, 1, 0, 0, false);
        h.send(0, 1, 0, 1, false);
        h.send(1, 0, 0, 0, false);
        h.begin(0, 1);
        h.send(0, 1, 0, 2, true);
        h.send(0, 1, 0, 3, true);
        h.end(0, 1, false);
        h.begin(0, 1);
        h.send(0, 1, 0, 4, true);
        h.send(0, 1, 0, 5, true);
        h.end(0, 1, true);
        h.send(0, 1, 0, 6, false);
        h.tape(7, 3);
        Checks.due("ENTRIES", h.partition(0, 0), 12);
        return h;
    }

    private static void sendOfTheFiveLatest() {
        int[] offsets = {-6, -6, 5, 6, 8, 9, 11};
        for (int n = 0; n < 7; n++) {
            int number = n;
            Checks.tapeAlone("send of " + n, WriteSentences::sevenSent, h -> h.send(0, 1, 0, number, false), offsets[n]);
        }
        Checks.tapeAlone("send of 8", WriteSentences::sevenSent, h -> h.send(0, 1, 0, 8, false), -6);
        Checks.due("send of 7", sevenSent().send(0, 1, 0, 7, false), 12);
        Checks.tapeAlone("the other KEY's", WriteSentences::sevenSent, h -> h.send(1, 0, 0, 0, false), 4);
        Checks.tapeAlone("the other PARTITION's", WriteSentences::sevenSent, h -> h.send(0, 1, 1, 6, false), -6);
        House moved = sevenSent();
        moved.send(0, 1, 0, 7, false);
        Checks.due("then 2 is the sixth", moved.send(0, 1, 0, 2, false), -6);
        Checks.due("then 3 is the fifth", moved.send(0, 1, 0, 3, false), 6);
        House part = sevenSent();
        part.begin(0, 1);
        int bytes = part.count(5);
        Checks.due("again as a PART", part.send(0, 1, 0, 3, true), 6);
        Checks.due("nothing is ADDED", part.producer(0, 3), 0);
        Checks.due("nothing came to the BOOK", part.count(5), bytes);
        House few = House.of(1, 300, 10);
        few.register(0);
        for (int sent = 1; sent <= 6; sent++) {
            few.send(0, 0, 0, sent - 1, false);
            for (int n = 0; n < sent; n++) {
                Checks.due(n + " of " + sent, few.send(0, 0, 0, n, false), sent - n <= 5 ? n : -6);
            }
        }
        House anew = sevenSent();
        anew.register(0);
        Checks.due("another EPOCH's are none", anew.send(0, 2, 0, 6, false), -6);
        Checks.due("0 is NEXT", anew.send(0, 2, 0, 0, false), 12);
        Checks.due("0 again", anew.send(0, 2, 0, 0, false), 12);
    }

    private static void sendAgainBehindACrash() {
        House h = sevenSent();
        h.sync();
        h.crash(0);
        h.open();
        int[] offsets = {-6, -6, 5, 6, 8, 9, 11};
        for (int n = 0; n < 7; n++) Checks.due("send of " + n, h.send(0, 1, 0, n, false), offsets[n]);
        for (int kept = 0; kept <= 30; kept++) {
            House c = sevenSent();
            c.send(0, 1, -1, 0, false);
            c.sync();
            c.sendBytes(0, 1, 0, 15, false);
            c.sendBytes(0, 1, 0, 15, false);
            c.crash(kept);
            c.open();
            int left = kept / 15;
            Checks.due("NEXT at " + kept, c.next(0, 0), 7 + left);
            Checks.due("the fifth at " + kept, c.send(0, 1, 0, 2 + left, false), left == 0 ? 5 : left == 1 ? 6 : 8);
            Checks.due("the sixth at " + kept, c.send(0, 1, 0, 1 + left, false), -6);
            Checks.due("7 comes just once, at " + kept, c.send(0, 1, 0, 7, false), 12);
            Checks.due("8 comes just once, at " + kept, c.send(0, 1, 0, 8, false), 13);
            Checks.due("ENTRIES", c.partition(0, 0), 14);
        }
    }

    private static void sendThatIsNotNext() {
        for (int number : new int[] {-1, 2, 3, 257, 65537, MIN, MAX}) {
            Checks.tapeAlone("NUMBER " + number, Houses::busy, h -> h.send(0, 1, 0, number, false), -6);
            Checks.tapeAlone("PART " + number, Houses::busy, h -> h.send(5, 0, 0, number, true), -6);
        }
        Checks.tapeAlone("1 ahead of 0", Houses::busy, h -> h.send(0, 1, 1, 1, false), -6);
        Checks.due("0", Houses.busy().send(0, 1, 1, 0, false), 1);
        Checks.due("NEXT", Houses.busy().send(0, 1, 0, 1, false), 4);
    }

    private static void sendWithoutRoom() {
        House h = House.of(1, 100, 10);
        h.register(0);
        h.fillPartition(0, 0, 0, 60);
        h.begin(0, 0);
        Checks.due("PART of 27 with an ADD", h.sendBytes(0, 0, 0, 27, true), -8);
        Checks.due("it was not ADDED", h.producer(0, 3), 0);
        Checks.due("no ADD in the BOOK", h.count(5), 32);
        Checks.due("PART of 26 with an ADD", Math.min(h.sendBytes(0, 0, 0, 26, true), 0), 0);
        Checks.due("bytes", h.partition(0, 2), 86);
        Checks.due("PART of 14", h.sendBytes(0, 0, 0, 14, true), -8);
        Checks.due("end", h.end(0, 0, true), 0);
        Checks.due("bytes", h.partition(0, 2), 100);
        Checks.due("an ADD to the last place of the BOOK", leftInBook(16, 1).send(0, 0, 0, 0, true), 0);
        Checks.tapeAlone("an ADD to a full BOOK", () -> leftInBook(0, 1), f -> f.send(0, 0, 0, 0, true), -8);
        House full = leftInBook(16, 1);
        full.send(0, 0, 0, 0, true);
        Checks.due("a PART without an ADD", full.send(0, 0, 0, 1, true), 1);
        Checks.due("a PART with an ADD", full.send(0, 0, 1, 0, true), -8);
        Checks.due("it was not ADDED", full.producer(0, 3), 1);
        Checks.due("a PLAIN one", full.send(3, 0, 1, 0, false), 0);
    }

    private static void later(Sentences s) {
        s.test("Promise 7", "In the TRANSACTION: a LATER offset: 0.", WriteSentences::laterIsTaken);
        s.test("Promise 7", "-1; -2 (also if offset is below 0); -3;", WriteSentences::laterOfUnknown);
        s.test("Promise 7", "-5 no TRANSACTION is OPEN;", WriteSentences::laterWithoutTransaction);
        s.test("Promise 7", "-8.", WriteSentences::laterWithoutRoom);
    }

    private static void laterIsTaken() {
        House h = House.of(8, 300, 10);
        h.register(0);
        h.begin(0, 0);
        int[][] laters = {{0, 0, 0}, {7, 7, MAX}, {0, 7, 1}, {7, 0, 2}};
        for (int i = 0; i < 4; i++) {
            int[] l = laters[i];
            Checks.due("later", h.later(0, 0, l[0], l[1], l[2]), 0);
            Checks.due("LATER offsets", h.producer(0, 4), i + 1);
            Checks.bytes("LATER", h, 8, 32 + 16 * i + 4, 3, 0, 0, 0, 0, 0, 0, 8 * l[0] + l[1], l[2] >>> 24,
                l[2] >> 16 & 255, l[2] >> 8 & 255, l[2] & 255);
            Checks.due("no MARK yet", h.marked(l[0], l[1]), -1);
        }
        Checks.due("none is ADDED", h.producer(0, 3), 0);
        h.end(0, 0, true);
        for (int[] l : laters) Checks.due("marked", h.marked(l[0], l[1]), l[2]);
    }

    private static void laterOfUnknown() {
        Checks.nothing("while CLOSED", Houses::closed, h -> h.later(5, 0, 0, 0, 0), -1);
        for (int offset : new int[] {-1, MIN}) {
            Checks.nothing("offset " + offset, Houses::busy, h -> h.later(5, 0, 0, 0, offset), -2);
        }
        for (int key : new int[] {-1, 1, 32}) {
            Checks.nothing("KEY " + key, Houses::busy, h -> h.later(key, 0, 0, 0, 0), -2);
        }
        for (int group : new int[] {-1, 8, MIN, MAX}) {
            Checks.nothing("GROUP " + group, Houses::busy, h -> h.later(5, 0, group, 0, 0), -2);
        }
        for (int p : new int[] {-1, 3, MIN, MAX}) {
            Checks.nothing("PARTITION " + p, Houses::busy, h -> h.later(5, 0, 0, p, 0), -2);
        }
        for (int epoch : new int[] {-1, 1, 65536, MIN, MAX}) {
            Checks.nothing("EPOCH " + epoch, Houses::busy, h -> h.later(5, epoch, 0, 0, 0), -3);
        }
        Checks.due("offset 0", Houses.busy().later(5, 0, 0, 0, 0), 0);
        Checks.due("offset MAX", Houses.busy().later(5, 0, 7, 2, MAX), 0);
    }

    private static void laterWithoutTransaction() {
        Checks.nothing("none was OPEN", Houses::busy, h -> h.later(0, 1, 0, 0, 0), -5);
        Checks.nothing("it is ENDED", () -> {
            House h = Houses.busy();
            h.end(5, 0, true);
            return h;
        }, h -> h.later(5, 0, 0, 0, 0), -5);
        Checks.due("one is OPEN", Houses.busy().later(31, 0, 0, 0, 0), 0);
    }

    private static void laterWithoutRoom() {
        Checks.due("the last place", leftInBook(16, 1).later(0, 0, 0, 0, 0), 0);
        Checks.nothing("no place", () -> leftInBook(0, 1), h -> h.later(0, 0, 0, 0, 0), -8);
        Checks.nothing("no place, two are OPEN", () -> leftInBook(0, 2), h -> h.later(1, 0, 0, 0, 0), -8);
        House h = leftInBook(16, 1);
        Checks.due("the last LATER", h.later(0, 0, 1, 1, 7), 0);
        Checks.due("one too many", h.later(0, 0, 1, 1, 8), -8);
        Checks.due("LATER offsets", h.producer(0, 4), 1);
        Checks.due("end", h.end(0, 0, true), 0);
        Checks.due("marked", h.marked(1, 1), 7);
    }

    private static void end(Sentences s) {
        s.test("Promise 8", "The TRANSACTION is ENDED: 0.", WriteSentences::endEnds);
        s.test("Promise 8", "-1; -2; -3;", WriteSentences::endOfUnknown);
        s.test("Promise 8", "-5 none is OPEN.", WriteSentences::endOfNone);
    }

    private static void endEnds() {
        for (int commit = 0; commit < 2; commit++) {
            House h = Houses.busy();
            Checks.due("end", h.end(5, 0, commit == 1), 0);
            Checks.due("OPEN", h.producer(5, 1), -1);
            Checks.due("OPEN", h.count(10), 1);
            Checks.due("the EPOCH is as it was", h.producer(5, 0), 0);
            for (int p = 0; p < 2; p++) {
                Checks.due("end in " + p, h.entry(p, h.partition(p, 0) - 1, 0), 3 - commit);
            }
            Checks.due("not ADDED", h.partition(2, 0), 1);
            Checks.due("MARK", h.marked(7, 2), commit == 1 ? 40 : -1);
            Checks.due("SEEN COMMITTED of 1", h.partition(1, 4), commit);
            Checks.due("SEEN COMMITTED of 0", h.partition(0, 4), 3 + commit);
            Checks.due("the tape stays", h.count(6), 5);
            Checks.due("the ANSWER stays", h.answer(0), 0xA1);
        }
    }

    private static void endOfUnknown() {
        for (int c = 0; c < 2; c++) {
            boolean commit = c == 1;
            Checks.nothing("while CLOSED", Houses::closed, h -> h.end(5, 0, commit), -1);
            for (int key : new int[] {-1, 1, 32, MIN, MAX}) {
                Checks.nothing("KEY " + key, Houses::busy, h -> h.end(key, 0, commit), -2);
            }
            for (int epoch : new int[] {-1, 1, 65536, MIN, MAX}) {
                Checks.nothing("EPOCH " + epoch, Houses::busy, h -> h.end(5, epoch, commit), -3);
            }
        }
    }

    private static void endOfNone() {
        for (int c = 0; c < 2; c++) {
            boolean commit = c == 1;
            Checks.nothing("none was OPEN", Houses::busy, h -> h.end(0, 1, commit), -5);
            Checks.nothing("it is ENDED", () -> {
                House h = Houses.busy();
                h.end(5, 0, true);
                return h;
            }, h -> h.end(5, 0, commit), -5);
        }
    }

    private static void mark(Sentences s) {
        s.test("Promise 9", "A MARK: 0.", WriteSentences::markIsTaken);
        s.test("Promise 9", "-1; -2 (also if offset is below 0);", WriteSentences::markOfUnknown);
        s.test("Promise 9", "-8.", WriteSentences::markWithoutRoom);
    }

    private static void markIsTaken() {
        House h = House.of(8, 300, 10);
        for (int[] m : new int[][] {{0, 0, 0}, {7, 7, MAX}, {0, 7, 1}, {7, 0, 2}, {7, 7, 3}}) {
            int bytes = h.count(5);
            Checks.due("mark", h.mark(m[0], m[1], m[2]), 0);
            Checks.due("marked", h.marked(m[0], m[1]), m[2]);
            Checks.bytes("MARK", h, 8, bytes + 4, 6, 0, 0, 0, 0, 0, 0, 8 * m[0] + m[1], m[2] >>> 24,
                m[2] >> 16 & 255, m[2] >> 8 & 255, m[2] & 255);
        }
        Checks.due("no PRODUCER by it", h.count(9), 0);
        Checks.due("a MARK may go back", h.mark(7, 7, 0), 0);
        Checks.due("marked", h.marked(7, 7), 0);
        Checks.due("the others are as they were", h.marked(0, 7), 1);
    }

    private static void markOfUnknown() {
        Checks.nothing("while CLOSED", Houses::closed, h -> h.mark(2, 1, 0), -1);
        for (int offset : new int[] {-1, MIN}) {
            Checks.nothing("offset " + offset, Houses::busy, h -> h.mark(2, 1, offset), -2);
        }
        for (int group : new int[] {-1, 8, MIN, MAX}) {
            Checks.nothing("GROUP " + group, Houses::busy, h -> h.mark(group, 1, 0), -2);
        }
        for (int p : new int[] {-1, 3, 8, MIN, MAX}) {
            Checks.nothing("PARTITION " + p, Houses::busy, h -> h.mark(2, p, 0), -2);
        }
        Checks.due("offset 0", Houses.busy().mark(2, 1, 0), 0);
    }

    private static void markWithoutRoom() {
        for (int open = 0; open < 3; open++) {
            int still = open;
            Checks.due("the last place", leftInBook(16, open).mark(2, 1, 5), 0);
            Checks.nothing("no place", () -> leftInBook(0, still), h -> h.mark(2, 1, 5), -8);
        }
    }

    private static void tick(Sentences s) {
        s.test("Promise 11", "The CLOCK is n more (also while the house is CLOSED);", WriteSentences::tickMovesTheClock);
        s.test("Promise 11", "then each TRANSACTION that has been OPEN for more than timeout ticks, by its number, is "
            + "ENDED with abort, and its PRODUCER REGISTERED with one EPOCH more:", WriteSentences::tickEndsTheOverdue);
        s.test("Promise 11", "how many were (0 while it is CLOSED).", WriteSentences::tickTellsHowMany);
        s.test("Promise 11", "-2: n is not 0 to 1000,", WriteSentences::tickOfTooManyOrFew);
        s.test("Promise 11", "or the CLOCK would be above 1000000.", WriteSentences::clockEnds);
    }

    private static void tickMovesTheClock() {
        House h = House.of(1, 100, 1000);
        int clock = 0;
        for (int n : new int[] {0, 1, 999, 1000}) {
            Checks.due("tick(" + n + ")", h.tick(n), 0);
            clock += n;
            Checks.due("CLOCK", h.count(3), clock);
        }
        h.crash(0);
        for (int n : new int[] {0, 1, 999, 1000}) {
            Checks.due("CLOSED: tick(" + n + ")", h.tick(n), 0);
            clock += n;
            Checks.due("CLOSED: CLOCK", h.count(3), clock);
        }
        h.open();
        Checks.due("CLOCK behind open", h.count(3), clock);
        h.register(0);
        h.begin(0, 0);
        Checks.due("the CLOCK of a BEGIN", h.producer(0, 2), clock);
        Checks.nothing("tick(0)", Houses::busy, b -> b.tick(0), 0);
        Checks.nothing("CLOSED: tick(0)", Houses::closed, b -> b.tick(0), 0);
    }

    private static void tickEndsTheOverdue() {
        House h = House.of(2, 300, 5);
        for (int key : new int[] {1, 3, 8, 9}) h.register(key);
        h.begin(9, 0);
        h.begin(3, 0);
        h.send(3, 0, 1, 0, true);
        h.send(9, 0, 1, 0, true);
        h.send(9, 0, 0, 0, true);
        h.later(9, 0, 0, 0, 4);
        h.tick(1);
        h.begin(1, 0);
        h.begin(8, 0);
        h.end(8, 0, true);
        Checks.due("OPEN for timeout ticks", h.tick(4), 0);
        h.sync();
        int book = h.count(5);
        Checks.due("OPEN for one more", h.tick(1), 2);
        Checks.due("bytes that came", h.count(4), 2 * 48 + 3 * 14);
        int[][] entries = {{4, 9, 0, 0, 0, 0, 0, 0, 0, 0, 0, 0}, {5, 9, 0, 0, 0, 0, 0, 0, 0, 0, 0, 0},
            {0, 9, 0, 1, 0, 0, 0, 0, 0, 0, 0, 0}, {4, 3, 0, 0, 0, 0, 0, 0, 0, 0, 0, 1},
            {5, 3, 0, 0, 0, 0, 0, 0, 0, 0, 0, 1}, {0, 3, 0, 1, 0, 0, 0, 0, 0, 0, 0, 0}};
        for (int i = 0; i < 6; i++) Checks.bytes("ENTRY " + i, h, 2, book + 16 * i + 4, entries[i]);
        Checks.due("first ABORT in 1", h.entry(1, 2, 1), 9);
        Checks.due("second ABORT in 1", h.entry(1, 3, 1), 3);
        for (int w = 0; w < 2; w++) Checks.due("ABORT in 0", h.entry(0, 1, w), w == 0 ? 3 : 9);
        Checks.due("its EPOCH", h.entry(0, 1, 2), 0);
        Checks.due("no MARK", h.marked(0, 0), -1);
        Checks.due("EPOCH of 9", h.producer(9, 0), 1);
        Checks.due("EPOCH of 3", h.producer(3, 0), 1);
        Checks.due("EPOCH of 1", h.producer(1, 0), 0);
        Checks.due("EPOCH of 8", h.producer(8, 0), 0);
        Checks.due("1 is OPEN", h.producer(1, 1), 2);
        Checks.due("the old EPOCH is FENCED", h.send(9, 0, 0, 1, true), -3);
        Checks.due("then 1's", h.tick(1), 1);
        Checks.due("EPOCH of 1", h.producer(1, 0), 1);
    }

    private static void tickTellsHowMany() {
        House h = House.of(1, 300, 10);
        Checks.due("of none", h.tick(1000), 0);
        for (int key = 0; key < 32; key++) {
            h.register(key);
            h.begin(key, 0);
        }
        Checks.due("not yet", h.tick(10), 0);
        Checks.due("all", h.tick(1), 32);
        Checks.due("none is left", h.tick(1000), 0);
        h.begin(4, 1);
        h.sync();
        h.crash(0);
        int book = h.count(5);
        Checks.due("CLOSED", h.tick(1000), 0);
        Checks.due("CLOSED: nothing came", h.count(5), book);
        h.open();
        Checks.due("OPEN still", h.producer(4, 1), 32);
        Checks.due("behind open", h.tick(0), 1);
        Checks.due("EPOCH", h.producer(4, 0), 2);
    }

    private static void tickOfTooManyOrFew() {
        for (int n : new int[] {-1, 1001, MIN, MAX, -1000, 65536}) {
            Checks.nothing("tick(" + n + ")", Houses::busy, h -> h.tick(n), -2);
            Checks.nothing("CLOSED: tick(" + n + ")", Houses::closed, h -> h.tick(n), -2);
        }
        Checks.due("tick(0)", Houses.busy().tick(0), 0);
        Checks.due("tick(1000)", Houses.busy().tick(1000), 2);
    }

    /** 512 calls bring the CLOCK to 512000 at most; the end lies behind them, where the words are kept all the same. */
    private static void clockEnds() {
        House h = new House();
        for (int i = 1; i <= 511; i++) Checks.due("tick " + i, h.tick(1000), 0);
        Checks.due("CLOCK", h.count(3), 511000);
        OnceLedger far = new OnceLedger();
        for (int i = 0; i < 999; i++) far.tick(1000);
        Checks.due("tick(1000) to 1000000", far.tick(1000), 0);
        Checks.due("CLOCK", far.count(3), 1000000);
        Checks.due("tick(1)", far.tick(1), -2);
        Checks.due("tick(0)", far.tick(0), 0);
        Checks.due("CLOCK", far.count(3), 1000000);
    }
}
