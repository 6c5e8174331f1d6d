import java.util.function.Supplier;

/** The sentences of the promises that ask: 10, 12, 13 and 17 to 22. */
final class ReadSentences {
    private static final int MAX = Integer.MAX_VALUE;
    private static final int MIN = Integer.MIN_VALUE;

    private ReadSentences() {
    }

    static void all(Sentences s) {
        marked(s);
        fetch(s);
        partition(s);
        entry(s);
        producer(s);
        next(s);
        byteOf(s);
        count(s);
    }

    private static void marked(Sentences s) {
        s.test("Promise 10", "The GROUP's MARK for the PARTITION;", ReadSentences::markedTellsTheMark);
        s.test("Promise 10", "NONE without, if there is no such GROUP or PARTITION, or the house is CLOSED.",
            ReadSentences::markedIsNone);
    }

    private static void markedTellsTheMark() {
        House h = House.of(3, 300, 10);
        for (int offset : new int[] {0, 1, MAX}) {
            h.mark(0, 0, offset);
            h.mark(7, 2, offset);
            Checks.due("marked(0, 0)", h.marked(0, 0), offset);
            Checks.due("marked(7, 2)", h.marked(7, 2), offset);
        }
        Checks.due("another GROUP", h.marked(6, 2), -1);
        Checks.due("another PARTITION", h.marked(7, 1), -1);
        Checks.nothing("marked", Houses::busy, b -> b.marked(2, 1), 9);
    }

    private static void markedIsNone() {
        Checks.nothing("without a MARK", Houses::busy, h -> h.marked(2, 0), -1);
        for (int group : new int[] {-1, 8, MIN, MAX}) {
            Checks.nothing("GROUP " + group, Houses::busy, h -> h.marked(group, 1), -1);
        }
        for (int p : new int[] {-1, 3, 8, MIN, MAX}) {
            Checks.nothing("PARTITION " + p, Houses::busy, h -> h.marked(2, p), -1);
        }
        Checks.nothing("while CLOSED", Houses::closed, h -> h.marked(2, 1), -1);
        House h = Houses.closed();
        h.open();
        Checks.due("behind open", h.marked(2, 1), 9);
    }

    private static void fetch(Sentences s) {
        s.test("Promise 12", "The first ENTRY from an OFFSET on that is SEEN (or SEEN COMMITTED): its OFFSET;",
            ReadSentences::fetchFindsTheFirst);
        s.test("Promise 12", "its payload becomes the ANSWER.", ReadSentences::payloadBecomesTheAnswer);
        s.test("Promise 12", "NONE, and the ANSWER is empty, if there is none such, or no such PARTITION, from is below "
            + "0, or the house is CLOSED.", ReadSentences::fetchIsNone);
        s.test("Promise 13", "Byte i of the ANSWER (0 to 255);", ReadSentences::answerTellsBytes);
        s.test("Promise 13", "NONE if there is none such.", ReadSentences::answerIsNone);
    }

    /** By OFFSET: PART aborted, ABORT, PLAIN, PART committed, COMMIT, PART OPEN, PLAIN; the payload is the OFFSET. */
    private static House sevenEntries() {
        House h = House.of(2, 300, 10);
        h.register(0);
        h.register(1);
        int number = 0;
        h.begin(0, 0);
        h.feed(1, 0, 0);
        h.send(0, 0, 0, number++, true);
        h.end(0, 0, false);
        h.feed(1, 2, 0);
        h.send(0, 0, 0, number++, false);
        h.begin(0, 0);
        h.feed(1, 3, 0);
        h.send(0, 0, 0, number++, true);
        h.end(0, 0, true);
        h.begin(0, 0);
        h.feed(1, 5, 0);
        h.send(0, 0, 0, number++, true);
        h.feed(1, 6, 0);
        h.send(1, 0, 0, 0, false);
        Checks.due("ENTRIES", h.partition(0, 0), 7);
        return h;
    }

    private static void fetchFindsTheFirst() {
        House h = sevenEntries();
        int[] seen = {0, 2, 2, 3, 5, 5, 6, -1};
        int[] committed = {2, 2, 2, 3, -1, -1, -1, -1};
        for (int from = 0; from < 8; from++) {
            Checks.due("fetch(0, " + from + ", false)", h.fetch(0, from, false), seen[from]);
            Checks.due("answer", h.answer(0), seen[from]);
            Checks.due("fetch(0, " + from + ", true)", h.fetch(0, from, true), committed[from]);
            Checks.due("answer", h.answer(0), committed[from]);
        }
        h.end(0, 0, true);
        int[] then = {2, 2, 2, 3, 5, 5, 6, -1, -1};
        for (int from = 0; from < 9; from++) {
            Checks.due("ended: fetch(0, " + from + ", true)", h.fetch(0, from, true), then[from]);
        }
    }

    private static void payloadBecomesTheAnswer() {
        House h = House.of(1, 300, 10);
        h.register(0);
        for (int size : new int[] {0, 1, 16, 39, 40}) {
            int offset = h.partition(0, 0);
            h.sendBytes(0, 0, 0, 14 + size, false);
            h.tape(3, 200);
            Checks.due("fetch", h.fetch(0, offset, true), offset);
            for (int i = 0; i < size; i++) Checks.due("answer(" + i + ") of " + size, h.answer(i), 1 + i);
            Checks.due("behind the payload", h.answer(size), -1);
            Checks.due("the tape is another", h.count(6), 3);
            h.send(0, 0, -1, 0, false);
        }
        Checks.answerAlone("fetch", Houses::busy, b -> b.fetch(0, 0, true), 0, 0xA1, 0xC3, 0x80, 0xFF);
        Checks.answerAlone("fetch", Houses::busy, b -> b.fetch(1, 0, false), 0, 0x0B, 0x0A);
        Checks.answerAlone("fetch without payload", Houses::busy, b -> b.fetch(0, 1, false), 1);
        Checks.due("fetch of 40", h.fetch(0, 4, true), 4);
        Checks.due("fetch of 1", h.fetch(0, 1, true), 1);
        Checks.due("answer(1): nothing is left of the longer", h.answer(1), -1);
        Checks.due("fetch of 0", h.fetch(0, 0, true), 0);
        Checks.due("answer(0): nothing is left of the longer", h.answer(0), -1);
        h.fetch(0, 4, true);
        h.sendBytes(0, 0, 0, 15, false);
        Checks.due("it stays behind a send", h.answer(39), 40);
        h.register(1);
        h.sync();
        h.tick(1);
        Checks.due("it stays behind other calls", h.answer(39), 40);
    }

    private static void fetchIsNone() {
        int entries = Houses.busy().partition(0, 0);
        for (int c = 0; c < 2; c++) {
            boolean committed = c == 1;
            for (int from : new int[] {-1, MIN, entries, entries + 1, MAX}) {
                Checks.answerAlone("fetch(0, " + from + ", ..)", Houses::busy, h -> h.fetch(0, from, committed), -1);
            }
            for (int p : new int[] {-1, 3, 8, MIN, MAX}) {
                Checks.answerAlone("fetch(" + p + ", 0, ..)", Houses::busy, h -> h.fetch(p, 0, committed), -1);
            }
            Checks.answerAlone("fetch while CLOSED", Houses::closed, h -> h.fetch(0, 0, committed), -1);
        }
        Checks.answerAlone("none is SEEN COMMITTED", Houses::busy, h -> h.fetch(1, 0, true), -1);
        Checks.answerAlone("none at STABLE", Houses::busy, h -> h.fetch(0, 1, true), -1);
        Checks.due("the last", Houses.busy().fetch(0, entries - 1, false), entries - 1);
    }

    private static void answerTellsBytes() {
        House h = House.of(1, 300, 10);
        h.register(0);
        h.feed(6, 0xFF_80_7F_01_00_FEL, 0);
        h.send(0, 0, 0, 0, false);
        h.fetch(0, 0, false);
        int[] want = {0xFE, 0, 1, 0x7F, 0x80, 0xFF};
        for (int i = 0; i < 6; i++) Checks.due("answer(" + i + ")", h.answer(i), want[i]);
        Checks.nothing("answer", Houses::busy, b -> b.answer(3), 255);
    }

    private static void answerIsNone() {
        for (int i : new int[] {-1, 4, 5, 40, MIN, MAX}) {
            Checks.nothing("answer(" + i + ")", Houses::busy, h -> h.answer(i), -1);
        }
        Checks.due("of a new object", new House().answer(0), -1);
        House full = House.of(1, 300, 10);
        full.register(0);
        full.sendBytes(0, 0, 0, 54, false);
        full.fetch(0, 0, false);
        Checks.due("answer(39)", full.answer(39), 40);
        Checks.due("answer(40)", full.answer(40), -1);
    }

    private static void partition(Sentences s) {
        s.test("Promise 17", "Of a PARTITION: 0 ENTRIES (those that are whole), 1 STABLE, 2 bytes, 3 how many of these "
            + "are UNSYNCED, 4 ENTRIES that are SEEN COMMITTED, 5 OPEN TRANSACTIONS that ADDED it.",
            ReadSentences::partitionTells);
        s.test("Promise 17", "NONE if there is none such, for another what, or (1, 4, 5) if the house is CLOSED.",
            ReadSentences::partitionIsNone);
    }

    private static void partitionTells() {
        House h = sevenEntries();
        int[] want = {7, 5, 7 * 14 + 5, 7 * 14 + 5, 2, 1};
        for (int what = 0; what < 6; what++) Checks.due("partition(0, " + what + ")", h.partition(0, what), want[what]);
        for (int what = 0; what < 6; what++) Checks.due("partition(1, " + what + ")", h.partition(1, what), 0);
        h.sync();
        h.begin(1, 0);
        Checks.due("OPEN without an ADD", h.partition(0, 5), 1);
        h.send(1, 0, 0, 1, true);
        int[] then = {8, 5, 7 * 14 + 5 + 14, 14, 2, 2};
        for (int what = 0; what < 6; what++) Checks.due("then partition(0, " + what + ")", h.partition(0, what), then[what]);
        h.crash(16 + 16 + 13);
        Checks.due("the eighth is not whole", h.partition(0, 0), 7);
        Checks.due("its bytes are there", h.partition(0, 2), 7 * 14 + 5 + 13);
        for (int what = 0; what < 6; what++) {
            int w = what;
            int now = Houses.busy().partition(0, what);
            Checks.nothing("partition(0, " + what + ")", Houses::busy, b -> b.partition(0, w), now);
        }
        House eight = House.of(8, 300, 10);
        eight.register(0);
        eight.send(0, 0, 7, 0, false);
        Checks.due("partition(7, 0)", eight.partition(7, 0), 1);
        Checks.due("partition(8, 0)", eight.partition(8, 0), -1);
        House one = House.of(1, 300, 10);
        Checks.due("partition(0, 0)", one.partition(0, 0), 0);
        Checks.due("partition(1, 0)", one.partition(1, 0), -1);
    }

    private static void partitionIsNone() {
        for (int p : new int[] {-1, 3, 4, 8, MIN, MAX}) {
            for (int what = 0; what < 6; what++) {
                int w = what;
                Checks.nothing("partition(" + p + ", " + what + ")", Houses::busy, h -> h.partition(p, w), -1);
            }
        }
        for (int what : new int[] {-1, 6, 7, MIN, MAX}) {
            Checks.nothing("partition(0, " + what + ")", Houses::busy, h -> h.partition(0, what), -1);
            Checks.nothing("CLOSED: partition(0, " + what + ")", Houses::closed, h -> h.partition(0, what), -1);
        }
        House h = Houses.closed();
        int[] want = {3, -1, 14 + 4 + 14 + 15 + 5, 0, -1, -1};
        for (int what = 0; what < 6; what++) Checks.due("CLOSED: partition(0, " + what + ")", h.partition(0, what), want[what]);
        for (int what = 0; what < 6; what++) Checks.due("CLOSED: partition(3, " + what + ")", h.partition(3, what), -1);
    }

    private static void entry(Sentences s) {
        s.test("Promise 18", "Of the ENTRY at an OFFSET: 0 KIND, 1 KEY, 2 EPOCH, 3 NUMBER, 4 the size of its payload.",
            ReadSentences::entryTells);
        s.test("Promise 18", "NONE if there is none such, or for another what.", ReadSentences::entryIsNone);
    }

    private static void entryTells() {
        House h = House.of(2, 300, 10);
        h.register(31);
        h.register(31);
        h.sendBytes(31, 1, 1, 54, false);
        h.begin(31, 1);
        h.end(31, 1, false);
        h.begin(31, 1);
        h.sendBytes(31, 1, 1, 15, true);
        h.register(31);
        h.begin(31, 2);
        h.send(31, 2, 1, 0, true);
        h.end(31, 2, true);
        int[][] want = {{0, 31, 1, 0, 40}, {1, 31, 1, 1, 1}, {3, 31, 1, 1, 0}, {1, 31, 2, 0, 0}, {2, 31, 2, 2, 0}};
        for (int o = 0; o < 5; o++) {
            for (int w = 0; w < 5; w++) Checks.due("entry(1, " + o + ", " + w + ")", h.entry(1, o, w), want[o][w]);
        }
        h.crash(h.count(4));
        for (int o = 0; o < 5; o++) {
            for (int w = 0; w < 5; w++) Checks.due("CLOSED: entry(1, " + o + ", " + w + ")", h.entry(1, o, w), want[o][w]);
        }
        Checks.nothing("entry", Houses::busy, b -> b.entry(0, 2, 4), 1);
    }

    private static void entryIsNone() {
        for (Supplier<House> made : java.util.List.<Supplier<House>>of(Houses::busy, Houses::closed)) {
            int entries = made.get().partition(0, 0);
            for (int offset : new int[] {-1, entries, entries + 1, MIN, MAX}) {
                Checks.nothing("entry(0, " + offset + ", 0)", made, h -> h.entry(0, offset, 0), -1);
            }
            for (int p : new int[] {-1, 3, 8, MIN, MAX}) {
                Checks.nothing("entry(" + p + ", 0, 0)", made, h -> h.entry(p, 0, 0), -1);
            }
            for (int what : new int[] {-1, 5, MIN, MAX}) {
                Checks.nothing("entry(0, 0, " + what + ")", made, h -> h.entry(0, 0, what), -1);
            }
            Checks.nothing("the last", made, h -> h.entry(0, entries - 1, 0), 0);
        }
        Checks.due("of an empty PARTITION", new House().entry(0, 0, 0), -1);
    }

    private static void producer(Sentences s) {
        s.test("Promise 19", "Of a PRODUCER: 0 EPOCH, 1 its OPEN TRANSACTION (NONE), 2 the CLOCK at which that began "
            + "(NONE), 3 the PARTITIONS that it ADDED, bit by bit (0 without), 4 how many LATER offsets it has (0 "
            + "without).", ReadSentences::producerTells);
        s.test("Promise 19", "NONE if it is not REGISTERED, for another what, or if the house is CLOSED.",
            ReadSentences::producerIsNone);
    }

    private static void producerTells() {
        House h = House.of(8, 300, 10);
        h.register(31);
        int[] idle = {0, -1, -1, 0, 0};
        for (int w = 0; w < 5; w++) Checks.due("idle: producer(31, " + w + ")", h.producer(31, w), idle[w]);
        h.register(31);
        h.begin(31, 1);
        int[] begun = {1, 0, 0, 0, 0};
        for (int w = 0; w < 5; w++) Checks.due("begun: producer(31, " + w + ")", h.producer(31, w), begun[w]);
        int bits = 0;
        for (int p = 7; p >= 0; p--) {
            h.send(31, 1, p, 0, true);
            bits |= 1 << p;
            Checks.due("ADDED", h.producer(31, 3), bits);
            h.send(31, 1, p, 1, true);
            Checks.due("ADDED but once", h.producer(31, 3), bits);
        }
        for (int i = 1; i <= 20; i++) {
            h.later(31, 1, 0, 0, 0);
            Checks.due("LATER offsets", h.producer(31, 4), i);
        }
        h.end(31, 1, true);
        h.tick(9);
        h.begin(31, 1);
        int[] again = {1, 1, 9, 0, 0};
        for (int w = 0; w < 5; w++) Checks.due("again: producer(31, " + w + ")", h.producer(31, w), again[w]);
        int[] five = {0, 0, 3, 3, 1};
        for (int w = 0; w < 5; w++) {
            int what = w;
            Checks.nothing("producer(5, " + w + ")", Houses::busy, b -> b.producer(5, what), five[w]);
        }
    }

    private static void producerIsNone() {
        for (int what = 0; what < 5; what++) {
            int w = what;
            for (int key : new int[] {-1, 1, 30, 32, MIN, MAX}) {
                Checks.nothing("producer(" + key + ", " + what + ")", Houses::busy, h -> h.producer(key, w), -1);
            }
            Checks.nothing("CLOSED: producer(5, " + what + ")", Houses::closed, h -> h.producer(5, w), -1);
        }
        for (int what : new int[] {-1, 5, MIN, MAX}) {
            Checks.nothing("producer(5, " + what + ")", Houses::busy, h -> h.producer(5, what), -1);
        }
    }

    private static void next(Sentences s) {
        s.test("Promise 20", "NEXT.", ReadSentences::nextTells);
        s.test("Promise 20", "NONE if the KEY is not REGISTERED, there is no such PARTITION, or the house is CLOSED.",
            ReadSentences::nextIsNone);
    }

    private static void nextTells() {
        Checks.nothing("next(0, 0)", Houses::busy, h -> h.next(0, 0), 1);
        Checks.nothing("next(0, 2)", Houses::busy, h -> h.next(0, 2), 0);
        Checks.nothing("next(5, 1)", Houses::busy, h -> h.next(5, 1), 1);
        Checks.nothing("next(31, 0)", Houses::busy, h -> h.next(31, 0), 2);
        House h = Houses.closed();
        h.open();
        Checks.due("behind a crash that left one of two", h.next(31, 0), 1);
    }

    private static void nextIsNone() {
        for (int key : new int[] {-1, 1, 30, 32, MIN, MAX}) {
            Checks.nothing("next(" + key + ", 0)", Houses::busy, h -> h.next(key, 0), -1);
        }
        for (int p : new int[] {-1, 3, 8, MIN, MAX}) {
            Checks.nothing("next(0, " + p + ")", Houses::busy, h -> h.next(0, p), -1);
        }
        Checks.nothing("next while CLOSED", Houses::closed, h -> h.next(0, 0), -1);
    }

    private static void byteOf(Sentences s) {
        s.test("Promise 21", "Byte i of a FILE (0 to 255);", ReadSentences::byteOfTells);
        s.test("Promise 21", "NONE if there is none such.", ReadSentences::byteOfIsNone);
    }

    private static void byteOfTells() {
        Checks.nothing("byteOf(0, 14)", Houses::busy, h -> h.byteOf(0, 14), 0xA1);
        Checks.nothing("byteOf(0, 16)", Houses::busy, h -> h.byteOf(0, 16), 0x80);
        Checks.nothing("byteOf(0, 17)", Houses::busy, h -> h.byteOf(0, 17), 0xFF);
        Checks.nothing("CLOSED: byteOf(0, 17)", Houses::closed, h -> h.byteOf(0, 17), 0xFF);
        Checks.nothing("byteOf(3, 7)", Houses::busy, h -> h.byteOf(3, 16 + 7), 1);
    }

    private static void byteOfIsNone() {
        for (Supplier<House> made : java.util.List.<Supplier<House>>of(Houses::busy, Houses::closed)) {
            int[] sizes = {made.get().partition(0, 2), made.get().partition(1, 2), made.get().partition(2, 2),
                made.get().count(5)};
            for (int f = 0; f < 4; f++) {
                int file = f;
                for (int i : new int[] {-1, sizes[f], sizes[f] + 1, MIN, MAX}) {
                    Checks.nothing("byteOf(" + f + ", " + i + ")", made, h -> h.byteOf(file, i), -1);
                }
                if (sizes[f] > 0) {
                    House h = made.get();
                    Checks.due("the last byte of " + f, h.byteOf(f, sizes[f] - 1) >= 0 ? 1 : 0, 1);
                    Checks.due("the first byte of " + f, h.byteOf(f, 0) >= 0 ? 1 : 0, 1);
                }
            }
            for (int file : new int[] {-1, 4, 8, 9, MIN, MAX}) {
                Checks.nothing("byteOf(" + file + ", 0)", made, h -> h.byteOf(file, 0), -1);
            }
        }
        House eight = House.of(8, 100, 1);
        eight.register(1);
        Checks.due("byteOf(8, 5)", eight.byteOf(8, 5), 1);
        Checks.due("byteOf(9, 5)", eight.byteOf(9, 5), -1);
        House none = new House();
        for (int file = 0; file <= 5; file++) Checks.due("of nothing", none.byteOf(file, 0), -1);
    }

    private static void count(Sentences s) {
        s.test("Promise 22", "0 PARTITIONS, 1 CAPACITY, 2 timeout, 3 the CLOCK, 4 UNSYNCED bytes, 5 bytes of the BOOK, 6 "
            + "bytes of the tape, 7 whether the house is CLOSED (1, 0),", ReadSentences::countTells);
        s.test("Promise 22", "8 bytes that the latest open() CUT (0 without);", ReadSentences::countTellsTheCut);
        s.test("Promise 22", "while it is not CLOSED (else NONE): 9 PRODUCERS that are REGISTERED, 10 TRANSACTIONS that "
            + "are OPEN, 11 the number that the next TRANSACTION gets.", ReadSentences::countTellsWhileOpen);
        s.test("Promise 22", "NONE for another what.", ReadSentences::countIsNone);
    }

    private static void countTells() {
        int[] want = {3, 300, 20, 3, 91, 16 * 15, 5, 0, 0, 3, 2, 3};
        for (int what = 0; what < 12; what++) {
            int w = what;
            Checks.nothing("count(" + what + ")", Houses::busy, h -> h.count(w), want[what]);
        }
        int[] closed = {3, 300, 20, 3, 0, 16 * 12, 5, 1, 0, -1, -1, -1};
        for (int what = 0; what < 12; what++) {
            int w = what;
            Checks.nothing("CLOSED: count(" + what + ")", Houses::closed, h -> h.count(w), closed[what]);
        }
        House h = Houses.closed();
        h.tick(1000);
        Checks.due("the CLOCK goes while CLOSED", h.count(3), 1003);
        h.open();
        Checks.due("CLOSED no more", h.count(7), 0);
    }

    private static void countTellsTheCut() {
        House h = House.of(2, 300, 10);
        Checks.due("without an open()", h.count(8), 0);
        h.register(0);
        h.crash(15);
        Checks.due("not yet by the crash", h.count(8), 0);
        h.open();
        Checks.due("CUT", h.count(8), 15);
        h.register(0);
        h.sync();
        Checks.due("it stays", h.count(8), 15);
        Checks.due("a refused open() is none", h.open(), -1);
        Checks.due("it stays", h.count(8), 15);
        h.sendBytes(0, 0, 1, 54, false);
        h.crash(53);
        Checks.due("it stays until the next open()", h.count(8), 15);
        h.open();
        Checks.due("the latest", h.count(8), 53);
        h.crash(0);
        h.open();
        Checks.due("nothing was CUT", h.count(8), 0);
    }

    private static void countTellsWhileOpen() {
        House h = new House();
        for (int key = 0; key < 32; key++) {
            Checks.due("REGISTERED", h.count(9), key);
            h.register(key);
        }
        Checks.due("REGISTERED", h.count(9), 32);
        h.register(31);
        Checks.due("REGISTERED again is but one", h.count(9), 32);
        for (int key = 0; key < 31; key++) {
            Checks.due("OPEN", h.count(10), key);
            Checks.due("next number", h.count(11), key);
            Checks.due("begin", h.begin(key, 0), key);
        }
        h.begin(31, 1);
        Checks.due("OPEN", h.count(10), 32);
        h.end(0, 0, true);
        Checks.due("OPEN", h.count(10), 31);
        Checks.due("next number", h.count(11), 32);
        h.sync();
        h.crash(0);
        for (int what = 9; what < 12; what++) Checks.due("CLOSED: count(" + what + ")", h.count(what), -1);
        h.open();
        int[] want = {32, 31, 32};
        for (int what = 9; what < 12; what++) Checks.due("behind open: count(" + what + ")", h.count(what), want[what - 9]);
    }

    private static void countIsNone() {
        for (int what : new int[] {-1, 12, 13, MIN, MAX}) {
            Checks.nothing("count(" + what + ")", Houses::busy, h -> h.count(what), -1);
            Checks.nothing("CLOSED: count(" + what + ")", Houses::closed, h -> h.count(what), -1);
        }
    }
}
