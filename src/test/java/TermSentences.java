/** The sentences of the document's 'Terms', 1 to 4. */
final class TermSentences {
    private static final int MAX = Integer.MAX_VALUE;
    private static final int MIN = Integer.MIN_VALUE;

    private TermSentences() {
    }

    static void all(Sentences s) {
        files(s);
        producers(s);
        rooms(s);
        stable(s);
        crashes(s);
        refusals(s);
    }

    private static void files(Sentences s) {
        s.test("Terms 1", "FILES 0 to P - 1 are the PARTITIONS (P is 1 to 8), FILE P is the BOOK; each has bytes, "
            + "to whose end ENTRIES come.", TermSentences::filesArePartitionsThenTheBook);
        s.test("Terms 1", "All bytes that came since the latest sync are UNSYNCED, in the order in which they came "
            + "to all FILES.", TermSentences::unsyncedInTheirOrder);
        s.test("Terms 1", "All bytes that came since the latest sync are UNSYNCED", TermSentences::unsyncedAreMany);
        s.test("Terms 1", "Numbers are written with their bytes, the highest first.",
            TermSentences::numbersHighestByteFirst);
        s.test("Terms 1", "Numbers are written with their bytes, the highest first.",
            TermSentences::transactionBeyond255);
        s.test("Terms 1", "The SUM of an ENTRY (4 bytes) is s: from 17 on, for each of the bytes of the ENTRY behind "
            + "the SUM, b (0 to 255), s is s * 31 + b (32 bits, that wrap).", TermSentences::sumWraps);
        s.test("Terms 1", "An ENTRY of a PARTITION: SUM, the size of its payload (2 bytes; 0 to 40), KIND (1), KEY (1), "
            + "EPOCH (2), NUMBER (4), the payload: 14 bytes and those of the payload.",
            TermSentences::entryOfAPartition);
        s.test("Terms 1", "ENTRIES have OFFSETS 0, 1, 2 and on.", TermSentences::offsets);
        s.test("Terms 1", "KIND 0 PLAIN, 1 PART (of a TRANSACTION), 2 COMMIT, 3 ABORT (both without payload).",
            TermSentences::kindsOfAPartition);
        s.test("Terms 1", "A PARTITION has at most CAPACITY bytes.", TermSentences::capacityIsFull);
        s.test("Terms 1", "An ENTRY of the BOOK: SUM, KIND (1), KEY (1), EPOCH (2), A (4), B (4): 16 bytes.",
            TermSentences::entryOfTheBook);
        s.test("Terms 1", "KIND 0 REGISTER (A, B 0), 1 BEGIN (A the CLOCK, B the TRANSACTION), 2 ADD (A a PARTITION, "
            + "B 0), 3 LATER (A a PLACE, B an offset), 4 DECIDE (A 1 commit, 0 abort; B the TRANSACTION), 5 DONE (A 0, "
            + "B the TRANSACTION), 6 MARK (KEY, EPOCH 0; A a PLACE, B an offset).", TermSentences::kindsOfTheBook);
        s.test("Terms 1", "The BOOK has at most 16000 bytes.", TermSentences::bookIsFull);
    }

    private static void filesArePartitionsThenTheBook() {
        for (int partitions = 1; partitions <= 8; partitions++) {
            House h = House.of(partitions, 100, 1);
            h.register(5);
            for (int p = 0; p < partitions; p++) {
                Checks.due("send to " + p, h.send(5, 0, p, 0, false), 0);
                Checks.due("KEY in " + p, h.byteOf(p, 7), 5);
                Checks.due("last byte of " + p, h.byteOf(p, 13), 0);
                Checks.due("behind the last byte of " + p, h.byteOf(p, 14), -1);
            }
            Checks.due("send to the BOOK", h.send(5, 0, partitions, 0, false), -2);
            Checks.due("KEY in the BOOK", h.byteOf(partitions, 5), 5);
            Checks.due("last byte of the BOOK", h.byteOf(partitions, 15), 0);
            Checks.due("behind the last byte of the BOOK", h.byteOf(partitions, 16), -1);
            Checks.due("no FILE behind the BOOK", h.byteOf(partitions + 1, 0), -1);
            Checks.due("second send", h.send(5, 0, partitions - 1, 1, false), 1);
            Checks.due("the second comes to the end", h.byteOf(partitions - 1, 27), 1);
            Checks.due("the first is as it was", h.byteOf(partitions - 1, 13), 0);
            h.mark(1, 0, 3);
            Checks.due("a MARK comes to the end", h.byteOf(partitions, 16 + 4), 6);
            Checks.due("the REGISTER is as it was", h.byteOf(partitions, 4), 0);
        }
    }

    private static void unsyncedInTheirOrder() {
        int[] files = {1, 2, 0, 1, 2, 2, 0};
        int[] sizes = {15, 16, 14, 16, 16, 16, 14};
        for (int kept = 0; kept <= 107; kept++) {
            House h = House.of(2, 200, 10);
            h.register(0);
            Checks.due("sync", h.sync(), 16);
            Checks.due("nothing is UNSYNCED", h.count(4), 0);
            h.sendBytes(0, 0, 1, 15, false);
            h.register(1);
            h.send(0, 0, 0, 0, false);
            h.sendBytes(0, 0, 1, 16, false);
            h.begin(1, 0);
            h.send(1, 0, 0, 0, true);
            Checks.due("UNSYNCED", h.count(4), 107);
            Checks.due("UNSYNCED of 0", h.partition(0, 3), 28);
            Checks.due("UNSYNCED of 1", h.partition(1, 3), 31);
            Checks.due("crash", h.crash(kept), 107 - kept);
            int[] bytes = {0, 0, 16};
            int left = kept;
            for (int i = 0; i < files.length; i++) {
                bytes[files[i]] += Math.min(left, sizes[i]);
                left -= Math.min(left, sizes[i]);
            }
            Checks.due("0 at " + kept, h.partition(0, 2), bytes[0]);
            Checks.due("1 at " + kept, h.partition(1, 2), bytes[1]);
            Checks.due("BOOK at " + kept, h.count(5), bytes[2]);
        }
    }

    /** Some 1440 ENTRIES without a sync, about as many as 512 calls bring; a crash keeps all but the last byte. */
    private static void unsyncedAreMany() {
        for (int gone : new int[] {0, 1, 14}) {
            House h = House.of(8, 4000, 1);
            for (int key = 0; key < 32; key++) h.register(key);
            for (int epoch = 0; epoch < 6; epoch++) {
                for (int key = 0; key < 32; key++) {
                    h.begin(key, epoch);
                    Checks.due("send", h.send(key, epoch, epoch % 2, 0, true), epoch / 2 * 64 + key);
                    if (key == 31) Checks.due("tick", h.tick(2), 32);
                }
            }
            for (int n = 0; n < 60; n++) Checks.due("send", h.send(5, 6, 7, n, false), n);
            int book = 16 * (32 + 6 * 32 * 5);
            int log = 14 * 3 * 32 * 2;
            Checks.due("UNSYNCED", h.count(4), book + 2 * log + 60 * 14);
            Checks.due("crash", h.crash(book + 2 * log + 60 * 14 - gone), gone);
            Checks.due("bytes of the BOOK", h.count(5), book);
            Checks.due("bytes of 0", h.partition(0, 2), log);
            Checks.due("bytes of 1", h.partition(1, 2), log);
            Checks.due("bytes of 7", h.partition(7, 2), 60 * 14 - gone);
            Checks.due("open", h.open(), 0);
            Checks.due("NEXT", h.next(5, 7), gone == 0 ? 60 : 59);
            Checks.due("EPOCH", h.producer(31, 0), 6);
        }
    }

    private static void numbersHighestByteFirst() {
        House h = House.of(4, 200, 1000);
        h.mark(0, 0, 0x01020304);
        Checks.bytes("B of MARK", h, 4, 12, 1, 2, 3, 4);
        h.mark(7, 3, MAX);
        Checks.bytes("A and B of MARK", h, 4, 16 + 8, 0, 0, 0, 59, 127, 255, 255, 255);
        Checks.due("marked", h.marked(7, 3), MAX);
        for (int i = 0; i < 70; i++) h.tick(1000);
        for (int epoch = 0; epoch <= 256; epoch++) Checks.due("register", h.register(31), epoch);
        Checks.bytes("EPOCH 255", h, 4, 32 + 255 * 16 + 6, 0, 255);
        Checks.bytes("EPOCH 256", h, 4, 32 + 256 * 16 + 6, 1, 0);
        Checks.due("begin", h.begin(31, 256), 0);
        Checks.bytes("A of BEGIN", h, 4, 32 + 257 * 16 + 8, 0, 1, 17, 112);
        Checks.due("send", h.send(31, 256, 3, 0, true), 0);
        Checks.bytes("EPOCH of PART", h, 3, 8, 1, 0);
        Checks.due("EPOCH of PART", h.entry(3, 0, 2), 256);
        Checks.due("EPOCH 0 is another than 256", h.end(31, 0, true), -3);
        Checks.due("crash", h.crash(h.count(4)), 0);
        Checks.due("open", h.open(), 0);
        Checks.due("EPOCH behind open", h.producer(31, 0), 256);
        Checks.due("CLOCK at BEGIN behind open", h.producer(31, 2), 70000);
        Checks.due("MARK behind open", h.marked(7, 3), MAX);

        House n = House.of(1, 4000, 1000);
        n.register(0);
        for (int i = 0; i <= 256; i++) Checks.due("send", n.send(0, 0, 0, i, false), i);
        Checks.bytes("NUMBER 255", n, 0, 255 * 14 + 10, 0, 0, 0, 255);
        Checks.bytes("NUMBER 256", n, 0, 256 * 14 + 10, 0, 0, 1, 0);
        Checks.due("NUMBER 256", n.entry(0, 256, 3), 256);
        Checks.due("NEXT", n.next(0, 0), 257);
    }

    /** 193 TRANSACTIONS that tick() ends with one call more for many, and 64 that end() does: the BOOK suffices. */
    private static void transactionBeyond255() {
        House h = House.of(1, 200, 1);
        int number = 0;
        for (int key = 0; key < 32; key++) h.register(key);
        for (int epoch = 0; epoch < 6; epoch++) {
            for (int key = 0; key < 32; key++) Checks.due("begin", h.begin(key, epoch), number++);
            Checks.due("tick", h.tick(2), 32);
        }
        for (int i = 0; i < 64; i++) {
            Checks.due("begin", h.begin(0, 6), number++);
            Checks.due("end", h.end(0, 6, true), 0);
        }
        Checks.due("the next number", h.count(11), 256);
        int bytes = h.count(5);
        Checks.due("begin", h.begin(1, 6), 256);
        Checks.bytes("B of BEGIN", h, 1, bytes + 12, 0, 0, 1, 0);
        Checks.due("send", h.send(1, 6, 0, 0, true), 0);
        Checks.due("end", h.end(1, 6, true), 0);
        Checks.bytes("NUMBER of COMMIT", h, 0, 14 + 10, 0, 0, 1, 0);
        Checks.bytes("B of DECIDE", h, 1, bytes + 32 + 12, 0, 0, 1, 0);
        Checks.bytes("B of DONE", h, 1, bytes + 48 + 12, 0, 0, 1, 0);
        h.crash(h.count(4));
        Checks.due("open", h.open(), 0);
        Checks.due("the next number behind open", h.count(11), 257);
    }

    private static void sumWraps() {
        House h = House.of(2, 400, 10);
        h.register(31);
        h.mark(7, 1, MAX);
        int[] sizes = {0, 1, 8, 40};
        for (int i = 0; i < sizes.length; i++) {
            for (int done = 0; done < sizes[i]; done += 8) h.feed(Math.min(8, sizes[i] - done), -1L, 0);
            Checks.due("send", h.send(31, 0, 0, i, false), i);
        }
        h.feed(1, 0x80, 0);
        h.send(31, 0, 1, 0, false);
        int at = 0;
        for (int size : sizes) {
            sum(h, 0, at, 14 + size);
            at += 14 + size;
        }
        sum(h, 1, 0, 15);
        sum(h, 2, 0, 16);
        sum(h, 2, 16, 16);
    }

    private static void sum(House h, int file, int at, int size) {
        long s = 17;
        for (int i = at + 4; i < at + size; i++) s = (s * 31 + h.byteOf(file, i)) % (1L << 32);
        Checks.bytes("SUM at " + at + " of " + file, h, file, at, (int) (s >> 24), (int) (s >> 16 & 255),
            (int) (s >> 8 & 255), (int) (s & 255));
    }

    private static void entryOfAPartition() {
        int[] sizes = {0, 1, 39, 40};
        for (int size : sizes) {
            House h = House.of(2, 100, 10);
            h.register(30);
            h.register(30);
            Checks.due("send", h.sendBytes(30, 1, 1, 14 + size, false), 0);
            Checks.due("bytes", h.partition(1, 2), 14 + size);
            Checks.bytes("ENTRY", h, 1, 4, 0, size, 0, 30, 0, 1, 0, 0, 0, 0);
            for (int i = 0; i < size; i++) Checks.due("payload", h.byteOf(1, 14 + i), 1 + i);
            Checks.due("behind the payload", h.byteOf(1, 14 + size), -1);
            Checks.due("size", h.entry(1, 0, 4), size);
            sum(h, 1, 0, 14 + size);
        }
    }

    private static void offsets() {
        House h = House.of(2, 300, 10);
        h.register(0);
        Checks.due("first", h.send(0, 0, 0, 0, false), 0);
        Checks.due("second", h.send(0, 0, 0, 1, false), 1);
        Checks.due("first of the other", h.send(0, 0, 1, 0, false), 0);
        h.begin(0, 0);
        Checks.due("third", h.send(0, 0, 0, 2, true), 2);
        h.end(0, 0, true);
        Checks.due("the COMMIT has 3", h.entry(0, 3, 0), 2);
        Checks.due("fifth", h.send(0, 0, 0, 3, false), 4);
        Checks.due("ENTRIES", h.partition(0, 0), 5);
        Checks.due("no ENTRY ahead of 0", h.entry(0, -1, 0), -1);
        Checks.due("no ENTRY at 5", h.entry(0, 5, 0), -1);
    }

    private static void kindsOfAPartition() {
        House h = House.of(1, 300, 10);
        h.register(0);
        h.sendBytes(0, 0, 0, 17, false);
        for (int commit = 1; commit >= 0; commit--) {
            h.begin(0, 0);
            h.sendBytes(0, 0, 0, 18, true);
            h.tape(40, 7);
            h.end(0, 0, commit == 1);
            Checks.due("the tape stays", h.count(6), 40);
            h.send(0, 0, -1, 0, false);
        }
        int[] kinds = {0, 1, 2, 1, 3};
        int[] sizes = {3, 4, 0, 4, 0};
        for (int o = 0; o < 5; o++) {
            Checks.due("KIND of " + o, h.entry(0, o, 0), kinds[o]);
            Checks.due("size of " + o, h.entry(0, o, 4), sizes[o]);
        }
        Checks.due("bytes", h.partition(0, 2), 5 * 14 + 11);
    }

    private static void capacityIsFull() {
        int[] capacities = {100, 101, 3999, 4000};
        for (int capacity : capacities) {
            House h = House.of(1, capacity, 10);
            h.register(0);
            h.fillPartition(0, 0, 0, capacity - 14);
            Checks.due("one byte too many", h.sendBytes(0, 0, 0, 15, false), -8);
            Checks.due("as many as there are", h.sendBytes(0, 0, 0, 14, false), h.partition(0, 0) - 1);
            Checks.due("bytes", h.partition(0, 2), capacity);
            Checks.due("none is left", h.sendBytes(0, 0, 0, 14, false), -8);
            Checks.due("bytes", h.partition(0, 2), capacity);
        }
        for (int left = 0; left < 14; left++) {
            int bytes = 100 - left;
            Checks.tapeAlone("send with " + left + " left", () -> {
                House h = House.of(1, 100, 10);
                h.register(0);
                h.fillPartition(0, 0, 0, bytes);
                return h;
            }, h -> h.send(0, 0, 0, h.next(0, 0), false), -8);
        }
        House most = House.of(1, 4000, 10);
        most.register(0);
        for (int i = 0; i < 285; i++) Checks.due("send without payload", most.send(0, 0, 0, i, false), i);
        Checks.due("the 286th", most.send(0, 0, 0, 285, false), -8);
        Checks.due("ENTRIES", most.partition(0, 0), 285);
        Checks.due("SEEN COMMITTED", most.partition(0, 4), 285);
        Checks.due("the last", most.fetch(0, 284, true), 284);
        Checks.due("none behind it", most.fetch(0, 285, true), -1);
        Checks.due("none behind it", most.fetch(0, 285, false), -1);
    }

    private static void entryOfTheBook() {
        House h = House.of(8, 300, 10);
        for (int key = 0; key < 32; key++) {
            h.register(key);
            Checks.due("bytes", h.count(5), 16 * (key + 1));
        }
        for (int key = 0; key < 32; key += 31) {
            Checks.bytes("REGISTER", h, 8, 16 * key + 4, 0, key, 0, 0, 0, 0, 0, 0, 0, 0, 0, 0);
            sum(h, 8, 16 * key, 16);
        }
    }

    private static void kindsOfTheBook() {
        House h = House.of(3, 300, 1000);
        h.register(9);
        h.register(9);
        h.tick(515);
        h.begin(9, 1);
        h.end(9, 1, false);
        h.begin(9, 1);
        h.send(9, 1, 2, 0, true);
        h.later(9, 1, 7, 2, 258);
        h.end(9, 1, true);
        h.mark(6, 1, 772);
        int[][] entries = {
            {0, 9, 0, 0, 0, 0, 0, 0, 0, 0, 0, 0},
            {0, 9, 0, 1, 0, 0, 0, 0, 0, 0, 0, 0},
            {1, 9, 0, 1, 0, 0, 2, 3, 0, 0, 0, 0},
            {4, 9, 0, 1, 0, 0, 0, 0, 0, 0, 0, 0},
            {5, 9, 0, 1, 0, 0, 0, 0, 0, 0, 0, 0},
            {1, 9, 0, 1, 0, 0, 2, 3, 0, 0, 0, 1},
            {2, 9, 0, 1, 0, 0, 0, 2, 0, 0, 0, 0},
            {3, 9, 0, 1, 0, 0, 0, 58, 0, 0, 1, 2},
            {4, 9, 0, 1, 0, 0, 0, 1, 0, 0, 0, 1},
            {5, 9, 0, 1, 0, 0, 0, 0, 0, 0, 0, 1},
            {6, 0, 0, 0, 0, 0, 0, 49, 0, 0, 3, 4}};
        Checks.due("bytes of the BOOK", h.count(5), 16 * entries.length);
        for (int i = 0; i < entries.length; i++) {
            Checks.bytes("ENTRY " + i, h, 3, 16 * i + 4, entries[i]);
            sum(h, 3, 16 * i, 16);
        }
    }

    private static House fullBook(int left) {
        House h = House.of(2, 400, 100);
        h.register(0);
        h.register(1);
        h.fillBook(left);
        return h;
    }

    private static void bookIsFull() {
        House h = fullBook(32);
        Checks.due("mark to 15984", h.mark(0, 0, 1), 0);
        Checks.due("mark to 16000", h.mark(0, 1, 2), 0);
        Checks.due("bytes", h.count(5), 16000);
        Checks.due("the last byte", h.byteOf(2, 15999), 2);
        Checks.due("none behind it", h.byteOf(2, 16000), -1);
        Checks.due("a PLAIN send needs none of it", h.send(0, 0, 0, 0, false), 0);
        Checks.due("sync", h.sync() > 0 ? 1 : 0, 1);
        Checks.due("crash", h.crash(0), 0);
        Checks.due("open of a full BOOK", h.open(), 0);
        Checks.due("bytes behind open", h.count(5), 16000);
        Checks.due("MARK behind open", h.marked(0, 1), 2);
        Checks.nothing("mark to a full BOOK", () -> fullBook(0), f -> f.mark(0, 1, 3), -8);
    }

    private static void producers(Sentences s) {
        s.test("Terms 2", "PRODUCERS have KEYS 0 to 31.", TermSentences::keys);
        s.test("Terms 2", "One that is REGISTERED has an EPOCH, and perhaps a TRANSACTION that is OPEN: its number (0, "
            + "1, 2 and on, as they begin; of all PRODUCERS together), the CLOCK at which it began, PARTITIONS that were "
            + "ADDED, and LATER offsets.", TermSentences::transactions);
        s.test("Terms 2", "FENCED is a call with a KEY that is REGISTERED and another EPOCH than that has.",
            TermSentences::fenced);
        s.test("Terms 2", "GROUPS 0 to 7 have a MARK for each PARTITION, an offset, or none; a PLACE is 8 times the "
            + "GROUP and the PARTITION.", TermSentences::places);
        s.test("Terms 2", "ENDING a TRANSACTION (with commit or abort): a DECIDE comes to the BOOK; then to each "
            + "PARTITION that was ADDED, by number, a COMMIT or ABORT with its KEY and EPOCH, NUMBER the TRANSACTION; "
            + "then a DONE to the BOOK.", TermSentences::endingInOrder);
        s.test("Terms 2", "ENDING a TRANSACTION (with commit or abort)", TermSentences::endingWithNoneAndAllAdded);
        s.test("Terms 2", "With commit its LATER offsets, in their order, are MARKS of the GROUPS from then on.",
            TermSentences::latersBecomeMarks);
        s.test("Terms 2", "With commit its LATER offsets, in their order, are MARKS of the GROUPS from then on.",
            TermSentences::latersOfOthersDoNot);
        s.test("Terms 2", "It is not OPEN any more.", TermSentences::notOpenAnyMore);
        s.test("Terms 2", "Of a PRODUCER the sends to a PARTITION have NUMBERS 0, 1, 2 and on, anew with each EPOCH.",
            TermSentences::numbersAnew);
        s.test("Terms 2", "NEXT is one more than the NUMBER of its latest PLAIN or PART ENTRY there with this EPOCH (0 "
            + "without).", TermSentences::nextIsOneMore);
    }

    private static void keys() {
        House h = new House();
        Checks.due("register(0)", h.register(0), 0);
        Checks.due("register(31)", h.register(31), 0);
        Checks.due("REGISTERED", h.count(9), 2);
        for (int key : new int[] {-1, 32, 256, MIN, MAX}) {
            Checks.nothing("register(" + key + ")", Houses::busy, b -> b.register(key), -2);
            Checks.nothing("begin(" + key + ", 0)", Houses::busy, b -> b.begin(key, 0), -2);
            Checks.nothing("later(" + key + ", 0, ..)", Houses::busy, b -> b.later(key, 0, 0, 0, 0), -2);
            Checks.nothing("end(" + key + ", 0)", Houses::busy, b -> b.end(key, 0, true), -2);
            Checks.tapeAlone("send(" + key + ", 0, ..)", Houses::busy, b -> b.send(key, 0, 0, 0, false), -2);
            Checks.nothing("producer(" + key + ", 0)", Houses::busy, b -> b.producer(key, 0), -1);
            Checks.nothing("next(" + key + ", 0)", Houses::busy, b -> b.next(key, 0), -1);
        }
    }

    private static void transactions() {
        House h = House.of(8, 300, 1000);
        int[] keys = {31, 0, 7};
        for (int i = 0; i < 3; i++) {
            h.register(keys[i]);
            Checks.due("perhaps, so none yet", h.producer(keys[i], 1), -1);
            h.tick(10);
            Checks.due("begin", h.begin(keys[i], 0), i);
        }
        h.send(0, 0, 7, 0, true);
        h.send(0, 0, 0, 0, true);
        h.later(0, 0, 0, 0, 0);
        int[][] of = {{31, 0, 10, 0, 0}, {0, 1, 20, 129, 1}, {7, 2, 30, 0, 0}};
        for (int[] w : of) for (int i = 1; i < 5; i++) Checks.due("producer(" + w[0] + ", " + i + ")", h.producer(w[0], i), w[i]);
        h.end(31, 0, false);
        Checks.due("an ended one's number does not come again", h.begin(31, 0), 3);
        h.register(31);
        Checks.due("nor one's that register() ended", h.begin(31, 1), 4);
        h.tick(1000);
        h.tick(1);
        Checks.due("nor one's that tick() ended", h.begin(31, 2), 5);
        Checks.due("a refused begin takes no number", h.begin(31, 2), -4);
        Checks.due("the next", h.count(11), 6);
    }

    private static void fenced() {
        for (int epoch : new int[] {-1, 0, 2, 1 + 256, 1 + 65536, MIN, MAX}) {
            Checks.nothing("begin, EPOCH " + epoch, Houses::busy, h -> h.begin(0, epoch), -3);
            Checks.nothing("later, EPOCH " + epoch, Houses::busy, h -> h.later(0, epoch, 0, 0, 0), -3);
            Checks.nothing("end, EPOCH " + epoch, Houses::busy, h -> h.end(0, epoch, true), -3);
            Checks.tapeAlone("send, EPOCH " + epoch, Houses::busy, h -> h.send(0, epoch, 0, 1, false), -3);
            Checks.tapeAlone("send again, EPOCH " + epoch, Houses::busy, h -> h.send(0, epoch, 0, 0, false), -3);
        }
        Checks.nothing("not REGISTERED is not FENCED", Houses::busy, h -> h.begin(1, 5), -2);
        Checks.due("its own EPOCH", Houses.busy().send(0, 1, 0, 1, false), 4);
    }

    private static void places() {
        House h = House.of(8, 100, 10);
        for (int place = 0; place < 64; place++) {
            Checks.due("none", h.marked(place / 8, place % 8), -1);
            Checks.due("mark", h.mark(place / 8, place % 8, 1000 - place), 0);
            Checks.due("A", h.byteOf(8, 16 * place + 11), place);
        }
        for (int place = 0; place < 64; place++) {
            Checks.due("marked", h.marked(place / 8, place % 8), 1000 - place);
        }
        House few = House.of(2, 100, 10);
        few.mark(3, 1, 5);
        Checks.due("8 times, however few PARTITIONS", few.byteOf(2, 11), 25);
        for (int[] wrong : new int[][] {{-1, 0}, {8, 0}, {0, -1}, {0, 3}, {MIN, 0}, {MAX, 0}, {0, MIN}, {0, MAX}, {-1, 8}}) {
            Checks.nothing("mark", Houses::busy, b -> b.mark(wrong[0], wrong[1], 0), -2);
            Checks.nothing("later", Houses::busy, b -> b.later(5, 0, wrong[0], wrong[1], 0), -2);
            Checks.nothing("marked", Houses::busy, b -> b.marked(wrong[0], wrong[1]), -1);
        }
    }

    /** The ADDS come in another order than the PARTITIONS' numbers; every crash shows what came by then. */
    private static void endingInOrder() {
        int[] files = {8, 0, 2, 5, 7, 8};
        for (int kept = 0; kept <= 88; kept++) {
            House h = House.of(8, 200, 10);
            h.register(4);
            h.register(4);
            h.begin(4, 1);
            h.end(4, 1, false);
            h.begin(4, 1);
            for (int p : new int[] {5, 0, 7, 2}) h.send(4, 1, p, 0, true);
            h.sync();
            int book = h.count(5);
            boolean commit = kept % 2 == 0;
            Checks.due("end", h.end(4, 1, commit), 0);
            Checks.due("bytes that came", h.count(4), 88);
            Checks.bytes("DECIDE", h, 8, book + 4, 4, 4, 0, 1, 0, 0, 0, commit ? 1 : 0, 0, 0, 0, 1);
            Checks.bytes("DONE", h, 8, book + 20, 5, 4, 0, 1, 0, 0, 0, 0, 0, 0, 0, 1);
            for (int p : new int[] {0, 2, 5, 7}) {
                Checks.bytes("end in " + p, h, p, 18, 0, 0, commit ? 2 : 3, 4, 0, 1, 0, 0, 0, 1);
            }
            for (int p : new int[] {1, 3, 4, 6}) Checks.due("not ADDED", h.partition(p, 2), 0);
            h.crash(kept);
            int[] bytes = {14, 0, 14, 0, 0, 14, 0, 14, book};
            int left = kept;
            for (int i = 0; i < 6; i++) {
                int size = Math.min(left, files[i] == 8 ? 16 : 14);
                bytes[files[i]] += size;
                left -= size;
            }
            for (int p = 0; p < 8; p++) Checks.due("bytes of " + p + " at " + kept, h.partition(p, 2), bytes[p]);
            Checks.due("bytes of the BOOK at " + kept, h.count(5), bytes[8]);
        }
    }

    private static void endingWithNoneAndAllAdded() {
        for (int commit = 0; commit < 2; commit++) {
            House h = House.of(8, 200, 10);
            h.register(0);
            h.begin(0, 0);
            h.later(0, 0, 0, 3, 0);
            h.sync();
            Checks.due("end with none ADDED", h.end(0, 0, commit == 1), 0);
            Checks.due("a DECIDE and a DONE", h.count(4), 32);
            h.begin(0, 0);
            for (int p = 0; p < 8; p++) h.send(0, 0, p, 0, true);
            Checks.due("ADDED", h.producer(0, 3), 255);
            h.sync();
            Checks.due("end with all ADDED", h.end(0, 0, commit == 1), 0);
            Checks.due("bytes", h.count(4), 32 + 8 * 14);
            for (int p = 0; p < 8; p++) Checks.due("KIND in " + p, h.entry(p, 1, 0), 3 - commit);
        }
    }

    private static void latersBecomeMarks() {
        for (int commit = 0; commit < 2; commit++) {
            House h = House.of(2, 200, 10);
            h.register(0);
            h.register(1);
            h.mark(0, 0, 1);
            h.begin(0, 0);
            h.begin(1, 0);
            h.later(0, 0, 0, 0, 5);
            h.later(0, 0, 7, 1, 0);
            h.later(1, 0, 0, 0, 77);
            h.later(0, 0, 0, 0, 3);
            h.mark(0, 0, 2);
            Checks.due("not before the end", h.marked(0, 0), 2);
            Checks.due("not before the end", h.marked(7, 1), -1);
            h.end(0, 0, commit == 1);
            Checks.due("the last of a PLACE holds", h.marked(0, 0), commit == 1 ? 3 : 2);
            Checks.due("offset 0", h.marked(7, 1), commit == 1 ? 0 : -1);
            h.mark(0, 0, 9);
            h.begin(0, 0);
            h.end(0, 0, true);
            Checks.due("an ended one's come not again", h.marked(0, 0), 9);
            h.crash(h.count(4));
            h.open();
            Checks.due("behind open", h.marked(0, 0), 9);
            Checks.due("behind open", h.marked(7, 1), commit == 1 ? 0 : -1);
            h.end(1, 0, true);
            Checks.due("those of the other", h.marked(0, 0), 77);
        }
    }

    /** A lower and a higher KEY have LATER offsets too, which came between its own: none of them is a MARK by its end. */
    private static void latersOfOthersDoNot() {
        for (int opened = 0; opened < 2; opened++) {
            House h = House.of(2, 200, 10);
            int[] keys = {5, 3, 7};
            for (int key : keys) {
                h.register(key);
                h.begin(key, 0);
            }
            for (int round = 0; round < 2; round++) {
                for (int key : keys) Checks.due("later", h.later(key, 0, key, round, 10 * key + round), 0);
            }
            for (int ended = 0; ended < 3; ended++) {
                Checks.due("end", h.end(keys[ended], 0, true), 0);
                if (opened == 1) {
                    h.crash(h.count(4));
                    h.open();
                }
                for (int i = 0; i < 3; i++) {
                    for (int p = 0; p < 2; p++) {
                        Checks.due("MARK of " + keys[i], h.marked(keys[i], p), i <= ended ? 10 * keys[i] + p : -1);
                    }
                }
            }
        }
    }

    private static void notOpenAnyMore() {
        for (int how = 0; how < 4; how++) {
            House h = House.of(2, 300, 10);
            h.register(0);
            h.begin(0, 0);
            h.send(0, 0, 1, 0, true);
            h.later(0, 0, 0, 0, 3);
            if (how < 2) h.end(0, 0, how == 1);
            if (how == 2) h.register(0);
            if (how == 3) h.tick(11);
            int epoch = how < 2 ? 0 : 1;
            int[] idle = {epoch, -1, -1, 0, 0};
            for (int what = 0; what < 5; what++) Checks.due("producer " + what, h.producer(0, what), idle[what]);
            Checks.due("OPEN", h.count(10), 0);
            Checks.due("OPEN that ADDED", h.partition(1, 5), 0);
            Checks.due("STABLE", h.partition(1, 1), 2);
            Checks.due("end", h.end(0, epoch, true), -5);
            Checks.due("later", h.later(0, epoch, 0, 0, 0), -5);
            Checks.due("send part", h.send(0, epoch, 1, 1, true), -5);
            Checks.due("tick", h.tick(11), 0);
            Checks.due("begin", h.begin(0, epoch), 1);
        }
    }

    private static void numbersAnew() {
        House h = House.of(2, 300, 10);
        h.register(0);
        for (int n = 0; n < 3; n++) {
            Checks.due("one more than NEXT", h.send(0, 0, 0, n + 1, false), -6);
            Checks.due("NEXT", h.send(0, 0, 0, n, false), n);
        }
        Checks.due("anew in another PARTITION", h.send(0, 0, 1, 3, false), -6);
        Checks.due("anew in another PARTITION", h.send(0, 0, 1, 0, false), 0);
        h.register(0);
        Checks.due("not on with a new EPOCH", h.send(0, 1, 0, 3, false), -6);
        Checks.due("an old NUMBER is not sent again", h.send(0, 1, 0, 2, false), -6);
        Checks.due("anew with a new EPOCH", h.send(0, 1, 0, 0, false), 3);
        h.begin(0, 1);
        h.tick(11);
        Checks.due("not on with the EPOCH by tick()", h.send(0, 2, 0, 1, false), -6);
        Checks.due("anew with the EPOCH by tick()", h.send(0, 2, 0, 0, false), 4);
    }

    private static void nextIsOneMore() {
        House h = House.of(2, 400, 10);
        h.register(0);
        h.register(1);
        for (int i = 0; i < 4; i++) {
            h.begin(1, 0);
            h.end(1, 0, true);
        }
        Checks.due("0 without", h.next(0, 0), 0);
        h.begin(0, 0);
        h.send(0, 0, 0, 0, true);
        Checks.due("a PART", h.next(0, 0), 1);
        h.end(0, 0, false);
        Checks.due("an ABORT with NUMBER 4 is none", h.next(0, 0), 1);
        h.begin(0, 0);
        h.send(0, 0, 0, 1, true);
        h.end(0, 0, true);
        Checks.due("a COMMIT with NUMBER 5 is none", h.next(0, 0), 2);
        h.send(0, 0, 0, 2, false);
        Checks.due("a PLAIN one", h.next(0, 0), 3);
        Checks.due("another PARTITION", h.next(0, 1), 0);
        Checks.due("another KEY", h.next(1, 0), 0);
        h.register(0);
        Checks.due("another EPOCH", h.next(0, 0), 0);
    }

    private static void rooms(Sentences s) {
        String room = "ROOM: a PARTITION is never so full that 14 bytes for each OPEN TRANSACTION that ADDED it, nor "
            + "the BOOK so full that 48 bytes for each OPEN one, would not have place besides: a call that would bring "
            + "more bytes than that is refused with -8.";
        s.test("Terms 2", room, TermSentences::roomOfAPartition);
        s.test("Terms 2", room, TermSentences::roomBehindAnOpening);
        s.test("Terms 2", room, TermSentences::roomOfTheBook);
        s.test("Terms 2", room, TermSentences::roomOfTheBookWithAllOpen);
        s.test("Terms 2", "(What ENDS an OPEN TRANSACTION, and the REGISTER by register() behind it and by tick(), "
            + "comes from that place.)", TermSentences::endsHaveTheirPlace);
    }

    /** So many OPEN that ADDED PARTITION 0, which has so many bytes by them and by PLAIN ones of KEY 9. */
    private static House added(int open, int bytes) {
        House h = House.of(2, 200, 10);
        h.register(9);
        for (int key = 0; key < 4; key++) {
            h.register(key);
            h.begin(key, 0);
        }
        for (int key = 0; key < open; key++) h.send(key, 0, 0, 0, true);
        h.fillPartition(9, 0, 0, bytes);
        h.tape(2, 3);
        return h;
    }

    private static void roomOfAPartition() {
        for (int open = 0; open <= 3; open++) {
            int still = open;
            int most = 200 - 14 * open;
            int now = most - 16;
            House fits = added(open, now);
            Checks.due("PLAIN fits", Math.min(fits.send(9, 0, 0, fits.next(9, 0), false), 0), 0);
            Checks.due("bytes", fits.partition(0, 2), most);
            Checks.tapeAlone("PLAIN, one byte too many", () -> added(still, now + 1),
                h -> h.send(9, 0, 0, h.next(9, 0), false), -8);
            if (open > 0) {
                House part = added(open, now);
                Checks.due("PART fits", Math.min(part.send(0, 0, 0, 1, true), 0), 0);
                Checks.tapeAlone("PART, one byte too many", () -> added(still, now + 1),
                    h -> h.send(0, 0, 0, 1, true), -8);
            }
            House adds = added(open, now - 14);
            Checks.due("PART with an ADD fits", Math.min(adds.send(3, 0, 0, 0, true), 0), 0);
            Checks.due("bytes", adds.partition(0, 2), most - 14);
            Checks.tapeAlone("PART with an ADD, one byte too many", () -> added(still, now - 13),
                h -> h.send(3, 0, 0, 0, true), -8);
            House other = added(open, most);
            Checks.due("the other PARTITION is empty", other.send(3, 0, 1, 0, true), 0);
        }
    }

    /** The place is kept behind a crash too, also for an ADD whose PART went. */
    private static void roomBehindAnOpening() {
        for (int extra = 0; extra < 2; extra++) {
            House h = House.of(1, 100, 10);
            h.register(0);
            h.register(9);
            h.begin(0, 0);
            h.sync();
            h.send(0, 0, 0, 0, true);
            h.crash(16);
            h.open();
            Checks.due("OPEN that ADDED", h.partition(0, 5), 1);
            h.fillPartition(9, 0, 0, 86 - 15 + extra);
            Checks.due("PLAIN of 15", h.sendBytes(9, 0, 0, 15, false) < 0 ? -8 : 0, extra == 1 ? -8 : 0);
            Checks.due("end", h.end(0, 0, true), 0);
        }
    }

    /** So many OPEN of the KEYS 0 to 3, and the BOOK has so many bytes; KEY 4 is REGISTERED. */
    private static House openInBook(int open, int bytes) {
        House h = House.of(2, 400, 100);
        for (int key = 0; key < 5; key++) h.register(key);
        h.fillBook(16000 - bytes + 16 * open);
        for (int key = 0; key < open; key++) h.begin(key, 0);
        Checks.due("bytes of the BOOK", h.count(5), bytes);
        h.feed(1, 1, 0);
        return h;
    }

    private static void roomOfTheBook() {
        for (int open = 0; open <= 2; open++) {
            int still = open;
            int most = 16000 - 48 * open;
            Checks.due("mark fits", openInBook(open, most - 16).mark(1, 1, 1), 0);
            Checks.due("register fits", openInBook(open, most - 16).register(4), 1);
            Checks.due("a new register fits", openInBook(open, most - 16).register(5), 0);
            Checks.due("begin fits", Math.min(openInBook(open, most - 64).begin(4, 0), 0), 0);
            Checks.nothing("mark", () -> openInBook(still, most), h -> h.mark(1, 1, 1), -8);
            Checks.nothing("register", () -> openInBook(still, most), h -> h.register(4), -8);
            Checks.nothing("a new register", () -> openInBook(still, most), h -> h.register(5), -8);
            Checks.nothing("begin", () -> openInBook(still, most - 48), h -> h.begin(4, 0), -8);
            Checks.nothing("begin", () -> openInBook(still, most), h -> h.begin(4, 0), -8);
            if (open > 0) {
                Checks.due("later fits", openInBook(open, most - 16).later(0, 0, 1, 1, 1), 0);
                Checks.due("ADD fits", openInBook(open, most - 16).send(0, 0, 0, 0, true), 0);
                Checks.nothing("later", () -> openInBook(still, most), h -> h.later(0, 0, 1, 1, 1), -8);
                Checks.tapeAlone("ADD", () -> openInBook(still, most), h -> h.send(0, 0, 0, 0, true), -8);
            }
            Checks.due("PLAIN needs none", openInBook(open, most).send(4, 0, 0, 0, false), 0);
        }
    }

    private static House allOpen(int left) {
        House h = House.of(1, 2000, 100);
        for (int key = 0; key < 8; key++) h.register(key);
        h.fillBook(32 * 64 + left);
        for (int key = 0; key < 32; key++) {
            int epoch = h.producer(key, 0);
            Checks.due("begin", Math.min(h.begin(key, epoch), 0), 0);
        }
        return h;
    }

    private static void roomOfTheBookWithAllOpen() {
        House h = allOpen(16);
        Checks.due("OPEN", h.count(10), 32);
        Checks.due("mark", h.mark(0, 0, 0), 0);
        Checks.due("bytes", h.count(5), 16000 - 32 * 48);
        Checks.due("mark without place", h.mark(0, 0, 1), -8);
        Checks.due("later without place", h.later(0, 0, 0, 0, 1), -8);
        Checks.due("marked", h.marked(0, 0), 0);
    }

    private static void endsHaveTheirPlace() {
        House ticked = allOpen(0);
        Checks.due("tick", ticked.tick(101), 32);
        Checks.due("the BOOK is full", ticked.count(5), 16000);
        Checks.due("none is OPEN", ticked.count(10), 0);
        Checks.due("EPOCH", ticked.producer(0, 0), 1);

        House ended = allOpen(0);
        for (int key = 0; key < 8; key++) Checks.due("end", ended.end(key, 0, true), 0);
        Checks.due("bytes", ended.count(5), 16000 - 24 * 48 - 8 * 16);
        Checks.due("tick", ended.tick(101), 24);
        Checks.due("bytes", ended.count(5), 16000 - 8 * 16);

        House again = allOpen(0);
        for (int key = 0; key < 8; key++) Checks.due("register", again.register(key), 1);
        Checks.due("bytes", again.count(5), 16000 - 24 * 48);
        Checks.due("register without OPEN", again.register(0), -8);
        Checks.due("bytes", again.count(5), 16000 - 24 * 48);

        for (int how = 0; how < 4; how++) {
            House h = added(3, 200 - 42);
            h.register(3);
            for (int key = 0; key < 3; key++) {
                if (how < 2) Checks.due("end", h.end(key, 0, how == 1), 0);
                if (how == 2) Checks.due("register", h.register(key), 1);
            }
            if (how == 3) Checks.due("tick", h.tick(11), 3);
            Checks.due("the PARTITION is full", h.partition(0, 2), 200);
            Checks.due("no place more", h.send(9, 0, 0, h.next(9, 0), false), -8);
        }
    }

    private static void stable(Sentences s) {
        s.test("Terms 3", "STABLE of a PARTITION is the OFFSET of the first PART ENTRY there of a TRANSACTION that is "
            + "OPEN; without one as many ENTRIES as there are.", TermSentences::stableIsTheFirstOpenPart);
        s.test("Terms 3", "SEEN is each ENTRY with KIND 0 or 1; SEEN COMMITTED one of these below STABLE: a PLAIN one, "
            + "or a PART whose TRANSACTION was ENDED with commit.", TermSentences::seenAndSeenCommitted);
        s.test("Terms 3", "(A PART is of the TRANSACTION that its KEY had OPEN as it came.)",
            TermSentences::partIsOfItsTransaction);
        s.test("Terms 3", "(A PART is of the TRANSACTION that its KEY had OPEN as it came.)",
            TermSentences::partsOfAllKeys);
    }

    private static void stableIsTheFirstOpenPart() {
        House h = House.of(2, 400, 10);
        for (int key = 0; key < 3; key++) h.register(key);
        Checks.due("of nothing", h.partition(0, 1), 0);
        h.send(2, 0, 0, 0, false);
        Checks.due("without a PART", h.partition(0, 1), 1);
        h.begin(0, 0);
        h.begin(1, 0);
        Checks.due("OPEN without a PART", h.partition(0, 1), 1);
        h.send(1, 0, 0, 0, true);
        Checks.due("the PART is the last", h.partition(0, 1), 1);
        h.send(0, 0, 0, 0, true);
        h.send(1, 0, 0, 1, true);
        h.send(2, 0, 0, 1, false);
        Checks.due("the first of several", h.partition(0, 1), 1);
        Checks.due("the other PARTITION", h.partition(1, 1), 0);
        h.end(1, 0, true);
        Checks.due("the first is ENDED", h.partition(0, 1), 2);
        h.end(0, 0, false);
        Checks.due("all are ENDED", h.partition(0, 1), 7);
        h.begin(1, 0);
        h.send(1, 0, 0, 2, true);
        Checks.due("OPEN again", h.partition(0, 1), 7);
        h.sync();
        h.crash(0);
        Checks.due("CLOSED", h.partition(0, 1), -1);
        h.open();
        Checks.due("behind open", h.partition(0, 1), 7);
    }

    /** KINDS by OFFSET: PLAIN, PART committed, PART aborted, PART OPEN, PART committed, PLAIN, COMMIT, ABORT. */
    private static House mixed() {
        House h = House.of(1, 400, 10);
        for (int key = 0; key < 4; key++) h.register(key);
        for (int key = 0; key < 3; key++) h.begin(key, 0);
        h.send(3, 0, 0, 0, false);
        h.send(0, 0, 0, 0, true);
        h.send(1, 0, 0, 0, true);
        h.send(2, 0, 0, 0, true);
        h.send(0, 0, 0, 1, true);
        h.send(3, 0, 0, 1, false);
        h.end(0, 0, true);
        h.end(1, 0, false);
        return h;
    }

    private static void seen(House h, boolean committed, int... want) {
        for (int from = 0; from < want.length; from++) {
            Checks.due("fetch(0, " + from + ", " + committed + ")", h.fetch(0, from, committed), want[from]);
        }
    }

    private static void seenAndSeenCommitted() {
        House h = mixed();
        seen(h, false, 0, 1, 2, 3, 4, 5, -1, -1, -1);
        seen(h, true, 0, 1, -1, -1, -1, -1, -1, -1, -1);
        Checks.due("SEEN COMMITTED", h.partition(0, 4), 2);
        h.end(2, 0, false);
        seen(h, false, 0, 1, 2, 3, 4, 5, -1, -1, -1, -1);
        seen(h, true, 0, 1, 4, 4, 4, 5, -1, -1, -1, -1);
        Checks.due("SEEN COMMITTED", h.partition(0, 4), 4);
        House c = mixed();
        c.end(2, 0, true);
        seen(c, true, 0, 1, 3, 3, 4, 5, -1, -1, -1, -1);
        Checks.due("SEEN COMMITTED", c.partition(0, 4), 5);
        c.crash(c.count(4));
        c.open();
        seen(c, true, 0, 1, 3, 3, 4, 5, -1, -1, -1, -1);
        Checks.due("SEEN COMMITTED behind open", c.partition(0, 4), 5);
    }

    /** One KEY, one EPOCH: a committed, an aborted, a committed and an OPEN TRANSACTION behind one another. */
    private static void partIsOfItsTransaction() {
        House h = House.of(1, 400, 10);
        h.register(0);
        for (int i = 0; i < 3; i++) {
            h.begin(0, 0);
            h.send(0, 0, 0, i, true);
            h.end(0, 0, i % 2 == 0);
        }
        h.begin(0, 0);
        seen(h, true, 0, 4, 4, 4, 4, -1);
        h.send(0, 0, 0, 3, true);
        Checks.due("STABLE", h.partition(0, 1), 6);
        h.crash(h.count(4));
        h.open();
        seen(h, true, 0, 4, 4, 4, 4, -1, -1);
        Checks.due("STABLE behind open", h.partition(0, 1), 6);
        h.end(0, 0, false);
        seen(h, true, 0, 4, 4, 4, 4, -1, -1, -1);
        h.begin(0, 0);
        Checks.due("an aborted NUMBER sent again is no PART of this one", h.send(0, 0, 0, 3, true), 6);
        Checks.due("nothing is ADDED", h.producer(0, 3), 0);
        h.end(0, 0, true);
        seen(h, true, 0, 4, 4, 4, 4, -1, -1, -1);
    }

    /** All KEYS at once in one PARTITION: those of which three is a divisor abort, KEY 17 stays OPEN to the end. */
    private static void partsOfAllKeys() {
        House h = House.of(1, 2000, 10);
        for (int key = 0; key < 32; key++) {
            h.register(key);
            h.begin(key, 0);
            Checks.due("send", h.send(key, 0, 0, 0, true), key);
        }
        for (int key = 31; key >= 0; key--) if (key != 17) h.end(key, 0, key % 3 != 0);
        Checks.due("STABLE", h.partition(0, 1), 17);
        Checks.due("SEEN COMMITTED", h.partition(0, 4), 11);
        h.end(17, 0, true);
        Checks.due("STABLE", h.partition(0, 1), 64);
        Checks.due("SEEN COMMITTED", h.partition(0, 4), 21);
        for (int key = 0; key < 32; key++) {
            Checks.due("first from " + key, h.fetch(0, key, true), key % 3 != 0 ? key : key + 1);
        }
    }

    private static void crashes(Sentences s) {
        s.test("Terms 4", "A CRASH keeps the first so many of the UNSYNCED bytes; they are synced, the others go.",
            TermSentences::crashKeepsTheFirst);
        s.test("Terms 4", "The house is CLOSED then; what it knows besides the FILES (and the CLOCK) is gone.",
            TermSentences::closedHouseKnowsFilesAndClock);
        s.test("Terms 4", "OPENING: each FILE keeps its whole ENTRIES from its beginning on; what is behind the last "
            + "whole one is CUT.", TermSentences::openingCuts);
        s.test("Terms 4", "PRODUCERS, EPOCHS, TRANSACTIONS, MARKS are as the BOOK's ENTRIES, one by one, tell: a "
            + "REGISTER gives the KEY that EPOCH, a BEGIN opens a TRANSACTION, ADD and LATER are of the one that the KEY "
            + "has OPEN, a DONE ENDS it as its DECIDE told, a MARK tells a GROUP's.", TermSentences::bookTells);
        s.test("Terms 4", "Then each TRANSACTION with a DECIDE and without DONE, by its number, is ENDED: a COMMIT or "
            + "ABORT, as told, comes to each PARTITION that was ADDED and has none with its number, then a DONE to the "
            + "BOOK.", TermSentences::openingEndsWhatWasDecided);
        s.test("Terms 4", "comes to each PARTITION that was ADDED and has none with its number, then a DONE to the BOOK.",
            TermSentences::endAtOffset0ComesOnce);
        s.test("Terms 4", "All others without DONE are OPEN still.", TermSentences::othersAreOpenStill);
    }

    private static void crashKeepsTheFirst() {
        for (int kept = 0; kept <= 61; kept++) {
            House h = House.of(1, 200, 10);
            h.register(0);
            h.sendBytes(0, 0, 0, 20, false);
            h.sync();
            h.register(1);
            h.sendBytes(0, 0, 0, 29, false);
            h.mark(0, 0, 5);
            Checks.due("crash", h.crash(kept), 61 - kept);
            Checks.due("UNSYNCED", h.count(4) + h.partition(0, 3), 0);
            Checks.due("bytes of 0", h.partition(0, 2), 20 + Math.max(0, Math.min(29, kept - 16)));
            Checks.due("bytes of the BOOK", h.count(5), 16 + Math.min(16, kept) + Math.max(0, kept - 45));
            h.open();
            int book = h.count(5);
            int bytes = h.partition(0, 2);
            Checks.due("they are synced", h.crash(0), 0);
            Checks.due("bytes of 0", h.partition(0, 2), bytes);
            Checks.due("bytes of the BOOK", h.count(5), book);
        }
        Checks.due("no more than there are", Houses.busy().crash(100000), -2);
    }

    private static void closedHouseKnowsFilesAndClock() {
        House h = Houses.busy();
        Checks.due("crash", h.crash(0) > 0 ? 1 : 0, 1);
        Checks.due("CLOSED", h.count(7), 1);
        Checks.due("CLOCK", h.count(3), 3);
        for (int what = 9; what <= 11; what++) Checks.due("count(" + what + ")", h.count(what), -1);
        for (int key = 0; key < 32; key++) Checks.due("producer", h.producer(key, 0), -1);
        for (int p = 0; p < 3; p++) {
            Checks.due("marked", h.marked(2, p), -1);
            Checks.due("next", h.next(0, p), -1);
        }
        Checks.due("open", h.open(), 0);
        Checks.due("CLOCK", h.count(3), 3);
        Checks.due("the unsynced MARK is gone", h.marked(0, 0), -1);
        Checks.due("the synced MARK is there", h.marked(2, 1), 9);
        Checks.due("the unsynced TRANSACTION is gone", h.producer(31, 1), -1);
        Checks.due("its number comes again", h.count(11), 2);
        Checks.due("the unsynced ENTRY is gone", h.send(31, 0, 0, 1, false), -6);
        Checks.due("NEXT is as before it", h.next(31, 0), 0);
        Checks.due("the synced TRANSACTION is OPEN", h.producer(5, 1), 0);
        Checks.due("PARTITIONS", h.count(0), 3);
        Checks.due("CAPACITY", h.count(1), 300);
        Checks.due("timeout", h.count(2), 20);
    }

    /** An ENTRY of each size, cut at each of its bytes: the head, the payload, the last byte. */
    private static void openingCuts() {
        for (int size : new int[] {14, 15, 54}) {
            for (int kept = 0; kept <= 2 * size; kept++) {
                House h = House.of(1, 200, 10);
                h.register(0);
                h.sync();
                h.sendBytes(0, 0, 0, size, false);
                h.sendBytes(0, 0, 0, size, false);
                Checks.due("SEEN COMMITTED", h.partition(0, 4), 2);
                h.crash(kept);
                Checks.due("ENTRIES at " + kept, h.partition(0, 0), kept / size);
                Checks.due("bytes at " + kept, h.partition(0, 2), kept);
                Checks.due("open", h.open(), 0);
                Checks.due("CUT at " + kept, h.count(8), kept % size);
                Checks.due("ENTRIES at " + kept, h.partition(0, 0), kept / size);
                Checks.due("bytes at " + kept, h.partition(0, 2), kept - kept % size);
                Checks.due("UNSYNCED", h.count(4), 0);
                Checks.due("NEXT", h.next(0, 0), kept / size);
                Checks.due("SEEN COMMITTED at " + kept, h.partition(0, 4), kept / size);
                Checks.due("fetch", h.fetch(0, kept / size, false), -1);
                Checks.due("fetch", h.fetch(0, kept / size, true), -1);
                Checks.due("send behind it", h.sendBytes(0, 0, 0, 17, false), kept / size);
                sum(h, 0, kept - kept % size, 17);
            }
        }
        for (int kept = 0; kept <= 48; kept++) {
            House h = House.of(1, 200, 10);
            for (int key = 0; key < 3; key++) h.register(key);
            h.crash(kept);
            Checks.due("bytes of the BOOK", h.count(5), kept);
            h.open();
            Checks.due("CUT of the BOOK", h.count(8), kept % 16);
            Checks.due("bytes of the BOOK", h.count(5), kept - kept % 16);
            Checks.due("REGISTERED", h.count(9), kept / 16);
        }
    }

    /** Each KIND of the BOOK, one byte short of whole and whole: what it tells is known only when it is whole. */
    private static void bookTells() {
        int[] wholeAt = {16, 32, 48, 64, 78, 94, 110, 126, 140, 156, 172};
        for (int kept = 0; kept <= 172; kept++) {
            House h = House.of(2, 300, 10);
            h.register(3);
            h.register(3);
            h.tick(7);
            h.begin(3, 1);
            h.send(3, 1, 1, 0, true);
            h.later(3, 1, 4, 1, 6);
            h.later(3, 1, 4, 0, 8);
            h.end(3, 1, true);
            h.mark(4, 0, 11);
            Checks.due("UNSYNCED", h.count(4), 172);
            h.crash(kept);
            int whole = 0;
            while (whole < wholeAt.length && kept >= wholeAt[whole]) whole++;
            Checks.due("open at " + kept, h.open(), whole == 8 || whole == 9 ? 1 : 0);
            told(h, kept, whole);
        }
    }

    /** In their order: two REGISTERS, BEGIN, ADD, PART, two LATERS, DECIDE, COMMIT, DONE, MARK. */
    private static void told(House h, int kept, int whole) {
        boolean ended = whole > 7;
        boolean open = whole > 2 && !ended;
        Checks.due("EPOCH at " + kept, h.producer(3, 0), whole == 0 ? -1 : whole == 1 ? 0 : 1);
        Checks.due("TRANSACTION at " + kept, h.producer(3, 1), open ? 0 : -1);
        Checks.due("CLOCK at BEGIN at " + kept, h.producer(3, 2), open ? 7 : -1);
        Checks.due("ADDED at " + kept, h.producer(3, 3), whole == 0 ? -1 : open && whole > 3 ? 2 : 0);
        Checks.due("LATER at " + kept, h.producer(3, 4), whole == 0 ? -1 : open ? Math.max(0, Math.min(whole - 5, 2)) : 0);
        Checks.due("next number at " + kept, h.count(11), whole > 2 ? 1 : 0);
        Checks.due("MARK of a LATER at " + kept, h.marked(4, 1), ended ? 6 : -1);
        Checks.due("MARK at " + kept, h.marked(4, 0), whole > 10 ? 11 : ended ? 8 : -1);
        Checks.due("OPEN that ADDED at " + kept, h.partition(1, 5), open && whole > 3 ? 1 : 0);
        Checks.due("ENTRIES at " + kept, h.partition(1, 0), ended ? 2 : whole > 4 ? 1 : 0);
        Checks.due("SEEN COMMITTED at " + kept, h.partition(1, 4), ended ? 1 : 0);
    }

    /** The same KEY has a COMMIT of an earlier TRANSACTION in each PARTITION, which is none with this number. */
    private static void openingEndsWhatWasDecided() {
        for (int kept = 0; kept <= 74; kept++) {
            for (int commit = 0; commit < 2; commit++) {
                House h = House.of(4, 300, 10);
                h.register(6);
                h.begin(6, 0);
                for (int p = 0; p < 4; p++) h.send(6, 0, p, 0, true);
                h.end(6, 0, true);
                h.begin(6, 0);
                for (int p = 3; p > 0; p--) h.send(6, 0, p, 1, true);
                h.later(6, 0, 1, 1, 5);
                h.sync();
                h.end(6, 0, commit == 1);
                int book = h.count(5) - 32;
                Checks.due("crash", h.crash(kept), 74 - kept);
                boolean decided = kept >= 16;
                Checks.due("open at " + kept, h.open(), decided && kept < 74 ? 1 : 0);
                int cut = kept < 16 ? kept : kept < 58 ? (kept - 16) % 14 : kept < 74 ? kept - 58 : 0;
                Checks.due("CUT at " + kept, h.count(8), cut);
                int missing = !decided || kept == 74 ? 0 : 3 - Math.min((kept - 16) / 14, 3);
                Checks.due("UNSYNCED at " + kept, h.count(4), decided && kept < 74 ? 14 * missing + 16 : 0);
                Checks.due("bytes of the BOOK at " + kept, h.count(5), book + (decided ? 32 : 0));
                Checks.due("not ADDED", h.partition(0, 0), 2);
                for (int p = 1; p < 4; p++) {
                    Checks.due("ENTRIES of " + p + " at " + kept, h.partition(p, 0), decided ? 4 : 3);
                    int[] end = {3 - commit, 6, 0, 1, 0};
                    for (int w = 0; w < 5; w++) Checks.due("the end in " + p, h.entry(p, 3, w), decided ? end[w] : -1);
                    Checks.due("SEEN COMMITTED", h.partition(p, 4), 1 + (decided ? commit : 0));
                }
                if (decided) Checks.bytes("DONE", h, 4, book + 20, 5, 6, 0, 0, 0, 0, 0, 0, 0, 0, 0, 1);
                Checks.due("MARK", h.marked(1, 1), decided && commit == 1 ? 5 : -1);
                Checks.due("OPEN", h.producer(6, 1), decided ? -1 : 1);
            }
        }
    }

    /** The ADD was kept without its PART, so that the COMMIT is the PARTITION's first ENTRY. */
    private static void endAtOffset0ComesOnce() {
        for (int kept = 16; kept <= 46; kept++) {
            House h = House.of(1, 100, 10);
            h.register(0);
            h.begin(0, 0);
            h.sync();
            h.send(0, 0, 0, 0, true);
            Checks.due("crash", h.crash(16), 14);
            Checks.due("open", h.open(), 0);
            Checks.due("ADDED", h.producer(0, 3), 1);
            Checks.due("STABLE", h.partition(0, 1), 0);
            h.end(0, 0, true);
            Checks.due("crash", h.crash(kept), 46 - kept);
            Checks.due("open at " + kept, h.open(), kept < 46 ? 1 : 0);
            Checks.due("ENTRIES at " + kept, h.partition(0, 0), 1);
            Checks.due("KIND", h.entry(0, 0, 0), 2);
            Checks.due("STABLE", h.partition(0, 1), 1);
            Checks.due("SEEN COMMITTED", h.partition(0, 4), 0);
            Checks.due("NEXT", h.next(0, 0), 0);
        }
    }

    private static void othersAreOpenStill() {
        House h = House.of(2, 300, 10);
        for (int key = 0; key < 3; key++) {
            h.register(key);
            h.begin(key, 0);
            h.send(key, 0, 0, 0, true);
        }
        h.sync();
        h.end(1, 0, true);
        h.crash(16);
        h.tick(1000);
        Checks.due("open", h.open(), 1);
        Checks.due("OPEN, though long overdue", h.count(10), 2);
        Checks.due("number", h.producer(0, 1), 0);
        Checks.due("number", h.producer(2, 1), 2);
        Checks.due("EPOCH", h.producer(0, 0), 0);
        Checks.due("STABLE", h.partition(0, 1), 0);
        Checks.due("send goes on", h.send(0, 0, 0, 1, true), 4);
        Checks.due("end", h.end(0, 0, true), 0);
        Checks.due("tick ends the overdue", h.tick(0), 1);
        Checks.due("EPOCH", h.producer(2, 0), 1);
    }

    private static void refusals(Sentences s) {
        s.test("Terms 4", "Each call that is refused gives the first of the refusals told of it, and changes nothing but "
            + "the tape, as told.", TermSentences::firstRefusal);
        s.test("Terms 4", "All memory is the house's own.", TermSentences::memoryIsItsOwn);
    }

    private static void firstRefusal() {
        Checks.nothing("register: -1 ahead of -2", Houses::closed, h -> h.register(32), -1);
        Checks.nothing("register: -2 ahead of -8", () -> fullBook(0), h -> h.register(32), -2);
        Checks.nothing("begin: -1 ahead of -2", Houses::closed, h -> h.begin(-1, 0), -1);
        Checks.nothing("begin: -3 ahead of -4", Houses::busy, h -> h.begin(5, 1), -3);
        Checks.nothing("begin: -3 ahead of -8", () -> fullBook(0), h -> h.begin(0, 1), -3);
        Checks.nothing("begin: -2 ahead of -8", () -> fullBook(0), h -> h.begin(7, 0), -2);
        Checks.nothing("begin: -4 ahead of -8", () -> openInBook(1, 15952), h -> h.begin(0, 0), -4);
        Checks.tapeAlone("send: -1 ahead of -2", Houses::closed, h -> h.send(-1, 0, 9, 0, false), -1);
        Checks.tapeAlone("send: -2 (PARTITION) ahead of -3", Houses::busy, h -> h.send(0, 0, 3, 0, false), -2);
        Checks.tapeAlone("send: -2 (KEY) ahead of -3", Houses::busy, h -> h.send(1, 1, 0, 0, false), -2);
        Checks.tapeAlone("send: -3 ahead of -5", Houses::busy, h -> h.send(0, 0, 0, 0, true), -3);
        Checks.tapeAlone("send: -5 ahead of a NUMBER that is there", Houses::busy, h -> h.send(0, 1, 0, 0, true), -5);
        Checks.tapeAlone("send: -5 ahead of a NUMBER that is there", Houses::busy, h -> h.send(5, 0, 0, 0, false), -5);
        Checks.tapeAlone("send: -5 ahead of -6", Houses::busy, h -> h.send(5, 0, 0, 8, false), -5);
        Checks.tapeAlone("send: -5 ahead of -8", () -> added(3, 158), h -> h.send(9, 0, 0, h.next(9, 0), true), -5);
        Checks.tapeAlone("send: the OFFSET ahead of -8", () -> added(3, 158), h -> h.send(0, 0, 0, 0, true), 0);
        Checks.tapeAlone("send: -6 ahead of -8", () -> added(3, 158), h -> h.send(0, 0, 0, 2, true), -6);
        Checks.nothing("later: -1 ahead of -2", Houses::closed, h -> h.later(-1, 0, 8, 8, -1), -1);
        Checks.nothing("later: -2 (GROUP) ahead of -3", Houses::busy, h -> h.later(5, 1, 8, 0, 0), -2);
        Checks.nothing("later: -2 (PARTITION) ahead of -3", Houses::busy, h -> h.later(5, 1, 0, 3, 0), -2);
        Checks.nothing("later: -2 (offset) ahead of -3", Houses::busy, h -> h.later(5, 1, 0, 0, -1), -2);
        Checks.nothing("later: -3 ahead of -5", Houses::busy, h -> h.later(0, 0, 0, 0, 0), -3);
        Checks.nothing("later: -2 ahead of -5", Houses::busy, h -> h.later(0, 1, 0, 0, -1), -2);
        Checks.nothing("later: -5 ahead of -8", () -> fullBook(0), h -> h.later(0, 0, 0, 0, 0), -5);
        Checks.nothing("later: -2 ahead of -8", () -> openInBook(1, 15952), h -> h.later(0, 0, 0, 0, -1), -2);
        Checks.nothing("end: -1 ahead of -2", Houses::closed, h -> h.end(32, 0, true), -1);
        Checks.nothing("end: -2 ahead of -5", Houses::busy, h -> h.end(1, 0, true), -2);
        Checks.nothing("end: -3 ahead of -5", Houses::busy, h -> h.end(0, 0, true), -3);
        Checks.nothing("mark: -1 ahead of -2", Houses::closed, h -> h.mark(8, 0, 0), -1);
        Checks.nothing("mark: -2 ahead of -8", () -> fullBook(0), h -> h.mark(0, 0, -1), -2);
        Checks.nothing("crash: -1 ahead of -2", Houses::closed, h -> h.crash(-1), -1);
        Checks.nothing("tick: -2 while CLOSED", Houses::closed, h -> h.tick(-1), -2);
    }

    private static void memoryIsItsOwn() {
        House one = House.of(2, 300, 10);
        House other = House.of(2, 300, 10);
        one.register(0);
        one.feed(2, 0x0201, 0);
        Checks.due("the other's tape", other.count(6), 0);
        Checks.due("the other's PRODUCERS", other.count(9), 0);
        Checks.due("the other's BOOK", other.count(5), 0);
        other.register(0);
        other.feed(1, 9, 0);
        one.send(0, 0, 0, 0, false);
        other.send(0, 0, 0, 0, false);
        one.fetch(0, 0, true);
        other.fetch(0, 0, true);
        Checks.due("one's ANSWER", one.answer(0), 1);
        Checks.due("one's ANSWER", one.answer(1), 2);
        Checks.due("the other's ANSWER", other.answer(0), 9);
        Checks.due("the other's ANSWER", other.answer(1), -1);
        one.mark(0, 0, 4);
        one.tick(5);
        one.begin(0, 0);
        Checks.due("the other's MARK", other.marked(0, 0), -1);
        Checks.due("the other's CLOCK", other.count(3), 0);
        Checks.due("the other's TRANSACTION", other.producer(0, 1), -1);
        Checks.due("the other's begin", other.begin(0, 0), 0);
        one.crash(0);
        Checks.due("the other is not CLOSED", other.count(7), 0);
        Checks.due("the other's bytes", other.partition(0, 2), 15);
        other.sync();
        Checks.due("one's bytes went", one.partition(0, 2), 0);
        new House();
        Checks.due("the other's bytes behind a new object", other.partition(0, 2), 15);
    }
}
