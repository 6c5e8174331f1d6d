import java.util.Arrays;

/**
 * A house of logs: records come to partitions just once, several together in transactions,
 * and an opening after a crash finishes what was decided. ../shared/DOC.md tells its promises.
 */
public final class OnceLedger {
    public static final int NONE = -1;

    private static final int CLOSED = -1;
    private static final int NOT_CLOSED = -1;
    private static final int UNKNOWN = -2;
    private static final int FENCED = -3;
    private static final int OPEN_ALREADY = -4;
    private static final int WRONG_MODE = -5;
    private static final int NOT_NEXT = -6;
    private static final int NO_ROOM = -8;

    private static final int MOST_PARTITIONS = 8;
    private static final int LEAST_CAPACITY = 100;
    private static final int MOST_CAPACITY = 4000;
    private static final int MOST_TIMEOUT = 1000;
    private static final int MOST_TICKS = 1000;
    private static final int LAST_CLOCK = 1000000;
    private static final int KEYS = 32;
    private static final int GROUPS = 8;
    private static final int MOST_PAYLOAD = 40;
    private static final int MOST_FED = 16;
    private static final int REMEMBERED = 5;

    private static final int SUM_BYTES = 4;

    private static final int PLAIN = 0;
    private static final int PART = 1;
    private static final int COMMIT = 2;
    private static final int ABORT = 3;
    private static final int SIZE_AT = 4;
    private static final int KIND_AT = 6;
    private static final int KEY_AT = 7;
    private static final int EPOCH_AT = 8;
    private static final int NUMBER_AT = 10;
    private static final int HEAD = 14;
    private static final int MOST_ENTRIES = MOST_CAPACITY / HEAD;

    private static final int REGISTER = 0;
    private static final int BEGIN = 1;
    private static final int ADD = 2;
    private static final int LATER = 3;
    private static final int DECIDE = 4;
    private static final int DONE = 5;
    private static final int MARK = 6;
    private static final int BOOK_KIND_AT = 4;
    private static final int BOOK_KEY_AT = 5;
    private static final int BOOK_EPOCH_AT = 6;
    private static final int BOOK_A_AT = 8;
    private static final int BOOK_B_AT = 12;
    private static final int BOOK_ENTRY = 16;
    private static final int BOOK_CAPACITY = 16000;
    private static final int BOOK_PLACE_TO_END = 48;

    private static final int MOST_PIECES = MOST_PARTITIONS * MOST_ENTRIES + BOOK_CAPACITY / BOOK_ENTRY;

    private final ByteRow tape = new ByteRow(MOST_PAYLOAD);
    private final ByteRow fetched = new ByteRow(MOST_PAYLOAD);
    private final ByteRow noPayload = new ByteRow(0);
    private final Log[] logs = new Log[MOST_PARTITIONS];
    private final ByteRow book = new ByteRow(BOOK_CAPACITY);
    private final Unsynced unsynced = new Unsynced();
    private final Producer[] producers = new Producer[KEYS];
    private final int[] marks = new int[GROUPS * MOST_PARTITIONS];

    private int partitions;
    private int capacity;
    private int timeout;
    private int clock;
    private boolean closed;
    private int cutBytes;
    private int nextTransaction;

    public OnceLedger() {
        for (int p = 0; p < MOST_PARTITIONS; p++) {
            logs[p] = new Log();
        }
        for (int key = 0; key < KEYS; key++) {
            producers[key] = new Producer();
        }
        build(4, 2000, 100);
    }

    public boolean format(int partitions, int capacity, int timeout) {
        if (partitions < 1 || partitions > MOST_PARTITIONS
                || capacity < LEAST_CAPACITY || capacity > MOST_CAPACITY
                || timeout < 1 || timeout > MOST_TIMEOUT) {
            return false;
        }
        build(partitions, capacity, timeout);
        return true;
    }

    public int feed(int n, long a, long b) {
        if (n < 1 || n > MOST_FED || tape.length + n > MOST_PAYLOAD) {
            return NONE;
        }
        for (int i = 0; i < n; i++) {
            long word = i < 8 ? a : b;
            tape.add((int) (word >>> (8 * (i & 7))));
        }
        return tape.length;
    }

    public int register(int key) {
        if (closed) {
            return CLOSED;
        }
        if (!isKey(key)) {
            return UNKNOWN;
        }
        // An OPEN TRANSACTION has kept place for its end and for this REGISTER too.
        if (producers[key].isOpen()) {
            decide(key, false);
            finish(key);
        } else if (!bookHasRoom(0)) {
            return NO_ROOM;
        }
        raiseEpoch(key);
        return producers[key].epoch;
    }

    public int begin(int key, int epoch) {
        int refusal = refusalOf(key, epoch, true);
        if (refusal != 0) {
            return refusal;
        }
        if (producers[key].isOpen()) {
            return OPEN_ALREADY;
        }
        if (!bookHasRoom(1)) {
            return NO_ROOM;
        }
        int number = nextTransaction;
        writeToBook(BEGIN, key, epoch, clock, number);
        return number;
    }

    public int send(int key, int epoch, int partition, int number, boolean part) {
        int outcome = takeSent(key, epoch, partition, number, part);
        tape.clear();
        return outcome;
    }

    public int later(int key, int epoch, int group, int partition, int offset) {
        int refusal = refusalOf(key, epoch, isPlace(group, partition) && offset >= 0);
        if (refusal != 0) {
            return refusal;
        }
        if (!producers[key].isOpen()) {
            return WRONG_MODE;
        }
        if (!bookHasRoom(0)) {
            return NO_ROOM;
        }
        writeToBook(LATER, key, epoch, placeOf(group, partition), offset);
        return 0;
    }

    public int end(int key, int epoch, boolean commit) {
        int refusal = refusalOf(key, epoch, true);
        if (refusal != 0) {
            return refusal;
        }
        if (!producers[key].isOpen()) {
            return WRONG_MODE;
        }
        decide(key, commit);
        finish(key);
        return 0;
    }

    public int mark(int group, int partition, int offset) {
        if (closed) {
            return CLOSED;
        }
        if (!isPlace(group, partition) || offset < 0) {
            return UNKNOWN;
        }
        if (!bookHasRoom(0)) {
            return NO_ROOM;
        }
        writeToBook(MARK, 0, 0, placeOf(group, partition), offset);
        return 0;
    }

    public int marked(int group, int partition) {
        if (closed || !isPlace(group, partition)) {
            return NONE;
        }
        return marks[placeOf(group, partition)];
    }

    public int tick(int n) {
        if (n < 0 || n > MOST_TICKS || clock + n > LAST_CLOCK) {
            return UNKNOWN;
        }
        clock += n;
        return closed ? 0 : endOverdue();
    }

    public int fetch(int partition, int from, boolean committed) {
        fetched.clear();
        if (closed || !isPartition(partition) || from < 0) {
            return NONE;
        }
        Log log = logs[partition];
        int offset = committed ? log.firstCommitted(from) : log.firstSeen(from);
        if (offset != NONE) {
            log.copyPayload(offset, fetched);
        }
        return offset;
    }

    public int answer(int i) {
        return fetched.at(i);
    }

    public int sync() {
        if (closed) {
            return CLOSED;
        }
        int bytes = unsynced.bytes;
        unsynced.clear();
        return bytes;
    }

    public int crash(int kept) {
        if (closed) {
            return CLOSED;
        }
        int bytes = unsynced.bytes;
        if (kept < 0 || kept > bytes) {
            return UNKNOWN;
        }
        for (int file = 0; file <= partitions; file++) {
            ByteRow row = rowOf(file);
            row.cutTo(row.length - unsynced.bytesOf(file) + unsynced.keptOf(file, kept));
        }
        for (int p = 0; p < partitions; p++) {
            logs[p].dropBroken();
        }
        unsynced.clear();
        forget();
        closed = true;
        return bytes - kept;
    }

    public int open() {
        if (!closed) {
            return NOT_CLOSED;
        }
        closed = false;
        cutBytes = book.length % BOOK_ENTRY;
        book.cutTo(book.length - cutBytes);
        for (int p = 0; p < partitions; p++) {
            cutBytes += logs[p].cutBroken();
        }
        for (int at = 0; at < book.length; at += BOOK_ENTRY) {
            learn(at);
        }
        return finishDecided();
    }

    public int partition(int p, int what) {
        if (!isPartition(p)) {
            return NONE;
        }
        Log log = logs[p];
        switch (what) {
            case 0:
                return log.entries;
            case 1:
                return closed ? NONE : log.stable();
            case 2:
                return log.row.length;
            case 3:
                return unsynced.bytesOf(p);
            case 4:
                return closed ? NONE : log.committedEntries();
            case 5:
                return closed ? NONE : openThatAdded(p);
            default:
                return NONE;
        }
    }

    public int entry(int p, int offset, int what) {
        if (!isPartition(p) || !logs[p].has(offset)) {
            return NONE;
        }
        Log log = logs[p];
        switch (what) {
            case 0:
                return log.field(offset, KIND_AT, 1);
            case 1:
                return log.field(offset, KEY_AT, 1);
            case 2:
                return log.field(offset, EPOCH_AT, 2);
            case 3:
                return log.field(offset, NUMBER_AT, 4);
            case 4:
                return log.field(offset, SIZE_AT, 2);
            default:
                return NONE;
        }
    }

    public int producer(int key, int what) {
        if (closed || !isRegistered(key)) {
            return NONE;
        }
        Producer producer = producers[key];
        switch (what) {
            case 0:
                return producer.epoch;
            case 1:
                return producer.transaction;
            case 2:
                return producer.began;
            case 3:
                return producer.added;
            case 4:
                return producer.laters;
            default:
                return NONE;
        }
    }

    public int next(int key, int partition) {
        if (closed || !isRegistered(key) || !isPartition(partition)) {
            return NONE;
        }
        return logs[partition].nextOf(key, producers[key].epoch);
    }

    public int byteOf(int file, int i) {
        if (file < 0 || file > partitions) {
            return NONE;
        }
        return rowOf(file).at(i);
    }

    public int count(int what) {
        switch (what) {
            case 0:
                return partitions;
            case 1:
                return capacity;
            case 2:
                return timeout;
            case 3:
                return clock;
            case 4:
                return unsynced.bytes;
            case 5:
                return book.length;
            case 6:
                return tape.length;
            case 7:
                return closed ? 1 : 0;
            case 8:
                return cutBytes;
            case 9:
                return closed ? NONE : registeredProducers();
            case 10:
                return closed ? NONE : openTransactions();
            case 11:
                return closed ? NONE : nextTransaction;
            default:
                return NONE;
        }
    }

    private void build(int newPartitions, int newCapacity, int newTimeout) {
        partitions = newPartitions;
        capacity = newCapacity;
        timeout = newTimeout;
        clock = 0;
        closed = false;
        cutBytes = 0;
        for (int p = 0; p < MOST_PARTITIONS; p++) {
            logs[p].clear();
        }
        book.clear();
        unsynced.clear();
        fetched.clear();
        forget();
    }

    private void forget() {
        for (int key = 0; key < KEYS; key++) {
            producers[key].forget();
        }
        Arrays.fill(marks, NONE);
        nextTransaction = 0;
    }

    private boolean isKey(int key) {
        return key >= 0 && key < KEYS;
    }

    private boolean isRegistered(int key) {
        return isKey(key) && producers[key].epoch != NONE;
    }

    private boolean isPartition(int p) {
        return p >= 0 && p < partitions;
    }

    private boolean isPlace(int group, int p) {
        return group >= 0 && group < GROUPS && isPartition(p);
    }

    private int placeOf(int group, int p) {
        return 8 * group + p;
    }

    private ByteRow rowOf(int file) {
        return isPartition(file) ? logs[file].row : book;
    }

    /** 0, or what refuses a PRODUCER's call; known tells whether its other arguments name what there is. */
    private int refusalOf(int key, int epoch, boolean known) {
        if (closed) {
            return CLOSED;
        }
        if (!known || !isRegistered(key)) {
            return UNKNOWN;
        }
        return producers[key].epoch == epoch ? 0 : FENCED;
    }

    private int takeSent(int key, int epoch, int p, int number, boolean part) {
        int refusal = refusalOf(key, epoch, isPartition(p));
        if (refusal != 0) {
            return refusal;
        }
        Producer producer = producers[key];
        if (producer.isOpen() != part) {
            return WRONG_MODE;
        }
        int before = logs[p].offsetOfRecent(key, epoch, number);
        if (before != NONE) {
            return before;
        }
        if (number != logs[p].nextOf(key, epoch)) {
            return NOT_NEXT;
        }
        boolean adds = part && !producer.hasAdded(p);
        if (!logHasRoom(p, adds) || adds && !bookHasRoom(0)) {
            return NO_ROOM;
        }
        if (adds) {
            writeToBook(ADD, key, epoch, p, 0);
        }
        return writeToLog(p, part ? PART : PLAIN, key, epoch, number, tape);
    }

    private boolean logHasRoom(int p, boolean adds) {
        int ends = openThatAdded(p) + (adds ? 1 : 0);
        return logs[p].row.length + HEAD + tape.length + HEAD * ends <= capacity;
    }

    private boolean bookHasRoom(int moreOpen) {
        int ends = openTransactions() + moreOpen;
        return book.length + BOOK_ENTRY + BOOK_PLACE_TO_END * ends <= BOOK_CAPACITY;
    }

    private int registeredProducers() {
        int registered = 0;
        for (int key = 0; key < KEYS; key++) {
            registered += isRegistered(key) ? 1 : 0;
        }
        return registered;
    }

    private int openTransactions() {
        int open = 0;
        for (int key = 0; key < KEYS; key++) {
            open += producers[key].isOpen() ? 1 : 0;
        }
        return open;
    }

    private int openThatAdded(int p) {
        int open = 0;
        for (int key = 0; key < KEYS; key++) {
            open += producers[key].hasAdded(p) ? 1 : 0;
        }
        return open;
    }

    private int writeToLog(int p, int kind, int key, int epoch, int number, ByteRow payload) {
        Log log = logs[p];
        int before = log.row.length;
        log.append(kind, key, epoch, number, payload);
        unsynced.note(p, log.row.length - before);
        return log.entries - 1;
    }

    private void writeToBook(int kind, int key, int epoch, int a, int b) {
        int at = book.length;
        book.addNumber(0, SUM_BYTES);
        book.addNumber(kind, 1);
        book.addNumber(key, 1);
        book.addNumber(epoch, 2);
        book.addNumber(a, 4);
        book.addNumber(b, 4);
        book.seal(at);
        unsynced.note(partitions, book.length - at);
        learn(at);
    }

    /** The one way by which the house learns of its BOOK, so that an opening knows what was known before. */
    private void learn(int at) {
        int key = book.number(at + BOOK_KEY_AT, 1);
        if (!isKey(key)) {
            return;
        }
        Producer producer = producers[key];
        int a = book.number(at + BOOK_A_AT, 4);
        int b = book.number(at + BOOK_B_AT, 4);
        switch (book.number(at + BOOK_KIND_AT, 1)) {
            case REGISTER:
                producer.epoch = book.number(at + BOOK_EPOCH_AT, 2);
                break;
            case BEGIN:
                producer.openTransaction(b, a, at);
                nextTransaction = b + 1;
                break;
            case ADD:
                producer.added |= 1 << a;
                break;
            case LATER:
                producer.laters++;
                break;
            case DECIDE:
                producer.decision = a;
                break;
            case DONE:
                if (producer.decision == 1) {
                    markLaters(key, producer.beganAt, at);
                }
                producer.closeTransaction();
                break;
            case MARK:
                setMark(a, b);
                break;
            default:
                break;
        }
    }

    private void markLaters(int key, int from, int to) {
        for (int at = from; at < to; at += BOOK_ENTRY) {
            if (book.number(at + BOOK_KIND_AT, 1) == LATER && book.number(at + BOOK_KEY_AT, 1) == key) {
                setMark(book.number(at + BOOK_A_AT, 4), book.number(at + BOOK_B_AT, 4));
            }
        }
    }

    private void setMark(int place, int offset) {
        if (place >= 0 && place < marks.length) {
            marks[place] = offset;
        }
    }

    private void raiseEpoch(int key) {
        writeToBook(REGISTER, key, producers[key].epoch + 1, 0, 0);
    }

    private void decide(int key, boolean commit) {
        Producer producer = producers[key];
        writeToBook(DECIDE, key, producer.epoch, commit ? 1 : 0, producer.transaction);
    }

    /** Brings what still lacks behind a DECIDE; a crash may have left some of it in the PARTITIONS. */
    private void finish(int key) {
        Producer producer = producers[key];
        int kind = producer.decision == 1 ? COMMIT : ABORT;
        for (int p = 0; p < partitions; p++) {
            if (producer.hasAdded(p) && !logs[p].hasEndOf(producer.transaction)) {
                writeToLog(p, kind, key, producer.epoch, producer.transaction, noPayload);
            }
        }
        writeToBook(DONE, key, producer.epoch, 0, producer.transaction);
    }

    private int endOverdue() {
        int ended = 0;
        for (int round = 0; round < KEYS; round++) {
            int key = firstToEnd(false);
            if (key == NONE) {
                break;
            }
            decide(key, false);
            finish(key);
            raiseEpoch(key);
            ended++;
        }
        return ended;
    }

    private int finishDecided() {
        int ended = 0;
        for (int round = 0; round < KEYS; round++) {
            int key = firstToEnd(true);
            if (key == NONE) {
                break;
            }
            finish(key);
            ended++;
        }
        return ended;
    }

    /** The KEY with the lowest TRANSACTION of those that are decided, or else of those that are overdue. */
    private int firstToEnd(boolean decided) {
        int first = NONE;
        for (int key = 0; key < KEYS; key++) {
            Producer producer = producers[key];
            boolean due = decided ? producer.decision != NONE : clock - producer.began > timeout;
            if (producer.isOpen() && due
                    && (first == NONE || producer.transaction < producers[first].transaction)) {
                first = key;
            }
        }
        return first;
    }

    /** Bytes in a row of fixed room, made once and used again by every new house. */
    private static final class ByteRow {
        private final byte[] bytes;
        private int length;

        ByteRow(int room) {
            bytes = new byte[Math.max(room, 0)];
        }

        void clear() {
            length = 0;
        }

        void cutTo(int shorter) {
            if (shorter >= 0 && shorter < length) {
                length = shorter;
            }
        }

        int at(int i) {
            return i >= 0 && i < length ? bytes[i] & 255 : NONE;
        }

        void add(int value) {
            if (length < bytes.length) {
                bytes[length] = (byte) value;
                length++;
            }
        }

        void addNumber(int value, int width) {
            for (int shift = 8 * (width - 1); shift >= 0; shift -= 8) {
                add(value >>> shift);
            }
        }

        int number(int from, int width) {
            int value = 0;
            if (from >= 0 && from <= length - width) {
                for (int i = 0; i < width; i++) {
                    value = value << 8 | bytes[from + i] & 255;
                }
            }
            return value;
        }

        /** The SUM stands ahead of the bytes that it is of, so it can be written only behind them. */
        void seal(int start) {
            if (start < 0 || start > length - SUM_BYTES) {
                return;
            }
            int sum = 17;
            for (int i = start + SUM_BYTES; i < length; i++) {
                sum = sum * 31 + (bytes[i] & 255);
            }
            for (int i = 0; i < SUM_BYTES; i++) {
                bytes[start + i] = (byte) (sum >>> (24 - 8 * i));
            }
        }
    }

    /** How many bytes came to which FILE since the latest sync, in their order over all FILES. */
    private static final class Unsynced {
        private final int[] files = new int[MOST_PIECES];
        private final int[] sizes = new int[MOST_PIECES];
        private final int[] byFile = new int[MOST_PARTITIONS + 1];
        private int pieces;
        private int bytes;

        void clear() {
            pieces = 0;
            bytes = 0;
            Arrays.fill(byFile, 0);
        }

        void note(int file, int size) {
            if (pieces < MOST_PIECES && file >= 0 && file < byFile.length) {
                files[pieces] = file;
                sizes[pieces] = size;
                pieces++;
                bytes += size;
                byFile[file] += size;
            }
        }

        int bytesOf(int file) {
            return file >= 0 && file < byFile.length ? byFile[file] : 0;
        }

        int keptOf(int file, int kept) {
            int left = kept;
            int ofFile = 0;
            for (int i = 0; i < pieces && left > 0; i++) {
                int size = Math.min(sizes[i], left);
                ofFile += files[i] == file ? size : 0;
                left -= size;
            }
            return ofFile;
        }
    }

    /** A PARTITION: its bytes, and where its ENTRIES end. */
    private static final class Log {
        private final ByteRow row = new ByteRow(MOST_CAPACITY);
        private final int[] ends = new int[MOST_ENTRIES];
        private final boolean[] committed = new boolean[MOST_ENTRIES];
        private final int[] fates = new int[KEYS];
        private int entries;

        void clear() {
            row.clear();
            entries = 0;
        }

        void append(int kind, int key, int epoch, int number, ByteRow payload) {
            if (entries >= MOST_ENTRIES) {
                return;
            }
            int start = row.length;
            row.addNumber(0, SUM_BYTES);
            row.addNumber(payload.length, 2);
            row.addNumber(kind, 1);
            row.addNumber(key, 1);
            row.addNumber(epoch, 2);
            row.addNumber(number, 4);
            for (int i = 0; i < payload.length; i++) {
                row.add(payload.at(i));
            }
            row.seal(start);
            ends[entries] = row.length;
            entries++;
        }

        boolean has(int offset) {
            return offset >= 0 && offset < entries;
        }

        int startOf(int offset) {
            return offset >= 1 && offset <= entries ? ends[offset - 1] : 0;
        }

        int field(int offset, int where, int width) {
            return row.number(startOf(offset) + where, width);
        }

        int kindOf(int offset) {
            return row.number(startOf(offset) + KIND_AT, 1);
        }

        boolean isSeen(int offset) {
            int kind = kindOf(offset);
            return kind == PLAIN || kind == PART;
        }

        /** Bytes go from the end alone, so the ends of the ENTRIES that are left still hold. */
        void dropBroken() {
            for (int o = entries - 1; o >= 0 && ends[o] > row.length; o--) {
                entries = o;
            }
        }

        int cutBroken() {
            int whole = startOf(entries);
            int broken = row.length - whole;
            row.cutTo(whole);
            return broken;
        }

        boolean isSentBy(int offset, int key, int epoch) {
            return isSeen(offset) && field(offset, KEY_AT, 1) == key && field(offset, EPOCH_AT, 2) == epoch;
        }

        int nextOf(int key, int epoch) {
            for (int o = entries - 1; o >= 0; o--) {
                if (isSentBy(o, key, epoch)) {
                    return field(o, NUMBER_AT, 4) + 1;
                }
            }
            return 0;
        }

        int offsetOfRecent(int key, int epoch, int number) {
            int found = 0;
            for (int o = entries - 1; o >= 0 && found < REMEMBERED; o--) {
                if (isSentBy(o, key, epoch)) {
                    if (field(o, NUMBER_AT, 4) == number) {
                        return o;
                    }
                    found++;
                }
            }
            return NONE;
        }

        boolean hasEndOf(int transaction) {
            for (int o = entries - 1; o >= 0; o--) {
                if (!isSeen(o) && field(o, NUMBER_AT, 4) == transaction) {
                    return true;
                }
            }
            return false;
        }

        /**
         * STABLE. A KEY has one TRANSACTION at a time, so a PART is of the one that the next COMMIT
         * or ABORT with its KEY ends, and of an OPEN one if there is none such behind it.
         */
        int stable() {
            Arrays.fill(fates, NONE);
            int stable = entries;
            for (int o = entries - 1; o >= 0; o--) {
                int kind = kindOf(o);
                int key = Math.min(field(o, KEY_AT, 1), KEYS - 1);
                committed[o] = kind == PLAIN || kind == PART && fates[key] == COMMIT;
                if (kind == PART && fates[key] == NONE) {
                    stable = o;
                }
                if (kind == COMMIT || kind == ABORT) {
                    fates[key] = kind;
                }
            }
            return stable;
        }

        int committedEntries() {
            int stable = stable();
            int seen = 0;
            for (int o = 0; o < stable; o++) {
                seen += committed[o] ? 1 : 0;
            }
            return seen;
        }

        int firstCommitted(int from) {
            int stable = stable();
            for (int o = Math.max(from, 0); o < stable; o++) {
                if (committed[o]) {
                    return o;
                }
            }
            return NONE;
        }

        int firstSeen(int from) {
            for (int o = Math.max(from, 0); o < entries; o++) {
                if (isSeen(o)) {
                    return o;
                }
            }
            return NONE;
        }

        void copyPayload(int offset, ByteRow to) {
            int start = startOf(offset) + HEAD;
            int size = Math.min(field(offset, SIZE_AT, 2), MOST_PAYLOAD);
            for (int i = 0; i < size; i++) {
                to.add(row.at(start + i));
            }
        }
    }

    /** What the BOOK has told of a KEY: its EPOCH (NONE if not REGISTERED) and its OPEN TRANSACTION. */
    private static final class Producer {
        private int epoch;
        private int transaction;
        private int began;
        private int beganAt;
        private int added;
        private int laters;
        private int decision;

        void forget() {
            epoch = NONE;
            closeTransaction();
        }

        void openTransaction(int number, int clock, int at) {
            transaction = number;
            began = clock;
            beganAt = at;
        }

        void closeTransaction() {
            transaction = NONE;
            began = NONE;
            added = 0;
            laters = 0;
            decision = NONE;
        }

        boolean isOpen() {
            return transaction != NONE;
        }

        boolean hasAdded(int p) {
            return (added >> p & 1) == 1;
        }
    }
}
