/**
 * An object of the class under test that counts its calls, since the document promises nothing behind the
 * 512th: a test that would lean on what is free stops here.
 */
final class House {
    private static final int MOST_CALLS = 512;

    private final OnceLedger ledger = new OnceLedger();
    private int calls = 0;

    static House of(int partitions, int capacity, int timeout) {
        House house = new House();
        Checks.due("format", house.format(partitions, capacity, timeout), 1);
        return house;
    }

    int callsLeft() {
        return MOST_CALLS - calls;
    }

    private OnceLedger counted() {
        if (calls == MOST_CALLS) throw new IllegalStateException("a test makes more than 512 calls");
        calls++;
        return ledger;
    }

    /** So many bytes on an empty tape: first, first + 1 and on, each as its lowest eight bits. */
    void tape(int bytes, int first) {
        for (int done = 0; done < bytes; done += 16) {
            long a = 0;
            long b = 0;
            for (int i = 7; i >= 0; i--) {
                a = a << 8 | first + done + i & 255;
                b = b << 8 | first + done + 8 + i & 255;
            }
            int n = Math.min(16, bytes - done);
            Checks.due("feed", feed(n, a, b), done + n);
        }
    }

    /** A PLAIN ENTRY (or PART) that takes so many bytes, 14 to 54, with the NUMBER that is NEXT. */
    int sendBytes(int key, int epoch, int p, int bytes, boolean part) {
        tape(bytes - 14, 1);
        return send(key, epoch, p, next(key, p), part);
    }

    /** PLAIN ENTRIES of a KEY, 14 to 54 bytes each, until the PARTITION has so many bytes. */
    void fillPartition(int key, int epoch, int p, int bytes) {
        int number = next(key, p);
        int left = bytes - partition(p, 2);
        while (left > 0) {
            int size = left <= 54 ? left : Math.min(54, left - 14);
            tape(size - 14, 1);
            Checks.due("send in fillPartition", Math.min(send(key, epoch, p, number, false), 0), 0);
            number++;
            left -= size;
        }
        Checks.due("bytes of the PARTITION", partition(p, 2), bytes);
    }

    /**
     * Fills the BOOK until so many bytes are left, in some 320 calls: TRANSACTIONS of the KEYS 8 to 31 that
     * tick() ends bring four ENTRIES each, marks the rest. The KEYS have EPOCHS of their own then.
     */
    void fillBook(int left) {
        int full = 16000 - left;
        for (int key = 8; key < 32; key++) Checks.due("register in fillBook", register(key), 0);
        int bytes = count(5);
        int ticks = count(2) + 1;
        int epoch = 0;
        for (; bytes + 24 * 64 <= full; bytes += 24 * 64) {
            for (int key = 8; key < 32; key++) Checks.due("begin in fillBook", Math.min(begin(key, epoch), 0), 0);
            Checks.due("tick in fillBook", tick(ticks), 24);
            epoch++;
        }
        for (; bytes + 64 <= full; bytes += 64) {
            Checks.due("begin in fillBook", Math.min(begin(8, epoch), 0), 0);
            epoch++;
            Checks.due("register in fillBook", register(8), epoch);
        }
        for (; bytes + 16 <= full; bytes += 16) Checks.due("mark in fillBook", mark(0, 0, 0), 0);
        Checks.due("bytes of the BOOK", count(5), full);
    }

    int format(int partitions, int capacity, int timeout) {
        return counted().format(partitions, capacity, timeout) ? 1 : 0;
    }

    int feed(int n, long a, long b) {
        return counted().feed(n, a, b);
    }

    int register(int key) {
        return counted().register(key);
    }

    int begin(int key, int epoch) {
        return counted().begin(key, epoch);
    }

    int send(int key, int epoch, int partition, int number, boolean part) {
        return counted().send(key, epoch, partition, number, part);
    }

    int later(int key, int epoch, int group, int partition, int offset) {
        return counted().later(key, epoch, group, partition, offset);
    }

    int end(int key, int epoch, boolean commit) {
        return counted().end(key, epoch, commit);
    }

    int mark(int group, int partition, int offset) {
        return counted().mark(group, partition, offset);
    }

    int marked(int group, int partition) {
        return counted().marked(group, partition);
    }

    int tick(int n) {
        return counted().tick(n);
    }

    int fetch(int partition, int from, boolean committed) {
        return counted().fetch(partition, from, committed);
    }

    int answer(int i) {
        return counted().answer(i);
    }

    int sync() {
        return counted().sync();
    }

    int crash(int kept) {
        return counted().crash(kept);
    }

    int open() {
        return counted().open();
    }

    int partition(int p, int what) {
        return counted().partition(p, what);
    }

    int entry(int p, int offset, int what) {
        return counted().entry(p, offset, what);
    }

    int producer(int key, int what) {
        return counted().producer(key, what);
    }

    int next(int key, int partition) {
        return counted().next(key, partition);
    }

    int byteOf(int file, int i) {
        return counted().byteOf(file, i);
    }

    int count(int what) {
        return counted().count(what);
    }
}
