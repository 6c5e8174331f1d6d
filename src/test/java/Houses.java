/** Houses in states that many tests start from. */
final class Houses {
    private Houses() {
    }

    /**
     * Three PARTITIONS of 300 bytes, timeout 20, CLOCK 3. KEYS 0 (EPOCH 1, none OPEN), 5 (EPOCH 0, TRANSACTION 0 in
     * 0 and 1, one LATER) and 31 (EPOCH 0, TRANSACTION 2 in 2) are REGISTERED. PARTITION 0: PLAIN of 0, PART of 5,
     * ENTRIES 2 and 3 PLAIN of 31, the rest PART; MARKS (2, 1) 9 and, not synced, (0, 0) 1; four bytes in the
     * ANSWER, five on the tape.
     */
    static House busy() {
        House h = House.of(3, 300, 20);
        h.register(0);
        h.register(0);
        h.register(5);
        h.register(31);
        h.feed(4, 0xFF80C3A1L, 0);
        h.send(0, 1, 0, 0, false);
        h.mark(2, 1, 9);
        h.tick(3);
        h.begin(5, 0);
        h.feed(2, 0x0A0BL, 0);
        h.send(5, 0, 1, 0, true);
        h.send(5, 0, 0, 0, true);
        h.later(5, 0, 7, 2, 40);
        h.begin(31, 0);
        h.end(31, 0, true);
        h.sync();
        h.feed(1, 0x77, 0);
        h.send(31, 0, 0, 0, false);
        h.send(31, 0, 0, 1, false);
        h.begin(31, 0);
        h.send(31, 0, 2, 0, true);
        h.mark(0, 0, 1);
        h.fetch(0, 0, false);
        h.feed(5, 0x5544332211L, 0);
        return h;
    }

    /** The busy one behind a crash that broke an ENTRY of PARTITION 0 off in its middle. */
    static House closed() {
        House h = busy();
        Checks.due("crash", h.crash(20) > 0 ? 1 : 0, 1);
        return h;
    }
}
