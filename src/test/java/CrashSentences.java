/** The sentences of the promises 14 to 16: sync, crash, open. */
final class CrashSentences {
    private static final int MAX = Integer.MAX_VALUE;
    private static final int MIN = Integer.MIN_VALUE;

    private CrashSentences() {
    }

    static void all(Sentences s) {
        s.test("Promise 14", "All bytes are synced: how many were not.", CrashSentences::syncTellsHowMany);
        s.test("Promise 14", "-1.", CrashSentences::syncWhileClosed);
        s.test("Promise 15", "A CRASH: how many bytes went.", CrashSentences::crashTellsHowManyWent);
        s.test("Promise 15", "-1;", CrashSentences::crashWhileClosed);
        s.test("Promise 15", "-2: kept is below 0, or there are not so many.", CrashSentences::keptIsWrong);
        s.test("Promise 16", "OPENING: how many TRANSACTIONS were ENDED by it.", CrashSentences::openTellsHowMany);
        s.test("Promise 16", "OPENING: how many TRANSACTIONS were ENDED by it.", CrashSentences::openBehindEveryTick);
        s.test("Promise 16", "OPENING: how many TRANSACTIONS were ENDED by it.", CrashSentences::openBehindAnOpen);
        s.test("Promise 16", "-1: the house is not CLOSED.", CrashSentences::openWhileNotClosed);
    }

    private static void syncTellsHowMany() {
        House h = House.of(2, 300, 10);
        Checks.due("sync of nothing", h.sync(), 0);
        h.register(0);
        Checks.due("sync of a REGISTER", h.sync(), 16);
        Checks.due("sync again", h.sync(), 0);
        h.sendBytes(0, 0, 1, 54, false);
        h.mark(0, 0, 1);
        Checks.due("UNSYNCED", h.count(4), 70);
        Checks.due("UNSYNCED of 1", h.partition(1, 3), 54);
        Checks.due("sync of both", h.sync(), 70);
        Checks.due("UNSYNCED", h.count(4), 0);
        Checks.due("UNSYNCED of 1", h.partition(1, 3), 0);
        Checks.due("bytes", h.partition(1, 2), 54);
        Checks.due("crash(1)", h.crash(1), -2);
        Checks.due("crash(0)", h.crash(0), 0);
        Checks.due("bytes", h.partition(1, 2), 54);
        h.open();
        Checks.due("sync behind open", h.sync(), 0);
        House ending = House.of(1, 300, 10);
        ending.register(0);
        ending.begin(0, 0);
        ending.send(0, 0, 0, 0, true);
        ending.sync();
        ending.end(0, 0, true);
        ending.crash(16);
        ending.open();
        Checks.due("sync of what an open brought", ending.sync(), 30);
        Checks.nothing("sync of nothing", () -> {
            House b = Houses.busy();
            b.sync();
            return b;
        }, House::sync, 0);
    }

    private static void syncWhileClosed() {
        Checks.nothing("sync while CLOSED", Houses::closed, House::sync, -1);
    }

    private static void crashTellsHowManyWent() {
        House empty = new House();
        Checks.due("crash of nothing", empty.crash(0), 0);
        Checks.due("CLOSED", empty.count(7), 1);
        int unsynced = Houses.busy().count(4);
        Checks.due("UNSYNCED", unsynced, 15 + 14 + 16 + 16 + 14 + 16);
        for (int kept : new int[] {0, 1, unsynced - 1, unsynced}) {
            House h = Houses.busy();
            int book = h.count(5);
            int bytes = h.partition(0, 2) + h.partition(1, 2) + h.partition(2, 2) + book;
            Checks.due("crash(" + kept + ")", h.crash(kept), unsynced - kept);
            Checks.due("bytes are left", h.partition(0, 2) + h.partition(1, 2) + h.partition(2, 2) + h.count(5),
                bytes - unsynced + kept);
            Checks.due("CLOSED", h.count(7), 1);
            Checks.due("the tape stays", h.count(6), 5);
            Checks.due("the ANSWER stays", h.answer(3), 0xFF);
        }
    }

    private static void crashWhileClosed() {
        for (int kept : new int[] {0, 1, -1, MAX, MIN}) {
            Checks.nothing("crash(" + kept + ") while CLOSED", Houses::closed, h -> h.crash(kept), -1);
        }
    }

    private static void keptIsWrong() {
        int unsynced = Houses.busy().count(4);
        for (int kept : new int[] {-1, MIN, unsynced + 1, MAX}) {
            Checks.nothing("crash(" + kept + ")", Houses::busy, h -> h.crash(kept), -2);
        }
        Checks.nothing("crash(1) of nothing", House::new, h -> h.crash(1), -2);
        Checks.nothing("crash(-1) of nothing", House::new, h -> h.crash(-1), -2);
        Checks.due("crash of as many as there are", Houses.busy().crash(unsynced), 0);
        Checks.due("crash(0)", Houses.busy().crash(0), unsynced);
    }

    private static void openTellsHowMany() {
        House h = House.of(2, 300, 10);
        h.crash(0);
        Checks.due("open of nothing", h.open(), 0);
        h.register(0);
        h.begin(0, 0);
        h.sync();
        h.end(0, 0, true);
        h.crash(15);
        Checks.due("the DECIDE is not whole", h.open(), 0);
        Checks.due("OPEN", h.count(10), 1);
        h.end(0, 0, true);
        h.crash(16);
        Checks.due("the DECIDE is whole", h.open(), 1);
        Checks.due("OPEN", h.count(10), 0);
        h.crash(15);
        Checks.due("the DONE of the open is not whole", h.open(), 1);
        h.crash(16);
        Checks.due("the DONE of the open is whole", h.open(), 0);
        Checks.due("number", h.begin(0, 0), 1);
        h.sync();
        h.end(0, 0, false);
        h.crash(31);
        Checks.due("the DONE is not whole", h.open(), 1);
        h.begin(0, 0);
        h.sync();
        h.end(0, 0, false);
        h.crash(32);
        Checks.due("the DONE is whole", h.open(), 0);
    }

    /** Three are ENDED by one tick, by their numbers and not their KEYS; each crash in it leaves at most one half done. */
    private static void openBehindEveryTick() {
        int[] keys = {7, 2, 5};
        int each = 16 + 14 + 16 + 16;
        for (int kept = 0; kept <= 3 * each; kept++) {
            House h = House.of(1, 300, 10);
            for (int key : keys) {
                h.register(key);
                h.begin(key, 0);
                h.send(key, 0, 0, 0, true);
            }
            h.sync();
            Checks.due("tick", h.tick(11), 3);
            Checks.due("crash", h.crash(kept), 3 * each - kept);
            int half = kept % each;
            Checks.due("open at " + kept, h.open(), half >= 16 && half < 46 ? 1 : 0);
            for (int i = 0; i < 3; i++) {
                int mine = kept - i * each;
                Checks.due("OPEN at " + kept, h.producer(keys[i], 1), mine >= 16 ? -1 : i);
                Checks.due("EPOCH at " + kept, h.producer(keys[i], 0), mine >= each ? 1 : 0);
            }
            int still = 3 - (kept / each + (half >= 16 ? 1 : 0));
            Checks.due("OPEN that ADDED", h.partition(0, 5), still);
            Checks.due("ENTRIES", h.partition(0, 0), 6 - still);
            Checks.due("tick(0) ends the others", h.tick(0), still);
        }
    }

    /** What an open brings is UNSYNCED too: a crash in it, and the next open brings what lacks. */
    private static void openBehindAnOpen() {
        for (int kept = 0; kept <= 58; kept++) {
            House h = House.of(3, 300, 10);
            h.register(0);
            h.begin(0, 0);
            for (int p = 2; p >= 0; p--) h.send(0, 0, p, 0, true);
            h.later(0, 0, 0, 0, 5);
            h.sync();
            h.end(0, 0, true);
            h.crash(16);
            Checks.due("open", h.open(), 1);
            Checks.due("crash", h.crash(kept), 58 - kept);
            int ends = Math.min(kept / 14, 3);
            for (int p = 0; p < 3; p++) Checks.due("ENTRIES at " + kept, h.partition(p, 0), p < ends ? 2 : 1);
            Checks.due("open at " + kept, h.open(), kept < 58 ? 1 : 0);
            Checks.due("UNSYNCED at " + kept, h.count(4), kept < 58 ? 14 * (3 - ends) + 16 : 0);
            Checks.due("CUT at " + kept, h.count(8), kept < 42 ? kept % 14 : kept < 58 ? kept - 42 : 0);
            for (int p = 0; p < 3; p++) {
                Checks.due("ENTRIES at " + kept, h.partition(p, 0), 2);
                Checks.due("SEEN COMMITTED at " + kept, h.partition(p, 4), 1);
            }
            Checks.due("MARK", h.marked(0, 0), 5);
            Checks.due("OPEN", h.count(10), 0);
        }
    }

    private static void openWhileNotClosed() {
        Checks.nothing("open of a new object", House::new, House::open, -1);
        Checks.nothing("open of a busy house", Houses::busy, House::open, -1);
        Checks.nothing("open again", () -> {
            House h = Houses.closed();
            h.open();
            return h;
        }, House::open, -1);
        Checks.nothing("open behind format", () -> {
            House h = Houses.closed();
            h.format(1, 100, 1);
            return h;
        }, House::open, -1);
    }
}
