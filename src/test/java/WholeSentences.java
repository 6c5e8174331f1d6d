import java.util.Random;

/** The sentences of the document's first part, 'What it is': what all the promises together come to. */
final class WholeSentences {
    private static final int MAX = Integer.MAX_VALUE;
    private static final int MIN = Integer.MIN_VALUE;

    private WholeSentences() {
    }

    static void all(Sentences s) {
        String part = "What it is";
        s.test(part, "A house of logs: records come to partitions in rows,", WholeSentences::recordsComeInRows);
        s.test(part, "each producer's each just once however often it is sent,", WholeSentences::eachJustOnce);
        s.test(part, "each producer's each just once however often it is sent,", WholeSentences::onceThroughCrashes);
        s.test(part, "several partitions together in transactions that are seen whole or not at all;",
            WholeSentences::seenWholeOrNotAtAll);
        s.test(part, "crashes keep any first part of what was not synced,", WholeSentences::anyFirstPart);
        s.test(part, "and an opening finishes what was decided.", WholeSentences::openingFinishes);
        s.test(part, "An object is used for at most 512 calls after it has been made;", WholeSentences::the512thCall);
        s.test(part, "what later calls answer is free.", WholeSentences::laterCallsEnd);
    }

    private static void recordsComeInRows() {
        House h = House.of(3, 300, 10);
        for (int key = 0; key < 2; key++) h.register(key);
        for (int n = 0; n < 5; n++) {
            for (int p = 0; p < 3; p++) {
                for (int key = 0; key < 2; key++) {
                    h.feed(1, 100 * key + 10 * p + n, 0);
                    Checks.due("send", h.send(key, 0, p, n, false), 2 * n + key);
                }
            }
        }
        for (int p = 0; p < 3; p++) {
            int from = 0;
            for (int n = 0; n < 5; n++) {
                for (int key = 0; key < 2; key++) {
                    Checks.due("the row of " + p, h.fetch(p, from, true), 2 * n + key);
                    Checks.due("its byte", h.answer(0), 100 * key + 10 * p + n);
                    from = 2 * n + key + 1;
                }
            }
            Checks.due("the end of the row", h.fetch(p, from, true), -1);
        }
    }

    /** Behind each new record all older ones are sent again: those of the five latest are known, none comes twice. */
    private static void eachJustOnce() {
        for (int part = 0; part < 2; part++) {
            House h = House.of(1, 400, 10);
            h.register(0);
            if (part == 1) h.begin(0, 0);
            for (int n = 0; n < 12; n++) {
                h.feed(1, n, 0);
                Checks.due("send " + n, h.send(0, 0, 0, n, part == 1), n);
                for (int old = n; old >= 0; old--) {
                    h.feed(1, 99, 0);
                    Checks.due(old + " again behind " + n, h.send(0, 0, 0, old, part == 1), n - old < 5 ? old : -6);
                }
                Checks.due("ENTRIES", h.partition(0, 0), n + 1);
                Checks.due("UNSYNCED", h.partition(0, 3), 15 * (n + 1));
            }
            for (int n = 0; n < 12; n++) {
                Checks.due("fetch", h.fetch(0, n, false), n);
                Checks.due("what was sent first", h.answer(0), n);
            }
        }
    }

    /**
     * Two producers who, behind every crash, send again from the record on that was the last one synced, as those
     * do who know no better: at the end each record is there once, in its row, with its own byte.
     */
    private static void onceThroughCrashes() {
        for (int seed = 0; seed < 40; seed++) {
            Random random = new Random(seed);
            House h = House.of(1, 600, 10);
            h.register(0);
            h.register(1);
            h.sync();
            int[] safe = {0, 0};
            while (safe[0] < 12 || safe[1] < 12) {
                for (int key = 0; key < 2; key++) {
                    int to = Math.min(12, safe[key] + 1 + random.nextInt(3));
                    for (int n = Math.max(0, safe[key] - 2); n < to; n++) {
                        h.feed(1, 50 * key + n, 0);
                        Checks.due("send", Math.min(h.send(key, 0, 0, n, false), 0), 0);
                    }
                }
                if (random.nextBoolean()) h.sync();
                h.crash(random.nextInt(h.count(4) + 1));
                Checks.due("open", h.open(), 0);
                for (int key = 0; key < 2; key++) safe[key] = h.next(key, 0);
            }
            int[] next = {0, 0};
            Checks.due("ENTRIES of run " + seed, h.partition(0, 0), 24);
            for (int o = 0; o < 24; o++) {
                Checks.due("fetch", h.fetch(0, o, true), o);
                int key = h.entry(0, o, 1);
                Checks.due("in its row, of " + key, h.entry(0, o, 3), next[key]);
                Checks.due("its own byte", h.answer(0), 50 * key + next[key]);
                next[key]++;
            }
        }
    }

    /** A TRANSACTION in three PARTITIONS: all bytes of it, from the BEGIN to the DONE, are UNSYNCED. */
    private static House threeParts(boolean commit) {
        House h = House.of(3, 300, 10);
        h.register(0);
        h.sync();
        h.begin(0, 0);
        for (int p = 0; p < 3; p++) {
            h.send(0, 0, p, 0, true);
            Checks.due("not seen before the end", seen(h), 0);
        }
        h.later(0, 0, 0, 0, 1);
        Checks.due("the MARK is not before the end", h.marked(0, 0), -1);
        h.end(0, 0, commit);
        Checks.due("seen behind the end", seen(h), commit ? 3 : 0);
        return h;
    }

    private static final int TO_DECIDE = 16 + 3 * (16 + 14) + 16 + 16;
    private static final int TO_DONE = TO_DECIDE + 3 * 14 + 16;

    private static int seen(House h) {
        int seen = 0;
        for (int p = 0; p < 3; p++) seen += h.fetch(p, 0, true) >= 0 ? 1 : 0;
        return seen;
    }

    private static void seenWholeOrNotAtAll() {
        for (int kept = 0; kept <= TO_DONE; kept++) {
            for (int c = 0; c < 2; c++) {
                House h = threeParts(c == 1);
                Checks.due("crash", h.crash(kept), TO_DONE - kept);
                h.open();
                int due = c == 1 && kept >= TO_DECIDE ? 3 : 0;
                Checks.due("seen at " + kept, seen(h), due);
                Checks.due("the MARK at " + kept, h.marked(0, 0), due == 3 ? 1 : -1);
                h.register(0);
                Checks.due("seen at " + kept + " behind register", seen(h), due);
                Checks.due("nothing is held back at " + kept, h.partition(2, 1), h.partition(2, 0));
            }
        }
    }

    /** One byte kept more is one byte more in one FILE; all bytes are those that were there. */
    private static void anyFirstPart() {
        int[][] before = files(Houses.busy());
        int unsynced = Houses.busy().count(4);
        int[] shorter = null;
        for (int kept = 0; kept <= unsynced; kept++) {
            House h = Houses.busy();
            Checks.due("crash", h.crash(kept), unsynced - kept);
            int[][] now = files(h);
            int longer = 0;
            int[] sizes = new int[4];
            for (int file = 0; file < 4; file++) {
                sizes[file] = now[file].length;
                for (int i = 0; i < now[file].length; i++) {
                    Checks.due("byte " + i + " of " + file, now[file][i], i < before[file].length ? before[file][i] : -1);
                }
                if (shorter != null) {
                    int more = sizes[file] - shorter[file];
                    Checks.due("bytes more of " + file + " at " + kept, more == 0 || more == 1 ? 1 : 0, 1);
                    longer += more;
                }
            }
            if (shorter != null) Checks.due("bytes more at " + kept, longer, 1);
            shorter = sizes;
        }
        for (int file = 0; file < 4; file++) Checks.due("all of " + file, shorter[file], before[file].length);
    }

    private static int[][] files(House h) {
        int[][] files = new int[4][];
        for (int file = 0; file < 4; file++) {
            files[file] = new int[file < 3 ? h.partition(file, 2) : h.count(5)];
            for (int i = 0; i < files[file].length; i++) files[file][i] = h.byteOf(file, i);
        }
        return files;
    }

    private static void openingFinishes() {
        for (int c = 0; c < 2; c++) {
            boolean commit = c == 1;
            House whole = threeParts(commit);
            int[][] bytes = files(whole);
            for (int kept = TO_DECIDE; kept <= TO_DONE; kept++) {
                House h = threeParts(commit);
                h.crash(kept);
                Checks.due("open at " + kept, h.open(), kept < TO_DONE ? 1 : 0);
                Checks.due("OPEN at " + kept, h.count(10), 0);
                int[][] now = files(h);
                for (int file = 0; file < 4; file++) {
                    Checks.due("size of " + file + " at " + kept, now[file].length, bytes[file].length);
                    for (int i = 0; i < Math.min(now[file].length, bytes[file].length); i++) {
                        Checks.due("byte " + i + " of " + file + ", as if without a crash", now[file][i], bytes[file][i]);
                    }
                }
            }
            House early = threeParts(commit);
            early.crash(TO_DECIDE - 1);
            Checks.due("what was not decided is not finished", early.open(), 0);
            Checks.due("OPEN", early.count(10), 1);
        }
    }

    /** 512 calls are all promised, the last as the first: 510 of them send, fetch and ask in turns. */
    private static void the512thCall() {
        OnceLedger x = new OnceLedger();
        Checks.due("call 1", x.format(8, 4000, 1000) ? 1 : 0, 1);
        Checks.due("call 2", x.register(31), 0);
        for (int call = 3; call <= 512; call++) {
            int round = (call - 3) / 3;
            int p = round % 8;
            int n = round / 8;
            if (call % 3 == 0) Checks.due("call " + call, x.send(31, 0, p, n, false), n);
            if (call % 3 == 1) Checks.due("call " + call, x.fetch(p, n, true), n);
            if (call % 3 == 2) Checks.due("call " + call, x.next(31, p), n + 1);
        }
    }

    /** What they answer is free, but each must answer: an exception here ends the tests. */
    private static void laterCallsEnd() {
        for (int seed = 0; seed < 8; seed++) {
            Random random = new Random(seed);
            OnceLedger x = new OnceLedger();
            for (int i = 0; i < 30000; i++) anyCall(x, random);
        }
    }

    private static int any(Random random, int usual) {
        int[] edges = {MIN, MIN + 1, -256, -1, usual, 255, 256, 65535, 65536, MAX - 1, MAX};
        return random.nextInt(12) == 0 ? edges[random.nextInt(edges.length)] : random.nextInt(usual + 1);
    }

    private static void anyCall(OnceLedger x, Random random) {
        int key = any(random, 32);
        int p = any(random, 4);
        int epoch = random.nextInt(3) == 0 ? any(random, 3) : x.producer(key, 0);
        switch (random.nextInt(24)) {
            case 0:
                if (random.nextInt(400) == 0) x.format(any(random, 8), any(random, 4000), any(random, 1000));
                break;
            case 1:
                x.feed(any(random, 17), random.nextLong(), random.nextLong());
                break;
            case 2:
                x.register(key);
                break;
            case 3:
            case 4:
                x.begin(key, epoch);
                break;
            case 5:
            case 6:
            case 7:
                x.send(key, epoch, p, random.nextInt(4) == 0 ? any(random, 20) : x.next(key, p), random.nextBoolean());
                break;
            case 8:
                x.later(key, epoch, any(random, 8), p, any(random, 20));
                break;
            case 9:
            case 10:
                x.end(key, epoch, random.nextBoolean());
                break;
            case 11:
                x.mark(any(random, 8), p, any(random, 20));
                break;
            case 12:
                x.marked(any(random, 8), p);
                break;
            case 13:
                x.tick(any(random, 60));
                break;
            case 14:
                x.fetch(p, any(random, 20), random.nextBoolean());
                break;
            case 15:
                x.answer(any(random, 40));
                break;
            case 16:
                x.sync();
                break;
            case 17:
                if (random.nextInt(20) == 0) x.crash(any(random, 1 + Math.max(0, x.count(4))));
                break;
            case 18:
                x.open();
                break;
            case 19:
                x.partition(p, any(random, 6));
                break;
            case 20:
                x.entry(p, any(random, 20), any(random, 5));
                break;
            case 21:
                x.producer(key, any(random, 5));
                break;
            case 22:
                x.byteOf(p, any(random, 4000));
                break;
            default:
                x.count(any(random, 12));
                break;
        }
    }
}
