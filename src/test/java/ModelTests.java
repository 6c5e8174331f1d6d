import java.util.ArrayList;
import java.util.List;
import java.util.Random;
import java.util.TreeMap;

/**
 * Random runs of calls (with fixed seeds) on the class and on a slow model of the document that keeps
 * nothing but bytes, and reads all it answers out of them anew (the BOOK only when its bytes are others).
 */
public final class ModelTests {
    private static final int RUNS = 80;
    private static final int CALLS = 512;

    public static void main(String[] args) {
        for (int run = 0; run < RUNS; run++) {
            String fault = new Run(run).play();
            if (fault != null) {
                System.out.println("run " + run + ": " + fault);
                System.exit(1);
            }
        }
        System.out.println("all answers are as the model's");
    }

    /** An OPEN or ended TRANSACTION as the BOOK tells it. */
    static final class Tx {
        int key, epoch, number, began, added;
        Integer decided;
        boolean done;
        final List<int[]> laters = new ArrayList<>();
    }

    /** All that the BOOK tells, read from its first byte on. */
    static final class Told {
        final TreeMap<Integer, Integer> epochs = new TreeMap<>();
        final TreeMap<Integer, Tx> all = new TreeMap<>();
        final TreeMap<Integer, Integer> marks = new TreeMap<>();

        Tx openOf(int key) {
            for (Tx t : all.values()) if (t.key == key && !t.done) return t;
            return null;
        }

        List<Tx> open() {
            List<Tx> found = new ArrayList<>();
            for (Tx t : all.values()) if (!t.done) found.add(t);
            return found;
        }

        int openAdded(int p) {
            int n = 0;
            for (Tx t : open()) if ((t.added >> p & 1) == 1) n++;
            return n;
        }
    }

    /** An ENTRY of a PARTITION, with the TRANSACTION that its KEY had OPEN as it came. */
    static final class Rec {
        int kind, key, epoch, number, start, size;
    }

    static final class Model {
        int parts = 4, cap = 2000, timeout = 100, clock, cut;
        boolean closed;
        List<List<Integer>> files = new ArrayList<>();
        List<Integer> unsynced = new ArrayList<>();
        List<TreeMap<Integer, Integer>> txOfStart = new ArrayList<>();
        List<Integer> tape = new ArrayList<>();
        List<Integer> answer = new ArrayList<>();
        List<Integer> readBytes = new ArrayList<>();
        Told readTold = new Told();

        Model() {
            anew();
        }

        void anew() {
            files.clear();
            txOfStart.clear();
            for (int f = 0; f <= parts; f++) {
                files.add(new ArrayList<>());
                txOfStart.add(new TreeMap<>());
            }
            unsynced.clear();
            answer.clear();
            clock = 0;
            cut = 0;
            closed = false;
        }

        boolean format(int p, int c, int t) {
            if (p < 1 || p > 8 || c < 100 || c > 4000 || t < 1 || t > 1000) return false;
            parts = p;
            cap = c;
            timeout = t;
            anew();
            return true;
        }

        int feed(int n, long a, long b) {
            if (n < 1 || n > 16 || tape.size() + n > 40) return -1;
            for (int i = 0; i < n; i++) tape.add((int) ((i < 8 ? a >> 8 * i : b >> 8 * (i - 8)) & 255));
            return tape.size();
        }

        void bring(int file, List<Integer> body) {
            int s = 17;
            for (int b : body) s = s * 31 + b;
            List<Integer> whole = new ArrayList<>();
            put(whole, s, 4);
            whole.addAll(body);
            for (int b : whole) {
                files.get(file).add(b);
                unsynced.add(file);
            }
        }

        static void put(List<Integer> to, int v, int n) {
            for (int i = n - 1; i >= 0; i--) to.add(v >> 8 * i & 255);
        }

        int get(int file, int at, int n) {
            int v = 0;
            for (int i = 0; i < n; i++) v = v * 256 + files.get(file).get(at + i);
            return v;
        }

        void book(int kind, int key, int epoch, int a, int b) {
            List<Integer> body = new ArrayList<>();
            put(body, kind, 1);
            put(body, key, 1);
            put(body, epoch, 2);
            put(body, a, 4);
            put(body, b, 4);
            bring(parts, body);
        }

        void record(int p, int kind, int key, int epoch, int number, List<Integer> payload) {
            List<Integer> body = new ArrayList<>();
            put(body, payload.size(), 2);
            put(body, kind, 1);
            put(body, key, 1);
            put(body, epoch, 2);
            put(body, number, 4);
            body.addAll(payload);
            if (kind == 1) txOfStart.get(p).put(files.get(p).size(), told().openOf(key).number);
            bring(p, body);
        }

        /** How many bytes at an ENTRY's start are whole, by size and SUM; 0 if they are not. */
        int wholeAt(int file, int at) {
            int left = files.get(file).size() - at;
            int size = 16;
            if (file < parts) {
                if (left < 6) return 0;
                size = 14 + get(file, at + 4, 2);
            }
            if (left < size) return 0;
            int s = 17;
            for (int i = at + 4; i < at + size; i++) s = s * 31 + files.get(file).get(i);
            return s == get(file, at, 4) ? size : 0;
        }

        List<Rec> recs(int p) {
            List<Rec> found = new ArrayList<>();
            int at = 0;
            for (int n = wholeAt(p, at); n > 0; n = wholeAt(p, at)) {
                Rec r = new Rec();
                r.start = at;
                r.size = get(p, at + 4, 2);
                r.kind = get(p, at + 6, 1);
                r.key = get(p, at + 7, 1);
                r.epoch = get(p, at + 8, 2);
                r.number = get(p, at + 10, 4);
                found.add(r);
                at += n;
            }
            return found;
        }

        Told told() {
            List<Integer> now = files.get(parts);
            if (!now.equals(readBytes)) {
                readBytes = new ArrayList<>(now);
                readTold = readBook();
            }
            return readTold;
        }

        Told readBook() {
            Told t = new Told();
            for (int at = 0; at + 16 <= files.get(parts).size(); at += 16) {
                int kind = get(parts, at + 4, 1), key = get(parts, at + 5, 1), epoch = get(parts, at + 6, 2);
                int a = get(parts, at + 8, 4), b = get(parts, at + 12, 4);
                Tx open = t.openOf(key);
                if (kind == 0) t.epochs.put(key, epoch);
                if (kind == 1) {
                    Tx x = new Tx();
                    x.key = key;
                    x.epoch = epoch;
                    x.number = b;
                    x.began = a;
                    t.all.put(b, x);
                }
                if (kind == 2) open.added |= 1 << a;
                if (kind == 3) open.laters.add(new int[] {a, b});
                if (kind == 4) t.all.get(b).decided = a;
                if (kind == 5) {
                    Tx x = t.all.get(b);
                    x.done = true;
                    if (x.decided == 1) for (int[] l : x.laters) t.marks.put(l[0], l[1]);
                }
                if (kind == 6) t.marks.put(a, b);
            }
            return t;
        }

        boolean bookRoom(int bytes, int open) {
            return files.get(parts).size() + bytes + 48 * open <= 16000;
        }

        void finish(int number) {
            Tx x = told().all.get(number);
            for (int p = 0; p < parts; p++) {
                boolean has = false;
                for (Rec r : recs(p)) if (r.kind >= 2 && r.number == number) has = true;
                if ((x.added >> p & 1) == 1 && !has) {
                    record(p, x.decided == 1 ? 2 : 3, x.key, x.epoch, number, new ArrayList<>());
                }
            }
            book(5, x.key, x.epoch, 0, number);
        }

        void end(Tx x, boolean commit) {
            book(4, x.key, x.epoch, commit ? 1 : 0, x.number);
            finish(x.number);
        }

        int register(int key) {
            if (closed) return -1;
            if (key < 0 || key > 31) return -2;
            Told t = told();
            Tx x = t.openOf(key);
            if (x == null && !bookRoom(16, t.open().size())) return -8;
            if (x != null) end(x, false);
            int epoch = t.epochs.containsKey(key) ? t.epochs.get(key) + 1 : 0;
            book(0, key, epoch, 0, 0);
            return epoch;
        }

        int refused(int key, int epoch, boolean others) {
            if (closed) return -1;
            Integer e = told().epochs.get(key);
            if (!others || e == null) return -2;
            return e == epoch ? 0 : -3;
        }

        boolean isPart(int p) {
            return p >= 0 && p < parts;
        }

        int begin(int key, int epoch) {
            int r = refused(key, epoch, true);
            if (r != 0) return r;
            Told t = told();
            if (t.openOf(key) != null) return -4;
            if (!bookRoom(16, t.open().size() + 1)) return -8;
            int number = t.all.isEmpty() ? 0 : t.all.lastKey() + 1;
            book(1, key, epoch, clock, number);
            return number;
        }

        int send(int key, int epoch, int p, int number, boolean part) {
            List<Integer> payload = tape;
            tape = new ArrayList<>();
            int r = refused(key, epoch, isPart(p));
            if (r != 0) return r;
            Told t = told();
            Tx x = t.openOf(key);
            if (part == (x == null)) return -5;
            List<Rec> recs = recs(p);
            int latest = 0;
            for (int o = recs.size() - 1; o >= 0 && latest < 5; o--) {
                Rec q = recs.get(o);
                if (q.key == key && q.epoch == epoch && q.kind < 2) {
                    if (q.number == number) return o;
                    latest++;
                }
            }
            if (number != next(key, p)) return -6;
            boolean adds = part && (x.added >> p & 1) == 0;
            int need = 14 + payload.size() + 14 * t.openAdded(p) + (adds ? 14 : 0);
            if (files.get(p).size() + need > cap) return -8;
            if (adds && !bookRoom(16, t.open().size())) return -8;
            if (adds) book(2, key, epoch, p, 0);
            record(p, part ? 1 : 0, key, epoch, number, payload);
            return recs.size();
        }

        int later(int key, int epoch, int g, int p, int offset) {
            int r = refused(key, epoch, isPart(p) && g >= 0 && g < 8 && offset >= 0);
            if (r != 0) return r;
            Told t = told();
            if (t.openOf(key) == null) return -5;
            if (!bookRoom(16, t.open().size())) return -8;
            book(3, key, epoch, 8 * g + p, offset);
            return 0;
        }

        int end(int key, int epoch, boolean commit) {
            int r = refused(key, epoch, true);
            if (r != 0) return r;
            Tx x = told().openOf(key);
            if (x == null) return -5;
            end(x, commit);
            return 0;
        }

        int mark(int g, int p, int offset) {
            if (closed) return -1;
            if (!isPart(p) || g < 0 || g > 7 || offset < 0) return -2;
            if (!bookRoom(16, told().open().size())) return -8;
            book(6, 0, 0, 8 * g + p, offset);
            return 0;
        }

        int marked(int g, int p) {
            if (closed || !isPart(p) || g < 0 || g > 7) return -1;
            return told().marks.getOrDefault(8 * g + p, -1);
        }

        int tick(int n) {
            if (n < 0 || n > 1000 || clock + n > 1000000) return -2;
            clock += n;
            if (closed) return 0;
            int ended = 0;
            for (Tx x : told().open()) {
                if (clock - x.began > timeout) {
                    end(x, false);
                    book(0, x.key, x.epoch + 1, 0, 0);
                    ended++;
                }
            }
            return ended;
        }

        int stable(int p) {
            Told t = told();
            List<Rec> recs = recs(p);
            for (int o = 0; o < recs.size(); o++) {
                if (recs.get(o).kind == 1 && !t.all.get(txOfStart.get(p).get(recs.get(o).start)).done) return o;
            }
            return recs.size();
        }

        boolean seen(int p, int o, boolean committed, int stable, Told t, Rec r) {
            if (r.kind > 1) return false;
            if (!committed || r.kind == 0) return !committed || o < stable;
            Tx x = t.all.get(txOfStart.get(p).get(r.start));
            return o < stable && x.done && x.decided == 1;
        }

        int fetch(int p, int from, boolean committed) {
            answer.clear();
            if (closed || !isPart(p) || from < 0) return -1;
            Told t = told();
            int stable = stable(p);
            List<Rec> recs = recs(p);
            for (int o = from; o < recs.size(); o++) {
                Rec r = recs.get(o);
                if (seen(p, o, committed, stable, t, r)) {
                    for (int i = 0; i < r.size; i++) answer.add(files.get(p).get(r.start + 14 + i));
                    return o;
                }
            }
            return -1;
        }

        int answer(int i) {
            return i >= 0 && i < answer.size() ? answer.get(i) : -1;
        }

        int sync() {
            if (closed) return -1;
            int n = unsynced.size();
            unsynced.clear();
            return n;
        }

        int crash(int kept) {
            if (closed) return -1;
            if (kept < 0 || kept > unsynced.size()) return -2;
            int gone = unsynced.size() - kept;
            for (int i = unsynced.size() - 1; i >= kept; i--) {
                List<Integer> f = files.get(unsynced.get(i));
                f.remove(f.size() - 1);
            }
            unsynced.clear();
            closed = true;
            return gone;
        }

        int open() {
            if (!closed) return -1;
            closed = false;
            cut = 0;
            for (int f = 0; f <= parts; f++) {
                int at = 0;
                for (int n = wholeAt(f, at); n > 0; n = wholeAt(f, at)) at += n;
                while (files.get(f).size() > at) {
                    files.get(f).remove(files.get(f).size() - 1);
                    cut++;
                }
            }
            int ended = 0;
            for (Tx x : told().open()) {
                if (x.decided != null) {
                    finish(x.number);
                    ended++;
                }
            }
            return ended;
        }

        int partition(int p, int what) {
            if (!isPart(p) || what < 0 || what > 5) return -1;
            if (what == 0) return recs(p).size();
            if (what == 2) return files.get(p).size();
            if (what == 3) return (int) unsynced.stream().filter(f -> f == p).count();
            if (closed) return -1;
            if (what == 1) return stable(p);
            if (what == 5) return told().openAdded(p);
            int n = 0;
            Told t = told();
            int stable = stable(p);
            List<Rec> recs = recs(p);
            for (int o = 0; o < recs.size(); o++) if (seen(p, o, true, stable, t, recs.get(o))) n++;
            return n;
        }

        int entry(int p, int o, int what) {
            if (!isPart(p)) return -1;
            List<Rec> recs = recs(p);
            if (o < 0 || o >= recs.size() || what < 0 || what > 4) return -1;
            Rec r = recs.get(o);
            return new int[] {r.kind, r.key, r.epoch, r.number, r.size}[what];
        }

        int producer(int key, int what) {
            Told t = told();
            if (closed || !t.epochs.containsKey(key) || what < 0 || what > 4) return -1;
            Tx x = t.openOf(key);
            int epoch = t.epochs.get(key);
            if (x == null) return new int[] {epoch, -1, -1, 0, 0}[what];
            return new int[] {epoch, x.number, x.began, x.added, x.laters.size()}[what];
        }

        int next(int key, int p) {
            Integer epoch = told().epochs.get(key);
            if (closed || epoch == null || !isPart(p)) return -1;
            int next = 0;
            for (Rec r : recs(p)) if (r.key == key && r.epoch == epoch && r.kind < 2) next = r.number + 1;
            return next;
        }

        int byteOf(int f, int i) {
            return f < 0 || f > parts || i < 0 || i >= files.get(f).size() ? -1 : files.get(f).get(i);
        }

        int count(int what) {
            Told t = told();
            int next = t.all.isEmpty() ? 0 : t.all.lastKey() + 1;
            int[] all = {parts, cap, timeout, clock, unsynced.size(), files.get(parts).size(), tape.size(),
                closed ? 1 : 0, cut, t.epochs.size(), t.open().size(), next};
            return what < 0 || what > 11 || closed && what > 8 ? -1 : all[what];
        }
    }

    /** One run: a mood says how often which call comes, so that full houses and long ones come too. */
    static final class Run {
        final Random random;
        final OnceLedger x = new OnceLedger();
        final Model m = new Model();
        final int mood;
        final int keys;
        final StringBuilder calls = new StringBuilder();

        Run(int seed) {
            random = new Random(seed * 7919L + 13);
            mood = seed % 4;
            keys = mood == 3 ? 32 : 1 + random.nextInt(5);
        }

        String play() {
            int from = 0;
            if (random.nextInt(5) > 0) {
                from++;
                int p = 1 + random.nextInt(8);
                int c = random.nextInt(3) == 0 ? 4000 : 100 + random.nextInt(900);
                int t = 1 + random.nextInt(mood == 3 ? 3 : 40);
                if (x.format(p, c, t) != m.format(p, c, t)) return "format";
            }
            for (int call = from; call < CALLS; call++) {
                String fault = step();
                if (fault == null && (call % 8 == 0 || call > CALLS - 4)) fault = compare();
                if (fault != null) return fault + " behind " + calls;
            }
            return null;
        }

        int odd(int usual, int least, int most) {
            return random.nextInt(40) == 0 ? least + random.nextInt(most - least + 1) : usual;
        }

        int key() {
            return odd(random.nextInt(keys), -1, 33);
        }

        int part() {
            return odd(random.nextInt(m.parts), -1, 8);
        }

        int group() {
            return odd(random.nextInt(8), -1, 8);
        }

        int epochOf(int key) {
            return odd(Math.max(0, x.producer(key, 0)), -1, 3);
        }

        String step() {
            int dice = random.nextInt(100);
            int key = key(), p = part(), g = group(), e = epochOf(key);
            int off = odd(random.nextInt(1000), -2, 3);
            boolean flag = random.nextBoolean();
            if (mood == 3) dice = m.closed ? 95 : fillingDice(dice);
            if (mood == 1 && dice >= 85 && random.nextInt(8) > 0) dice = 30;
            if (dice < 6) return same("register(" + key + ")", x.register(key), m.register(key));
            if (dice < 18) {
                if (mood == 3) key = closestIdle(key);
                e = epochOf(key);
                return same("begin(" + key + ", " + e + ")", x.begin(key, e), m.begin(key, e));
            }
            if (dice < 48) return send(key, e, p);
            if (dice < 54) {
                return same("later(" + key + ", " + e + ", " + g + ", " + p + ", " + off + ")",
                    x.later(key, e, g, p, off), m.later(key, e, g, p, off));
            }
            if (dice < 62) {
                return same("end(" + key + ", " + e + ", " + flag + ")", x.end(key, e, flag), m.end(key, e, flag));
            }
            if (dice < 66) return same("mark(" + g + ", " + p + ", " + off + ")", x.mark(g, p, off), m.mark(g, p, off));
            if (dice < 76) {
                int n = odd(random.nextInt(6), -1, 1001);
                return same("tick(" + n + ")", x.tick(n), m.tick(n));
            }
            if (dice < 84) return fetch(p, flag);
            if (dice < 86) return same("sync()", x.sync(), m.sync());
            if (dice < 90) {
                int lost = random.nextInt(m.unsynced.size() + 1);
                int kept = odd(m.unsynced.size() - (mood == 3 ? Math.min(lost, 100) : lost), -1, 3000);
                return same("crash(" + kept + ")", x.crash(kept), m.crash(kept));
            }
            if (dice < 99) return same("open()", x.open(), m.open());
            if (random.nextInt(6) > 0) return null;
            int parts = random.nextInt(10), cap = 50 + random.nextInt(800);
            return same("format(" + parts + ", " + cap + ", 9)",
                x.format(parts, cap, 9) ? 1 : 0, m.format(parts, cap, 9) ? 1 : 0);
        }

        /** Mostly begin() and tick(), no format(), few crashes. */
        int fillingDice(int dice) {
            if (dice < 70) return dice < 66 ? 12 : 75;
            if (dice >= 98 || dice >= 86 && dice < 90 && random.nextInt(4) > 0) return 50;
            return random.nextInt(100) < 80 ? dice : random.nextInt(66);
        }

        /** A KEY that can begin at once, so that the BOOK gets full in 512 calls. */
        int closestIdle(int key) {
            for (int i = 0; i < 32; i++) {
                int k = Math.floorMod(key + i, 32);
                if (m.producer(k, 0) != -1 && m.producer(k, 1) == -1) return k;
            }
            m.register(Math.floorMod(key, 32));
            x.register(Math.floorMod(key, 32));
            return Math.floorMod(key, 32);
        }

        String send(int key, int e, int p) {
            if (random.nextBoolean()) {
                int n = odd(1 + random.nextInt(16), -1, 18);
                long a = random.nextLong(), b = random.nextLong();
                String fault = same("feed(" + n + ", " + a + ", " + b + ")", x.feed(n, a, b), m.feed(n, a, b));
                if (fault != null || random.nextInt(4) == 0) return fault;
            }
            boolean part = odd(m.producer(key, 1) != -1 ? 1 : 0, 0, 1) == 1;
            int number = Math.max(0, m.next(key, p));
            if (random.nextInt(6) == 0) number += 1 - random.nextInt(9);
            return same("send(" + key + ", " + e + ", " + p + ", " + number + ", " + part + ")",
                x.send(key, e, p, number, part), m.send(key, e, p, number, part));
        }

        String fetch(int p, boolean committed) {
            int from = odd(random.nextInt(20), -1, 300);
            String fault = same("fetch(" + p + ", " + from + ", " + committed + ")",
                x.fetch(p, from, committed), m.fetch(p, from, committed));
            for (int i = -1; i <= 40 && fault == null; i++) {
                if (x.answer(i) != m.answer(i)) fault = "answer(" + i + ")";
            }
            return fault;
        }

        String same(String call, int got, int want) {
            calls.append(call).append(" = ").append(want).append('\n');
            return got == want ? null : call + " answered " + got + ", the model " + want;
        }

        String compare() {
            for (int what = -1; what <= 12; what++) {
                if (x.count(what) != m.count(what)) return "count(" + what + ") " + x.count(what);
            }
            for (int p = -1; p <= 8; p++) {
                for (int what = -1; what <= 6; what++) {
                    if (x.partition(p, what) != m.partition(p, what)) return "partition(" + p + ", " + what + ")";
                }
                for (int g = -1; g <= 8; g++) {
                    if (x.marked(g, p) != m.marked(g, p)) return "marked(" + g + ", " + p + ")";
                }
                int o = random.nextInt(30);
                for (int what = -1; what <= 5; what++) {
                    if (x.entry(p, o, what) != m.entry(p, o, what)) return "entry(" + p + ", " + o + ", " + what + ")";
                }
                int key = key();
                if (x.next(key, p) != m.next(key, p)) return "next(" + key + ", " + p + ")";
            }
            for (int key = -1; key <= 32; key += 1 + random.nextInt(4)) {
                for (int what = -1; what <= 5; what++) {
                    if (x.producer(key, what) != m.producer(key, what)) return "producer(" + key + ", " + what + ")";
                }
            }
            for (int f = -1; f <= 9; f++) {
                int end = f < 0 || f > m.parts ? 3 : m.files.get(f).size();
                for (int i = -1; i <= end; i++) {
                    if (x.byteOf(f, i) != m.byteOf(f, i)) return "byteOf(" + f + ", " + i + ")";
                }
            }
            return null;
        }
    }
}
