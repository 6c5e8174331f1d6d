import java.util.ArrayList;
import java.util.List;
import java.util.function.Supplier;
import java.util.function.ToIntFunction;

/** What the tests of the sentences share: answers that are due, and twins that show what a call changed. */
final class Checks {
    private static final int TAPE = 6;
    private static final int MOST_LINES = 100;

    private static int wrong = 0;
    private static String sentence = "";

    private Checks() {
    }

    static int wrong() {
        return wrong;
    }

    static void at(String where) {
        sentence = where;
    }

    static void fault(String text) {
        wrong++;
        if (wrong <= MOST_LINES) System.out.println(sentence + ": " + text);
        if (wrong == MOST_LINES) System.out.println("what more is wrong is counted, not told");
    }

    static void due(String call, long got, long want) {
        if (got != want) fault(call + " answered " + got + ", due is " + want);
    }

    /** The bytes of a FILE from an index on are these. */
    static void bytes(String call, House h, int file, int from, int... want) {
        for (int i = 0; i < want.length; i++) due(call + ", byte " + i, h.byteOf(file, from + i), want[i]);
    }

    /** One thing that can be asked of a house, by a call that changes nothing. */
    private static final class Look {
        final String name;
        final ToIntFunction<House> ask;

        Look(String name, ToIntFunction<House> ask) {
            this.name = name;
            this.ask = ask;
        }
    }

    /** What comes behind a call that should have changed nothing: then the same comes with and without it. */
    private static final class After {
        final String name;
        final ToIntFunction<House> calls;

        After(String name, ToIntFunction<House> calls) {
            this.name = name;
            this.calls = calls;
        }
    }

    private static final After NOTHING = new After("", h -> 0);
    private static final After CRASH = new After("crash, ", h -> h.crash(h.count(4) / 2));
    private static final After OPEN = new After("crash, open, ", h -> 100000 * h.crash(h.count(4) / 2) + h.open());
    private static final After SENT = new After("register, send, fetch, ", h -> {
        int epoch = h.register(30);
        return 100000 * epoch + 100 * h.send(30, epoch, 0, 0, false) + h.fetch(0, Math.max(h.partition(0, 0), 1) - 1, false);
    });

    /** The call answers so, and changes nothing that can be seen. */
    static void nothing(String call, Supplier<House> made, ToIntFunction<House> it, int want) {
        due(call, it.applyAsInt(made.get()), want);
        for (After after : new After[] {NOTHING, CRASH, OPEN, SENT}) alike(call, made, made, it, after, true, true);
    }

    /** The call answers so, the tape is empty then, and nothing else is changed. */
    static void tapeAlone(String call, Supplier<House> made, ToIntFunction<House> it, int want) {
        tapeAlone(call, made, it, want, 0);
    }

    /** The call answers so, the tape has so many bytes then, and nothing else is changed. */
    static void tapeAlone(String call, Supplier<House> made, ToIntFunction<House> it, int want, int tape) {
        House house = made.get();
        due(call, it.applyAsInt(house), want);
        due(call + ", then the tape", house.count(TAPE), tape);
        for (After after : new After[] {NOTHING, CRASH, OPEN}) alike(call, made, made, it, after, false, true);
    }

    /** The call answers so, these bytes (none: it is empty) are the ANSWER then, and nothing else is changed. */
    static void answerAlone(String call, Supplier<House> made, ToIntFunction<House> it, int want, int... answer) {
        House house = made.get();
        due(call, it.applyAsInt(house), want);
        for (int i = 0; i <= 40; i++) {
            due(call + ", then the ANSWER", house.answer(i), i < answer.length ? answer[i] : -1);
        }
        for (After after : new After[] {NOTHING, CRASH, OPEN}) alike(call, made, made, it, after, true, false);
    }

    /** Two houses, however they came to be so, cannot be told from each other. */
    static void same(String call, Supplier<House> one, Supplier<House> other) {
        for (After after : new After[] {NOTHING, CRASH, OPEN, SENT}) {
            alike(call, one, other, h -> 0, after, true, true);
        }
    }

    private static void alike(String call, Supplier<House> one, Supplier<House> other, ToIntFunction<House> it,
            After after, boolean tape, boolean answer) {
        House first = one.get();
        after.calls.applyAsInt(first);
        List<Look> looks = looks(first, tape, answer);
        int i = 0;
        while (i < looks.size()) {
            House plain = one.get();
            House called = other.get();
            it.applyAsInt(called);
            due(call + ", then " + after.name + "their answers", after.calls.applyAsInt(called),
                after.calls.applyAsInt(plain));
            int room = Math.min(plain.callsLeft(), called.callsLeft());
            if (room < 1) throw new IllegalStateException("no calls are left to look at " + call);
            for (; room > 0 && i < looks.size(); room--, i++) {
                Look look = looks.get(i);
                due(call + ", then " + after.name + look.name, look.ask.applyAsInt(called),
                    look.ask.applyAsInt(plain));
            }
        }
    }

    private static List<Look> looks(House h, boolean tape, boolean answer) {
        List<Look> looks = new ArrayList<>();
        int partitions = h.count(0);
        for (int what = 0; what <= 12; what++) {
            if (what != TAPE || tape) add(looks, "count", what, 0, 0);
        }
        for (int p = 0; p <= partitions; p++) {
            for (int what = 0; what <= 6; what++) add(looks, "partition", p, what, 0);
            int entries = h.partition(p, 0);
            for (int o = 0; o <= entries; o++) for (int w = 0; w < 5; w++) add(looks, "entry", p, o, w);
            int bytes = p < partitions ? h.partition(p, 2) : h.count(5);
            for (int i = 0; i <= bytes; i++) add(looks, "byteOf", p, i, 0);
            for (int group = 0; group < 8; group++) add(looks, "marked", group, p, 0);
            for (int key = 0; key < 32; key++) add(looks, "next", key, p, 0);
        }
        for (int key = 0; key < 32; key++) for (int w = 0; w < 5; w++) add(looks, "producer", key, w, 0);
        for (int i = 0; i <= 40 && answer; i++) add(looks, "answer", i, 0, 0);
        return looks;
    }

    private static void add(List<Look> looks, String call, int a, int b, int c) {
        looks.add(new Look(call + "(" + a + ", " + b + ", " + c + ")", h -> ask(h, call, a, b, c)));
    }

    private static int ask(House h, String call, int a, int b, int c) {
        switch (call) {
            case "count":
                return h.count(a);
            case "partition":
                return h.partition(a, b);
            case "entry":
                return h.entry(a, b, c);
            case "byteOf":
                return h.byteOf(a, b);
            case "marked":
                return h.marked(a, b);
            case "next":
                return h.next(a, b);
            case "producer":
                return h.producer(a, b);
            case "answer":
                return h.answer(a);
            default:
                throw new IllegalStateException(call);
        }
    }
}
