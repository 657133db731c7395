import java.util.List;

/**
 * Every call that is refused: each argument just below and just above its bounds, and at them; what
 * is there already, what is full; which of these is told first. Behind each, what STATUS tells, and
 * that nothing else has changed.
 */
public final class RefusalTest {
    private static final int BAD = -2, NO = -3, FULL = -4, BAD_TEN = -10;
    private static final int IS_BAD = 0, IS_NO = 1, IS_FULL = 2, IS_NONE_OF_THEM = -1;
    private static final int EMPTY = 0, MIDDLE = 1, ALL_FULL = 2;
    private static final Check CHECK = new Check();

    private RefusalTest() {
    }

    private interface Ask {
        long of(KitchenSiege x, int[] a);
    }

    /** A call, what it answers where a number is not as told, the least and the most of each number. */
    private record Call(String name, Ask ask, long refusal, int[] low, int[] high) {
        String told(int[] a) {
            return name + java.util.Arrays.toString(a);
        }
    }

    public static void main(String[] args) {
        for (int size = EMPTY; size <= ALL_FULL; size++) {
            for (Call call : calls(size)) {
                bounds(call, size);
            }
            neverRefused(size);
        }
        noLane();
        noUndo();
        noImage();
        full();
        badIsFirst();
        noneOfThem();
        CHECK.end();
    }

    private static KitchenSiege town(int size) {
        return size == EMPTY ? Towns.empty() : size == MIDDLE ? Towns.middle() : Towns.full();
    }

    private static int[] row(int... values) {
        return values;
    }

    private static List<Call> calls(int size) {
        int s = row(-1, 2, 7)[size];
        int d = row(-1, 1, 5)[size];
        List<Call> all = new java.util.ArrayList<>(townCalls(s));
        all.addAll(dayCalls(s, d));
        all.addAll(noteCalls(s, d));
        return all;
    }

    private static List<Call> townCalls(int s) {
        return List.of(
            new Call("street", (x, a) -> x.street(a[0], a[1], a[2]), BAD, row(0, 0, 0), row(5, 9, 5)),
            new Call("lane", (x, a) -> x.lane(a[0], a[1]), BAD, row(0, 0), row(s, s)),
            new Call("gate", (x, a) -> x.gate(a[0], a[1]), BAD, row(0, 0), row(3, s)),
            new Call("wind", (x, a) -> x.wind(a[0], a[1]), BAD, row(0, 0), row(3, 3)),
            new Call("dish", (x, a) -> x.dish(a[0], a[1], a[2]), BAD, row(0, 1, 0), row(5, 30, 9)),
            new Call("type", (x, a) -> x.type(a[0]), BAD, row(0), row(127)),
            new Call("part", (x, a) -> x.part(a[0]), BAD, row(0), row(1)),
            new Call("image", (x, a) -> x.image(a[0]), BAD, row(0), row(1)),
            new Call("from", (x, a) -> x.from(a[0]), BAD, row(0), row(1)),
            new Call("status", (x, a) -> x.status(a[0]), -1, row(0), row(2)),
            new Call("count", (x, a) -> x.count(a[0]), BAD, row(0), row(6)));
    }

    private static List<Call> dayCalls(int s, int d) {
        return List.of(
            new Call("day", (x, a) -> x.day(a[0]), BAD, row(-1), row(d)),
            new Call("of", (x, a) -> x.of(a[0], a[1]), BAD_TEN, row(0, 0), row(s, 5)),
            new Call("smells", (x, a) -> x.smells(a[0], a[1], a[2]), BAD, row(0, 0, 0), row(d, 3, s)),
            new Call("moved", (x, a) -> x.moved(a[0], a[1]), BAD, row(0, 0), row(d, s)),
            new Call("falls", (x, a) -> x.falls(a[0], a[1]), BAD, row(0, 0), row(d, s)),
            new Call("order", (x, a) -> x.order(a[0], a[1]), BAD_TEN, row(0, -2), row(s, Integer.MAX_VALUE)),
            new Call("answer", (x, a) -> x.answer(a[0], a[1], a[2]), BAD, row(0, 0, 0), row(d, 9, 1)),
            new Call("game", (x, a) -> x.game(a[0]), BAD, row(0), row(9)));
    }

    private static List<Call> noteCalls(int s, int d) {
        return List.of(
            new Call("note", (x, a) -> x.note(a[0], a[1], a[2], a[3], a[4]), BAD, row(0, 0, 1, 0, 0), row(s, 5, 60, 99, 1)),
            new Call("craved", (x, a) -> x.craved(a[0]), BAD, row(0), row(s)),
            new Call("is", (x, a) -> x.is(a[0]), BAD, row(0), row(s)),
            new Call("tryNext", (x, a) -> x.tryNext(a[0], a[1], a[2]), BAD, row(0, 1, 0), row(s, 60, 99)),
            new Call("rain", (x, a) -> x.rain(a[0], a[1], a[2]), BAD, row(0, 0, 0), row(d, 10, 8)),
            new Call("sieges", (x, a) -> x.sieges(a[0], a[1]), BAD, row(0, 0), row(999999, 60)));
    }

    /** One number at or beyond its bounds, the others between theirs. */
    private static void bounds(Call call, int size) {
        CHECK.part(call.name + " in town " + size);
        boolean none = false;
        int[] between = new int[call.low.length];
        for (int i = 0; i < between.length; i++) {
            none = none || call.low[i] > call.high[i];
            // Half of each first: the sum of both could run over.
            between[i] = Math.max(call.low[i], call.low[i] / 2 + call.high[i] / 2);
        }
        for (int i = 0; i < between.length; i++) {
            beyond(call, size, with(between, i, Integer.MIN_VALUE));
            beyond(call, size, with(between, i, call.low[i] - 1));
            if (call.high[i] < Integer.MAX_VALUE) {
                beyond(call, size, with(between, i, call.high[i] + 1));
                beyond(call, size, with(between, i, Integer.MAX_VALUE));
            }
            if (none) {
                beyond(call, size, with(between, i, call.low[i]));
            } else {
                within(call, size, with(between, i, call.low[i]));
                within(call, size, with(between, i, call.high[i]));
            }
        }
    }

    private static int[] with(int[] numbers, int i, int value) {
        int[] a = numbers.clone();
        a[i] = value;
        return a;
    }

    private static void beyond(Call call, int size, int[] a) {
        refused(call.told(a), call, town(size), town(size), a, call.refusal, IS_BAD);
    }

    /** At its bounds a number is not BAD; that there is no room, or no image, is another matter. */
    private static void within(Call call, int size, int[] a) {
        KitchenSiege x = town(size);
        int[] before = Towns.status(x);
        boolean noRoom = size == ALL_FULL && List.of("street", "dish", "type", "note").contains(call.name);
        boolean noImage = size == EMPTY && call.name.equals("from");
        long answer = call.ask.of(x, a);
        if (noRoom || noImage) {
            CHECK.due(call.told(a), answer, noRoom ? FULL : NO);
        } else {
            CHECK.holds(call.told(a) + " is not refused by " + answer, answer > BAD || answer == -5);
        }
        status("behind " + call.told(a), x, before, noRoom ? IS_FULL : noImage ? IS_NO : IS_NONE_OF_THEM);
    }

    /** The call is refused by the first town; the second is a like one that is not asked. */
    private static void refused(String told, Call call, KitchenSiege x, KitchenSiege like, int[] a, long answer, int which) {
        int[] before = Towns.status(x);
        CHECK.due(told, call.ask.of(x, a), answer);
        status("behind " + told, x, before, which);
        CHECK.due("all else behind " + told, Towns.seen(x), Towns.seen(like));
    }

    private static void status(String when, KitchenSiege x, int[] before, int which) {
        for (int i = 0; i < 3; i++) {
            CHECK.due("STATUS " + i + " " + when, x.status(i), before[i] + (i == which ? 1 : 0));
        }
    }

    /** What is refused so in a town made by some calls, again and again. */
    private static void refusedAgain(String told, Ask made, Ask ask, long answer, int which) {
        Call call = new Call(told, ask, answer, row(), row());
        KitchenSiege x = new KitchenSiege();
        KitchenSiege like = new KitchenSiege();
        made.of(x, row());
        made.of(like, row());
        for (int i = 0; i < 3; i++) {
            int[] before = Towns.status(x);
            CHECK.due(told + ", " + i, ask.of(x, row()), answer);
            status("behind " + told + ", " + i, x, before, which);
        }
        refused(told, call, x, like, row(), answer, which);
    }

    private static long streets(KitchenSiege x, int n) {
        for (int i = 0; i < n; i++) {
            x.street(0, 0, 0);
        }
        return n;
    }

    private static long days(KitchenSiege x, int n) {
        for (int i = 0; i < n; i++) {
            x.day(-1);
        }
        return n;
    }

    private static void noLane() {
        CHECK.part("Promise 4: NO: there is one");
        Ask made = (x, a) -> streets(x, 8) + x.lane(0, 7) + x.lane(3, 2);
        refusedAgain("the first and the last", made, (x, a) -> x.lane(0, 7), NO, IS_NO);
        refusedAgain("the other way about", made, (x, a) -> x.lane(7, 0), NO, IS_NO);
        refusedAgain("beside one another", made, (x, a) -> x.lane(2, 3), NO, IS_NO);
        refusedAgain("told by a text", (x, a) -> Towns.readOf(x, "town;street 0 0 0;street 0 0 0;lane 0 1;"),
            (x, a) -> x.lane(1, 0), NO, IS_NO);
        refusedAgain("alike", made, (x, a) -> x.lane(7, 7), BAD, IS_BAD);
        refusedAgain("alike, the first", made, (x, a) -> x.lane(0, 0), BAD, IS_BAD);
        refusedAgain("alike and not there", made, (x, a) -> x.lane(8, 8), BAD, IS_BAD);
    }

    private static void noUndo() {
        CHECK.part("Promise 12: NO: none may be");
        Ask undo = (x, a) -> x.undo();
        refusedAgain("no day", (x, a) -> 0, undo, NO, IS_NO);
        refusedAgain("one undone", (x, a) -> days(x, 1) + x.undo(), undo, NO, IS_NO);
        refusedAgain("eight of nine undone", (x, a) -> {
            long n = days(x, 9);
            for (int i = 0; i < 8; i++) {
                n += x.undo();
            }
            return n;
        }, undo, NO, IS_NO);
        refusedAgain("behind a street", (x, a) -> days(x, 2) + x.street(0, 0, 0), undo, NO, IS_NO);
        refusedAgain("behind a town", (x, a) -> days(x, 2) + x.town(), undo, NO, IS_NO);
        refusedAgain("behind a reading", (x, a) -> days(x, 2) + Towns.readOf(x, "town;"), undo, NO, IS_NO);
        refusedAgain("an image of none", (x, a) -> x.image(1) + days(x, 2) + x.from(1), undo, NO, IS_NO);
    }

    private static void noImage() {
        CHECK.part("Promise 31: NO: none was kept");
        refusedAgain("0, none", (x, a) -> 0, (x, a) -> x.from(0), NO, IS_NO);
        refusedAgain("1, none", (x, a) -> 0, (x, a) -> x.from(1), NO, IS_NO);
        refusedAgain("0, but 1", (x, a) -> x.image(1), (x, a) -> x.from(0), NO, IS_NO);
        refusedAgain("1, but 0", (x, a) -> x.image(0), (x, a) -> x.from(1), NO, IS_NO);
        refusedAgain("2, both", (x, a) -> x.image(0) + x.image(1), (x, a) -> x.from(2), BAD, IS_BAD);
    }

    private static void full() {
        CHECK.part("FULL");
        Ask made = (x, a) -> fill(x);
        refusedAgain("a 9th street", made, (x, a) -> x.street(5, 9, 5), FULL, IS_FULL);
        refusedAgain("a 7th dish", made, (x, a) -> x.dish(5, 30, 9), FULL, IS_FULL);
        refusedAgain("a 151st byte", made, (x, a) -> x.type(';'), FULL, IS_FULL);
        refusedAgain("a 7th note", made, (x, a) -> x.note(7, 5, 60, 99, 1), FULL, IS_FULL);
        KitchenSiege x = new KitchenSiege();
        fill(x);
        x.clear();
        x.town();
        int[] before = Towns.status(x);
        CHECK.due("emptied, a street", x.street(0, 0, 0), 0);
        CHECK.due("emptied, a dish", x.dish(0, 1, 0), 0);
        CHECK.due("emptied, a byte", x.type(';'), 1);
        CHECK.due("emptied, a note", x.note(0, 0, 1, 0, 0), 1);
        status("of what was emptied", x, before, IS_NONE_OF_THEM);
    }

    private static long fill(KitchenSiege x) {
        streets(x, 8);
        for (int i = 0; i < 6; i++) {
            x.dish(i, 1 + i, i);
            x.note(i, i, 1 + i, i, i % 2);
        }
        for (int i = 0; i < 150; i++) {
            x.type(i < 5 ? "town;".charAt(i) : ' ');
        }
        CHECK.due("none is refused of as many as may be", x.status(2), 0);
        return x.count(0);
    }

    /** "Refused, .. the first of: BAD .. NO .. FULL". */
    private static void badIsFirst() {
        CHECK.part("the first of BAD, NO, FULL");
        Ask made = (x, a) -> fill(x) + x.lane(0, 1);
        refusedAgain("street, BAD and FULL", made, (x, a) -> x.street(6, 0, 0), BAD, IS_BAD);
        refusedAgain("street, its wall", made, (x, a) -> x.street(0, 10, 0), BAD, IS_BAD);
        refusedAgain("street, its craving", made, (x, a) -> x.street(0, 0, -1), BAD, IS_BAD);
        refusedAgain("dish, BAD and FULL", made, (x, a) -> x.dish(0, 0, 0), BAD, IS_BAD);
        refusedAgain("dish, its smell", made, (x, a) -> x.dish(-1, 1, 0), BAD, IS_BAD);
        refusedAgain("dish, its butter", made, (x, a) -> x.dish(0, 1, 10), BAD, IS_BAD);
        refusedAgain("type, BAD and FULL", made, (x, a) -> x.type(128), BAD, IS_BAD);
        refusedAgain("note, BAD and FULL", made, (x, a) -> x.note(0, 0, 1, 100, 0), BAD, IS_BAD);
        refusedAgain("note, its street", made, (x, a) -> x.note(8, 0, 1, 0, 0), BAD, IS_BAD);
        refusedAgain("from, BAD and none kept", (x, a) -> 0, (x, a) -> x.from(-1), BAD, IS_BAD);
        refusedAgain("all numbers are not as told: it counts once", made, (x, a) -> x.note(-1, 6, 0, 100, 2), BAD, IS_BAD);
    }

    private static void neverRefused(int size) {
        CHECK.part("no refusal in town " + size);
        List<Ask> asks = List.of((x, a) -> x.town(), (x, a) -> x.clear(), (x, a) -> x.read(), (x, a) -> x.never(),
            (x, a) -> x.least(), (x, a) -> x.forget(), (x, a) -> x.digest());
        for (int i = 0; i < asks.size(); i++) {
            KitchenSiege x = town(size);
            int[] before = Towns.status(x);
            asks.get(i).of(x, row());
            asks.get(i).of(x, row());
            status("behind call " + i, x, before, IS_NONE_OF_THEM);
        }
    }

    /** Answers below 0 that are no refusals. */
    private static void noneOfThem() {
        CHECK.part("STATUS: each answer told so is such a one, others are not");
        KitchenSiege x = new KitchenSiege();
        CHECK.due("answer of a read fault", x.read(), -10);
        x.street(0, 9, 0);
        x.dish(1, 1, 0);
        CHECK.due("of: NONE", x.of(0, 3), -1);
        CHECK.due("falls: NONE", x.falls(0, 0), -1);
        CHECK.due("order: NONE", x.order(0, 0), -1);
        CHECK.due("least: NONE", x.least(), -1);
        x.dish(1, 30, 0);
        CHECK.due("order: -5", x.order(0, 1), -5);
        x.day(1);
        CHECK.due("answer: NONE", x.answer(0, 0, 0), -1);
        x.note(0, 0, 1, 0, 1);
        CHECK.due("tryNext: NONE", x.tryNext(0, 1, 0), -1);
        status("behind these", x, row(0, 0, 0), IS_NONE_OF_THEM);
    }
}
