import java.math.BigInteger;
import java.util.ArrayList;
import java.util.List;

/**
 * What is undone, images, STATUS, THE FRACTION, what there is, and the digest: each sentence of the
 * document that names a boundary case, by a test of its own, with answers worked by hand.
 */
public final class StateEdgeTest {
    private static final int NONE = -1, BAD = -2, NO = -3, FULL = -4, BAD_TEN = -10;
    private static final int PLAIN = 0, HOMESICK = 5;
    private static final Check CHECK = new Check();
    private static KitchenSiege x;

    private StateEdgeTest() {
    }

    public static void main(String[] args) {
        undo();
        images();
        status();
        fraction();
        whatThereIs();
        digests();
        CHECK.end();
    }

    private static void undo() {
        nothingToUndo();
        theFirstDay();
        eightAtMost();
        undoneAndDoneAgain();
        whatIsUndone();
        whatIsNot();
        behindAStreet();
        refusedDays();
    }

    private static void images() {
        twoImages();
        ofAnEmptyTown();
        ofAFullTown();
        keepWhatMayBeUndone();
        goesOnAlone();
        keepNoText();
        keptAgain();
        outliveATown();
    }

    private static void status() {
        statusAtFirst();
        statusOfAll();
        statusOfStatus();
        statusIsKept();
    }

    private static void fraction() {
        fractionAtFirst();
        lowestTerms();
        fractionStays();
    }

    private static void whatThereIs() {
        ofAStreet();
        howMany();
        lastCall();
    }

    private static void digests() {
        digestOfNone();
        digestOfAll();
        digestOfEach();
    }

    private static void sentence(String words) {
        CHECK.part(words);
        x = new KitchenSiege();
    }

    private static void due(String call, long got, long want) {
        CHECK.due(call, got, want);
    }

    private static void days(int n) {
        for (int i = 0; i < n; i++) {
            x.day(NONE);
        }
    }

    private static void nothingToUndo() {
        sentence("NO: none may be");
        due("a new town", x.undo(), NO);
        due("how many may be", x.count(5), 0);
        due("the day", x.count(2), 0);
        due("STATUS", x.status(1), 1);
        days(1);
        due("a day", x.undo(), 0);
        due("not twice", x.undo(), NO);
        due("the day", x.count(2), 0);
        due("STATUS", x.status(1), 2);
    }

    private static void theFirstDay() {
        sentence("UNDO: .. as ahead of the last DAY: the first");
        x.street(PLAIN, 0, 5);
        x.dish(1, 10, 0);
        long digest = x.digest();
        due("it opens", x.day(0), 1);
        due("one may be", x.count(5), 1);
        due("the day then", x.undo(), 0);
        due("all as ahead", x.digest(), digest);
        due("it opens again", x.day(0), 1);
    }

    private static void eightAtMost() {
        sentence("UNDO: 8 at most");
        for (int i = 1; i <= 12; i++) {
            x.day(NONE);
            due("behind " + i + " days", x.count(5), i < 8 ? i : 8);
        }
        for (int i = 1; i <= 8; i++) {
            due("undo " + i, x.undo(), 12 - i);
            due("may be", x.count(5), 8 - i);
        }
        due("a ninth", x.undo(), NO);
        due("the day", x.count(2), 4);
    }

    private static void undoneAndDoneAgain() {
        sentence("UNDO: 8 at most: the oldest go as new ones come");
        x.street(HOMESICK, 0, 5);
        x.dish(1, 2, 0);
        x.dish(2, 2, 0);
        int[] smells = new int[40];
        int[] onEnd = new int[40];
        int day = 0;
        for (int round = 0; round < 3; round++) {
            for (int i = 0; i < 11; i++) {
                smells[day] = x.of(0, 4);
                onEnd[day] = x.of(0, 5);
                x.day((day + round) / 2 % 3 - 1);
                day++;
            }
            for (int i = 0; i < 8; i++) {
                day--;
                due("undo", x.undo(), day);
                due("the smell ahead of day " + day, x.of(0, 4), smells[day]);
                due("its days ahead of day " + day, x.of(0, 5), onEnd[day]);
            }
            due("no more", x.undo(), NO);
        }
    }

    private static void whatIsUndone() {
        sentence("which STREETS are open, since when, what was smelt, the DAY as ahead of the last DAY");
        x.street(PLAIN, 0, 5);
        x.street(PLAIN, 0, 5);
        x.lane(0, 1);
        x.dish(1, 10, 0);
        x.dish(2, 12, 0);
        x.day(0);
        x.day(0);
        due("opens the other", x.day(1), 2);
        due("its day", x.of(1, 3), 2);
        due("another smell", x.of(0, 4), 2);
        due("undo", x.undo(), 2);
        due("the other is shut", x.of(1, 3), NONE);
        due("the first is open", x.of(0, 3), 0);
        due("smell 1 again", x.of(0, 4), 1);
        due("on two days", x.of(0, 5), 2);
        due("the day", x.count(2), 2);
        due("one is open", x.count(3), 1);
        x.undo();
        due("on one day", x.of(0, 5), 1);
        due("still open", x.of(0, 3), 0);
        x.undo();
        due("shut", x.of(0, 3), NONE);
        due("no smell", x.of(0, 4), NONE);
        due("on none", x.of(0, 5), 0);
    }

    private static void whatIsNot() {
        sentence("UNDO: no more than that is as ahead");
        x.street(PLAIN, 0, 5);
        x.street(PLAIN, 0, 5);
        x.dish(1, 10, 0);
        x.day(0);
        x.lane(0, 1);
        x.gate(3, 1);
        x.wind(3, 0);
        x.dish(2, 3, 4);
        x.note(0, 1, 2, 3, 0);
        x.type('a');
        x.rain(0, 5, 0);
        due("undo", x.undo(), 0);
        due("the lane", x.lane(0, 1), NO);
        due("the gate", x.gate(3, 1), 1);
        due("the wind", x.wind(3, 0), 0);
        due("the dishes", x.count(1), 2);
        due("the notes", x.count(4), 1);
        due("the text", x.count(6), 1);
        due("the fraction", x.part(0), 1);
        due("the streets", x.count(0), 2);
    }

    private static void behindAStreet() {
        sentence("behind a STREET that comes none may be");
        days(9);
        x.street(PLAIN, 0, 5);
        due("none", x.count(5), 0);
        due("none", x.undo(), NO);
        due("the day stays", x.count(2), 9);
        days(1);
        due("one that came behind it", x.undo(), 9);
        due("but no other", x.undo(), NO);
        days(2);
        due("a bad street", x.street(6, 0, 0), BAD);
        due("does not count", x.count(5), 2);
        for (int i = 1; i < 8; i++) {
            x.street(PLAIN, 0, 5);
        }
        days(2);
        due("a ninth street", x.street(PLAIN, 0, 5), FULL);
        due("does not count", x.count(5), 2);
        due("undo", x.undo(), 10 + 2);
    }

    private static void refusedDays() {
        sentence("A DAY that is refused is none to undo");
        due("no dish", x.day(0), BAD);
        due("none may be", x.count(5), 0);
        x.dish(1, 1, 0);
        due("behind the last dish", x.day(1), BAD);
        due("-2", x.day(-2), BAD);
        due("none may be", x.undo(), NO);
        due("a day of none is one", x.day(NONE), 0);
        due("it may be", x.undo(), 0);
    }

    private static void twoImages() {
        sentence("IMAGES 0, 1");
        due("-1", x.image(-1), BAD);
        due("2", x.image(2), BAD);
        due("none was kept of 0", x.from(0), NO);
        due("none was kept of 1", x.from(1), NO);
        due("1 is kept", x.image(1), 1);
        due("none was kept of 0", x.from(0), NO);
        due("from 1", x.from(1), 1);
        x.street(PLAIN, 0, 5);
        due("0 is kept", x.image(0), 1);
        due("from 1", x.from(1), 1);
        due("no street", x.count(0), 0);
        due("from 0", x.from(0), 1);
        due("one street", x.count(0), 1);
        due("from -1", x.from(-1), BAD);
        due("from 2", x.from(2), BAD);
        due("one street", x.count(0), 1);
    }

    private static void ofAnEmptyTown() {
        sentence("it goes on from one: of an empty town");
        x.image(0);
        long digest = x.digest();
        x.street(PLAIN, 3, 5);
        x.street(PLAIN, 3, 5);
        x.lane(0, 1);
        x.gate(2, 1);
        x.wind(1, 0);
        x.dish(1, 30, 0);
        x.note(0, 0, 1, 0, 0);
        x.day(0);
        due("from", x.from(0), 1);
        due("all as it was", x.digest(), digest);
        due("undo", x.undo(), NO);
        x.street(PLAIN, 0, 5);
        x.street(PLAIN, 0, 5);
        due("no lane", x.lane(0, 1), 1);
        due("shut", x.of(0, 3), NONE);
        due("the gate", x.gate(2, 0), 0);
    }

    private static void ofAFullTown() {
        sentence("IMAGES keep all: of a full town");
        x = Towns.full();
        KitchenSiege like = Towns.full();
        x.image(0);
        like.image(0);
        x.town();
        for (int i = 0; i < 8; i++) {
            x.street(5 - i % 6, 9 - i, i % 6);
        }
        for (int i = 0; i < 6; i++) {
            x.dish(5 - i, 30 - i, i);
            x.note(7 - i, 5 - i, 60 - i, 99 - i, 1);
        }
        for (int i = 0; i < 9; i++) {
            x.day(i % 6);
        }
        due("from", x.from(0), 1);
        due("all as it was", Towns.seen(x), Towns.seen(like));
    }

    private static void keepWhatMayBeUndone() {
        sentence("what may be undone they keep");
        x.street(PLAIN, 0, 5);
        x.dish(1, 10, 0);
        x.day(NONE);
        x.day(0);
        for (int i = 0; i < 7; i++) {
            x.day(NONE);
        }
        x.image(0);
        due("eight", x.count(5), 8);
        x.street(PLAIN, 0, 5);
        days(3);
        x.from(0);
        due("eight again", x.count(5), 8);
        for (int i = 8; i >= 1; i--) {
            due("undo to " + i, x.undo(), i);
        }
        due("it is shut", x.of(0, 3), NONE);
        due("no more", x.undo(), NO);
        x.from(0);
        due("and again", x.undo(), 8);
    }

    private static void goesOnAlone() {
        sentence("it goes on from one: the image stays as it was");
        x.street(HOMESICK, 0, 5);
        x.dish(1, 14, 0);
        x.day(0);
        x.image(0);
        long digest = x.digest();
        x.undo();
        x.from(0);
        x.day(0);
        due("11", x.day(0), 1);
        x.from(0);
        due("as it was", x.digest(), digest);
        due("7, 9", x.day(0), 0);
        x.image(1);
        x.from(0);
        due("7", x.of(0, 5), 1);
        x.from(1);
        due("9", x.of(0, 5), 2);
        x.undo();
        x.undo();
        x.from(1);
        due("the undone day is in the image", x.undo(), 1);
    }

    private static void keepNoText() {
        sentence("IMAGES keep all but them, THE TEXT, THE FRACTION and STATUS");
        x.dish(1, 30, 0);
        Towns.type(x, "town;");
        x.rain(0, 0, 1);
        x.image(0);
        x.street(PLAIN, 0, 5);
        x.rain(0, 5, 1);
        x.type('a');
        x.day(9);
        x.undo();
        x.image(1);
        due("from", x.from(0), 1);
        due("no street", x.count(0), 0);
        due("six bytes", x.count(6), 6);
        due("above", x.part(0), 1);
        due("below", x.part(1), 2);
        due("bads", x.status(0), 1);
        due("noes", x.status(1), 1);
        due("the other is kept", x.from(1), 1);
        due("one street", x.count(0), 1);
    }

    private static void keptAgain() {
        sentence("An IMAGE is kept: in the place of the one ahead");
        days(9);
        x.image(0);
        x.town();
        x.street(PLAIN, 0, 5);
        x.image(0);
        x.from(0);
        due("day 0", x.count(2), 0);
        due("one street", x.count(0), 1);
        due("nothing to undo", x.undo(), NO);
    }

    private static void outliveATown() {
        sentence("town, read: all but IMAGES");
        days(3);
        x.image(0);
        days(2);
        x.image(1);
        x.town();
        due("from 0", x.from(0), 1);
        due("day 3", x.count(2), 3);
        due("read", Towns.readOf(x, "town;"), 1);
        due("from 1", x.from(1), 1);
        due("day 5", x.count(2), 5);
    }

    private static void statusAre(String when, int bads, int noes, int fulls) {
        due("BAD " + when, x.status(0), bads);
        due("NO " + when, x.status(1), noes);
        due("FULL " + when, x.status(2), fulls);
    }

    private static void statusAtFirst() {
        sentence("STATUS: how many calls were refused as BAD, NO, FULL: none");
        statusAre("at first", 0, 0, 0);
        statusAre("to ask is none", 0, 0, 0);
        x.digest();
        x.count(6);
        statusAre("nor is this", 0, 0, 0);
    }

    private static void statusOfAll() {
        sentence("each answer told so below is such a one");
        due("BAD", x.type(128), BAD);
        statusAre("behind one", 1, 0, 0);
        due("-10", x.of(0, 0), BAD_TEN);
        statusAre("behind -10 of of", 2, 0, 0);
        due("-10", x.order(0, 0), BAD_TEN);
        statusAre("behind -10 of order", 3, 0, 0);
        due("BAD of a long", x.part(2), BAD);
        statusAre("behind a long", 4, 0, 0);
        due("NO", x.undo(), NO);
        statusAre("behind NO", 4, 1, 0);
        due("NO", x.from(0), NO);
        statusAre("behind NO", 4, 2, 0);
        due("-10 less 0", x.read(), -10);
        statusAre("behind a fault", 4, 2, 0);
        for (int i = 0; i < 7; i++) {
            x.dish(1, 1, 1);
        }
        statusAre("behind FULL", 4, 2, 1);
        due("count", x.count(7), BAD);
        statusAre("behind count", 5, 2, 1);
    }

    private static void statusOfStatus() {
        sentence("STATUS: -1: another what (counts as BAD)");
        due("-1", x.status(-1), -1);
        statusAre("behind one", 1, 0, 0);
        due("3", x.status(3), -1);
        due("the greatest", x.status(Integer.MAX_VALUE), -1);
        due("the least", x.status(Integer.MIN_VALUE), -1);
        statusAre("behind four", 4, 0, 0);
    }

    private static void statusIsKept() {
        sentence("STATUS stays behind town, read, from, forget, clear, undo");
        x.image(0);
        x.image(2);
        x.undo();
        for (int i = 0; i < 9; i++) {
            x.street(0, 0, 0);
        }
        x.town();
        statusAre("behind town", 1, 1, 1);
        Towns.readOf(x, "town;");
        statusAre("behind read", 1, 1, 1);
        x.from(0);
        statusAre("behind from", 1, 1, 1);
        x.forget();
        x.clear();
        x.day(NONE);
        x.undo();
        statusAre("behind all", 1, 1, 1);
    }

    private static void fractionAtFirst() {
        sentence("THE FRACTION is 0 by 1 at first");
        due("above", x.part(0), 0);
        due("below", x.part(1), 1);
        due("part -1", x.part(-1), BAD);
        due("part 2", x.part(2), BAD);
    }

    private static void rain(int c, int n, long above, long below) {
        due("rain " + c + ", " + n, x.rain(0, c, n), 1);
        due("above of " + c + ", " + n, x.part(0), above);
        due("below of " + c + ", " + n, x.part(1), below);
    }

    private static void lowestTerms() {
        sentence("lowest terms, below above 0");
        x.street(PLAIN, 0, 5);
        x.dish(1, 10, 0);
        long[] above = {1, 9, 4, 7, 3, 1, 2, 3, 1, 1, 0};
        long[] below = {1, 10, 5, 10, 5, 2, 5, 10, 5, 10, 1};
        for (int c = 0; c <= 10; c++) {
            rain(c, 1, above[c], below[c]);
        }
        rain(10, 0, 1, 1);
        rain(0, 2, 0, 1);
    }

    private static void fractionStays() {
        sentence("THE FRACTION stays but for RAIN");
        x.street(PLAIN, 0, 5);
        x.dish(1, 10, 0);
        rain(4, 1, 3, 5);
        due("a bad rain", x.rain(0, 4, 9), BAD);
        due("a bad rain", x.rain(1, 4, 1), BAD);
        due("a bad rain", x.rain(0, 11, 1), BAD);
        x.town();
        Towns.readOf(x, "town;");
        x.day(NONE);
        x.undo();
        due("above", x.part(0), 3);
        due("below", x.part(1), 5);
    }

    private static void ofAStreet() {
        sentence("Of a STREET: what 0 .. 5; BAD: -10");
        due("no street", x.of(0, 0), BAD_TEN);
        x.street(5, 9, 4);
        int[] want = {5, 9, 4, NONE, NONE, 0};
        for (int what = 0; what < want.length; what++) {
            due("what " + what, x.of(0, what), want[what]);
        }
        due("what -1", x.of(0, -1), BAD_TEN);
        due("what 6", x.of(0, 6), BAD_TEN);
        due("street -1", x.of(-1, 0), BAD_TEN);
        due("street 1", x.of(1, 0), BAD_TEN);
        x.dish(0, 29, 0);
        due("10 and nothing ahead", x.day(0), 1);
        int[] then = {5, 9, 4, 0, 0, 1};
        for (int what = 0; what < then.length; what++) {
            due("then, what " + what, x.of(0, what), then[what]);
        }
    }

    private static void howMany() {
        sentence("How many: 0 STREETS .. 6 bytes of THE TEXT");
        int[] none = {0, 0, 0, 0, 0, 0, 0};
        int[] all = {8, 6, 10, 0, 6, 8, 150};
        KitchenSiege full = Towns.full();
        all[3] = openOf(full);
        CHECK.holds("some are open, some are shut", all[3] > 0 && all[3] < 8);
        for (int what = 0; what <= 6; what++) {
            due("count " + what + " of none", x.count(what), none[what]);
            due("count " + what + " of a full town", full.count(what), all[what]);
        }
        due("-1", x.count(-1), BAD);
        due("7", x.count(7), BAD);
        due("STATUS", x.status(0), 2);
    }

    private static int openOf(KitchenSiege full) {
        int open = 0;
        for (int street = 0; street < 8; street++) {
            open += full.of(street, 3) == NONE ? 0 : 1;
        }
        return open;
    }

    /** The digest of these values, reckoned without running over and cut to 64 bits at the end. */
    private static long digestOf(List<Long> values) {
        BigInteger h = BigInteger.valueOf(1069);
        for (long v : values) {
            h = h.multiply(BigInteger.valueOf(31)).add(BigInteger.valueOf(v));
        }
        return h.longValue();
    }

    private static void put(List<Long> values, long... more) {
        for (long v : more) {
            values.add(v);
        }
    }

    private static void lastCall() {
        sentence("An object is used for at most 512 calls");
        x.street(PLAIN, 0, 5);
        x.dish(1, 10, 0);
        days(508);
        due("call 511", x.day(0), 1);
        due("call 512", x.of(0, 3), 508);
    }

    private static void digestOfNone() {
        sentence("h = 1069; then h = 31 h + v for each v: a new object");
        List<Long> v = new ArrayList<>();
        put(v, 0, 0, 0, 0, 0, 0, 0);
        put(v, new long[28]);
        put(v, 0, 0, 0, 0, 0, 1, 2, 3, 0, 1);
        due("digest", x.digest(), digestOf(v));
        x.day(9);
        x.undo();
        x.street(6, 0, 0);
        due("STATUS is not of it", x.digest(), digestOf(v));
        x.image(0);
        due("nor are IMAGES", x.digest(), digestOf(v));
    }

    private static void digestOfAll() {
        sentence("h = 31 h + v for each v: a full town, h runs over");
        x = Towns.full();
        List<Long> v = new ArrayList<>();
        for (int what = 0; what <= 6; what++) {
            put(v, x.count(what));
        }
        for (int i = 0; i < 8; i++) {
            put(v, i % 6, i % 4, 5 - i % 6, x.of(i, 3), x.of(i, 4), x.of(i, 5));
        }
        for (int a = 0; a < 8; a++) {
            for (int b = a + 1; b < 8; b++) {
                put(v, a >= 4 && b == a + 1 || a == 0 && b == 7 ? 1 : 0);
            }
        }
        put(v, 0, 2, 4, 6, 3, 2, 1, 0);
        for (int i = 0; i < 6; i++) {
            put(v, i, 5 + 5 * i, 9 - i);
        }
        for (int i = 0; i < 6; i++) {
            put(v, i, i, 10 * (i + 1), 19 * i, i % 2);
        }
        put(v, x.part(0), x.part(1));
        due("digest", x.digest(), digestOf(v));
        due("again", x.digest(), digestOf(v));
    }

    private static void digestOfEach() {
        sentence("digest: each thing that is told of it changes it");
        List<Long> digests = new ArrayList<>();
        digests.add(x.digest());
        x.street(PLAIN, 0, 0);
        digests.add(x.digest());
        x.street(1, 2, 3);
        digests.add(x.digest());
        x.lane(0, 1);
        digests.add(x.digest());
        x.gate(3, 1);
        digests.add(x.digest());
        x.wind(0, 3);
        digests.add(x.digest());
        x.dish(0, 1, 0);
        digests.add(x.digest());
        x.note(0, 0, 1, 0, 0);
        digests.add(x.digest());
        x.day(NONE);
        digests.add(x.digest());
        x.day(0);
        digests.add(x.digest());
        x.type(0);
        digests.add(x.digest());
        x.rain(0, 0, 0);
        digests.add(x.digest());
        for (int i = 0; i < digests.size(); i++) {
            due("none is as another", digests.lastIndexOf(digests.get(i)), i);
        }
    }
}
