/** Each promise of the document by ordinary calls, the edges that it names, and wrong calls; answers worked by hand. */
public final class PromiseTest {
    private static final int NONE = -1, BAD = -2, NO = -3, FULL = -4, BAD_TEN = -10;
    private static final Check CHECK = new Check();
    private static KitchenSiege x;

    private PromiseTest() {
    }

    public static void main(String[] args) {
        constants();
        promises1To10();
        promises11To21();
        promises22To28();
        promises29To34();
        CHECK.end();
    }

    private static void promises1To10() {
        begin(1); newObject();
        begin(2); town();
        begin(3); street();
        begin(4); lane();
        begin(5); gate();
        begin(6); wind();
        begin(7); dish();
        begin(8); type();
        begin(9); clear();
        begin(10); read();
        begin(10); readFaults();
        begin(10); readTakesThePlace();
    }

    private static void promises11To21() {
        begin(11); day();
        begin(11); dayOfKinds();
        begin(12); undo();
        begin(12); undoKeepsTheRest();
        begin(13); of();
        begin(14); smells();
        begin(15); moved();
        begin(15); movedByKinds();
        begin(16); falls();
        begin(16); fallsAnew();
        begin(17); order();
        begin(17); orderOfTies();
        begin(17); orderByDays();
        begin(18); never();
        begin(19); least();
        begin(19); leastByDays();
        begin(20); answer();
        begin(21); game();
    }

    private static void promises22To28() {
        begin(22); note();
        begin(23); forget();
        begin(24); craved();
        begin(25); is();
        begin(26); tryNext();
        begin(27); rain();
        begin(28); sieges();
        begin(28); siegesAsDays();
    }

    private static void promises29To34() {
        begin(29); part();
        begin(30); image();
        begin(31); from();
        begin(31); fromAnotherTown();
        begin(32); status();
        begin(33); count();
        begin(34); digest();
    }

    private static void begin(int promise) {
        CHECK.part("promise " + promise);
        x = new KitchenSiege();
    }

    private static void due(String call, long got, long want) {
        CHECK.due(call, got, want);
    }

    private static void type(String text) {
        for (int i = 0; i < text.length(); i++) {
            x.type(text.charAt(i));
        }
    }

    private static int readOf(String text) {
        x.clear();
        type(text);
        return x.read();
    }

    /** Three streets in a row, each open to smells as told, wall 0, by lanes 0-1-2. */
    private static void threeInARow(int kind0, int kind1, int kind2) {
        x.street(kind0, 0, 5);
        x.street(kind1, 0, 5);
        x.street(kind2, 0, 5);
        x.lane(0, 1);
        x.lane(1, 2);
    }

    private static void constants() {
        CHECK.part("constants");
        due("NONE", KitchenSiege.NONE, -1);
        due("BAD", KitchenSiege.BAD, -2);
        due("NO", KitchenSiege.NO, -3);
        due("FULL", KitchenSiege.FULL, -4);
    }

    private static void newObject() {
        for (int what = 0; what <= 6; what++) {
            due("count " + what, x.count(what), 0);
        }
        for (int what = 0; what <= 2; what++) {
            due("status " + what, x.status(what), 0);
        }
        due("part 0", x.part(0), 0);
        due("part 1", x.part(1), 1);
        due("undo", x.undo(), NO);
        due("from 0", x.from(0), NO);
        due("from 1", x.from(1), NO);
        due("wind 3", x.wind(3, 0), 3);
        due("street", x.street(0, 0, 0), 0);
        for (int w = 0; w < 4; w++) {
            due("gate " + w, x.gate(w, 0), 0);
        }
    }

    private static void town() {
        due("town, empty", x.town(), 0);
        threeInARow(0, 0, 0);
        x.dish(1, 20, 1);
        x.gate(2, 1);
        x.wind(0, 3);
        x.note(0, 0, 5, 0, 1);
        x.day(0);
        x.image(1);
        type("town");
        x.rain(0, 5, 1);
        x.day(9);
        due("town", x.town(), 3);
        due("streets", x.count(0), 0);
        due("dishes", x.count(1), 0);
        due("day", x.count(2), 0);
        due("open", x.count(3), 0);
        due("notes", x.count(4), 0);
        due("undone", x.count(5), 0);
        due("the text stays", x.count(6), 4);
        due("the fraction stays", x.part(0), 0);
        due("the status stays", x.status(0), 1);
        due("the wind is as at first", x.wind(0, 0), 0);
        due("a new street is shut", x.street(0, 0, 0), 0);
        due("since", x.of(0, 3), NONE);
        due("smelt", x.of(0, 4), NONE);
        due("a new street has no lanes", x.street(0, 0, 0) + x.lane(0, 1), 2);
        due("the gate is as at first", x.gate(2, 1), 0);
        due("the image stays", x.from(1), 1);
        due("and is whole", x.count(3), 3);
    }

    private static void street() {
        due("kind -1", x.street(-1, 0, 0), BAD);
        due("kind 6", x.street(6, 0, 0), BAD);
        due("wall -1", x.street(0, -1, 0), BAD);
        due("wall 10", x.street(0, 10, 0), BAD);
        due("craves -1", x.street(0, 0, -1), BAD);
        due("craves 6", x.street(0, 0, 6), BAD);
        due("none came", x.count(0), 0);
        for (int i = 0; i < 8; i++) {
            due("street " + i, x.street(i % 6, i + 2, 5 - i % 6), i);
        }
        due("the ninth", x.street(0, 0, 0), FULL);
        due("the ninth, bad", x.street(6, 0, 0), BAD);
        due("kind", x.of(7, 0), 1);
        due("wall", x.of(7, 1), 9);
        due("craves", x.of(7, 2), 4);
    }

    private static void lane() {
        due("none there", x.lane(0, 1), BAD);
        x.street(0, 0, 0);
        x.street(0, 0, 0);
        due("alike", x.lane(1, 1), BAD);
        due("not there", x.lane(0, 2), BAD);
        due("below", x.lane(-1, 0), BAD);
        due("a lane", x.lane(1, 0), 1);
        due("again", x.lane(1, 0), NO);
        due("the other way", x.lane(0, 1), NO);
        due("status", x.status(1), 2);
        x.dish(0, 20, 0);
        due("it goes by the lane", x.smells(0, 0, 1), 18);
    }

    private static void gate() {
        due("no street", x.gate(0, 0), BAD);
        x.street(0, 0, 0);
        x.street(0, 0, 0);
        due("wind 4", x.gate(4, 0), BAD);
        due("wind -1", x.gate(-1, 0), BAD);
        due("street 2", x.gate(0, 2), BAD);
        due("street -1", x.gate(0, -1), BAD);
        due("gate 3", x.gate(3, 1), 0);
        due("gate 3 again", x.gate(3, 0), 1);
        due("and back", x.gate(3, 1), 0);
        x.dish(0, 9, 0);
        due("the wind blows there", x.smells(0, 3, 1), 9);
        due("and not here", x.smells(0, 3, 0), 0);
    }

    private static void wind() {
        due("place 4", x.wind(4, 0), BAD);
        due("place -1", x.wind(-1, 0), BAD);
        due("wind 4", x.wind(0, 4), BAD);
        due("wind -1", x.wind(0, -1), BAD);
        for (int i = 0; i < 4; i++) {
            due("at first " + i, x.wind(i, 3 - i), i);
        }
        due("then", x.wind(1, 2), 2);
        x.street(0, 0, 5);
        x.street(0, 0, 5);
        x.gate(3, 1);
        x.dish(0, 9, 0);
        due("on day 0 wind 3", x.moved(0, 1), 9);
        x.day(NONE);
        due("on day 1 wind 2", x.moved(0, 1), 0);
        x.day(NONE);
        x.day(NONE);
        x.day(NONE);
        due("on day 4 wind 3 again", x.moved(0, 1), 9);
    }

    private static void dish() {
        due("smell -1", x.dish(-1, 1, 0), BAD);
        due("smell 6", x.dish(6, 1, 0), BAD);
        due("strong 0", x.dish(0, 0, 0), BAD);
        due("strong 31", x.dish(0, 31, 0), BAD);
        due("butter -1", x.dish(0, 1, -1), BAD);
        due("butter 10", x.dish(0, 1, 10), BAD);
        for (int i = 0; i < 6; i++) {
            due("dish " + i, x.dish(5 - i, 1 + 29 * (i % 2), 9 * (i % 2)), i);
        }
        due("the seventh", x.dish(0, 1, 0), FULL);
        due("the seventh, bad", x.dish(0, 0, 0), BAD);
        due("dishes", x.count(1), 6);
    }

    private static void type() {
        due("-1", x.type(-1), BAD);
        due("128", x.type(128), BAD);
        for (int i = 1; i <= 150; i++) {
            due("byte " + i, x.type(i % 2 == 0 ? 0 : 127), i);
        }
        due("one more", x.type(0), FULL);
        due("one more, bad", x.type(128), BAD);
        due("bytes", x.count(6), 150);
        due("fulls", x.status(2), 1);
        due("bads", x.status(0), 3);
    }

    private static void clear() {
        due("empty", x.clear(), 0);
        type("abc");
        due("three", x.clear(), 3);
        due("empty again", x.clear(), 0);
        due("from the start", x.type('t'), 1);
        type("own;");
        due("read", x.read(), 1);
    }

    private static void read() {
        due("town", readOf("town;"), 1);
        due("no streets", x.count(0), 0);
        due("all items", readOf("town;street 1 2 3;street 0 9 5;lane 1 0;gate 3 1;wind 2 0;dish 5 30 9;"), 7);
        due("kind", x.of(0, 0), 1);
        due("wall", x.of(0, 1), 2);
        due("craves", x.of(0, 2), 3);
        due("the lane is there", x.lane(0, 1), NO);
        due("gate", x.gate(3, 0), 1);
        due("wind", x.wind(2, 2), 0);
        due("strong", x.smells(0, 0, 0), 28);
        due("blanks", readOf("  town  ;  street   0   1  2 ;   "), 2);
        due("none between", readOf("town;street0 1 2;dish0 1 2;"), 3);
        due("two figures", readOf("town;street 00 09 05;dish 00 01 09;dish 5 30 00;"), 4);
        due("wall", x.of(0, 1), 9);
        due("a lane twice", readOf("town;street 0 0 0;street 0 0 0;lane 0 1;lane 1 0;"), 5);
        due("eight and six", readOf("town;street0 0 0;street0 0 0;street0 0 0;street0 0 0;street0 0 0;street0 0 0;"
            + "street0 0 0;street0 0 0;"), 9);
        due("streets", x.count(0), 8);
        due("six dishes", readOf("town;dish0 1 0;dish0 1 0;dish0 1 0;dish0 1 0;dish0 1 0;dish0 1 0;"), 7);
        due("the text stays", x.count(6), 65);
        due("read again", x.read(), 7);
    }

    private static void fault(String text, int place) {
        due("fault of '" + text + "'", readOf(text), -10 - place);
    }

    private static void readFaults() {
        x.street(0, 3, 0);
        fault("", 0);
        fault("   ", 3);
        fault("town", 4);
        fault("town  ", 6);
        fault("town;street", 11);
        fault("town;street 0", 13);
        fault("town;street 0 0 0 ", 18);
        fault("town;street 0 0 0", 17);
        fault("street 0 0 0;", 0);
        fault("lane 0 1;", 0);
        fault("gate 0 0;", 0);
        fault("wind 0 0;", 0);
        fault("dish 0 1 0;", 0);
        fault("zown;", 0);
        fault("townz;", 0);
        fault("towm;", 0);
        fault(";", 0);
        fault("7", 0);
        fault(" 123", 1);
        fault("tow;", 0);
        fault("towns;", 0);
        fault("Town;", 0);
        fault("townA", 4);
        fault("to wn;", 0);
        fault("town town;", 5);
        fault("town;town;", 5);
        fault("town;street 0 0 0;town;", 18);
        fault("town 1;", 5);
        fault("town;;", 5);
        fault("town;5", 5);
        fault("town;str", 5);
        fault("town;street 6 0 0;", 12);
        fault("town;street 0 10 0;", 14);
        fault("town;street 0 0 6;", 16);
        fault("town;street 0 007 0;", 14);
        fault("town;street 0 0 000;", 16);
        fault("town;street 0 0;", 15);
        fault("town;street 0 0 0 0;", 18);
        fault("town;street 0 -1 0;", 14);
        fault("town;street 0 wall 0;", 14);
        fault("town;lane 0 1;", 10);
        fault("town;street 0 0 0;lane 0 1;", 25);
        fault("town;street 0 0 0;lane 0 0;", 25);
        fault("town;street 0 0 0;lane 1 0;", 23);
        fault("town;street 0 0 0;lane 0", 24);
        fault("town;gate 0 0;", 12);
        fault("town;gate 4 0;", 10);
        fault("town;wind 4 0;", 10);
        fault("town;wind 0 4;", 12);
        fault("town;wind 0 3", 13);
        fault("town;dish 6 1 0;", 10);
        fault("town;dish 0 0 0;", 12);
        fault("town;dish 0 31 0;", 12);
        fault("town;dish 0 1 10;", 14);
        fault("town;\u0000", 5);
        fault("town;\n", 5);
        String eight = "town;street0 0 0;street0 0 0;street0 0 0;street0 0 0;street0 0 0;street0 0 0;street0 0 0;street0 0 0;";
        fault(eight + " street", eight.length() + 1);
        String six = "town;dish0 1 0;dish0 1 0;dish0 1 0;dish0 1 0;dish0 1 0;dish0 1 0;";
        fault(six + "dish 9", six.length());
        due("all stays", x.count(0), 1);
        due("its wall", x.of(0, 1), 3);
        due("not refused", x.status(0) + x.status(1) + x.status(2), 0);
    }

    private static void readTakesThePlace() {
        threeInARow(0, 0, 0);
        x.dish(0, 30, 0);
        x.image(0);
        x.rain(0, 5, 1);
        x.note(0, 0, 1, 0, 0);
        x.gate(1, 2);
        x.wind(1, 3);
        x.day(0);
        due("read", readOf("town;street 5 4 3;street 0 0 0;gate 2 0;wind 3 3;"), 5);
        due("streets", x.count(0), 2);
        due("dishes", x.count(1), 0);
        due("day", x.count(2), 0);
        due("open", x.count(3), 0);
        due("notes", x.count(4), 0);
        due("undone", x.count(5), 0);
        due("no smell", x.of(0, 4), NONE);
        due("gate", x.gate(1, 1), 0);
        due("wind", x.wind(1, 1), 1);
        due("no lane", x.lane(0, 1), 1);
        due("the fraction stays", x.part(1), 8);
        due("the image stays", x.from(0), 1);
        due("its streets", x.count(0), 3);
    }

    private static void day() {
        due("no dish", x.day(0), BAD);
        due("-2", x.day(-2), BAD);
        due("none", x.day(NONE), 0);
        due("a day more", x.count(2), 1);
        threeInARow(0, 0, 0);
        x.dish(0, 13, 0);
        x.dish(5, 5, 0);
        due("13 and 11, not 9", x.day(0), 3);
        due("since", x.of(1, 3), 1);
        due("shut", x.of(2, 3), NONE);
        due("smelt", x.of(2, 4), 0);
        due("one day", x.of(2, 5), 1);
        due("open ones do not open", x.day(0), 0);
        due("since as it was", x.of(0, 3), 1);
        due("two days", x.of(2, 5), 2);
        due("craved: 10, 6, 2", x.day(1), 0);
        due("another smell", x.of(0, 4), 5);
        due("one day of it", x.of(0, 5), 1);
        due("none", x.day(NONE), 0);
        due("no smell", x.of(0, 4), NONE);
        due("no day", x.of(0, 5), 0);
        due("day", x.count(2), 5);
        due("dish 2", x.day(2), BAD);
        due("the day as it was", x.count(2), 5);
        x.street(0, 0, 5);
        x.gate(1, 3);
        due("twice 5 is 10", x.day(1), 8);
    }

    private static void dayOfKinds() {
        x.street(3, 0, 5);
        x.dish(0, 10, 0);
        for (int i = 0; i < 5; i++) {
            x.day(NONE);
        }
        due("the pious on day 5", x.day(0), 0);
        due("smelt all the same", x.of(0, 5), 1);
        due("on day 6", x.day(0), 1);
        due("since", x.of(0, 3), 6);
        x.town();
        x.street(5, 0, 5);
        x.dish(1, 13, 0);
        x.dish(2, 13, 0);
        due("6", x.day(0), 0);
        due("8", x.day(0), 0);
        due("another smell: 6", x.day(1), 0);
        due("6", x.day(0), 0);
        due("8", x.day(0), 0);
        due("10", x.day(0), 1);
    }

    private static void undo() {
        due("none may be", x.undo(), NO);
        x.street(0, 0, 5);
        x.dish(0, 12, 0);
        x.dish(1, 2, 0);
        x.day(1);
        due("opens", x.day(0), 1);
        due("two may be", x.count(5), 2);
        due("undo", x.undo(), 1);
        due("shut", x.of(0, 3), NONE);
        due("smelt", x.of(0, 4), 1);
        due("one day", x.of(0, 5), 1);
        due("the day", x.count(2), 1);
        due("undo", x.undo(), 0);
        due("smelt on none", x.of(0, 4), NONE);
        due("no more", x.undo(), NO);
        for (int i = 0; i < 10; i++) {
            x.day(NONE);
        }
        due("8 at most", x.count(5), 8);
        for (int i = 9; i >= 2; i--) {
            due("undo to " + i, x.undo(), i);
        }
        due("no more", x.undo(), NO);
        due("the day", x.count(2), 2);
        x.day(0);
        x.street(0, 0, 0);
        due("behind a street", x.undo(), NO);
        due("still open", x.of(0, 3), 2);
        x.day(0);
        x.street(9, 0, 0);
        due("behind none that came", x.undo(), 3);
        x.day(0);
        for (int i = 0; i < 6; i++) {
            x.street(0, 0, 0);
        }
        x.day(0);
        due("full", x.street(0, 0, 0), FULL);
        due("behind none that was refused", x.undo(), 4);
    }

    private static void undoKeepsTheRest() {
        x.street(0, 0, 5);
        x.street(0, 0, 5);
        x.dish(0, 12, 0);
        x.day(0);
        x.lane(0, 1);
        x.gate(1, 1);
        x.wind(0, 1);
        x.dish(3, 4, 5);
        x.note(0, 0, 1, 0, 0);
        due("undo", x.undo(), 0);
        due("the lane stays", x.lane(0, 1), NO);
        due("the gate stays", x.gate(1, 1), 1);
        due("the wind stays", x.wind(0, 1), 1);
        due("the dish stays", x.count(1), 2);
        due("the note stays", x.count(4), 1);
    }

    private static void of() {
        due("not there", x.of(0, 0), BAD_TEN);
        x.street(4, 9, 5);
        x.street(0, 0, 2);
        x.gate(0, 1);
        x.dish(2, 5, 0);
        x.day(NONE);
        x.day(NONE);
        x.day(NONE);
        x.day(NONE);
        x.day(0);
        due("kind", x.of(0, 0), 4);
        due("wall", x.of(0, 1), 9);
        due("craves", x.of(0, 2), 5);
        due("since", x.of(1, 3), 4);
        due("smelt", x.of(1, 4), 2);
        due("days", x.of(1, 5), 1);
        due("shut", x.of(0, 3), NONE);
        due("none", x.of(0, 4), NONE);
        due("no days", x.of(0, 5), 0);
        due("what 6", x.of(0, 6), BAD_TEN);
        due("what -1", x.of(0, -1), BAD_TEN);
        due("street 2", x.of(2, 0), BAD_TEN);
        due("street -1", x.of(-1, 0), BAD_TEN);
        due("bads", x.status(0), 5);
    }

    private static void smells() {
        x.street(0, 3, 0);
        x.street(0, 0, 0);
        x.street(0, 6, 0);
        x.street(0, 1, 0);
        x.street(0, 0, 0);
        x.lane(0, 1);
        x.lane(0, 2);
        x.lane(1, 3);
        x.lane(2, 3);
        x.gate(1, 3);
        x.gate(2, 2);
        x.dish(0, 20, 0);
        x.dish(0, 5, 0);
        due("20 less 3", x.smells(0, 0, 0), 17);
        due("less 2", x.smells(0, 0, 1), 15);
        due("less 2 and 6", x.smells(0, 0, 2), 9);
        due("the most: by 1, not by 2", x.smells(0, 0, 3), 12);
        due("no lane", x.smells(0, 0, 4), 0);
        due("from 3", x.smells(0, 1, 3), 19);
        due("from 3 to 1", x.smells(0, 1, 1), 17);
        due("from 3 to 0 by 1", x.smells(0, 1, 0), 12);
        due("0 at least at the gate", x.smells(1, 2, 2), 0);
        due("and behind it", x.smells(1, 2, 3), 0);
        due("2 at the gate", x.smells(1, 0, 0), 2);
        due("0 beside", x.smells(1, 0, 1), 0);
        due("dish 2", x.smells(2, 0, 0), BAD);
        due("no dish", x.smells(NONE, 0, 0), BAD);
        due("wind 4", x.smells(0, 4, 0), BAD);
        due("wind -1", x.smells(0, -1, 0), BAD);
        due("street 5", x.smells(0, 0, 5), BAD);
        due("street -1", x.smells(0, 0, -1), BAD);
    }

    private static void moved() {
        due("not there", x.moved(0, 0), BAD);
        x.street(0, 1, 2);
        x.street(0, 0, 5);
        x.gate(1, 1);
        x.dish(2, 9, 0);
        due("craved", x.moved(0, 0), 16);
        due("not there", x.moved(0, 1), 0);
        x.day(0);
        due("by the wind now", x.moved(0, 1), 9);
        due("open, too", x.moved(0, 0), 0);
        due("dish 1", x.moved(1, 0), BAD);
        due("none", x.moved(NONE, 0), BAD);
        due("street 2", x.moved(0, 2), BAD);
        due("street -1", x.moved(0, -1), BAD);
    }

    /** Street k of kind k, each a gate in turn; a smell craved (5), one not (3), onion (0). */
    private static void movedByKinds() {
        for (int kind = 0; kind < 6; kind++) {
            x.street(kind, 0, 5);
        }
        x.dish(3, 7, 0);
        x.dish(5, 7, 0);
        x.dish(0, 7, 0);
        x.dish(3, 2, 0);
        x.dish(3, 1, 0);
        int[][] want = {{7, 14, 7, 2, 1}, {3, 7, 3, 1, 0}, {7, 14, 0, 2, 1}, {7, 14, 7, 2, 1}, {4, 11, 0, 0, 0},
            {3, 7, 3, 1, 0}};
        for (int kind = 0; kind < 6; kind++) {
            for (int w = 0; w < 4; w++) {
                x.gate(w, kind);
            }
            for (int dish = 0; dish < 5; dish++) {
                due("kind " + kind + " by dish " + dish, x.moved(dish, kind), want[kind][dish]);
            }
        }
        x.day(4);
        x.day(0);
        due("two days ahead", x.of(5, 5), 2);
        due("3 and 2 for each", x.moved(0, 5), 7);
        due("COLD 0 stays 0", x.moved(4, 5), 0);
        due("another smell", x.moved(1, 5), 7);
        x.gate(0, 3);
        x.gate(1, 3);
        x.day(NONE);
        x.day(NONE);
        x.day(NONE);
        due("the pious on day 5", x.moved(1, 3), 0);
        x.day(NONE);
        x.gate(2, 3);
        due("and on day 6", x.moved(1, 3), 14);
        for (int i = 0; i < 6; i++) {
            x.day(NONE);
        }
        due("and on day 12", x.count(2) + x.moved(1, 3), 12);
    }

    private static void falls() {
        due("not there", x.falls(0, 0), BAD);
        x.street(5, 0, 5);
        x.street(0, 0, 5);
        x.street(3, 0, 5);
        x.street(5, 0, 5);
        x.gate(1, 1);
        x.gate(2, 2);
        x.gate(3, 3);
        x.dish(3, 12, 0);
        x.dish(3, 9, 0);
        x.dish(1, 20, 0);
        due("on the fifth day only it comes again", x.falls(0, 0), NONE);
        for (int w = 0; w < 4; w++) {
            x.gate(w, 0);
        }
        due("6, 8, 10", x.falls(0, 0), 3);
        due("4, 6, 8, 10", x.falls(1, 0), 4);
        due("10", x.falls(2, 0), 1);
        due("never there", x.falls(2, 1), NONE);
        x.day(0);
        due("one day ahead of it", x.falls(0, 0), 2);
        due("the same smell", x.falls(1, 0), 3);
        x.day(2);
        due("open", x.falls(0, 0), 0);
        x.gate(2, 1);
        due("now", x.falls(2, 1), 1);
        x.gate(2, 0);
        x.gate(1, 1);
        due("in 4 days by wind 1", x.falls(2, 1), 4);
        x.gate(1, 2);
        due("the pious on day 5, then 9", x.falls(2, 2), 8);
        due("dish 3", x.falls(3, 0), BAD);
        due("none", x.falls(NONE, 0), BAD);
        due("street 4", x.falls(0, 4), BAD);
        fallsLate();
    }

    /** The homesick smell 2, their COLD 1 rising by 2 a day; far ahead nothing opens. */
    private static void fallsLate() {
        x.town();
        x.street(5, 0, 5);
        x.dish(1, 2, 0);
        x.dish(1, 1, 0);
        due("1, 3, 5, 7, 9, 11", x.falls(0, 0), 6);
        due("0 always", x.falls(1, 0), NONE);
        due("nothing has changed", x.count(2) + x.count(3) + x.count(5), 0);
    }

    /** Where the smell does not come for a day, it is smelt from none ahead again. */
    private static void fallsAnew() {
        x.street(5, 0, 5);
        x.street(0, 0, 5);
        x.gate(1, 1);
        x.gate(3, 1);
        x.dish(1, 16, 0);
        due("8, 0, 8, 0", x.falls(0, 0), NONE);
        x.gate(3, 0);
        due("8, 0, 8, 10", x.falls(0, 0), 4);
        x.town();
        x.street(5, 0, 1);
        x.dish(1, 1, 0);
        due("1 craved: 1, 3, 5, 7, 9, 11", x.falls(0, 0), 6);
        x.town();
        x.street(3, 0, 5);
        x.street(0, 0, 5);
        for (int w = 0; w < 4; w++) {
            x.gate(w, w == 1 ? 0 : 1);
        }
        x.dish(1, 10, 0);
        for (int i = 0; i < 5; i++) {
            x.day(NONE);
        }
        due("not on day 5, but on day 9", x.falls(0, 0), 5);
    }

    private static void order() {
        due("not there", x.order(0, 0), BAD_TEN);
        x.street(5, 0, 5);
        due("no dishes", x.order(0, NONE), NONE);
        due("no butter", x.order(0, -2), NONE);
        due("no first", x.order(0, 0), NONE);
        due("no hundredth", x.order(0, 100), NONE);
        x.dish(3, 12, 4);
        due("a dish once only", x.order(0, NONE), NONE);
        x.dish(3, 12, 5);
        due("6, 8", x.order(0, NONE), NONE);
        x.dish(3, 12, 9);
        due("6, 8, 10", x.order(0, NONE), 3);
        due("all the butter", x.order(0, -2), 18);
        due("first row", x.order(0, 0), 0);
        due("first row", x.order(0, 1), 1);
        due("first row", x.order(0, 2), 2);
        due("not so many", x.order(0, 3), -5);
        due("not so many", x.order(0, 4), -5);
        due("not so many", x.order(0, Integer.MAX_VALUE), -5);
        x.dish(3, 8, 0);
        due("three days", x.order(0, NONE), 3);
        due("the least butter", x.order(0, -2), 9);
        due("6, 6, 10 is ahead of 4, 8, 10: 0", x.order(0, 0), 0);
        due("then 3", x.order(0, 1), 3);
        due("then 1, not last the weak one", x.order(0, 2), 1);
        x.dish(2, 20, 9);
        due("one day", x.order(0, NONE), 1);
        due("more butter", x.order(0, -2), 9);
        due("by 4", x.order(0, 0), 4);
        due("not so many", x.order(0, 1), -5);
        due("-3", x.order(0, -3), BAD_TEN);
        due("street 1", x.order(1, 0), BAD_TEN);
        due("street -1", x.order(-1, NONE), BAD_TEN);
        x.day(4);
        due("open", x.order(0, NONE), 0);
        due("open", x.order(0, -2), 0);
        due("open", x.order(0, 0), -5);
    }

    private static void orderOfTies() {
        x.street(5, 0, 5);
        x.dish(3, 8, 1);
        x.dish(3, 8, 1);
        x.dish(3, 8, 1);
        x.dish(3, 8, 1);
        due("4, 6, 8, 10", x.order(0, NONE), 4);
        due("butter", x.order(0, -2), 4);
        for (int i = 0; i < 4; i++) {
            due("first of like rows", x.order(0, i), i);
        }
        due("not so many", x.order(0, 4), -5);
        x.dish(3, 8, 0);
        x.dish(3, 8, 0);
        due("butter", x.order(0, -2), 2);
        int[] first = {0, 1, 4, 5};
        for (int i = 0; i < 4; i++) {
            due("the first of least butter", x.order(0, i), first[i]);
        }
        x.day(0);
        due("smelt ahead: 6, 8, 10", x.order(0, NONE), 3);
        due("as at first", x.order(0, 0), 0);
        due("a day of another wind", x.gate(2, 0), 0);
        x.street(0, 0, 0);
        x.gate(1, 1);
        due("wind 1 comes elsewhere: none, 4, 6, 8", x.order(0, NONE), NONE);
    }

    private static void orderByDays() {
        x.street(0, 0, 5);
        x.dish(1, 10, 3);
        x.dish(1, 11, 3);
        due("by dish 0", x.order(0, NONE), 1);
        due("the first", x.order(0, 0), 0);
        x.town();
        x.street(3, 0, 5);
        x.street(0, 0, 5);
        x.gate(0, 1);
        x.dish(1, 10, 1);
        x.dish(2, 10, 1);
        for (int i = 0; i < 4; i++) {
            x.day(NONE);
        }
        due("day 4 elsewhere, day 5 pious: two dishes are too few", x.order(0, NONE), NONE);
        x.dish(3, 1, 7);
        due("on day 6", x.order(0, NONE), 3);
        due("all their butter", x.order(0, -2), 9);
        due("the first row that ends so", x.order(0, 0) + 10 * x.order(0, 1) + 100 * x.order(0, 2), 120);
        due("the other street now", x.order(1, NONE), 1);
        x.town();
        x.street(5, 0, 5);
        x.dish(1, 1, 0);
        x.dish(1, 16, 0);
        due("1 is smelt, too: 0, 8 and 2", x.order(0, NONE), 2);
        due("the weak one first", x.order(0, 0), 0);
        x.town();
        x.street(5, 0, 5);
        x.dish(2, 16, 0);
        x.dish(1, 16, 0);
        due("another smell between does not count", x.order(0, NONE), NONE);
        x.day(1);
        due("what was smelt ahead does", x.order(0, NONE), 1);
        due("by 1", x.order(0, 0), 1);
    }

    private static void never() {
        due("no streets", x.never(), 0);
        x.street(0, 0, 5);
        x.street(0, 0, 0);
        x.street(3, 0, 5);
        due("no dishes", x.never(), 7);
        x.dish(0, 9, 0);
        due("9 in 0 alone", x.never(), 7);
        x.gate(1, 1);
        due("twice 9 in 1", x.never(), 5);
        x.gate(2, 2);
        x.dish(1, 10, 0);
        due("10 in 0, the pious too", x.never(), 0);
        x.wind(1, 0);
        due("no day of wind 1", x.never(), 2);
        x.day(1);
        due("open ones do not count", x.never(), 2);
        x.town();
        x.street(5, 0, 0);
        x.dish(1, 18, 0);
        x.day(0);
        due("moved by days ahead", x.moved(0, 0), 11);
        due("but smelt on none", x.never(), 1);
    }

    private static void least() {
        due("no streets", x.least(), 0);
        x.street(0, 0, 5);
        due("no dishes", x.least(), NONE);
        x.street(0, 0, 0);
        x.gate(1, 1);
        x.dish(0, 9, 2);
        due("one does not", x.least(), NONE);
        x.dish(2, 10, 7);
        due("both by 1", x.least(), 2);
        x.dish(5, 5, 1);
        due("0 and 2 have less butter", x.least(), 5);
        x.dish(2, 10, 3);
        due("as much, fewer dishes", x.least(), 8);
        x.dish(3, 30, 3);
        due("as much, least bits", x.least(), 8);
        x.day(2);
        due("0 is open: the other by 0", x.least(), 1);
        x.day(3);
        due("none is shut", x.least(), 0);
        x.town();
        threeInARow(0, 0, 0);
        x.dish(1, 14, 9);
        due("one dish for three", x.least(), 1);
        x.dish(1, 12, 1);
        x.dish(1, 13, 1);
        due("the last by 0 alone", x.least(), 1);
    }

    /** The pious shut their noses on day 5: of days 2 .. 5 that is the one with wind 1. */
    private static void leastByDays() {
        x.street(3, 0, 5);
        x.street(0, 9, 5);
        for (int w = 0; w < 4; w++) {
            x.gate(w, w == 1 ? 0 : 1);
        }
        x.dish(2, 15, 1);
        due("day 1 is one of 0 .. 3", x.never() + 10 * x.least(), 2 - 10);
        x.dish(2, 19, 1);
        due("both by 1", x.least(), 2);
        x.day(NONE);
        due("day 1 is one of 1 .. 4", x.least(), 2);
        x.day(NONE);
        due("day 5 is one of 2 .. 5", x.least(), NONE);
        due("but of the next 28 not the only one", x.never(), 0);
        for (int i = 0; i < 3; i++) {
            x.day(NONE);
        }
        due("day 5 is the first of 5 .. 8", x.least(), NONE);
        x.day(NONE);
        due("day 9 is one of 6 .. 9", x.least(), 2);
        x.town();
        x.street(5, 0, 5);
        x.dish(1, 18, 0);
        x.day(0);
        due("smelt on none ahead", x.least(), NONE);
    }

    private static void answer() {
        due("no dish", x.answer(0, 0, 0), BAD);
        x.dish(1, 14, 0);
        due("no street", x.answer(0, 0, 0), NONE);
        due("no street", x.answer(0, 0, 1), NONE);
        threeInARow(0, 0, 0);
        due("14, 12, 10; by one sheet in 0 the last does not", x.answer(0, 1, 0), 0);
        due("two open", x.answer(0, 1, 1), 2);
        due("by 5 none opens", x.answer(0, 5, 1), 0);
        due("in 0", x.answer(0, 5, 0), 0);
        due("by none the least of all", x.answer(0, 0, 0), 0);
        due("three", x.answer(0, 0, 1), 3);
        x.gate(0, 2);
        due("10, 12, 14", x.answer(0, 5, 0), 2);
        x.gate(0, 0);
        due("sheets 10", x.answer(0, 10, 0), BAD);
        due("sheets -1", x.answer(0, -1, 0), BAD);
        due("what 2", x.answer(0, 0, 2), BAD);
        due("what -1", x.answer(0, 0, -1), BAD);
        due("dish 1", x.answer(1, 0, 0), BAD);
        due("none", x.answer(NONE, 0, 0), BAD);
        x.dish(1, 10, 0);
        x.day(1);
        due("0 is open: of those shut", x.answer(0, 9, 0), 1);
        due("none opens then", x.answer(0, 9, 1), 0);
        due("the walls are as they were", x.of(1, 1), 0);
        x.day(0);
        due("10 in the last", x.count(3), 3);
        due("none is shut", x.answer(0, 9, 0), NONE);
        due("none is shut", x.answer(0, 9, 1), NONE);
        x.town();
        x.dish(0, 30, 0);
        for (int i = 0; i < 8; i++) {
            x.street(0, 0, 0);
        }
        for (int i = 1; i < 8; i++) {
            x.lane(0, i);
        }
        due("eight open, the least", x.answer(0, 0, 0), 0);
        due("eight", x.answer(0, 0, 1), 8);
    }

    private static void game() {
        due("nothing there: one pair", x.game(0), 1);
        due("-1", x.game(-1), BAD);
        due("10", x.game(10), BAD);
        x.dish(1, 14, 0);
        due("two dishes by one answer", x.game(9), 2);
        threeInARow(0, 0, 0);
        // none: 0 0 0 0; the dish: 3 in none, 2 2 2 by one sheet.
        due("one sheet", x.game(1), 3);
        // the dish: 3, by 9 sheets 0 in 0, 1 in 1, 2 in 2.
        due("nine sheets: both dishes rest by 0", x.game(9), 2);
        due("no sheets: the dish by any", x.game(0), 4);
        x.dish(1, 10, 0);
        x.day(1);
        // now 0 is open; the first: 2 in none, 0 in 0, 0 in 1, 1 in 2; the second and none: 0.
        due("sheets in open streets, too", x.game(9), 6);
        due("nothing has changed", x.count(2), 1);
    }

    private static void note() {
        due("no street", x.note(0, 0, 1, 0, 0), BAD);
        x.street(0, 0, 0);
        due("street -1", x.note(-1, 0, 1, 0, 0), BAD);
        due("smell 6", x.note(0, 6, 1, 0, 0), BAD);
        due("smell -1", x.note(0, -1, 1, 0, 0), BAD);
        due("strong 0", x.note(0, 0, 0, 0, 0), BAD);
        due("strong 61", x.note(0, 0, 61, 0, 0), BAD);
        due("day -1", x.note(0, 0, 1, -1, 0), BAD);
        due("day 100", x.note(0, 0, 1, 100, 0), BAD);
        due("opened 2", x.note(0, 0, 1, 0, 2), BAD);
        due("opened -1", x.note(0, 0, 1, 0, -1), BAD);
        due("no notes", x.count(4), 0);
        for (int i = 1; i <= 6; i++) {
            due("note " + i, x.note(0, i - 1, i == 6 ? 60 : 1, i == 6 ? 99 : 0, i % 2), i);
        }
        due("the seventh", x.note(0, 0, 1, 0, 0), FULL);
        due("the seventh, bad", x.note(0, 0, 0, 0, 0), BAD);
        due("notes", x.count(4), 6);
    }

    private static void forget() {
        due("none", x.forget(), 0);
        x.street(0, 0, 0);
        x.note(0, 0, 1, 0, 1);
        x.note(0, 0, 1, 0, 1);
        due("contradiction", x.craved(0), 0);
        due("two", x.forget(), 2);
        due("none", x.count(4), 0);
        due("all may be", x.craved(0), 63);
        due("again from 1", x.note(0, 0, 1, 0, 1), 1);
    }

    private static void craved() {
        due("no street", x.craved(0), BAD);
        x.street(0, 0, 3);
        x.street(4, 0, 3);
        x.street(3, 0, 3);
        due("no notes", x.craved(0), 63);
        x.note(0, 2, 5, 0, 1);
        due("5 opened: craved", x.craved(0), 4);
        due("another street", x.craved(1), 63);
        x.note(1, 1, 6, 0, 0);
        due("12 less 3 does not open", x.craved(1), 63);
        x.note(1, 1, 7, 0, 0);
        due("14 less 3 would", x.craved(1), 61);
        x.note(2, 4, 30, 5, 0);
        due("the pious on day 5", x.craved(2), 63);
        x.note(2, 4, 9, 6, 0);
        due("on day 6", x.craved(2), 47);
        x.note(2, 4, 10, 96, 1);
        due("none: day 96 is such a day", x.craved(2), 0);
        due("street 3", x.craved(3), BAD);
        due("street -1", x.craved(-1), BAD);
        x.street(5, 0, 3);
        x.forget();
        x.note(3, 2, 19, 0, 0);
        due("9, smelt on none ahead; craved 19", x.craved(3), 59);
    }

    private static void is() {
        due("no street", x.is(0), BAD);
        x.street(1, 0, 3);
        x.street(0, 0, 3);
        due("no notes", x.is(0), 63);
        x.note(0, 0, 12, 5, 1);
        due("onion opened on day 5 by 12: plain; a cold or homesick one that craves", x.is(0), 1 + 2 + 32);
        due("others", x.is(1), 63);
        x.note(0, 1, 12, 0, 1);
        due("one of two smells may be craved", x.is(0), 1);
        x.note(0, 2, 10, 0, 0);
        due("none", x.is(0), 0);
        due("street 2", x.is(2), BAD);
        due("street -1", x.is(-1), BAD);
    }

    private static void tryNext() {
        due("no street", x.tryNext(0, 1, 0), BAD);
        x.street(0, 0, 3);
        due("5 and 1 by each: the first", x.tryNext(0, 5, 0), 0);
        x.note(0, 0, 5, 0, 0);
        due("0 is not craved: the first of the rest", x.tryNext(0, 5, 0), 1);
        due("too weak for any", x.tryNext(0, 4, 0), 0);
        due("enough for all", x.tryNext(0, 10, 0), 0);
        x.note(0, 1, 5, 0, 0);
        x.note(0, 2, 5, 0, 0);
        due("3, 4, 5 are left", x.craved(0), 56);
        due("2 and 1", x.tryNext(0, 5, 0), 3);
        x.note(0, 3, 5, 0, 0);
        due("1 and 1", x.tryNext(0, 5, 0), 4);
        x.note(0, 4, 5, 0, 0);
        due("one left: all alike", x.tryNext(0, 5, 0), 0);
        x.note(0, 5, 5, 0, 0);
        due("none may be", x.tryNext(0, 5, 0), NONE);
        due("strong 0", x.tryNext(0, 0, 0), BAD);
        due("strong 61", x.tryNext(0, 61, 0), BAD);
        due("strong 60", x.tryNext(0, 60, 99), NONE);
        due("day -1", x.tryNext(0, 1, -1), BAD);
        due("day 100", x.tryNext(0, 1, 100), BAD);
        due("street 1", x.tryNext(1, 1, 0), BAD);
        x.forget();
        x.street(3, 0, 0);
        x.note(1, 0, 5, 0, 0);
        due("the pious on day 5: all alike", x.tryNext(1, 5, 5), 0);
        due("on day 6", x.tryNext(1, 5, 6), 1);
        x.street(2, 0, 0);
        due("onion eaters: 0 tells nothing", x.tryNext(2, 5, 0), 1);
    }

    private static void rainIs(int dish, int c, int n, long above, long below) {
        due("rain(" + dish + ", " + c + ", " + n + ")", x.rain(dish, c, n), 1);
        due("above of " + c + ", " + n, x.part(0), above);
        due("below of " + c + ", " + n, x.part(1), below);
    }

    private static void rain() {
        due("no dish", x.rain(0, 0, 0), BAD);
        x.dish(1, 14, 0);
        rainIs(0, 5, 0, 1, 1);
        rainIs(0, 5, 1, 0, 1);
        threeInARow(0, 0, 0);
        rainIs(0, 5, 0, 1, 1);
        rainIs(0, 5, 1, 7, 8);
        rainIs(0, 5, 2, 1, 2);
        rainIs(0, 5, 3, 1, 8);
        rainIs(0, 5, 4, 0, 1);
        rainIs(0, 0, 3, 1, 1);
        rainIs(0, 10, 1, 0, 1);
        rainIs(0, 10, 0, 1, 1);
        rainIs(0, 2, 3, 64, 125);
        rainIs(0, 9, 8, 0, 1);
        rainIs(0, 3, 2, 98, 125);
        due("c 11", x.rain(0, 11, 0), BAD);
        due("c -1", x.rain(0, -1, 0), BAD);
        due("n 9", x.rain(0, 0, 9), BAD);
        due("n -1", x.rain(0, 0, -1), BAD);
        due("dish 1", x.rain(1, 0, 0), BAD);
        due("none", x.rain(NONE, 0, 0), BAD);
        due("the fraction is as it was", x.part(0), 98);
        x.dish(1, 12, 0);
        x.day(1);
        rainIs(0, 4, 1, 3, 5);
        due("nothing else has changed", x.count(2), 1);
    }

    private static void sieges() {
        due("seed -1", x.sieges(-1, 0), BAD);
        due("seed 1000000", x.sieges(1000000, 0), BAD);
        due("n -1", x.sieges(0, -1), BAD);
        due("n 61", x.sieges(0, 61), BAD);
        due("no streets", x.sieges(999999, 60), 0);
        for (int i = 0; i < 6; i++) {
            x.street(0, 0, 5);
        }
        for (int w = 0; w < 4; w++) {
            x.gate(w, w);
        }
        // From 0 on X by 65536 is 0, 21468, ..: dish 0 first, then 21468 by 7: 6.
        x.dish(1, 20, 0);
        due("no day", x.sieges(0, 0), 0);
        due("dish 0 by wind 0", x.sieges(0, 1), 1);
        due("a dish that is not there", x.sieges(0, 2), 1);
        x.day(0);
        due("open ahead", x.sieges(0, 0), 1);
        due("dish 0 by wind 1", x.sieges(0, 1), 2);
        due("nothing has changed", x.count(3) + x.count(2) + x.count(5), 3);
    }

    /** The sieges of some seeds, each lived through by days drawn here. */
    private static void siegesAsDays() {
        type("town;street 0 3 0;street 1 0 1;street 5 0 2;street 3 1 3;street 2 9 4;");
        type("lane 0 1;lane 1 2;lane 2 3;lane 3 4;gate 1 2;gate 2 4;dish 1 9 0;dish 2 12 0;dish 4 11 0;");
        x.read();
        x.day(1);
        x.image(0);
        int[] seeds = {0, 1, 77, 4711, 123456, 999999};
        for (int seed : seeds) {
            long state = seed;
            x.from(0);
            for (int n = 0; n <= 60; n++) {
                int open = x.count(3);
                x.from(0);
                due("sieges(" + seed + ", " + n + ")", x.sieges(seed, n), open);
                state = seed;
                for (int k = 0; k <= n; k++) {
                    state = (state * 1103515245L + 12345L) & 0x7fffffffL;
                    int dish = (int) ((state >> 16) % 7);
                    x.day(dish < 3 ? dish : NONE);
                }
            }
        }
    }

    private static void part() {
        due("above", x.part(0), 0);
        due("below", x.part(1), 1);
        due("part 2", x.part(2), BAD);
        due("part -1", x.part(-1), BAD);
        due("bads", x.status(0), 2);
        x.street(0, 0, 0);
        x.dish(1, 10, 0);
        x.rain(0, 2, 1);
        due("above", x.part(0), 4);
        due("below", x.part(1), 5);
    }

    private static void image() {
        due("image 2", x.image(2), BAD);
        due("image -1", x.image(-1), BAD);
        x.street(0, 0, 0);
        due("image 0", x.image(0), 1);
        x.street(0, 0, 0);
        due("image 1", x.image(1), 1);
        x.street(0, 0, 0);
        x.from(0);
        due("one street", x.count(0), 1);
        x.from(1);
        due("two streets", x.count(0), 2);
        due("kept again", x.image(0), 1);
        x.town();
        x.from(0);
        due("the newer one", x.count(0), 2);
    }

    private static void from() {
        due("none was kept", x.from(0), NO);
        due("from 2", x.from(2), BAD);
        due("from -1", x.from(-1), BAD);
        threeInARow(0, 5, 2);
        x.dish(1, 18, 3);
        x.gate(1, 2);
        x.wind(3, 0);
        x.note(0, 1, 2, 3, 1);
        x.day(0);
        x.day(0);
        type("ab");
        x.image(1);
        long digest = x.digest();
        due("opened", x.count(3), 3);
        x.undo();
        x.lane(0, 2);
        x.gate(1, 0);
        x.wind(3, 3);
        x.forget();
        x.dish(1, 1, 1);
        x.street(1, 1, 1);
        due("the other was not kept", x.from(0), NO);
        due("from 1", x.from(1), 1);
        due("all is as it was", x.digest(), digest);
        due("undo goes on", x.undo(), 1);
        due("and on", x.undo(), 0);
        due("shut", x.count(3), 0);
        due("from 1 again", x.from(1), 1);
        due("all is as it was", x.digest(), digest);
        x.rain(0, 5, 0);
        type("c");
        x.from(1);
        due("the text stays", x.count(6), 3);
        due("the fraction stays", x.part(0), 1);
        due("the status stays", x.status(0), 2);
        due("noes", x.status(1), 2);
    }

    private static void fromAnotherTown() {
        type("town;street 0 1 2;street 5 0 1;street 4 2 5;lane 0 1;lane 2 1;gate 1 2;wind 2 3;dish 1 17 2;dish 3 30 9;");
        due("read", x.read(), 10);
        x.note(2, 3, 4, 5, 1);
        x.note(1, 2, 3, 4, 0);
        for (int i = 0; i < 5; i++) {
            x.day(i % 3 - 1);
        }
        long[] digests = new long[6];
        x.image(0);
        for (int i = 0; i < 6; i++) {
            digests[i] = x.digest();
            due("undo", x.undo(), i < 5 ? 4 - i : NO);
        }
        x.clear();
        type("town;street 1 2 3;street 2 3 4;street 3 4 0;street 0 0 0;lane 0 2;gate 0 1;gate 2 3;wind 0 1;");
        type("dish 0 20 1;dish 2 3 4;dish 5 6 7;");
        x.read();
        x.note(0, 1, 2, 3, 0);
        x.note(1, 5, 6, 7, 1);
        x.note(2, 5, 6, 7, 1);
        for (int i = 0; i < 9; i++) {
            x.day(2 - i % 3);
        }
        x.image(1);
        int bytes = x.count(6);
        x.from(0);
        x.clear();
        type("town;street 0 1 2;street 5 0 1;street 4 2 5;lane 0 1;lane 2 1;gate 1 2;wind 2 3;dish 1 17 2;dish 3 30 9;");
        for (int i = 0; i < 6; i++) {
            due("as it was", x.digest(), digests[i]);
            x.undo();
        }
        CHECK.holds("the text was another", bytes != x.count(6));
    }

    private static void status() {
        due("bads", x.status(0), 0);
        due("3", x.status(3), -1);
        due("-1", x.status(-1), -1);
        due("they count", x.status(0), 2);
        x.of(0, 0);
        x.order(0, 0);
        x.count(7);
        x.part(2);
        due("-10 counts", x.status(0), 6);
        x.undo();
        x.from(0);
        due("noes", x.status(1), 2);
        for (int i = 0; i < 9; i++) {
            x.street(0, 0, 0);
        }
        for (int i = 0; i < 7; i++) {
            x.dish(0, 1, 0);
        }
        for (int i = 0; i < 7; i++) {
            x.note(0, 0, 1, 0, 0);
        }
        due("fulls", x.status(2), 3);
        due("a fault", x.read(), -10);
        due("is none of them", x.status(0), 6);
        x.order(0, 0);
        x.order(0, 5);
        x.least();
        due("NONE and -5 are none of them", x.status(0), 6);
    }

    private static void count() {
        threeInARow(0, 0, 0);
        x.dish(1, 12, 0);
        x.dish(1, 12, 0);
        x.day(0);
        x.day(NONE);
        x.day(NONE);
        x.undo();
        x.note(0, 0, 1, 0, 0);
        type("town;");
        int[] want = {3, 2, 2, 2, 1, 2, 5};
        for (int what = 0; what < want.length; what++) {
            due("count " + what, x.count(what), want[what]);
        }
        due("count 7", x.count(7), BAD);
        due("count -1", x.count(-1), BAD);
        due("bads", x.status(0), 2);
    }

    private static long digestOf(int... values) {
        long h = 1069;
        for (int v : values) {
            h = 31 * h + v;
        }
        return h;
    }

    private static void digest() {
        int[] atFirst = new int[7 + 28 + 4 + 4 + 2];
        for (int w = 0; w < 4; w++) {
            atFirst[7 + 28 + 4 + w] = w;
        }
        atFirst[atFirst.length - 1] = 1;
        due("new", x.digest(), digestOf(atFirst));
        x.street(0, 1, 2);
        x.street(4, 0, 3);
        x.street(5, 6, 1);
        x.lane(1, 2);
        x.lane(1, 0);
        x.gate(2, 1);
        x.wind(3, 1);
        x.dish(2, 9, 4);
        x.dish(0, 30, 1);
        x.note(1, 2, 3, 4, 1);
        x.note(2, 5, 60, 99, 0);
        x.day(0);
        type("ab");
        x.rain(1, 3, 1);
        x.undo();
        x.day(0);
        due("of all", x.digest(), digestOf(3, 2, 1, 1, 2, 1, 2,
            0, 1, 2, 0, 2, 1, 4, 0, 3, -1, 2, 1, 5, 6, 1, -1, -1, 0,
            1, 0, 0, 0, 0, 0, 0, 1, 0, 0, 0, 0, 0, 0, 0, 0, 0, 0, 0, 0, 0, 0, 0, 0, 0, 0, 0, 0,
            0, 0, 1, 0, 0, 1, 2, 1, 2, 9, 4, 0, 30, 1,
            1, 2, 3, 4, 1, 2, 5, 60, 99, 0, (int) x.part(0), (int) x.part(1)));
        long before = x.digest();
        x.lane(9, 9);
        x.undo();
        CHECK.holds("undo tells", x.digest() != before);
    }
}
