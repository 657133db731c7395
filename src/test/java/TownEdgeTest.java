/**
 * Streets, lanes, gates, winds, dishes, smells, noses and days: each sentence of the document that
 * names a boundary case, by a test of its own, with answers worked by hand.
 */
public final class TownEdgeTest {
    private static final int NONE = -1, BAD = -2, NO = -3, FULL = -4, BAD_TEN = -10;
    private static final int PLAIN = 0, COLD = 1, ONION_EATERS = 2, PIOUS = 3, BAKERS = 4, HOMESICK = 5;
    private static final Check CHECK = new Check();
    private static KitchenSiege x;

    private TownEdgeTest() {
    }

    public static void main(String[] args) {
        aTown();
        theAir();
        theNoses();
        theDays();
        CHECK.end();
    }

    private static void aTown() {
        emptyTown();
        streets();
        walls();
        cravings();
        shutAtFirst();
        lanes();
        gates();
        winds();
        windOfADay();
        dishes();
        numbersOfADish();
        townAgain();
    }

    private static void theAir() {
        atTheGate();
        beside();
        wallsOfStone();
        farAway();
        roundAbout();
        nothingGoesOn();
    }

    private static void theNoses() {
        plain();
        cold();
        onionEaters();
        pious();
        bakers();
        homesick();
        homesickByDays();
        theSameSmell();
    }

    private static void theDays() {
        tenOrMore();
        tenByDaysAhead();
        allAtOnce();
        lostOnThatDay();
        oneDayMore();
        smeltOneDayMore();
        elsewhereOnNone();
    }

    private static void sentence(String words) {
        CHECK.part(words);
        x = new KitchenSiege();
    }

    private static void due(String call, long got, long want) {
        CHECK.due(call, got, want);
    }

    private static void plainStreets(int n) {
        for (int i = 0; i < n; i++) {
            x.street(PLAIN, 0, 5);
        }
    }

    private static void allGates(int street) {
        for (int w = 0; w < 4; w++) {
            x.gate(w, street);
        }
    }

    private static void emptyTown() {
        sentence("As told; no STREETS, DISHES");
        due("town", x.town(), 0);
        due("a day", x.day(NONE), 0);
        due("it is one more", x.count(2), 1);
        due("and undone", x.undo(), 0);
        due("never", x.never(), 0);
        due("least", x.least(), 0);
        due("game", x.game(9), 1);
        due("sieges", x.sieges(999999, 60), 0);
        due("forget", x.forget(), 0);
        due("clear", x.clear(), 0);
        due("street 0 is none", x.of(0, 0), BAD_TEN);
        due("dish 0 is none", x.day(0), BAD);
        for (int what = 0; what <= 6; what++) {
            due("count " + what, x.count(what), 0);
        }
    }

    private static void streets() {
        sentence("STREETS 0 .. 7, as they come");
        for (int i = 0; i < 8; i++) {
            due("not there yet", x.of(i, 0), BAD_TEN);
            due("street " + i, x.street(i % 6, 9 - i, i % 6), i);
            due("how many", x.count(0), i + 1);
        }
        due("a ninth", x.street(0, 0, 0), FULL);
        due("how many", x.count(0), 8);
        due("the first's wall", x.of(0, 1), 9);
        due("the last's wall", x.of(7, 1), 2);
        due("street 8", x.of(8, 0), BAD_TEN);
        due("town", x.town(), 8);
        due("from 0 again", x.street(0, 0, 0), 0);
    }

    private static void walls() {
        sentence("a WALL (0 .. 9)");
        due("-1", x.street(0, -1, 0), BAD);
        due("10", x.street(0, 10, 0), BAD);
        due("0", x.street(0, 0, 0), 0);
        due("9", x.street(0, 9, 0), 1);
        due("wall of 0", x.of(0, 1), 0);
        due("wall of 1", x.of(1, 1), 9);
        x.dish(1, 10, 0);
        x.gate(1, 1);
        due("nothing is kept off", x.smells(0, 0, 0), 10);
        due("all but 1", x.smells(0, 1, 1), 1);
    }

    private static void cravings() {
        sentence("what it CRAVES (0 .. 5)");
        due("-1", x.street(0, 0, -1), BAD);
        due("6", x.street(0, 0, 6), BAD);
        due("0", x.street(0, 0, 0), 0);
        due("5", x.street(0, 0, 5), 1);
        x.dish(0, 4, 0);
        x.dish(5, 4, 0);
        due("0 craves 0", x.moved(0, 0), 8);
        due("0 craves not 5", x.moved(1, 0), 4);
        allGates(1);
        due("1 craves not 0", x.moved(0, 1), 4);
        due("1 craves 5", x.moved(1, 1), 8);
    }

    private static void shutAtFirst() {
        sentence("shut at first");
        plainStreets(1);
        due("none is open", x.count(3), 0);
        x.dish(1, 30, 0);
        due("it opens", x.day(0), 1);
        plainStreets(1);
        due("the next is shut", x.of(1, 3), NONE);
        due("and smelt nothing", x.of(1, 4), NONE);
        due("on no day", x.of(1, 5), 0);
        due("one is open", x.count(3), 1);
        x.town();
        plainStreets(1);
        due("one in the place of an open one", x.of(0, 3), NONE);
        due("smelt nothing", x.of(0, 4), NONE);
        due("on no day", x.of(0, 5), 0);
        x.dish(1, 30, 0);
        x.day(0);
        due("read", Towns.readOf(x, "town;street 0 0 0;"), 2);
        due("one that is read", x.of(0, 3), NONE);
        due("smelt nothing", x.of(0, 5), 0);
        due("none is open", x.count(3), 0);
    }

    private static void lanes() {
        sentence("LANES between two unlike STREETS (none at first)");
        due("no streets", x.lane(0, 1), BAD);
        plainStreets(8);
        x.dish(1, 30, 0);
        for (int k = 1; k < 8; k++) {
            due("nothing comes to " + k, x.smells(0, 0, k), 0);
        }
        due("0 and 0", x.lane(0, 0), BAD);
        due("7 and 7", x.lane(7, 7), BAD);
        for (int a = 0; a < 8; a++) {
            for (int b = a + 1; b < 8; b++) {
                due(a + " and " + b, x.lane(b, a), 1);
                due(a + " and " + b + " again", x.lane(a, b), NO);
            }
        }
        due("all of them: by one lane to the last", x.smells(0, 0, 7), 28);
        x.town();
        plainStreets(8);
        due("none again", x.lane(0, 7), 1);
    }

    private static void gates() {
        sentence("the STREET into which that wind blows first (STREET 0 at first, each)");
        due("no street", x.gate(0, 0), BAD);
        plainStreets(8);
        due("wind -1", x.gate(-1, 0), BAD);
        due("wind 4", x.gate(4, 0), BAD);
        due("street -1", x.gate(0, -1), BAD);
        due("street 8", x.gate(0, 8), BAD);
        x.dish(1, 1, 0);
        for (int w = 0; w < 4; w++) {
            due("0 at first", x.smells(0, w, 0), 1);
            due("it was 0", x.gate(w, 7), 0);
            due("now 7", x.smells(0, w, 7), 1);
            due("it was 7", x.gate(w, 7), 7);
        }
        due("7 to 0", x.gate(3, 0), 7);
        due("the others stay", x.gate(2, 0), 7);
    }

    private static void winds() {
        sentence("the row of WINDS (4 of them, 0 1 2 3 at first)");
        due("place -1", x.wind(-1, 0), BAD);
        due("place 4", x.wind(4, 0), BAD);
        due("wind -1", x.wind(0, -1), BAD);
        due("wind 4", x.wind(3, 4), BAD);
        for (int i = 0; i < 4; i++) {
            due("at first", x.wind(i, 3), i);
        }
        for (int i = 0; i < 4; i++) {
            due("all may be alike", x.wind(i, 0), 3);
        }
        due("the first place to the last wind", x.wind(0, 3), 0);
        due("the others stay", x.wind(3, 3), 0);
    }

    private static void windOfADay() {
        sentence("A DAY has the WIND its number by 4 leaves over of the row of WINDS");
        plainStreets(4);
        for (int w = 0; w < 4; w++) {
            x.gate(w, w);
        }
        x.dish(1, 1, 0);
        for (int day = 0; day <= 9; day++) {
            for (int k = 0; k < 4; k++) {
                due("day " + day + ", street " + k, x.moved(0, k), day % 4 == k ? 1 : 0);
            }
            x.day(0);
            due("it was smelt there on day " + day, x.of(day % 4, 4), 1);
        }
        x.wind(2, 0);
        due("day 10 has the place 2", x.moved(0, 0), 1);
        due("and not the wind 2", x.moved(0, 2), 0);
    }

    private static void dishes() {
        sentence("DISHES 0 .. 5, as they come");
        plainStreets(1);
        for (int i = 0; i < 6; i++) {
            due("not there yet", x.moved(i, 0), BAD);
            due("dish " + i, x.dish(1, 10 - i, 0), i);
            due("how many", x.count(1), i + 1);
        }
        due("a seventh", x.dish(1, 1, 0), FULL);
        due("how many", x.count(1), 6);
        due("the first", x.smells(0, 0, 0), 10);
        due("the last", x.smells(5, 0, 0), 5);
        due("dish 6", x.smells(6, 0, 0), BAD);
        x.town();
        due("from 0 again", x.dish(1, 1, 0), 0);
    }

    private static void numbersOfADish() {
        sentence("a SMELL (0 .. 5), STRONG (1 .. 30), BUTTER (0 .. 9)");
        x.street(PLAIN, 0, 0);
        due("smell -1", x.dish(-1, 1, 0), BAD);
        due("smell 6", x.dish(6, 1, 0), BAD);
        due("strong 0", x.dish(0, 0, 0), BAD);
        due("strong 31", x.dish(0, 31, 0), BAD);
        due("butter -1", x.dish(0, 1, -1), BAD);
        due("butter 10", x.dish(0, 1, 10), BAD);
        due("the least of each", x.dish(0, 1, 0), 0);
        due("the most of each", x.dish(5, 30, 9), 1);
        due("1", x.smells(0, 0, 0), 1);
        due("30", x.smells(1, 0, 0), 30);
        due("0 is craved", x.moved(0, 0), 2);
        due("5 is not", x.moved(1, 0), 30);
        due("9 of butter", x.order(0, -2), 9);
        x.dish(5, 30, 0);
        due("0 of butter", x.order(0, -2), 0);
    }

    private static void townAgain() {
        sentence("All as at first (but for IMAGES, THE TEXT, THE FRACTION, STATUS): how many STREETS there were");
        KitchenSiege full = Towns.full();
        int[] status = Towns.status(full);
        long above = full.part(0);
        long below = full.part(1);
        due("eight", full.town(), 8);
        due("none", full.town(), 0);
        int[] counts = {0, 0, 0, 0, 0, 0, 150};
        for (int what = 0; what <= 6; what++) {
            due("count " + what, full.count(what), counts[what]);
        }
        due("the fraction, above", full.part(0), above);
        due("the fraction, below", full.part(1), below);
        for (int i = 0; i < 3; i++) {
            due("STATUS " + i, full.status(i), status[i]);
            due("the row of winds", full.wind(i, i), i);
        }
        due("no day is undone", full.undo(), NO);
        due("image 0", full.from(0), 1);
        due("its streets", full.town(), 8);
        due("image 1", full.from(1), 1);
        due("its day", full.count(2), 5);
    }

    private static void atTheGate() {
        sentence("A SMELL has in the GATE of the WIND STRONG less the WALL of that (0 at least)");
        x.street(PLAIN, 5, 5);
        x.dish(1, 1, 0);
        x.dish(1, 4, 0);
        x.dish(1, 5, 0);
        x.dish(1, 6, 0);
        due("1 less 5", x.smells(0, 0, 0), 0);
        due("4 less 5", x.smells(1, 0, 0), 0);
        due("5 less 5", x.smells(2, 0, 0), 0);
        due("6 less 5", x.smells(3, 0, 0), 1);
        due("0 moves nobody", x.moved(0, 0), 0);
    }

    private static void beside() {
        sentence("from a STREET it goes by LANES into each STREET beside, less by 2 (0 at least)");
        plainStreets(3);
        x.lane(1, 0);
        x.dish(1, 1, 0);
        x.dish(1, 2, 0);
        x.dish(1, 3, 0);
        x.dish(1, 30, 0);
        due("1 less 2", x.smells(0, 0, 1), 0);
        due("2 less 2", x.smells(1, 0, 1), 0);
        due("3 less 2", x.smells(2, 0, 1), 1);
        due("30 less 2", x.smells(3, 0, 1), 28);
        due("into no other street", x.smells(3, 0, 2), 0);
    }

    private static void wallsOfStone() {
        sentence("and less by the WALL of that one (0 at least)");
        x.street(PLAIN, 1, 5);
        x.street(PLAIN, 3, 5);
        x.lane(0, 1);
        x.dish(1, 5, 0);
        x.dish(1, 6, 0);
        x.dish(1, 7, 0);
        due("4 less 2 less 3", x.smells(0, 0, 1), 0);
        due("5 less 2 less 3", x.smells(1, 0, 1), 0);
        due("6 less 2 less 3", x.smells(2, 0, 1), 1);
        allGates(1);
        due("back: 4 less 2 less 1", x.smells(2, 0, 0), 1);
        due("back: 3 less 2 less 1", x.smells(1, 0, 0), 0);
    }

    private static void farAway() {
        sentence("each STREET has the most that comes to it: from the last to the first");
        plainStreets(8);
        for (int i = 0; i < 7; i++) {
            x.lane(i, i + 1);
        }
        x.gate(1, 7);
        x.dish(1, 30, 0);
        x.dish(1, 15, 0);
        x.dish(1, 14, 0);
        for (int i = 0; i < 8; i++) {
            due("up to " + i, x.smells(0, 0, i), 30 - 2 * i);
            due("down to " + i, x.smells(0, 1, i), 16 + 2 * i);
        }
        due("1 is left at the end", x.smells(1, 0, 7), 1);
        due("1 is left at the beginning", x.smells(1, 1, 0), 1);
        due("0 is left at the end", x.smells(2, 0, 7), 0);
        due("0 is left at the beginning", x.smells(2, 1, 0), 0);
        due("2 ahead of it", x.smells(2, 1, 1), 2);
    }

    private static void roundAbout() {
        sentence("each STREET has the most that comes to it so by any way");
        plainStreets(1);
        x.street(PLAIN, 9, 5);
        plainStreets(6);
        for (int i = 0; i < 8; i++) {
            x.lane(i, (i + 1) % 8);
        }
        x.dish(1, 30, 0);
        // The ring's short way to 2 goes through a wall of 9: 30, 19, 17; the long one 30, 28, .., 18.
        int[] due = {30, 19, 18, 20, 22, 24, 26, 28};
        for (int i = 0; i < 8; i++) {
            due("street " + i, x.smells(0, 0, i), due[i]);
        }
        x.gate(1, 1);
        due("the wall is the gate: 21", x.smells(0, 1, 1), 21);
        due("19 this way", x.smells(0, 1, 0), 19);
        due("19 that way", x.smells(0, 1, 2), 19);
    }

    private static void nothingGoesOn() {
        sentence("0 at least: from where nothing comes, nothing goes on");
        x.street(PLAIN, 9, 5);
        plainStreets(2);
        x.lane(0, 1);
        x.lane(1, 2);
        x.dish(1, 8, 0);
        x.dish(1, 11, 0);
        x.dish(1, 12, 0);
        for (int k = 0; k < 3; k++) {
            due("8 less 9", x.smells(0, 0, k), 0);
        }
        due("11 less 9", x.smells(1, 0, 0), 2);
        due("and 0", x.smells(1, 0, 1), 0);
        due("12 less 9", x.smells(2, 0, 0), 3);
        due("and 1", x.smells(2, 0, 1), 1);
        due("and 0", x.smells(2, 0, 2), 0);
    }

    /** A nose that smelt nothing ahead. */
    private static void nose(int kind, int craves, int smell, int strong, int want) {
        x = new KitchenSiege();
        x.street(kind, 0, craves);
        x.dish(smell, strong, 0);
        due("smell " + smell + " of " + strong + ", " + craves + " is craved", x.moved(0, 0), want);
    }

    private static void plain() {
        sentence("0 PLAIN: so strong; twice, if it is CRAVED");
        nose(PLAIN, 5, 1, 1, 1);
        nose(PLAIN, 5, 5, 1, 2);
        nose(PLAIN, 5, 1, 30, 30);
        nose(PLAIN, 5, 5, 30, 60);
        nose(PLAIN, 0, 0, 30, 60);
        nose(PLAIN, 1, 0, 30, 30);
    }

    private static void cold() {
        sentence("1 COLD (under PLAIN): half (cut) of PLAIN");
        nose(COLD, 5, 1, 1, 0);
        nose(COLD, 5, 1, 2, 1);
        nose(COLD, 5, 1, 3, 1);
        nose(COLD, 5, 1, 29, 14);
        nose(COLD, 5, 1, 30, 15);
        nose(COLD, 5, 5, 1, 1);
        nose(COLD, 5, 5, 29, 29);
        nose(COLD, 0, 0, 30, 30);
    }

    private static void onionEaters() {
        sentence("2 ONION EATERS (under PLAIN): 0 for SMELL 0, else as PLAIN");
        nose(ONION_EATERS, 5, 0, 30, 0);
        nose(ONION_EATERS, 0, 0, 30, 0);
        nose(ONION_EATERS, 5, 1, 1, 1);
        nose(ONION_EATERS, 5, 1, 30, 30);
        nose(ONION_EATERS, 5, 5, 30, 60);
        nose(ONION_EATERS, 1, 1, 30, 60);
    }

    private static void pious() {
        sentence("3 PIOUS (under PLAIN): 0 on DAYS whose number by 7 left over is 5, else as PLAIN");
        x.street(PIOUS, 0, 5);
        x.dish(1, 9, 0);
        x.dish(5, 4, 0);
        x.dish(0, 3, 0);
        for (int day = 0; day <= 34; day++) {
            boolean shut = day == 5 || day == 12 || day == 19 || day == 26 || day == 33;
            due("9 on day " + day, x.moved(0, 0), shut ? 0 : 9);
            due("twice 4 on day " + day, x.moved(1, 0), shut ? 0 : 8);
            due("an onion on day " + day, x.moved(2, 0), shut ? 0 : 3);
            x.day(NONE);
        }
    }

    private static void bakers() {
        sentence("4 BAKERS (under ONION EATERS): 3 less than ONION EATERS, 0 at least");
        nose(BAKERS, 5, 1, 1, 0);
        nose(BAKERS, 5, 1, 2, 0);
        nose(BAKERS, 5, 1, 3, 0);
        nose(BAKERS, 5, 1, 4, 1);
        nose(BAKERS, 5, 1, 30, 27);
        nose(BAKERS, 5, 5, 1, 0);
        nose(BAKERS, 5, 5, 2, 1);
        nose(BAKERS, 5, 5, 30, 57);
        nose(BAKERS, 5, 0, 30, 0);
        nose(BAKERS, 0, 0, 30, 0);
    }

    private static void homesick() {
        sentence("5 HOMESICK (under COLD): as COLD");
        nose(HOMESICK, 5, 1, 1, 0);
        nose(HOMESICK, 5, 1, 2, 1);
        nose(HOMESICK, 5, 1, 29, 14);
        nose(HOMESICK, 5, 5, 1, 1);
        nose(HOMESICK, 5, 5, 30, 30);
        nose(HOMESICK, 0, 0, 30, 30);
    }

    private static void homesickByDays() {
        sentence("and 2 for each of the c DAYS, where COLD is above 0");
        x.street(HOMESICK, 0, 5);
        x.dish(1, 1, 0);
        x.dish(1, 2, 0);
        x.dish(2, 2, 0);
        x.dish(1, 30, 0);
        for (int c = 0; c <= 12; c++) {
            due("cold 0 on day " + c, x.moved(0, 0), 0);
            due("cold 1 on day " + c, x.moved(1, 0), 1 + 2 * c);
            due("cold 15 on day " + c, x.moved(3, 0), 15 + 2 * c);
            due("another smell on day " + c, x.moved(2, 0), 1);
            due("what is smelt opens nothing by itself", x.day(0), 0);
        }
        x.day(NONE);
        due("behind a day of none", x.moved(1, 0), 1);
        x.town();
        x.street(HOMESICK, 0, 1);
        x.dish(1, 1, 0);
        x.day(0);
        due("a craved 1 is a cold 1", x.moved(0, 0), 3);
        x.town();
        x.street(COLD, 0, 5);
        x.dish(1, 4, 0);
        x.day(0);
        due("those with colds count no days", x.moved(0, 0), 2);
    }

    private static void smelt(String when, int smell, int days) {
        due(when + ": the smell", x.of(0, 4), smell);
        due(when + ": on how many days", x.of(0, 5), days);
    }

    private static void theSameSmell() {
        sentence("if it has been smelt there on c DAYS ahead on end (the same SMELL)");
        plainStreets(2);
        x.gate(3, 1);
        x.dish(0, 1, 0);
        x.dish(1, 1, 0);
        x.dish(0, 3, 0);
        smelt("at first", NONE, 0);
        x.day(0);
        smelt("day 0, smell 0", 0, 1);
        x.day(2);
        smelt("day 1, the same of another dish", 0, 2);
        x.day(1);
        smelt("day 2, another", 1, 1);
        x.day(1);
        smelt("day 3, it blows elsewhere", NONE, 0);
        due("there it was smelt", x.of(1, 5), 1);
        x.day(1);
        smelt("day 4, again", 1, 1);
        x.day(1);
        smelt("day 5, once more", 1, 2);
        x.day(NONE);
        smelt("day 6, none", NONE, 0);
    }

    /** So strong a dish does not open, by one more it does. */
    private static void opensAbove(int kind, int craves, int smell, int strong) {
        for (int more = 0; more <= 1; more++) {
            x = new KitchenSiege();
            x.street(kind, 0, craves);
            x.dish(smell, strong + more, 0);
            String of = "kind " + kind + ", smell " + smell + " of " + (strong + more) + ", " + craves + " is craved";
            due(of, x.day(0), more);
            due(of + ", since", x.of(0, 3), more == 1 ? 0 : NONE);
            due(of + ", falls", x.count(3), more);
        }
    }

    private static void tenOrMore() {
        sentence("in each STREET that is shut, MOVED 10 or more, a window OPENS");
        opensAbove(PLAIN, 5, 1, 9);
        opensAbove(PLAIN, 5, 5, 4);
        opensAbove(PLAIN, 0, 0, 4);
        opensAbove(COLD, 5, 1, 19);
        opensAbove(COLD, 5, 5, 9);
        opensAbove(ONION_EATERS, 5, 1, 9);
        opensAbove(ONION_EATERS, 1, 1, 4);
        opensAbove(PIOUS, 5, 1, 9);
        opensAbove(PIOUS, 0, 0, 4);
        opensAbove(BAKERS, 5, 1, 12);
        opensAbove(BAKERS, 5, 5, 6);
        opensAbove(HOMESICK, 5, 1, 19);
        opensAbove(HOMESICK, 5, 5, 9);
    }

    private static void tenByDaysAhead() {
        sentence("MOVED 10 or more: by days ahead");
        x.street(HOMESICK, 0, 5);
        x.dish(1, 14, 0);
        due("7", x.day(0), 0);
        due("9", x.day(0), 0);
        due("11", x.day(0), 1);
        sentence("MOVED 10 or more: by days ahead, 10 itself");
        x.street(HOMESICK, 0, 5);
        x.dish(1, 16, 0);
        due("8", x.day(0), 0);
        due("10", x.day(0), 1);
    }

    private static void allAtOnce() {
        sentence("in each STREET: all of a full town on one day");
        plainStreets(8);
        for (int i = 0; i < 7; i++) {
            x.lane(i, i + 1);
        }
        x.dish(1, 24, 0);
        x.dish(1, 23, 0);
        x.image(0);
        due("24, .., 10", x.day(0), 255);
        due("all are open", x.count(3), 8);
        due("none opens again", x.day(0), 0);
        x.from(0);
        due("23, .., 9", x.day(1), 127);
        due("none at all", x.day(NONE), 0);
        due("the last", x.day(0), 128);
    }

    private static void lostOnThatDay() {
        sentence("it is lost on that DAY");
        plainStreets(3);
        x.gate(1, 1);
        x.dish(1, 10, 0);
        due("the first day", x.day(0), 1);
        due("since day 0", x.of(0, 3), 0);
        due("the second", x.day(0), 2);
        due("since day 1", x.of(1, 3), 1);
        for (int i = 2; i < 101; i++) {
            x.day(NONE);
        }
        x.gate(1, 2);
        due("the hundred and second", x.day(0), 4);
        due("since day 101", x.of(2, 3), 101);
        due("the first stays lost on day 0", x.of(0, 3), 0);
        x.gate(2, 0);
        due("an open one does not open", x.day(0), 0);
        due("nor is it lost anew", x.of(0, 3), 0);
    }

    private static void oneDayMore() {
        sentence("Then the DAY is one more");
        due("day 0 at first", x.count(2), 0);
        x.day(NONE);
        due("a day with none", x.count(2), 1);
        plainStreets(1);
        x.dish(1, 10, 0);
        x.day(0);
        due("a day with a dish", x.count(2), 2);
        due("a dish that is none", x.day(1), BAD);
        due("-2", x.day(-2), BAD);
        due("no day for these", x.count(2), 2);
    }

    private static void smeltOneDayMore() {
        sentence("where the SMELL came (above 0), it was smelt one DAY more on end");
        plainStreets(2);
        x.lane(0, 1);
        x.dish(0, 3, 0);
        x.dish(0, 2, 0);
        x.dish(0, 30, 0);
        x.day(0);
        due("3 at the gate", x.of(0, 5), 1);
        due("1 beside", x.of(1, 5), 1);
        due("it is smell 0, not none", x.of(1, 4), 0);
        x.day(1);
        due("2 at the gate", x.of(0, 5), 2);
        due("0 beside", x.of(1, 5), 0);
        due("none beside", x.of(1, 4), NONE);
        x.day(2);
        due("on the day that it opens", x.of(0, 5), 3);
        x.day(2);
        due("in an open one, too", x.of(0, 5), 4);
    }

    private static void elsewhereOnNone() {
        sentence("elsewhere on none");
        plainStreets(1);
        x.street(PLAIN, 9, 5);
        x.gate(1, 1);
        x.dish(1, 9, 0);
        x.day(0);
        x.day(0);
        due("day 1 blows elsewhere", x.of(0, 5), 0);
        due("no smell", x.of(0, 4), NONE);
        due("there the wall keeps all of it off", x.of(1, 5), 0);
        due("no smell there", x.of(1, 4), NONE);
        x.day(0);
        x.day(0);
        due("two days again", x.of(0, 5), 2);
        x.day(NONE);
        due("a day without a dish", x.of(0, 5), 0);
    }
}
