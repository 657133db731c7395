/**
 * What to cook: smells, falls, rows, sets, answers and games; each sentence of the document that
 * names a boundary case, by a test of its own, with answers worked by hand.
 */
public final class ReckonEdgeTest {
    private static final int NONE = -1, BAD = -2, BAD_TEN = -10, NOT_SO_MANY = -5, DAYS = -1, BUTTER = -2;
    private static final int PLAIN = 0, ONION_EATERS = 2, PIOUS = 3, HOMESICK = 5;
    private static final Check CHECK = new Check();
    private static KitchenSiege x;

    private ReckonEdgeTest() {
    }

    public static void main(String[] args) {
        nothingChanged();
        theLastOfAll();
        smells();
        falls();
        order();
        never();
        least();
        answer();
        game();
        CHECK.end();
    }

    private static void smells() {
        noGate();
        strongest();
        movedNow();
    }

    private static void falls() {
        fallsFromNow();
        fallsByWind();
        fallsLast();
        fallsNever();
        fallsAnew();
        fallsOpen();
    }

    private static void order() {
        rowOfOne();
        rowOfFour();
        onceAtMost();
        oneEachDay();
        oneEachPiousDay();
        aGapInARow();
        fewestDays();
        leastButter();
        firstRow();
        mostButter();
        rowOfNone();
        rowOfAnOpenOne();
        placesOfARow();
    }

    private static void never() {
        neverOfNone();
        neverOfAll();
        neverOfTheOpen();
        neverAhead();
        neverByDays();
    }

    private static void least() {
        leastOfNone();
        leastOfAll();
        leastNone();
        leastFewer();
        leastBits();
        leastOfFourDays();
        leastAhead();
    }

    private static void answer() {
        sheets();
        sheetsOnAHighWall();
        leastStreet();
        lastStreet();
        onlyTheShut();
        noneIsShut();
    }

    private static void game() {
        gameOfNone();
        gameOfAll();
        gameOfOne();
        gameOfOpenStreets();
        gameOfOnePair();
        gameOfTwoCravings();
        gameOfSheets();
    }

    private static void sentence(String words) {
        CHECK.part(words);
        x = new KitchenSiege();
    }

    private static void due(String call, long got, long want) {
        CHECK.due(call, got, want);
    }

    private static void plainStreets(int n) {
        for (int i = 0; i < n; i++) {
            x.street(PLAIN, 0, 5);
        }
    }

    private static void allGates(int street) {
        for (int w = 0; w < 4; w++) {
            x.gate(w, street);
        }
    }

    private static void days(int n) {
        for (int i = 0; i < n; i++) {
            x.day(NONE);
        }
    }

    /** A gate and five streets about it; dish k opens the street k, that craves it, and no other. */
    private static void eachByItsOwn(int butter) {
        for (int k = 0; k < 6; k++) {
            x.street(PLAIN, 0, k);
            x.dish(k, k == 0 ? 7 : 9, butter);
        }
        for (int k = 1; k < 6; k++) {
            x.lane(0, k);
        }
    }

    private static void nothingChanged() {
        for (int size = 0; size < 3; size++) {
            sentence("Nothing is changed by these: town " + size);
            x = size == 0 ? Towns.empty() : size == 1 ? Towns.middle() : Towns.full();
            KitchenSiege like = size == 0 ? Towns.empty() : size == 1 ? Towns.middle() : Towns.full();
            for (int street = 0; street < 8; street++) {
                int dish = street % 6;
                x.smells(dish, street % 4, street);
                x.moved(dish, street);
                x.falls(dish, street);
                x.order(street, DAYS);
                x.answer(dish, 9, 0);
                x.answer(dish, 3, 1);
                x.of(street, 3);
                x.craved(street);
                x.is(street);
                x.tryNext(street, 60, 99);
            }
            x.never();
            x.least();
            x.game(9);
            x.sieges(999999, 60);
            due("all", Towns.seen(x), Towns.seen(like));
        }
    }

    private static void theLastOfAll() {
        sentence("STREETS 0 .. 7, DISHES 0 .. 5: the last dish, the last street");
        plainStreets(8);
        for (int i = 0; i < 7; i++) {
            x.lane(i, i + 1);
        }
        for (int i = 0; i < 6; i++) {
            x.dish(i % 5, 19 + i, i);
        }
        due("smells", x.smells(5, 3, 7), 10);
        due("moved", x.moved(5, 7), 10);
        due("falls", x.falls(5, 7), 1);
        due("falls by the one ahead", x.falls(4, 7), NONE);
        due("the row's dish", x.order(7, 0), 5);
        due("its butter", x.order(7, BUTTER), 5);
        due("never", x.never(), 0);
        due("least", x.least(), 32);
        due("by one sheet one is kept shut, wherever", x.answer(5, 1, 0), 0);
        due("seven open then", x.answer(5, 1, 1), 7);
        due("by nine in 0: 15, 13, 11, 9", x.answer(5, 9, 1), 3);
        due("moved", x.moved(6, 7), BAD);
        due("moved", x.moved(5, 8), BAD);
        due("all open", x.day(5), 255);
        due("the last since", x.of(7, 3), 0);
    }

    private static void noGate() {
        sentence("how strong in a STREET (0, if the GATE is no STREET that is there)");
        x.dish(1, 30, 0);
        due("no street, no gate", x.smells(0, 0, 0), BAD);
        x.street(PLAIN, 0, 5);
        for (int w = 0; w < 4; w++) {
            due("the first is the gate of all", x.smells(0, w, 0), 30);
        }
        x.street(PLAIN, 0, 5);
        x.gate(3, 1);
        x.town();
        x.street(PLAIN, 0, 5);
        x.dish(1, 30, 0);
        due("and again behind a town", x.smells(0, 3, 0), 30);
        due("and no other", x.smells(0, 3, 1), BAD);
    }

    private static void strongest() {
        sentence("SMELLS of a DISH with a WIND: the least and the most");
        x.street(PLAIN, 0, 5);
        x.street(PLAIN, 9, 5);
        x.dish(1, 30, 0);
        x.dish(1, 1, 0);
        x.gate(3, 1);
        due("30 by the first wind", x.smells(0, 0, 0), 30);
        due("1 by it", x.smells(1, 0, 0), 1);
        due("21 by the last", x.smells(0, 3, 1), 21);
        due("0 by it", x.smells(1, 3, 1), 0);
        x.wind(0, 3);
        due("the wind, not the day", x.smells(0, 0, 0), 30);
    }

    private static void movedNow() {
        sentence("How much a STREET would be MOVED now by a DISH");
        x.street(HOMESICK, 0, 5);
        x.street(PLAIN, 0, 5);
        x.gate(1, 1);
        x.dish(5, 30, 0);
        due("a cold 30", x.moved(0, 0), 30);
        due("not there", x.moved(0, 1), 0);
        x.day(0);
        due("twice 30 in the other", x.moved(0, 1), 60);
        due("nothing in the first, on one day ahead", x.moved(0, 0), 0);
        x.gate(1, 0);
        due("an open one, too", x.moved(0, 0), 32);
    }

    private static void fallsFromNow() {
        sentence("in how many DAYS (1 .. 30) from now a STREET OPENS");
        x.street(HOMESICK, 0, 5);
        x.dish(1, 20, 0);
        x.dish(1, 19, 0);
        x.dish(1, 2, 0);
        x.dish(2, 2, 0);
        due("10", x.falls(0, 0), 1);
        due("9, 11", x.falls(1, 0), 2);
        due("1, 3, 5, 7, 9, 11", x.falls(2, 0), 6);
        x.day(2);
        due("one day ahead of it", x.falls(1, 0), 1);
        due("five of six are left", x.falls(2, 0), 5);
        due("another smell", x.falls(3, 0), 6);
        x.day(NONE);
        due("behind a day of none", x.falls(2, 0), 6);
    }

    private static void fallsByWind() {
        sentence("FALLS by a DISH each DAY: by the winds of the days");
        plainStreets(4);
        for (int w = 0; w < 4; w++) {
            x.gate(w, w);
        }
        x.dish(1, 10, 0);
        for (int day = 0; day < 9; day++) {
            for (int k = 0; k < 4; k++) {
                due("street " + k + " from day " + day, x.falls(0, k), (k - day % 4 + 4) % 4 + 1);
            }
            x.day(NONE);
        }
    }

    private static void fallsLast() {
        sentence("FALLS by a DISH each DAY: the latest that there are");
        x.street(HOMESICK, 0, 5);
        plainStreets(1);
        x.lane(0, 1);
        allGates(1);
        x.gate(0, 0);
        x.dish(1, 3, 0);
        // Cold 1 on days of wind 0, on the others 1 is smelt, a cold 0: 1, 0 0 0, 9, 0 0 0, 17.
        due("in nine days", x.falls(0, 0), 9);
        x.town();
        x.street(PIOUS, 0, 5);
        plainStreets(1);
        allGates(1);
        x.gate(1, 0);
        x.dish(1, 10, 0);
        days(2);
        due("day 5 is a pious one, day 9 is in eight", x.falls(0, 0), 8);
        days(3);
        due("in five", x.falls(0, 0), 5);
        days(4);
        due("now", x.falls(0, 0), 1);
    }

    private static void fallsNever() {
        sentence("FALLS: none");
        x.street(PLAIN, 0, 5);
        x.street(HOMESICK, 0, 5);
        x.street(HOMESICK, 9, 5);
        x.dish(1, 9, 0);
        x.dish(1, 1, 0);
        due("9 always", x.falls(0, 0), NONE);
        due("no lane", x.falls(0, 1), NONE);
        allGates(1);
        due("a cold 0 always", x.falls(1, 1), NONE);
        allGates(2);
        due("a wall of 9", x.falls(0, 2), NONE);
        allGates(1);
        x.gate(3, 0);
        x.dish(1, 9, 0);
        due("4, 6, 8, none, 4 ..", x.falls(2, 1), NONE);
    }

    private static void fallsAnew() {
        sentence("FALLS: on a DAY on which the SMELL does not come it is smelt on none");
        x.street(HOMESICK, 0, 5);
        x.street(PLAIN, 0, 5);
        x.gate(1, 1);
        x.dish(1, 16, 0);
        x.dish(1, 14, 0);
        due("8, none, 8, 10", x.falls(0, 0), 4);
        due("7, none, 7, 9, 11", x.falls(1, 0), 5);
        x.gate(3, 1);
        due("8, none, 8, none", x.falls(0, 0), NONE);
        x.day(0);
        due("one day ahead, but none now", x.falls(0, 0), NONE);
        x.gate(1, 0);
        due("one day ahead, and now", x.falls(0, 0), 1);
    }

    private static void fallsOpen() {
        sentence("FALLS: it is open: 0");
        plainStreets(2);
        x.dish(1, 10, 0);
        x.dish(1, 1, 0);
        x.day(0);
        due("by what opened it", x.falls(0, 0), 0);
        due("by what would not", x.falls(1, 0), 0);
        due("the other", x.falls(1, 1), NONE);
        x.undo();
        due("shut again", x.falls(0, 0), 1);
        due("never by the weak one", x.falls(1, 0), NONE);
    }

    /** The row for street 0: its days, its butter, its dishes, and none behind them. */
    private static void row(int butter, int... dishes) {
        due("days", x.order(0, DAYS), dishes.length);
        due("butter", x.order(0, BUTTER), butter);
        for (int i = 0; i < dishes.length; i++) {
            due("dish " + i, x.order(0, i), dishes[i]);
        }
        due("not so many", x.order(0, dishes.length), NOT_SO_MANY);
    }

    private static void noRow() {
        for (int i = -2; i <= 5; i++) {
            due("order " + i, x.order(0, i), NONE);
        }
    }

    private static void dishesOf(int n, int smell, int strong, int butter) {
        for (int i = 0; i < n; i++) {
            x.dish(smell, strong, butter);
        }
    }

    private static void rowOfOne() {
        sentence("rows of unlike DISHES (1 to 4): one");
        plainStreets(1);
        x.dish(1, 9, 0);
        noRow();
        x.dish(1, 10, 9);
        row(9, 1);
        x.town();
        plainStreets(1);
        dishesOf(5, 1, 9, 0);
        x.dish(1, 10, 9);
        row(9, 5);
        x.town();
        plainStreets(1);
        x.dish(1, 10, 8);
        row(8, 0);
    }

    private static void rowOfFour() {
        sentence("rows of unlike DISHES (1 to 4): four, not five");
        x.street(HOMESICK, 0, 5);
        dishesOf(6, 1, 6, 1);
        // 3, 5, 7, 9: a fifth day would open it.
        noRow();
        due("by each day the same it falls in five", x.falls(0, 0), 5);
        x.day(0);
        row(4, 0, 1, 2, 3);
        sentence("rows of unlike DISHES (1 to 4): four");
        x.street(HOMESICK, 0, 5);
        dishesOf(6, 1, 8, 1);
        row(4, 0, 1, 2, 3);
    }

    private static void onceAtMost() {
        sentence("each once at most");
        x.street(HOMESICK, 0, 5);
        dishesOf(3, 1, 8, 1);
        noRow();
        due("the same each day", x.falls(0, 0), 4);
        x.dish(1, 8, 1);
        row(4, 0, 1, 2, 3);
    }

    private static void oneEachDay() {
        sentence("one each DAY from now on");
        plainStreets(2);
        allGates(1);
        x.gate(1, 0);
        x.dish(1, 10, 2);
        x.dish(2, 10, 3);
        x.dish(3, 1, 1);
        // Only on days of wind 1 it comes to street 0.
        row(3, 2, 0);
        days(1);
        row(2, 0);
        days(1);
        due("day 5 is the fourth", x.order(0, DAYS), NONE);
        x.dish(4, 1, 9);
        row(15, 0, 2, 3, 1);
        days(1);
        row(6, 0, 2, 1);
    }

    private static void oneEachPiousDay() {
        sentence("one each DAY from now on: on a pious one it does not open");
        x.street(PIOUS, 0, 5);
        x.street(PLAIN, 0, 5);
        x.dish(1, 10, 1);
        days(5);
        noRow();
        x.dish(2, 10, 2);
        row(3, 0, 1);
        x.gate(2, 1);
        noRow();
        x.dish(3, 1, 0);
        x.dish(4, 1, 0);
        // Day 5 is a pious one, on day 6 it blows elsewhere, on day 7 it opens.
        row(1, 2, 3, 0);
        x.gate(3, 1);
        due("day 8 of wind 0", x.order(0, DAYS), 4);
        x.town();
        x.street(PIOUS, 0, 5);
        x.street(PLAIN, 0, 5);
        x.gate(0, 1);
        dishesOf(2, 1, 10, 0);
        days(4);
        // Day 4 blows elsewhere, day 5 is a pious one.
        noRow();
        x.dish(1, 10, 0);
        row(0, 0, 1, 2);
    }

    private static void aGapInARow() {
        sentence("one each DAY from now on: where it does not come it is smelt on none");
        x.street(HOMESICK, 0, 5);
        x.street(PLAIN, 0, 5);
        x.gate(1, 1);
        x.gate(3, 1);
        dishesOf(6, 1, 16, 1);
        // 8, none, 8, none.
        noRow();
        x.gate(3, 0);
        row(4, 0, 1, 2, 3);
        x.day(0);
        // None, 8, 10.
        row(3, 0, 1, 2);
        x.gate(1, 0);
        row(1, 0);
    }

    private static void fewestDays() {
        sentence("the fewest DAYS");
        x.street(HOMESICK, 0, 5);
        x.dish(1, 16, 0);
        x.dish(1, 16, 0);
        row(0, 0, 1);
        x.dish(1, 20, 9);
        row(9, 2);
        x.dish(2, 30, 9);
        row(9, 2);
    }

    private static void leastButter() {
        sentence("of like ones of least BUTTER");
        x.street(HOMESICK, 0, 5);
        x.dish(1, 16, 5);
        x.dish(1, 16, 6);
        row(11, 0, 1);
        x.dish(1, 2, 2);
        row(7, 2, 0);
        x.dish(1, 1, 1);
        row(6, 3, 0);
        x.dish(1, 16, 4);
        row(5, 3, 4);
    }

    private static void firstRow() {
        sentence("then the first row");
        x.street(HOMESICK, 0, 5);
        x.dish(1, 16, 1);
        x.dish(1, 16, 1);
        row(2, 0, 1);
        x.dish(1, 2, 0);
        x.dish(1, 2, 0);
        // Rows of butter 1: 2 0, 2 1, 3 0, 3 1.
        row(1, 2, 0);
        x.dish(1, 20, 1);
        row(1, 4);
        x.dish(1, 20, 1);
        row(1, 4);
    }

    private static void mostButter() {
        sentence("how much BUTTER: the most and the least");
        x.street(HOMESICK, 0, 5);
        dishesOf(4, 1, 8, 9);
        row(36, 0, 1, 2, 3);
        x.town();
        x.street(HOMESICK, 0, 5);
        dishesOf(4, 1, 8, 0);
        row(0, 0, 1, 2, 3);
    }

    private static void rowOfNone() {
        sentence("ORDER: none");
        due("no street", x.order(0, DAYS), BAD_TEN);
        plainStreets(1);
        noRow();
        x.dish(1, 30, 0);
        row(0, 0);
        allGates(0);
        x.street(PLAIN, 9, 0);
        due("no lane to the other", x.order(1, DAYS), NONE);
        due("none behind none", x.order(1, Integer.MAX_VALUE), NONE);
    }

    private static void rowOfAnOpenOne() {
        sentence("open: 0 DAYS, 0 BUTTER");
        plainStreets(1);
        x.dish(1, 30, 9);
        row(9, 0);
        x.day(0);
        row(0);
        x.undo();
        row(9, 0);
        x.day(0);
        x.town();
        x.street(PLAIN, 0, 0);
        noRow();
    }

    private static void placesOfARow() {
        sentence("DAYS (i = NONE), BUTTER (i = -2), the i-th DISH. -5: not so many");
        plainStreets(1);
        x.dish(1, 9, 1);
        x.dish(1, 10, 7);
        due("-3", x.order(0, -3), BAD_TEN);
        due("the least number", x.order(0, Integer.MIN_VALUE), BAD_TEN);
        due("-2", x.order(0, -2), 7);
        due("NONE", x.order(0, NONE), 1);
        due("0", x.order(0, 0), 1);
        for (int i = 1; i <= 6; i++) {
            due("" + i, x.order(0, i), NOT_SO_MANY);
        }
        due("the greatest number", x.order(0, Integer.MAX_VALUE), NOT_SO_MANY);
        due("only two were BAD", x.status(0), 2);
    }

    private static void neverOfNone() {
        sentence("NEVER: no streets");
        due("none", x.never(), 0);
        x.dish(1, 30, 0);
        due("a dish, no street", x.never(), 0);
        plainStreets(1);
        due("it opens", x.never(), 0);
    }

    private static void neverOfAll() {
        sentence("NEVER: STREETS (bits; shut) that no one DISH OPENS");
        plainStreets(8);
        due("no dishes", x.never(), 255);
        x.dish(1, 9, 0);
        due("9", x.never(), 255);
        x.dish(1, 10, 0);
        due("10 in the first", x.never(), 254);
        x.gate(3, 7);
        due("and in the last", x.never(), 126);
        x.dish(5, 5, 0);
        x.gate(2, 6);
        due("by another", x.never(), 62);
    }

    private static void neverOfTheOpen() {
        sentence("NEVER: shut ones");
        plainStreets(2);
        x.dish(1, 10, 0);
        x.day(0);
        x.gate(0, 1);
        allGates(1);
        due("0 is open, though nothing would open it", x.never(), 0);
        allGates(0);
        due("1 is not", x.never(), 2);
        x.undo();
        due("undone", x.never(), 2);
        allGates(1);
        due("0 is shut again", x.never(), 1);
    }

    private static void neverAhead() {
        sentence("were it alone on that DAY (smelt on no DAY ahead)");
        x.street(HOMESICK, 0, 5);
        x.dish(1, 19, 0);
        x.day(0);
        x.image(0);
        due("11 now", x.moved(0, 0), 11);
        due("but 9 alone", x.never(), 1);
        due("it would fall", x.falls(0, 0), 1);
        x.dish(1, 20, 0);
        due("10 alone", x.never(), 0);
    }

    private static void neverByDays() {
        sentence("on any of the next 28 DAYS");
        x.street(PIOUS, 0, 5);
        plainStreets(1);
        x.dish(1, 10, 0);
        allGates(1);
        x.gate(1, 0);
        for (int day = 0; day < 35; day++) {
            due("some day of wind 1 is not a pious one, from day " + day, x.never(), 0);
            x.day(NONE);
        }
        x.gate(1, 1);
        due("no wind comes there", x.never(), 1);
        x.gate(3, 0);
        x.wind(3, 1);
        due("no day has the wind 3", x.never(), 1);
        x.wind(2, 3);
        due("one day of four has", x.never(), 0);
    }

    private static void leastOfNone() {
        sentence("TOWN: each STREET that is shut: there is none");
        due("no streets", x.least(), 0);
        x.dish(1, 10, 0);
        due("a dish, no streets", x.least(), 0);
        plainStreets(1);
        due("one", x.least(), 1);
        x.day(0);
        due("all are open", x.least(), 0);
    }

    private static void leastOfAll() {
        sentence("TOWN: the set of DISHES (bits): all of them");
        eachByItsOwn(9);
        due("each opens one", x.least(), 63);
        x.day(0);
        due("but the first", x.least(), 62);
        x.day(5);
        due("but the last", x.least(), 30);
    }

    private static void leastNone() {
        sentence("TOWN: none");
        plainStreets(8);
        due("no dishes", x.least(), NONE);
        x.dish(1, 30, 0);
        due("seven are not reached", x.least(), NONE);
        for (int i = 1; i < 7; i++) {
            x.lane(0, i);
        }
        due("one is not", x.least(), NONE);
        x.lane(0, 7);
        due("all", x.least(), 1);
    }

    private static void leastFewer() {
        sentence("of least BUTTER; of like ones fewer DISHES");
        plainStreets(2);
        x.gate(1, 1);
        x.dish(1, 9, 0);
        x.dish(5, 5, 4);
        due("one by 5", x.least(), 2);
        x.street(PLAIN, 0, 1);
        x.gate(2, 2);
        // Street 2 craves 1: dish 0 opens it for no butter.
        due("two of them", x.least(), 3);
        x.dish(2, 10, 4);
        due("one of as much", x.least(), 4);
        x.dish(2, 10, 5);
        due("not one of more", x.least(), 4);
        x.dish(5, 6, 3);
        due("two of less", x.least(), 17);
        x.town();
        plainStreets(1);
        x.dish(1, 9, 0);
        x.dish(1, 10, 0);
        due("no dish for nothing", x.least(), 2);
    }

    private static void leastBits() {
        sentence("then the least bits");
        plainStreets(1);
        dishesOf(6, 1, 10, 3);
        due("the first of six", x.least(), 1);
        x.town();
        x.street(PLAIN, 0, 1);
        x.street(PLAIN, 0, 2);
        x.lane(0, 1);
        allGates(1);
        x.dish(1, 7, 0);
        x.dish(2, 8, 0);
        x.dish(2, 8, 0);
        x.dish(1, 7, 0);
        due("of 0 1, 0 2, 1 3, 2 3", x.least(), 3);
        x.town();
        x.street(ONION_EATERS, 0, 1);
        x.street(PLAIN, 0, 2);
        x.street(PLAIN, 2, 3);
        x.gate(1, 1);
        x.gate(2, 2);
        x.dish(1, 5, 1);
        x.dish(4, 10, 1);
        x.dish(3, 7, 1);
        x.dish(0, 12, 1);
        // They open 0; 0 and 1; 2; 1 and 2.
        due("of 0 3, 1 2, 1 3: 9, 6, 10", x.least(), 6);
        x.town();
        x.street(PLAIN, 0, 1);
        x.street(PLAIN, 0, 2);
        x.lane(0, 1);
        allGates(1);
        x.dish(1, 7, 0);
        x.dish(1, 7, 1);
        x.dish(2, 8, 0);
        x.dish(2, 9, 1);
        due("of 0 2: less butter is ahead of less bits", x.least(), 5);
    }

    private static void leastOfFourDays() {
        sentence("that DISH being on alone on one of the next 4 DAYS");
        x.street(PIOUS, 0, 5);
        plainStreets(1);
        allGates(1);
        x.gate(3, 0);
        x.dish(1, 10, 0);
        for (int day = 0; day <= 24; day++) {
            // Of days of the wind 3 (3, 7, 11, 15, 19, 23) 19 is a pious one: by 7 it leaves 5 over.
            due("from day " + day, x.least(), day >= 16 && day <= 19 ? NONE : 1);
            x.day(NONE);
        }
    }

    private static void leastAhead() {
        sentence("TOWN: smelt on none ahead");
        x.street(HOMESICK, 0, 5);
        x.dish(1, 19, 0);
        x.day(0);
        due("11 now, but 9 alone", x.least(), NONE);
        due("a row opens it", x.order(0, DAYS), 1);
        x.dish(1, 20, 9);
        due("10 alone", x.least(), 2);
    }

    private static void answers(int dish, int n, int street, int open) {
        due("where, by " + n, x.answer(dish, n, 0), street);
        due("how many open then, by " + n, x.answer(dish, n, 1), open);
    }

    private static void sheets() {
        sentence("its WALL is n more, 0 .. 9");
        plainStreets(1);
        x.dish(1, 18, 0);
        x.dish(1, 19, 0);
        due("-1", x.answer(0, -1, 0), BAD);
        due("10", x.answer(0, 10, 0), BAD);
        answers(0, 0, 0, 1);
        answers(0, 8, 0, 1);
        answers(0, 9, 0, 0);
        answers(1, 9, 0, 1);
        due("the wall is as it was", x.of(0, 1), 0);
    }

    private static void sheetsOnAHighWall() {
        sentence("its WALL is n more: above 9, too");
        x.street(PLAIN, 9, 5);
        x.dish(1, 27, 0);
        x.dish(1, 28, 0);
        x.dish(1, 1, 0);
        answers(0, 9, 0, 0);
        answers(0, 8, 0, 1);
        answers(1, 9, 0, 1);
        answers(2, 9, 0, 0);
    }

    private static void leastStreet() {
        sentence("where that keeps most STREETS from OPENING now; of like ones the least");
        plainStreets(8);
        for (int i = 1; i < 8; i++) {
            x.lane(0, i);
        }
        x.dish(1, 30, 0);
        x.dish(1, 9, 0);
        x.dish(1, 12, 0);
        answers(0, 0, 0, 8);
        answers(0, 9, 0, 8);
        answers(1, 9, 0, 0);
        answers(2, 1, 0, 1);
        answers(2, 3, 0, 0);
        x.gate(0, 3);
        answers(2, 0, 0, 2);
        answers(2, 1, 0, 1);
        answers(2, 2, 0, 1);
        // By 3 the gate itself does not open any more: 9, and 7 beside.
        answers(2, 3, 3, 0);
    }

    private static void lastStreet() {
        sentence("the STREET that is shut where that keeps most: the last");
        plainStreets(8);
        for (int i = 0; i < 7; i++) {
            x.lane(i, 7);
        }
        allGates(7);
        x.dish(1, 12, 0);
        answers(0, 0, 0, 8);
        answers(0, 1, 7, 1);
        answers(0, 3, 7, 0);
    }

    private static void onlyTheShut() {
        sentence("the STREET that is shut; how many OPEN then");
        plainStreets(3);
        x.lane(0, 1);
        x.lane(0, 2);
        x.dish(1, 11, 0);
        x.dish(1, 14, 0);
        x.day(0);
        due("0 is open", x.count(3), 1);
        answers(1, 9, 1, 1);
        answers(1, 0, 1, 2);
        answers(0, 9, 1, 0);
        x.undo();
        answers(1, 9, 0, 0);
    }

    private static void noneIsShut() {
        sentence("none: no STREET is shut");
        x.dish(1, 30, 0);
        answers(0, 9, NONE, NONE);
        plainStreets(1);
        answers(0, 9, 0, 1);
        x.day(0);
        answers(0, 9, NONE, NONE);
        answers(0, 0, NONE, NONE);
        due("a what that is none is BAD all the same", x.answer(0, 0, 2), BAD);
        plainStreets(1);
        answers(0, 9, 1, 0);
    }

    private static void gameOfNone() {
        sentence("GAME: one DISH, or none, such sheets in one STREET, or in none: there are none");
        due("nothing at all", x.game(0), 1);
        due("nothing at all", x.game(9), 1);
        due("-1", x.game(-1), BAD);
        due("10", x.game(10), BAD);
        dishesOf(6, 1, 30, 0);
        due("six dishes, or none, for no street", x.game(9), 7);
        x.town();
        plainStreets(8);
        due("no dish for eight streets, or none", x.game(9), 9);
    }

    private static void gameOfAll() {
        sentence("GAME: how many pairs of both rest: all of a full town");
        plainStreets(8);
        dishesOf(6, 1, 9, 0);
        due("none ever opens", x.game(9), 63);
        due("nor by no sheets", x.game(0), 63);
    }

    private static void gameOfOne() {
        sentence("GAME: neither would do better by doing otherwise");
        plainStreets(8);
        x.dish(1, 30, 0);
        dishesOf(5, 1, 9, 0);
        due("the first dish opens one, whatever is hung", x.game(9), 9);
        due("so by no sheets", x.game(0), 9);
        x.town();
        plainStreets(1);
        x.dish(1, 18, 0);
        due("by 9 sheets none opens: two dishes rest by the hung street", x.game(9), 2);
        due("by 8 one does: the dish rests by both", x.game(8), 2);
    }

    private static void gameOfOpenStreets() {
        sentence("such sheets in one STREET (open ones, too)");
        plainStreets(2);
        x.lane(0, 1);
        x.dish(1, 11, 0);
        x.dish(1, 14, 0);
        x.day(0);
        due("0 is open", x.count(3), 1);
        // 12 in 1; by sheets in 0 or in 1 it stays shut: three dishes rest by each of these.
        due("9 sheets", x.game(9), 6);
        // By 2 sheets it has 10 all the same: the strong dish rests by all three.
        due("2 sheets", x.game(2), 3);
        due("3 sheets", x.game(3), 6);
    }

    private static void gameOfOnePair() {
        sentence("GAME: how many pairs of both rest: one alone");
        plainStreets(3);
        x.lane(0, 1);
        x.lane(0, 2);
        x.dish(1, 12, 0);
        // 12, 10, 10: three open; by a sheet in 0 one, by one in 1 or in 2 two.
        due("the dish and 0", x.game(1), 1);
        x.dish(1, 11, 0);
        due("the weak one opens 0, too, but by no sheets it opens no more", x.game(1), 2);
    }

    private static void gameOfTwoCravings() {
        sentence("GAME: each of two dishes opens another street");
        x.street(PLAIN, 0, 1);
        x.street(PLAIN, 0, 2);
        x.lane(0, 1);
        x.dish(1, 9, 0);
        x.dish(2, 9, 0);
        // 18 in 0 of smell 1, 14 in 1 of smell 2; sheets in 0, the gate, keep both off.
        due("both and none rest by 0", x.game(9), 3);
        due("by 2 sheets 14 in 0, 10 in 1: both rest by all", x.game(2), 6);
    }

    private static void gameOfSheets() {
        sentence("GAME: by sheets of 0 to hang is as not to hang");
        plainStreets(2);
        x.lane(0, 1);
        x.dish(1, 12, 0);
        x.dish(1, 11, 0);
        due("the first opens two, wherever", x.game(0), 3);
        due("one sheet keeps one shut: in 0 or in 1", x.game(1), 2 + 2);
    }
}
