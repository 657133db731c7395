/**
 * Notes, cravings, the next dish to try, rain and sieges: each sentence of the document that names
 * a boundary case, by a test of its own, with answers worked by hand.
 */
public final class NoteEdgeTest {
    private static final int NONE = -1, BAD = -2, FULL = -4;
    private static final int PLAIN = 0, COLD = 1, ONION_EATERS = 2, PIOUS = 3, BAKERS = 4, HOMESICK = 5;
    private static final int ALL = 63;
    private static final Check CHECK = new Check();
    private static KitchenSiege x;

    private NoteEdgeTest() {
    }

    public static void main(String[] args) {
        notes();
        cravings();
        kinds();
        trials();
        rains();
        sieges();
        CHECK.end();
    }

    private static void notes() {
        sixNotes();
        numbersOfANote();
        noNotes();
        notesStay();
    }

    private static void cravings() {
        cravedWithoutNotes();
        cravedByTen();
        cravedByKind();
        cravedOnDays();
        cravedByNone();
        cravedElsewhere();
        notByWhatItCraves();
    }

    private static void kinds() {
        isWithoutNotes();
        isNone();
        isByOne();
        isByAnother();
    }

    private static void trials() {
        tryFirst();
        tryOnions();
        tryLast();
        tryNone();
        tryOnAPiousDay();
        tryBounds();
    }

    private static void rains() {
        noRain();
        allRain();
        eightStreets();
        moreThanThereAre();
        itGoesOn();
        rainOnTheOpen();
        rainByDaysAhead();
    }

    private static void sieges() {
        noDays();
        firstDays();
        sixtyDays();
        noSuchDish();
        openAhead();
        fromTheDayThatIs();
    }

    private static void sentence(String words) {
        CHECK.part(words);
        x = new KitchenSiege();
    }

    private static void due(String call, long got, long want) {
        CHECK.due(call, got, want);
    }

    private static void sixNotes() {
        sentence("NOTES 0 .. 5, as they come: how many there are");
        x.street(PLAIN, 0, 0);
        for (int i = 1; i <= 6; i++) {
            due("note " + i, x.note(0, 0, 9, 0, 1), i);
            due("how many", x.count(4), i);
        }
        due("a seventh", x.note(0, 0, 1, 0, 1), FULL);
        due("how many", x.count(4), 6);
        due("it tells nothing", x.craved(0), 1);
        due("the sixth does", x.forget() + x.note(0, 0, 1, 0, 1), 6 + 1);
        due("none may be", x.craved(0), 0);
    }

    private static void numbersOfANote() {
        sentence("so strong (1 .. 60) .. on a DAY (0 .. 99): it OPENED (1), or not (0)");
        due("no street", x.note(0, 0, 1, 0, 0), BAD);
        x.street(PLAIN, 0, 0);
        x.street(PIOUS, 0, 0);
        due("street -1", x.note(-1, 0, 1, 0, 0), BAD);
        due("street 2", x.note(2, 0, 1, 0, 0), BAD);
        due("smell -1", x.note(0, -1, 1, 0, 0), BAD);
        due("smell 6", x.note(0, 6, 1, 0, 0), BAD);
        due("strong 0", x.note(0, 0, 0, 0, 0), BAD);
        due("strong 61", x.note(0, 0, 61, 0, 0), BAD);
        due("day -1", x.note(0, 0, 1, -1, 0), BAD);
        due("day 100", x.note(0, 0, 1, 100, 0), BAD);
        due("opened -1", x.note(0, 0, 1, 0, -1), BAD);
        due("opened 2", x.note(0, 0, 1, 0, 2), BAD);
        due("none came", x.count(4), 0);
        due("the least of each", x.note(0, 0, 1, 0, 0), 1);
        due("the most of each", x.note(1, 5, 60, 99, 1), 2);
        due("1 opens nothing", x.craved(0), ALL);
        due("60 opens all", x.craved(1), ALL);
    }

    private static void noNotes() {
        sentence("No NOTES: how many there were");
        due("none", x.forget(), 0);
        x.street(PLAIN, 0, 0);
        for (int i = 0; i < 6; i++) {
            x.note(0, i, 30, i, 0);
        }
        due("none may be", x.craved(0), 0);
        due("six", x.forget(), 6);
        due("none", x.forget(), 0);
        due("none are kept", x.count(4), 0);
        due("all may be", x.craved(0), ALL);
        due("room for the first", x.note(0, 0, 1, 0, 0), 1);
    }

    private static void notesStay() {
        sentence("NOTES: days, undone ones and streets that come change none");
        x.street(PLAIN, 0, 0);
        x.note(0, 0, 5, 0, 1);
        x.day(NONE);
        x.note(0, 1, 4, 0, 0);
        x.undo();
        x.street(PLAIN, 0, 0);
        due("two", x.count(4), 2);
        due("the first is so", x.craved(0), 1);
        due("town", x.town(), 2);
        due("none", x.count(4), 0);
    }

    private static void cravedWithoutNotes() {
        sentence("CRAVED: without NOTES each SMELL may be");
        due("no street", x.craved(0), BAD);
        for (int kind = 0; kind < 6; kind++) {
            x.street(kind, 0, 0);
            due("kind " + kind, x.craved(kind), ALL);
        }
        due("street 6", x.craved(6), BAD);
        due("street -1", x.craved(-1), BAD);
    }

    /** Of a kind: what it may crave if a smell so strong opened it, or not. */
    private static void told(int kind, int smell, int strong, int ifItDid, int ifNot) {
        x = new KitchenSiege();
        x.street(kind, 0, 0);
        x.note(0, smell, strong, 0, 1);
        due("kind " + kind + " opened by " + strong + " of " + smell, x.craved(0), ifItDid);
        x.forget();
        x.note(0, smell, strong, 0, 0);
        due("kind " + kind + " did not open by " + strong + " of " + smell, x.craved(0), ifNot);
    }

    private static void cravedByTen() {
        sentence("MOVED 10 or more: what NOTES tell");
        told(PLAIN, 3, 1, 0, ALL);
        told(PLAIN, 3, 4, 0, ALL);
        told(PLAIN, 3, 5, 8, ALL - 8);
        told(PLAIN, 3, 9, 8, ALL - 8);
        told(PLAIN, 3, 10, ALL, 0);
        told(PLAIN, 3, 60, ALL, 0);
        told(PLAIN, 0, 5, 1, ALL - 1);
        told(PLAIN, 5, 5, 32, ALL - 32);
    }

    private static void cravedByKind() {
        sentence("SMELLS (bits) that a STREET may CRAVE (its KIND as it is)");
        told(COLD, 3, 9, 0, ALL);
        told(COLD, 3, 10, 8, ALL - 8);
        told(COLD, 3, 19, 8, ALL - 8);
        told(COLD, 3, 20, ALL, 0);
        told(HOMESICK, 3, 9, 0, ALL);
        told(HOMESICK, 3, 10, 8, ALL - 8);
        told(HOMESICK, 3, 19, 8, ALL - 8);
        told(HOMESICK, 3, 20, ALL, 0);
        told(ONION_EATERS, 0, 60, 0, ALL);
        told(ONION_EATERS, 1, 4, 0, ALL);
        told(ONION_EATERS, 1, 5, 2, ALL - 2);
        told(ONION_EATERS, 1, 10, ALL, 0);
        told(BAKERS, 0, 60, 0, ALL);
        told(BAKERS, 2, 6, 0, ALL);
        told(BAKERS, 2, 7, 4, ALL - 4);
        told(BAKERS, 2, 12, 4, ALL - 4);
        told(BAKERS, 2, 13, ALL, 0);
        told(PIOUS, 2, 4, 0, ALL);
        told(PIOUS, 2, 5, 4, ALL - 4);
        told(PIOUS, 2, 10, ALL, 0);
    }

    private static void cravedOnDays() {
        sentence("NOTES on a DAY (0 .. 99): the pious ones");
        for (int day = 0; day <= 99; day++) {
            if (day % 50 == 0) {
                x = new KitchenSiege();
                x.street(PIOUS, 0, 0);
            }
            x.note(0, 1, 60, day, 0);
            due("60 on day " + day, x.craved(0), day % 7 == 5 ? ALL : 0);
            x.forget();
        }
    }

    private static void cravedByNone() {
        sentence("so that all NOTES of it are so");
        x.street(PLAIN, 0, 0);
        x.note(0, 1, 5, 0, 0);
        x.note(0, 2, 5, 0, 0);
        x.note(0, 3, 5, 0, 0);
        x.note(0, 4, 5, 0, 0);
        due("0 or 5", x.craved(0), 33);
        x.note(0, 5, 5, 0, 0);
        due("0", x.craved(0), 1);
        x.note(0, 0, 5, 0, 0);
        due("none", x.craved(0), 0);
        x.forget();
        x.note(0, 0, 5, 0, 1);
        x.note(0, 1, 5, 0, 1);
        due("not both", x.craved(0), 0);
    }

    private static void cravedElsewhere() {
        sentence("all NOTES of it: not those of another");
        x.street(PLAIN, 0, 0);
        x.street(PLAIN, 0, 0);
        x.street(PLAIN, 0, 0);
        x.note(0, 1, 10, 0, 0);
        x.note(2, 1, 5, 0, 1);
        due("the first", x.craved(0), 0);
        due("without notes", x.craved(1), ALL);
        due("the last", x.craved(2), 2);
        due("is of the first", x.is(0), 2 + 16 + 32);
        due("is without notes", x.is(1), ALL);
    }

    private static void notByWhatItCraves() {
        sentence("that a STREET may CRAVE: not what it does");
        x.street(PLAIN, 9, 3);
        x.note(0, 3, 9, 0, 0);
        due("it does, but may not, and a wall is none to a note", x.craved(0), ALL - 8);
        x.note(0, 4, 9, 0, 1);
        due("it does not, but may", x.craved(0), 16);
    }

    private static void isWithoutNotes() {
        sentence("IS: without NOTES each KIND");
        due("no street", x.is(0), BAD);
        x.street(HOMESICK, 0, 0);
        due("all", x.is(0), ALL);
        due("street 1", x.is(1), BAD);
        due("street -1", x.is(-1), BAD);
    }

    private static void isNone() {
        sentence("IS: none");
        x.street(PLAIN, 0, 0);
        x.note(0, 1, 4, 0, 1);
        due("4 opens nobody", x.is(0), 0);
        x.forget();
        x.note(0, 1, 60, 0, 0);
        due("60 opens everybody", x.is(0), 0);
        x.forget();
        x.note(0, 1, 10, 0, 0);
        x.note(0, 1, 10, 0, 1);
        due("it did and did not", x.is(0), 0);
    }

    private static void isByOne() {
        sentence("KINDS (bits) with some SMELL that it may CRAVE by which they are so");
        x.street(PLAIN, 0, 0);
        x.note(0, 1, 5, 5, 1);
        due("5 opened on day 5: plain, onion eaters", x.is(0), 1 + 4);
        x.forget();
        x.note(0, 1, 5, 6, 1);
        due("5 opened on day 6: pious, too", x.is(0), 1 + 4 + 8);
        x.forget();
        x.note(0, 1, 7, 6, 1);
        due("7 opened: bakers, too", x.is(0), 1 + 4 + 8 + 16);
        x.forget();
        x.note(0, 1, 10, 6, 1);
        due("10 opened: all", x.is(0), ALL);
        x.forget();
        x.note(0, 0, 60, 0, 0);
        due("60 of onions did not: onion eaters, bakers", x.is(0), 4 + 16);
        x.note(0, 1, 12, 0, 0);
        due("12 of another did not: bakers", x.is(0), 16);
        x.forget();
        x.note(0, 1, 60, 5, 0);
        due("60 on day 5 did not: pious", x.is(0), 8);
        x.forget();
        x.note(0, 1, 19, 0, 0);
        due("19 did not: colds, homesick", x.is(0), 2 + 32);
    }

    private static void isByAnother() {
        sentence("IS: some SMELL, the same for all NOTES of it");
        x.street(PLAIN, 0, 0);
        x.note(0, 1, 9, 0, 1);
        x.note(0, 2, 9, 0, 1);
        due("9 of two smells: nobody craves both", x.is(0), 0);
        x.forget();
        x.note(0, 1, 9, 0, 1);
        x.note(0, 2, 12, 0, 1);
        due("9 and 12 of another: not the bakers, not the colds", x.is(0), 1 + 4 + 8);
        x.forget();
        x.note(0, 1, 9, 0, 1);
        x.note(0, 2, 12, 0, 0);
        due("9 did, 12 of another did not: the bakers", x.is(0), 16);
    }

    private static void tryFirst() {
        sentence("the SMELL .. is least; of like ones the first");
        x.street(PLAIN, 0, 5);
        due("5: one would, five not, by each", x.tryNext(0, 5, 0), 0);
        due("4: none would", x.tryNext(0, 4, 0), 0);
        due("10: each would", x.tryNext(0, 10, 0), 0);
        x.note(0, 0, 5, 0, 0);
        due("0 may not be", x.tryNext(0, 5, 0), 1);
        due("4: none would", x.tryNext(0, 4, 0), 0);
        due("10: each would", x.tryNext(0, 10, 0), 0);
    }

    private static void tryOnions() {
        sentence("TRY: (its KIND as it is)");
        x.street(ONION_EATERS, 0, 0);
        x.street(BAKERS, 0, 0);
        x.street(COLD, 0, 0);
        due("onions tell nothing", x.tryNext(0, 9, 0), 1);
        due("10 tells nothing", x.tryNext(0, 10, 0), 0);
        due("bakers by 6", x.tryNext(1, 6, 0), 0);
        due("bakers by 7", x.tryNext(1, 7, 0), 1);
        due("bakers by 12", x.tryNext(1, 12, 0), 1);
        due("bakers by 13", x.tryNext(1, 13, 0), 0);
        x.note(2, 0, 19, 0, 0);
        due("colds by 9", x.tryNext(2, 9, 0), 0);
        due("colds by 10", x.tryNext(2, 10, 0), 1);
        due("colds by 19", x.tryNext(2, 19, 0), 1);
        due("colds by 20", x.tryNext(2, 20, 0), 0);
    }

    private static void tryLast() {
        sentence("TRY: of what it may CRAVE: few are left");
        x.street(PLAIN, 0, 0);
        for (int smell = 0; smell < 4; smell++) {
            x.note(0, smell, 5, 0, 0);
        }
        due("4 or 5", x.craved(0), 48);
        due("by 4", x.tryNext(0, 5, 0), 4);
        x.note(0, 4, 5, 0, 0);
        due("5 alone: each tells as little", x.tryNext(0, 5, 0), 0);
        x.forget();
        for (int smell = 0; smell < 6; smell++) {
            if (smell != 0 && smell != 5) {
                x.note(0, smell, 5, 0, 0);
            }
        }
        due("0 or 5: by 0", x.tryNext(0, 5, 0), 0);
    }

    private static void tryNone() {
        sentence("TRY: none: none may be");
        x.street(PLAIN, 0, 0);
        x.street(PLAIN, 0, 0);
        x.note(0, 1, 10, 0, 0);
        due("none", x.tryNext(0, 5, 0), NONE);
        due("none, however strong", x.tryNext(0, 60, 99), NONE);
        due("the other", x.tryNext(1, 5, 0), 0);
        x.forget();
        due("all may be", x.tryNext(0, 5, 0), 0);
    }

    private static void tryOnAPiousDay() {
        sentence("TRY so strong on a DAY");
        x.street(PIOUS, 0, 0);
        x.note(0, 0, 5, 0, 0);
        int[] days = {0, 4, 5, 6, 11, 12, 13, 95, 96, 97, 99};
        for (int day : days) {
            due("day " + day, x.tryNext(0, 5, day), day == 5 || day == 12 || day == 96 ? 0 : 1);
        }
    }

    private static void tryBounds() {
        sentence("TRY: strong (1 .. 60), a DAY (0 .. 99)");
        due("no street", x.tryNext(0, 1, 0), BAD);
        x.street(PLAIN, 0, 0);
        due("street -1", x.tryNext(-1, 1, 0), BAD);
        due("street 1", x.tryNext(1, 1, 0), BAD);
        due("strong 0", x.tryNext(0, 0, 0), BAD);
        due("strong 61", x.tryNext(0, 61, 0), BAD);
        due("day -1", x.tryNext(0, 1, -1), BAD);
        due("day 100", x.tryNext(0, 1, 100), BAD);
        due("the least", x.tryNext(0, 1, 0), 0);
        due("the most", x.tryNext(0, 60, 99), 0);
    }

    /** A gate and so many streets about it, all of them opened by the dish. */
    private static void star(int streets) {
        for (int i = 0; i < streets; i++) {
            x.street(PLAIN, 0, 5);
        }
        for (int i = 1; i < streets; i++) {
            x.lane(0, i);
        }
        x.dish(1, 30, 0);
    }

    private static void chance(int c, int n, long above, long below) {
        due("rain " + c + ", " + n, x.rain(0, c, n), 1);
        due("above of " + c + ", " + n, x.part(0), above);
        due("below of " + c + ", " + n, x.part(1), below);
    }

    private static void noRain() {
        sentence("by c of 10 (0 .. 10): 0");
        star(8);
        for (int n = 0; n <= 8; n++) {
            chance(0, n, 1, 1);
        }
        due("-1", x.rain(0, -1, 0), BAD);
        due("11", x.rain(0, 11, 0), BAD);
    }

    private static void allRain() {
        sentence("by c of 10 (0 .. 10): 10");
        star(8);
        chance(10, 0, 1, 1);
        for (int n = 1; n <= 8; n++) {
            chance(10, n, 0, 1);
        }
        chance(9, 1, 56953279, 100000000);
        chance(1, 1, 99999999, 100000000);
    }

    private static void eightStreets() {
        sentence("n (0 .. 8) STREETS or more OPEN: eight");
        star(8);
        chance(5, 8, 1, 256);
        chance(5, 7, 9, 256);
        chance(5, 1, 255, 256);
        chance(5, 0, 1, 1);
        chance(9, 8, 1, 100000000);
        chance(1, 8, 43046721, 100000000);
        chance(5, 4, 163, 256);
        due("-1", x.rain(0, 5, -1), BAD);
        due("9", x.rain(0, 5, 9), BAD);
        due("the fraction stays", x.part(0), 163);
    }

    private static void moreThanThereAre() {
        sentence("n STREETS or more OPEN: more than there are, and none");
        x.dish(1, 30, 0);
        chance(5, 0, 1, 1);
        chance(5, 1, 0, 1);
        chance(0, 8, 0, 1);
        star(2);
        chance(5, 2, 1, 4);
        chance(5, 3, 0, 1);
        chance(0, 3, 0, 1);
        chance(0, 2, 1, 1);
        chance(10, 0, 1, 1);
    }

    private static void itGoesOn() {
        sentence("nothing is smelt there (it goes on to others all the same)");
        x.street(PLAIN, 0, 5);
        x.street(PLAIN, 0, 5);
        x.lane(0, 1);
        x.dish(1, 14, 0);
        chance(5, 2, 1, 4);
        chance(5, 1, 3, 4);
        chance(2, 2, 16, 25);
        chance(8, 1, 9, 25);
    }

    private static void rainOnTheOpen() {
        sentence("OPEN now by a DISH: not those that are open");
        star(3);
        x.dish(1, 11, 0);
        x.day(1);
        due("0 is open", x.count(3), 1);
        chance(5, 1, 3, 4);
        chance(5, 2, 1, 4);
        chance(5, 3, 0, 1);
        x.day(0);
        chance(0, 0, 1, 1);
        chance(0, 1, 0, 1);
    }

    private static void rainByDaysAhead() {
        sentence("OPEN now: by what was smelt ahead");
        x.street(HOMESICK, 0, 5);
        x.dish(1, 18, 0);
        chance(3, 1, 0, 1);
        x.day(0);
        chance(3, 1, 7, 10);
        x.day(NONE);
        chance(3, 1, 0, 1);
    }

    /** Six streets, each opened by its own dish and by no other. */
    private static void eachByItsOwn(int dishes) {
        for (int k = 0; k < 6; k++) {
            x.street(PLAIN, 0, k);
        }
        for (int k = 1; k < 6; k++) {
            x.lane(0, k);
        }
        for (int k = 0; k < dishes; k++) {
            x.dish(k, k == 0 ? 7 : 9, 0);
        }
    }

    private static void noDays() {
        sentence("a SEED (0 .. 999999), n (0 .. 60) DAYS");
        due("no streets", x.sieges(0, 0), 0);
        eachByItsOwn(6);
        due("seed -1", x.sieges(-1, 0), BAD);
        due("seed 1000000", x.sieges(1000000, 0), BAD);
        due("n -1", x.sieges(0, -1), BAD);
        due("n 61", x.sieges(0, 61), BAD);
        due("the first seed, no days", x.sieges(0, 0), 0);
        due("the last seed, no days", x.sieges(999999, 0), 0);
        due("the first seed, all days", x.sieges(0, 60), 6);
        due("the last seed, all days", x.sieges(999999, 60), 6);
    }

    private static void opened(int seed, int... byDays) {
        for (int n = 0; n < byDays.length; n++) {
            due("seed " + seed + ", " + n + " days", x.sieges(seed, n), byDays[n]);
        }
    }

    private static void firstDays() {
        sentence("X times 1103515245 and 12345, by 2147483648 what is left over; by 65536 (cut), by 7 left over");
        eachByItsOwn(6);
        // The dishes: 0 6 6 4 5 1 1 1 5 3 4, where 6 is none.
        opened(0, 0, 1, 1, 1, 2, 3, 4, 4, 4, 4, 5, 5);
        // 3 4 5 1 6 6 1 6 0.
        opened(1, 0, 1, 2, 3, 4, 4, 4, 4, 4, 5);
        // 5 4 5 6 0 5 2 5 2 2.
        opened(2, 0, 1, 2, 2, 2, 3, 3, 4, 4, 4, 4);
        // 2 4 6 6 5 3 4 1 3 0.
        opened(999999, 0, 1, 2, 2, 2, 3, 4, 4, 5, 5, 6);
    }

    private static void sixtyDays() {
        sentence("n (0 .. 60) DAYS: the sixtieth");
        eachByItsOwn(6);
        due("59 days without dish 0", x.sieges(9214, 59), 5);
        due("it is on the sixtieth", x.sieges(9214, 60), 6);
        due("31 days without dish 2", x.sieges(0, 31), 5);
        due("it is on the thirty-second", x.sieges(0, 32), 6);
    }

    private static void noSuchDish() {
        sentence("is the DISH (one that is not there: none)");
        eachByItsOwn(0);
        due("no dishes", x.sieges(0, 60), 0);
        x.dish(0, 7, 0);
        opened(999999, 0, 0, 0, 0, 0, 0, 0, 0, 0, 0, 1);
        x.dish(1, 9, 0);
        x.dish(2, 9, 0);
        x.dish(3, 9, 0);
        x.dish(4, 9, 0);
        opened(999999, 0, 1, 2, 2, 2, 2, 3, 3, 4, 4, 5);
        x.town();
        x.street(HOMESICK, 0, 5);
        x.dish(1, 19, 0);
        // 0, then none: what was smelt is forgotten; days 14 and 17 by seed 0 are the next of dish 0, 20 and 21 on end.
        due("none on the second day", x.sieges(0, 20), 0);
        due("two days on end", x.sieges(0, 21), 1);
    }

    private static void openAhead() {
        sentence("how many STREETS are open then: those open ahead, too");
        eachByItsOwn(6);
        x.day(0);
        opened(0, 1, 1, 1, 1, 2, 3);
        opened(999999, 1, 2, 3, 3, 3, 4, 5, 5, 6, 6, 6);
        due("nothing has changed", x.count(3) + 10 * x.count(2) + 100 * x.count(5), 111);
    }

    private static void fromTheDayThatIs() {
        sentence("SIEGES: the days go on from the DAY that is");
        for (int i = 0; i < 4; i++) {
            x.street(PLAIN, 0, 5);
            x.gate(i, i);
        }
        x.dish(1, 10, 0);
        // By seed 0 dish 0 is on the first day, then on the fourteenth.
        for (int day = 0; day < 4; day++) {
            due("first from day " + day, x.sieges(0, 1), 1);
            due("both by winds of their days from day " + day, x.sieges(0, 14), 2);
            x.day(NONE);
        }
        x.day(0);
        due("0 is open", x.of(0, 3), 4);
        due("the wind is now 1", x.sieges(0, 1), 2);
        x.undo();
        due("now 0 again", x.sieges(0, 1), 1);
    }
}
