/**
 * THE TEXT and the reading of it: each sentence of the document that names a boundary case, by a
 * test of its own, with places counted by hand or told by the text's own making.
 */
public final class TextEdgeTest {
    private static final int NONE = -1, BAD = -2, NO = -3, FULL = -4;
    private static final int NO_FAULT = -1;
    private static final String THREE = "town;street 0 0 0;street 0 0 0;street 0 0 0;";
    private static final Check CHECK = new Check();
    private static KitchenSiege x;
    private static int calls;

    private TextEdgeTest() {
    }

    public static void main(String[] args) {
        theBytes();
        theItems();
        theTokens();
        theFaults();
        theEnd();
        takesThePlace();
        CHECK.end();
    }

    private static void theBytes() {
        bytes();
        as150Bytes();
        cleared();
    }

    private static void theItems() {
        counted();
        townOnce();
        aheadOfTown();
        numbersOfAStreet();
        numbersOfALane();
        numbersOfAGate();
        numbersOfAWind();
        numbersOfADish();
    }

    private static void theTokens() {
        words();
        figures();
        blanks();
        semicolons();
    }

    private static void theFaults() {
        ninthStreet();
        seventhDish();
        notThereYet();
        alike();
        noToken();
        firstFault();
    }

    private static void theEnd() {
        tooEarly();
        everyBeginning();
    }

    private static void takesThePlace() {
        takesThePlaceOfAll();
        allStays();
        noRefusal();
    }

    private static void sentence(String words) {
        CHECK.part(words);
        x = new KitchenSiege();
        calls = 0;
    }

    private static void due(String call, long got, long want) {
        CHECK.due(call, got, want);
    }

    private static void items(String text, int items) {
        due("'" + text + "'", readOf(text), items);
    }

    private static void fault(String text, int place) {
        due("'" + text + "'", readOf(text), -10 - place);
    }

    /** An object is used for at most 512 calls: where the texts are many, a new one goes on. */
    private static int readOf(String text) {
        calls += text.length() + 2;
        if (calls > 500) {
            x = new KitchenSiege();
            calls = text.length() + 2;
        }
        return Towns.readOf(x, text);
    }

    private static void bytes() {
        sentence("A byte (0 .. 127) comes behind THE TEXT: how many it has");
        due("-1", x.type(-1), BAD);
        due("128", x.type(128), BAD);
        due("none came", x.count(6), 0);
        due("0", x.type(0), 1);
        due("127", x.type(127), 2);
        for (int i = 3; i <= 150; i++) {
            due("byte " + i, x.type(i % 128), i);
        }
        due("a 151st", x.type(0), FULL);
        due("as many as ahead", x.count(6), 150);
    }

    /** Blanks, that the text between them has so many bytes. */
    private static String upTo(int bytes, String ahead, String behind) {
        StringBuilder b = new StringBuilder(ahead);
        while (b.length() + behind.length() < bytes) {
            b.append(' ');
        }
        return b.append(behind).toString();
    }

    private static void as150Bytes() {
        sentence("a TEXT (150 bytes at most)");
        items(upTo(150, "town", ";"), 1);
        due("150 bytes", x.count(6), 150);
        due("one more is not taken", x.type('a'), FULL);
        due("and not read", x.read(), 1);
        items(upTo(150, "", "town;"), 1);
        items(upTo(150, "town;", "street 5 9 5;"), 2);
        due("what it told", x.of(0, 1), 9);
        fault(upTo(150, "town", ""), 150);
        fault(upTo(150, "town;", "a"), 149);
        fault(upTo(150, "", ""), 150);
        fault(upTo(150, "town;", "dish 5 30"), 150);
        items("town;", 1);
        due("5 bytes", x.count(6), 5);
    }

    private static void cleared() {
        sentence("THE TEXT is empty: how many it had");
        due("none", x.clear(), 0);
        Towns.type(x, "town;");
        due("5", x.clear(), 5);
        due("none", x.count(6), 0);
        fault("", 0);
        for (int i = 0; i < 150; i++) {
            x.type(' ');
        }
        due("150", x.clear(), 150);
        items("town;", 1);
    }

    private static void counted() {
        sentence("THE TOWN is read: how many ITEMS");
        items("town;", 1);
        items("town;wind 0 0;", 2);
        items("town;wind 0 0;wind 0 0;", 3);
        items("town;street 0 0 0;gate 0 0;gate 3 0;dish 0 1 0;", 5);
        StringBuilder b = new StringBuilder("town;");
        for (int i = 0; i < 18; i++) {
            b.append("wind0 0;");
        }
        items(b.toString(), 19);
        due("149 bytes", x.count(6), 149);
    }

    private static void townOnce() {
        sentence("town (once, first of all)");
        fault("town;town;", 5);
        fault("town; town;", 6);
        fault("town;street 0 0 0;town;", 18);
        fault("town town;", 5);
    }

    private static void aheadOfTown() {
        sentence("FAULT: anything ahead of it");
        fault("street 0 0 0;town;", 0);
        fault("lane 0 1;town;", 0);
        fault("gate 0 0;town;", 0);
        fault(" wind 0 0;town;", 1);
        fault("dish 0 1 0;town;", 0);
        fault(";town;", 0);
        fault("0 town;", 0);
        fault("  ;", 2);
    }

    /** A number of an item, from its least to its most; what stands around it is as told. */
    private static void number(String ahead, int low, int high, String behind) {
        for (int v = low; v <= high; v++) {
            CHECK.holds(ahead + v + behind + " is as told", readOf(ahead + v + behind) > 0);
        }
        if (low > 0) {
            fault(ahead + (low - 1) + behind, ahead.length());
        }
        fault(ahead + (high + 1) + behind, ahead.length());
        fault(ahead + 99 + behind, ahead.length());
        fault(ahead + "100" + behind, ahead.length());
        fault(ahead + "-1" + behind, ahead.length());
        fault(ahead + ";" + behind, ahead.length());
        fault(ahead + "town" + behind, ahead.length());
    }

    private static void numbersOfAStreet() {
        sentence("street KIND WALL CRAVES: a number not as told");
        number("town;street ", 0, 5, " 0 0;");
        sentence("street KIND WALL CRAVES: a number not as told, WALL");
        number("town;street 0 ", 0, 9, " 0;");
        sentence("street KIND WALL CRAVES: a number not as told, CRAVES");
        number("town;street 0 0 ", 0, 5, ";");
        items("town;street 5 9 4;", 2);
        due("kind", x.of(0, 0), 5);
        due("wall", x.of(0, 1), 9);
        due("craves", x.of(0, 2), 4);
        fault("town;street 0 0;", 15);
        fault("town;street;", 11);
        fault("town;street 0 0 0 0;", 18);
    }

    private static void numbersOfALane() {
        sentence("lane a b: a number not as told");
        fault(THREE + "lane 3 1;", 49);
        items(THREE + "lane 0 1;", 5);
        items(THREE + "lane 2 1;", 5);
        due("there is one", x.lane(1, 2), NO);
        due("one of them", x.lane(0, 1), 1);
        items(THREE + "lane 1 0;lane 1 2;lane 0 1;", 7);
        fault(THREE + "lane 1 3;", 51);
        fault(THREE + "lane 1 99;", 51);
        fault(THREE + "lane 1;", 50);
        fault(THREE + "lane;", 48);
        fault(THREE + "lane 0 1 2;", 53);
    }

    private static void numbersOfAGate() {
        sentence("gate w k: a number not as told");
        number(THREE + "gate ", 0, 3, " 2;");
        sentence("gate w k: a number not as told, k");
        number(THREE + "gate 3 ", 0, 2, ";");
        items(THREE + "gate 3 2;", 5);
        due("it was", x.gate(3, 0), 2);
        due("the others", x.gate(2, 0), 0);
        fault(THREE + "gate 0;", 50);
        fault(THREE + "gate;", 48);
        fault(THREE + "gate 0 0 0;", 53);
    }

    private static void numbersOfAWind() {
        sentence("wind i w (the i-th of the row, 0 .. 3): a number not as told");
        number("town;wind ", 0, 3, " 0;");
        sentence("wind i w: a number not as told, w");
        number("town;wind 3 ", 0, 3, ";");
        items("town;wind 3 0;", 2);
        due("it was", x.wind(3, 3), 0);
        due("the others", x.wind(2, 2), 2);
        fault("town;wind 0;", 11);
        fault("town;wind;", 9);
        fault("town;wind 0 0 0;", 14);
    }

    private static void numbersOfADish() {
        sentence("dish SMELL STRONG BUTTER: a number not as told");
        number("town;dish ", 0, 5, " 1 0;");
        sentence("dish SMELL STRONG BUTTER: a number not as told, STRONG");
        number("town;dish 0 ", 1, 30, " 0;");
        sentence("dish SMELL STRONG BUTTER: a number not as told, BUTTER");
        number("town;dish 0 1 ", 0, 9, ";");
        items("town;street 0 0 4;dish 4 30 9;", 3);
        due("strong", x.smells(0, 0, 0), 30);
        due("smell", x.moved(0, 0), 60);
        due("butter", x.order(0, -2), 9);
        fault("town;dish 0 1;", 13);
        fault("town;dish;", 9);
        fault("town;dish 0 1 0 0;", 16);
    }

    private static void words() {
        sentence("words of letters a .. z; FAULT: a word that is none");
        fault("a", 0);
        fault("z;", 0);
        fault("tow;", 0);
        fault("towna;", 0);
        fault("wont;", 0);
        fault("Town;", 0);
        fault("tOwn;", 0);
        fault("townT;", 4);
        fault("town`;", 4);
        fault("town{;", 4);
        fault("town;stree 0 0 0;", 5);
        fault("town;streets 0 0 0;", 5);
        fault("town;streetz 0 0 0;", 5);
        fault("town;lan 0 1;", 5);
        fault("town;gates 0 0;", 5);
        fault("town;winds 0 0;", 5);
        fault("town;fish 0 1 0;", 5);
        fault("town;dish0 1 0;dis 0 1 0;", 15);
        fault("town;townstreet 0 0 0;", 5);
        fault("town;street zero 0 0;", 12);
        fault("town;street 0 0 0street;", 17);
    }

    private static void figures() {
        sentence("figures (1 or 2 are one number); FAULT: a third figure's number");
        items("town;street 5 9 5;dish 5 9 9;", 3);
        items("town;street 05 09 05;dish 05 30 09;", 3);
        due("05", x.of(0, 0), 5);
        due("09", x.of(0, 1), 9);
        due("30", x.smells(0, 0, 0), 21);
        items("town;street 00 00 00;wind 00 03;dish 00 10 00;", 4);
        due("10", x.smells(0, 0, 0), 10);
        fault("town;street 000 0 0;", 12);
        fault("town;street 0 009 0;", 14);
        fault("town;street 0 0 0000;", 16);
        fault("town;dish 0 030 0;", 12);
        fault("town;dish 0 300 0;", 12);
        fault("town;dish 0 42949672971 0;", 12);
        fault("town;street 1 23 4;", 14);
        fault("town;street 12 3;", 12);
        fault("town;123", 5);
        fault("town;12", 5);
        fault("town;street 0 / 0;", 14);
        fault("town;street 0 : 0;", 14);
    }

    private static void blanks() {
        sentence("blanks (32) between");
        items("   town   ;   street   0   0   0   ;   ", 2);
        items("town;street0 0 0;dish0 1 0;wind0 0;gate0 0;", 5);
        items("town ;", 1);
        items(" town;", 1);
        items("town; ", 1);
        fault("to wn;", 0);
        fault("town;str eet 0 0 0;", 5);
        fault("town;street 0 0 1 0;", 18);
        items("town;dish 0 1 0;", 2);
        fault("town;dish 0 1 0 ;dish 0 1 1 0;", 28);
        fault("town\t;", 4);
        fault("town;\n", 5);
        fault("\rtown;", 0);
        fault("town;" + (char) 31, 5);
        fault("town;!", 5);
    }

    private static void semicolons() {
        sentence("ITEMS, each ended by ;");
        fault("town;;", 5);
        fault("town; ;", 6);
        fault("town;street 0 0 0;;", 18);
        fault("town street 0 0 0;", 5);
        fault("town;street 0 0 0 dish 0 1 0;", 18);
        fault("town,", 4);
        fault("town:", 4);
        fault("town<", 4);
        fault("town 0;", 5);
    }

    private static String many(int n, String item) {
        StringBuilder b = new StringBuilder("town;");
        for (int i = 0; i < n; i++) {
            b.append(item);
        }
        return b.toString();
    }

    private static void ninthStreet() {
        sentence("FAULT: a 9th street, at its word");
        String eight = many(8, "street0 0 0;");
        items(eight, 9);
        due("eight", x.count(0), 8);
        fault(eight + "street0 0 0;", 101);
        fault(eight + "  street", 103);
        fault(eight + "street 9", 101);
        items(eight + "lane 7 0;gate 3 7;dish 0 1 0;", 12);
        fault(eight + "lane 7 8;", 108);
    }

    private static void seventhDish() {
        sentence("FAULT: a 7th dish, at its word");
        String six = many(6, "dish0 1 0;");
        items(six, 7);
        due("six", x.count(1), 6);
        fault(six + "dish0 1 0;", 65);
        fault(six + " dish", 66);
        fault(six + "dish 0 0", 65);
        items(six + "street 0 0 0;", 8);
    }

    private static void notThereYet() {
        sentence("FAULT: a STREET of a lane or gate that is not there yet");
        fault("town;gate 0 0;street 0 0 0;", 12);
        fault("town;lane 0 1;street 0 0 0;street 0 0 0;", 10);
        fault("town;street 0 0 0;lane 0 1;street 0 0 0;", 25);
        fault("town;street 0 0 0;lane 1 0;street 0 0 0;", 23);
        fault("town;street 0 0 0;gate 0 1;street 0 0 0;", 25);
        items("town;street 0 0 0;gate 0 0;street 0 0 0;lane 0 1;gate 1 1;", 6);
        x.town();
        x.street(0, 0, 0);
        x.street(0, 0, 0);
        fault("town;street 0 0 0;lane 0 1;", 25);
        fault("town;gate 0 0;", 12);
    }

    private static void alike() {
        sentence("FAULT: two of a lane alike");
        fault(THREE + "lane 0 0;", 51);
        fault(THREE + "lane 2 2;", 51);
        fault(THREE + "lane 2 02;", 51);
        fault(THREE + "lane 3 3;", 49);
        fault(THREE + "lane 1 1", 51);
    }

    private static void noToken() {
        sentence("FAULT: a byte that begins none");
        for (int c = 0; c <= 127; c++) {
            String text = "town" + (char) c + ";";
            if (c == ' ') {
                items(text, 1);
            } else if (c == ';') {
                fault(text, 5);
            } else {
                // A letter makes another word of it; all else can not stand behind the word.
                fault(text, c >= 'a' && c <= 'z' ? 0 : 4);
            }
        }
    }

    private static void firstFault() {
        sentence("FAULT: the place of the first byte of the first TOKEN that can not stand there");
        fault("town;street 9 99 9;street 0 0", 12);
        fault("town;street 0 99 9;", 14);
        fault("town;street 0 0 9 9", 16);
        fault("town;lane 9 9;", 10);
        fault("towns;?", 0);
        fault("town;dish 0 1 0;dish 0 31 10;", 23);
        fault("town;dish 0 1 0;     dish 0     31 0;", 32);
    }

    private static void tooEarly() {
        sentence("FAULT: the TEXT's length, if it ends too early (an empty one, too)");
        fault("", 0);
        fault(" ", 1);
        fault("     ", 5);
        fault("town", 4);
        fault("town ", 5);
        fault("town;street", 11);
        fault("town;street ", 12);
        fault("town;street 0", 13);
        fault("town;street 0 0", 15);
        fault("town;street 0 0 0", 17);
        fault("town;street 0 0 0  ", 19);
        fault(THREE + "lane", 48);
        fault(THREE + "lane 0", 50);
        fault(THREE + "lane 0 1", 52);
        fault("town;wind 0 0", 13);
        fault("town;dish 0 1 0", 15);
    }

    /** Each beginning of a whole text: it ends behind an item, within a word, or too early. */
    private static void everyBeginning() {
        sentence("each beginning of a text");
        String whole = "town;street 1 2 3;street 0 09 5;lane 1 0;gate 3 1;wind 2 0;dish 5 30 9;";
        int items = 0;
        int wordAt = NO_FAULT;
        for (int n = 1; n <= whole.length(); n++) {
            char last = whole.charAt(n - 1);
            boolean letter = last >= 'a' && last <= 'z';
            boolean goesOn = n < whole.length() && whole.charAt(n) >= 'a' && whole.charAt(n) <= 'z';
            if (letter && wordAt == NO_FAULT) {
                wordAt = n - 1;
            } else if (!letter) {
                wordAt = NO_FAULT;
            }
            items += last == ';' ? 1 : 0;
            if (last == ';') {
                items(whole.substring(0, n), items);
            } else {
                fault(whole.substring(0, n), letter && goesOn ? wordAt : n);
            }
        }
        due("all items", items, 7);
    }

    private static void takesThePlaceOfAll() {
        sentence("A TOWN that is read takes the place of all but IMAGES, THE TEXT, THE FRACTION, STATUS");
        x = Towns.full();
        int[] status = Towns.status(x);
        long above = x.part(0);
        long below = x.part(1);
        items("town;", 1);
        int[] counts = {0, 0, 0, 0, 0, 0, 5};
        for (int what = 0; what <= 6; what++) {
            due("count " + what, x.count(what), counts[what]);
        }
        due("nothing to undo", x.undo(), NO);
        due("above", x.part(0), above);
        due("below", x.part(1), below);
        due("STATUS 0", x.status(0), status[0]);
        due("STATUS 2", x.status(2), status[2]);
        due("a wind", x.wind(0, 0), 0);
        items(THREE, 4);
        due("a gate", x.gate(1, 0), 0);
        due("no lane", x.lane(0, 1), 1);
        due("shut", x.of(0, 3), NONE);
        due("no notes", x.craved(0), 63);
        due("image 0", x.from(0), 1);
        due("its streets", x.count(0), 8);
        due("the text", x.count(6), THREE.length());
    }

    private static void allStays() {
        sentence("-10 less the FAULT: all stays");
        String[] texts = {"", "town", "town;street 0 0 0;street 0 0", "town;dish 0 1 0;wind 0 3;;", "street"};
        for (String text : texts) {
            x = Towns.full();
            KitchenSiege like = Towns.full();
            x.clear();
            like.clear();
            Towns.type(x, text);
            Towns.type(like, text);
            CHECK.holds("'" + text + "' has a fault", x.read() <= -10);
            due("all else behind '" + text + "'", Towns.seen(x), Towns.seen(like));
        }
    }

    private static void noRefusal() {
        sentence("the text that was read stays, and a fault is no refusal");
        fault("town;street 6 0 0;", 12);
        due("18 bytes", x.count(6), 18);
        due("read again", x.read(), -22);
        items("town;street 5 0 0;", 2);
        due("read again", x.read(), 2);
        due("one street", x.count(0), 1);
        for (int i = 0; i < 3; i++) {
            due("STATUS " + i, x.status(i), 0);
        }
    }
}
