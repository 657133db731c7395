/** Towns that the tests begin with, and all that can be seen of one. */
final class Towns {
    private Towns() {
    }

    static KitchenSiege empty() {
        return new KitchenSiege();
    }

    /** Three streets, two dishes, some days behind, both images kept; room is left for more of each. */
    static KitchenSiege middle() {
        KitchenSiege x = new KitchenSiege();
        x.street(0, 1, 2);
        x.street(5, 0, 1);
        x.dish(1, 11, 3);
        x.dish(4, 6, 1);
        x.image(0);
        x.street(3, 2, 4);
        x.lane(0, 2);
        x.gate(2, 1);
        x.gate(3, 2);
        x.wind(1, 2);
        x.day(1);
        x.day(0);
        x.note(1, 1, 9, 5, 1);
        x.image(1);
        x.day(-1);
        x.rain(0, 3, 1);
        type(x, "town;street 2 2 2;");
        return x;
    }

    /** Nothing more can come: 8 streets, 6 dishes, 6 notes, 150 bytes, 8 days to undo, both images. */
    static KitchenSiege full() {
        KitchenSiege x = new KitchenSiege();
        for (int i = 0; i < 8; i++) {
            x.street(i % 6, i % 4, 5 - i % 6);
        }
        for (int i = 4; i < 7; i++) {
            x.lane(i, i + 1);
        }
        x.lane(0, 7);
        for (int w = 0; w < 4; w++) {
            x.gate(w, 2 * w);
            x.wind(w, 3 - w);
        }
        for (int i = 0; i < 6; i++) {
            x.dish(i, 5 + 5 * i, 9 - i);
            x.note(i, i, 10 * (i + 1), 19 * i, i % 2);
        }
        for (int i = 0; i < 10; i++) {
            x.day(i % 3 - 1);
            if (i == 4) {
                x.image(1);
            }
        }
        x.image(0);
        x.rain(5, 4, 1);
        type(x, "town;street 1 1 1;lane 0 0;");
        while (x.count(6) < 150) {
            x.type(' ');
        }
        return x;
    }

    static void type(KitchenSiege x, String text) {
        for (int i = 0; i < text.length(); i++) {
            x.type(text.charAt(i));
        }
    }

    static int readOf(KitchenSiege x, String text) {
        x.clear();
        type(x, text);
        return x.read();
    }

    static int[] status(KitchenSiege x) {
        return new int[] {x.status(0), x.status(1), x.status(2)};
    }

    /** All that can be seen of a town but STATUS, in one number; the town is used up by it. */
    static long seen(KitchenSiege x) {
        long h = seenOfDays(x, 1);
        h = 37 * h + x.read();
        h = seenOfDays(x, h);
        for (int i = 0; i < 2; i++) {
            h = 37 * h + x.from(i);
            h = seenOfDays(x, h);
        }
        return h;
    }

    private static long seenOfDays(KitchenSiege x, long ahead) {
        long h = 37 * ahead + x.digest();
        for (int i = 0; i < 9; i++) {
            h = 37 * h + x.undo();
            h = 37 * h + x.digest();
        }
        return h;
    }
}
