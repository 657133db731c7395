/**
 * Long runs of calls, drawn by a seed, on the class and on the model: every answer and every digest
 * must be the same.
 */
public final class ModelTest {
    private static final int RUNS = 400, CALLS = 512;
    private static final String[] NAMES = {"town", "street", "lane", "gate", "wind", "dish", "type", "clear", "read",
        "day", "undo", "of", "smells", "moved", "falls", "order", "never", "least", "answer", "game", "note", "forget",
        "craved", "is", "tryNext", "rain", "sieges", "part", "image", "from", "status", "count", "digest"};
    private static final int[] TAKES = {0, 3, 2, 2, 2, 3, 1, 0, 0, 1, 0, 2, 3, 2, 2, 2, 0, 0, 3, 1, 5, 0, 1, 1, 3, 3, 2,
        1, 1, 1, 1, 1, 0};
    /** How often each call comes, by thousands. */
    private static final int[] OFTEN = {1, 60, 110, 40, 30, 50, 0, 2, 4, 140, 35, 60, 60, 60, 50, 25, 8, 8, 40, 8, 50, 3,
        30, 30, 40, 40, 10, 20, 10, 8, 10, 20, 0};

    private static long x;
    /** Of what sort the run is: 0 weak dishes of few smells for the homesick, 1 notes that agree, 2 texts, 3 any. */
    private static int sort;

    private ModelTest() {
    }

    /** 0 .. below less 1. */
    private static int draw(int below) {
        x = x * 6364136223846793005L + 1442695040888963407L;
        return (int) ((x >>> 33) % below);
    }

    public static void main(String[] args) {
        Check check = new Check();
        int[] called = new int[NAMES.length];
        for (int run = 0; run < RUNS; run++) {
            x = 77 + 1000003L * run;
            sort = run % 4;
            check.part("run " + run);
            oneRun(check, called);
        }
        for (int i = 0; i < NAMES.length; i++) {
            check.holds(NAMES[i] + " was called", called[i] > 0 || NAMES[i].equals("digest"));
        }
        check.end();
    }

    private static void oneRun(Check check, int[] called) {
        KitchenSiege siege = new KitchenSiege();
        Model model = new Model();
        int calls = 0;
        while (calls < CALLS) {
            int call = sort == 2 && draw(25) == 0 ? 6 : pick();
            if (sort == 0 && call == 9 && draw(3) > 0) {
                call = 15;
            } else if (sort == 0 && call == 10 && draw(20) == 0) {
                call = 0;
            }
            if (call == 6) {
                calls += typeText(check, siege, model);
                called[6]++;
                call = 8;
            }
            int[] a = new int[5];
            for (int i = 0; i < TAKES[call]; i++) {
                a[i] = argument(call, i, siege);
            }
            if (sort == 1 && call == 20 && draw(8) > 0) {
                agree(a, siege);
            }
            String told = NAMES[call] + java.util.Arrays.toString(java.util.Arrays.copyOf(a, TAKES[call]));
            check.due(told + " as call " + calls, ask(siege, call, a), ask(model, call, a));
            check.due("digest behind " + told + " as call " + calls, siege.digest(), model.digest());
            called[call]++;
            calls++;
        }
        for (int i = 0; i < 3; i++) {
            check.due("status " + i, siege.status(i), model.status(i));
        }
    }

    /** Makes a note one of a street that craves what its number tells. */
    private static void agree(int[] a, KitchenSiege siege) {
        if (a[0] < 0 || a[0] >= siege.count(0)) {
            return;
        }
        a[2] = 3 + draw(draw(2) == 0 ? 10 : 25);
        a[4] = Model.nose(siege.of(a[0], 0), a[0] % 6, a[1], a[2], a[3], 0) >= 10 ? 1 : 0;
    }

    private static int pick() {
        int all = 0;
        for (int o : OFTEN) {
            all += o;
        }
        int left = draw(all);
        int call = 0;
        while (left >= OFTEN[call]) {
            left -= OFTEN[call];
            call++;
        }
        return call;
    }

    private static int argument(int call, int i, KitchenSiege siege) {
        if (draw(60) == 0) {
            int[] odd = {-1, -2, -3, 6, 7, 8, 10, 31, 61, 100, 128, 1000000, Integer.MAX_VALUE, Integer.MIN_VALUE};
            return odd[draw(odd.length)];
        }
        int street = draw(Math.max(1, siege.count(0)));
        int dish = draw(Math.max(1, siege.count(1)));
        switch (NAMES[call]) {
            case "street": return i == 1 ? draw(draw(3) == 0 ? 10 : 3) : i == 0 && sort == 0 && draw(2) == 0 ? 5 : draw(6);
            case "lane": case "craved": case "is": return street;
            case "gate": return i == 0 ? draw(4) : street;
            case "wind": return draw(4);
            case "dish": return i == 0 ? draw(sort == 0 ? 2 : 6) : i == 1 ? 1 + draw(sort == 0 ? 13 : 30) : draw(draw(2) == 0 ? 3 : 10);
            case "day": return dish - draw(2) * draw(2);
            case "of": return i == 0 ? street : draw(6);
            case "smells": return i == 0 ? dish : i == 1 ? draw(4) : street;
            case "moved": case "falls": return i == 0 ? dish : street;
            case "order": return i == 0 ? street : draw(7) - 2;
            case "answer": return i == 0 ? dish : i == 1 ? draw(10) : draw(2);
            case "game": return draw(10);
            case "note": return new int[] {street, draw(6), 1 + draw(draw(2) == 0 ? 60 : 25), draw(100), draw(2)}[i];
            case "tryNext": return i == 0 ? street : i == 1 ? 1 + draw(draw(2) == 0 ? 60 : 25) : draw(100);
            case "rain": return i == 0 ? dish : i == 1 ? draw(11) : draw(9);
            case "sieges": return i == 0 ? draw(1000000) : draw(61);
            case "image": case "from": case "part": return draw(2);
            case "status": return draw(3);
            case "count": return draw(7);
            default: return 0;
        }
    }

    private static int typeText(Check check, KitchenSiege siege, Model model) {
        String text = text();
        check.due("clear", siege.clear(), model.clear());
        for (int i = 0; i < text.length(); i++) {
            check.due("type", siege.type(text.charAt(i)), model.type(text.charAt(i)));
        }
        return text.length() + 1;
    }

    /** A town's text, as it should be, or with bytes lost, changed, or put in. */
    private static String text() {
        StringBuilder b = new StringBuilder(draw(20) == 0 ? "" : "town;");
        int streets = 0;
        int items = draw(14);
        for (int i = 0; i < items; i++) {
            int item = draw(10);
            int k = Math.max(1, streets);
            if (item < 4) {
                b.append("street ").append(draw(6)).append(gap()).append(draw(10)).append(gap()).append(draw(6));
                streets++;
            } else if (item < 6) {
                int a = draw(k);
                b.append("lane ").append(a).append(gap()).append(draw(6) == 0 ? a : draw(k));
            } else if (item < 7) {
                b.append("gate ").append(draw(4)).append(gap()).append(draw(k));
            } else if (item < 8) {
                b.append("wind ").append(draw(4)).append(gap()).append(draw(4));
            } else {
                b.append("dish ").append(draw(6)).append(gap()).append(1 + draw(30)).append(gap()).append(draw(10));
            }
            b.append(draw(20) == 0 ? " ; " : ";");
        }
        int faults = draw(3) == 0 ? 1 + draw(2) : 0;
        String bytes = "town;street 0123456789 ;;  abz\n\u0000\u007fA-{`/:";
        for (int i = 0; i < faults && b.length() > 0; i++) {
            int place = draw(b.length());
            int how = draw(4);
            if (how == 0) {
                b.deleteCharAt(place);
            } else if (how == 1) {
                b.setCharAt(place, bytes.charAt(draw(bytes.length())));
            } else if (how == 2) {
                b.insert(place, bytes.charAt(draw(bytes.length())));
            } else {
                b.setLength(place);
            }
        }
        return b.toString();
    }

    private static String gap() {
        return draw(10) == 0 ? "   " : draw(10) == 0 ? " 0" : " ";
    }

    private static long ask(KitchenSiege s, int call, int[] a) {
        switch (NAMES[call]) {
            case "town": return s.town();
            case "street": return s.street(a[0], a[1], a[2]);
            case "lane": return s.lane(a[0], a[1]);
            case "gate": return s.gate(a[0], a[1]);
            case "wind": return s.wind(a[0], a[1]);
            case "dish": return s.dish(a[0], a[1], a[2]);
            case "clear": return s.clear();
            case "read": return s.read();
            case "day": return s.day(a[0]);
            case "undo": return s.undo();
            case "of": return s.of(a[0], a[1]);
            case "smells": return s.smells(a[0], a[1], a[2]);
            case "moved": return s.moved(a[0], a[1]);
            case "falls": return s.falls(a[0], a[1]);
            case "order": return s.order(a[0], a[1]);
            case "never": return s.never();
            case "least": return s.least();
            case "answer": return s.answer(a[0], a[1], a[2]);
            case "game": return s.game(a[0]);
            case "note": return s.note(a[0], a[1], a[2], a[3], a[4]);
            case "forget": return s.forget();
            case "craved": return s.craved(a[0]);
            case "is": return s.is(a[0]);
            case "tryNext": return s.tryNext(a[0], a[1], a[2]);
            case "rain": return s.rain(a[0], a[1], a[2]);
            case "sieges": return s.sieges(a[0], a[1]);
            case "part": return s.part(a[0]);
            case "image": return s.image(a[0]);
            case "from": return s.from(a[0]);
            case "status": return s.status(a[0]);
            case "count": return s.count(a[0]);
            default: return s.digest();
        }
    }

    private static long ask(Model s, int call, int[] a) {
        switch (NAMES[call]) {
            case "town": return s.town();
            case "street": return s.street(a[0], a[1], a[2]);
            case "lane": return s.lane(a[0], a[1]);
            case "gate": return s.gate(a[0], a[1]);
            case "wind": return s.wind(a[0], a[1]);
            case "dish": return s.dish(a[0], a[1], a[2]);
            case "clear": return s.clear();
            case "read": return s.read();
            case "day": return s.day(a[0]);
            case "undo": return s.undo();
            case "of": return s.of(a[0], a[1]);
            case "smells": return s.smells(a[0], a[1], a[2]);
            case "moved": return s.moved(a[0], a[1]);
            case "falls": return s.falls(a[0], a[1]);
            case "order": return s.order(a[0], a[1]);
            case "never": return s.never();
            case "least": return s.least();
            case "answer": return s.answer(a[0], a[1], a[2]);
            case "game": return s.game(a[0]);
            case "note": return s.note(a[0], a[1], a[2], a[3], a[4]);
            case "forget": return s.forget();
            case "craved": return s.craved(a[0]);
            case "is": return s.is(a[0]);
            case "tryNext": return s.tryNext(a[0], a[1], a[2]);
            case "rain": return s.rain(a[0], a[1], a[2]);
            case "sieges": return s.sieges(a[0], a[1]);
            case "part": return s.part(a[0]);
            case "image": return s.image(a[0]);
            case "from": return s.from(a[0]);
            case "status": return s.status(a[0]);
            case "count": return s.count(a[0]);
            default: return s.digest();
        }
    }
}
