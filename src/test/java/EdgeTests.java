import java.util.ArrayList;
import java.util.List;

/**
 * The sentences of the document that name a boundary, one test each: the last number that is taken
 * and the first that is refused on either side, the least and the greatest int and long, what is
 * empty, what is full; and behind each refused call, that nothing has changed.
 */
public final class EdgeTests {
    private static final int BAD = -1, NOT = -2, FULL = -3, NONE = -4, NULL = -11, CAST = -12, INDEX = -13, SIZE = -14;
    private static final int LOW = Integer.MIN_VALUE, HIGH = Integer.MAX_VALUE;
    private static final int PLAIN = 0, HEAVY = 1, FIDGET = 2, STRANGER = 3;
    private static final int BYTES = 0, INTS = 1, LONGS = 2;
    private static final long EVERYWHERE = (1L << 36) - 1;
    private static final String WET_ROW = "......";
    private static final String WET = "....../....../....../....../....../......";

    private static int wrong = 0;
    private static int rows = 0;

    private interface Call {
        long on(MossPilots x);
    }

    private interface Maker {
        MossPilots make();
    }

    private static void due(String what, long got, long want) {
        rows++;
        if (got != want) {
            wrong++;
            System.out.println(what + " answered " + got + ", due is " + want);
        }
    }

    private static void hold(String what, boolean good) {
        rows++;
        if (!good) {
            wrong++;
            System.out.println("not so: " + what);
        }
    }

    // ---- objects to begin with

    private static long signs(String text) {
        long w = 0;
        for (char sign : text.toCharArray()) {
            w = w << 8 | sign;
        }
        return w;
    }

    /** Types a text, eight bytes a call. */
    private static void type(MossPilots x, String text) {
        for (int at = 0; at < text.length(); at += 8) {
            String part = text.substring(at, Math.min(at + 8, text.length()));
            x.type(signs(part), part.length());
        }
    }

    private static int marsh(MossPilots x, String text) {
        type(x, text);
        return x.marsh();
    }

    private static MossPilots of(String... rowTexts) {
        List<String> all = new ArrayList<>(List.of(rowTexts));
        while (all.size() < 6) {
            all.add(WET_ROW);
        }
        MossPilots x = new MossPilots();
        hold("a marsh of " + all, marsh(x, String.join("/", all)) >= 0);
        return x;
    }

    private static void people(MossPilots x, int... kinds) {
        for (int kind : kinds) {
            x.person(kind);
        }
    }

    private static MossPilots with(int kind, int... tuftCells) {
        MossPilots x = new MossPilots();
        x.person(kind);
        for (int cell : tuftCells) {
            x.tuft(cell);
        }
        return x;
    }

    /** Three tufts, four people of all kinds, three sheets, an image of other days, two bytes typed. */
    private static MossPilots lived() {
        MossPilots x = of("##m...", "..m...", "#.m..#");
        people(x, PLAIN, HEAVY, FIDGET, STRANGER);
        x.sit(1, 4, 9);
        x.sit(3, 30, 2);
        x.year();
        x.frost(5);
        x.sit(0, 20, 7);
        x.image();
        x.year();
        x.frost(0);
        x.sit(0, 35, 99);
        x.sit(1, 4, 3);
        x.sit(2, 0, 1);
        fill(x, 0, BYTES, 5);
        fill(x, 1, INTS, 9);
        fill(x, 2, LONGS, 3);
        type(x, "#m");
        return x;
    }

    /** As many tufts, people, bytes and years of frost as there can be. */
    private static MossPilots full() {
        MossPilots x = of("mmmmm#", "######", "######", "######", "######", "#####m");
        people(x, STRANGER, STRANGER, HEAVY, FIDGET, PLAIN, PLAIN);
        x.image();
        for (int person = 0; person < 6; person++) {
            x.sit(person, 7 * person, 99);
        }
        x.frost(9);
        fill(x, 3, INTS, 16);
        fill(x, 0, INTS, 0);
        fill(x, 1, BYTES, 16);
        type(x, "                   " + WET);
        return x;
    }

    private static void fill(MossPilots x, int sheet, int lane, int n) {
        x.sheet(sheet, lane, n);
        for (int i = 0; i < n; i += 2) {
            x.item(sheet, lane, i, i % 4 == 0 ? 35 : 7);
        }
    }

    // ---- all that can be read of an object

    private static final String[] PARTS = {"the marsh", "the image", "the tape", "the sheets"};

    /** Reading changes the object: each part is read from an object of its own. */
    private static List<Long> read(int part, MossPilots x) {
        List<Long> found = new ArrayList<>();
        if (part == 0) {
            readMarsh(x, found);
        } else if (part == 1) {
            found.add((long) x.restore());
            readMarsh(x, found);
        } else if (part == 2) {
            readTape(x, found);
        } else {
            readSheets(x, found);
        }
        return found;
    }

    private static void readMarsh(MossPilots x, List<Long> found) {
        for (int what = 0; what < 6; what++) {
            found.add((long) x.count(what));
        }
        for (int cell = 0; cell < 36; cell++) {
            for (int what = 0; what < 4; what++) {
                found.add((long) x.of(cell, what));
            }
            for (int tuft = 0; tuft < x.count(0); tuft++) {
                found.add((long) x.pull(cell, tuft));
            }
        }
        for (int k = 0; k < 6; k++) {
            found.add((long) x.moss(k));
            for (int what = 0; what < 4; what++) {
                found.add((long) x.told(k, what));
            }
        }
        found.add((long) x.parts());
        found.add((long) x.year());
        for (int k = 0; k < 6; k++) {
            found.add((long) x.moss(k));
            found.add((long) x.told(k, 3));
        }
    }

    /** Goes on behind what was typed ("#m", or nothing) as a marsh would. */
    private static void readTape(MossPilots x, List<Long> found) {
        found.add((long) x.type('.', 1));
        type(x, WET.substring(3));
        found.add((long) x.marsh());
        for (int cell = 0; cell < 36; cell++) {
            found.add((long) x.of(cell, 0));
            found.add((long) x.of(cell, 1));
        }
    }

    private static void readSheets(MossPilots x, List<Long> found) {
        x.marsh();
        marsh(x, WET);
        x.frost(0);
        x.tuft(0);
        x.person(PLAIN);
        for (int sheet = 0; sheet < 4; sheet++) {
            int lane = 0;
            for (int k = 0; k < 3; k++) {
                long answer = x.sat(0, 1, sheet, k, -1);
                found.add(answer);
                lane = answer == INDEX ? k : lane;
            }
            int size = 0;
            while (size < 17 && x.copy(sheet, size + 1, sheet, size + 1, 0) == 0) {
                size++;
            }
            found.add((long) size);
            for (int i = 0; i < size; i++) {
                found.add(itemOf(x, sheet, lane, i));
            }
        }
    }

    /** An item that is 0, 7 or 35, which are all that the objects here begin with; else -1. */
    private static long itemOf(MossPilots x, int sheet, int lane, int i) {
        for (int cell : new int[] {0, 7, 35}) {
            x.plant(0, cell);
            if (x.sat(0, 1, sheet, lane, i) == EVERYWHERE) {
                return cell;
            }
        }
        return -1;
    }

    /** An object to begin with, and what of it must stay as it is. */
    private static final class Scene {
        private final Maker maker;
        private final List<List<Long>> before = new ArrayList<>();

        Scene(Maker maker) {
            this.maker = maker;
            for (int part = 0; part < PARTS.length; part++) {
                before.add(read(part, maker.make()));
            }
        }

        /** A call that is answered so, behind which nothing has changed. */
        void stays(String what, long want, Call call) {
            for (int part = 0; part < PARTS.length; part++) {
                staysIn(part, what, want, call);
            }
        }

        void staysIn(int part, String what, long want, Call call) {
            MossPilots x = maker.make();
            due(what, call.on(x), want);
            hold(what + " changes nothing of " + PARTS[part], read(part, x).equals(before.get(part)));
        }

        /** A call that is taken, behind which something else can be read. */
        void changes(String what, int part, long want, Call call) {
            MossPilots x = maker.make();
            due(what, call.on(x), want);
            hold(what + " changes " + PARTS[part], !read(part, x).equals(before.get(part)));
            for (int other = 0; other < PARTS.length; other++) {
                if (other != part) {
                    staysIn(other, what, want, call);
                }
            }
        }
    }

    private static final Scene NEW = new Scene(MossPilots::new);
    private static final Scene LIVED = new Scene(EdgeTests::lived);
    private static final Scene FILLED = new Scene(EdgeTests::full);
    private static final Scene[] SCENES = {NEW, LIVED, FILLED};

    private static void badEverywhere(String what, Call call) {
        for (Scene scene : SCENES) {
            scene.stays(what, BAD, call);
        }
    }

    private static int[] outside(int first, int last) {
        return new int[] {first - 1, last + 1, LOW, LOW + 1, HIGH - 1, HIGH};
    }

    public static void main(String[] args) {
        whatIsRead();
        promise1();
        promise2();
        promise3();
        promises4To6();
        promises7To9();
        promises10To13();
        promise14();
        promise15();
        promises16To18();
        promise19();
        promise20();
        promises21To23();
        promise24();
        promise25();
        promises26And27();
        promise28();
        promise29();
        System.out.println(rows + " rows, " + wrong + " wrong");
        if (wrong != 0) {
            System.exit(1);
        }
    }

    /** That the reading sees each change, for else it would hold nothing. */
    private static void whatIsRead() {
        LIVED.changes("drain", 0, 0, x -> x.drain(35, true));
        LIVED.changes("tuft", 0, 3, x -> x.tuft(35));
        LIVED.changes("plant", 0, 8, x -> x.plant(2, 35));
        LIVED.changes("person", 0, 4, x -> x.person(0));
        LIVED.changes("sit", 0, 99, x -> x.sit(0, 35, 98));
        LIVED.changes("sit elsewhere", 0, 99, x -> x.sit(0, 34, 99));
        LIVED.changes("rise", 0, 1, x -> x.sit(2, 0, 0));
        LIVED.changes("frost", 0, 0, x -> x.frost(1));
        LIVED.changes("year", 0, 3, x -> x.year());
        LIVED.changes("restore", 0, 1, x -> x.restore());
        LIVED.changes("image", 1, 1, x -> x.image());
        LIVED.changes("type", 2, 3, x -> x.type(' ', 1));
        LIVED.changes("sheet", 3, 5, x -> x.sheet(0, BYTES, 5));
        LIVED.changes("sheet shorter", 3, 4, x -> x.sheet(0, BYTES, 4));
        LIVED.changes("sheet of a lane", 3, 5, x -> x.sheet(0, INTS, 5));
        LIVED.changes("drop", 3, 5, x -> x.drop(0));
        LIVED.changes("item", 3, 1, x -> x.item(1, INTS, 8, 0));
        LIVED.changes("film", 3, 3, x -> x.film(2, LONGS, 0));
        LIVED.changes("copy", 3, 1, x -> x.copy(1, 0, 1, 8, 1) + x.copy(1, 1, 1, 0, 1) - 1);
        LIVED.stays("parts", 4, x -> x.parts());
        LIVED.stays("route", 5, x -> x.route(0, 8, -1));
        LIVED.stays("pilots", 0, x -> x.pilots(0, 1));
        LIVED.stays("least", 1, x -> x.least(3, 2, 2, 0));
        LIVED.stays("game", 1296, x -> x.game(0, 1, 9, 9, 0, 0, 0));
        LIVED.stays("sat", 0, x -> x.sat(0, 9, 1, INTS, 0));
    }

    // ---- promise 1: a new object

    private static void promise1() {
        newIsNothingButWet();
        newHasNobodyAndNothing();
        usedForAtMost512Calls();
    }

    private static void newIsNothingButWet() {
        for (int cell = 0; cell < 36; cell++) {
            for (int what = 0; what < 4; what++) {
                int asked = cell;
                int of = what;
                NEW.stays("new of", 0, x -> x.of(asked, of));
            }
        }
        for (int what = 0; what < 6; what++) {
            due("new count " + what, new MossPilots().count(what), 0);
        }
        NEW.stays("new parts", 0, x -> x.parts());
        NEW.stays("new way", NONE, x -> x.way(0, 0));
        NEW.stays("new route", NONE, x -> x.route(35, 35, -1));
        NEW.stays("new pilots", NONE, x -> x.pilots(35, 35));
    }

    private static void newHasNobodyAndNothing() {
        NEW.stays("new plant", BAD, x -> x.plant(0, 0));
        NEW.stays("new moss", BAD, x -> x.moss(0));
        NEW.stays("new pull", BAD - 1000, x -> x.pull(0, 0));
        NEW.stays("new sit", BAD, x -> x.sit(0, 0, 1));
        NEW.stays("new told", BAD, x -> x.told(0, 0));
        NEW.stays("new least", BAD, x -> x.least(0, 0, 0, 0));
        NEW.stays("new game", BAD, x -> x.game(0, 1, 1, 1, 0, 0, 0));
        NEW.stays("new restore", NONE, x -> x.restore());
        NEW.stays("new sat", BAD, x -> x.sat(0, 1, 0, 0, 0));
        NEW.stays("new marsh", -20, x -> x.marsh());
        for (int sheet = 0; sheet < 4; sheet++) {
            int asked = sheet;
            NEW.stays("new drop", NULL, x -> x.drop(asked));
            NEW.stays("new film", NULL, x -> x.film(asked, 0, 0));
            NEW.stays("new item", NULL, x -> x.item(asked, 0, 0, 0));
            NEW.stays("new copy", NULL, x -> x.copy(asked, 0, asked, 0, 0));
        }
        due("new year", new MossPilots().year(), 0);
    }

    private static void usedForAtMost512Calls() {
        MossPilots x = new MossPilots();
        for (int call = 1; call < 512; call++) {
            x.year();
        }
        due("the 512th call", x.count(3), 511);
    }

    // ---- promise 2: type

    private static void promise2() {
        typeTakesOneToEightBytes();
        typeTakes32To126();
        typeLooksAtTheLowestBytesAlone();
        typePutsTheHighestFirst();
        typeIsFullAt60();
        typeIsBadAheadOfFull();
    }

    private static String blanks(int n) {
        return " ".repeat(n);
    }

    private static void typeTakesOneToEightBytes() {
        for (int n = 1; n <= 8; n++) {
            due("type so many", new MossPilots().type(signs("........"), n), n);
        }
        for (int n : outside(1, 8)) {
            badEverywhere("type n " + n, x -> x.type(signs("........"), n));
        }
    }

    private static void typeTakes32To126() {
        for (int n = 1; n <= 8; n++) {
            for (int place = 0; place < n; place++) {
                long others = signs("........") & ~(255L << 8 * place);
                for (long sign : new long[] {32, 126}) {
                    due("type " + sign, new MossPilots().type(others | sign << 8 * place, n), n);
                }
                for (long sign : new long[] {0, 31, 127, 128, 255}) {
                    long w = others | sign << 8 * place;
                    int all = n;
                    LIVED.staysIn(2, "type " + sign + " at " + place, BAD, x -> x.type(w, all));
                }
            }
        }
        badEverywhere("type 31", x -> x.type(31, 1));
        badEverywhere("type 127", x -> x.type(127, 1));
    }

    private static void typeLooksAtTheLowestBytesAlone() {
        for (int n = 1; n < 8; n++) {
            long low = signs("........") & (1L << 8 * n) - 1;
            due("type of the least long", new MossPilots().type(Long.MIN_VALUE | low, n), n);
            due("type of a long of ones", new MossPilots().type(-1L << 8 * n | low, n), n);
        }
        due("type of the greatest that is taken", new MossPilots().type(0x7E7E7E7E7E7E7E7EL, 8), 8);
        due("type of the least that is taken", new MossPilots().type(0x2020202020202020L, 8), 8);
        for (int n = 1; n <= 8; n++) {
            int all = n;
            LIVED.stays("type the least long", BAD, x -> x.type(Long.MIN_VALUE, all));
            LIVED.stays("type the greatest long", BAD, x -> x.type(Long.MAX_VALUE, all));
        }
    }

    private static void typePutsTheHighestFirst() {
        MossPilots x = new MossPilots();
        due("type behind nothing", x.type(signs("#m.#.m/."), 8), 8);
        due("type behind", x.type(signs("#"), 1), 9);
        due("type behind again", x.type(signs("...."), 4), 13);
        type(x, WET.substring(13));
        due("type in order", x.marsh(), 2);
        due("type first", x.of(0, 0), 1);
        due("type second", x.moss(0), 1);
        due("type sixth", x.moss(1), 5);
        due("type ninth", x.of(7, 0), 1);
        due("type no more", x.count(2), 3);
    }

    private static void typeIsFullAt60() {
        for (int n = 1; n <= 8; n++) {
            int all = n;
            MossPilots x = new MossPilots();
            type(x, blanks(60 - n));
            due("type to 60", x.type(signs("........"), n), 60);
            due("type beyond 60", x.type(signs("........"), n), FULL);
            Scene almost = new Scene(() -> {
                MossPilots y = new MossPilots();
                type(y, blanks(61 - all));
                return y;
            });
            almost.stays("type to 61 by " + n, FULL, y -> y.type(signs("........"), all));
            FILLED.stays("type behind 60", FULL, y -> y.type(signs("........"), all));
        }
    }

    private static void typeIsBadAheadOfFull() {
        FILLED.stays("type bad byte ahead of full", BAD, x -> x.type(127, 1));
        FILLED.stays("type bad n ahead of full", BAD, x -> x.type('.', 9));
        FILLED.stays("type bad n 0 ahead of full", BAD, x -> x.type('.', 0));
    }

    // ---- promise 3: marsh

    private static void promise3() {
        marshTellsTheFirstByteThatCannotStand();
        marshTellsTheEnd();
        marshTakesThreeSignsAndASlash();
        marshTakesSixTufts();
        marshSkipsBlanks();
        marshFaultEmptiesTheTapeAlone();
        marshComesInPlaceOfCellsAndTufts();
    }

    private static void marshTellsTheFirstByteThatCannotStand() {
        for (int place = 0; place < 41; place++) {
            String sign = place % 7 == 6 ? "." : "/";
            String text = WET.substring(0, place) + sign + WET.substring(place + 1);
            due("marsh wrong at " + place, marsh(new MossPilots(), text), -20 - place);
            String cut = text.substring(0, place + 1);
            due("marsh wrong at " + place + ", the last", marsh(new MossPilots(), cut), -20 - place);
        }
        due("marsh of two faults", marsh(new MossPilots(), "..x..x"), -22);
        for (String more : new String[] {".", "#", "m", "/", "x"}) {
            due("marsh and " + more, marsh(new MossPilots(), WET + more), -61);
        }
        due("marsh and most", marsh(new MossPilots(), WET + "..................."), -61);
    }

    private static void marshTellsTheEnd() {
        for (int size = 0; size < 41; size++) {
            due("marsh of " + size, marsh(new MossPilots(), WET.substring(0, size)), -20 - size);
        }
        due("marsh of 41", marsh(new MossPilots(), WET), 0);
    }

    private static void marshTakesThreeSignsAndASlash() {
        for (char sign = 32; sign < 127; sign++) {
            boolean cell = sign == '.' || sign == '#' || sign == 'm' || sign == ' ';
            String text = sign == ' ' ? sign + WET : sign + WET.substring(1);
            due("marsh cell " + sign, Math.min(0, marsh(new MossPilots(), text)), cell ? 0 : -20);
            String parted = WET.substring(0, 6) + sign + (sign == ' ' ? WET.substring(6) : WET.substring(7));
            due("marsh part " + sign, marsh(new MossPilots(), parted), sign == '/' || sign == ' ' ? 0 : -26);
        }
        MossPilots firm = new MossPilots();
        due("marsh all firm", marsh(firm, WET.replace('.', '#')), 0);
        due("marsh all firm cells", firm.count(2), 36);
        due("marsh all firm tufts", firm.count(0), 0);
    }

    private static void marshTakesSixTufts() {
        for (int seventh = 6; seventh < 36; seventh++) {
            int place = seventh + seventh / 6;
            String text = "mmmmmm" + WET.substring(6);
            due("marsh six", marsh(new MossPilots(), text), 6);
            String more = text.substring(0, place) + "m" + text.substring(place + 1);
            due("marsh seven", marsh(new MossPilots(), more), -20 - place);
        }
        MossPilots x = new MossPilots();
        due("marsh last six", marsh(x, WET.substring(0, 35) + "mmmmmm"), 6);
        for (int tuft = 0; tuft < 6; tuft++) {
            due("marsh by cells", x.moss(tuft), 30 + tuft);
            due("marsh moss is wet", x.of(30 + tuft, 0), 0);
        }
    }

    private static void marshSkipsBlanks() {
        due("marsh most blanks ahead", marsh(new MossPilots(), blanks(19) + WET), 0);
        due("marsh most blanks behind", marsh(new MossPilots(), WET + blanks(19)), 0);
        due("marsh one blank too many", marsh(new MossPilots(), blanks(20) + WET.substring(0, 40)), -80);
        due("marsh blanks between", marsh(new MossPilots(), "  " + WET.replace("/", " / ") + "  "), 0);
        due("marsh nothing but blanks", marsh(new MossPilots(), blanks(60)), -80);
        due("marsh one blank", marsh(new MossPilots(), " "), -21);
        due("marsh wrong behind blanks", marsh(new MossPilots(), blanks(3) + "x"), -23);
        due("marsh wrong ahead of blanks", marsh(new MossPilots(), ". x " + blanks(9)), -22);
        due("marsh wrong at the last of 60", marsh(new MossPilots(), blanks(19) + WET.substring(0, 40) + "x"), -79);
        due("marsh too long behind blanks", marsh(new MossPilots(), WET + blanks(18) + "."), -79);
        due("marsh end behind blanks", marsh(new MossPilots(), ".. " + blanks(2)), -25);
    }

    private static void marshFaultEmptiesTheTapeAlone() {
        for (int part : new int[] {0, 1, 3}) {
            LIVED.staysIn(part, "marsh end", -22, x -> x.marsh());
            LIVED.staysIn(part, "marsh fault", -23, x -> marsh(x, "#x"));
            LIVED.staysIn(part, "marsh too long", -61, x -> marsh(x, WET.substring(2) + "/"));
            LIVED.staysIn(part, "marsh seven tufts", -28, x -> marsh(x, "mmmm/mm"));
        }
        for (String text : new String[] {"", "x", "mmmmmm/m", WET + ".", WET}) {
            MossPilots x = new MossPilots();
            marsh(x, text);
            due("marsh empties", x.type('.', 1), 1);
            due("marsh empties all", x.marsh(), -21);
        }
    }

    private static void marshComesInPlaceOfCellsAndTufts() {
        MossPilots x = full();
        due("marsh of 60", x.marsh(), 0);
        due("marsh no tufts", x.count(0), 0);
        due("marsh people", x.count(1), 6);
        due("marsh no firm cells", x.count(2), 0);
        due("marsh frost", x.count(4), 9);
        for (int person = 0; person < 6; person++) {
            due("marsh nobody sits", x.told(person, 1), NONE);
            due("marsh no hours", x.told(person, 2), 0);
        }
        for (int tuft = 0; tuft < 6; tuft++) {
            due("marsh tuft anew", x.tuft(35), tuft);
        }
        for (int part : new int[] {1, 3}) {
            FILLED.staysIn(part, "marsh and the image, the sheets", 0, y -> y.marsh());
        }
    }

    // ---- promises 4 to 6: drain, tuft, plant

    private static void promises4To6() {
        drainTakesCells();
        tuftTakesCells();
        tuftIsFullAtSix();
        plantTakesTuftsThatThereAre();
        plantTakesCells();
    }

    private static void drainTakesCells() {
        MossPilots x = new MossPilots();
        for (int cell = 0; cell < 36; cell++) {
            due("drain to wet, wet", x.drain(cell, false), 0);
            due("drain to firm, wet", x.drain(cell, true), 0);
            due("drain to firm, firm", x.drain(cell, true), 1);
            due("drained", x.of(cell, 0), 1);
            due("drained so many", x.count(2), cell + 1);
        }
        for (int cell = 35; cell >= 0; cell--) {
            due("drain back", x.drain(cell, false), 1);
            due("drained so few", x.count(2), cell);
        }
        for (int cell : outside(0, 35)) {
            badEverywhere("drain " + cell, y -> y.drain(cell, true));
            badEverywhere("drain back " + cell, y -> y.drain(cell, false));
        }
    }

    private static void tuftTakesCells() {
        for (int cell = 0; cell < 36; cell++) {
            MossPilots x = new MossPilots();
            due("tuft", x.tuft(cell), 0);
            due("tuft two in one", x.tuft(cell), 1);
            due("tuft in its cell", x.moss(0), cell);
            due("tufts in a cell", x.of(cell, 1), 2);
        }
        for (int cell : outside(0, 35)) {
            badEverywhere("tuft " + cell, x -> x.tuft(cell));
        }
    }

    private static void tuftIsFullAtSix() {
        MossPilots x = new MossPilots();
        for (int tuft = 0; tuft < 6; tuft++) {
            due("tuft as they come", x.tuft(35 - tuft), tuft);
            due("tufts so many", x.count(0), tuft + 1);
        }
        FILLED.stays("tuft full", FULL, y -> y.tuft(0));
        FILLED.stays("tuft full 35", FULL, y -> y.tuft(35));
        FILLED.stays("tuft bad ahead of full", BAD, y -> y.tuft(36));
    }

    private static void plantTakesTuftsThatThereAre() {
        for (int tufts = 0; tufts <= 6; tufts++) {
            int many = tufts;
            Scene scene = new Scene(() -> inARow(many));
            for (int tuft : outside(0, many - 1)) {
                scene.stays("plant tuft " + tuft + " of " + many, BAD, x -> x.plant(tuft, 0));
                scene.stays("moss " + tuft + " of " + many, BAD, x -> x.moss(tuft));
            }
            for (int tuft = 0; tuft < many; tuft++) {
                MossPilots x = inARow(many);
                due("moss", x.moss(tuft), tuft);
                due("plant", x.plant(tuft, 30), tuft);
                due("planted", x.moss(tuft), 30);
            }
        }
    }

    /** So many tufts from the first cell on. */
    private static MossPilots inARow(int tufts) {
        MossPilots x = new MossPilots();
        for (int tuft = 0; tuft < tufts; tuft++) {
            x.tuft(tuft);
        }
        return x;
    }

    private static void plantTakesCells() {
        MossPilots x = with(PLAIN, 17);
        due("plant first", x.plant(0, 0), 17);
        due("plant last", x.plant(0, 35), 0);
        due("planted last", x.moss(0), 35);
        due("plant where it is", x.plant(0, 35), 35);
        due("planted where it is", x.moss(0), 35);
        due("plant onto another", x.tuft(3) + x.plant(0, 3), 36);
        due("planted onto another", x.of(3, 1), 2);
        for (int cell : outside(0, 35)) {
            LIVED.stays("plant in " + cell, BAD, y -> y.plant(2, cell));
            FILLED.stays("plant in " + cell, BAD, y -> y.plant(5, cell));
        }
    }

    // ---- promises 7 to 9: person, sit, told

    private static void promises7To9() {
        personTakesKinds();
        personIsFullAtSix();
        sitTakesPeopleThatThereAre();
        sitTakesCellsAlsoForNowhere();
        sitTakesHours();
        toldTakesPeopleAndFourQuestions();
        toldOfOneWhoSitsNowhere();
    }

    private static void personTakesKinds() {
        for (int kind = 0; kind < 4; kind++) {
            MossPilots x = new MossPilots();
            due("person", x.person(kind), 0);
            due("person kind", x.told(0, 0), kind);
            due("person nowhere", x.told(0, 1), NONE);
        }
        for (int kind : outside(0, 3)) {
            badEverywhere("person " + kind, x -> x.person(kind));
        }
    }

    private static void personIsFullAtSix() {
        MossPilots x = new MossPilots();
        for (int person = 0; person < 6; person++) {
            due("person as they come", x.person(person % 4), person);
            due("people so many", x.count(1), person + 1);
        }
        for (int kind = 0; kind < 4; kind++) {
            int one = kind;
            FILLED.stays("person full", FULL, y -> y.person(one));
        }
        FILLED.stays("person bad ahead of full", BAD, y -> y.person(4));
        FILLED.stays("person bad below ahead of full", BAD, y -> y.person(-1));
    }

    private static void sitTakesPeopleThatThereAre() {
        for (int person : outside(0, 3)) {
            LIVED.stays("sit " + person, BAD, x -> x.sit(person, 0, 1));
            LIVED.stays("told " + person, BAD, x -> x.told(person, 0));
        }
        for (int person : outside(0, 5)) {
            FILLED.stays("sit " + person, BAD, x -> x.sit(person, 0, 0));
            FILLED.stays("told " + person, BAD, x -> x.told(person, 3));
        }
        MossPilots x = full();
        for (int person = 0; person < 6; person++) {
            due("sit of six", x.sit(person, 3, 2), 99);
            due("told of six", x.told(person, 1), 3);
        }
    }

    private static void sitTakesCellsAlsoForNowhere() {
        for (int cell : outside(0, 35)) {
            for (int hours : new int[] {0, 1, 99}) {
                LIVED.stays("sit in " + cell + " for " + hours, BAD, x -> x.sit(0, cell, hours));
            }
        }
        MossPilots x = with(PLAIN);
        for (int cell = 0; cell < 36; cell++) {
            due("sit", x.sit(0, cell, 1), 0);
            due("sit there", x.told(0, 1), cell);
            due("sit nowhere", x.sit(0, cell, 0), 1);
            due("sits nowhere", x.told(0, 1), NONE);
        }
    }

    private static void sitTakesHours() {
        MossPilots x = with(PLAIN);
        int before = 0;
        for (int hours = 0; hours <= 99; hours++) {
            due("sit for " + hours, x.sit(0, 35, hours), before);
            due("told hours", x.told(0, 2), hours);
            before = hours;
        }
        for (int hours : outside(0, 99)) {
            LIVED.stays("sit for " + hours, BAD, y -> y.sit(0, 0, hours));
            FILLED.stays("sit for " + hours, BAD, y -> y.sit(5, 35, hours));
        }
    }

    private static void toldTakesPeopleAndFourQuestions() {
        for (int what : outside(0, 3)) {
            LIVED.stays("told what " + what, BAD, x -> x.told(0, what));
            FILLED.stays("told what " + what, BAD, x -> x.told(5, what));
        }
        MossPilots x = full();
        int[] want = {PLAIN, 35, 99, 0};
        for (int what = 0; what < 4; what++) {
            due("told " + what, x.told(5, what), want[what]);
        }
    }

    private static void toldOfOneWhoSitsNowhere() {
        MossPilots x = with(STRANGER);
        int[] want = {STRANGER, NONE, 0, 0};
        for (int what = 0; what < 4; what++) {
            due("told nowhere " + what, x.told(0, what), want[what]);
        }
        x.sit(0, 0, 1);
        due("told the first cell", x.told(0, 1), 0);
        due("told one hour", x.told(0, 2), 1);
        x.year();
        due("told nowhere behind the year", x.told(0, 1), NONE);
        due("told one ache", x.told(0, 3), 1);
    }

    // ---- promises 10 to 13: of, frost, count, moss

    private static void promises10To13() {
        ofTakesCellsAndFourQuestions();
        kindsCount();
        aSeatCountsAllTogether();
        oneCanWalk();
        frostTakes0To9();
        countTakesSixQuestions();
        countOfWhatIsFull();
        countOfAchesIsASet();
    }

    private static void ofTakesCellsAndFourQuestions() {
        for (int cell : outside(0, 35)) {
            for (int what = 0; what < 4; what++) {
                int asked = what;
                badEverywhere("of " + cell, x -> x.of(cell, asked));
            }
        }
        for (int what : outside(0, 3)) {
            badEverywhere("of what " + what, x -> x.of(0, what));
            badEverywhere("of 35 what " + what, x -> x.of(35, what));
        }
        MossPilots x = full();
        int[] want = {0, 1, 1, 99};
        for (int what = 0; what < 4; what++) {
            due("of 35 " + what, x.of(35, what), want[what]);
        }
    }

    private static void kindsCount() {
        int[] hours = {1, 2, 3, 98, 99};
        int[][] want = {{1, 2, 3, 98, 99}, {2, 4, 6, 196, 198}, {0, 1, 1, 49, 49}, {2, 4, 6, 196, 198}};
        for (int kind = 0; kind < 4; kind++) {
            for (int k = 0; k < hours.length; k++) {
                MossPilots x = with(kind);
                x.sit(0, 35, hours[k]);
                due("kind " + kind + " for " + hours[k], x.of(35, 3), want[kind][k]);
                due("kind " + kind + " elsewhere", x.of(34, 3), 0);
                x.sit(0, 35, 0);
                due("kind " + kind + " nowhere", x.of(35, 3), 0);
            }
        }
    }

    private static void aSeatCountsAllTogether() {
        MossPilots x = new MossPilots();
        people(x, STRANGER, STRANGER, STRANGER, HEAVY, HEAVY, HEAVY);
        for (int person = 0; person < 6; person++) {
            x.sit(person, 0, 99);
            due("counts together", x.of(0, 3), 198 * (person + 1));
        }
        MossPilots cut = new MossPilots();
        people(cut, FIDGET, FIDGET);
        cut.sit(0, 0, 1);
        cut.sit(1, 0, 1);
        due("counts cut for each", cut.of(0, 3), 0);
    }

    private static void oneCanWalk() {
        MossPilots x = of("#m....");
        due("walk on firm", x.of(0, 2), 1);
        due("walk on moss", x.of(1, 2), 1);
        due("walk on wet", x.of(2, 2), 0);
        x.frost(1);
        due("walk in frost", x.of(2, 2), 1);
        x.year();
        due("walk behind frost", x.of(2, 2), 0);
        x.plant(0, 35);
        due("walk where moss was", x.of(1, 2), 0);
        due("walk where moss is", x.of(35, 2), 1);
    }

    private static void frostTakes0To9() {
        MossPilots x = new MossPilots();
        int before = 0;
        for (int years = 9; years >= 0; years--) {
            due("frost " + years, x.frost(years), before);
            due("frost counted", x.count(4), years);
            due("frost walked", x.of(35, 2), years > 0 ? 1 : 0);
            before = years;
        }
        for (int years : outside(0, 9)) {
            badEverywhere("frost " + years, y -> y.frost(years));
        }
    }

    private static void countTakesSixQuestions() {
        for (int what : outside(0, 5)) {
            badEverywhere("count " + what, x -> x.count(what));
        }
        MossPilots x = lived();
        int[] want = {3, 4, 5, 2, 0, 0b1011};
        for (int what = 0; what < 6; what++) {
            due("count " + what, x.count(what), want[what]);
        }
    }

    private static void countOfWhatIsFull() {
        MossPilots x = full();
        int[] want = {6, 6, 30, 0, 9, 0};
        for (int what = 0; what < 6; what++) {
            due("count full " + what, x.count(what), want[what]);
        }
    }

    private static void countOfAchesIsASet() {
        for (int set = 0; set < 64; set++) {
            MossPilots x = new MossPilots();
            people(x, PLAIN, PLAIN, HEAVY, HEAVY, FIDGET, FIDGET);
            for (int person = 0; person < 6; person++) {
                x.sit(person, 6 * person, set >> person & 1);
            }
            x.year();
            due("aches", x.count(5), set);
        }
    }

    // ---- promise 14: pull

    private static void promise14() {
        pullTakesCellsAndTufts();
        pullIsNotWhereNobodySits();
        pullIsLessThreeForEachCell();
        pullAtItsMostAndLeast();
    }

    private static void pullTakesCellsAndTufts() {
        for (int cell : outside(0, 35)) {
            LIVED.stays("pull of " + cell, BAD - 1000, x -> x.pull(cell, 0));
            FILLED.stays("pull of " + cell, BAD - 1000, x -> x.pull(cell, 5));
        }
        for (int tuft : outside(0, 2)) {
            LIVED.stays("pull on " + tuft, BAD - 1000, x -> x.pull(35, tuft));
            LIVED.stays("pull bad ahead of not " + tuft, BAD - 1000, x -> x.pull(34, tuft));
        }
        for (int tuft : outside(0, 5)) {
            FILLED.stays("pull on " + tuft, BAD - 1000, x -> x.pull(0, tuft));
        }
    }

    private static void pullIsNotWhereNobodySits() {
        LIVED.stays("pull of no seat", NOT - 1000, x -> x.pull(34, 0));
        LIVED.stays("pull of a seat", -9, x -> x.pull(0, 2));
        MossPilots x = with(FIDGET, 0);
        x.sit(0, 0, 1);
        due("pull of a seat that counts 0", x.pull(0, 0), 0);
        x.sit(0, 0, 0);
        due("pull of one who left", x.pull(0, 0), NOT - 1000);
        x.sit(0, 5, 1);
        x.year();
        due("pull behind the year", x.pull(5, 0), NOT - 1000);
    }

    private static void pullIsLessThreeForEachCell() {
        for (int cell = 0; cell < 36; cell++) {
            MossPilots x = with(HEAVY, 0, 35, 5, 14);
            x.sit(0, cell, 20);
            due("pull on 0", x.pull(cell, 0), 40 - 3 * (cell / 6 + cell % 6));
            due("pull on 35", x.pull(cell, 1), 40 - 3 * (10 - cell / 6 - cell % 6));
            due("pull on 5", x.pull(cell, 2), 40 - 3 * (cell / 6 + 5 - cell % 6));
            due("pull on 14", x.pull(cell, 3), 40 - 3 * (Math.abs(cell / 6 - 2) + Math.abs(cell % 6 - 2)));
        }
    }

    private static void pullAtItsMostAndLeast() {
        MossPilots x = new MossPilots();
        people(x, STRANGER, STRANGER, STRANGER, STRANGER, HEAVY, HEAVY);
        x.tuft(35);
        x.tuft(0);
        for (int person = 0; person < 6; person++) {
            x.sit(person, 35, 99);
        }
        due("pull at its most", x.pull(35, 0), 1188);
        due("pull at its most from afar", x.pull(35, 1), 1158);
        MossPilots least = with(FIDGET, 0);
        least.sit(0, 35, 1);
        due("pull at its least", least.pull(35, 0), -30);
    }

    // ---- promise 15: year

    private static void promise15() {
        aTuftGoesByAPullAbove0();
        aTuftStaysBetweenLikePulls();
        aTuftStaysWhereItIs();
        aTuftGoesByARowFirst();
        noTuftGoesInFrost();
        yearTellsHowManyGo();
        oneAchesWhoSatInAWetCell();
        strangersMakeCellsFirm();
        nobodySitsBehindTheYear();
        frostLastsAYearLess();
        yearIsFullAt9999();
    }

    /** The one tuft is there behind the year; people PLAIN, by pairs of cell and hours. */
    private static void dueMoss(String what, int from, int want, int... cellsAndHours) {
        MossPilots x = new MossPilots();
        x.tuft(from);
        for (int k = 0; k + 1 < cellsAndHours.length; k += 2) {
            x.sit(x.person(PLAIN), cellsAndHours[k], cellsAndHours[k + 1]);
        }
        due(what + ", tufts that go", x.year(), from == want ? 0 : 1);
        due(what, x.moss(0), want);
    }

    private static void aTuftGoesByAPullAbove0() {
        for (int cell = 1; cell < 36; cell++) {
            int apart = cell / 6 + cell % 6;
            int next = cell < 6 ? 1 : 6;
            dueMoss("year pull 0 of " + cell, 0, 0, cell, 3 * apart);
            dueMoss("year pull 1 of " + cell, 0, next, cell, 3 * apart + 1);
            dueMoss("year pull -1 of " + cell, 0, 0, cell, 3 * apart - 1);
            dueMoss("year the most of " + cell, 0, next, cell, 99);
        }
        dueMoss("year of nobody", 0, 0);
    }

    private static void aTuftStaysBetweenLikePulls() {
        dueMoss("year likes", 14, 14, 13, 9, 15, 9);
        dueMoss("year one more", 14, 13, 13, 10, 15, 9);
        dueMoss("year one less", 14, 15, 13, 8, 15, 9);
        dueMoss("year likes of unlike hours", 14, 14, 13, 6, 16, 9);
        dueMoss("year unlike ones of like hours", 14, 13, 13, 9, 16, 9);
        dueMoss("year likes of pull 1", 14, 14, 13, 4, 15, 4);
        dueMoss("year a like one of three", 14, 14, 13, 9, 20, 5, 15, 9);
        dueMoss("year the most behind likes", 14, 20, 13, 8, 15, 8, 20, 9);
        dueMoss("year the most ahead of likes", 14, 20, 20, 9, 13, 8, 15, 8);
        dueMoss("year the most between likes", 14, 20, 13, 8, 20, 9, 15, 8);
        dueMoss("year two in one seat are no like ones", 14, 13, 13, 2, 13, 2);
        dueMoss("year all six alike", 14, 14, 13, 9, 15, 9, 8, 9, 20, 9, 16, 12, 2, 12);
    }

    private static void aTuftStaysWhereItIs() {
        dueMoss("year there", 35, 35, 35, 99);
        dueMoss("year there for one hour", 0, 0, 0, 1);
        dueMoss("year there, another weaker", 14, 14, 14, 7, 15, 9);
        dueMoss("year there, another alike", 14, 14, 14, 6, 15, 9);
        dueMoss("year there, another stronger", 14, 15, 14, 5, 15, 9);
    }

    private static void aTuftGoesByARowFirst() {
        dueMoss("year up, then left", 35, 29, 0, 99);
        dueMoss("year up, then right", 30, 24, 5, 99);
        dueMoss("year down, then left", 5, 11, 30, 99);
        dueMoss("year down, then right", 0, 6, 35, 99);
        dueMoss("year up one row", 17, 11, 6, 99);
        dueMoss("year down one row", 6, 12, 17, 99);
        dueMoss("year left", 35, 34, 30, 99);
        dueMoss("year right", 30, 31, 35, 99);
        dueMoss("year a row alone", 3, 9, 33, 99);
    }

    private static void noTuftGoesInFrost() {
        for (int years = 0; years <= 9; years++) {
            MossPilots x = with(PLAIN, 0, 35);
            x.sit(0, 14, 99);
            x.frost(years);
            due("year in frost " + years, x.year(), years > 0 ? 0 : 2);
            due("year in frost moss " + years, x.moss(0), years > 0 ? 0 : 6);
        }
    }

    private static void yearTellsHowManyGo() {
        for (int tufts = 0; tufts <= 6; tufts++) {
            MossPilots x = inARow(tufts);
            x.person(HEAVY);
            x.sit(0, 35, 99);
            due("year so many go", x.year(), tufts);
            due("year nobody sits any more", x.year(), 0);
            due("years", x.count(3), 2);
        }
        MossPilots some = with(PLAIN, 0, 1, 2, 3, 4, 5);
        some.sit(0, 0, 7);
        due("year those that are pulled", some.year(), 2);
        due("year the one that is there", some.moss(0), 0);
        due("year the last that goes", some.moss(2), 1);
        due("year the first that stays", some.moss(3), 3);
    }

    private static void oneAchesWhoSatInAWetCell() {
        MossPilots x = of("#m....");
        people(x, PLAIN, HEAVY, FIDGET, STRANGER, PLAIN, PLAIN);
        for (int year = 1; year <= 3; year++) {
            x.frost(year == 2 ? 1 : 0);
            x.sit(0, 0, 99);
            x.sit(1, 1, 1);
            x.sit(2, 35, 1);
            x.sit(3, 30, 99);
            x.sit(4, 30, 1);
            x.sit(5, 20, 0);
            x.year();
            int[] want = {0, year, year, 1, 1, 0};
            for (int person = 0; person < 6; person++) {
                due("aches of " + person + " in year " + year, x.told(person, 3), want[person]);
            }
        }
    }

    private static void strangersMakeCellsFirm() {
        for (int kind = 0; kind < 4; kind++) {
            for (int cell = 0; cell < 36; cell++) {
                MossPilots x = with(kind);
                x.sit(0, cell, 1);
                due("year not yet firm", x.of(cell, 0), 0);
                x.year();
                due("year firm", x.of(cell, 0), kind == STRANGER ? 1 : 0);
                due("year firm cells", x.count(2), kind == STRANGER ? 1 : 0);
            }
        }
        MossPilots nowhere = with(STRANGER);
        nowhere.year();
        due("year of a stranger nowhere", nowhere.count(2), 0);
        nowhere.sit(0, 20, 9);
        nowhere.sit(0, 21, 0);
        nowhere.year();
        due("year of a stranger for 0 hours", nowhere.count(2), 0);
    }

    private static void nobodySitsBehindTheYear() {
        MossPilots x = full();
        x.year();
        for (int person = 0; person < 6; person++) {
            due("year nowhere", x.told(person, 1), NONE);
            due("year no hours", x.told(person, 2), 0);
            due("year no seat", x.of(7 * person, 3), 0);
        }
    }

    private static void frostLastsAYearLess() {
        MossPilots x = full();
        for (int years = 9; years >= 0; years--) {
            due("frost left", x.count(4), years);
            x.year();
        }
        due("frost not below 0", x.count(4), 0);
        x.year();
        due("frost still not below 0", x.count(4), 0);
    }

    /** So many calls are more than the document promises; the class keeps to its words there, too. */
    private static void yearIsFullAt9999() {
        Scene late = new Scene(EdgeTests::late);
        late.stays("year 10000", FULL, x -> x.year());
        due("the last years", late().count(3), 9999);
        MossPilots x = new MossPilots();
        for (int year = 0; year < 9998; year++) {
            x.year();
        }
        x.tuft(0);
        x.person(PLAIN);
        x.sit(0, 1, 9);
        due("year 9999", x.year(), 1);
        x.sit(0, 2, 9);
        due("year full", x.year(), FULL);
        due("year full, one sits on", x.told(0, 2), 9);
        due("year full, moss stays", x.moss(0), 1);
    }

    private static MossPilots late() {
        MossPilots x = new MossPilots();
        for (int year = 0; year < 9999; year++) {
            x.year();
        }
        people(x, PLAIN, STRANGER);
        x.tuft(3);
        x.sit(0, 4, 9);
        x.sit(1, 35, 1);
        x.frost(2);
        return x;
    }

    // ---- promises 16 to 18: way, route, parts

    private static final String[] LONGEST = {"######", ".....#", "###.##", "#.###.", "##...#", ".#####"};

    private static void promises16To18() {
        wayTakesCells();
        wayAtItsLeastAndMost();
        wayNeedsItsEnds();
        wayGoesBySides();
        routeTakesCellsAndPlaces();
        routeCosts();
        routeAtItsLeastAndMost();
        routeIsTheFirstOfLikeOnes();
        partsAtTheirLeastAndMost();
    }

    private static void wayTakesCells() {
        for (int cell : outside(0, 35)) {
            badEverywhere("way from " + cell, x -> x.way(cell, 0));
            badEverywhere("way to " + cell, x -> x.way(35, cell));
        }
        LIVED.stays("way none", NONE, x -> x.way(0, 35));
        MossPilots x = full();
        due("way from the first to the last", x.way(0, 35), 10);
        due("way from the last to the first", x.way(35, 0), 10);
    }

    private static void wayAtItsLeastAndMost() {
        for (int cell = 0; cell < 36; cell++) {
            MossPilots x = new MossPilots();
            due("way in one wet cell", x.way(cell, cell), NONE);
            x.drain(cell, true);
            due("way in one cell", x.way(cell, cell), 0);
        }
        due("the longest way", of(LONGEST).way(0, 29), 23);
        due("the longest way back", of(LONGEST).way(29, 0), 23);
    }

    private static void wayNeedsItsEnds() {
        MossPilots x = of("##....");
        due("way of both ends", x.way(0, 1), 1);
        due("way to a wet end", x.way(1, 2), NONE);
        due("way from a wet end", x.way(2, 1), NONE);
        due("way between wet ends", x.way(2, 3), NONE);
        x.tuft(2);
        due("way to moss", x.way(1, 2), 1);
        due("way from moss", x.way(2, 0), 2);
        due("way on moss", x.way(2, 2), 0);
    }

    private static void wayGoesBySides() {
        for (int a = 0; a < 36; a++) {
            for (int b = 0; b < 36; b++) {
                MossPilots x = new MossPilots();
                x.drain(a, true);
                x.drain(b, true);
                int apart = Math.abs(a / 6 - b / 6) + Math.abs(a % 6 - b % 6);
                due("way from " + a + " to " + b, x.way(a, b), apart < 2 ? apart : NONE);
                due("parts of " + a + ", " + b, x.parts(), apart < 2 ? 1 : 2);
            }
        }
    }

    private static void routeTakesCellsAndPlaces() {
        for (int cell : outside(0, 35)) {
            badEverywhere("route from " + cell, x -> x.route(cell, 0, -1));
            badEverywhere("route to " + cell, x -> x.route(35, cell, 0));
        }
        for (int i : outside(-1, 34)) {
            badEverywhere("route " + i, x -> x.route(0, 1, i));
            LIVED.stays("route bad ahead of none " + i, BAD, x -> x.route(0, 35, i));
        }
        for (int i = -1; i <= 34; i++) {
            int asked = i;
            LIVED.stays("route none", NONE, x -> x.route(0, 35, asked));
        }
    }

    private static void routeCosts() {
        MossPilots x = of("#m#...");
        x.tuft(2);
        due("route to moss", x.route(0, 1, -1), 2);
        due("route from moss", x.route(1, 0, -1), 1);
        due("route to moss on firm", x.route(1, 2, -1), 1);
        due("route over moss", x.route(0, 2, -1), 3);
        x.frost(1);
        due("route to moss in frost", x.route(0, 1, -1), 1);
        due("route to wet in frost", x.route(0, 35, -1), 10);
        due("route none in frost is there", x.route(0, 35, 9), 35);
        due("route behind the last in frost", x.route(0, 35, 10), NONE);
    }

    private static void routeAtItsLeastAndMost() {
        MossPilots x = of(LONGEST);
        int[] cells = {1, 2, 3, 4, 5, 11, 17, 16, 22, 21, 20, 14, 13, 12, 18, 24, 25, 31, 32, 33, 34, 35, 29};
        due("the longest route", x.route(0, 29, -1), 23);
        for (int i = 0; i <= 34; i++) {
            due("the longest route " + i, x.route(0, 29, i), i < 23 ? cells[i] : NONE);
            due("the longest route back " + i, x.route(29, 0, i), i < 22 ? cells[21 - i] : i == 22 ? 0 : NONE);
        }
        for (int k = 0; k < 6; k++) {
            x.drain(cells[3 * k], false);
            x.tuft(cells[3 * k]);
        }
        due("the dearest route", x.route(0, 29, -1), 29);
        due("route to itself", x.route(0, 0, -1), 0);
        for (int i = 0; i <= 34; i++) {
            due("route to itself " + i, x.route(0, 0, i), NONE);
        }
    }

    private static void routeIsTheFirstOfLikeOnes() {
        MossPilots x = full();
        x.year();
        int[] first = {1, 2, 3, 4, 5, 11, 17, 23, 29, 35};
        for (int i = 0; i < 10; i++) {
            due("route in frost", x.route(0, 35, i), first[i]);
        }
        int[] back = {29, 23, 17, 11, 5, 4, 3, 2, 1, 0};
        for (int i = 0; i < 10; i++) {
            due("route back in frost", x.route(35, 0, i), back[i]);
        }
        MossPilots like = of("#m##..", "###m..");
        due("route of like costs", like.route(0, 3, -1), 4);
        due("route of like costs, the first", like.route(0, 3, 0), 1);
        MossPilots shorter = of("#mm#..", "####..");
        due("route of fewer and of more cells alike", shorter.route(0, 3, -1), 5);
        due("route of fewer cells", shorter.route(0, 3, 0), 1);
        MossPilots longer = of("####..", "#mm#..");
        due("route of more cells", longer.route(6, 9, 0), 0);
    }

    private static void partsAtTheirLeastAndMost() {
        due("parts of nothing", new MossPilots().parts(), 0);
        String[] checkered = {"#.#.#.", ".#.#.#", "#.#.#.", ".#.#.#", "#.#.#.", ".#.#.#"};
        MossPilots x = of(checkered);
        due("parts at their most", x.parts(), 18);
        for (int cell : new int[] {0, 35}) {
            MossPilots one = new MossPilots();
            one.tuft(cell);
            due("parts of one cell", one.parts(), 1);
        }
        due("parts of all", of("######", "######", "######", "######", "######", "######").parts(), 1);
        due("parts of the longest", of(LONGEST).parts(), 1);
        x.frost(1);
        due("parts in frost", x.parts(), 1);
        x.year();
        due("parts behind frost", x.parts(), 18);
    }

    // ---- promise 19: least

    private static void promise19() {
        leastTakesPeopleCellsAndTwoQuestions();
        leastIsNoneByNone();
        leastAt0Hours();
        leastAtTheMostHours();
        leastIsTheLeastCell();
        leastIsBehindTheFrost();
        leastOfEachPairOfCells();
        leastLooksAtAllCellsAndAtNoOther();
    }

    private static void leastTakesPeopleCellsAndTwoQuestions() {
        for (int person : outside(0, 3)) {
            LIVED.stays("least " + person, BAD, x -> x.least(person, 0, 1, 0));
        }
        for (int person : outside(0, 5)) {
            FILLED.stays("least " + person, BAD, x -> x.least(person, 0, 1, 1));
        }
        for (int cell : outside(0, 35)) {
            LIVED.stays("least from " + cell, BAD, x -> x.least(3, cell, 0, 0));
            LIVED.stays("least to " + cell, BAD, x -> x.least(3, 35, cell, 1));
        }
        for (int what : outside(0, 1)) {
            LIVED.stays("least what " + what, BAD, x -> x.least(0, 0, 1, what));
            LIVED.stays("least bad ahead of none " + what, BAD, x -> x.least(0, 0, 35, what));
        }
        FILLED.stays("least of six", 0, x -> x.least(5, 0, 35, 1));
    }

    private static void leastIsNoneByNone() {
        for (int what = 0; what < 2; what++) {
            int asked = what;
            LIVED.stays("least none", NONE, x -> x.least(0, 0, 35, asked));
        }
        due("least of a wet marsh", with(PLAIN).least(0, 0, 0, 0), NONE);
    }

    private static void dueLeast(String what, MossPilots x, int a, int b, int hours, int cell) {
        due(what + ", hours", x.least(0, a, b, 0), hours);
        due(what + ", cell", x.least(0, a, b, 1), cell);
    }

    private static void leastAt0Hours() {
        MossPilots x = with(PLAIN, 35);
        dueLeast("least of a way that is", x, 35, 35, 0, 0);
        x.sit(0, 34, 99);
        dueLeast("least by leaving", x, 35, 35, 0, 0);
        dueLeast("least where one sits", x, 34, 34, 4, 34);
        due("least sits on", x.told(0, 2), 99);
    }

    /** People of a kind draw the tuft from 35 to 34, against others who sit in 35 for so many hours. */
    private static void leastAtTheMostHours() {
        int[][] kindOthersHours = {{PLAIN, 95, 99}, {PLAIN, 96, NONE}, {HEAVY, 194, 99}, {HEAVY, 195, NONE},
            {FIDGET, 45, 98}, {FIDGET, 46, NONE}, {PLAIN, 0, 4}, {HEAVY, 0, 2}, {FIDGET, 0, 8}};
        for (int[] row : kindOthersHours) {
            MossPilots x = with(row[0], 35);
            people(x, PLAIN, PLAIN);
            x.sit(1, 35, Math.min(99, row[1]));
            x.sit(2, 35, Math.max(0, row[1] - 99));
            dueLeast("least of " + row[0] + " against " + row[1], x, 34, 34, row[2], row[2] == NONE ? NONE : 34);
        }
        MossPilots one = with(STRANGER);
        dueLeast("least of one hour in the first cell", one, 0, 0, 1, 0);
        dueLeast("least of one hour in the last cell", one, 35, 35, 1, 35);
    }

    private static void leastIsTheLeastCell() {
        MossPilots x = with(STRANGER);
        x.drain(0, true);
        x.drain(7, true);
        dueLeast("least of two cells", x, 0, 7, 1, 1);
        x.drain(0, false);
        x.drain(7, false);
        x.drain(28, true);
        x.drain(35, true);
        dueLeast("least of the last two cells", x, 28, 35, 1, 29);
        // The tuft is held where it is by a pull that is like the other's.
        MossPilots held = with(PLAIN, 14);
        held.person(PLAIN);
        held.sit(1, 16, 10);
        dueLeast("least that holds it", held, 14, 14, 4, 14);
        held.plant(0, 15);
        held.sit(1, 16, 5);
        dueLeast("least that holds it from afar", held, 15, 15, 2, 15);
    }

    private static void leastIsBehindTheFrost() {
        MossPilots x = with(PLAIN, 0);
        x.frost(1);
        dueLeast("least of frost 1", x, 0, 35, NONE, NONE);
        dueLeast("least of frost 1 where moss is", x, 0, 0, 0, 0);
        dueLeast("least of frost 1 that holds the moss", x, 1, 1, NONE, NONE);
        x.frost(2);
        dueLeast("least of frost 2", x, 0, 35, 0, 0);
        x.frost(9);
        dueLeast("least of frost 9", x, 34, 35, 0, 0);
        MossPilots stranger = with(STRANGER);
        stranger.frost(1);
        dueLeast("least of a stranger in frost", stranger, 20, 20, 1, 20);
    }

    /** Asked of one object, pair by pair: no answer may stand for another pair's. */
    private static void leastOfEachPairOfCells() {
        MossPilots x = of("##.#..");
        x.person(PLAIN);
        int[] part = {0, 0, 1, 2, 3, 4};
        for (int turn = 0; turn < 4; turn++) {
            for (int k = 0; k < 36; k++) {
                int pair = turn < 2 ? k : 35 - k;
                int a = turn % 2 == 0 ? pair / 6 : pair % 6;
                int b = turn % 2 == 0 ? pair % 6 : pair / 6;
                boolean way = part[a] == part[b] && part[a] % 2 == 0 && part[a] < 4;
                due("least from " + a + " to " + b, x.least(0, a, b, 0), way ? 0 : NONE);
            }
        }
    }

    /** Two tufts must both be held: from a seat below the lowest row the HEAVY one could do it, or do it sooner. */
    private static void leastLooksAtAllCellsAndAtNoOther() {
        Maker none = () -> {
            MossPilots x = with(HEAVY, 27, 26, 32);
            people(x, HEAVY, FIDGET);
            x.sit(1, 31, 18);
            x.sit(2, 17, 21);
            return x;
        };
        dueLeast("least of the cells that are", none.make(), 27, 32, NONE, NONE);
        dueLeastAsLived(none, 27, 32);
        Maker later = () -> {
            MossPilots x = with(HEAVY, 29, 30, 24);
            people(x, PLAIN, HEAVY);
            x.sit(1, 24, 19);
            x.sit(2, 31, 26);
            x.drain(8, true);
            return x;
        };
        dueLeast("least of the cells that are, later", later.make(), 30, 24, 29, 33);
        dueLeastAsLived(later, 30, 24);
    }

    /** The same told by living each case: sitting so long in each cell, a year, and the way. */
    private static void dueLeastAsLived(Maker maker, int a, int b) {
        for (int hours = 0; hours <= 99; hours++) {
            for (int cell = 0; cell < 36; cell++) {
                MossPilots x = maker.make();
                x.sit(0, cell, hours);
                x.year();
                if (x.way(a, b) >= 0) {
                    dueLeast("least as lived", maker.make(), a, b, hours, cell);
                    return;
                }
            }
        }
        dueLeast("least as lived", maker.make(), a, b, NONE, NONE);
    }

    // ---- promise 20: game

    private static void promise20() {
        gameTakesTwoPeople();
        gameTakesHours();
        gameTakesCellsAndTwoQuestions();
        gameAtItsFirstAndLastPairs();
        gameWithoutRests();
        gameWithoutAWayIsTheLongest();
        gameOfNoStepsIsTheShortest();
    }

    private static void gameTakesTwoPeople() {
        for (int person : outside(0, 3)) {
            LIVED.stays("game of " + person, BAD, x -> x.game(person, 0, 1, 1, 0, 1, 0));
            LIVED.stays("game against " + person, BAD, x -> x.game(0, person, 1, 1, 0, 1, 1));
            LIVED.stays("game of none alike " + person, BAD, x -> x.game(person, person, 1, 1, 0, 1, 1));
        }
        for (int person : outside(0, 5)) {
            FILLED.stays("game of " + person, BAD, x -> x.game(person, 5, 1, 1, 0, 1, 0));
            FILLED.stays("game against " + person, BAD, x -> x.game(5, person, 1, 1, 0, 1, 1));
        }
        for (int one = 0; one < 6; one++) {
            int asked = one;
            FILLED.stays("game of one alike", BAD, x -> x.game(asked, asked, 1, 1, 0, 0, 0));
            FILLED.stays("game of one and the next", 1296, x -> x.game(asked, (asked + 1) % 6, 1, 1, 0, 0, 0));
        }
    }

    private static void gameTakesHours() {
        for (int hours : outside(1, 99)) {
            LIVED.stays("game for " + hours, BAD, x -> x.game(0, 1, hours, 1, 0, 1, 0));
            LIVED.stays("game against " + hours, BAD, x -> x.game(0, 1, 99, hours, 0, 1, 1));
        }
        for (int hours : new int[] {1, 99}) {
            LIVED.stays("game for " + hours, 1296, x -> x.game(0, 1, hours, 1, 0, 1, 0));
            LIVED.stays("game against " + hours, 1296, x -> x.game(0, 1, 99, hours, 0, 1, 0));
        }
    }

    private static void gameTakesCellsAndTwoQuestions() {
        for (int cell : outside(0, 35)) {
            LIVED.stays("game from " + cell, BAD, x -> x.game(0, 1, 1, 1, cell, 0, 0));
            LIVED.stays("game to " + cell, BAD, x -> x.game(0, 1, 1, 1, 35, cell, 1));
        }
        for (int what : outside(0, 1)) {
            LIVED.stays("game what " + what, BAD, x -> x.game(0, 1, 1, 1, 0, 1, what));
        }
        FILLED.stays("game of the first and the last cell", 0, x -> x.game(0, 5, 1, 99, 0, 35, 1));
        LIVED.stays("game of a wet last cell", 0, x -> x.game(0, 1, 1, 1, 35, 35, 1));
    }

    private static void gameAtItsFirstAndLastPairs() {
        MossPilots all = new MossPilots();
        people(all, PLAIN, PLAIN);
        due("game all rests", all.game(0, 1, 99, 99, 0, 35, 0), 1296);
        due("game all rests, the first", all.game(0, 1, 99, 99, 0, 35, 1), 0);
        // Only from 35 does the first make that cell firm; only there the second's one hour is
        // the fourth that draws the tuft from 34 and makes the way a longer one.
        MossPilots last = of(WET_ROW, WET_ROW, WET_ROW, WET_ROW, "...###", "...#m.");
        people(last, STRANGER, PLAIN, PLAIN);
        last.sit(2, 35, 1);
        due("game the last pair alone", last.game(0, 1, 1, 1, 35, 33, 0), 1);
        due("game the last pair", last.game(0, 1, 1, 1, 35, 33, 1), 3535);
        due("game of a second too strong", last.game(0, 1, 1, 4, 35, 33, 1), 3528);
    }

    private static void gameWithoutRests() {
        Scene scene = new Scene(() -> {
            MossPilots x = with(PLAIN, 9, 5);
            x.person(PLAIN);
            return x;
        });
        scene.stays("game no rests", 0, x -> x.game(0, 1, 8, 2, 11, 10, 0));
        scene.stays("game no first rest", NONE, x -> x.game(0, 1, 8, 2, 11, 10, 1));
    }

    /** The second would have no way at all rather than the longest one. */
    private static void gameWithoutAWayIsTheLongest() {
        MossPilots x = of(LONGEST);
        x.drain(29, false);
        x.tuft(29);
        people(x, PLAIN, PLAIN);
        due("game the longest way", x.way(0, 29), 23);
        due("game none is more", x.game(0, 1, 1, 5, 0, 29, 0), 36 * 3);
        due("game none is more, the first", x.game(0, 1, 1, 5, 0, 29, 1), 23);
        due("game the first holds the moss", x.game(0, 1, 1, 4, 0, 29, 1), 2900);
        due("game too weak for none", x.game(0, 1, 1, 2, 0, 29, 0), 1296);
    }

    /** Only where the first makes a cell firm there is a way, of no steps, whatever the second does. */
    private static void gameOfNoStepsIsTheShortest() {
        for (int cell = 0; cell < 36; cell += 7) {
            MossPilots x = with(STRANGER);
            x.person(PLAIN);
            due("game no steps at " + cell, x.game(0, 1, 1, 1, cell, cell, 0), 36);
            due("game no steps at " + cell + ", the first", x.game(0, 1, 1, 1, cell, cell, 1), 100 * cell);
            due("game of who would have many", x.game(1, 0, 1, 1, cell, cell, 0), 36 * 35);
            due("game of who would have many, the first", x.game(1, 0, 1, 1, cell, cell, 1), cell == 0 ? 1 : 0);
        }
    }

    // ---- promises 21 to 23: pilots, image, restore

    private static void promises21To23() {
        pilotsTakeCells();
        pilotsFromNoneToAll();
        restoreIsNoneWithoutAnImage();
        imageKeepsWhatIsEmptyAndFull();
    }

    private static void pilotsTakeCells() {
        for (int cell : outside(0, 35)) {
            badEverywhere("pilots from " + cell, x -> x.pilots(cell, 0));
            badEverywhere("pilots to " + cell, x -> x.pilots(35, cell));
        }
        LIVED.stays("pilots none", NONE, x -> x.pilots(0, 35));
        LIVED.stays("pilots none on wet", NONE, x -> x.pilots(35, 35));
    }

    private static void pilotsFromNoneToAll() {
        MossPilots x = inARow(6);
        for (int a = 0; a < 6; a++) {
            for (int b = 0; b < 6; b++) {
                int set = 0;
                for (int cell = Math.min(a, b); cell <= Math.max(a, b); cell++) {
                    set |= 1 << cell;
                }
                due("pilots from " + a + " to " + b, x.pilots(a, b), set);
            }
        }
        x.frost(1);
        due("pilots in frost", x.pilots(0, 5), 0);
        x.frost(0);
        for (int cell = 0; cell < 6; cell++) {
            x.drain(cell, true);
        }
        due("pilots on firm", x.pilots(0, 5), 0);
        MossPilots two = with(PLAIN, 35, 35);
        due("pilots two in one", two.pilots(35, 35), 0);
        two.plant(0, 0);
        due("pilots one in the last cell", two.pilots(35, 35), 2);
    }

    private static void restoreIsNoneWithoutAnImage() {
        NEW.stays("restore none", NONE, x -> x.restore());
        Scene scene = new Scene(() -> with(STRANGER, 3, 4));
        scene.stays("restore none of what is", NONE, x -> x.restore());
        MossPilots x = new MossPilots();
        for (int turn = 0; turn < 3; turn++) {
            due("image", x.image(), 1);
            due("restore", x.restore(), 1);
            due("restore again", x.restore(), 1);
        }
    }

    private static void imageKeepsWhatIsEmptyAndFull() {
        List<Long> fullBefore = read(0, full());
        MossPilots x = full();
        x.image();
        marsh(x, "");
        x.sit(0, 3, 3);
        x.year();
        x.restore();
        hold("an image of what is full", read(0, x).equals(fullBefore));
        MossPilots empty = new MossPilots();
        empty.image();
        people(empty, STRANGER, STRANGER, STRANGER, STRANGER, STRANGER, STRANGER);
        for (int k = 0; k < 6; k++) {
            empty.tuft(k);
            empty.sit(k, k, 99);
        }
        empty.frost(9);
        empty.year();
        empty.sit(0, 35, 99);
        empty.restore();
        due("one who comes behind an image of nobody", empty.person(PLAIN), 0);
        empty.tuft(35);
        hold("an image of what is empty", read(0, empty).equals(read(0, with(PLAIN, 35))));
        for (int part = 2; part < 4; part++) {
            LIVED.staysIn(part, "restore and the tape, the sheets", 1, y -> y.restore());
            LIVED.staysIn(part, "image and the tape, the sheets", 1, y -> y.image());
        }
    }

    // ---- promise 24: sat

    private static void promise24() {
        satTakesPeopleAndHours();
        satTakesSheetsAndLanes();
        satRefusesInOrder();
        satTakesAsManyItemsAsTufts();
        satTellsASet();
        satLooksAtAllOfAnItem();
    }

    private static void satTakesPeopleAndHours() {
        for (int person : outside(0, 3)) {
            LIVED.stays("sat of " + person, BAD, x -> x.sat(person, 1, 1, INTS, 0));
            LIVED.stays("sat bad ahead of null " + person, BAD, x -> x.sat(person, 1, 3, INTS, 0));
        }
        for (int person : outside(0, 5)) {
            FILLED.stays("sat of " + person, BAD, x -> x.sat(person, 1, 3, INTS, 0));
        }
        for (int hours : outside(1, 99)) {
            LIVED.stays("sat for " + hours, BAD, x -> x.sat(0, hours, 1, INTS, 0));
            LIVED.stays("sat bad ahead of cast " + hours, BAD, x -> x.sat(0, hours, 1, LONGS, 0));
            LIVED.stays("sat bad ahead of index " + hours, BAD, x -> x.sat(0, hours, 1, INTS, -1));
        }
        for (int hours : new int[] {1, 99}) {
            LIVED.stays("sat for " + hours, 0, x -> x.sat(3, hours, 1, INTS, 0));
        }
        FILLED.stays("sat of the last", 0, x -> x.sat(5, 99, 3, INTS, 0));
    }

    private static void satTakesSheetsAndLanes() {
        for (int sheet : outside(0, 3)) {
            LIVED.stays("sat sheet " + sheet, BAD, x -> x.sat(0, 1, sheet, INTS, 0));
        }
        for (int lane : outside(0, 2)) {
            LIVED.stays("sat lane " + lane, BAD, x -> x.sat(0, 1, 1, lane, 0));
            LIVED.stays("sat bad lane ahead of null " + lane, BAD, x -> x.sat(0, 1, 3, lane, 0));
        }
    }

    private static void satRefusesInOrder() {
        LIVED.stays("sat null", NULL, x -> x.sat(0, 1, 3, BYTES, 0));
        LIVED.stays("sat null ahead of index", NULL, x -> x.sat(0, 1, 3, LONGS, HIGH));
        for (int sheet = 0; sheet < 3; sheet++) {
            for (int lane = 0; lane < 3; lane++) {
                int asked = sheet;
                int as = lane;
                LIVED.stays("sat cast", sheet == lane ? 0 : CAST, x -> x.sat(0, 1, asked, as, 0));
                LIVED.stays("sat cast ahead of index", sheet == lane ? INDEX : CAST, x -> x.sat(0, 1, asked, as, -1));
            }
        }
    }

    private static MossPilots sheetAndTufts(int n, int tufts) {
        MossPilots x = inARow(tufts);
        x.person(FIDGET);
        fill(x, 3, LONGS, n);
        return x;
    }

    /** From which items on so many tufts can be taken, by sat and by film. */
    private static void satTakesAsManyItemsAsTufts() {
        for (int tufts = 0; tufts <= 6; tufts++) {
            for (int n : new int[] {0, 1, 5, 6, 7, 15, 16}) {
                int many = tufts;
                Scene scene = new Scene(() -> sheetAndTufts(n, many));
                int last = n - tufts;
                for (int i : outside(0, last)) {
                    scene.stays("sat of " + tufts + " from " + i + " of " + n, INDEX, x -> x.sat(0, 1, 3, LONGS, i));
                    scene.stays("film of " + tufts + " from " + i + " of " + n, INDEX, x -> x.film(3, LONGS, i));
                }
                for (int i = 0; i <= last; i++) {
                    MossPilots x = sheetAndTufts(n, tufts);
                    due("film from " + i + " of " + n, x.film(3, LONGS, i), tufts);
                    due("sat from " + i + " of " + n, x.sat(0, 1, 3, LONGS, i), EVERYWHERE);
                }
            }
        }
    }

    private static void satTellsASet() {
        MossPilots x = with(PLAIN, 34, 1);
        x.sheet(0, BYTES, 2);
        int[][] behind = {{35, 1}, {34, 0}, {34, 1}, {28, 1}, {34, 35}, {35, 0}};
        long stays = EVERYWHERE & ~(1L << 35 | 1L << 33 | 1L << 28 | 1L | 1L << 2 | 1L << 7);
        long[] want = {1L << 35, 1L, stays, 1L << 28, 0, 0};
        for (int k = 0; k < want.length; k++) {
            x.item(0, BYTES, 0, behind[k][0]);
            x.item(0, BYTES, 1, behind[k][1]);
            due("sat set " + k, x.sat(0, 4, 0, BYTES, 0), want[k]);
        }
        MossPilots none = with(PLAIN);
        none.sheet(0, BYTES, 0);
        due("sat of no tufts", none.sat(0, 99, 0, BYTES, 0), EVERYWHERE);
    }

    private static void satLooksAtAllOfAnItem() {
        long[] others = {-1, 36, 127, -128, 1L << 32, 1L << 31, 1L << 8, Long.MIN_VALUE, Long.MAX_VALUE};
        for (long other : others) {
            MossPilots x = with(PLAIN, 0);
            x.sheet(0, LONGS, 1);
            due("sat of 0", x.sat(0, 1, 0, LONGS, 0), EVERYWHERE);
            x.item(0, LONGS, 0, other);
            due("sat of " + other, x.sat(0, 1, 0, LONGS, 0), 0);
        }
    }

    // ---- promise 25: film

    private static void promise25() {
        for (int sheet : outside(0, 3)) {
            LIVED.stays("film " + sheet, BAD, x -> x.film(sheet, INTS, 0));
        }
        for (int lane : outside(0, 2)) {
            LIVED.stays("film lane " + lane, BAD, x -> x.film(1, lane, 0));
            LIVED.stays("film bad ahead of null " + lane, BAD, x -> x.film(3, lane, -1));
        }
        LIVED.stays("film null", NULL, x -> x.film(3, INTS, 0));
        LIVED.stays("film null ahead of index", NULL, x -> x.film(3, INTS, LOW));
        LIVED.stays("film cast", CAST, x -> x.film(1, BYTES, 0));
        LIVED.stays("film cast ahead of index", CAST, x -> x.film(1, LONGS, 17));
        LIVED.stays("film index", INDEX, x -> x.film(1, INTS, 7));
        LIVED.stays("film index below", INDEX, x -> x.film(1, INTS, -1));
        filmLeavesTheOtherItems();
    }

    private static void filmLeavesTheOtherItems() {
        for (int i = 0; i <= 14; i++) {
            MossPilots x = with(PLAIN, 35, 7);
            x.sheet(3, INTS, 16);
            due("film two from " + i, x.film(3, INTS, i), 2);
            List<Long> found = new ArrayList<>();
            readSheets(x, found);
            for (int k = 0; k < 16; k++) {
                long want = k == i ? 35 : k == i + 1 ? 7 : 0;
                due("film item " + k, found.get(found.size() - 16 + k), want);
            }
        }
    }

    // ---- promises 26 and 27: sheet, drop

    private static void promises26And27() {
        sheetTakesSheetsAndLanes();
        sheetTakes0To16Items();
        sheetIsBadAheadOfSize();
        sheetIsANewRow();
        dropTakesSheets();
        dropTellsHowMany();
    }

    private static void sheetTakesSheetsAndLanes() {
        for (int sheet : outside(0, 3)) {
            badEverywhere("sheet " + sheet, x -> x.sheet(sheet, 0, 1));
        }
        for (int lane : outside(0, 2)) {
            badEverywhere("sheet lane " + lane, x -> x.sheet(3, lane, 1));
        }
        for (int sheet = 0; sheet < 4; sheet++) {
            for (int lane = 0; lane < 3; lane++) {
                MossPilots x = new MossPilots();
                due("sheet", x.sheet(sheet, lane, 2), 2);
                for (int other = 0; other < 3; other++) {
                    due("sheet of a lane", x.film(sheet, other, 0), other == lane ? 0 : CAST);
                }
                for (int other = 0; other < 4; other++) {
                    due("sheet alone", x.drop(other), other == sheet ? 2 : NULL);
                }
            }
        }
    }

    private static void sheetTakes0To16Items() {
        for (int n = 0; n <= 16; n++) {
            for (int lane = 0; lane < 3; lane++) {
                MossPilots x = new MossPilots();
                due("sheet of " + n, x.sheet(3, lane, n), n);
                due("sheet first item", x.item(3, lane, 0, 1), n > 0 ? 1 : INDEX);
                due("sheet last item", x.item(3, lane, n - 1, 1), n > 0 ? 1 : INDEX);
                due("sheet no more", x.item(3, lane, n, 1), INDEX);
            }
        }
        for (int n : new int[] {17, 18, HIGH - 1, HIGH}) {
            badEverywhere("sheet of " + n, x -> x.sheet(0, 0, n));
        }
        for (int n : new int[] {-1, -2, LOW, LOW + 1}) {
            for (Scene scene : SCENES) {
                scene.stays("sheet of " + n, SIZE, x -> x.sheet(0, 0, n));
            }
        }
    }

    private static void sheetIsBadAheadOfSize() {
        LIVED.stays("sheet bad ahead of size", BAD, x -> x.sheet(4, 0, -1));
        LIVED.stays("sheet bad below ahead of size", BAD, x -> x.sheet(-1, 0, LOW));
        LIVED.stays("sheet bad lane ahead of size", BAD, x -> x.sheet(0, 3, -1));
        LIVED.stays("sheet bad lane below ahead of size", BAD, x -> x.sheet(0, -1, LOW));
    }

    private static void sheetIsANewRow() {
        for (int lane = 0; lane < 3; lane++) {
            MossPilots x = with(PLAIN, 0);
            x.sheet(0, LONGS, 16);
            for (int i = 0; i < 16; i++) {
                x.item(0, LONGS, i, -1);
            }
            x.sheet(0, lane, 16);
            for (int i = 0; i < 16; i++) {
                due("sheet new item " + i, x.sat(0, 1, 0, lane, i), EVERYWHERE);
            }
        }
    }

    private static void dropTakesSheets() {
        for (int sheet : outside(0, 3)) {
            badEverywhere("drop " + sheet, x -> x.drop(sheet));
        }
        LIVED.stays("drop nothing", NULL, x -> x.drop(3));
        FILLED.stays("drop nothing", NULL, x -> x.drop(2));
    }

    private static void dropTellsHowMany() {
        for (int n = 0; n <= 16; n++) {
            for (int sheet = 0; sheet < 4; sheet++) {
                MossPilots x = new MossPilots();
                x.sheet(sheet, LONGS, n);
                due("drop", x.drop(sheet), n);
                due("drop again", x.drop(sheet), NULL);
                due("dropped film", x.film(sheet, LONGS, 0), NULL);
                due("dropped copy", x.copy(sheet, 0, sheet, 0, 0), NULL);
            }
        }
    }

    // ---- promise 28: item

    private static void promise28() {
        for (int sheet : outside(0, 3)) {
            LIVED.stays("item " + sheet, BAD, x -> x.item(sheet, INTS, 0, 1));
        }
        for (int lane : outside(0, 2)) {
            LIVED.stays("item lane " + lane, BAD, x -> x.item(1, lane, 0, 1));
            LIVED.stays("item bad ahead of null " + lane, BAD, x -> x.item(3, lane, -1, 1));
        }
        for (int i : outside(0, 8)) {
            LIVED.stays("item at " + i, INDEX, x -> x.item(1, INTS, i, 1));
            LIVED.stays("item null ahead of index", NULL, x -> x.item(3, INTS, i, 1));
            LIVED.stays("item cast ahead of index", CAST, x -> x.item(1, BYTES, i, 1));
        }
        for (int i : outside(0, 15)) {
            FILLED.stays("item of 16 at " + i, INDEX, x -> x.item(3, INTS, i, 1));
            FILLED.stays("item of none at " + i, INDEX, x -> x.item(0, INTS, i, 1));
        }
        FILLED.stays("item of none", INDEX, x -> x.item(0, INTS, 0, 1));
        LIVED.stays("item null", NULL, x -> x.item(3, INTS, 0, 1));
        LIVED.stays("item cast", CAST, x -> x.item(1, LONGS, 0, 1));
        itemAloneBecomesANumber();
        itemKeepsTheLowestBits();
    }

    private static void itemAloneBecomesANumber() {
        for (int i = 0; i < 16; i++) {
            MossPilots x = with(PLAIN);
            x.sheet(3, BYTES, 16);
            due("item at " + i, x.item(3, BYTES, i, 35), 1);
            List<Long> found = new ArrayList<>();
            readSheets(x, found);
            for (int k = 0; k < 16; k++) {
                due("item " + k, found.get(found.size() - 16 + k), k == i ? 35 : 0);
            }
        }
    }

    /** A tuft in cell 35 (0) tells which items are 35 (0) once they are cut. */
    private static void itemKeepsTheLowestBits() {
        long[] numbers = {35, 35 + 256, 35 + (1L << 32), 35 - 256, 35 - (1L << 32), 35 + (1L << 31), 35 + 128,
            35 | Long.MIN_VALUE};
        int[] lanes = {0b111, 0b001, 0b011, 0b001, 0b011, 0b001, 0, 0b011};
        dueItems(35, numbers, lanes);
        long[] ends = {0, Long.MIN_VALUE, Long.MAX_VALUE, LOW, HIGH, 128, -128, -1, 1L << 63 | 1L << 32};
        int[] lanesOf0 = {0b111, 0b011, 0, 0b001, 0, 0, 0, 0, 0b011};
        dueItems(0, ends, lanesOf0);
    }

    private static void dueItems(int cell, long[] numbers, int[] lanes) {
        for (int k = 0; k < numbers.length; k++) {
            for (int lane = 0; lane < 3; lane++) {
                MossPilots x = with(PLAIN, cell);
                x.sheet(0, lane, 1);
                due("item " + numbers[k], x.item(0, lane, 0, numbers[k]), 1);
                boolean like = (lanes[k] >> lane & 1) != 0;
                due("item " + numbers[k] + " cut to " + lane, x.sat(0, 1, 0, lane, 0), like ? EVERYWHERE : 0);
            }
        }
    }

    // ---- promise 29: copy

    private static void promise29() {
        copyTakesSheets();
        copyRefusesInOrder();
        copyTakesItemsThatThereAre();
        copyAsIfAllWereTakenAhead();
        copyOfAllItems();
    }

    private static void copyTakesSheets() {
        for (int sheet : outside(0, 3)) {
            badEverywhere("copy from " + sheet, x -> x.copy(sheet, 0, 0, 0, 0));
            badEverywhere("copy to " + sheet, x -> x.copy(3, 0, sheet, 0, 0));
            LIVED.stays("copy bad ahead of cast, index", BAD, x -> x.copy(0, -1, sheet, 9, -1));
        }
    }

    private static void copyRefusesInOrder() {
        for (int other = 0; other < 3; other++) {
            int held = other;
            LIVED.stays("copy null from", NULL, x -> x.copy(3, 0, held, 0, 0));
            LIVED.stays("copy null to", NULL, x -> x.copy(held, 0, 3, 0, 0));
            LIVED.stays("copy null ahead of index", NULL, x -> x.copy(held, -1, 3, 17, -1));
            int next = (other + 1) % 3;
            LIVED.stays("copy cast", CAST, x -> x.copy(held, 0, next, 0, 0));
            LIVED.stays("copy cast ahead of index", CAST, x -> x.copy(held, LOW, next, HIGH, -1));
        }
        LIVED.stays("copy null of both", NULL, x -> x.copy(3, 0, 3, 0, 0));
    }

    private static MossPilots twoRows(int n, int m) {
        MossPilots x = with(PLAIN);
        fill(x, 1, INTS, n);
        x.sheet(2, INTS, m);
        return x;
    }

    private static void copyTakesItemsThatThereAre() {
        for (int[] sizes : new int[][] {{5, 5}, {16, 3}, {2, 16}, {0, 4}, {4, 0}, {16, 16}}) {
            Scene scene = new Scene(() -> twoRows(sizes[0], sizes[1]));
            for (int i : new int[] {LOW, -1, 0, 1, sizes[0] - 1, sizes[0], sizes[0] + 1, HIGH}) {
                for (int j : new int[] {LOW, -1, 0, 1, sizes[1] - 1, sizes[1], sizes[1] + 1, HIGH}) {
                    for (int n : new int[] {LOW, -1, 0, 1, 2, 16, 17, HIGH}) {
                        dueCopy(scene, sizes, i, j, n);
                    }
                }
            }
        }
    }

    private static void dueCopy(Scene scene, int[] sizes, int i, int j, int n) {
        boolean taken = n >= 0 && i >= 0 && j >= 0 && (long) i + n <= sizes[0] && (long) j + n <= sizes[1];
        String what = "copy " + n + " from " + i + " of " + sizes[0] + " to " + j + " of " + sizes[1];
        if (taken && n > 0) {
            due(what, twoRows(sizes[0], sizes[1]).copy(1, i, 2, j, n), n);
        } else {
            scene.staysIn(3, what, taken ? n : INDEX, x -> x.copy(1, i, 2, j, n));
        }
    }

    private static long[] itemsOf(MossPilots x, int sheet) {
        List<Long> found = new ArrayList<>();
        readSheets(x, found);
        int at = 0;
        for (int k = 0; k < sheet; k++) {
            at += 4 + found.get(at + 3).intValue();
        }
        long[] items = new long[found.get(at + 3).intValue()];
        for (int k = 0; k < items.length; k++) {
            items[k] = found.get(at + 4 + k);
        }
        return items;
    }

    private static void dueItems(String what, MossPilots x, int sheet, long... want) {
        long[] got = itemsOf(x, sheet);
        due(what + ", how many", got.length, want.length);
        for (int k = 0; k < Math.min(got.length, want.length); k++) {
            due(what + ", item " + k, got[k], want[k]);
        }
    }

    private static void copyAsIfAllWereTakenAhead() {
        MossPilots on = twoRows(5, 5);
        due("copy on", on.copy(1, 0, 1, 1, 4), 4);
        dueItems("copy on", on, 1, 35, 35, 0, 7, 0);
        MossPilots back = twoRows(5, 5);
        due("copy back", back.copy(1, 1, 1, 0, 4), 4);
        dueItems("copy back", back, 1, 0, 7, 0, 35, 35);
        MossPilots same = twoRows(5, 5);
        due("copy to the same place", same.copy(1, 0, 1, 0, 5), 5);
        dueItems("copy to the same place", same, 1, 35, 0, 7, 0, 35);
        MossPilots far = twoRows(5, 5);
        due("copy two on", far.copy(1, 0, 1, 2, 3), 3);
        dueItems("copy two on", far, 1, 35, 0, 35, 0, 7);
    }

    private static void copyOfAllItems() {
        MossPilots x = twoRows(16, 16);
        due("copy all", x.copy(1, 0, 2, 0, 16), 16);
        dueItems("copy all", x, 2, 35, 0, 7, 0, 35, 0, 7, 0, 35, 0, 7, 0, 35, 0, 7, 0);
        MossPilots last = twoRows(16, 16);
        due("copy the last", last.copy(1, 14, 2, 15, 1), 1);
        dueItems("copy the last", last, 2, 0, 0, 0, 0, 0, 0, 0, 0, 0, 0, 0, 0, 0, 0, 0, 7);
        MossPilots from = twoRows(16, 16);
        due("copy leaves what it takes from", from.copy(1, 0, 2, 0, 16), 16);
        dueItems("copy leaves what it takes from", from, 1, 35, 0, 7, 0, 35, 0, 7, 0, 35, 0, 7, 0, 35, 0, 7, 0);
    }
}
