import java.util.ArrayList;
import java.util.List;

/** The promises one by one: ordinary inputs, the edges that the document names, wrong inputs. */
public final class PromiseTests {
    private static final int BAD = -1, NOT = -2, FULL = -3, NONE = -4, NULL = -11, CAST = -12, INDEX = -13, SIZE = -14;
    private static final int LOW = Integer.MIN_VALUE, HIGH = Integer.MAX_VALUE;
    private static final int PLAIN = 0, HEAVY = 1, FIDGET = 2, STRANGER = 3;
    private static final int[] WRONG = {-1, LOW, HIGH};
    private static final String WET_ROW = "......";

    private static int wrong = 0;
    private static int rows = 0;

    private static void due(String call, long got, long want) {
        rows++;
        if (got != want) {
            wrong++;
            System.out.println(call + " answered " + got + ", due is " + want);
        }
    }

    /** Types a text, eight bytes a call. */
    private static void type(MossPilots x, String text) {
        for (int at = 0; at < text.length(); at += 8) {
            String part = text.substring(at, Math.min(at + 8, text.length()));
            long w = 0;
            for (char sign : part.toCharArray()) {
                w = w << 8 | sign;
            }
            x.type(w, part.length());
        }
    }

    private static int marsh(MossPilots x, String text) {
        type(x, text);
        return x.marsh();
    }

    private static MossPilots of(String... rowTexts) {
        MossPilots x = new MossPilots();
        List<String> all = new ArrayList<>(List.of(rowTexts));
        while (all.size() < 6) {
            all.add(WET_ROW);
        }
        due("marsh " + all, Math.min(0, marsh(x, String.join("/", all))), 0);
        return x;
    }

    public static void main(String[] args) {
        newObject();
        typing();
        marshes();
        marshKeeps();
        draining();
        tufts();
        planting();
        persons();
        sitting();
        telling();
        cells();
        frosts();
        counts();
        mosses();
        pulls();
        yearsOfMoss();
        yearsOfPeople();
        ways();
        routes();
        partsOfMarsh();
        leasts();
        games();
        pilotsOfWays();
        images();
        sats();
        films();
        sheetRows();
        drops();
        items();
        copies();
        System.out.println(rows + " rows, " + wrong + " wrong");
        if (wrong != 0) {
            System.exit(1);
        }
    }

    private static void newObject() {
        MossPilots x = new MossPilots();
        for (int what = 0; what < 6; what++) {
            due("new count(" + what + ")", x.count(what), 0);
        }
        for (int cell = 0; cell < 36; cell++) {
            for (int what = 0; what < 4; what++) {
                due("new of", x.of(cell, what), 0);
            }
            due("new way", x.way(cell, cell), NONE);
        }
        for (int sheet = 0; sheet < 4; sheet++) {
            due("new drop", x.drop(sheet), NULL);
        }
        due("new parts", x.parts(), 0);
        due("new restore", x.restore(), NONE);
        due("new tape", x.type('.', 1), 1);
        due("constants", MossPilots.BAD == BAD && MossPilots.NOT == NOT && MossPilots.FULL == FULL
                && MossPilots.NONE == NONE && MossPilots.NULL == NULL && MossPilots.CAST == CAST
                && MossPilots.INDEX == INDEX && MossPilots.SIZE == SIZE ? 1 : 0, 1);
    }

    private static void typing() {
        MossPilots x = new MossPilots();
        for (int n : new int[] {0, -1, 9, LOW, HIGH}) {
            due("type n " + n, x.type(0x2E2E2E2E2E2E2E2EL, n), BAD);
        }
        for (int sign : new int[] {0, 31, 127, 128, 255}) {
            due("type sign " + sign, x.type(sign, 1), BAD);
            due("type sign high " + sign, x.type((long) sign << 56 | 0x2E2E2E2E2E2E2EL, 8), BAD);
        }
        due("type 32", x.type(32, 1), 1);
        due("type 126", x.type(126, 1), 2);
        due("type lowest", x.type(0x1F00FF2EL, 1), 3);
        x.marsh();
        due("type tape empty", x.type('#' << 8 | '.', 2), 2);
        type(x, "..../....../....../....../....../......");
        due("type order", x.marsh(), 0);
        due("type order first", x.of(0, 0), 1);
        due("type order second", x.of(1, 0), 0);
        for (int k = 1; k <= 7; k++) {
            due("type long", x.type(0x2E2E2E2E2E2E2E2EL, 8), 8 * k);
        }
        due("type over", x.type(0x2E2E2E2E2EL, 5), FULL);
        due("type bad ahead of full", x.type(0x1F2E2E2E2EL, 5), BAD);
        due("type full", x.type(0x2E2E2E2EL, 4), 60);
        due("type fuller", x.type(0x2E, 1), FULL);
    }

    private static void marshes() {
        String five = "....../....../....../....../....../";
        MossPilots x = new MossPilots();
        due("marsh empty", x.marsh(), -20);
        due("marsh all", marsh(x, "m#.#.m/....../....../....../....../m....#"), 3);
        due("marsh moss 0", x.moss(0), 0);
        due("marsh moss 1", x.moss(1), 5);
        due("marsh moss 2", x.moss(2), 30);
        due("marsh firm", x.count(2), 3);
        due("marsh firm 35", x.of(35, 0), 1);
        due("marsh wet below moss", x.of(0, 0), 0);
        due("marsh end", marsh(x, five + "....."), -60);
        due("marsh too long", marsh(x, five + ".......") , -61);
        due("marsh slash at the end", marsh(x, five + "....../") , -61);
        due("marsh slash early", marsh(x, "...../"), -25);
        due("marsh cell for slash", marsh(x, "......."), -26);
        due("marsh odd", marsh(x, "..#x"), -23);
        due("marsh capital", marsh(x, "M"), -20);
        due("marsh seventh m", marsh(x, "mmmmmm/....m."), -31);
        due("marsh six m", marsh(x, "mmmmmm/....../....../....../....../......"), 6);
        due("marsh blank first", marsh(x, "  x"), -22);
        due("marsh blanks end", marsh(x, " . "), -23);
        due("marsh blanks alone", marsh(x, "   "), -23);
        due("marsh behind a blank", marsh(x, five + "...... ."), -62);
        due("marsh blanks count for nothing", marsh(x, " # . ..../....../..... ./....../....../......  "), 0);
        due("marsh blanks firm", x.count(2), 1);
        due("marsh fault empties", x.type('.', 1), 1);
    }

    private static void marshKeeps() {
        MossPilots x = of("#m....");
        x.person(HEAVY);
        x.sit(0, 2, 9);
        x.year();
        x.sit(0, 7, 5);
        x.frost(4);
        int moss = x.moss(0);
        due("fault", marsh(x, "?"), -20);
        due("fault keeps moss", x.moss(0), moss);
        due("fault keeps firm", x.count(2), 1);
        due("fault keeps seats", x.told(0, 2), 5);
        due("fault mid", marsh(x, "##mm/"), -24);
        due("fault mid keeps tufts", x.count(0), 1);
        due("fault mid keeps firm", x.count(2), 1);
        due("marsh", marsh(x, "....../##..../....../....../....../......"), 0);
        due("marsh no tufts", x.count(0), 0);
        due("marsh firm", x.count(2), 2);
        due("marsh people stay", x.count(1), 1);
        due("marsh kind stays", x.told(0, 0), HEAVY);
        due("marsh nobody sits", x.told(0, 1), NONE);
        due("marsh no hours", x.told(0, 2), 0);
        due("marsh no seat", x.of(7, 3), 0);
        due("marsh aches stay", x.told(0, 3), 1);
        due("marsh frost stays", x.count(4), 4);
        due("marsh years stay", x.count(3), 1);
        due("marsh first tuft", x.tuft(9), 0);
    }

    private static void draining() {
        MossPilots x = new MossPilots();
        for (int cell : new int[] {-1, 36, LOW, HIGH}) {
            due("drain " + cell, x.drain(cell, true), BAD);
        }
        for (int cell = 0; cell < 36; cell += 35) {
            due("drain wet", x.drain(cell, true), 0);
            due("drain firm", x.drain(cell, true), 1);
            due("drain is firm", x.of(cell, 0), 1);
            due("drain back", x.drain(cell, false), 1);
            due("drain wet again", x.drain(cell, false), 0);
            due("drain is wet", x.of(cell, 0), 0);
        }
        x.drain(3, true);
        due("drain one", x.count(2), 1);
    }

    private static void tufts() {
        MossPilots x = new MossPilots();
        due("tuft -1", x.tuft(-1), BAD);
        due("tuft 36", x.tuft(36), BAD);
        for (int tuft = 0; tuft < 6; tuft++) {
            due("tuft", x.tuft(35), tuft);
        }
        due("tuft full", x.tuft(0), FULL);
        due("tuft bad ahead", x.tuft(36), BAD);
        due("tuft count", x.count(0), 6);
        due("tuft of", x.of(35, 1), 6);
        due("tuft of wet", x.of(35, 0), 0);
    }

    private static void planting() {
        MossPilots x = new MossPilots();
        due("plant none", x.plant(0, 0), BAD);
        x.tuft(4);
        x.tuft(8);
        for (int no : WRONG) {
            due("plant tuft", x.plant(no, 0), BAD);
            due("plant cell", x.plant(0, no), BAD);
        }
        due("plant 2", x.plant(2, 0), BAD);
        due("plant 36", x.plant(0, 36), BAD);
        due("plant", x.plant(1, 4), 8);
        due("plant again", x.plant(1, 35), 4);
        due("plant other stays", x.moss(0), 4);
        due("plant moss", x.moss(1), 35);
    }

    private static void persons() {
        MossPilots x = new MossPilots();
        for (int no : WRONG) {
            due("person", x.person(no), BAD);
        }
        due("person 4", x.person(4), BAD);
        for (int k = 0; k < 6; k++) {
            due("person", x.person(k % 4), k);
            due("person kind", x.told(k, 0), k % 4);
            due("person nowhere", x.told(k, 1), NONE);
            due("person hours", x.told(k, 2), 0);
            due("person aches", x.told(k, 3), 0);
        }
        due("person full", x.person(0), FULL);
        due("person bad ahead", x.person(4), BAD);
        due("person count", x.count(1), 6);
    }

    private static void sitting() {
        MossPilots x = new MossPilots();
        due("sit nobody", x.sit(0, 0, 1), BAD);
        x.person(PLAIN);
        for (int no : WRONG) {
            due("sit person", x.sit(no, 0, 1), BAD);
            due("sit cell", x.sit(0, no, 1), BAD);
            due("sit cell nowhere", x.sit(0, no, 0), BAD);
            due("sit hours", x.sit(0, 0, no), BAD);
        }
        due("sit cell 36", x.sit(0, 36, 0), BAD);
        due("sit 100", x.sit(0, 0, 100), BAD);
        due("sit", x.sit(0, 35, 99), 0);
        due("sit again", x.sit(0, 0, 1), 99);
        due("sit cell", x.told(0, 1), 0);
        due("sit nowhere", x.sit(0, 5, 0), 1);
        due("sit nowhere told", x.told(0, 1), NONE);
        due("sit from nowhere", x.sit(0, 5, 7), 0);
    }

    private static void telling() {
        MossPilots x = new MossPilots();
        due("told nobody", x.told(0, 0), BAD);
        x.person(FIDGET);
        x.person(STRANGER);
        for (int no : WRONG) {
            due("told person", x.told(no, 0), BAD);
            due("told what", x.told(0, no), BAD);
        }
        due("told 4", x.told(0, 4), BAD);
        due("told 2", x.told(2, 0), BAD);
        x.sit(1, 17, 23);
        due("told kind", x.told(1, 0), STRANGER);
        due("told cell", x.told(1, 1), 17);
        due("told hours", x.told(1, 2), 23);
        due("told other cell", x.told(0, 1), NONE);
        x.year();
        due("told aches", x.told(1, 3), 1);
        due("told no aches", x.told(0, 3), 0);
        x.sit(1, 17, 23);
        x.year();
        due("told firm by then", x.told(1, 3), 1);
    }

    private static void cells() {
        MossPilots x = of("#m....");
        for (int no : WRONG) {
            due("of cell", x.of(no, 0), BAD);
            due("of what", x.of(0, no), BAD);
        }
        due("of 36", x.of(36, 0), BAD);
        due("of what 4", x.of(0, 4), BAD);
        x.tuft(0);
        x.tuft(1);
        due("of firm", x.of(0, 0), 1);
        due("of wet", x.of(1, 0), 0);
        due("of tufts", x.of(0, 1), 1);
        due("of two tufts", x.of(1, 1), 2);
        due("of no tuft", x.of(2, 1), 0);
        due("of walk firm", x.of(0, 2), 1);
        due("of walk moss", x.of(1, 2), 1);
        due("of walk wet", x.of(2, 2), 0);
        x.frost(1);
        due("of walk frost", x.of(2, 2), 1);
        for (int kind = 0; kind < 4; kind++) {
            x.person(kind);
            x.sit(kind, 10 + kind, 7);
        }
        due("of plain", x.of(10, 3), 7);
        due("of heavy", x.of(11, 3), 14);
        due("of fidget", x.of(12, 3), 3);
        due("of stranger", x.of(13, 3), 14);
        due("of no seat", x.of(14, 3), 0);
        x.sit(0, 11, 99);
        due("of two", x.of(11, 3), 113);
        x.sit(2, 11, 1);
        due("of three", x.of(11, 3), 113);
        due("of left", x.of(10, 3), 0);
    }

    private static void frosts() {
        MossPilots x = new MossPilots();
        for (int no : WRONG) {
            due("frost", x.frost(no), BAD);
        }
        due("frost 10", x.frost(10), BAD);
        due("frost 9", x.frost(9), 0);
        due("frost 2", x.frost(2), 9);
        x.year();
        due("frost less", x.count(4), 1);
        due("frost holds", x.parts(), 1);
        x.year();
        due("frost gone", x.count(4), 0);
        due("frost gone parts", x.parts(), 0);
        x.year();
        due("frost not below 0", x.frost(0), 0);
    }

    private static void counts() {
        MossPilots x = of("##m...", "m....#");
        for (int no : WRONG) {
            due("count", x.count(no), BAD);
        }
        due("count 6", x.count(6), BAD);
        x.person(PLAIN);
        x.person(PLAIN);
        x.person(PLAIN);
        x.sit(0, 3, 1);
        x.sit(1, 0, 1);
        x.sit(2, 2, 1);
        x.frost(3);
        x.year();
        x.year();
        due("count tufts", x.count(0), 2);
        due("count people", x.count(1), 3);
        due("count firm", x.count(2), 3);
        due("count years", x.count(3), 2);
        due("count frost", x.count(4), 1);
        due("count aches", x.count(5), 5);
    }

    private static void mosses() {
        MossPilots x = of("....m.", ".m....");
        for (int no : WRONG) {
            due("moss", x.moss(no), BAD);
        }
        due("moss 0", x.moss(0), 4);
        due("moss 1", x.moss(1), 7);
        due("moss 2", x.moss(2), BAD);
    }

    private static void pulls() {
        MossPilots x = new MossPilots();
        x.tuft(0);
        x.tuft(35);
        for (int no : WRONG) {
            due("pull cell", x.pull(no, 0), BAD - 1000);
            due("pull tuft", x.pull(0, no), BAD - 1000);
        }
        due("pull 36", x.pull(36, 0), BAD - 1000);
        due("pull tuft 2", x.pull(0, 2), BAD - 1000);
        due("pull no seat", x.pull(0, 0), NOT - 1000);
        x.person(FIDGET);
        x.sit(0, 7, 1);
        due("pull seat that counts 0", x.pull(7, 0), -6);
        due("pull far", x.pull(7, 1), -24);
        x.person(HEAVY);
        x.sit(1, 7, 99);
        due("pull together", x.pull(7, 1), 198 - 24);
        x.sit(1, 0, 3);
        due("pull there", x.pull(0, 0), 6);
        due("pull across", x.pull(0, 1), -24);
        x.year();
        due("pull behind the year", x.pull(0, 0), NOT - 1000);
    }

    /** One tuft in a wet marsh, PLAIN people who sit a year: by pairs of cell and hours. */
    private static int moves(int from, int... cellsAndHours) {
        MossPilots x = new MossPilots();
        x.tuft(from);
        for (int k = 0; k + 1 < cellsAndHours.length; k += 2) {
            x.sit(x.person(PLAIN), cellsAndHours[k], cellsAndHours[k + 1]);
        }
        int gone = x.year();
        due("tufts that go", gone, x.moss(0) == from ? 0 : 1);
        return x.moss(0);
    }

    private static void yearsOfMoss() {
        due("year nobody", moves(14), 14);
        due("year by a column", moves(14, 16, 9), 15);
        due("year back a column", moves(14, 12, 9), 13);
        due("year by a row first", moves(14, 21, 9), 20);
        due("year up a row first", moves(14, 9, 9), 8);
        due("year pull 0", moves(14, 16, 6), 14);
        due("year pull 1", moves(14, 16, 7), 15);
        due("year there", moves(14, 14, 9), 14);
        due("year like ones", moves(14, 15, 5, 13, 5), 14);
        due("year like ones below the most", moves(14, 15, 5, 13, 5, 20, 9), 20);
        due("year most then like one", moves(14, 20, 9, 15, 5, 8, 9), 14);
        due("year likes by distance", moves(14, 15, 5, 16, 8), 14);
        due("year added", moves(14, 15, 5, 13, 4, 13, 4), 13);
        due("year added in the first seat", moves(14, 15, 4, 15, 4, 13, 5), 15);
        due("year there stronger", moves(14, 14, 9, 15, 11), 14);
        due("year there weaker", moves(14, 14, 9, 15, 13), 15);
        due("year there alike", moves(14, 14, 9, 15, 12), 14);
        due("year last cell", moves(29, 35, 99), 35);
        due("year corner", moves(35, 0, 99), 29);
        MossPilots x = new MossPilots();
        x.tuft(0);
        x.tuft(0);
        x.tuft(2);
        x.person(PLAIN);
        x.sit(0, 1, 9);
        due("year all go", x.year(), 3);
        due("year in one cell", x.of(1, 1), 3);
        x.sit(0, 3, 99);
        x.frost(1);
        due("year frost", x.year(), 0);
        due("year frost stays", x.of(1, 1), 3);
        due("year nobody sits", x.told(0, 1), NONE);
        due("year no seat", x.year(), 0);
        x.sit(0, 3, 99);
        due("year frost over", x.year(), 3);
        due("year count", x.count(3), 4);
    }

    private static void yearsOfPeople() {
        MossPilots x = of("#m....");
        for (int person = 0; person < 4; person++) {
            x.person(PLAIN);
        }
        x.person(STRANGER);
        x.person(STRANGER);
        x.sit(0, 0, 9);
        x.sit(1, 1, 1);
        x.sit(2, 20, 1);
        x.sit(4, 20, 5);
        x.sit(5, 0, 5);
        x.year();
        due("ache on firm", x.told(0, 3), 0);
        due("ache on moss", x.told(1, 3), 1);
        due("ache ahead of the draining", x.told(2, 3), 1);
        due("ache nowhere", x.told(3, 3), 0);
        due("ache of the stranger", x.told(4, 3), 1);
        due("ache of the stranger on firm", x.told(5, 3), 0);
        due("stranger drains", x.of(20, 0), 1);
        due("stranger on firm", x.of(0, 0), 1);
        due("plain does not", x.of(1, 0), 0);
        due("aches", x.count(5), 0b10110);
        for (int person = 0; person < 6; person++) {
            due("nobody sits", x.told(person, 2), 0);
        }
        x.frost(2);
        x.sit(1, 1, 1);
        x.sit(4, 21, 1);
        x.sit(0, 22, 5);
        x.sit(0, 22, 0);
        x.year();
        due("ache in frost", x.told(1, 3), 2);
        due("ache not by one who left", x.told(0, 3), 0);
        due("stranger drains in frost", x.of(21, 0), 1);
        due("who left does not drain", x.of(22, 0), 0);
        due("frost less", x.count(4), 1);
    }

    private static void ways() {
        MossPilots x = of("#.####", "#.#..#", "###.m#", "......", "#.....");
        for (int no : WRONG) {
            due("way a", x.way(no, 0), BAD);
            due("way b", x.way(0, no), BAD);
        }
        due("way 36", x.way(0, 36), BAD);
        due("way one cell", x.way(0, 0), 0);
        due("way wet cell", x.way(1, 1), NONE);
        due("way", x.way(0, 2), 6);
        due("way far", x.way(0, 16), 12);
        due("way back", x.way(16, 0), 12);
        due("way from wet", x.way(1, 0), NONE);
        due("way to wet", x.way(0, 1), NONE);
        due("way apart", x.way(0, 24), NONE);
        due("way not over the edge", x.way(5, 24), NONE);
        x.plant(0, 1);
        due("way over moss", x.way(0, 2), 2);
        x.frost(1);
        due("way in frost", x.way(0, 35), 10);
        MossPilots edge = of(".....#", "#.....");
        due("way no edge", edge.way(5, 6), NONE);
        due("way snake", of("######", ".....#", "######", "#.....", "######", ".....#").way(0, 35), 20);
    }

    private static String routeOf(MossPilots x, int a, int b) {
        StringBuilder text = new StringBuilder().append(x.route(a, b, -1)).append(':');
        for (int i = 0; i <= 34 && x.route(a, b, i) >= 0; i++) {
            text.append(' ').append(x.route(a, b, i));
        }
        return text.toString();
    }

    private static void dueRoute(MossPilots x, int a, int b, String want) {
        rows++;
        String got = routeOf(x, a, b);
        if (!got.equals(want)) {
            wrong++;
            System.out.println("route " + a + " " + b + " answered " + got + ", due is " + want);
        }
    }

    private static void routes() {
        MossPilots x = of("#mmm#.", "#####.");
        for (int no : new int[] {-1, 36, LOW, HIGH}) {
            due("route a", x.route(no, 0, 0), BAD);
            due("route b", x.route(0, no, 0), BAD);
        }
        for (int no : new int[] {-2, 35, LOW, HIGH}) {
            due("route i", x.route(0, 4, no), BAD);
            due("route bad ahead", x.route(20, 21, no), BAD);
        }
        due("route steps", x.way(0, 4), 4);
        dueRoute(x, 0, 4, "6: 6 7 8 9 10 4");
        due("route no i-th", x.route(0, 4, 6), NONE);
        due("route no 34th", x.route(0, 4, 34), NONE);
        dueRoute(x, 0, 0, "0:");
        due("route none", x.route(0, 35, -1), NONE);
        due("route none wet", x.route(35, 35, -1), NONE);
        due("route none 0", x.route(35, 35, 0), NONE);
        x.frost(1);
        dueRoute(x, 0, 4, "4: 1 2 3 4");
        dueRoute(x, 0, 14, "4: 1 2 8 14");
        dueRoute(of("#mm#..", "####.."), 0, 3, "5: 1 2 3");
        dueRoute(of("####..", "#mm#.."), 6, 9, "5: 0 1 2 3 9");
        dueRoute(of("####..", "#mm#.."), 9, 6, "5: 3 2 1 0 6");
        dueRoute(of("#m....", "m#...."), 0, 7, "3: 1 7");
        MossPilots both = of("##....");
        both.tuft(1);
        dueRoute(both, 0, 1, "1: 1");
        MossPilots snake = of("######", ".....#", "######", "#.....", "######", ".....#");
        due("route long", snake.route(0, 35, -1), 20);
        due("route long end", snake.route(0, 35, 19), 35);
        due("route long none", snake.route(0, 35, 20), NONE);
        due("route long back", snake.route(35, 0, -1), 20);
        due("route long back end", snake.route(35, 0, 19), 0);
        MossPilots edges = of("#.....", "......", "#....#", "......", "......", "..#...");
        due("route left edge", edges.route(12, 0, -1), NONE);
        due("route right edge", edges.route(17, 0, -1), NONE);
        due("route lower edge", edges.route(32, 0, -1), NONE);
    }

    private static void partsOfMarsh() {
        due("parts", of("#.#.#.", ".#.#.#").parts(), 6);
        due("parts moss", of("#m#.#.", ".#.#.#").parts(), 4);
        due("parts edge", of(".....#", "#.....").parts(), 2);
        due("parts whole", of("######", "#....#", "######").parts(), 1);
        due("parts checkered", of("#.#.#.", ".#.#.#", "#.#.#.", ".#.#.#", "#.#.#.", ".#.#.#").parts(), 18);
        MossPilots x = new MossPilots();
        x.tuft(8);
        x.tuft(8);
        due("parts two in one", x.parts(), 1);
        x.frost(9);
        due("parts frost", x.parts(), 1);
    }

    private static void dueLeast(String text, MossPilots x, int person, int a, int b, int hours, int cell) {
        due(text + " hours", x.least(person, a, b, 0), hours);
        due(text + " cell", x.least(person, a, b, 1), cell);
    }

    private static void leasts() {
        MossPilots x = new MossPilots();
        x.tuft(0);
        for (int kind = 0; kind < 4; kind++) {
            x.person(kind);
        }
        for (int no : WRONG) {
            due("least person", x.least(no, 0, 0, 0), BAD);
            due("least a", x.least(0, no, 0, 0), BAD);
            due("least b", x.least(0, 0, no, 0), BAD);
            due("least what", x.least(0, 0, 0, no), BAD);
        }
        due("least person 4", x.least(4, 0, 0, 0), BAD);
        due("least 36", x.least(0, 0, 36, 0), BAD);
        due("least what 2", x.least(0, 0, 0, 2), BAD);
        dueLeast("least nowhere", x, 0, 0, 0, 0, 0);
        MossPilots wet = new MossPilots();
        wet.person(PLAIN);
        wet.person(STRANGER);
        dueLeast("least in nothing but wet", wet, 0, 0, 0, NONE, NONE);
        dueLeast("least stranger in the first cell", wet, 1, 0, 0, 1, 0);
        dueLeast("least plain", x, 0, 1, 1, 4, 1);
        dueLeast("least heavy", x, 1, 1, 1, 2, 1);
        dueLeast("least fidget", x, 2, 1, 1, 8, 1);
        dueLeast("least stranger drains", x, 3, 1, 1, 1, 1);
        dueLeast("least stranger far", x, 3, 35, 35, 1, 35);
        dueLeast("least never", x, 0, 2, 2, NONE, NONE);
        dueLeast("least stranger and moss", x, 3, 0, 1, 1, 1);
        x.sit(1, 0, 20);
        dueLeast("least against another", x, 0, 1, 1, 44, 1);
        x.sit(1, 0, 50);
        dueLeast("least against another too far", x, 0, 1, 1, NONE, NONE);
        x.sit(0, 35, 7);
        dueLeast("least in his place", x, 1, 1, 1, 2, 1);
        due("least changes nothing", x.told(1, 2), 50);
        due("least moss stays", x.moss(0), 0);
        x.frost(1);
        dueLeast("least frost of a year", x, 0, 1, 1, NONE, NONE);
        dueLeast("least frost holds the tuft", x, 0, 0, 0, 0, 0);
        x.frost(2);
        dueLeast("least frost", x, 0, 30, 5, 0, 0);
        MossPilots row = of(".m.m..");
        row.person(PLAIN);
        dueLeast("least from further on", row, 0, 2, 3, 7, 3);
        MossPilots away = of("..m...");
        away.person(PLAIN);
        away.person(PLAIN);
        away.sit(1, 3, 10);
        dueLeast("least holds it there by a like one", away, 0, 2, 2, 7, 2);
        away.sit(1, 0, 0);
        away.sit(0, 3, 10);
        dueLeast("least by leaving", away, 0, 2, 2, 0, 0);
        dueLeast("least for other ends", away, 0, 1, 1, 4, 1);
        due("least leaves him there", away.told(0, 1), 3);
        MossPilots first = of(".m....");
        first.person(PLAIN);
        first.person(PLAIN);
        dueLeast("least in the first cell", first, 0, 0, 0, 4, 0);
        first.sit(1, 1, 95);
        dueLeast("least of the most hours", first, 0, 0, 0, 99, 0);
        first.sit(1, 1, 96);
        dueLeast("least of more than the most", first, 0, 0, 0, NONE, NONE);
        leastOfOtherEnds();
    }

    /** One ground, ends that differ by one of both: no answer may stand for another's. */
    private static void leastOfOtherEnds() {
        MossPilots x = of("##.#..");
        x.person(PLAIN);
        int[][] ends = {{3, 3}, {0, 3}, {0, 1}, {3, 1}, {3, 0}, {1, 0}, {1, 3}, {1, 0}, {1, 1}, {0, 1}, {0, 3}, {0, 0}};
        for (int[] pair : ends) {
            int want = (pair[0] == 3) == (pair[1] == 3) ? 0 : NONE;
            dueLeast("least from " + pair[0] + " to " + pair[1], x, 0, pair[0], pair[1], want, want);
        }
    }

    private static void games() {
        MossPilots x = new MossPilots();
        for (int kind = 0; kind < 4; kind++) {
            x.person(kind);
        }
        for (int no : new int[] {-1, 4, LOW, HIGH}) {
            due("game one", x.game(no, 1, 1, 1, 0, 0, 0), BAD);
            due("game other", x.game(0, no, 1, 1, 0, 0, 0), BAD);
        }
        for (int no : new int[] {-1, 0, 100, LOW, HIGH}) {
            due("game hours", x.game(0, 1, no, 1, 0, 0, 0), BAD);
            due("game hours other", x.game(0, 1, 1, no, 0, 0, 0), BAD);
        }
        for (int no : new int[] {-1, 36, LOW, HIGH}) {
            due("game a", x.game(0, 1, 1, 1, no, 0, 0), BAD);
            due("game b", x.game(0, 1, 1, 1, 0, no, 0), BAD);
        }
        for (int no : new int[] {-1, 2, LOW, HIGH}) {
            due("game what", x.game(0, 1, 1, 1, 0, 0, no), BAD);
        }
        due("game one alike", x.game(1, 1, 1, 1, 0, 0, 0), BAD);
        due("game nothing to do", x.game(0, 1, 1, 1, 7, 7, 0), 1296);
        due("game nothing to do first", x.game(0, 1, 1, 1, 7, 7, 1), 0);
        due("game stranger first", x.game(3, 0, 1, 1, 7, 7, 0), 36);
        due("game stranger first at", x.game(3, 0, 1, 1, 7, 7, 1), 700);
        due("game stranger second", x.game(0, 3, 1, 1, 0, 0, 0), 36 * 35);
        due("game stranger second at", x.game(0, 3, 1, 1, 0, 0, 1), 1);
        due("game last cell of the first", x.game(3, 0, 1, 1, 35, 35, 1), 3500);
        due("game changes nobody", x.told(3, 1), NONE);
        due("game changes no cell", x.count(2), 0);
        x.tuft(0);
        due("game draws the tuft away", x.game(0, 1, 9, 9, 0, 0, 1), 1);
        due("game keeps moss", x.moss(0), 0);
        x.sit(0, 7, 99);
        x.sit(3, 6, 99);
        due("game others", x.game(0, 1, 99, 1, 6, 6, 0), 1296);
        noRests();
    }

    /**
     * The first draws moss to 10 and to 11 by sitting in one of them; from 9 or 5 the second just
     * holds the tuft that is pulled less, and then the first would rather sit in the other one.
     */
    private static void noRests() {
        MossPilots x = new MossPilots();
        x.tuft(9);
        x.tuft(5);
        x.person(PLAIN);
        x.person(PLAIN);
        due("game no rests", x.game(0, 1, 8, 2, 11, 10, 0), 0);
        due("game no first", x.game(0, 1, 8, 2, 11, 10, 1), NONE);
        due("game too weak to hold", x.game(0, 1, 8, 1, 11, 10, 0) > 0 ? 1 : 0, 1);
        MossPilots last = new MossPilots();
        last.tuft(35);
        for (int person = 0; person < 3; person++) {
            last.person(PLAIN);
        }
        last.sit(2, 29, 10);
        due("game last cell of the second", last.game(0, 1, 1, 8, 29, 29, 1), 35);
        due("game last cell alone", last.game(0, 1, 1, 8, 29, 29, 0), 36);
    }

    private static void pilotsOfWays() {
        MossPilots x = of("#m#m#.", "..#.#m", "..###.");
        for (int no : new int[] {-1, 36, LOW, HIGH}) {
            due("pilots a", x.pilots(no, 0), BAD);
            due("pilots b", x.pilots(0, no), BAD);
        }
        due("pilots none", x.pilots(0, 35), NONE);
        due("pilots wet", x.pilots(35, 35), NONE);
        due("pilots round about", x.pilots(0, 4), 1);
        due("pilots end", x.pilots(11, 2), 4);
        due("pilots both", x.pilots(0, 11), 5);
        due("pilots firm", x.pilots(2, 4), 0);
        due("pilots on itself", x.pilots(3, 3), 2);
        x.tuft(1);
        due("pilots two in one", x.pilots(0, 11), 4);
        x.drain(11, true);
        due("pilots moss on firm", x.pilots(0, 11), 0);
        x.frost(1);
        due("pilots frost", x.pilots(0, 35), 0);
    }

    private static void images() {
        MossPilots x = of("#m....");
        due("restore none", x.restore(), NONE);
        x.person(STRANGER);
        x.sit(0, 3, 8);
        x.year();
        x.sit(0, 5, 9);
        x.frost(3);
        x.sheet(0, 1, 3);
        due("image", x.image(), 1);
        for (int turn = 0; turn < 2; turn++) {
            x.tuft(9);
            x.plant(0, 30);
            x.person(PLAIN);
            x.sit(0, 8, 2);
            x.drain(0, false);
            x.year();
            x.frost(0);
            x.item(0, 1, 1, 77 + turn);
            x.type('#', 1);
            due("restore", x.restore(), 1);
            due("restore tufts", x.count(0), 1);
            due("restore moss", x.moss(0), 2);
            due("restore people", x.count(1), 1);
            due("restore firm", x.count(2), 2);
            due("restore firm 0", x.of(0, 0), 1);
            due("restore years", x.count(3), 1);
            due("restore frost", x.count(4), 3);
            due("restore cell", x.told(0, 1), 5);
            due("restore hours", x.told(0, 2), 9);
            due("restore aches", x.told(0, 3), 1);
        }
        due("restore leaves the tape", x.type('#', 1), 3);
        due("restore leaves sheets", x.drop(0), 3);
        due("image again", x.image(), 1);
        x.year();
        x.restore();
        due("image is a copy", x.told(0, 1), 5);
        imageOfAll();
    }

    private static void imageOfAll() {
        MossPilots x = new MossPilots();
        x.image();
        for (int k = 0; k < 6; k++) {
            x.tuft(k);
            x.person(HEAVY);
            x.sit(k, 6 * k, 10 + k);
        }
        due("image of six", x.image(), 1);
        x.year();
        x.restore();
        for (int k = 0; k < 6; k++) {
            due("restore of six moss", x.moss(k), k);
            due("restore of six cell", x.told(k, 1), 6 * k);
            due("restore of six counts", x.of(6 * k, 3), 20 + 2 * k);
            due("restore of six pull", x.pull(6 * k, 0), 20 - k);
            due("restore of six hours", x.sit(k, 0, 0), 10 + k);
        }
        due("restore of six nobody", x.of(1, 3), 0);
        due("restore of six no seat", x.pull(1, 0), NOT - 1000);
        MossPilots fewer = new MossPilots();
        fewer.image();
        fewer.sit(fewer.person(STRANGER), 3, 9);
        fewer.year();
        fewer.sit(0, 4, 9);
        fewer.restore();
        due("restore of nobody", fewer.person(PLAIN), 0);
        due("restored without aches", fewer.told(0, 3), 0);
        due("restored without hours", fewer.told(0, 2), 0);
        due("restored without a seat", fewer.told(0, 1), NONE);
    }

    private static void sats() {
        MossPilots x = new MossPilots();
        x.tuft(0);
        x.person(PLAIN);
        x.person(FIDGET);
        x.sheet(0, 0, 3);
        for (int no : WRONG) {
            due("sat person", x.sat(no, 1, 0, 0, 0), BAD);
            due("sat hours", x.sat(0, no, 0, 0, 0), BAD);
            due("sat sheet", x.sat(0, 1, no, 0, 0), BAD);
            due("sat lane", x.sat(0, 1, 0, no, 0), BAD);
            due("sat i", x.sat(0, 1, 0, 0, no), INDEX);
        }
        due("sat person 2", x.sat(2, 1, 0, 0, 0), BAD);
        due("sat hours 0", x.sat(0, 0, 0, 0, 0), BAD);
        due("sat hours 100", x.sat(0, 100, 0, 0, 0), BAD);
        due("sat sheet 4", x.sat(0, 1, 4, 0, 0), BAD);
        due("sat lane 3", x.sat(0, 1, 0, 3, 0), BAD);
        due("sat null", x.sat(0, 1, 1, 0, 9), NULL);
        due("sat cast", x.sat(0, 1, 0, 1, 9), CAST);
        due("sat i 3", x.sat(0, 1, 0, 0, 3), INDEX);
        x.item(0, 0, 1, 1);
        x.item(0, 0, 2, 6);
        long all = (1L << 36) - 1;
        due("sat drawn", x.sat(0, 4, 0, 0, 1), 1L << 1);
        due("sat drawn down", x.sat(0, 4, 0, 0, 2), 1L << 6);
        due("sat stays", x.sat(0, 4, 0, 0, 0), all & ~(1L << 1 | 1L << 6));
        due("sat further", x.sat(0, 10, 0, 0, 1), 1L << 1 | 1L << 2 | 1L << 3);
        due("sat further down", x.sat(0, 10, 0, 0, 2), 1L << 6 | 1L << 7 | 1L << 8 | 1L << 12 | 1L << 13 | 1L << 18);
        due("sat fidget", x.sat(1, 8, 0, 0, 1), 1L << 1);
        due("sat fidget too short", x.sat(1, 7, 0, 0, 1), 0);
        x.item(0, 0, 1, -1);
        due("sat no such cell", x.sat(0, 10, 0, 0, 1), 0);
        x.item(0, 0, 1, 1);
        x.sit(1, 6, 8);
        due("sat against another", x.sat(0, 10, 0, 0, 1), 1L << 1 | 1L << 2);
        due("sat in his own place", x.sat(1, 10, 0, 0, 1), 1L << 1);
        due("sat changes nobody", x.told(1, 1), 6);
        x.tuft(5);
        due("sat all tufts", x.sat(0, 10, 0, 0, 1), 0);
        due("sat too few", x.sat(0, 10, 0, 0, 2), INDEX);
        x.item(0, 0, 1, 0);
        x.item(0, 0, 2, 5);
        x.frost(1);
        due("sat frost", x.sat(0, 10, 0, 0, 1), all);
        MossPilots none = new MossPilots();
        none.person(PLAIN);
        none.sheet(0, 2, 2);
        due("sat no tufts", none.sat(0, 1, 0, 2, 2), all);
        due("sat no tufts above", none.sat(0, 1, 0, 2, 3), INDEX);
        due("sat no tufts below", none.sat(0, 1, 0, 2, -1), INDEX);
    }

    private static void films() {
        for (int lane = 0; lane < 3; lane++) {
            MossPilots x = new MossPilots();
            x.person(PLAIN);
            due("film null", x.film(0, lane, 0), NULL);
            x.sheet(0, lane, 4);
            due("film no tufts", x.film(0, lane, 4), 0);
            due("film no tufts above", x.film(0, lane, 5), INDEX);
            due("film no tufts below", x.film(0, lane, -1), INDEX);
            x.tuft(35);
            x.tuft(3);
            for (int no : WRONG) {
                due("film sheet", x.film(no, lane, 0), BAD);
                due("film lane", x.film(0, no, 0), BAD);
                due("film i", x.film(0, lane, no), INDEX);
            }
            due("film sheet 4", x.film(4, lane, 0), BAD);
            due("film lane 3", x.film(0, 3, 0), BAD);
            due("film cast", x.film(0, (lane + 1) % 3, 9), CAST);
            due("film i 3", x.film(0, lane, 3), INDEX);
            due("film", x.film(0, lane, 2), 2);
            due("film matches", x.sat(0, 1, 0, lane, 2), (1L << 36) - 1);
            due("film from there on", x.sat(0, 1, 0, lane, 1), 0);
            x.item(0, lane, 2, 7);
            x.item(0, lane, 3, 7);
            due("film ahead", x.film(0, lane, 0), 2);
            x.plant(0, 7);
            x.plant(1, 7);
            due("film leaves the next", x.sat(0, 1, 0, lane, 2), (1L << 36) - 1);
            x.plant(0, 35);
            x.plant(1, 3);
            x.film(0, lane, 2);
            due("film refused puts nothing", x.film(0, lane, 3), INDEX);
            due("film still matches", x.sat(0, 1, 0, lane, 2), (1L << 36) - 1);
        }
    }

    private static void sheetRows() {
        MossPilots x = new MossPilots();
        for (int no : WRONG) {
            due("sheet", x.sheet(no, 0, 1), BAD);
            due("sheet lane", x.sheet(0, no, 1), BAD);
            due("sheet bad ahead of size", x.sheet(no, 0, -1), BAD);
        }
        due("sheet 4", x.sheet(4, 0, 1), BAD);
        due("sheet lane 3", x.sheet(0, 3, 1), BAD);
        due("sheet 17", x.sheet(0, 0, 17), BAD);
        due("sheet most", x.sheet(0, 0, HIGH), BAD);
        due("sheet -1", x.sheet(0, 0, -1), SIZE);
        due("sheet low", x.sheet(0, 0, LOW), SIZE);
        due("sheet refused", x.drop(0), NULL);
        due("sheet 16", x.sheet(3, 2, 16), 16);
        due("sheet item 15", x.item(3, 2, 15, 1), 1);
        due("sheet 0", x.sheet(3, 1, 0), 0);
        due("sheet 0 item", x.item(3, 1, 0, 1), INDEX);
        due("sheet refused keeps", x.sheet(3, 0, -1), SIZE);
        due("sheet lane kept", x.film(3, 1, 0), 0);
        due("sheet 0 drop", x.drop(3), 0);
        x.tuft(0);
        x.person(PLAIN);
        x.sheet(1, 1, 1);
        x.item(1, 1, 0, 7);
        due("sheet held 7", x.sat(0, 1, 1, 1, 0), 0);
        x.sheet(1, 1, 1);
        due("sheet new row", x.sat(0, 1, 1, 1, 0), (1L << 36) - 1);
    }

    private static void drops() {
        MossPilots x = new MossPilots();
        for (int no : WRONG) {
            due("drop", x.drop(no), BAD);
        }
        due("drop 4", x.drop(4), BAD);
        due("drop nothing", x.drop(3), NULL);
        x.sheet(3, 0, 5);
        due("drop", x.drop(3), 5);
        due("drop dropped", x.item(3, 0, 0, 1), NULL);
        due("drop twice", x.drop(3), NULL);
    }

    private static void items() {
        MossPilots x = new MossPilots();
        due("item null", x.item(0, 1, 9, 1), NULL);
        x.sheet(0, 0, 2);
        for (int no : WRONG) {
            due("item sheet", x.item(no, 0, 0, 1), BAD);
            due("item lane", x.item(0, no, 0, 1), BAD);
            due("item i", x.item(0, 0, no, 1), INDEX);
        }
        due("item sheet 4", x.item(4, 0, 0, 1), BAD);
        due("item lane 3", x.item(0, 3, 0, 1), BAD);
        due("item cast", x.item(0, 2, 9, 1), CAST);
        due("item 2", x.item(0, 0, 2, 1), INDEX);
        due("item 1", x.item(0, 0, 1, 1), 1);
        x.tuft(5);
        x.person(PLAIN);
        long[] cuts = {1L << 8, 1L << 32};
        for (int lane = 0; lane < 3; lane++) {
            x.sheet(0, lane, 1);
            x.item(0, lane, 0, 5);
            due("item as it is", x.sat(0, 1, 0, lane, 0) != 0 ? 1 : 0, 1);
            for (int cut = 0; cut < 2; cut++) {
                x.item(0, lane, 0, cuts[cut] + 5);
                due("item cut", x.sat(0, 1, 0, lane, 0) != 0 ? 1 : 0, lane <= cut ? 1 : 0);
            }
            x.item(0, lane, 0, 5 + (1L << 7));
            due("item sign", x.sat(0, 1, 0, lane, 0), 0);
        }
    }

    /** Which tuft cells stand in a sheet from i on: told by planting the one tuft. */
    private static int read(MossPilots x, int sheet, int lane, int i) {
        for (int cell = 0; cell < 36; cell++) {
            x.plant(0, cell);
            if (x.sat(0, 1, sheet, lane, i) != 0) {
                return cell;
            }
        }
        return -1;
    }

    private static MossPilots filled(int lane) {
        MossPilots x = new MossPilots();
        x.tuft(0);
        x.person(FIDGET);
        x.sheet(0, lane, 5);
        for (int i = 0; i < 5; i++) {
            x.item(0, lane, i, 10 + i);
        }
        x.sheet(1, lane, 3);
        return x;
    }

    private static void copies() {
        MossPilots x = filled(1);
        for (int no : WRONG) {
            due("copy from", x.copy(no, 0, 1, 0, 1), BAD);
            due("copy to", x.copy(0, 0, no, 0, 1), BAD);
            due("copy i", x.copy(0, no, 1, 0, 1), INDEX);
            due("copy j", x.copy(0, 0, 1, no, 1), INDEX);
            due("copy n", x.copy(0, 0, 1, 0, no), INDEX);
        }
        due("copy bad ahead of null", x.copy(2, 0, 4, 0, 1), BAD);
        due("copy null from", x.copy(2, 0, 0, 0, 1), NULL);
        due("copy null to", x.copy(0, 0, 2, 0, -1), NULL);
        x.sheet(2, 0, 3);
        due("copy cast", x.copy(0, 0, 2, 9, -1), CAST);
        due("copy none", x.copy(0, 5, 1, 3, 0), 0);
        due("copy none i", x.copy(0, 6, 1, 3, 0), INDEX);
        due("copy none j", x.copy(0, 5, 1, 4, 0), INDEX);
        due("copy too many from", x.copy(1, 1, 0, 0, 3), INDEX);
        due("copy too many to", x.copy(0, 0, 1, 1, 3), INDEX);
        due("copy refused", read(x, 1, 1, 1), 0);
        due("copy", x.copy(0, 2, 1, 0, 3), 3);
        due("copy first", read(x, 1, 1, 0), 12);
        due("copy last", read(x, 1, 1, 2), 14);
        x = filled(2);
        due("copy on", x.copy(0, 0, 0, 1, 4), 4);
        for (int i = 0; i < 5; i++) {
            due("copy on " + i, read(x, 0, 2, i), 10 + Math.max(0, i - 1));
        }
        x = filled(0);
        due("copy back", x.copy(0, 1, 0, 0, 4), 4);
        for (int i = 0; i < 5; i++) {
            due("copy back " + i, read(x, 0, 0, i), 10 + Math.min(4, i + 1));
        }
    }
}
