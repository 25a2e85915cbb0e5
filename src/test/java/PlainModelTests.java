import java.util.ArrayList;
import java.util.Arrays;
import java.util.HashSet;
import java.util.List;
import java.util.Random;
import java.util.Set;

/**
 * Runs of 512 calls by chance, from fixed seeds, each answer held against a model that is written as
 * plainly as the document, with other means than the class: no sets of bits, no kept answers. And
 * that chance has brought each kind of answer that the document names for each call.
 */
public final class PlainModelTests {
    private static final int RUNS = 400;
    /** More calls on one object are not promised. */
    private static final int CALLS = 512;
    /** The kinds of answers that must have come; what no run of 512 calls can bring (year: FULL) is left out. */
    private static final String KINDS = "type: taken BAD FULL; marsh: 0 taken fault; drain: 0 taken BAD; tuft: 0 taken BAD FULL; "
            + "plant: 0 taken BAD; person: 0 taken BAD FULL; sit: 0 taken BAD; told: 0 taken BAD NONE; of: 0 taken BAD; "
            + "frost: 0 taken BAD; count: 0 taken BAD; moss: 0 taken BAD; pull: 0 taken below BAD NOT; year: 0 taken; "
            + "way: 0 taken BAD NONE; route: 0 taken BAD NONE; parts: 0 taken; least: 0 taken BAD NONE; "
            + "game: 0 taken BAD NONE; pilots: 0 taken BAD NONE; image: taken; restore: taken NONE; "
            + "sat: 0 taken BAD NULL CAST INDEX; film: 0 taken BAD NULL CAST INDEX; sheet: 0 taken BAD SIZE; "
            + "drop: 0 taken BAD NULL; item: taken BAD NULL CAST INDEX; copy: 0 taken BAD NULL CAST INDEX";

    public static void main(String[] args) {
        int wrong = 0;
        long answers = 0;
        Set<String> came = new HashSet<>();
        for (int seed = 1; seed <= RUNS; seed++) {
            Run run = new Run(seed, came);
            wrong += run.play() ? 0 : 1;
            answers += run.calls;
        }
        for (String call : KINDS.split("; ")) {
            String[] kinds = call.split("[: ]+");
            for (int k = 1; k < kinds.length; k++) {
                if (!came.contains(kinds[0] + " " + kinds[k])) {
                    wrong++;
                    System.out.println("no run brought " + kinds[0] + " " + kinds[k]);
                }
            }
        }
        System.out.println(answers + " answers in " + RUNS + " runs, " + wrong + " wrong");
        if (wrong != 0) {
            System.exit(1);
        }
    }

    private static String kindOf(String call, long answer) {
        if (answer >= 0) {
            return answer == 0 ? "0" : "taken";
        }
        if (call.equals("pull")) {
            return answer == -1001 ? "BAD" : answer == -1002 ? "NOT" : "below";
        }
        switch ((int) answer) {
            case -1: return "BAD";
            case -3: return "FULL";
            case -4: return "NONE";
            case -11: return "NULL";
            case -12: return "CAST";
            case -13: return "INDEX";
            case -14: return "SIZE";
            default: return call.equals("marsh") ? "fault" : "other";
        }
    }

    /** One run: the class and the model side by side. */
    private static final class Run {
        private final int seed;
        private final Random chance;
        private final MossPilots real = new MossPilots();
        private final Model model = new Model();
        private final StringBuilder told = new StringBuilder();
        private final Set<String> came;
        private int calls;

        Run(int seed, Set<String> came) {
            this.seed = seed;
            this.chance = new Random(seed);
            this.came = came;
        }

        /** Whether all answers were as due. */
        boolean play() {
            if (chance.nextInt(4) > 0) {
                for (int k = 0; k < 6; k++) {
                    if (!same("person", chance.nextInt(4))) {
                        return false;
                    }
                }
            }
            while (calls < CALLS) {
                if (!step()) {
                    return false;
                }
            }
            return true;
        }

        private boolean step() {
            int kind = chance.nextInt(100);
            if (kind < 4) {
                return text();
            } else if (kind < 9) {
                return same("drain", cell(), chance.nextInt(3) > 0 ? 1 : 0);
            } else if (kind < 15) {
                return same("tuft", cell());
            } else if (kind < 21) {
                return same("plant", small(6), cell());
            } else if (kind < 23) {
                return same("person", small(4));
            } else if (kind < 43) {
                return same("sit", small(6), cell(), hours());
            } else if (kind < 51) {
                return asking();
            } else if (kind < 53) {
                return same("frost", chance.nextInt(3) == 0 ? small(10) : 0);
            } else if (kind < 59) {
                return same("year");
            } else if (kind < 69) {
                return paths();
            } else if (kind < 76) {
                return searches();
            } else if (kind < 80) {
                return same(chance.nextBoolean() ? "image" : "restore");
            } else {
                return sheets();
            }
        }

        private boolean asking() {
            switch (chance.nextInt(5)) {
                case 0:
                    return same("told", small(6), small(4));
                case 1:
                    return same("of", cell(), small(4));
                case 2:
                    return same("count", small(6));
                case 3:
                    return same("moss", small(6));
                default:
                    return same("pull", seat(), small(6));
            }
        }

        private boolean paths() {
            int a = chance.nextInt(20) == 0 ? cell() : onFoot();
            int b = chance.nextInt(20) == 0 ? cell() : chance.nextInt(4) == 0 ? near(a) : onFoot();
            switch (chance.nextInt(5)) {
                case 0:
                    return same("way", a, b);
                case 1:
                    return same("route", a, b, chance.nextInt(12) - 1);
                case 2:
                    for (int i = -1; i < 35; i++) {
                        if (!same("route", a, b, i)) {
                            return false;
                        }
                        if (model.route(a, b, i) < 0) {
                            break;
                        }
                    }
                    return true;
                case 3:
                    return same("parts");
                default:
                    return same("pilots", a, b);
            }
        }

        private boolean searches() {
            int a = chance.nextInt(3) == 0 ? cell() : near(onFoot());
            int b = chance.nextInt(3) == 0 ? onFoot() : near(a);
            if (chance.nextInt(3) == 0) {
                int one = small(6);
                int other = small(6);
                int hoursOne = 1 + hours();
                int hoursOther = 1 + hours();
                return same("game", one, other, hoursOne, hoursOther, a, b, 0)
                        && same("game", one, other, hoursOne, hoursOther, a, b, small(2));
            }
            int who = small(6);
            return same("least", who, a, b, 0) && same("least", who, a, b, small(2));
        }

        private boolean sheets() {
            int sheet = held();
            int lane = chance.nextInt(5) == 0 ? small(3) : model.laneOf(sheet);
            switch (chance.nextInt(10)) {
                case 0:
                    return same("sheet", small(4), small(3), chance.nextInt(20) == 0 ? wild() : chance.nextInt(19) - 1);
                case 1:
                    return chance.nextInt(3) > 0 ? same("sheet", held(), lane, 16) : same("drop", small(4));
                case 2:
                case 3:
                    return same("film", sheet, lane, small(12));
                case 4:
                    return same("item", sheet, lane, small(16), chance.nextInt(3) == 0 ? chance.nextLong() : cell());
                case 5:
                case 6:
                    return copies(sheet);
                case 7:
                    return looking(sheet, lane);
                default:
                    return same("sat", small(6), hours(), sheet, lane, small(12));
            }
        }

        /** One row is moved within itself or to another; what came where is asked with the next "sat". */
        private boolean copies(int from) {
            int to = chance.nextInt(3) == 0 ? from : held();
            return same("copy", from, small(10), to, small(10), small(8));
        }

        /** The tufts as they are behind the year come to a sheet, and all is asked back. */
        private boolean looking(int sheet, int lane) {
            int i = small(10);
            return same("image") && same("year") && same("film", sheet, lane, i) && same("restore")
                    && same("sat", small(6), hours(), sheet, lane, i)
                    && same("sat", small(6), hours(), sheet, lane, i);
        }

        private boolean text() {
            StringBuilder text = new StringBuilder();
            String signs = new String[] {"..#..", "##.##.......", "......#", "......."}[chance.nextInt(4)];
            int mosses = new int[] {6, 12, 40}[chance.nextInt(3)];
            for (int k = 0; k < 41; k++) {
                char sign = k % 7 == 6 ? '/' : signs.charAt(chance.nextInt(signs.length()));
                text.append(chance.nextInt(40) == 0 ? " " : "").append(k % 7 != 6 && chance.nextInt(mosses) == 0 ? 'm' : sign);
            }
            if (chance.nextInt(6) == 0) {
                text.setCharAt(chance.nextInt(text.length()), "x/. m#".charAt(chance.nextInt(6)));
            }
            if (chance.nextInt(8) == 0) {
                text.setLength(chance.nextInt(text.length()));
            }
            if (chance.nextInt(8) == 0) {
                text.append(" . /#m".charAt(chance.nextInt(6)));
            }
            return typed(text) && (chance.nextInt(12) == 0 || same("marsh"));
        }

        private boolean typed(StringBuilder text) {
            for (int at = 0; at < text.length();) {
                int n = Math.min(1 + chance.nextInt(8), text.length() - at);
                long w = chance.nextInt(30) == 0 ? chance.nextLong() : 0;
                for (int k = 0; k < n; k++) {
                    w = w << 8 | text.charAt(at + k);
                }
                at += n;
                if (chance.nextInt(60) == 0) {
                    long odd = w | 1L << chance.nextInt(64);
                    if (!same("type", odd, n) || !same("type", w, chance.nextBoolean() ? small(9) : wild())) {
                        return false;
                    }
                }
                if (!same("type", w, n)) {
                    return false;
                }
            }
            return true;
        }

        private int cell() {
            return chance.nextInt(60) == 0 ? wild() : chance.nextInt(36);
        }

        /** A cell on which one can walk, if there is one and chance will have it. */
        private int onFoot() {
            int at = chance.nextInt(36);
            for (int k = 0; k < 36 && chance.nextInt(80) > 0; k++) {
                if (model.walk((at + k) % 36)) {
                    return (at + k) % 36;
                }
            }
            return cell();
        }

        /** A sheet that holds a row, if there is one and chance will have it. */
        private int held() {
            int at = chance.nextInt(4);
            for (int k = 0; k < 4 && chance.nextInt(40) > 0; k++) {
                if (model.sheets[(at + k) % 4] != null) {
                    return (at + k) % 4;
                }
            }
            return small(4);
        }

        private int near(int cell) {
            int step = new int[] {0, 1, -1, 6, -6, 2, 7}[chance.nextInt(7)];
            return Math.floorMod((long) cell + step, 36);
        }

        private int seat() {
            int who = chance.nextInt(6);
            return who < model.people.size() && model.people.get(who).hours > 0 ? model.people.get(who).cell : cell();
        }

        private int hours() {
            return chance.nextInt(30) == 0 ? wild() : chance.nextInt(4) == 0 ? chance.nextInt(100) : chance.nextInt(16);
        }

        private int small(int bound) {
            return chance.nextInt(40) == 0 ? wild() : chance.nextInt(bound);
        }

        private int wild() {
            int[] few = {-1, -2, 2, 3, 4, 5, 6, 7, 16, 17, 35, 36, 99, 100, 127, 128, Integer.MIN_VALUE, Integer.MAX_VALUE};
            return chance.nextInt(5) == 0 ? chance.nextInt() : few[chance.nextInt(few.length)];
        }

        private boolean same(String call, long... args) {
            if (calls == CALLS) {
                return true;
            }
            calls++;
            if (told.length() > 0) {
                told.append("; ");
            }
            told.append(call).append(Arrays.toString(args));
            long want = answer(model, call, args);
            long got;
            try {
                got = answerReal(call, args);
            } catch (RuntimeException fault) {
                System.out.println("seed " + seed + ": " + call + Arrays.toString(args) + " threw " + fault);
                return false;
            }
            if (got != want) {
                System.out.println("seed " + seed + ": " + call + Arrays.toString(args) + " answered " + got
                        + ", due is " + want + " behind " + told);
            }
            came.add(call + " " + kindOf(call, want));
            return got == want;
        }

        private long answerReal(String call, long[] n) {
            switch (call) {
                case "type": return real.type(n[0], (int) n[1]);
                case "marsh": return real.marsh();
                case "drain": return real.drain((int) n[0], n[1] == 1);
                case "tuft": return real.tuft((int) n[0]);
                case "plant": return real.plant((int) n[0], (int) n[1]);
                case "person": return real.person((int) n[0]);
                case "sit": return real.sit((int) n[0], (int) n[1], (int) n[2]);
                case "told": return real.told((int) n[0], (int) n[1]);
                case "of": return real.of((int) n[0], (int) n[1]);
                case "frost": return real.frost((int) n[0]);
                case "count": return real.count((int) n[0]);
                case "moss": return real.moss((int) n[0]);
                case "pull": return real.pull((int) n[0], (int) n[1]);
                case "year": return real.year();
                case "way": return real.way((int) n[0], (int) n[1]);
                case "route": return real.route((int) n[0], (int) n[1], (int) n[2]);
                case "parts": return real.parts();
                case "least": return real.least((int) n[0], (int) n[1], (int) n[2], (int) n[3]);
                case "game": return real.game((int) n[0], (int) n[1], (int) n[2], (int) n[3], (int) n[4], (int) n[5], (int) n[6]);
                case "pilots": return real.pilots((int) n[0], (int) n[1]);
                case "image": return real.image();
                case "restore": return real.restore();
                case "sat": return real.sat((int) n[0], (int) n[1], (int) n[2], (int) n[3], (int) n[4]);
                case "film": return real.film((int) n[0], (int) n[1], (int) n[2]);
                case "sheet": return real.sheet((int) n[0], (int) n[1], (int) n[2]);
                case "drop": return real.drop((int) n[0]);
                case "item": return real.item((int) n[0], (int) n[1], (int) n[2], n[3]);
                case "copy": return real.copy((int) n[0], (int) n[1], (int) n[2], (int) n[3], (int) n[4]);
                default: throw new IllegalStateException(call);
            }
        }

        private static long answer(Model m, String call, long[] n) {
            switch (call) {
                case "type": return m.type(n[0], n[1]);
                case "marsh": return m.marsh();
                case "drain": return m.drain(n[0], n[1] == 1);
                case "tuft": return m.tuft(n[0]);
                case "plant": return m.plant(n[0], n[1]);
                case "person": return m.person(n[0]);
                case "sit": return m.sit(n[0], n[1], n[2]);
                case "told": return m.told(n[0], n[1]);
                case "of": return m.of(n[0], n[1]);
                case "frost": return m.frost(n[0]);
                case "count": return m.count(n[0]);
                case "moss": return m.moss(n[0]);
                case "pull": return m.pull(n[0], n[1]);
                case "year": return m.yearCall();
                case "way": return m.way(n[0], n[1]);
                case "route": return m.route(n[0], n[1], n[2]);
                case "parts": return m.parts();
                case "least": return m.least(n[0], n[1], n[2], n[3]);
                case "game": return m.game(n);
                case "pilots": return m.pilots(n[0], n[1]);
                case "image": return m.image();
                case "restore": return m.restore();
                case "sat": return m.sat(n[0], n[1], n[2], n[3], n[4]);
                case "film": return m.film(n[0], n[1], n[2]);
                case "sheet": return m.sheet(n[0], n[1], n[2]);
                case "drop": return m.drop(n[0]);
                case "item": return m.item(n[0], n[1], n[2], n[3]);
                case "copy": return m.copy(n[0], n[1], n[2], n[3], n[4]);
                default: throw new IllegalStateException(call);
            }
        }
    }

    private static final class Person {
        int kind;
        int cell;
        int hours;
        int aches;

        Person(int kind) {
            this.kind = kind;
        }

        Person twin() {
            Person other = new Person(kind);
            other.cell = cell;
            other.hours = hours;
            other.aches = aches;
            return other;
        }

        int counts() {
            return kind == 0 ? hours : kind == 2 ? hours / 2 : 2 * hours;
        }
    }

    /** What the document says, put plainly; texts, lists and copies wherever they are handy. */
    private static final class Model {
        private String tape = "";
        private boolean[] firm = new boolean[36];
        private List<Integer> tufts = new ArrayList<>();
        private List<Person> people = new ArrayList<>();
        private int frost;
        private int years;
        private Model kept;
        private final Object[] sheets = new Object[4];

        private Model twin() {
            Model other = new Model();
            other.firm = firm.clone();
            other.tufts = new ArrayList<>(tufts);
            other.people = new ArrayList<>();
            for (Person person : people) {
                other.people.add(person.twin());
            }
            other.frost = frost;
            other.years = years;
            return other;
        }

        private static boolean in(long n, long low, long high) {
            return low <= n && n <= high;
        }

        private static boolean cell(long n) {
            return in(n, 0, 35);
        }

        private boolean who(long n) {
            return in(n, 0, people.size() - 1);
        }

        private boolean moss_(long n) {
            return in(n, 0, tufts.size() - 1);
        }

        long type(long w, long n) {
            if (!in(n, 1, 8)) {
                return -1;
            }
            StringBuilder text = new StringBuilder();
            for (long k = n - 1; k >= 0; k--) {
                int sign = (int) (w >> 8 * k) & 255;
                if (!in(sign, 32, 126)) {
                    return -1;
                }
                text.append((char) sign);
            }
            if (tape.length() + n > 60) {
                return -3;
            }
            tape += text;
            return tape.length();
        }

        long marsh() {
            String text = tape;
            tape = "";
            boolean[] newFirm = new boolean[36];
            List<Integer> newTufts = new ArrayList<>();
            int at = 0;
            for (int row = 0; row < 6; row++) {
                for (int column = 0; column < 7; column++) {
                    while (at < text.length() && text.charAt(at) == ' ') {
                        at++;
                    }
                    if (row == 5 && column == 6) {
                        break;
                    }
                    String may = column == 6 ? "/" : newTufts.size() < 6 ? ".#m" : ".#";
                    if (at == text.length() || may.indexOf(text.charAt(at)) < 0) {
                        return -20 - at;
                    }
                    if (text.charAt(at) == '#') {
                        newFirm[row * 6 + column] = true;
                    }
                    if (text.charAt(at) == 'm') {
                        newTufts.add(row * 6 + column);
                    }
                    at++;
                }
            }
            if (at < text.length()) {
                return -20 - at;
            }
            firm = newFirm;
            tufts = newTufts;
            for (Person person : people) {
                person.hours = 0;
            }
            return tufts.size();
        }

        long drain(long cell, boolean dry) {
            if (!cell(cell)) {
                return -1;
            }
            boolean was = firm[(int) cell];
            firm[(int) cell] = dry;
            return was ? 1 : 0;
        }

        long tuft(long cell) {
            if (!cell(cell)) {
                return -1;
            }
            if (tufts.size() == 6) {
                return -3;
            }
            tufts.add((int) cell);
            return tufts.size() - 1;
        }

        long plant(long tuft, long cell) {
            return !moss_(tuft) || !cell(cell) ? -1 : tufts.set((int) tuft, (int) cell);
        }

        long person(long kind) {
            if (!in(kind, 0, 3)) {
                return -1;
            }
            if (people.size() == 6) {
                return -3;
            }
            people.add(new Person((int) kind));
            return people.size() - 1;
        }

        long sit(long who, long cell, long hours) {
            if (!who(who) || !cell(cell) || !in(hours, 0, 99)) {
                return -1;
            }
            Person person = people.get((int) who);
            int was = person.hours;
            person.cell = (int) cell;
            person.hours = (int) hours;
            return was;
        }

        long told(long who, long what) {
            if (!who(who) || !in(what, 0, 3)) {
                return -1;
            }
            Person person = people.get((int) who);
            int where = person.hours == 0 ? -4 : person.cell;
            return new int[] {person.kind, where, person.hours, person.aches}[(int) what];
        }

        private boolean walk(int cell) {
            return frost > 0 || firm[cell] || tufts.contains(cell);
        }

        private boolean seat(int cell) {
            return seats().contains(cell);
        }

        private int counts(int cell) {
            int sum = 0;
            for (Person person : people) {
                sum += person.hours > 0 && person.cell == cell ? person.counts() : 0;
            }
            return sum;
        }

        long of(long cell, long what) {
            if (!cell(cell) || !in(what, 0, 3)) {
                return -1;
            }
            int c = (int) cell;
            int mossy = (int) tufts.stream().filter(t -> t == c).count();
            return new int[] {firm[c] ? 1 : 0, mossy, walk(c) ? 1 : 0, counts(c)}[(int) what];
        }

        long frost(long newFrost) {
            if (!in(newFrost, 0, 9)) {
                return -1;
            }
            int was = frost;
            frost = (int) newFrost;
            return was;
        }

        long count(long what) {
            if (!in(what, 0, 5)) {
                return -1;
            }
            int dry = 0;
            for (boolean f : firm) {
                dry += f ? 1 : 0;
            }
            int sore = 0;
            for (int k = 0; k < people.size(); k++) {
                sore += people.get(k).aches > 0 ? 1 << k : 0;
            }
            return new int[] {tufts.size(), people.size(), dry, years, frost, sore}[(int) what];
        }

        long moss(long tuft) {
            return moss_(tuft) ? tufts.get((int) tuft) : -1;
        }

        private static int apart(int a, int b) {
            return Math.abs(a / 6 - b / 6) + Math.abs(a % 6 - b % 6);
        }

        long pull(long cell, long tuft) {
            if (!cell(cell) || !moss_(tuft)) {
                return -1001;
            }
            return !seat((int) cell) ? -1002 : counts((int) cell) - 3 * apart((int) cell, tufts.get((int) tuft));
        }

        private List<Integer> seats() {
            List<Integer> found = new ArrayList<>();
            for (Person person : people) {
                if (person.hours > 0 && !found.contains(person.cell)) {
                    found.add(person.cell);
                }
            }
            return found;
        }

        private int goal(int from, List<Integer> seats) {
            int found = from;
            for (int cell : seats) {
                int here = counts(cell) - 3 * apart(cell, from);
                boolean alone = here > 0;
                for (int other : seats) {
                    alone &= other == cell || counts(other) - 3 * apart(other, from) < here;
                }
                found = alone ? cell : found;
            }
            return found;
        }

        private int year() {
            int gone = 0;
            List<Integer> then = new ArrayList<>();
            List<Integer> seats = seats();
            for (int from : tufts) {
                int to = frost > 0 ? from : goal(from, seats);
                int rows = Integer.signum(to / 6 - from / 6);
                int columns = Integer.signum(to % 6 - from % 6);
                int next = from + (rows != 0 ? 6 * rows : columns);
                gone += next == from ? 0 : 1;
                then.add(next);
            }
            tufts = then;
            boolean[] wetAtFirst = new boolean[36];
            for (int cell = 0; cell < 36; cell++) {
                wetAtFirst[cell] = !firm[cell];
            }
            for (Person person : people) {
                if (person.hours > 0) {
                    person.aches += wetAtFirst[person.cell] ? 1 : 0;
                    firm[person.cell] |= person.kind == 3;
                }
                person.hours = 0;
            }
            frost = Math.max(0, frost - 1);
            years++;
            return gone;
        }

        long yearCall() {
            return year();
        }

        private static List<Integer> sides(int cell) {
            List<Integer> found = new ArrayList<>();
            for (int other = 0; other < 36; other++) {
                if (apart(cell, other) == 1) {
                    found.add(other);
                }
            }
            return found;
        }

        private static final List<List<Integer>> SIDES = new ArrayList<>();

        static {
            for (int cell = 0; cell < 36; cell++) {
                SIDES.add(sides(cell));
            }
        }

        private int steps(int a, int b) {
            if (!walk(a) || !walk(b)) {
                return -4;
            }
            int[] far = new int[36];
            Arrays.fill(far, -4);
            far[a] = 0;
            List<Integer> queue = new ArrayList<>(List.of(a));
            for (int k = 0; k < queue.size() && far[b] < 0; k++) {
                for (int next : SIDES.get(queue.get(k))) {
                    if (walk(next) && far[next] < 0) {
                        far[next] = far[queue.get(k)] + 1;
                        queue.add(next);
                    }
                }
            }
            return far[b];
        }

        long way(long a, long b) {
            return !cell(a) || !cell(b) ? -1 : steps((int) a, (int) b);
        }

        private int costOf(List<Integer> row) {
            int cost = 0;
            for (int k = 1; k < row.size(); k++) {
                cost += frost > 0 || firm[row.get(k)] ? 1 : 2;
            }
            return cost;
        }

        private boolean better(List<Integer> row, List<Integer> other) {
            if (other == null || costOf(row) != costOf(other)) {
                return other == null || costOf(row) < costOf(other);
            }
            for (int k = 0; k < Math.min(row.size(), other.size()); k++) {
                if (!row.get(k).equals(other.get(k))) {
                    return row.get(k) < other.get(k);
                }
            }
            return false;
        }

        long route(long a, long b, long i) {
            if (!cell(a) || !cell(b) || !in(i, -1, 34)) {
                return -1;
            }
            List<List<Integer>> best = new ArrayList<>();
            for (int cell = 0; cell < 36; cell++) {
                best.add(cell == a && walk(cell) ? List.of(cell) : null);
            }
            for (boolean again = true; again;) {
                again = false;
                for (int cell = 0; cell < 36; cell++) {
                    for (int next : best.get(cell) == null ? List.<Integer>of() : SIDES.get(cell)) {
                        List<Integer> longer = new ArrayList<>(best.get(cell));
                        longer.add(next);
                        if (walk(next) && better(longer, best.get(next))) {
                            best.set(next, longer);
                            again = true;
                        }
                    }
                }
            }
            List<Integer> row = best.get((int) b);
            if (row == null || i >= row.size() - 1) {
                return -4;
            }
            return i < 0 ? costOf(row) : row.get((int) i + 1);
        }

        long parts() {
            int[] group = new int[36];
            for (int cell = 0; cell < 36; cell++) {
                group[cell] = cell;
            }
            for (int turn = 0; turn < 36; turn++) {
                for (int cell = 0; cell < 36; cell++) {
                    for (int next : SIDES.get(cell)) {
                        if (walk(cell) && walk(next)) {
                            group[cell] = Math.min(group[cell], group[next]);
                        }
                    }
                }
            }
            int found = 0;
            for (int cell = 0; cell < 36; cell++) {
                found += walk(cell) && group[cell] == cell ? 1 : 0;
            }
            return found;
        }

        private Model behind(long who, int cell, int hours) {
            Model then = twin();
            then.sit(who, cell, hours);
            then.year();
            return then;
        }

        long least(long who, long a, long b, long what) {
            if (!who(who) || !cell(a) || !cell(b) || !in(what, 0, 1)) {
                return -1;
            }
            for (int hours = 0; hours < 100; hours++) {
                for (int cell = 0; cell < (hours == 0 ? 1 : 36); cell++) {
                    if (behind(who, cell, hours).steps((int) a, (int) b) >= 0) {
                        return what == 0 ? hours : cell;
                    }
                }
            }
            return -4;
        }

        long game(long[] n) {
            if (!who(n[0]) || !who(n[1]) || n[0] == n[1] || !in(n[2], 1, 99) || !in(n[3], 1, 99)
                    || !cell(n[4]) || !cell(n[5]) || !in(n[6], 0, 1)) {
                return -1;
            }
            int[][] far = new int[36][36];
            for (int one = 0; one < 36; one++) {
                for (int other = 0; other < 36; other++) {
                    Model then = twin();
                    then.sit(n[1], other, n[3]);
                    int steps = then.behind(n[0], one, (int) n[2]).steps((int) n[4], (int) n[5]);
                    far[one][other] = steps < 0 ? 99 : steps;
                }
            }
            int rests = 0;
            int first = -4;
            for (int one = 0; one < 36; one++) {
                for (int other = 0; other < 36; other++) {
                    boolean rest = true;
                    for (int k = 0; k < 36; k++) {
                        rest &= far[k][other] >= far[one][other] && far[one][k] <= far[one][other];
                    }
                    first = rest && rests == 0 ? 100 * one + other : first;
                    rests += rest ? 1 : 0;
                }
            }
            return n[6] == 0 ? rests : first;
        }

        long pilots(long a, long b) {
            if (!cell(a) || !cell(b)) {
                return -1;
            }
            if (steps((int) a, (int) b) < 0) {
                return -4;
            }
            int set = 0;
            for (int k = 0; k < tufts.size(); k++) {
                Model less = twin();
                less.tufts.remove(k);
                set += less.steps((int) a, (int) b) < 0 ? 1 << k : 0;
            }
            return set;
        }

        long image() {
            kept = twin();
            return 1;
        }

        long restore() {
            if (kept == null) {
                return -4;
            }
            Model then = kept.twin();
            firm = then.firm;
            tufts = then.tufts;
            people = then.people;
            frost = then.frost;
            years = then.years;
            return 1;
        }

        int laneOf(int sheet) {
            Object row = in(sheet, 0, 3) ? sheets[sheet] : null;
            return row instanceof long[] ? 2 : row instanceof int[] ? 1 : 0;
        }

        private static int length(Object row) {
            return java.lang.reflect.Array.getLength(row);
        }

        private static long get(Object row, int i) {
            return java.lang.reflect.Array.getLong(row, i);
        }

        private static void set(Object row, int i, long v) {
            if (row instanceof byte[]) {
                ((byte[]) row)[i] = (byte) v;
            } else if (row instanceof int[]) {
                ((int[]) row)[i] = (int) v;
            } else {
                ((long[]) row)[i] = v;
            }
        }

        private long refused(long sheet, long lane, long i, long n) {
            Object row = sheets[(int) sheet];
            if (row == null) {
                return -11;
            }
            if (laneOf((int) sheet) != lane) {
                return -12;
            }
            return i < 0 || n < 0 || i + n > length(row) ? -13 : 0;
        }

        long sat(long who, long hours, long sheet, long lane, long i) {
            if (!who(who) || !in(hours, 1, 99) || !in(sheet, 0, 3) || !in(lane, 0, 2)) {
                return -1;
            }
            if (refused(sheet, lane, i, tufts.size()) != 0) {
                return refused(sheet, lane, i, tufts.size());
            }
            long set = 0;
            for (int cell = 0; cell < 36; cell++) {
                Model then = behind(who, cell, (int) hours);
                boolean so = true;
                for (int k = 0; k < tufts.size(); k++) {
                    so &= get(sheets[(int) sheet], (int) i + k) == then.tufts.get(k);
                }
                set += so ? 1L << cell : 0;
            }
            return set;
        }

        long film(long sheet, long lane, long i) {
            if (!in(sheet, 0, 3) || !in(lane, 0, 2)) {
                return -1;
            }
            if (refused(sheet, lane, i, tufts.size()) != 0) {
                return refused(sheet, lane, i, tufts.size());
            }
            for (int k = 0; k < tufts.size(); k++) {
                set(sheets[(int) sheet], (int) i + k, tufts.get(k));
            }
            return tufts.size();
        }

        long sheet(long sheet, long lane, long n) {
            if (!in(sheet, 0, 3) || !in(lane, 0, 2) || n > 16) {
                return -1;
            }
            if (n < 0) {
                return -14;
            }
            int size = (int) n;
            sheets[(int) sheet] = lane == 0 ? new byte[size] : lane == 1 ? (Object) new int[size] : new long[size];
            return n;
        }

        long drop(long sheet) {
            if (!in(sheet, 0, 3)) {
                return -1;
            }
            if (sheets[(int) sheet] == null) {
                return -11;
            }
            int had = length(sheets[(int) sheet]);
            sheets[(int) sheet] = null;
            return had;
        }

        long item(long sheet, long lane, long i, long v) {
            if (!in(sheet, 0, 3) || !in(lane, 0, 2)) {
                return -1;
            }
            if (refused(sheet, lane, i, 1) != 0) {
                return refused(sheet, lane, i, 1);
            }
            set(sheets[(int) sheet], (int) i, v);
            return 1;
        }

        long copy(long from, long i, long to, long j, long n) {
            if (!in(from, 0, 3) || !in(to, 0, 3)) {
                return -1;
            }
            if (sheets[(int) from] == null || sheets[(int) to] == null) {
                return -11;
            }
            if (laneOf((int) from) != laneOf((int) to)) {
                return -12;
            }
            if (refused(from, laneOf((int) from), i, n) != 0 || refused(to, laneOf((int) to), j, n) != 0) {
                return -13;
            }
            long[] taken = new long[(int) n];
            for (int k = 0; k < n; k++) {
                taken[k] = get(sheets[(int) from], (int) i + k);
            }
            for (int k = 0; k < n; k++) {
                set(sheets[(int) to], (int) j + k, taken[k]);
            }
            return n;
        }
    }
}
