import java.nio.charset.StandardCharsets;
import java.util.ArrayDeque;
import java.util.ArrayList;
import java.util.Arrays;
import java.util.HashMap;
import java.util.HashSet;
import java.util.List;
import java.util.Map;
import java.util.Random;
import java.util.Set;

/** Random runs of calls, each answer against a second, slow telling of the document. */
public final class ModelTest {
    private static final int RUNS = 2500;

    /** A FAULT on its way out of the model's readers. */
    private static final class Fault extends Exception {
        private static final long serialVersionUID = 1L;
        final int kind;
        final int place;

        Fault(int kind, int place) {
            this.kind = kind;
            this.place = place;
        }
    }

    /** All TOKENS of a text, the last being its end or where it is too long. */
    private static final class Tokens {
        final List<String> texts = new ArrayList<>();
        final List<Integer> places = new ArrayList<>();
        int next = 0;

        Tokens(String text, int most) {
            int i = 0;
            while (i < text.length() && i < most) {
                char c = text.charAt(i);
                if (c == ' ' || c == '\n') {
                    i++;
                    continue;
                }
                int j = i + 1;
                if (Character.toString(c).matches("[a-z0-9]")) {
                    while (j < text.length() && text.substring(j, j + 1).matches("[a-z0-9]")) {
                        j++;
                    }
                }
                texts.add(text.substring(i, j));
                places.add(i);
                i = j;
            }
            texts.add(text.length() > most ? "too long" : "");
            places.add(Math.min(text.length(), most));
        }

        String peek() {
            return texts.get(next);
        }

        int place() {
            return places.get(next);
        }

        boolean ended() {
            return peek().isEmpty();
        }

        boolean isNumber() {
            return peek().matches("[0-9]{1,3}");
        }

        boolean isName() {
            return peek().matches("[a-z]{1,7}") && !Model.KEYS.contains(peek());
        }

        Fault fault(int kind) {
            return new Fault(kind, place());
        }

        void must(boolean so, int kind) throws Fault {
            if (!so) {
                throw fault(kind);
            }
        }

        void pass(String text) throws Fault {
            must(peek().equals(text), 1);
            next++;
        }

        int number(int least, int most) throws Fault {
            must(isNumber(), 1);
            int n = Integer.parseInt(peek());
            must(n >= least && n <= most, 2);
            next++;
            return n;
        }

        int name(Map<String, int[]> names, int sort) throws Fault {
            must(isName(), 1);
            int[] told = names.get(peek());
            must(told != null && told[0] == sort, 3);
            next++;
            return told[1];
        }
    }

    private static final class Lake {
        int cells = 4;
        int shown = 3;
        int keeps = 20;
        int nights = 0;
        int from = 0;
        int length = 0;
        int lines = 0;
        final Map<String, int[]> names = new HashMap<>();
        final int[] counts = new int[4];
        final List<Integer> cueOf = new ArrayList<>();
        final List<List<int[]>> steps = new ArrayList<>();
        final List<Integer> piers = new ArrayList<>();

        static Lake read(String text) throws Fault {
            Lake lake = new Lake();
            Tokens t = new Tokens(text, 900);
            Set<String> once = new HashSet<>();
            while (!t.ended()) {
                lake.readLine(t, once);
                t.pass(";");
                lake.lines++;
            }
            return lake;
        }

        private void readLine(Tokens t, Set<String> once) throws Fault {
            String word = t.peek();
            int sort = List.of("cue", "lesson", "teacher", "boat").indexOf(word);
            if (sort >= 0) {
                t.must(counts[sort] < new int[] {6, 8, 4, 6}[sort], 4);
                t.next++;
                t.must(t.isName(), 1);
                t.must(!names.containsKey(t.peek()), 3);
                names.put(t.peek(), new int[] {sort, counts[sort]++});
                t.next++;
                if (sort == 1) {
                    readLesson(t);
                } else if (sort == 3) {
                    piers.add(t.number(0, cells - 1));
                }
                return;
            }
            t.must(List.of("cells", "shown", "keeps", "nights", "ice").contains(word), 1);
            t.must(once.add(word), 3);
            t.must(!word.equals("cells") || counts[1] == 0 && counts[3] == 0, 3);
            t.next++;
            if (word.equals("cells")) {
                cells = t.number(1, 8);
            } else if (word.equals("shown")) {
                shown = t.number(1, 9);
            } else if (word.equals("keeps")) {
                keeps = t.number(1, 99);
            } else if (word.equals("nights")) {
                nights = t.number(1, 30);
            } else {
                from = t.number(0, 99);
                length = t.number(1, Math.min(50, 100 - from));
            }
        }

        private void readLesson(Tokens t) throws Fault {
            cueOf.add(t.name(names, 0));
            List<int[]> row = new ArrayList<>();
            while (t.isNumber()) {
                t.must(row.size() < 8, 4);
                int cell = t.number(0, cells - 1);
                row.add(new int[] {cell, t.number(1, 3)});
            }
            steps.add(row);
        }

        boolean ice(int day) {
            return length > 0 && day % 100 >= from && day % 100 < from + length;
        }

        /** HEIGHTS behind each STEP of a RING, the first being flat. */
        List<int[]> ripples(int cue, int set) {
            List<int[]> all = new ArrayList<>();
            int[] h = new int[cells];
            all.add(h.clone());
            for (int i = 0; i < 8; i++) {
                boolean any = false;
                for (int l = 0; l < counts[1]; l++) {
                    if ((set >> l & 1) == 1 && cueOf.get(l) == cue && i < steps.get(l).size()) {
                        int[] s = steps.get(l).get(i);
                        h[s[0]] = (h[s[0]] + s[1]) % 4;
                        any = true;
                    }
                }
                if (any) {
                    all.add(h.clone());
                }
            }
            return all;
        }

        int[] behind(int cue, int set) {
            List<int[]> all = ripples(cue, set);
            return all.get(all.size() - 1);
        }

        int waves(int cue, int set) {
            int bits = 0;
            for (int[] h : ripples(cue, set)) {
                for (int c = 0; c < cells; c++) {
                    if (h[c] >= 2) {
                        bits |= 1 << c;
                    }
                }
            }
            return bits;
        }
    }

    private static final class Life implements Cloneable {
        int day = 0;
        int rings = 0;
        int showings = 0;
        int[] heights = new int[8];
        /** Of each LESSON: times, known, teachers, done, who shows it, forgotten, kept. */
        int[][] lessons = new int[8][];
        /** Of each BOAT: cell, wet, how often, voyages. */
        int[][] boats = new int[6][];

        Life(Lake lake) {
            for (int l = 0; l < 8; l++) {
                lessons[l] = new int[] {0, 0, 0, 0, -1, 0, 0};
            }
            for (int b = 0; b < 6; b++) {
                boats[b] = new int[] {b < lake.piers.size() ? lake.piers.get(b) : 0, 0, 0, 0};
            }
        }

        Life copy() {
            try {
                Life c = (Life) clone();
                c.heights = heights.clone();
                c.lessons = Arrays.stream(lessons).map(int[]::clone).toArray(int[][]::new);
                c.boats = Arrays.stream(boats).map(int[]::clone).toArray(int[][]::new);
                return c;
            } catch (CloneNotSupportedException e) {
                throw new IllegalStateException(e);
            }
        }

        int known() {
            int bits = 0;
            for (int l = 0; l < 8; l++) {
                bits |= lessons[l][1] << l;
            }
            return bits;
        }

        boolean confused(Lake lake, int l) {
            boolean so = false;
            for (int m = 0; m < lake.counts[1]; m++) {
                so |= m != l && lake.cueOf.get(m).equals(lake.cueOf.get(l)) && lessons[m][4] >= 0;
            }
            return so && lessons[l][4] >= 0;
        }

        int show(Lake lake, int t, int l) {
            if (lake.ice(day)) {
                return 1;
            }
            if (lessons[l][4] >= 0) {
                return 2;
            }
            if (lessons[l][1] == 1) {
                return 3;
            }
            lessons[l][4] = t;
            showings++;
            return 0;
        }

        int ring(Lake lake, int c) {
            if (lake.ice(day)) {
                return 1;
            }
            rings++;
            int known = known();
            heights = Arrays.copyOf(lake.behind(c, known), 8);
            for (int[] b : Arrays.copyOf(boats, lake.counts[3])) {
                if ((lake.waves(c, known) >> b[0] & 1) == 1) {
                    b[1] = 1;
                    b[2]++;
                }
            }
            for (int l = 0; l < lake.counts[1]; l++) {
                if (lake.cueOf.get(l) == c && lessons[l][1] == 1) {
                    lessons[l][3]++;
                    lessons[l][6] = day;
                }
            }
            return 0;
        }

        int sail(Lake lake, int b, int c) {
            if (boats[b][0] == c) {
                return 1;
            }
            if (lake.ice(day)) {
                return 2;
            }
            if (heights[c] == 3) {
                return 3;
            }
            boats[b][0] = c;
            boats[b][3]++;
            return 0;
        }

        void endDay(Lake lake) {
            boolean[] counts = new boolean[8];
            for (int l = 0; l < lake.counts[1]; l++) {
                counts[l] = lessons[l][4] >= 0 && !confused(lake, l);
            }
            for (int l = 0; l < lake.counts[1]; l++) {
                int[] s = lessons[l];
                if (counts[l]) {
                    s[0]++;
                    s[2] |= 1 << s[4];
                    if (s[0] == lake.shown) {
                        s[1] = 1;
                        s[6] = day;
                    }
                }
                s[4] = -1;
                if (s[1] == 1 && lake.nights > 0 && day % lake.nights == 0) {
                    s[6] = day;
                }
                if (s[1] == 1 && s[6] + lake.keeps <= day) {
                    s[0] = 0;
                    s[1] = 0;
                    s[2] = 0;
                    s[5]++;
                }
                if (s[1] == 0 && lake.ice(day + 1) && !lake.ice(day)) {
                    s[0] = 0;
                    s[2] = 0;
                }
            }
            heights = new int[8];
            day++;
        }
    }

    /** Of which LESSONS something may be said. */
    private interface Cond {
        boolean of(Lake lake, Life life, int l);
    }

    private static final class Model {
        static final Set<String> KEYS = Set.of("cells", "shown", "keeps", "nights", "ice", "cue", "lesson", "teacher",
            "boat", "shows", "rings", "sails", "day", "or", "and", "not", "known", "today", "at", "by", "times", "steps",
            "done", "number");
        String tape = "";
        Lake lake = new Lake();
        Life life = new Life(lake);
        Cond cond = null;
        int ones = 0;
        int fault = 0;
        final ArrayDeque<Life> past = new ArrayDeque<>();
        final Object[][] images = new Object[2][];
        int surely = -1;
        int never = -1;
        int ask = -1;
        int taught = -1;
        int[] told = {-1, -1, -1, -1};
        int seed = 0;

        String take() {
            String text = tape;
            tape = "";
            return text;
        }

        void push() {
            past.push(life.copy());
            if (past.size() > 8) {
                past.removeLast();
            }
        }

        boolean has(int sort, int n) {
            return n >= 0 && n < lake.counts[sort];
        }

        boolean sets(int set, int n) {
            return set >= 0 && set < 1 << n;
        }

        int lake() {
            try {
                lake = Lake.read(take());
                life = new Life(lake);
                past.clear();
                cond = null;
                fault = 0;
                return lake.lines;
            } catch (Fault f) {
                fault = f.kind;
                return -1 - f.place;
            }
        }

        int lesson(int l, int what) {
            if (!has(1, l) || what < 0 || what > 7) {
                return -99;
            }
            int[] s = life.lessons[l];
            return new int[] {lake.cueOf.get(l), lake.steps.get(l).size(), s[0], s[1], s[2], s[3], s[4], s[5]}[what];
        }

        int now(int what) {
            int today = 0;
            int confused = 0;
            int wet = 0;
            for (int l = 0; l < lake.counts[1]; l++) {
                today |= (life.lessons[l][4] >= 0 ? 1 : 0) << l;
                confused |= (life.confused(lake, l) ? 1 : 0) << l;
            }
            for (int b = 0; b < 6; b++) {
                wet |= life.boats[b][1] << b;
            }
            int[] all = {life.day, lake.ice(life.day) ? 1 : 0, life.known(), today, confused, life.rings, wet, life.showings};
            return what < 0 || what > 7 ? -1 : all[what];
        }

        int act(Life before, int answer) {
            if (answer == 0) {
                Life after = life;
                life = before;
                push();
                life = after;
            }
            return answer;
        }

        int days(int n, boolean drawn) {
            if (n < 1 || n > 60 || drawn && lake.counts[1] == 0) {
                return -1;
            }
            Life before = life.copy();
            int went = 0;
            while (went < n && life.day < 600) {
                if (drawn) {
                    drawActs();
                }
                life.endDay(lake);
                went++;
            }
            act(before, went > 0 ? 0 : -1);
            return went;
        }

        int draw(int n) {
            seed = seed * 1103515245 + 12345;
            return (seed >>> 8) % n;
        }

        void drawActs() {
            for (int t = 0; t < lake.counts[2]; t++) {
                if (draw(2) == 0) {
                    life.show(lake, t, draw(lake.counts[1]));
                }
            }
            if (draw(3) == 0) {
                life.ring(lake, draw(lake.counts[0]));
            }
        }

        int odds(int l, int n, int x) {
            if (!has(1, l) || n < 1 || n > 30) {
                return -1;
            }
            Life before = life;
            int known = 0;
            for (int i = 0; i < n; i++) {
                life = before.copy();
                seed = x + i;
                for (int d = 0; d < 30 && life.day < 600; d++) {
                    drawActs();
                    life.endDay(lake);
                }
                known += life.lessons[l][1];
            }
            life = before;
            return known;
        }

        int does(int c, int set) {
            int sum = 0;
            int by = 1;
            for (int h : lake.behind(c, set)) {
                sum += by * h;
                by *= 4;
            }
            return sum;
        }

        int learnt() {
            byte[] bytes = take().getBytes(StandardCharsets.ISO_8859_1);
            int width = lake.cells + 1;
            if (bytes.length == 0 || bytes.length % width != 0) {
                return -1;
            }
            for (int i = 0; i < bytes.length; i++) {
                int b = bytes[i] & 255;
                if (i % width == 0 ? b >= lake.counts[0] : b > 3) {
                    return -1;
                }
            }
            List<Integer> sets = new ArrayList<>();
            for (int set = 0; set < 1 << lake.counts[1]; set++) {
                boolean so = true;
                for (int i = 0; i < bytes.length; i += width) {
                    int[] h = lake.behind(bytes[i], set);
                    for (int c = 0; c < lake.cells; c++) {
                        so &= h[c] == bytes[i + 1 + c];
                    }
                }
                if (so) {
                    sets.add(set);
                }
            }
            if (!sets.isEmpty()) {
                judge(sets);
            }
            return sets.size();
        }

        private void judge(List<Integer> sets) {
            surely = 0;
            never = 0;
            for (int l = 0; l < lake.counts[1]; l++) {
                int in = 0;
                for (int set : sets) {
                    in += set >> l & 1;
                }
                surely |= (in == sets.size() ? 1 : 0) << l;
                never |= (in == 0 ? 1 : 0) << l;
            }
            int most = 0;
            for (int c = 0; c < lake.counts[0]; c++) {
                Set<Integer> unlike = new HashSet<>();
                for (int set : sets) {
                    unlike.add(does(c, set));
                }
                if (unlike.size() > most) {
                    most = unlike.size();
                    ask = c;
                }
            }
        }

        int need(int set) {
            int sum = 0;
            for (int l = 0; l < lake.counts[1]; l++) {
                sum += (set >> l & 1) == 1 && life.lessons[l][1] == 0 ? lake.shown - life.lessons[l][0] : 0;
            }
            return sum;
        }

        int teach(int c) {
            String text = take();
            if (!has(0, c) || text.length() != lake.cells || text.chars().anyMatch(h -> h > 3)) {
                return -1;
            }
            int best = Integer.MAX_VALUE;
            for (int set = 0; set < 1 << lake.counts[1]; set++) {
                boolean so = (set & life.known()) == 0;
                for (int l = 0; l < lake.counts[1]; l++) {
                    so &= (set >> l & 1) == 0 || lake.cueOf.get(l) == c;
                }
                int[] h = lake.behind(c, set | life.known());
                for (int i = 0; i < lake.cells; i++) {
                    so &= h[i] == text.charAt(i);
                }
                if (so && need(set) < best) {
                    best = need(set);
                    taught = set;
                }
            }
            return best == Integer.MAX_VALUE ? -1 : best;
        }

        int kth(List<Integer> all, int k) {
            return k == -1 ? all.size() : k >= 0 && k < all.size() ? all.get(k) : -1;
        }

        int pairs(int k, boolean still) {
            List<Integer> all = new ArrayList<>();
            for (int l = 0; l < lake.counts[1]; l++) {
                for (int m = l + 1; m < lake.counts[1]; m++) {
                    int c = lake.cueOf.get(l);
                    boolean flat = does(c, 1 << l | 1 << m) == 0 && does(c, 1 << l) != 0 && does(c, 1 << m) != 0;
                    if (c == lake.cueOf.get(m) && (!still || flat)) {
                        all.add(10 * l + m);
                    }
                }
            }
            return kth(all, k);
        }

        /** Shows of each CUE one LESSON a DAY, till none needs more. */
        int lasts(int set) {
            if (!sets(set, lake.counts[1])) {
                return -1;
            }
            int[] left = new int[8];
            for (int l = 0; l < 8; l++) {
                left[l] = need(set & 1 << l);
            }
            for (int day = 0; ; day++) {
                Set<Integer> shown = new HashSet<>();
                for (int l = 0; l < lake.counts[1]; l++) {
                    if (left[l] > 0 && shown.add(lake.cueOf.get(l))) {
                        left[l]--;
                    }
                }
                if (shown.isEmpty()) {
                    return day;
                }
            }
        }

        int forgets(int l) {
            if (!has(1, l) || life.lessons[l][1] == 0) {
                return -1;
            }
            Life later = life.copy();
            for (int i = 1; i <= 200 && later.day < 600; i++) {
                later.endDay(lake);
                if (later.lessons[l][5] > life.lessons[l][5]) {
                    return i;
                }
            }
            return -1;
        }

        int pupils(int t) {
            if (!has(2, t)) {
                return -1;
            }
            int bits = 0;
            for (int l = 0; l < 8; l++) {
                bits |= (life.lessons[l][2] == 1 << t ? 1 : 0) << l;
            }
            return bits;
        }

        int ice() {
            if (lake.length == 0) {
                return -1;
            }
            int till = 0;
            while (!lake.ice(life.day + till)) {
                till++;
            }
            return till;
        }

        int dry(int cell) {
            if (cell < 0 || cell >= lake.cells) {
                return -1;
            }
            int bits = 0;
            for (int c = 0; c < lake.counts[0]; c++) {
                bits |= (1 - (lake.waves(c, life.known()) >> cell & 1)) << c;
            }
            return bits;
        }

        int havens(int cues) {
            if (!sets(cues, lake.counts[0])) {
                return -1;
            }
            int bits = 0;
            for (int cell = 0; cell < lake.cells; cell++) {
                bits |= ((dry(cell) & cues) == cues ? 1 : 0) << cell;
            }
            return bits;
        }

        int diary(int lives) {
            if (lives != 0 && lives != 1) {
                return -1000;
            }
            List<int[]> lines = new ArrayList<>();
            try {
                Tokens t = new Tokens(take(), 400);
                while (!t.ended()) {
                    lines.add(readLine(t, lines.size()));
                    t.pass(";");
                }
            } catch (Fault f) {
                fault = f.kind;
                return -2 - f.place;
            }
            fault = 0;
            Life before = life.copy();
            int why = 0;
            int line = 0;
            for (; line < lines.size(); line++) {
                why = live(lines.get(line));
                if (why != 0) {
                    break;
                }
            }
            told = new int[] {why, line, life.day, life.known()};
            if (lives == 0) {
                life = before;
            } else {
                act(before, line > 0 ? 0 : -1);
            }
            return why == 0 ? -1 : line;
        }

        private int[] readLine(Tokens t, int ahead) throws Fault {
            String word = t.peek();
            boolean act = word.equals("rings") || word.equals("day");
            t.must(act || t.isName(), 1);
            int[] name = lake.names.get(word);
            t.must(act || name != null && name[0] >= 2, 3);
            t.must(ahead < 40, 4);
            t.next++;
            if (word.equals("rings")) {
                return new int[] {1, 0, t.name(lake.names, 0)};
            }
            if (word.equals("day")) {
                return new int[] {3, 0, t.number(1, 60)};
            }
            t.pass(name[0] == 2 ? "shows" : "sails");
            return name[0] == 2 ? new int[] {0, name[1], t.name(lake.names, 1)} : new int[] {2, name[1], t.number(0, 7)};
        }

        private int live(int[] line) {
            int why;
            switch (line[0]) {
                case 0:
                    return life.show(lake, line[1], line[2]);
                case 1:
                    why = life.ring(lake, line[2]);
                    return why == 0 ? 0 : 10 + why;
                case 2:
                    if (line[2] >= lake.cells) {
                        return 29;
                    }
                    why = life.sail(lake, line[1], line[2]);
                    return why == 0 ? 0 : 20 + why;
                default:
                    if (life.day + line[2] > 600) {
                        return 31;
                    }
                    for (int i = 0; i < line[2]; i++) {
                        life.endDay(lake);
                    }
                    return 0;
            }
        }

        int sentence() {
            int kept = ones;
            ones = 0;
            try {
                Tokens t = new Tokens(take(), 200);
                Cond read = readCond(t, 1);
                t.must(t.ended(), 1);
                cond = read;
                fault = 0;
                return ones;
            } catch (Fault f) {
                ones = kept;
                fault = f.kind;
                return -1 - f.place;
            }
        }

        private Cond readCond(Tokens t, int depth) throws Fault {
            Cond left = readAll(t, depth);
            while (t.peek().equals("or")) {
                t.next++;
                Cond a = left;
                Cond b = readAll(t, depth);
                left = (lake, life, l) -> a.of(lake, life, l) || b.of(lake, life, l);
            }
            return left;
        }

        private Cond readAll(Tokens t, int depth) throws Fault {
            Cond left = readOne(t, depth);
            while (t.peek().equals("and")) {
                t.next++;
                Cond a = left;
                Cond b = readOne(t, depth);
                left = (lake, life, l) -> a.of(lake, life, l) && b.of(lake, life, l);
            }
            return left;
        }

        private Cond readOne(Tokens t, int depth) throws Fault {
            String word = t.peek();
            t.must(List.of("not", "(", "known", "today", "at", "by", "times", "steps", "done", "number").contains(word), 1);
            t.must(ones < 20 && depth <= 8, 4);
            ones++;
            t.next++;
            if (word.equals("not")) {
                Cond a = readOne(t, depth + 1);
                return (lake, life, l) -> !a.of(lake, life, l);
            }
            if (word.equals("(")) {
                Cond a = readCond(t, depth + 1);
                t.pass(")");
                return a;
            }
            if (word.equals("known")) {
                return (lake, life, l) -> life.lessons[l][1] == 1;
            }
            if (word.equals("today")) {
                return (lake, life, l) -> life.lessons[l][4] >= 0 && !life.confused(lake, l);
            }
            if (word.equals("at")) {
                int c = t.name(lake.names, 0);
                return (lake, life, l) -> lake.cueOf.get(l) == c;
            }
            if (word.equals("by")) {
                int b = t.name(lake.names, 2);
                return (lake, life, l) -> (life.lessons[l][2] >> b & 1) == 1;
            }
            String sign = t.peek();
            t.must(List.of("<", "=", ">").contains(sign), 1);
            t.next++;
            int n = t.number(0, 999);
            return (lake, life, l) -> {
                int m = word.equals("times") ? life.lessons[l][0] : word.equals("steps") ? lake.steps.get(l).size()
                    : word.equals("done") ? life.lessons[l][3] : l;
                return sign.equals("<") ? m < n : sign.equals("=") ? m == n : m > n;
            };
        }

        int said(int k) {
            if (cond == null) {
                return -1;
            }
            List<Integer> all = new ArrayList<>();
            for (int l = 0; l < lake.counts[1]; l++) {
                if (cond.of(lake, life, l)) {
                    all.add(l);
                }
            }
            return kth(all, k);
        }

        boolean image(int k) {
            if (k < 0 || k > 1) {
                return false;
            }
            images[k] = new Object[] {lake, life.copy(), cond};
            return true;
        }

        boolean restore(int k) {
            if (k < 0 || k > 1 || images[k] == null) {
                return false;
            }
            lake = (Lake) images[k][0];
            life = ((Life) images[k][1]).copy();
            cond = (Cond) images[k][2];
            past.clear();
            return true;
        }

        int undo() {
            if (past.isEmpty()) {
                return -1;
            }
            life = past.pop();
            return past.size();
        }

        int count(int what) {
            int[] all = {lake.cells, lake.shown, lake.keeps, lake.counts[0], lake.counts[1], lake.counts[2], lake.counts[3],
                tape.length()};
            return what < 0 || what > 7 ? -1 : all[what];
        }
    }

    private static final Random RANDOM = new Random(20261118);

    private static int roll(int n) {
        return RANDOM.nextInt(n);
    }

    private static String pick(String... of) {
        return of[roll(of.length)];
    }

    private static String name(String sort, int most) {
        return sort + (char) ('a' + roll(most));
    }

    private static String lakeText() {
        StringBuilder text = new StringBuilder();
        int cells = 1 + roll(8);
        if (roll(4) > 0) {
            text.append("cells ").append(cells).append(';');
        } else {
            cells = 4;
        }
        text.append(roll(5) > 0 ? "shown " + (1 + roll(3)) + ";" : "");
        text.append(roll(5) > 0 ? "keeps " + (1 + roll(12)) + ";" : "");
        text.append(roll(2) > 0 ? "nights " + (1 + roll(30)) + ";" : "");
        text.append(roll(2) > 0 ? "ice " + roll(50) + " " + (1 + roll(50)) + ";" : "");
        int cues = roll(9) == 0 ? roll(7) : 1 + roll(3);
        for (int i = 0; i < cues; i++) {
            text.append("cue c").append((char) ('a' + i)).append(';');
        }
        int lessons = cues == 0 ? 0 : roll(9);
        for (int i = 0; i < lessons; i++) {
            text.append("lesson l").append((char) ('a' + i)).append(' ').append(name("c", cues));
            int steps = roll(6) == 0 ? roll(9) : roll(4);
            for (int s = 0; s < steps; s++) {
                text.append(' ').append(roll(Math.min(cells, 1 + roll(8)))).append(' ').append(1 + roll(3));
            }
            text.append(pick(";", " ;", "\n;\n"));
        }
        for (int i = roll(5); i > 0; i--) {
            text.append("teacher t").append((char) ('a' + i)).append(';');
        }
        for (int i = roll(7); i > 0; i--) {
            text.append("boat b").append((char) ('a' + i)).append(' ').append(roll(cells)).append(';');
        }
        return text.toString();
    }

    private static String diaryText() {
        StringBuilder text = new StringBuilder();
        for (int i = roll(20) == 0 ? 30 + roll(14) : roll(12); i > 0; i--) {
            switch (roll(5)) {
                case 0: text.append("rings ").append(name("c", 2)).append(';'); break;
                case 1: text.append(name("b", 4)).append(" sails ").append(roll(5)).append(';'); break;
                case 2: text.append("day ").append(1 + roll(6)).append(';'); break;
                default: text.append(name("t", 4)).append(" shows ").append(name("l", 4)).append(';');
            }
        }
        return text.toString();
    }

    private static String condText(int depth) {
        switch (roll(depth > 7 ? 5 : 9)) {
            case 0: return pick("known", "today");
            case 1: return "at " + name("c", 3);
            case 2: return "by " + name("t", 4);
            case 3: case 4: return pick("times", "steps", "done", "number") + pick("<", " = ", ">") + roll(4);
            case 5: return "not " + condText(depth + 1);
            case 6: return "(" + condText(depth + 1) + ")";
            default: return condText(depth + 1) + pick(" and ", " or ") + condText(depth + 1);
        }
    }

    /** The text with a few of its bytes other, gone, or more. */
    private static String spoilt(String text) {
        StringBuilder other = new StringBuilder(text);
        for (int i = 1 + roll(2); i > 0; i--) {
            String bit = pick(";", " ", "a", "0", "9", "(", ")", "<", "é", ".", "cells 3;", "cue zz;", "known", "or", "not",
                "day 61;", "ca", "la", "tb", "bb", "1 2", "lesson q ca;", "boat q 0;", "teacher q;", "nights 3;", "99",
                " ".repeat(roll(40)), " ".repeat(roll(400)));
            int at = roll(other.length() + 1);
            if (roll(3) > 0) {
                other.insert(at, bit);
            } else if (other.length() > 0) {
                int from = Math.min(at, other.length() - 1);
                other.delete(from, Math.min(other.length(), from + 1 + roll(3)));
            }
        }
        return other.length() > 940 ? other.substring(0, 940) : other.toString();
    }

    private static String maybeSpoilt(String text, int often) {
        return roll(often) == 0 ? spoilt(text) : text;
    }

    private static void tape(LakeLearns x, Model m, String text) {
        m.tape = text;
        Check.tape(x, text);
    }

    private static String rowTape(Model m) {
        StringBuilder text = new StringBuilder();
        int set = roll(1 << m.lake.counts[1]);
        for (int i = roll(8) == 0 ? roll(5) : 1; i > 0; i--) {
            int c = roll(Math.max(1, m.lake.counts[0]));
            text.append((char) c);
            for (int h : m.lake.behind(c, roll(5) == 0 ? roll(1 << m.lake.counts[1]) : set)) {
                text.append((char) h);
            }
        }
        if (roll(9) == 0 && text.length() > 0) {
            text.setCharAt(roll(text.length()), (char) roll(256));
        }
        return text.toString();
    }

    public static void main(String[] args) {
        for (int run = 0; run < RUNS; run++) {
            LakeLearns x = new LakeLearns();
            Model m = new Model();
            tape(x, m, maybeSpoilt(lakeText(), 9));
            Check.due("run " + run + ": lake()", x.lake(), m.lake());
            Check.due("run " + run + ": fault()", x.fault(), m.fault);
            if (roll(4) == 0) {
                growLate(x, m, "run " + run + ": ");
            }
            for (int call = 0; call < 90; call++) {
                String where = "run " + run + ", call " + call + ": ";
                if (roll(3) > 0) {
                    act(x, m, where);
                } else if (roll(3) > 0) {
                    look(x, m, where);
                } else {
                    text(x, m, where);
                }
            }
        }
        Check.close("ModelTest");
    }

    /** By acts alone few runs would come to the last DAYS. */
    private static void growLate(LakeLearns x, Model m, String where) {
        for (int i = 0; i < 9; i++) {
            Check.due(where + "days(60)", x.days(60), m.days(60, false));
        }
        int n = 1 + roll(60);
        Check.due(where + "days(" + n + ")", x.days(n), m.days(n, false));
    }

    /** A number from 0 up, and now and then one that is too low or too high. */
    private static int near(int n) {
        return roll(12) == 0 ? roll(n + 4) - 2 : roll(Math.max(1, n));
    }

    private static void act(LakeLearns x, Model m, String where) {
        int t = near(m.lake.counts[2]);
        int l = near(m.lake.counts[1]);
        int c = near(m.lake.counts[0]);
        int b = near(m.lake.counts[3]);
        int cell = near(m.lake.cells);
        Life before = m.life.copy();
        switch (roll(12)) {
            case 0: case 1: case 2: case 3:
                Check.due(where + "show(" + t + ", " + l + ")", x.show(t, l),
                    m.has(2, t) && m.has(1, l) ? m.act(before, m.life.show(m.lake, t, l)) : -1);
                break;
            case 4: case 5:
                Check.due(where + "ring(" + c + ")", x.ring(c), m.has(0, c) ? m.act(before, m.life.ring(m.lake, c)) : -1);
                break;
            case 6:
                Check.due(where + "sail(" + b + ", " + cell + ")", x.sail(b, cell),
                    m.has(3, b) && cell >= 0 && cell < m.lake.cells ? m.act(before, m.life.sail(m.lake, b, cell)) : -1);
                break;
            case 7: case 8: case 9:
                int n = roll(8) == 0 ? roll(64) - 1 : 1 + roll(2);
                Check.due(where + "days(" + n + ")", x.days(n), m.days(n, false));
                break;
            case 10:
                int days = roll(8) == 0 ? roll(64) - 1 : 1 + roll(9);
                m.seed = RANDOM.nextInt();
                Check.due(where + "drawn(" + days + ", " + m.seed + ")", x.drawn(days, m.seed), m.days(days, true));
                break;
            default:
                if (roll(3) > 0) {
                    Check.due(where + "undo()", x.undo(), m.undo());
                } else if (roll(2) > 0) {
                    int k = near(2);
                    Check.due(where + "image(" + k + ")", x.image(k), m.image(k));
                } else {
                    int k = near(2);
                    Check.due(where + "restore(" + k + ")", x.restore(k), m.restore(k));
                }
        }
    }

    private static void look(LakeLearns x, Model m, String where) {
        for (int what = -1; what <= 8; what++) {
            Check.due(where + "now(" + what + ")", x.now(what), m.now(what));
            Check.due(where + "count(" + what + ")", x.count(what), m.count(what));
            Check.due(where + "told(" + what + ")", x.told(what), what < 0 || what > 3 ? -1 : m.told[what]);
            Check.due(where + "said(" + what + ")", x.said(what), m.said(what));
            Check.due(where + "height(" + what + ")", x.height(what),
                what < 0 || what >= m.lake.cells ? -1 : m.life.heights[what]);
            Check.due(where + "apart(" + what + ")", x.apart(what), m.pairs(what, false));
            Check.due(where + "still(" + what + ")", x.still(what), m.pairs(what, true));
            Check.due(where + "forgets(" + what + ")", x.forgets(what), m.forgets(what));
            Check.due(where + "pupils(" + what + ")", x.pupils(what), m.pupils(what));
            Check.due(where + "dry(" + what + ")", x.dry(what), m.dry(what));
            for (int i = -1; i <= 8; i++) {
                Check.due(where + "lesson(" + i + ", " + what + ")", Check.lesson(x, i, what), m.lesson(i, what));
                Check.due(where + "boat(" + i + ", " + what + ")", x.boat(i, what),
                    m.has(3, i) && what >= 0 && what < 4 ? m.life.boats[i][what] : -1);
                boolean step = m.has(1, i) && what >= 0 && what < m.lake.steps.get(i).size();
                int[] s = step ? m.lake.steps.get(i).get(what) : new int[] {0, -1};
                Check.due(where + "step(" + i + ", " + what + ")", x.step(i, what), 10 * s[0] + s[1]);
            }
            int set = near(1 << m.lake.counts[1]);
            boolean fits = m.has(0, what) && m.sets(set, m.lake.counts[1]);
            Check.due(where + "does(" + what + ", " + set + ")", x.does(what, set), fits ? m.does(what, set) : -1);
            Check.due(where + "waves(" + what + ", " + set + ")", x.waves(what, set), fits ? m.lake.waves(what, set) : -1);
            Check.due(where + "lasts(" + set + ")", x.lasts(set), m.lasts(set));
            int cues = near(1 << m.lake.counts[0]);
            Check.due(where + "havens(" + cues + ")", x.havens(cues), m.havens(cues));
        }
        Check.due(where + "ice()", x.ice(), m.ice());
        Check.due(where + "fault()", x.fault(), m.fault);
        Check.due(where + "surely()", x.surely(), m.surely);
        Check.due(where + "never()", x.never(), m.never);
        Check.due(where + "ask()", x.ask(), m.ask);
        Check.due(where + "taught()", x.taught(), m.taught);
        if (roll(20) == 0) {
            int l = near(m.lake.counts[1]);
            int n = roll(34) - 1;
            int seed = RANDOM.nextInt();
            Check.due(where + "odds(" + l + ", " + n + ", " + seed + ")", x.odds(l, n, seed), m.odds(l, n, seed));
        }
    }

    private static void text(LakeLearns x, Model m, String where) {
        String text;
        switch (roll(12)) {
            case 0:
                text = maybeSpoilt(lakeText(), 2);
                tape(x, m, text);
                Check.due(where + "lake() of " + text, x.lake(), m.lake());
                break;
            case 1: case 2: case 3:
                int lives = near(2);
                text = maybeSpoilt(diaryText(), 6);
                tape(x, m, text);
                Check.due(where + "diary(" + lives + ") of " + text, x.diary(lives), m.diary(lives));
                break;
            case 4: case 5: case 6: case 7:
                text = maybeSpoilt(condText(1), 6);
                tape(x, m, text.length() > 940 ? text.substring(0, 940) : text);
                Check.due(where + "sentence() of " + text, x.sentence(), m.sentence());
                break;
            case 8: case 9:
                tape(x, m, rowTape(m));
                Check.due(where + "learnt()", x.learnt(), m.learnt());
                break;
            default:
                int c = near(m.lake.counts[0]);
                text = rowTape(m);
                tape(x, m, text.isEmpty() ? text : text.substring(1));
                Check.due(where + "teach(" + c + ")", x.teach(c), m.teach(c));
        }
        Check.due(where + "fault()", x.fault(), m.fault);
        Check.due(where + "count(7)", x.count(7), m.count(7));
    }
}
