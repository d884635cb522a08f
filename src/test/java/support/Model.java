import java.util.ArrayList;
import java.util.Collections;
import java.util.HashSet;
import java.util.List;
import java.util.Set;

/**
 * The document said once more, as literally as can be: rows lie in one version and are handed on, reading
 * really goes along the links, searches call themselves, and acts are taken back from kept copies.
 */
final class Model {
    /** A version: it has a row, or a link. */
    private static final class Version {
        int number;
        int[] row;
        Version link;
        int linkCell;
        int linkNumber;
        Version parent;
        int cell;
        int value;
    }

    private static final class BrokenOff extends RuntimeException {
        private static final long serialVersionUID = 1L;
    }

    private static final class Fault extends RuntimeException {
        private static final long serialVersionUID = 1L;
        final int kind;
        final int place;

        Fault(int kind, int place) {
            this.kind = kind;
            this.place = place;
        }
    }

    /** Versions with a law and a cut, and the steps taken among them. */
    private static final class World {
        int size;
        int law;
        int cut;
        int most = 1000;
        int steps;
        List<Version> versions = new ArrayList<>();

        World(int size, int law, int cut, int[] row) {
            this.size = size;
            this.law = law;
            this.cut = cut;
            Version zero = new Version();
            zero.row = row;
            versions.add(zero);
        }

        World copy() {
            World w = new World(size, law, cut, null);
            w.steps = steps;
            w.versions.clear();
            for (Version v : versions) {
                Version n = new Version();
                n.number = v.number;
                n.row = v.row == null ? null : v.row.clone();
                n.linkCell = v.linkCell;
                n.linkNumber = v.linkNumber;
                n.cell = v.cell;
                n.value = v.value;
                w.versions.add(n);
            }
            for (int i = 0; i < versions.size(); i++) {
                Version v = versions.get(i);
                w.versions.get(i).link = v.link == null ? null : w.versions.get(v.link.number);
                w.versions.get(i).parent = v.parent == null ? null : w.versions.get(v.parent.number);
            }
            return w;
        }

        List<Version> way(Version v) {
            List<Version> way = new ArrayList<>();
            for (Version at = v; at.row == null; at = at.link) {
                way.add(at);
            }
            return way;
        }

        int known(Version v, int cell) {
            Version at = v;
            while (at.row == null) {
                if (at.linkCell == cell) {
                    return at.linkNumber;
                }
                at = at.link;
            }
            return at.row[cell];
        }

        int[] knownRow(Version v) {
            int[] row = new int[size];
            for (int i = 0; i < size; i++) {
                row[i] = known(v, i);
            }
            return row;
        }

        int snap(Version v) {
            if (v.row != null) {
                return 0;
            }
            int took = way(v).size() + size;
            v.row = knownRow(v);
            v.link = null;
            steps += took;
            return took;
        }

        void reach(Version v) {
            List<Version> way = way(v);
            if (law == 2 && way.size() > cut) {
                snap(v);
                return;
            }
            Collections.reverse(way);
            for (Version u : way) {
                Version w = u.link;
                u.row = w.row;
                w.row = null;
                w.link = u;
                w.linkCell = u.linkCell;
                w.linkNumber = u.row[u.linkCell];
                u.row[u.linkCell] = u.linkNumber;
                u.link = null;
                steps++;
            }
        }

        int read(Version v, int cell) {
            if (law != 1) {
                reach(v);
                return v.row[cell];
            }
            for (Version at = v;; at = at.link) {
                if (at.row != null) {
                    return at.row[cell];
                }
                if (at.linkCell == cell) {
                    return at.linkNumber;
                }
                steps++;
            }
        }

        Version set(Version v, int cell, int number) {
            if (versions.size() >= most) {
                throw new BrokenOff();
            }
            Version n = new Version();
            n.number = versions.size();
            n.parent = v;
            n.cell = cell;
            n.value = number;
            if (law == 1) {
                n.link = v;
                n.linkCell = cell;
                n.linkNumber = number;
            } else {
                reach(v);
                n.row = v.row;
                v.row = null;
                v.link = n;
                v.linkCell = cell;
                v.linkNumber = n.row[cell];
                n.row[cell] = number;
            }
            steps++;
            versions.add(n);
            return n;
        }

        int knownRoot(Version v, int cell) {
            int at = cell;
            for (int on = 0; on < size && known(v, at) != at; on++) {
                at = known(v, at);
            }
            return at;
        }

        int find(Version v, int cell) {
            int at = cell;
            for (int on = 0; on < size; on++) {
                int next = read(v, at);
                if (next == at) {
                    break;
                }
                at = next;
            }
            return at;
        }

        Version join(Version v, int a, int b) {
            int ra = find(v, a);
            int rb = find(v, b);
            return ra > rb ? set(v, ra, rb) : set(v, rb, ra);
        }

        List<Version> line(Version v) {
            List<Version> line = new ArrayList<>();
            for (Version at = v; at != null; at = at.parent) {
                line.add(at);
            }
            return line;
        }

        Version meet(Version v, Version w) {
            List<Version> others = line(w);
            for (Version at : line(v)) {
                if (others.contains(at)) {
                    return at;
                }
            }
            throw new IllegalStateException();
        }

        int[] merged(Version v, Version w, int[] conflicts) {
            Version m = meet(v, w);
            int[] result = new int[size];
            for (int i = 0; i < size; i++) {
                int base = known(m, i);
                int one = known(v, i);
                int two = known(w, i);
                if (one == base) {
                    result[i] = two;
                } else if (two == base || two == one) {
                    result[i] = one;
                } else {
                    result[i] = Math.min(one, two);
                    conflicts[0]++;
                }
            }
            return result;
        }

        int[] patched(Version from, Version to, Version on) {
            int[] result = knownRow(on);
            for (int i = 0; i < size; i++) {
                if (known(from, i) != known(to, i) && known(on, i) != known(to, i)) {
                    result[i] = known(to, i);
                }
            }
            return result;
        }

        Version lay(Version v, int[] row) {
            Version at = v;
            for (int i = 0; i < size; i++) {
                if (known(v, i) != row[i]) {
                    at = set(at, i, row[i]);
                }
            }
            return at;
        }

        int allWays() {
            int links = 0;
            for (Version v : versions) {
                links += way(v).size();
            }
            return links;
        }
    }

    private record Deed(String kind, int a, int b, int c) {
        int doIn(World w) {
            List<Version> vs = w.versions;
            return switch (kind) {
                case "read" -> w.read(vs.get(a), b);
                case "find" -> w.find(vs.get(a), b);
                case "snap" -> w.snap(vs.get(a));
                case "set" -> w.set(vs.get(a), b, c).number;
                case "join" -> w.join(vs.get(a), b, c).number;
                case "merge" -> w.lay(vs.get(a), w.merged(vs.get(a), vs.get(b), new int[1])).number;
                default -> w.lay(vs.get(c), w.patched(vs.get(a), vs.get(b), vs.get(c))).number;
            };
        }

        boolean makesNone() {
            return kind.equals("read") || kind.equals("find") || kind.equals("snap");
        }
    }

    /** All that an image keeps. Behind each act the state ahead of it is kept, for taking back. */
    private static final class State {
        World world;
        Set<List<Integer>> pairs = new HashSet<>();
        List<Deed> deeds = new ArrayList<>();
        List<Integer> costs = new ArrayList<>();
        List<World> ahead = new ArrayList<>();
        int lines;

        State copy() {
            State s = new State();
            s.world = world == null ? null : world.copy();
            s.pairs = new HashSet<>(pairs);
            s.deeds = new ArrayList<>(deeds);
            s.costs = new ArrayList<>(costs);
            for (World w : ahead) {
                s.ahead.add(w.copy());
            }
            s.lines = lines;
            return s;
        }

        int perform(Deed d) {
            int before = world.steps;
            int answer = d.doIn(world);
            costs.add(world.steps - before);
            deeds.add(d);
            return answer;
        }

        boolean paired(int a, int b) {
            return pairs.contains(List.of(Math.min(a, b), Math.max(a, b)));
        }

        int stepsBy(int law, int cut, int skipped) {
            World w = new World(world.size, law, cut, own(world.size));
            for (int i = 0; i < deeds.size(); i++) {
                if (i != skipped) {
                    deeds.get(i).doIn(w);
                }
            }
            return w.steps;
        }
    }

    private static int[] own(int size) {
        int[] row = new int[size];
        for (int i = 0; i < size; i++) {
            row[i] = i;
        }
        return row;
    }

    private record Token(char kind, String text, int place) {
    }

    private final List<Integer> tape = new ArrayList<>();
    private State now = new State();
    private final State[] images = new State[3];
    private int fault = 0;
    private int place = -1;

    // The tape.

    int feed(int a, int b, int c, int d, int e) {
        if (tape.size() > 480) {
            return -1;
        }
        for (int n : new int[] {a, b, c, d, e}) {
            tape.add(n >> 24 & 255);
            tape.add(n >> 16 & 255);
            tape.add(n >> 8 & 255);
            tape.add(n & 255);
        }
        return tape.size();
    }

    int end(int n) {
        if (n < 0 || n > tape.size()) {
            return -1;
        }
        while (tape.size() > n) {
            tape.remove(tape.size() - 1);
        }
        return n;
    }

    private List<Token> tokens() {
        StringBuilder all = new StringBuilder();
        for (int b : tape) {
            all.append((char) b);
        }
        List<Token> tokens = new ArrayList<>();
        java.util.regex.Matcher m = java.util.regex.Pattern.compile("[ \n]+|([a-z]+)|([0-9]+)|(;)|([\\x00-\\xff])").matcher(all);
        while (m.find()) {
            char kind = m.group(1) != null ? 'w' : m.group(2) != null ? 'n' : m.group(3) != null ? ';' : '?';
            if (kind != '?' || m.group(4) != null) {
                tokens.add(new Token(kind, m.group(), m.start()));
            }
        }
        tokens.add(new Token('e', "", tape.size()));
        return tokens;
    }

    private int number(Token t, int least, int most) {
        if (t.kind != 'n') {
            throw new Fault(1, t.place);
        }
        java.math.BigInteger n = new java.math.BigInteger(t.text);
        if (n.compareTo(java.math.BigInteger.valueOf(least)) < 0 || n.compareTo(java.math.BigInteger.valueOf(most)) > 0) {
            throw new Fault(2, t.place);
        }
        return n.intValue();
    }

    private void must(Token t, String text) {
        if (!t.text.equals(text) || t.kind == 'e') {
            throw new Fault(1, t.place);
        }
    }

    private State parse(List<Token> ts) {
        State s = new State();
        int at = 0;
        while (ts.get(at).kind != 'e') {
            Token word = ts.get(at);
            if (s.lines == 0) {
                must(word, "store");
                must(ts.get(at + 1), "size");
                int size = number(ts.get(at + 2), 1, 12);
                must(ts.get(at + 3), "law");
                int law = number(ts.get(at + 4), 0, 2);
                must(ts.get(at + 5), "cut");
                int cut = number(ts.get(at + 6), 0, 20);
                s.world = new World(size, law, cut, own(size));
                at += 7;
            } else {
                at = parseLine(s, ts, at, word);
            }
            must(ts.get(at), ";");
            at++;
            s.lines++;
        }
        return s;
    }

    private int parseLine(State s, List<Token> ts, int at, Token word) {
        if (!List.of("pair", "set", "join", "read", "find", "snap").contains(word.text)) {
            throw new Fault(1, word.place);
        }
        World w = s.world;
        if (word.text.equals("pair")) {
            if (s.pairs.size() == 16) {
                throw new Fault(3, word.place);
            }
            int a = number(ts.get(at + 1), 0, w.size - 1);
            int b = number(ts.get(at + 2), 0, w.size - 1);
            if (a == b || !s.pairs.add(List.of(Math.min(a, b), Math.max(a, b)))) {
                throw new Fault(2, ts.get(at + 2).place);
            }
            return at + 3;
        }
        boolean makes = word.text.equals("set") || word.text.equals("join");
        if (s.deeds.size() == 30 || makes && w.versions.size() == 20) {
            throw new Fault(3, word.place);
        }
        int v = number(ts.get(at + 1), 0, w.versions.size() - 1);
        if (word.text.equals("snap")) {
            if (w.versions.get(v).row != null) {
                throw new Fault(2, ts.get(at + 1).place);
            }
            must(ts.get(at + 2), ";");
            s.perform(new Deed("snap", v, 0, 0));
            return at + 2;
        }
        int i = number(ts.get(at + 2), 0, w.size - 1);
        if (!makes) {
            s.perform(new Deed(word.text, v, i, 0));
            return at + 3;
        }
        int x = number(ts.get(at + 3), 0, w.size - 1);
        if (word.text.equals("join") && w.knownRoot(w.versions.get(v), i) == w.knownRoot(w.versions.get(v), x)) {
            throw new Fault(2, ts.get(at + 3).place);
        }
        s.perform(new Deed(word.text, v, i, x));
        return at + 4;
    }

    int store() {
        List<Token> ts = tokens();
        tape.clear();
        try {
            State told = parse(ts);
            fault = 0;
            place = -1;
            now = told;
            return told.lines;
        } catch (Fault f) {
            fault = f.kind;
            place = f.place;
            return -4;
        }
    }

    int fault(int what) {
        return what == 0 ? fault : what == 1 ? place : -1;
    }

    int count(int what) {
        World w = now.world;
        return switch (what) {
            case 0 -> w == null ? 0 : w.size;
            case 1 -> w == null ? 0 : w.law;
            case 2 -> w == null ? 0 : w.cut;
            case 3 -> w == null ? 0 : w.versions.size();
            case 4 -> now.pairs.size();
            case 5 -> now.deeds.size();
            case 6 -> now.ahead.size();
            case 7 -> now.lines;
            case 8 -> tape.size();
            default -> -1;
        };
    }

    // Versions.

    private Version at(int v) {
        return now.world == null || v < 0 || v >= now.world.versions.size() ? null : now.world.versions.get(v);
    }

    private boolean spot(int v, int cell) {
        return at(v) != null && isCell(cell);
    }

    private boolean isCell(int cell) {
        return now.world != null && cell >= 0 && cell < now.world.size;
    }

    int cell(int version, int cell) {
        return spot(version, cell) ? now.world.known(at(version), cell) : -2;
    }

    int version(int version, int what) {
        Version v = at(version);
        if (v == null || what < 0 || what > 2) {
            return -2;
        }
        return v.parent == null ? -1 : what == 0 ? v.parent.number : what == 1 ? v.cell : v.value;
    }

    int unlike(int version, int other) {
        if (at(version) == null || at(other) == null) {
            return -2;
        }
        int n = 0;
        for (int i = 0; i < now.world.size; i++) {
            n += cell(version, i) == cell(other, i) ? 0 : 1;
        }
        return n;
    }

    int first(int version) {
        if (at(version) == null) {
            return -2;
        }
        int v = 0;
        while (unlike(v, version) != 0) {
            v++;
        }
        return v;
    }

    int meet(int version, int other) {
        return at(version) == null || at(other) == null ? -2 : now.world.meet(at(version), at(other)).number;
    }

    int apart(int version, int other) {
        if (at(version) == null || at(other) == null) {
            return -2;
        }
        Set<Version> one = new HashSet<>(now.world.line(at(version)));
        Set<Version> two = new HashSet<>(now.world.line(at(other)));
        int n = 0;
        for (Version v : now.world.versions) {
            n += one.contains(v) != two.contains(v) ? 1 : 0;
        }
        return n;
    }

    int root(int version, int cell) {
        return spot(version, cell) ? now.world.knownRoot(at(version), cell) : -2;
    }

    int roots(int version) {
        if (at(version) == null) {
            return -2;
        }
        Set<Integer> roots = new HashSet<>();
        for (int i = 0; i < now.world.size; i++) {
            roots.add(root(version, i));
        }
        return roots.size();
    }

    int together(int version, int cell) {
        if (!spot(version, cell)) {
            return -2;
        }
        int bits = 0;
        for (int i = 0; i < now.world.size; i++) {
            bits += root(version, i) == root(version, cell) ? 1 << i : 0;
        }
        return bits;
    }

    int state(int version, int what) {
        Version v = at(version);
        if (v == null || what < 0 || what > 3) {
            return -2;
        }
        if (what == 0) {
            return v.row != null ? 1 : 0;
        }
        return v.row != null ? -1 : what == 1 ? v.link.number : what == 2 ? v.linkCell : v.linkNumber;
    }

    int length(int version) {
        return at(version) == null ? -2 : now.world.way(at(version)).size();
    }

    int longest() {
        return now.world == null ? -2 : now.world.versions.stream().mapToInt(v -> length(v.number)).max().getAsInt();
    }

    int direct() {
        return now.world == null ? -2 : (int) now.world.versions.stream().filter(v -> v.row != null).count();
    }

    int ways() {
        return now.world == null ? -2 : now.world.allWays();
    }

    int snapping(int version) {
        if (at(version) == null) {
            return -2;
        }
        World w = now.world.copy();
        w.snap(w.versions.get(version));
        return w.allWays();
    }

    int snap() {
        if (now.world == null) {
            return -2;
        }
        int best = -1;
        for (int v = 0; v < now.world.versions.size(); v++) {
            if (snapping(v) < (best == -1 ? ways() : snapping(best))) {
                best = v;
            }
        }
        return best;
    }

    // The ledger.

    int ledger() {
        return now.world == null ? -2 : now.costs.stream().mapToInt(n -> n).sum();
    }

    int spent(int deed) {
        return deed < 0 || deed >= now.costs.size() ? -2 : now.costs.get(deed);
    }

    int dearest() {
        if (now.world == null) {
            return -2;
        }
        int most = now.costs.stream().mapToInt(n -> n).max().orElse(0);
        return most == 0 ? -1 : now.costs.indexOf(most);
    }

    int cost(int version, int cell) {
        if (!spot(version, cell)) {
            return -2;
        }
        World w = now.world.copy();
        w.read(w.versions.get(version), cell);
        return w.steps - now.world.steps;
    }

    int by(int law) {
        return now.world == null || law < 0 || law > 2 ? -2 : now.stepsBy(law, now.world.cut, -1);
    }

    int cutting(int k) {
        return now.world == null || k < 0 || k > 20 ? -2 : now.stepsBy(2, k, -1);
    }

    int cut() {
        if (now.world == null) {
            return -2;
        }
        List<Integer> steps = new ArrayList<>();
        for (int k = 0; k <= 20; k++) {
            steps.add(cutting(k));
        }
        return steps.indexOf(Collections.min(steps));
    }

    int without(int deed) {
        if (deed < 0 || deed >= now.deeds.size() || !now.deeds.get(deed).makesNone()) {
            return -2;
        }
        return now.stepsBy(now.world.law, now.world.cut, deed);
    }

    // Acts.

    private int act(Deed d) {
        World before = now.world.copy();
        int answer = now.perform(d);
        now.ahead.add(before);
        return answer;
    }

    private boolean full(int versions) {
        return now.ahead.size() == 30 || now.world.versions.size() + versions > 40;
    }

    int reads(int version, int cell) {
        return !spot(version, cell) ? -2 : full(0) ? -5 : act(new Deed("read", version, cell, 0));
    }

    int sets(int version, int cell, int number) {
        return !spot(version, cell) || !isCell(number) ? -2 : full(1) ? -5 : act(new Deed("set", version, cell, number));
    }

    int joins(int version, int cell, int other) {
        if (!spot(version, cell) || !isCell(other)) {
            return -2;
        }
        return full(1) || root(version, cell) == root(version, other) ? -5 : act(new Deed("join", version, cell, other));
    }

    int finds(int version, int cell) {
        return !spot(version, cell) ? -2 : full(0) ? -5 : act(new Deed("find", version, cell, 0));
    }

    int snaps(int version) {
        return at(version) == null ? -2 : full(0) || at(version).row != null ? -5 : act(new Deed("snap", version, 0, 0));
    }

    // Searches.

    private final class Hunt {
        final World world;
        final int colours;
        int back = 0;
        int outcome;
        Version end;

        Hunt(int law, int colours, int first) {
            int[] row = new int[now.world.size];
            java.util.Arrays.fill(row, first);
            world = new World(now.world.size, law, now.world.cut, row);
            world.most = 200;
            this.colours = colours;
        }

        Hunt run(boolean ahead) {
            try {
                boolean found = ahead ? ahead(world.versions.get(0), new java.util.TreeSet<>()) : plain(0, world.versions.get(0));
                outcome = found ? 1 : 0;
            } catch (BrokenOff b) {
                outcome = 2;
            }
            return this;
        }

        boolean plain(int cell, Version v) {
            if (cell == world.size) {
                end = v;
                return true;
            }
            for (int c = 1; c <= colours; c++) {
                boolean free = true;
                for (int j = 0; j < cell && free; j++) {
                    if (now.paired(j, cell)) {
                        free = world.read(v, j) != c;
                    }
                }
                if (free && plain(cell + 1, world.set(v, cell, c))) {
                    return true;
                }
            }
            back += cell > 0 ? 1 : 0;
            return false;
        }

        boolean ahead(Version v, Set<Integer> painted) {
            if (painted.size() == world.size) {
                end = v;
                return true;
            }
            int taken = -1;
            int set = 0;
            for (int i = 0; i < world.size; i++) {
                if (!painted.contains(i)) {
                    int here = world.read(v, i);
                    if (taken < 0 || Integer.bitCount(here) < Integer.bitCount(set)) {
                        taken = i;
                        set = here;
                    }
                }
            }
            painted.add(taken);
            for (int c = 0; c < colours; c++) {
                if ((set >> c & 1) == 1) {
                    Version next = strike(world.set(v, taken, 1 << c), painted, taken, c);
                    if (next != null && ahead(next, painted)) {
                        return true;
                    }
                }
            }
            painted.remove(taken);
            back += painted.isEmpty() ? 0 : 1;
            return false;
        }

        Version strike(Version from, Set<Integer> painted, int taken, int c) {
            Version v = from;
            for (int j = 0; j < world.size; j++) {
                if (!painted.contains(j) && now.paired(j, taken)) {
                    int set = world.read(v, j);
                    if ((set >> c & 1) == 1) {
                        v = world.set(v, j, set - (1 << c));
                        if (set - (1 << c) == 0) {
                            return null;
                        }
                    }
                }
            }
            return v;
        }

        int answer(int what) {
            return what == 0 ? outcome : what == 1 ? world.versions.size() - 1 : what == 2 ? world.steps : back;
        }
    }

    private Hunt hunt(int law, int colours, boolean ahead) {
        if (now.world == null || law < 0 || law > 2 || colours < 1 || colours > 4) {
            return null;
        }
        return new Hunt(law, colours, ahead ? (1 << colours) - 1 : 0).run(ahead);
    }

    private int lawNow() {
        return now.world == null ? 0 : now.world.law;
    }

    int search(int colours, int what) {
        Hunt h = hunt(lawNow(), colours, false);
        return h == null || what < 0 || what > 3 ? -2 : h.answer(what);
    }

    int searchBy(int law, int colours) {
        Hunt h = hunt(law, colours, false);
        return h == null ? -2 : h.answer(2);
    }

    int colour(int colours, int cell) {
        Hunt h = hunt(lawNow(), colours, false);
        return h == null || !isCell(cell) ? -2 : h.end == null ? 0 : h.world.known(h.end, cell);
    }

    int colours() {
        if (now.world == null) {
            return -2;
        }
        for (int c = 1; c <= 4; c++) {
            if (search(c, 0) == 1) {
                return c;
            }
        }
        return -1;
    }

    int forward(int colours, int what) {
        Hunt h = hunt(lawNow(), colours, true);
        return h == null || what < 0 || what > 3 ? -2 : h.answer(what);
    }

    int forwardBy(int law, int colours) {
        Hunt h = hunt(law, colours, true);
        return h == null ? -2 : h.answer(2);
    }

    int hue(int colours, int cell) {
        Hunt h = hunt(lawNow(), colours, true);
        if (h == null || !isCell(cell)) {
            return -2;
        }
        return h.end == null ? 0 : List.of(0, 1, 2, -1, 3, -1, -1, -1, 4).get(h.world.known(h.end, cell));
    }

    // Blame, merging, patching.

    int blame(int version, int cell) {
        if (!spot(version, cell)) {
            return -2;
        }
        for (Version v : now.world.line(at(version))) {
            if (v.parent != null && v.cell == cell) {
                return v.number;
            }
        }
        return 0;
    }

    int often(int version, int cell) {
        if (!spot(version, cell)) {
            return -2;
        }
        return (int) now.world.line(at(version)).stream().filter(v -> v.parent != null && v.cell == cell).count();
    }

    int merging(int version, int other, int what) {
        if (at(version) == null || at(other) == null || what < 0 || what > 1) {
            return -2;
        }
        int[] conflicts = new int[1];
        int[] row = now.world.merged(at(version), at(other), conflicts);
        if (what == 1) {
            return conflicts[0];
        }
        World w = now.world.copy();
        w.lay(w.versions.get(version), row);
        return w.versions.size() - now.world.versions.size();
    }

    int merged(int version, int other, int cell) {
        if (!spot(version, cell) || at(other) == null) {
            return -2;
        }
        return now.world.merged(at(version), at(other), new int[1])[cell];
    }

    int merges(int version, int other) {
        int makes = merging(version, other, 0);
        return makes == -2 ? -2 : full(makes) ? -5 : act(new Deed("merge", version, other, 0));
    }

    int patching(int from, int to, int on) {
        if (at(from) == null || at(to) == null || at(on) == null) {
            return -2;
        }
        World w = now.world.copy();
        w.lay(w.versions.get(on), w.patched(w.versions.get(from), w.versions.get(to), w.versions.get(on)));
        return w.versions.size() - now.world.versions.size();
    }

    int patches(int from, int to, int on) {
        int makes = patching(from, to, on);
        return makes == -2 ? -2 : full(makes) ? -5 : act(new Deed("patch", from, to, on));
    }

    // What must stay.

    private Set<Version> kept(long set) {
        if (now.world == null || set < 0) {
            return null;
        }
        Set<Version> kept = new HashSet<>();
        for (int b = 0; b < 63; b++) {
            if ((set >> b & 1) == 1) {
                if (at(b) == null) {
                    return null;
                }
                Version v = at(b);
                kept.add(v);
                while (v.row == null) {
                    v = v.link;
                    kept.add(v);
                }
            }
        }
        return kept;
    }

    long keeps(long set) {
        Set<Version> kept = kept(set);
        return kept == null ? -2 : kept.stream().mapToLong(v -> 1L << v.number).sum();
    }

    int room(long set) {
        Set<Version> kept = kept(set);
        return kept == null ? -2 : kept.stream().mapToInt(v -> v.row != null ? now.world.size : 3).sum();
    }

    int busiest() {
        if (now.world == null) {
            return -2;
        }
        int best = -1;
        int most = 0;
        for (Version v : now.world.versions) {
            int n = 0;
            for (Version u : now.world.versions) {
                n += u != v && now.world.way(u).contains(v) ? 1 : 0;
            }
            if (v.row == null && n > most) {
                most = n;
                best = v.number;
            }
        }
        return best;
    }

    // Images, taking back.

    int image(int k) {
        if (k < 0 || k > 2 || now.world == null) {
            return -2;
        }
        images[k] = now.copy();
        return 0;
    }

    int back(int k) {
        if (k < 0 || k > 2) {
            return -2;
        }
        if (images[k] == null) {
            return -6;
        }
        now = images[k].copy();
        return 0;
    }

    int undo() {
        if (now.world == null) {
            return -2;
        }
        if (now.ahead.isEmpty()) {
            return -5;
        }
        now.world = now.ahead.remove(now.ahead.size() - 1);
        now.deeds.remove(now.deeds.size() - 1);
        now.costs.remove(now.costs.size() - 1);
        return now.ahead.size();
    }

    int anew() {
        if (now.world == null) {
            return -2;
        }
        int were = now.ahead.size();
        while (!now.ahead.isEmpty()) {
            undo();
        }
        return were;
    }
}
