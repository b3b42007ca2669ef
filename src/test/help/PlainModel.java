import java.util.ArrayList;
import java.util.Arrays;
import java.util.Comparator;
import java.util.List;
import java.util.Set;
import java.util.TreeSet;
import java.util.regex.Matcher;
import java.util.regex.Pattern;

/**
 * The document's words once more, as slow and literal as they stand there, to compare answers with.
 * It shares no code and no shortcut with the class.
 */
final class PlainModel {
    static final int INVALID = -1001;
    static final int NOT_POSSIBLE = -1002;
    static final int LIMIT = -1003;
    static final int NOT_FOUND = -1004;

    record Point(int x, int y, int z) {
    }

    record Kind(long top, long bottom) {
    }

    /** What follows from the steps alone. */
    static final class Ball {
        final List<Point> hubs = new ArrayList<>();
        final List<int[]> struts = new ArrayList<>();
        final List<int[]> faces = new ArrayList<>();
        final List<Kind> kinds = new ArrayList<>();
        final int[] kindOf;
        final int[][] strutAt;
        /** By radius and kind; null or -1 if not known yet. */
        final int[][] lengths = new int[2001][];

        Ball(int f) {
            for (int x = -f; x <= f; x++) {
                for (int y = -f; y <= f; y++) {
                    for (int z = -f; z <= f; z++) {
                        if (Math.abs(x) + Math.abs(y) + Math.abs(z) == f) {
                            hubs.add(new Point(x, y, z));
                        }
                    }
                }
            }
            hubs.sort(Comparator.<Point>comparingInt(p -> -p.z()).thenComparingInt(Point::y)
                    .thenComparingInt(Point::x));
            int n = hubs.size();
            strutAt = new int[n][n];
            for (int a = 0; a < n; a++) {
                for (int b = 0; b < n; b++) {
                    strutAt[a][b] = -1;
                }
            }
            for (int a = 0; a < n; a++) {
                for (int b = a + 1; b < n; b++) {
                    if (areJoined(hubs.get(a), hubs.get(b))) {
                        strutAt[a][b] = struts.size();
                        strutAt[b][a] = struts.size();
                        struts.add(new int[] {a, b});
                    }
                }
            }
            for (int a = 0; a < n; a++) {
                for (int b = a + 1; b < n; b++) {
                    for (int c = b + 1; c < n && strutAt[a][b] >= 0; c++) {
                        if (strutAt[b][c] >= 0 && strutAt[a][c] >= 0) {
                            faces.add(new int[] {a, b, c});
                        }
                    }
                }
            }
            kindOf = new int[struts.size()];
            findKinds();
        }

        private static boolean areJoined(Point p, Point q) {
            int[] a = {p.x(), p.y(), p.z()};
            int[] b = {q.x(), q.y(), q.z()};
            int byOne = 0;
            int equal = 0;
            for (int i = 0; i < 3; i++) {
                if (a[i] > 0 && b[i] < 0 || a[i] < 0 && b[i] > 0) {
                    return false;
                }
                if (Math.abs(a[i]) == Math.abs(b[i])) {
                    equal++;
                } else if (Math.abs(a[i]) - Math.abs(b[i]) == 1 || Math.abs(b[i]) - Math.abs(a[i]) == 1) {
                    byOne++;
                }
            }
            return byOne == 2 && equal == 1;
        }

        long n(int strut) {
            return dot(hubs.get(struts.get(strut)[0]), hubs.get(struts.get(strut)[1]));
        }

        long d(int strut) {
            Point p = hubs.get(struts.get(strut)[0]);
            Point q = hubs.get(struts.get(strut)[1]);
            return dot(p, p) * dot(q, q);
        }

        private static long dot(Point p, Point q) {
            return (long) p.x() * q.x() + (long) p.y() * q.y() + (long) p.z() * q.z();
        }

        private Kind fraction(int strut) {
            long top = n(strut) * n(strut);
            long bottom = d(strut);
            long a = top;
            long b = bottom;
            while (b != 0) {
                long rest = a % b;
                a = b;
                b = rest;
            }
            return new Kind(top / a, bottom / a);
        }

        private void findKinds() {
            Set<Kind> all = new TreeSet<>(
                    (p, q) -> Long.compare(q.top() * p.bottom(), p.top() * q.bottom()));
            for (int s = 0; s < struts.size(); s++) {
                all.add(fraction(s));
            }
            kinds.addAll(all);
            for (int s = 0; s < struts.size(); s++) {
                kindOf[s] = kinds.indexOf(fraction(s));
            }
        }

        int length(int strut, int radius) {
            int kind = kindOf[strut];
            if (lengths[radius] == null) {
                lengths[radius] = new int[kinds.size()];
                Arrays.fill(lengths[radius], -1);
            }
            if (lengths[radius][kind] < 0) {
                lengths[radius][kind] = longest(n(strut), d(strut), radius);
            }
            return lengths[radius][kind];
        }

        /** Tries every length from 0 on. */
        private static int longest(long n, long d, int radius) {
            long r = radius;
            int best = 0;
            for (long l = 0; 2 * r * r - l * l >= 0; l++) {
                long rest = 2 * r * r - l * l;
                if (Math.multiplyExact(rest * rest, d) >= 4 * r * r * r * r * n * n) {
                    best = (int) l;
                }
            }
            return best;
        }
    }

    record State(int f, int radius, int line, int bar, int saw, Set<Integer> missing) {
        State with(int newRadius, int newLine, int newBar, int newSaw) {
            return new State(f, newRadius, newLine, newBar, newSaw, missing);
        }

        State withMissing(Set<Integer> newMissing) {
            return new State(f, radius, line, bar, saw, newMissing);
        }
    }

    private static final Ball[] BALLS = new Ball[7];

    private State now = new State(2, 1000, -2, 6000, 3, new TreeSet<>());
    private final List<State> history = new ArrayList<>();
    private String text = "";

    static Ball ball(int f) {
        if (BALLS[f] == null) {
            BALLS[f] = new Ball(f);
        }
        return BALLS[f];
    }

    Ball ball() {
        return ball(now.f);
    }

    Set<Integer> missing() {
        return now.missing;
    }

    private void change(State next) {
        history.add(now);
        if (history.size() == 7) {
            history.remove(0);
        }
        now = next;
    }

    int split(int steps) {
        if (steps < 1 || steps > 6) {
            return INVALID;
        }
        change(new State(steps, now.radius, -steps, now.bar, now.saw, new TreeSet<>()));
        return ball().hubs.size();
    }

    int setRadius(int radius) {
        if (radius < 10 || radius > 2000) {
            return INVALID;
        }
        int previous = now.radius;
        change(now.with(radius, now.line, now.bar, now.saw));
        return previous;
    }

    int cutAt(int line) {
        if (line < -now.f || line > now.f) {
            return INVALID;
        }
        change(now.with(now.radius, line, now.bar, now.saw));
        return count(7);
    }

    int setStock(int bar, int saw) {
        if (bar < 100 || bar > 20000 || saw < 0 || saw > 20) {
            return INVALID;
        }
        Bars bars = saw(now.radius, bar, saw);
        if (bars == null) {
            return NOT_POSSIBLE;
        }
        change(now.with(now.radius, now.line, bar, saw));
        return bars.left.size();
    }

    private boolean keptHub(int hub) {
        return ball().hubs.get(hub).z() >= now.line;
    }

    private boolean keptStrut(int strut) {
        int[] ends = ball().struts.get(strut);
        return keptHub(ends[0]) && keptHub(ends[1]);
    }

    private boolean keptFace(int[] face) {
        return keptHub(face[0]) && keptHub(face[1]) && keptHub(face[2]);
    }

    private int[] sides(int[] face) {
        int[][] at = ball().strutAt;
        return new int[] {at[face[0]][face[1]], at[face[0]][face[2]], at[face[1]][face[2]]};
    }

    private boolean isHole(int[] face, Set<Integer> missing) {
        if (!keptFace(face)) {
            return false;
        }
        for (int side : sides(face)) {
            if (missing.contains(side)) {
                return true;
            }
        }
        return false;
    }

    private int holes(Set<Integer> missing) {
        int holes = 0;
        for (int[] face : ball().faces) {
            holes += isHole(face, missing) ? 1 : 0;
        }
        return holes;
    }

    int count(int what) {
        int number = 0;
        switch (what) {
            case 0: return now.f;
            case 1: return 4 * now.f * now.f + 2;
            case 2: return ball().struts.size();
            case 3: return 8 * now.f * now.f;
            case 4: return ball().kinds.size();
            case 5: return now.radius;
            case 6: return now.line;
            case 7:
                for (int h = 0; h < ball().hubs.size(); h++) {
                    number += keptHub(h) ? 1 : 0;
                }
                return number;
            case 8:
                for (int s = 0; s < ball().struts.size(); s++) {
                    number += keptStrut(s) ? 1 : 0;
                }
                return number;
            case 9:
                for (int[] face : ball().faces) {
                    number += keptFace(face) ? 1 : 0;
                }
                return number;
            case 10:
                for (int h = 0; h < ball().hubs.size(); h++) {
                    number += hub(h, 6);
                }
                return number;
            case 11:
                for (int s : now.missing) {
                    number += keptStrut(s) ? 1 : 0;
                }
                return number;
            case 12: return holes(now.missing);
            case 13: return count(7) - count(8) + count(9);
            case 14: return now.bar;
            case 15: return now.saw;
            case 16: return history.size();
            case 17: return text.length();
            case 18: return now.missing.size();
            default: return INVALID;
        }
    }

    int undo() {
        if (history.isEmpty()) {
            return NOT_POSSIBLE;
        }
        now = history.remove(history.size() - 1);
        return history.size();
    }

    private boolean noHub(int hub) {
        return hub < 0 || hub >= ball().hubs.size();
    }

    private boolean noStrut(int strut) {
        return strut < 0 || strut >= ball().struts.size();
    }

    private List<Integer> joinedTo(int hub) {
        List<Integer> joined = new ArrayList<>();
        for (int h = 0; h < ball().hubs.size(); h++) {
            if (ball().strutAt[hub][h] >= 0) {
                joined.add(h);
            }
        }
        return joined;
    }

    private static List<Integer> values(Point p) {
        List<Integer> values = new ArrayList<>(List.of(Math.abs(p.x()), Math.abs(p.y()), Math.abs(p.z())));
        values.sort(null);
        return values;
    }

    int hub(int hub, int what) {
        if (noHub(hub) || what < 0 || what > 8) {
            return INVALID;
        }
        Point p = ball().hubs.get(hub);
        int number = 0;
        switch (what) {
            case 0: return p.x();
            case 1: return p.y();
            case 2: return p.z();
            case 3: return joinedTo(hub).size();
            case 4:
                for (int s = 0; s < ball().struts.size(); s++) {
                    int[] ends = ball().struts.get(s);
                    boolean at = ends[0] == hub || ends[1] == hub;
                    number += at && keptStrut(s) && !now.missing.contains(s) ? 1 : 0;
                }
                return number;
            case 5: return keptHub(hub) ? 1 : 0;
            case 6:
                for (int other : joinedTo(hub)) {
                    if (keptHub(hub) && !keptHub(other)) {
                        return 1;
                    }
                }
                return 0;
            case 7: return p.x() * p.x() + p.y() * p.y() + p.z() * p.z();
            default:
                for (Point q : ball().hubs) {
                    number += values(p).equals(values(q)) ? 1 : 0;
                }
                return number;
        }
    }

    int hubAt(int x, int y, int z) {
        for (int value : new int[] {x, y, z}) {
            if (value < -6 || value > 6) {
                return INVALID;
            }
        }
        int hub = ball().hubs.indexOf(new Point(x, y, z));
        return hub < 0 ? NOT_FOUND : hub;
    }

    int joined(int hub, int index) {
        if (noHub(hub) || index < 0) {
            return INVALID;
        }
        List<Integer> joined = joinedTo(hub);
        return index < joined.size() ? joined.get(index) : NOT_FOUND;
    }

    int led(int hub, int way) {
        if (noHub(hub) || way < 0 || way > 5) {
            return INVALID;
        }
        Point p = ball().hubs.get(hub);
        Point[] led = {
            new Point(-p.x(), p.y(), p.z()), new Point(p.x(), -p.y(), p.z()), new Point(p.x(), p.y(), -p.z()),
            new Point(-p.y(), p.x(), p.z()), new Point(p.y(), p.z(), p.x()), new Point(-p.x(), -p.y(), -p.z())
        };
        return ball().hubs.indexOf(led[way]);
    }

    int way(int from, int to) {
        if (noHub(from) || noHub(to)) {
            return INVALID;
        }
        if (!keptHub(from) || !keptHub(to)) {
            return NOT_POSSIBLE;
        }
        Set<Integer> reached = new TreeSet<>(Set.of(from));
        for (int far = 0; far <= 146; far++) {
            if (reached.contains(to)) {
                return far;
            }
            Set<Integer> next = new TreeSet<>(reached);
            for (int s = 0; s < ball().struts.size(); s++) {
                int[] ends = ball().struts.get(s);
                if (keptStrut(s) && !now.missing.contains(s)) {
                    if (reached.contains(ends[0])) {
                        next.add(ends[1]);
                    }
                    if (reached.contains(ends[1])) {
                        next.add(ends[0]);
                    }
                }
            }
            reached = next;
        }
        return NOT_FOUND;
    }

    int strut(int one, int other) {
        if (noHub(one) || noHub(other)) {
            return INVALID;
        }
        int strut = ball().strutAt[one][other];
        return strut < 0 ? NOT_FOUND : strut;
    }

    int strutOf(int strut, int what) {
        if (noStrut(strut) || what < 0 || what > 8) {
            return INVALID;
        }
        switch (what) {
            case 0: return ball().struts.get(strut)[0];
            case 1: return ball().struts.get(strut)[1];
            case 2: return ball().kindOf[strut];
            case 3: return ball().length(strut, now.radius);
            case 4: return keptStrut(strut) ? 1 : 0;
            case 5: return now.missing.contains(strut) ? 1 : 0;
            case 6: return (int) ball().n(strut);
            case 7: return (int) ball().d(strut);
            default:
                Bars bars = saw(now.radius, now.bar, now.saw);
                if (bars == null) {
                    return NOT_POSSIBLE;
                }
                return keptStrut(strut) ? bars.barOf[strut] : NOT_FOUND;
        }
    }

    int kind(int kind, int what) {
        if (kind < 0 || kind >= ball().kinds.size() || what < 0 || what > 4) {
            return INVALID;
        }
        int lowest = -1;
        int[] numbers = new int[5];
        for (int s = ball().struts.size() - 1; s >= 0; s--) {
            if (ball().kindOf[s] == kind) {
                lowest = s;
                numbers[1]++;
                numbers[2] += keptStrut(s) ? 1 : 0;
                numbers[3] += keptStrut(s) && !now.missing.contains(s) ? 1 : 0;
            }
        }
        numbers[0] = ball().length(lowest, now.radius);
        numbers[4] = lowest;
        return numbers[what];
    }

    int face(int face, int what) {
        if (face < 0 || face >= ball().faces.size() || what < 0 || what > 6) {
            return INVALID;
        }
        int[] corners = ball().faces.get(face);
        if (what < 3) {
            return corners[what];
        }
        if (what == 3) {
            return keptFace(corners) ? 1 : 0;
        }
        if (what == 4) {
            return keptFace(corners) && !isHole(corners, now.missing) ? 1 : 0;
        }
        Set<Integer> kinds = new TreeSet<>();
        int sum = 0;
        for (int side : sides(corners)) {
            kinds.add(ball().kindOf[side]);
            sum += ball().length(side, now.radius);
        }
        return what == 5 ? kinds.size() : sum;
    }

    int lose(int strut) {
        if (noStrut(strut)) {
            return INVALID;
        }
        if (now.missing.contains(strut)) {
            return NOT_POSSIBLE;
        }
        if (now.missing.size() == 40) {
            return LIMIT;
        }
        int before = holes(now.missing);
        Set<Integer> missing = new TreeSet<>(now.missing);
        missing.add(strut);
        change(now.withMissing(missing));
        return holes(now.missing) - before;
    }

    int put(int strut) {
        if (noStrut(strut)) {
            return INVALID;
        }
        if (!now.missing.contains(strut)) {
            return NOT_POSSIBLE;
        }
        int before = holes(now.missing);
        Set<Integer> missing = new TreeSet<>(now.missing);
        missing.remove(strut);
        change(now.withMissing(missing));
        return before - holes(now.missing);
    }

    int mend() {
        int there = now.missing.size();
        change(now.withMissing(new TreeSet<>()));
        return there;
    }

    int worst() {
        int worst = NOT_FOUND;
        int most = -1;
        for (int s = 0; s < ball().struts.size(); s++) {
            if (keptStrut(s) && !now.missing.contains(s)) {
                Set<Integer> missing = new TreeSet<>(now.missing);
                missing.add(s);
                int holes = holes(missing);
                if (holes > most) {
                    most = holes;
                    worst = s;
                }
            }
        }
        return worst;
    }

    private static final class Bars {
        final List<Integer> left = new ArrayList<>();
        final List<Integer> pieces = new ArrayList<>();
        int[] barOf;
        int lengths = 0;
    }

    /** Answers null if a kept strut is longer than a bar. */
    private Bars saw(int radius, int bar, int saw) {
        Bars bars = new Bars();
        bars.barOf = new int[ball().struts.size()];
        for (int kind = ball().kinds.size() - 1; kind >= 0; kind--) {
            for (int s = 0; s < ball().struts.size(); s++) {
                if (ball().kindOf[s] != kind || !keptStrut(s)) {
                    continue;
                }
                int length = ball().length(s, radius);
                if (length > bar) {
                    return null;
                }
                int from = 0;
                while (from < bars.left.size() && bars.left.get(from) < length) {
                    from++;
                }
                if (from == bars.left.size()) {
                    bars.left.add(bar);
                    bars.pieces.add(0);
                }
                bars.left.set(from, Math.max(0, bars.left.get(from) - length - saw));
                bars.pieces.set(from, bars.pieces.get(from) + 1);
                bars.barOf[s] = from;
                bars.lengths += length;
            }
        }
        return bars;
    }

    int stock(int what) {
        if (what < 0 || what > 3) {
            return INVALID;
        }
        Bars bars = saw(now.radius, now.bar, now.saw);
        if (bars == null) {
            return NOT_POSSIBLE;
        }
        int number = 0;
        switch (what) {
            case 0: return bars.left.size();
            case 1:
                for (int left : bars.left) {
                    number += left;
                }
                return number;
            case 2:
                for (int pieces : bars.pieces) {
                    number = Math.max(number, pieces);
                }
                return number;
            default: return bars.lengths;
        }
    }

    int radiusFor(int asked) {
        if (asked < 1 || asked > 1000) {
            return INVALID;
        }
        for (int radius = 2000; radius >= 10; radius--) {
            Bars bars = saw(radius, now.bar, now.saw);
            if (bars != null && bars.left.size() <= asked) {
                return radius;
            }
        }
        return NOT_FOUND;
    }

    int type(int character) {
        if (character < 32 || character > 126) {
            return INVALID;
        }
        if (text.length() == 80) {
            return LIMIT;
        }
        text += (char) character;
        return text.length();
    }

    int clearText() {
        int had = text.length();
        text = "";
        return had;
    }

    /** The position and the reason of the fault, or null; the struts ahead of it go into the list. */
    private int[] faultOf(List<Integer> listed) {
        Pattern form = Pattern.compile("([0-9]{1,3})-([0-9]{1,3});");
        int at = 0;
        while (at < text.length()) {
            Matcher matcher = form.matcher(text.substring(at));
            if (!matcher.lookingAt()) {
                return new int[] {at, 1};
            }
            int one = Integer.parseInt(matcher.group(1));
            int other = Integer.parseInt(matcher.group(2));
            if (noHub(one) || noHub(other)) {
                return new int[] {at, 2};
            }
            int strut = ball().strutAt[one][other];
            if (strut < 0 || one > other) {
                return new int[] {at, 3};
            }
            if (now.missing.contains(strut)) {
                return new int[] {at, 4};
            }
            if (listed.contains(strut)) {
                return new int[] {at, 5};
            }
            listed.add(strut);
            at += matcher.end();
        }
        return null;
    }

    int fault(int what) {
        if (what < 0 || what > 1) {
            return INVALID;
        }
        int[] fault = faultOf(new ArrayList<>());
        return fault == null ? NOT_FOUND : fault[what];
    }

    int loseAll() {
        List<Integer> listed = new ArrayList<>();
        if (faultOf(listed) != null) {
            return NOT_POSSIBLE;
        }
        Set<Integer> missing = new TreeSet<>(now.missing);
        missing.addAll(listed);
        if (missing.size() > 40) {
            return LIMIT;
        }
        change(now.withMissing(missing));
        return listed.size();
    }
}
