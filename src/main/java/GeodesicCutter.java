import java.util.Arrays;

/**
 * A cutter for geodesic domes, as ../shared/DOC.md promises it. All rows are made with the object
 * and used again, so that no call makes anything.
 */
public final class GeodesicCutter {
    public static final int INVALID_ARGUMENT = -1001;
    public static final int NOT_POSSIBLE = -1002;
    public static final int LIMIT_REACHED = -1003;
    public static final int NOT_FOUND = -1004;

    private static final int MAX_STEPS = 6;
    private static final int MAX_HUBS = 4 * MAX_STEPS * MAX_STEPS + 2;
    private static final int MAX_STRUTS = 12 * MAX_STEPS * MAX_STEPS;
    private static final int MAX_FACES = 8 * MAX_STEPS * MAX_STEPS;
    /** The most struts at one hub. */
    private static final int MAX_LINKS = 6;
    /** More than the nine kinds that 6 steps, the richest splitting, have. */
    private static final int MAX_KINDS = 16;
    private static final int MIN_RADIUS = 10;
    private static final int MAX_RADIUS = 2000;
    /** No length reaches twice this: the longest is the root of 2 times MAX_RADIUS. */
    private static final int LENGTH_TOP_BIT = 2048;
    private static final int MIN_BAR = 100;
    private static final int MAX_BAR = 20000;
    private static final int MAX_SAW = 20;
    private static final int MAX_BARS_ASKED = 1000;
    private static final int MAX_MISSING = 40;
    private static final int MAX_HISTORY = 6;
    private static final int MAX_TEXT = 80;
    private static final int MAX_DIGITS = 3;
    /** The shortest strut in a text, as "0-1;", has four characters. */
    private static final int MAX_LISTED = MAX_TEXT / 4;
    private static final int FIRST_CHARACTER = 32;
    private static final int LAST_CHARACTER = 126;

    private static final int NO_FAULT = 0;
    private static final int WRONG_FORM = 1;
    private static final int NO_SUCH_HUB = 2;
    private static final int NO_SUCH_STRUT = 3;
    private static final int ALREADY_MISSING = 4;
    private static final int ALREADY_LISTED = 5;

    /** Stands for a hub or a strut that is not there. */
    private static final int NONE = -1;

    private final Hubs hubs = new Hubs();
    private final Struts struts = new Struts();
    private final Kinds kinds = new Kinds();
    private final Faces faces = new Faces();
    private final State now = new State();
    private final History history = new History();
    private final Walk walk = new Walk();
    private final Sawmill mill = new Sawmill();
    private final Text text = new Text();
    private final Listing listing = new Listing();
    /** For each strut how many closed faces it is in. */
    private final int[] closedAt = new int[MAX_STRUTS];

    public GeodesicCutter() {
        buildBall();
    }

    // ---- splitting

    public int split(int steps) {
        if (!isWithin(steps, 1, MAX_STEPS)) {
            return INVALID_ARGUMENT;
        }
        history.store(now);
        now.steps = steps;
        now.line = -steps;
        now.putAllBack();
        buildBall();
        return hubs.count;
    }

    public int setRadius(int radius) {
        if (!isWithin(radius, MIN_RADIUS, MAX_RADIUS)) {
            return INVALID_ARGUMENT;
        }
        history.store(now);
        int previous = now.radius;
        now.radius = radius;
        return previous;
    }

    public int cutAt(int line) {
        if (!isWithin(line, -now.steps, now.steps)) {
            return INVALID_ARGUMENT;
        }
        history.store(now);
        now.line = line;
        return countKeptHubs();
    }

    public int setStock(int bar, int saw) {
        if (!isWithin(bar, MIN_BAR, MAX_BAR) || !isWithin(saw, 0, MAX_SAW)) {
            return INVALID_ARGUMENT;
        }
        if (!sawKeptStruts(bar, saw)) {
            return NOT_POSSIBLE;
        }
        history.store(now);
        now.bar = bar;
        now.saw = saw;
        return mill.bars;
    }

    public int count(int what) {
        switch (what) {
            case 0: return now.steps;
            case 1: return hubs.count;
            case 2: return struts.count;
            case 3: return faces.count;
            case 4: return kinds.count;
            case 5: return now.radius;
            case 6: return now.line;
            case 7: return countKeptHubs();
            case 8: return countKeptStruts();
            case 9: return countKeptFaces();
            case 10: return countBorderHubs();
            case 11: return countKeptMissing();
            case 12: return countHoles();
            case 13: return countKeptHubs() - countKeptStruts() + countKeptFaces();
            case 14: return now.bar;
            case 15: return now.saw;
            case 16: return history.count;
            case 17: return text.length;
            case 18: return now.missingCount;
            default: return INVALID_ARGUMENT;
        }
    }

    public int undo() {
        if (!history.restore(now)) {
            return NOT_POSSIBLE;
        }
        buildBall();
        return history.count;
    }

    // ---- hubs

    public int hub(int hub, int what) {
        if (!isHub(hub)) {
            return INVALID_ARGUMENT;
        }
        switch (what) {
            case 0: return hubs.x[hub];
            case 1: return hubs.y[hub];
            case 2: return hubs.z[hub];
            case 3: return struts.links[hub];
            case 4: return degreeOf(hub);
            case 5: return isKeptHub(hub) ? 1 : 0;
            case 6: return isBorderHub(hub) ? 1 : 0;
            case 7: return hubs.product(hub, hub);
            case 8: return hubs.countAlike(hub);
            default: return INVALID_ARGUMENT;
        }
    }

    public int hubAt(int x, int y, int z) {
        if (!isCoordinate(x) || !isCoordinate(y) || !isCoordinate(z)) {
            return INVALID_ARGUMENT;
        }
        int hub = hubs.find(x, y, z);
        return hub == NONE ? NOT_FOUND : hub;
    }

    public int joined(int hub, int index) {
        if (!isHub(hub) || index < 0) {
            return INVALID_ARGUMENT;
        }
        if (index >= struts.links[hub]) {
            return NOT_FOUND;
        }
        return struts.linkedHub[hub * MAX_LINKS + index];
    }

    public int led(int hub, int way) {
        if (!isHub(hub)) {
            return INVALID_ARGUMENT;
        }
        int x = hubs.x[hub];
        int y = hubs.y[hub];
        int z = hubs.z[hub];
        switch (way) {
            case 0: return hubs.find(-x, y, z);
            case 1: return hubs.find(x, -y, z);
            case 2: return hubs.find(x, y, -z);
            case 3: return hubs.find(-y, x, z);
            case 4: return hubs.find(y, z, x);
            case 5: return hubs.find(-x, -y, -z);
            default: return INVALID_ARGUMENT;
        }
    }

    public int way(int from, int to) {
        if (!isHub(from) || !isHub(to)) {
            return INVALID_ARGUMENT;
        }
        if (!isKeptHub(from) || !isKeptHub(to)) {
            return NOT_POSSIBLE;
        }
        walkFrom(from);
        int distance = walk.distance[to];
        return distance == NONE ? NOT_FOUND : distance;
    }

    // ---- struts and faces

    public int strut(int one, int other) {
        if (!isHub(one) || !isHub(other)) {
            return INVALID_ARGUMENT;
        }
        int strut = struts.between(one, other);
        return strut == NONE ? NOT_FOUND : strut;
    }

    public int strutOf(int strut, int what) {
        if (!isStrut(strut)) {
            return INVALID_ARGUMENT;
        }
        switch (what) {
            case 0: return struts.low[strut];
            case 1: return struts.high[strut];
            case 2: return kinds.of[strut];
            case 3: return kinds.lengthOf(kinds.of[strut], now.radius);
            case 4: return isKeptStrut(strut) ? 1 : 0;
            case 5: return now.missing[strut] ? 1 : 0;
            case 6: return kinds.n[strut];
            case 7: return kinds.d[strut];
            case 8: return barOf(strut);
            default: return INVALID_ARGUMENT;
        }
    }

    public int kind(int kind, int what) {
        if (!isWithin(kind, 0, kinds.count - 1)) {
            return INVALID_ARGUMENT;
        }
        switch (what) {
            case 0: return kinds.lengthOf(kind, now.radius);
            case 1: return countOfKind(kind, false, false);
            case 2: return countOfKind(kind, true, false);
            case 3: return countOfKind(kind, true, true);
            case 4: return kinds.lowestStrut(kind);
            default: return INVALID_ARGUMENT;
        }
    }

    public int face(int face, int what) {
        if (!isWithin(face, 0, faces.count - 1)) {
            return INVALID_ARGUMENT;
        }
        switch (what) {
            case 0:
            case 1:
            case 2: return faces.corner[3 * face + what];
            case 3: return isKeptFace(face) ? 1 : 0;
            case 4: return isClosedFace(face) ? 1 : 0;
            case 5: return countKindsOfFace(face);
            case 6: return sumLengthsOfFace(face);
            default: return INVALID_ARGUMENT;
        }
    }

    public int lose(int strut) {
        if (!isStrut(strut)) {
            return INVALID_ARGUMENT;
        }
        if (now.missing[strut]) {
            return NOT_POSSIBLE;
        }
        if (now.missingCount >= MAX_MISSING) {
            return LIMIT_REACHED;
        }
        history.store(now);
        int holesMade = countClosedFacesAt(strut);
        now.miss(strut);
        return holesMade;
    }

    public int put(int strut) {
        if (!isStrut(strut)) {
            return INVALID_ARGUMENT;
        }
        if (!now.missing[strut]) {
            return NOT_POSSIBLE;
        }
        history.store(now);
        now.putBack(strut);
        return countClosedFacesAt(strut);
    }

    public int mend() {
        history.store(now);
        int found = now.missingCount;
        now.putAllBack();
        return found;
    }

    public int worst() {
        tallyClosedFaces();
        int worst = NONE;
        for (int strut = 0; strut < struts.count; strut++) {
            if (!isKeptStrut(strut) || now.missing[strut]) {
                continue;
            }
            if (worst == NONE || closedAt[strut] > closedAt[worst]) {
                worst = strut;
            }
        }
        return worst == NONE ? NOT_FOUND : worst;
    }

    // ---- stock

    public int stock(int what) {
        if (!isWithin(what, 0, 3)) {
            return INVALID_ARGUMENT;
        }
        if (!sawKeptStruts(now.bar, now.saw)) {
            return NOT_POSSIBLE;
        }
        switch (what) {
            case 0: return mill.bars;
            case 1: return mill.sumLeft();
            case 2: return mill.mostPieces();
            default: return mill.sumLengths();
        }
    }

    public int radiusFor(int bars) {
        if (!isWithin(bars, 1, MAX_BARS_ASKED)) {
            return INVALID_ARGUMENT;
        }
        loadMill();
        // Every radius is tried: with such sawing nothing says that a smaller one needs no more bars.
        for (int radius = MAX_RADIUS; radius >= MIN_RADIUS; radius--) {
            mill.measure(kinds, radius);
            if (mill.areEnough(bars, now.bar, now.saw)) {
                return radius;
            }
        }
        return NOT_FOUND;
    }

    // ---- texts

    public int type(int character) {
        if (!isWithin(character, FIRST_CHARACTER, LAST_CHARACTER)) {
            return INVALID_ARGUMENT;
        }
        return text.append((char) character) ? text.length : LIMIT_REACHED;
    }

    public int clearText() {
        int had = text.length;
        text.length = 0;
        return had;
    }

    public int fault(int what) {
        if (!isWithin(what, 0, 1)) {
            return INVALID_ARGUMENT;
        }
        readText();
        if (listing.reason == NO_FAULT) {
            return NOT_FOUND;
        }
        return what == 0 ? listing.place : listing.reason;
    }

    public int loseAll() {
        readText();
        if (listing.reason != NO_FAULT) {
            return NOT_POSSIBLE;
        }
        if (now.missingCount + listing.count > MAX_MISSING) {
            return LIMIT_REACHED;
        }
        history.store(now);
        for (int i = 0; i < listing.count; i++) {
            now.miss(listing.struts[i]);
        }
        return listing.count;
    }

    // ---- what the calls are made of

    private static boolean isWithin(int value, int least, int most) {
        return value >= least && value <= most;
    }

    private static boolean isCoordinate(int value) {
        return isWithin(value, -MAX_STEPS, MAX_STEPS);
    }

    private boolean isHub(int hub) {
        return isWithin(hub, 0, hubs.count - 1);
    }

    private boolean isStrut(int strut) {
        return isWithin(strut, 0, struts.count - 1);
    }

    private void buildBall() {
        if (hubs.steps == now.steps) {
            return;
        }
        hubs.build(now.steps);
        struts.build(hubs);
        kinds.build(hubs, struts);
        faces.build(hubs, struts);
    }

    private boolean isKeptHub(int hub) {
        return hubs.z[hub] >= now.line;
    }

    private boolean isKeptStrut(int strut) {
        return isKeptHub(struts.low[strut]) && isKeptHub(struts.high[strut]);
    }

    private boolean isKeptFace(int face) {
        return isKeptHub(faces.corner[3 * face])
                && isKeptHub(faces.corner[3 * face + 1])
                && isKeptHub(faces.corner[3 * face + 2]);
    }

    private boolean isClosedFace(int face) {
        return isKeptFace(face)
                && !now.missing[faces.side[3 * face]]
                && !now.missing[faces.side[3 * face + 1]]
                && !now.missing[faces.side[3 * face + 2]];
    }

    private boolean isBorderHub(int hub) {
        if (!isKeptHub(hub)) {
            return false;
        }
        for (int i = 0; i < struts.links[hub]; i++) {
            if (!isKeptHub(struts.linkedHub[hub * MAX_LINKS + i])) {
                return true;
            }
        }
        return false;
    }

    private int degreeOf(int hub) {
        int degree = 0;
        for (int i = 0; i < struts.links[hub]; i++) {
            int strut = struts.linkedStrut[hub * MAX_LINKS + i];
            if (isKeptStrut(strut) && !now.missing[strut]) {
                degree++;
            }
        }
        return degree;
    }

    private int countKeptHubs() {
        int kept = 0;
        for (int hub = 0; hub < hubs.count; hub++) {
            if (isKeptHub(hub)) {
                kept++;
            }
        }
        return kept;
    }

    private int countBorderHubs() {
        int border = 0;
        for (int hub = 0; hub < hubs.count; hub++) {
            if (isBorderHub(hub)) {
                border++;
            }
        }
        return border;
    }

    private int countKeptStruts() {
        int kept = 0;
        for (int strut = 0; strut < struts.count; strut++) {
            if (isKeptStrut(strut)) {
                kept++;
            }
        }
        return kept;
    }

    private int countKeptMissing() {
        int missing = 0;
        for (int strut = 0; strut < struts.count; strut++) {
            if (isKeptStrut(strut) && now.missing[strut]) {
                missing++;
            }
        }
        return missing;
    }

    private int countKeptFaces() {
        int kept = 0;
        for (int face = 0; face < faces.count; face++) {
            if (isKeptFace(face)) {
                kept++;
            }
        }
        return kept;
    }

    private int countHoles() {
        int holes = 0;
        for (int face = 0; face < faces.count; face++) {
            if (isKeptFace(face) && !isClosedFace(face)) {
                holes++;
            }
        }
        return holes;
    }

    private int countOfKind(int kind, boolean keptOnly, boolean thereOnly) {
        int found = 0;
        for (int strut = 0; strut < struts.count; strut++) {
            if (kinds.of[strut] == kind
                    && (!keptOnly || isKeptStrut(strut))
                    && (!thereOnly || !now.missing[strut])) {
                found++;
            }
        }
        return found;
    }

    private int countKindsOfFace(int face) {
        int first = kinds.of[faces.side[3 * face]];
        int second = kinds.of[faces.side[3 * face + 1]];
        int third = kinds.of[faces.side[3 * face + 2]];
        int different = 1;
        if (second != first) {
            different++;
        }
        if (third != first && third != second) {
            different++;
        }
        return different;
    }

    private int sumLengthsOfFace(int face) {
        int sum = 0;
        for (int i = 0; i < 3; i++) {
            sum += kinds.lengthOf(kinds.of[faces.side[3 * face + i]], now.radius);
        }
        return sum;
    }

    private void tallyClosedFaces() {
        Arrays.fill(closedAt, 0);
        for (int face = 0; face < faces.count; face++) {
            if (isClosedFace(face)) {
                closedAt[faces.side[3 * face]]++;
                closedAt[faces.side[3 * face + 1]]++;
                closedAt[faces.side[3 * face + 2]]++;
            }
        }
    }

    private int countClosedFacesAt(int strut) {
        tallyClosedFaces();
        return closedAt[strut];
    }

    private void walkFrom(int from) {
        walk.begin(from);
        for (int i = 0; i < MAX_HUBS && i < walk.reached; i++) {
            int hub = walk.queue[i];
            for (int j = 0; j < struts.links[hub]; j++) {
                int strut = struts.linkedStrut[hub * MAX_LINKS + j];
                if (isKeptStrut(strut) && !now.missing[strut]) {
                    walk.reach(struts.linkedHub[hub * MAX_LINKS + j], walk.distance[hub] + 1);
                }
            }
        }
    }

    private void loadMill() {
        mill.empty();
        for (int i = 0; i < struts.count; i++) {
            int strut = kinds.sawOrder[i];
            if (isKeptStrut(strut)) {
                mill.add(strut, kinds.of[strut]);
            }
        }
    }

    /** Answers false, and saws nothing, if a kept strut is longer than a bar. */
    private boolean sawKeptStruts(int bar, int saw) {
        loadMill();
        mill.measure(kinds, now.radius);
        return mill.areEnough(MAX_STRUTS, bar, saw);
    }

    private int barOf(int strut) {
        if (!sawKeptStruts(now.bar, now.saw)) {
            return NOT_POSSIBLE;
        }
        return isKeptStrut(strut) ? mill.barOf[strut] : NOT_FOUND;
    }

    private void readText() {
        listing.empty();
        text.cursor = 0;
        for (int i = 0; i < MAX_LISTED && text.cursor < text.length; i++) {
            int place = text.cursor;
            int reason = readListedStrut();
            if (reason != NO_FAULT) {
                listing.place = place;
                listing.reason = reason;
                return;
            }
        }
    }

    private int readListedStrut() {
        if (!text.readPair()) {
            return WRONG_FORM;
        }
        if (!isHub(text.first) || !isHub(text.second)) {
            return NO_SUCH_HUB;
        }
        int strut = struts.between(text.first, text.second);
        if (strut == NONE || text.first > text.second) {
            return NO_SUCH_STRUT;
        }
        if (now.missing[strut]) {
            return ALREADY_MISSING;
        }
        return listing.add(strut) ? NO_FAULT : ALREADY_LISTED;
    }

    /** The points of the octahedron. */
    private static final class Hubs {
        final int[] x = new int[MAX_HUBS];
        final int[] y = new int[MAX_HUBS];
        final int[] z = new int[MAX_HUBS];
        int steps;
        int count;

        void build(int newSteps) {
            steps = newSteps;
            count = 0;
            for (int height = steps; height >= -steps; height--) {
                int wide = steps - Math.abs(height);
                for (int depth = -wide; depth <= wide; depth++) {
                    int rest = wide - Math.abs(depth);
                    add(-rest, depth, height);
                    if (rest > 0) {
                        add(rest, depth, height);
                    }
                }
            }
        }

        private void add(int px, int py, int pz) {
            if (count >= MAX_HUBS) {
                return;
            }
            x[count] = px;
            y[count] = py;
            z[count] = pz;
            count++;
        }

        int find(int px, int py, int pz) {
            for (int i = 0; i < count; i++) {
                if (x[i] == px && y[i] == py && z[i] == pz) {
                    return i;
                }
            }
            return NONE;
        }

        int product(int one, int other) {
            return x[one] * x[other] + y[one] * y[other] + z[one] * z[other];
        }

        boolean areNeighbours(int one, int other) {
            int gapX = gap(x[one], x[other]);
            int gapY = gap(y[one], y[other]);
            int gapZ = gap(z[one], z[other]);
            return gapX <= 1 && gapY <= 1 && gapZ <= 1 && gapX + gapY + gapZ == 2;
        }

        /** How far two absolute values differ; for opposite signs more than a strut can span. */
        private static int gap(int one, int other) {
            return one * other < 0 ? 2 : Math.abs(Math.abs(one) - Math.abs(other));
        }

        int countAlike(int hub) {
            int alike = 0;
            for (int i = 0; i < count; i++) {
                // The sum is the same for all hubs, so the third value follows from these two.
                if (greatest(i) == greatest(hub) && least(i) == least(hub)) {
                    alike++;
                }
            }
            return alike;
        }

        private int greatest(int hub) {
            return Math.max(Math.abs(x[hub]), Math.max(Math.abs(y[hub]), Math.abs(z[hub])));
        }

        private int least(int hub) {
            return Math.min(Math.abs(x[hub]), Math.min(Math.abs(y[hub]), Math.abs(z[hub])));
        }
    }

    /** The struts between the hubs, and for each hub its links: the hubs and struts at it. */
    private static final class Struts {
        final int[] low = new int[MAX_STRUTS];
        final int[] high = new int[MAX_STRUTS];
        final int[] links = new int[MAX_HUBS];
        final int[] linkedHub = new int[MAX_HUBS * MAX_LINKS];
        final int[] linkedStrut = new int[MAX_HUBS * MAX_LINKS];
        int count;

        void build(Hubs hubs) {
            count = 0;
            Arrays.fill(links, 0);
            for (int one = 0; one < hubs.count; one++) {
                for (int other = one + 1; other < hubs.count; other++) {
                    if (hubs.areNeighbours(one, other)) {
                        add(one, other);
                    }
                }
            }
        }

        private void add(int lower, int higher) {
            if (count >= MAX_STRUTS || links[lower] >= MAX_LINKS || links[higher] >= MAX_LINKS) {
                return;
            }
            low[count] = lower;
            high[count] = higher;
            link(lower, higher);
            link(higher, lower);
            count++;
        }

        /** As struts come by ascending hubs, the links of each hub ascend, too. */
        private void link(int from, int to) {
            int place = from * MAX_LINKS + links[from];
            linkedHub[place] = to;
            linkedStrut[place] = count;
            links[from]++;
        }

        int between(int one, int other) {
            for (int i = 0; i < links[one]; i++) {
                if (linkedHub[one * MAX_LINKS + i] == other) {
                    return linkedStrut[one * MAX_LINKS + i];
                }
            }
            return NONE;
        }
    }

    /** The kinds of struts, told apart by the exact fraction n * n / d. */
    private static final class Kinds {
        final int[] n = new int[MAX_STRUTS];
        final int[] d = new int[MAX_STRUTS];
        final int[] of = new int[MAX_STRUTS];
        /** The struts by descending kinds, those of one kind by ascending numbers. */
        final int[] sawOrder = new int[MAX_STRUTS];
        private final int[] kindN = new int[MAX_KINDS];
        private final int[] kindD = new int[MAX_KINDS];
        private int strutCount;
        int count;

        void build(Hubs hubs, Struts struts) {
            count = 0;
            strutCount = struts.count;
            for (int strut = 0; strut < strutCount; strut++) {
                int one = struts.low[strut];
                int other = struts.high[strut];
                n[strut] = hubs.product(one, other);
                d[strut] = hubs.product(one, one) * hubs.product(other, other);
                include(n[strut], d[strut]);
            }
            for (int strut = 0; strut < strutCount; strut++) {
                of[strut] = placeOf(n[strut], d[strut]);
            }
            sortForSawing();
        }

        /** The number of the first kind whose fraction is not greater than that of the strut. */
        private int placeOf(int strutN, int strutD) {
            for (int kind = 0; kind < count; kind++) {
                if (compareWithKind(strutN, strutD, kind) >= 0) {
                    return kind;
                }
            }
            return count;
        }

        private int compareWithKind(int strutN, int strutD, int kind) {
            return Integer.compare(strutN * strutN * kindD[kind], kindN[kind] * kindN[kind] * strutD);
        }

        private void include(int strutN, int strutD) {
            int place = placeOf(strutN, strutD);
            boolean isKnown = place < count && compareWithKind(strutN, strutD, place) == 0;
            if (isKnown || count >= MAX_KINDS) {
                return;
            }
            for (int kind = count; kind > place; kind--) {
                kindN[kind] = kindN[kind - 1];
                kindD[kind] = kindD[kind - 1];
            }
            kindN[place] = strutN;
            kindD[place] = strutD;
            count++;
        }

        private void sortForSawing() {
            int place = 0;
            for (int kind = count - 1; kind >= 0; kind--) {
                for (int strut = 0; strut < strutCount; strut++) {
                    if (of[strut] == kind) {
                        sawOrder[place] = strut;
                        place++;
                    }
                }
            }
        }

        int lowestStrut(int kind) {
            for (int strut = 0; strut < strutCount; strut++) {
                if (of[strut] == kind) {
                    return strut;
                }
            }
            return NONE;
        }

        int lengthOf(int kind, int radius) {
            int length = 0;
            for (int bit = LENGTH_TOP_BIT; bit > 0; bit >>= 1) {
                if (reaches(length + bit, kind, radius)) {
                    length += bit;
                }
            }
            return length;
        }

        private boolean reaches(int length, int kind, int radius) {
            long twice = 2L * radius * radius;
            long rest = twice - (long) length * length;
            return rest >= 0 && rest * rest * kindD[kind] >= twice * twice * kindN[kind] * kindN[kind];
        }
    }

    /** The faces, with three corners (hubs) and three sides (struts) each. */
    private static final class Faces {
        final int[] corner = new int[3 * MAX_FACES];
        final int[] side = new int[3 * MAX_FACES];
        int count;

        void build(Hubs hubs, Struts struts) {
            count = 0;
            for (int hub = 0; hub < hubs.count; hub++) {
                for (int i = 0; i < struts.links[hub]; i++) {
                    for (int j = i + 1; j < struts.links[hub]; j++) {
                        addBetween(struts, hub, hub * MAX_LINKS + i, hub * MAX_LINKS + j);
                    }
                }
            }
        }

        /** Adds the face of a hub and two of its links, if it is one and the hub is its lowest. */
        private void addBetween(Struts struts, int hub, int firstLink, int secondLink) {
            int middle = struts.linkedHub[firstLink];
            int highest = struts.linkedHub[secondLink];
            int opposite = struts.between(middle, highest);
            if (middle < hub || opposite == NONE || count >= MAX_FACES) {
                return;
            }
            corner[3 * count] = hub;
            corner[3 * count + 1] = middle;
            corner[3 * count + 2] = highest;
            side[3 * count] = struts.linkedStrut[firstLink];
            side[3 * count + 1] = struts.linkedStrut[secondLink];
            side[3 * count + 2] = opposite;
            count++;
        }
    }

    /** All that a change may change. */
    private static final class State {
        int steps = 2;
        int radius = 1000;
        int line = -2;
        int bar = 6000;
        int saw = 3;
        int missingCount = 0;
        final boolean[] missing = new boolean[MAX_STRUTS];

        void copyFrom(State other) {
            steps = other.steps;
            radius = other.radius;
            line = other.line;
            bar = other.bar;
            saw = other.saw;
            missingCount = other.missingCount;
            System.arraycopy(other.missing, 0, missing, 0, MAX_STRUTS);
        }

        void miss(int strut) {
            missing[strut] = true;
            missingCount++;
        }

        void putBack(int strut) {
            missing[strut] = false;
            missingCount--;
        }

        void putAllBack() {
            for (int strut = 0; strut < MAX_STRUTS; strut++) {
                missing[strut] = false;
            }
            missingCount = 0;
        }
    }

    /** The latest states, the oldest one first; dropped ones are used again. */
    private static final class History {
        private final State[] states = new State[MAX_HISTORY];
        int count;

        History() {
            for (int i = 0; i < MAX_HISTORY; i++) {
                states[i] = new State();
            }
        }

        void store(State state) {
            if (count >= MAX_HISTORY) {
                dropOldest();
            }
            states[count].copyFrom(state);
            count++;
        }

        private void dropOldest() {
            State oldest = states[0];
            for (int i = 1; i < MAX_HISTORY; i++) {
                states[i - 1] = states[i];
            }
            states[MAX_HISTORY - 1] = oldest;
            count--;
        }

        boolean restore(State state) {
            if (count <= 0) {
                return false;
            }
            count--;
            state.copyFrom(states[count]);
            return true;
        }
    }

    /** The hubs that a walk has reached, in the order of their distances. */
    private static final class Walk {
        final int[] distance = new int[MAX_HUBS];
        final int[] queue = new int[MAX_HUBS];
        int reached;

        void begin(int from) {
            Arrays.fill(distance, NONE);
            reached = 0;
            reach(from, 0);
        }

        void reach(int hub, int far) {
            if (distance[hub] != NONE || reached >= MAX_HUBS) {
                return;
            }
            distance[hub] = far;
            queue[reached] = hub;
            reached++;
        }
    }

    /** Saws bars into the struts that it is given, the longest ones first. */
    private static final class Sawmill {
        private final int[] strut = new int[MAX_STRUTS];
        private final int[] kindOf = new int[MAX_STRUTS];
        private int waiting;
        private final int[] length = new int[MAX_KINDS];
        private final int[] left = new int[MAX_STRUTS];
        private final int[] pieces = new int[MAX_STRUTS];
        final int[] barOf = new int[MAX_STRUTS];
        int bars;

        void empty() {
            waiting = 0;
        }

        /** Struts must come by descending kinds, those of one kind by ascending numbers. */
        void add(int newStrut, int kind) {
            if (waiting >= MAX_STRUTS) {
                return;
            }
            strut[waiting] = newStrut;
            kindOf[waiting] = kind;
            waiting++;
        }

        void measure(Kinds kinds, int radius) {
            for (int kind = 0; kind < kinds.count; kind++) {
                length[kind] = kinds.lengthOf(kind, radius);
            }
        }

        /** Answers whether so many bars are enough; if so, they are sawn. */
        boolean areEnough(int most, int bar, int saw) {
            if (waiting > 0 && length[kindOf[0]] > bar) {
                return false;
            }
            // A bar gives no more than itself and one cut; this spares most of the sawing.
            if (sumLengths() + waiting * saw > most * (bar + saw)) {
                return false;
            }
            return sawInto(most, bar, saw);
        }

        private boolean sawInto(int most, int bar, int saw) {
            bars = 0;
            int from = 0;
            for (int i = 0; i < waiting; i++) {
                int need = length[kindOf[i]];
                // A bar that was too short stays so for its kind, but a shorter kind may fit.
                if (i > 0 && kindOf[i] != kindOf[i - 1]) {
                    from = 0;
                }
                while (from < bars && left[from] < need) {
                    from++;
                }
                if (from == bars && !beginBar(most, bar)) {
                    return false;
                }
                left[from] = Math.max(0, left[from] - need - saw);
                pieces[from]++;
                barOf[strut[i]] = from;
            }
            return true;
        }

        private boolean beginBar(int most, int bar) {
            if (bars >= most || bars >= MAX_STRUTS) {
                return false;
            }
            left[bars] = bar;
            pieces[bars] = 0;
            bars++;
            return true;
        }

        int sumLengths() {
            int sum = 0;
            for (int i = 0; i < waiting; i++) {
                sum += length[kindOf[i]];
            }
            return sum;
        }

        int sumLeft() {
            int sum = 0;
            for (int i = 0; i < bars; i++) {
                sum += left[i];
            }
            return sum;
        }

        int mostPieces() {
            int most = 0;
            for (int i = 0; i < bars; i++) {
                most = Math.max(most, pieces[i]);
            }
            return most;
        }
    }

    /** The text, and a cursor that reads it. */
    private static final class Text {
        private final char[] characters = new char[MAX_TEXT];
        int length;
        int cursor;
        int first;
        int second;

        boolean append(char character) {
            if (length >= MAX_TEXT) {
                return false;
            }
            characters[length] = character;
            length++;
            return true;
        }

        /** Reads two numbers of the form "0-1;" at the cursor; answers whether they stand there. */
        boolean readPair() {
            first = readNumber();
            if (first == NONE || !readSign('-')) {
                return false;
            }
            second = readNumber();
            return second != NONE && readSign(';');
        }

        private int readNumber() {
            int number = 0;
            int digits = 0;
            while (digits < MAX_DIGITS && isAtDigit()) {
                number = 10 * number + characters[cursor] - '0';
                cursor++;
                digits++;
            }
            return digits == 0 ? NONE : number;
        }

        private boolean isAtDigit() {
            return cursor < length && characters[cursor] >= '0' && characters[cursor] <= '9';
        }

        private boolean readSign(char sign) {
            if (cursor >= length || characters[cursor] != sign) {
                return false;
            }
            cursor++;
            return true;
        }
    }

    /** The struts that a text lists, up to its fault. */
    private static final class Listing {
        final int[] struts = new int[MAX_LISTED];
        int count;
        int reason;
        /** Where the fault is, if there is a reason. */
        int place;

        void empty() {
            count = 0;
            reason = NO_FAULT;
        }

        /** Answers false if the strut is listed already. */
        boolean add(int strut) {
            for (int i = 0; i < count; i++) {
                if (struts[i] == strut) {
                    return false;
                }
            }
            if (count < MAX_LISTED) {
                struts[count] = strut;
                count++;
            }
            return true;
        }
    }
}
