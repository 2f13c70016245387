/** A server of files in collections: ../shared/DOC.md says what each call promises. */
public final class DavRoom {
    public static final int REFUSED = -1, NONE = -2, FULL = -3;

    private static final int FETCHED = 200, CREATED = 201, DONE = 204, LISTED = 207;
    private static final int BAD = 400, FORBIDDEN = 403, NOT_FOUND = 404, NOT_ALLOWED = 405;
    private static final int NO_HOME = 409, UNMET = 412, LOCKED = 423, NO_ROOM = 507;

    private static final int TAPE_BYTES = 400, OUT_BYTES = 400, FEED_BYTES = 20;
    private static final int LONGEST_TICK = 1000;

    private final Bytes tape = new Bytes(TAPE_BYTES);
    private final Bytes out = new Bytes(OUT_BYTES);
    private final Request asked = new Request();
    private final Tree tree = new Tree();
    private final Tree keptTree = new Tree();
    private final Locks locks = new Locks();
    private final Locks keptLocks = new Locks();
    private int clock;

    public DavRoom() {
        clock = 0;
    }

    public int feed(int a, int b, int c, int d, int e) {
        if (!tape.hasRoomFor(FEED_BYTES)) {
            return FULL;
        }
        tape.addWord(a);
        tape.addWord(b);
        tape.addWord(c);
        tape.addWord(d);
        tape.addWord(e);
        return tape.length;
    }

    public int end(int n) {
        if (n < 0 || n > tape.length) {
            return REFUSED;
        }
        tape.cutTo(n);
        return n;
    }

    public int request() {
        out.clear();
        boolean good = asked.readFirstLine(tape) && asked.readHeaders(tape) && asked.readBody(tape);
        tape.clear();
        if (!good) {
            return BAD;
        }
        Resource it = tree.find(asked.path, asked.path.length);
        if (!conditionsHold(it)) {
            return UNMET;
        }
        switch (asked.verb) {
            case Request.GET:
                return answerGet(it);
            case Request.PUT:
                return answerPut(it);
            case Request.DELETE:
                return answerDelete(it);
            case Request.MKCOL:
                return answerMkcol(it);
            case Request.COPY:
                return answerTransfer(it, false);
            case Request.MOVE:
                return answerTransfer(it, true);
            case Request.LOCK:
                return answerLock(it);
            case Request.UNLOCK:
                return answerUnlock(it);
            default:
                return answerList(it);
        }
    }

    public int octet(int k) {
        if (k == -1) {
            return out.length;
        }
        int found = out.at(k);
        return found == Bytes.ABSENT ? NONE : found;
    }

    public int tick(int n) {
        if (n < 0 || n > LONGEST_TICK) {
            return REFUSED;
        }
        clock += n;
        return locks.dropEnded(clock);
    }

    public int keep() {
        keptTree.become(tree);
        keptLocks.become(locks);
        return tree.besidesRoot();
    }

    public int crash() {
        tree.become(keptTree);
        locks.become(keptLocks);
        locks.dropEnded(clock);
        return tree.besidesRoot();
    }

    public int look(int what) {
        if (what < 0 || what > 3) {
            return REFUSED;
        }
        Resource there = tree.find(tape, tape.length);
        tape.clear();
        if (there == null) {
            return NONE;
        }
        switch (what) {
            case 0:
                return there.isFile ? 1 : 2;
            case 1:
                return there.version;
            case 2:
                return there.isFile ? there.body.length : tree.sizeAt(there.path) - 1;
            default:
                return locks.howManyCover(there.path);
        }
    }

    public int lock(int k, int what) {
        if (what < 0 || what > 4) {
            return REFUSED;
        }
        Lock found = locks.get(k);
        if (found == null) {
            return NONE;
        }
        switch (what) {
            case 0:
                return found.token;
            case 1:
                return found.endsAt;
            case 2:
                return found.deep ? 1 : 0;
            case 3:
                return found.alone ? 1 : 0;
            default:
                return found.deep ? tree.sizeAt(found.path) : 1;
        }
    }

    public int count(int what) {
        switch (what) {
            case 0:
                return clock;
            case 1:
                return tree.besidesRoot();
            case 2:
                return tree.files();
            case 3:
                return locks.size();
            case 4:
                return tree.bytes();
            default:
                return REFUSED;
        }
    }

    private boolean conditionsHold(Resource it) {
        if (asked.has(Request.NONE_MATCH) && it != null) {
            return false;
        }
        if (!asked.has(Request.MATCH)) {
            return true;
        }
        if (it == null) {
            return false;
        }
        return asked.matchesAny || it.isFile && it.version == asked.match;
    }

    private int answerGet(Resource it) {
        if (it == null) {
            return NOT_FOUND;
        }
        if (it.isFile) {
            out.addPart(it.body, 0, it.body.length);
        } else {
            tree.tellSegments(it.path, out);
        }
        return FETCHED;
    }

    private int answerPut(Resource it) {
        if (it == null) {
            int refusal = refusalOfNew();
            if (refusal == 0) {
                tree.put(tree.add(asked.path), asked.body);
            }
            return refusal == 0 ? CREATED : refusal;
        }
        if (!it.isFile) {
            return NOT_ALLOWED;
        }
        if (!locks.isFree(it.path, asked.token)) {
            return LOCKED;
        }
        tree.put(it, asked.body);
        return DONE;
    }

    private int answerMkcol(Resource it) {
        if (it != null) {
            return NOT_ALLOWED;
        }
        int refusal = refusalOfNew();
        if (refusal == 0) {
            tree.add(asked.path);
        }
        return refusal == 0 ? CREATED : refusal;
    }

    /** The status that keeps a new resource from coming to the asked path, or 0. */
    private int refusalOfNew() {
        Resource home = tree.homeOf(asked.path);
        if (home == null) {
            return NO_HOME;
        }
        if (!locks.isFree(home.path, asked.token)) {
            return LOCKED;
        }
        return tree.isFull() ? NO_ROOM : 0;
    }

    private int answerDelete(Resource it) {
        if (it == null) {
            return NOT_FOUND;
        }
        if (Paths.isRoot(it.path)) {
            return FORBIDDEN;
        }
        if (!tree.mayLeave(it, locks, asked.token)) {
            return LOCKED;
        }
        takeAway(asked.path);
        return DONE;
    }

    private int answerTransfer(Resource it, boolean moves) {
        if (it == null) {
            return NOT_FOUND;
        }
        // "/" as the source ends here too: every other path is in it.
        if (Paths.isAtOrIn(asked.to, it.path) || Paths.isAtOrIn(it.path, asked.to)) {
            return FORBIDDEN;
        }
        Resource home = tree.homeOf(asked.to);
        if (home == null || wouldBeTooDeep(it)) {
            return NO_HOME;
        }
        boolean isNew = tree.find(asked.to, asked.to.length) == null;
        if (!isNew && asked.sparesOld) {
            return UNMET;
        }
        boolean free = isNew ? locks.isFree(home.path, asked.token) : tree.areFree(asked.to, locks, asked.token);
        if (!free || moves && !tree.mayLeave(it, locks, asked.token)) {
            return LOCKED;
        }
        if (!moves && wouldBeTooMany(it)) {
            return NO_ROOM;
        }
        takeAway(asked.to);
        if (moves) {
            locks.dropAtOrIn(asked.path);
            tree.moveAll(asked.path, asked.to);
        } else {
            tree.copyAll(asked.path, asked.to, asked.depth != 0);
        }
        return isNew ? CREATED : DONE;
    }

    private boolean wouldBeTooDeep(Resource it) {
        if (asked.depth == 0) {
            return false;
        }
        int below = tree.reachOf(it.path) - Paths.segments(it.path);
        return Paths.segments(asked.to) + below > Paths.MOST_SEGMENTS;
    }

    private boolean wouldBeTooMany(Resource it) {
        int coming = asked.depth == 0 ? 1 : tree.sizeAt(it.path);
        return tree.besidesRoot() - tree.sizeAt(asked.to) + coming > Tree.MOST;
    }

    private int answerLock(Resource it) {
        if (it == null) {
            return NOT_FOUND;
        }
        int endsAt = clock + asked.term;
        if (asked.has(Request.TOKEN)) {
            Lock old = locks.covering(it.path, asked.token);
            if (old == null) {
                return UNMET;
            }
            old.endsAt = endsAt;
            tellToken(old.token);
            return FETCHED;
        }
        boolean deep = asked.depth != 0;
        if (locks.clash(it.path, deep, asked.alone)) {
            return LOCKED;
        }
        if (locks.isFull()) {
            return NO_ROOM;
        }
        tellToken(locks.add(it.path, deep, asked.alone, endsAt));
        return CREATED;
    }

    private void tellToken(int token) {
        out.addNumber(token);
        out.add(Bytes.LF);
    }

    private int answerUnlock(Resource it) {
        if (it == null) {
            return NOT_FOUND;
        }
        Lock old = locks.covering(it.path, asked.token);
        if (old == null) {
            return UNMET;
        }
        locks.drop(old.token);
        return DONE;
    }

    private int answerList(Resource it) {
        if (it == null) {
            return NOT_FOUND;
        }
        tree.tellPaths(it.path, asked.has(Request.DEPTH) ? asked.depth : 1, out);
        return LISTED;
    }

    private void takeAway(Bytes path) {
        locks.dropAtOrIn(path);
        tree.removeAll(path);
    }

    /** A row of bytes that is made once and filled again and again. */
    private static final class Bytes {
        static final int ABSENT = -1, LF = 10;

        private final byte[] cells;
        int length;

        Bytes(int most) {
            cells = new byte[Math.max(0, most)];
        }

        int at(int k) {
            return k < 0 || k >= length ? ABSENT : cells[k] & 255;
        }

        boolean hasRoomFor(int more) {
            return more <= cells.length - length;
        }

        void clear() {
            length = 0;
        }

        void cutTo(int n) {
            if (n >= 0 && n < length) {
                length = n;
            }
        }

        void add(int octet) {
            if (length < cells.length) {
                cells[length] = (byte) octet;
                length++;
            }
        }

        void addWord(int word) {
            for (int shift = 24; shift >= 0; shift -= 8) {
                add(word >>> shift);
            }
        }

        void addPart(Bytes source, int from, int until) {
            int n = Math.min(until, source.length) - from;
            if (from < 0 || n <= 0 || n > cells.length - length) {
                return;
            }
            System.arraycopy(source.cells, from, cells, length, n);
            length += n;
        }

        void addNumber(int number) {
            for (int unit = 1000000000; unit > 0; unit /= 10) {
                if (number >= unit || unit == 1) {
                    add('0' + number / unit % 10);
                }
            }
        }

        void become(Bytes other) {
            length = Math.min(other.length, cells.length);
            System.arraycopy(other.cells, 0, cells, 0, length);
        }

        /** Puts another beginning before what stands from oldHead on. */
        void replaceHead(int oldHead, Bytes head) {
            int tail = length - oldHead;
            if (oldHead < 0 || tail < 0 || head.length + tail > cells.length) {
                return;
            }
            System.arraycopy(cells, oldHead, cells, head.length, tail);
            System.arraycopy(head.cells, 0, cells, 0, head.length);
            length = head.length + tail;
        }

        boolean isSame(Bytes other) {
            return length == other.length && beginsLike(other, length);
        }

        boolean beginsLike(Bytes other, int n) {
            if (n > length || n > other.length) {
                return false;
            }
            for (int k = 0; k < n; k++) {
                if (cells[k] != other.cells[k]) {
                    return false;
                }
            }
            return true;
        }

        boolean isBefore(Bytes other) {
            int shared = Math.min(length, other.length);
            for (int k = 0; k < shared; k++) {
                int difference = (cells[k] & 255) - (other.cells[k] & 255);
                if (difference != 0) {
                    return difference < 0;
                }
            }
            return length < other.length;
        }

        boolean hasTextAt(int from, String text) {
            int n = text.length();
            if (from < 0 || n > length - from) {
                return false;
            }
            for (int k = 0; k < n; k++) {
                if ((cells[from + k] & 255) != text.charAt(k)) {
                    return false;
                }
            }
            return true;
        }

        /** Where the octet stands first, from there on, or ABSENT. */
        int indexOf(int octet, int from) {
            for (int k = Math.max(0, from); k < length; k++) {
                if (at(k) == octet) {
                    return k;
                }
            }
            return ABSENT;
        }
    }

    /** What can be told of a path from its bytes alone. */
    private static final class Paths {
        static final int MOST_SEGMENTS = 5, MOST_LETTERS = 8;
        static final int MOST_BYTES = MOST_SEGMENTS * (MOST_LETTERS + 1);

        static boolean isPath(Bytes row, int from, int until) {
            if (from >= until || row.at(from) != '/') {
                return false;
            }
            if (until - from == 1) {
                return true;
            }
            int segments = 0, letters = 0, dots = 0;
            for (int k = from + 1; k <= until; k++) {
                int octet = k == until ? '/' : row.at(k);
                if (octet == '/') {
                    if (letters == dots || letters > MOST_LETTERS) {
                        return false;
                    }
                    segments++;
                    letters = 0;
                    dots = 0;
                } else if (isLetter(octet)) {
                    letters++;
                    dots += octet == '.' ? 1 : 0;
                } else {
                    return false;
                }
            }
            return segments <= MOST_SEGMENTS;
        }

        private static boolean isLetter(int octet) {
            return octet >= 'a' && octet <= 'z' || octet >= '0' && octet <= '9' || octet == '-' || octet == '.';
        }

        static boolean isRoot(Bytes path) {
            return path.length == 1;
        }

        static boolean isAtOrIn(Bytes inner, Bytes outer) {
            int n = outer.length;
            if (!inner.beginsLike(outer, n)) {
                return false;
            }
            return inner.length == n || n == 1 || inner.at(n) == '/';
        }

        static boolean isDirectlyIn(Bytes inner, Bytes outer) {
            int n = outer.length;
            return inner.length > n && inner.beginsLike(outer, n) && homeLength(inner) == n;
        }

        /** How many of its bytes are the path of the collection that it is in. */
        static int homeLength(Bytes path) {
            int cut = 0;
            for (int k = 1; k < path.length; k++) {
                if (path.at(k) == '/') {
                    cut = k;
                }
            }
            return Math.max(1, cut);
        }

        static int segments(Bytes path) {
            if (isRoot(path)) {
                return 0;
            }
            int segments = 0;
            for (int k = 0; k < path.length; k++) {
                segments += path.at(k) == '/' ? 1 : 0;
            }
            return segments;
        }
    }

    private static final class Resource {
        static final int MOST_BYTES = 80;

        final Bytes path = new Bytes(Paths.MOST_BYTES);
        final Bytes body = new Bytes(MOST_BYTES);
        boolean isFile;
        int version;

        void become(Resource other) {
            path.become(other.path);
            body.become(other.body);
            isFile = other.isFile;
            version = other.version;
        }
    }

    /** The resources by rising bytes of paths, "/" first; behind them the spare ones. */
    private static final class Tree {
        static final int MOST = 40;

        private final Resource[] all = new Resource[MOST + 1];
        private int size;
        private int lastVersion;

        Tree() {
            for (int k = 0; k < all.length; k++) {
                all[k] = new Resource();
            }
            all[0].path.add('/');
            size = 1;
        }

        int besidesRoot() {
            return size - 1;
        }

        boolean isFull() {
            return size >= all.length;
        }

        int files() {
            int files = 0;
            for (int k = 0; k < size; k++) {
                files += all[k].isFile ? 1 : 0;
            }
            return files;
        }

        int bytes() {
            int bytes = 0;
            for (int k = 0; k < size; k++) {
                bytes += all[k].body.length;
            }
            return bytes;
        }

        /** The resource whose path is the first bytes of the row, or null. */
        Resource find(Bytes row, int length) {
            for (int k = 0; k < size; k++) {
                Bytes path = all[k].path;
                if (path.length == length && path.beginsLike(row, length)) {
                    return all[k];
                }
            }
            return null;
        }

        /** The collection that the path is in, or null if it is not there. */
        Resource homeOf(Bytes path) {
            if (Paths.isRoot(path)) {
                return null;
            }
            Resource home = find(path, Paths.homeLength(path));
            return home == null || home.isFile ? null : home;
        }

        /** How many resources are at the path or in it. */
        int sizeAt(Bytes top) {
            int found = 0;
            for (int k = 0; k < size; k++) {
                found += Paths.isAtOrIn(all[k].path, top) ? 1 : 0;
            }
            return found;
        }

        /** The most segments that a path at the top or in it has. */
        int reachOf(Bytes top) {
            int most = 0;
            for (int k = 0; k < size; k++) {
                if (Paths.isAtOrIn(all[k].path, top)) {
                    most = Math.max(most, Paths.segments(all[k].path));
                }
            }
            return most;
        }

        /** Whether all at the path and in it are free. */
        boolean areFree(Bytes top, Locks locks, int token) {
            for (int k = 0; k < size; k++) {
                if (Paths.isAtOrIn(all[k].path, top) && !locks.isFree(all[k].path, token)) {
                    return false;
                }
            }
            return true;
        }

        /** Whether it, all in it and the collection that it is in are free. */
        boolean mayLeave(Resource it, Locks locks, int token) {
            for (int k = 0; k < size; k++) {
                Bytes path = all[k].path;
                boolean changes = Paths.isAtOrIn(path, it.path) || Paths.isDirectlyIn(it.path, path);
                if (changes && !locks.isFree(path, token)) {
                    return false;
                }
            }
            return true;
        }

        /** A new collection at the path, or null if there is no place for it. */
        Resource add(Bytes path) {
            if (isFull()) {
                return null;
            }
            Resource fresh = all[size];
            fresh.path.become(path);
            fresh.body.clear();
            fresh.isFile = false;
            fresh.version = 0;
            size++;
            sort();
            return fresh;
        }

        /** Makes the resource a file of these bytes. */
        void put(Resource it, Bytes bytes) {
            if (it == null) {
                return;
            }
            it.body.become(bytes);
            it.isFile = true;
            it.version = nextVersion();
        }

        private int nextVersion() {
            lastVersion++;
            return lastVersion;
        }

        void removeAll(Bytes top) {
            int stay = 0;
            for (int k = 0; k < size; k++) {
                Resource one = all[k];
                if (!Paths.isAtOrIn(one.path, top)) {
                    // Swapped, not overwritten: what goes is a spare one afterwards.
                    all[k] = all[stay];
                    all[stay] = one;
                    stay++;
                }
            }
            size = stay;
        }

        void moveAll(Bytes from, Bytes to) {
            for (int k = 0; k < size; k++) {
                if (Paths.isAtOrIn(all[k].path, from)) {
                    all[k].path.replaceHead(from.length, to);
                }
            }
            sort();
        }

        void copyAll(Bytes from, Bytes to, boolean deep) {
            int before = size;
            for (int k = 0; k < before; k++) {
                Resource one = all[k];
                if (deep ? Paths.isAtOrIn(one.path, from) : one.path.isSame(from)) {
                    copyOne(one, from.length, to);
                }
            }
            sort();
        }

        private void copyOne(Resource one, int oldHead, Bytes to) {
            if (isFull()) {
                return;
            }
            Resource fresh = all[size];
            fresh.become(one);
            fresh.path.replaceHead(oldHead, to);
            if (fresh.isFile) {
                fresh.version = nextVersion();
            }
            size++;
        }

        private void sort() {
            for (int k = 1; k < size; k++) {
                Resource one = all[k];
                int place = k;
                while (place > 0 && one.path.isBefore(all[place - 1].path)) {
                    all[place] = all[place - 1];
                    place--;
                }
                all[place] = one;
            }
        }

        void tellSegments(Bytes top, Bytes out) {
            for (int k = 0; k < size; k++) {
                Bytes path = all[k].path;
                if (Paths.isDirectlyIn(path, top)) {
                    int slash = Paths.isRoot(top) ? 0 : top.length;
                    out.addPart(path, slash + 1, path.length);
                    out.add(Bytes.LF);
                }
            }
        }

        void tellPaths(Bytes top, int depth, Bytes out) {
            for (int k = 0; k < size; k++) {
                Bytes path = all[k].path;
                if (isWithin(path, top, depth)) {
                    if (!out.hasRoomFor(path.length + 1)) {
                        return;
                    }
                    out.addPart(path, 0, path.length);
                    out.add(Bytes.LF);
                }
            }
        }

        private static boolean isWithin(Bytes path, Bytes top, int depth) {
            if (depth == Request.ALL) {
                return Paths.isAtOrIn(path, top);
            }
            return path.isSame(top) || depth == 1 && Paths.isDirectlyIn(path, top);
        }

        /** The last version is not taken over: versions go on behind a loss of power. */
        void become(Tree other) {
            size = other.size;
            for (int k = 0; k < size; k++) {
                all[k].become(other.all[k]);
            }
        }
    }

    private static final class Lock {
        final Bytes path = new Bytes(Paths.MOST_BYTES);
        int token;
        int endsAt;
        boolean deep;
        boolean alone;

        boolean covers(Bytes other) {
            return deep ? Paths.isAtOrIn(other, path) : path.isSame(other);
        }

        void become(Lock other) {
            path.become(other.path);
            token = other.token;
            endsAt = other.endsAt;
            deep = other.deep;
            alone = other.alone;
        }
    }

    /** The locks by rising tokens; behind them the spare ones. */
    private static final class Locks {
        static final int MOST = 10;

        private final Lock[] all = new Lock[MOST];
        private int size;
        private int lastToken;

        Locks() {
            for (int k = 0; k < all.length; k++) {
                all[k] = new Lock();
            }
        }

        int size() {
            return size;
        }

        boolean isFull() {
            return size >= all.length;
        }

        Lock get(int k) {
            return k < 0 || k >= size ? null : all[k];
        }

        /** Whether no lock covers the path, or one that does has the token. */
        boolean isFree(Bytes path, int token) {
            boolean covered = false;
            for (int k = 0; k < size; k++) {
                if (all[k].covers(path)) {
                    if (all[k].token == token) {
                        return true;
                    }
                    covered = true;
                }
            }
            return !covered;
        }

        int howManyCover(Bytes path) {
            int found = 0;
            for (int k = 0; k < size; k++) {
                found += all[k].covers(path) ? 1 : 0;
            }
            return found;
        }

        /** The lock with the token, if it covers the path, or null. */
        Lock covering(Bytes path, int token) {
            for (int k = 0; k < size; k++) {
                if (all[k].token == token && all[k].covers(path)) {
                    return all[k];
                }
            }
            return null;
        }

        /** Whether a lock there would cover something that one covers, and one of the two suffers no other. */
        boolean clash(Bytes path, boolean deep, boolean alone) {
            for (int k = 0; k < size; k++) {
                Lock one = all[k];
                boolean meets = one.covers(path) || deep && Paths.isAtOrIn(one.path, path);
                if (meets && (alone || one.alone)) {
                    return true;
                }
            }
            return false;
        }

        /** The new lock's token; 0 if there is no place for it. */
        int add(Bytes path, boolean deep, boolean alone, int endsAt) {
            if (isFull()) {
                return 0;
            }
            lastToken++;
            Lock fresh = all[size];
            fresh.path.become(path);
            fresh.token = lastToken;
            fresh.endsAt = endsAt;
            fresh.deep = deep;
            fresh.alone = alone;
            size++;
            return lastToken;
        }

        void drop(int token) {
            int stay = 0;
            for (int k = 0; k < size; k++) {
                if (all[k].token != token) {
                    stay = stayAt(stay, k);
                }
            }
            size = stay;
        }

        void dropAtOrIn(Bytes top) {
            int stay = 0;
            for (int k = 0; k < size; k++) {
                if (!Paths.isAtOrIn(all[k].path, top)) {
                    stay = stayAt(stay, k);
                }
            }
            size = stay;
        }

        /** How many locks the clock has ended. */
        int dropEnded(int clock) {
            int before = size;
            int stay = 0;
            for (int k = 0; k < size; k++) {
                if (all[k].endsAt > clock) {
                    stay = stayAt(stay, k);
                }
            }
            size = stay;
            return before - stay;
        }

        /** Swaps, so that what goes is a spare one afterwards; the next place to stay at. */
        private int stayAt(int place, int k) {
            if (place < 0 || place > k || k >= all.length) {
                return place;
            }
            Lock one = all[k];
            all[k] = all[place];
            all[place] = one;
            return place + 1;
        }

        /** The last token is not taken over: tokens go on behind a loss of power. */
        void become(Locks other) {
            size = other.size;
            for (int k = 0; k < size; k++) {
                all[k].become(other.all[k]);
            }
        }
    }

    /** What a tape asks for, taken apart. */
    private static final class Request {
        static final int GET = 0, PUT = 1, DELETE = 2, MKCOL = 3, COPY = 4, MOVE = 5, LOCK = 6, UNLOCK = 7, LIST = 8;
        static final int DEPTH = 1, TO = 2, OVER = 4, MATCH = 8, NONE_MATCH = 16, TOKEN = 32, FOR = 64, SORT = 128;
        static final int ALL = 2;

        private static final int VERBS = 9, HEADERS = 8;
        private static final int MOST_DIGITS = 9, SHORTEST_TERM = 1, LONGEST_TERM = 1000, USUAL_TERM = 100;
        private static final int NO_NUMBER = -1;

        final Bytes path = new Bytes(Paths.MOST_BYTES);
        final Bytes to = new Bytes(Paths.MOST_BYTES);
        final Bytes body = new Bytes(Resource.MOST_BYTES);
        int verb;
        int depth;
        int match;
        int token;
        int term;
        boolean matchesAny;
        boolean sparesOld;
        boolean alone;
        private int seen;
        private int cursor;

        boolean has(int header) {
            return (seen & header) != 0;
        }

        private void forget() {
            path.clear();
            to.clear();
            body.clear();
            verb = GET;
            depth = ALL;
            match = NO_NUMBER;
            token = NO_NUMBER;
            term = USUAL_TERM;
            matchesAny = false;
            sparesOld = false;
            alone = true;
            seen = 0;
            cursor = 0;
        }

        boolean readFirstLine(Bytes tape) {
            forget();
            if (!readVerb(tape)) {
                return false;
            }
            int blank = tape.indexOf(' ', cursor);
            if (!tape.hasTextAt(blank, " DAV\n") || !readPath(tape, cursor, blank, path)) {
                return false;
            }
            cursor = blank + 5;
            return true;
        }

        private boolean readVerb(Bytes tape) {
            for (int k = 0; k < VERBS; k++) {
                String beginning = beginningOf(k);
                if (tape.hasTextAt(0, beginning)) {
                    verb = k;
                    cursor = beginning.length();
                    return true;
                }
            }
            return false;
        }

        private static String beginningOf(int verb) {
            switch (verb) {
                case GET:
                    return "GET ";
                case PUT:
                    return "PUT ";
                case DELETE:
                    return "DELETE ";
                case MKCOL:
                    return "MKCOL ";
                case COPY:
                    return "COPY ";
                case MOVE:
                    return "MOVE ";
                case LOCK:
                    return "LOCK ";
                case UNLOCK:
                    return "UNLOCK ";
                default:
                    return "LIST ";
            }
        }

        private static boolean readPath(Bytes tape, int from, int until, Bytes target) {
            if (!Paths.isPath(tape, from, until)) {
                return false;
            }
            target.clear();
            target.addPart(tape, from, until);
            return true;
        }

        boolean readHeaders(Bytes tape) {
            // Each header may stand once, so the empty line comes behind HEADERS of them at the latest.
            for (int k = 0; k <= HEADERS; k++) {
                if (tape.at(cursor) == Bytes.LF) {
                    cursor++;
                    return areHeadersFit();
                }
                if (!readHeader(tape)) {
                    return false;
                }
            }
            return false;
        }

        private boolean readHeader(Bytes tape) {
            int lineEnd = tape.indexOf(Bytes.LF, cursor);
            if (lineEnd == Bytes.ABSENT) {
                return false;
            }
            for (int k = 0; k < HEADERS; k++) {
                int header = 1 << k;
                String beginning = headerBeginning(header);
                if (tape.hasTextAt(cursor, beginning)) {
                    boolean fine = !has(header) && readValue(header, tape, cursor + beginning.length(), lineEnd);
                    seen |= header;
                    cursor = lineEnd + 1;
                    return fine;
                }
            }
            return false;
        }

        private static String headerBeginning(int header) {
            switch (header) {
                case DEPTH:
                    return "depth: ";
                case TO:
                    return "to: ";
                case OVER:
                    return "over: ";
                case MATCH:
                    return "match: ";
                case NONE_MATCH:
                    return "none: ";
                case TOKEN:
                    return "token: ";
                case FOR:
                    return "for: ";
                default:
                    return "sort: ";
            }
        }

        private boolean readValue(int header, Bytes tape, int from, int until) {
            switch (header) {
                case DEPTH:
                    return readDepth(tape, from, until);
                case TO:
                    return readPath(tape, from, until, to);
                case OVER:
                    sparesOld = isText(tape, from, until, "no");
                    return sparesOld || isText(tape, from, until, "yes");
                case MATCH:
                    matchesAny = isText(tape, from, until, "any");
                    match = readNumber(tape, from, until);
                    return matchesAny || match != NO_NUMBER;
                case NONE_MATCH:
                    return isText(tape, from, until, "any");
                case TOKEN:
                    token = readNumber(tape, from, until);
                    return token != NO_NUMBER;
                case FOR:
                    term = readNumber(tape, from, until);
                    return term >= SHORTEST_TERM && term <= LONGEST_TERM;
                default:
                    alone = isText(tape, from, until, "one");
                    return alone || isText(tape, from, until, "many");
            }
        }

        private boolean readDepth(Bytes tape, int from, int until) {
            if (isText(tape, from, until, "all")) {
                depth = ALL;
                return true;
            }
            depth = isText(tape, from, until, "1") ? 1 : 0;
            return depth == 1 || isText(tape, from, until, "0");
        }

        private static boolean isText(Bytes tape, int from, int until, String text) {
            return until - from == text.length() && tape.hasTextAt(from, text);
        }

        private static int readNumber(Bytes tape, int from, int until) {
            if (until <= from || until - from > MOST_DIGITS) {
                return NO_NUMBER;
            }
            int number = 0;
            for (int k = from; k < until; k++) {
                int digit = tape.at(k) - '0';
                if (digit < 0 || digit > 9) {
                    return NO_NUMBER;
                }
                number = number * 10 + digit;
            }
            return number;
        }

        private boolean areHeadersFit() {
            int needed = neededBy(verb);
            if ((seen & ~usedBy(verb)) != 0 || (seen & needed) != needed) {
                return false;
            }
            return depth != 1 || verb == LIST;
        }

        /** False if the tape has more left than the verb takes. */
        boolean readBody(Bytes tape) {
            int most = verb == PUT ? Resource.MOST_BYTES : 0;
            body.addPart(tape, cursor, tape.length);
            return tape.length - cursor <= most;
        }

        private static int usedBy(int verb) {
            switch (verb) {
                case GET:
                    return MATCH;
                case PUT:
                    return MATCH | NONE_MATCH | TOKEN;
                case DELETE:
                    return MATCH | TOKEN;
                case MKCOL:
                    return TOKEN;
                case COPY:
                    return TO | OVER | DEPTH | TOKEN;
                case MOVE:
                    return TO | OVER | TOKEN;
                case LOCK:
                    return DEPTH | FOR | SORT | TOKEN;
                case UNLOCK:
                    return TOKEN;
                default:
                    return DEPTH;
            }
        }

        private static int neededBy(int verb) {
            switch (verb) {
                case COPY:
                case MOVE:
                    return TO;
                case UNLOCK:
                    return TOKEN;
                default:
                    return 0;
            }
        }
    }
}
