/** Promises 9, 10 and 11: look, lock, count. */
public final class ToldTest {
    private static final int LEAST = Integer.MIN_VALUE, MOST = Integer.MAX_VALUE;

    public static void main(String[] args) {
        lookAtKinds();
        lookAtVersions();
        lookAtBytes();
        lookAtWhatIsInIt();
        lookAtLocks();
        lookRefusedFirst();
        lookAtNone();
        lookWithAnEmptyTape();
        lookAtTheLongestPath();
        lockTellsEach();
        lockByRisingTokens();
        lockAtTheNumberOfLocks();
        lockBelowZero();
        lockRefusedFirst();
        lockCoversHowMany();
        countOfEach();
        countRefused();
        Room.finish();
    }

    private static Room filled() {
        Room room = new Room().with("/c/");
        room.ask("PUT /c/f DAV\n\n12345", 201);
        room.with("/c/d/", "/c/d/g");
        room.ask("PUT /c- DAV\n\n123", 201);
        return room;
    }

    private static void lookAtKinds() {
        Room.about("Promise 9, what 0: 1 a FILE, 2 a COLLECTION");
        Room room = filled();
        room.look("/", 0, 2);
        room.look("/c", 0, 2);
        room.look("/c/d", 0, 2);
        room.look("/c/f", 0, 1);
        room.look("/c-", 0, 1);
    }

    private static void lookAtVersions() {
        Room.about("Promise 9, what 1: its VERSION (0 of collections)");
        Room room = filled();
        room.look("/", 1, 0);
        room.look("/c", 1, 0);
        room.look("/c/f", 1, 1);
        room.look("/c/d/g", 1, 2);
        room.look("/c-", 1, 3);
        room.ask("MOVE /c/d DAV\nto: /c-\n\n", 204);
        room.look("/c-", 1, 0);
    }

    private static void lookAtBytes() {
        Room.about("Promise 9, what 2: how many bytes");
        Room room = filled();
        room.look("/c/d/g", 2, 0);
        room.look("/c-", 2, 3);
        room.look("/c/f", 2, 5);
        room.ask("PUT /c/f DAV\n\n" + "y".repeat(80), 204);
        room.look("/c/f", 2, 80);
        room.ask("PUT /c/f DAV\n\n", 204);
        room.look("/c/f", 2, 0);
    }

    private static void lookAtWhatIsInIt() {
        Room.about("Promise 9, what 2: how many resources in it at any depth");
        Room room = filled();
        room.look("/", 2, 5);
        room.look("/c", 2, 3);
        room.look("/c/d", 2, 1);
        room.ask("DELETE /c/d/g DAV\n\n", 204);
        room.look("/c/d", 2, 0);
        room.look("/", 2, 4);
    }

    private static void lookAtLocks() {
        Room.about("Promise 9, what 3: how many locks cover it");
        Room room = filled();
        room.ask("LOCK /c DAV\nsort: many\n\n", 201);
        room.ask("LOCK /c/f DAV\nsort: many\n\n", 201);
        room.ask("LOCK /c DAV\nsort: many\ndepth: 0\n\n", 201);
        room.look("/", 3, 0);
        room.look("/c", 3, 2);
        room.look("/c/f", 3, 2);
        room.look("/c/d/g", 3, 1);
        room.look("/c-", 3, 0);
        for (int k = 0; k < 7; k++) {
            room.ask("LOCK / DAV\nsort: many\n\n", 201);
        }
        room.look("/c/f", 3, 9);
        room.look("/", 3, 7);
        room.ask("UNLOCK /c DAV\ntoken: 1\n\n", 204);
        room.look("/c", 3, 8);
    }

    private static void lookRefusedFirst() {
        Room.about("Promise 9, REFUSED for another what, first (the TAPE stays)");
        int[] others = {-1, 4, 5, LEAST, MOST};
        Room room = filled();
        room.tape("/c/f");
        for (int what : others) {
            room.look(what, Room.REFUSED);
            room.end(4, 4);
        }
        room.look(2, 5);
        for (int what : others) {
            room.look(what, Room.REFUSED);
            room.look("/q", what, Room.REFUSED);
            room.end(2, 2);
            room.end(0, 0);
        }
        room.tape("/");
        room.look(-1, Room.REFUSED);
        room.look(0, 2);
        room.look(4, Room.REFUSED);
    }

    private static void lookAtNone() {
        Room.about("Promise 9, NONE if there is none");
        for (int what = 0; what < 4; what++) {
            Room room = filled();
            for (String path : new String[] {"c", "/q", "/c/", "//", "/c/f/x", "/c ", " /c", "/C", "/c/q", "\u00af", "/c\u0000", "\u0000", "/c\n", "/.", "/..", "/c/.",
                "/c/../c", "/c//f", "/".repeat(400), "GET / DAV\n\n"}) {
                room.look(path, what, Room.NONE);
            }
            room.feed(1, 2, 3, 4, 5, 20);
        }
    }

    private static void lookWithAnEmptyTape() {
        Room.about("Promise 9, an empty TAPE");
        Room room = filled();
        for (int what = 0; what < 4; what++) {
            room.look(what, Room.NONE);
        }
        room.look(4, Room.REFUSED);
        room.tape("/");
        room.look(0, 2);
        room.look(0, Room.NONE);
    }

    private static void lookAtTheLongestPath() {
        Room.about("Promise 9, a path of 5 SEGMENTS of 8 letters");
        Room room = new Room();
        String path = "";
        for (int k = 0; k < 5; k++) {
            path += "/abcdefgh";
            room.with(path + "/");
        }
        room.look(path, 0, 2);
        room.look(path, 2, 0);
        room.look(path + "/", 0, Room.NONE);
        room.look(path + "/a", 0, Room.NONE);
        room.look(path + "i", 0, Room.NONE);
        room.look(path.substring(0, 44), 0, Room.NONE);
        room.look(path.substring(0, 36), 0, 2);
    }

    private static Room locked() {
        Room room = filled();
        room.tick(5, 0);
        room.ask("LOCK / DAV\nsort: many\n\n", 201);
        room.ask("LOCK /c DAV\nsort: many\nfor: 3\n\n", 201);
        room.ask("LOCK /c DAV\nsort: many\ndepth: 0\n\n", 201);
        return room;
    }

    private static void lockTellsEach() {
        Room.about("Promise 10, each what");
        Room room = locked();
        int[][] want = {{1, 105, 1, 0, 6}, {2, 8, 1, 0, 4}, {3, 105, 0, 0, 1}};
        for (int k = 0; k < 3; k++) {
            for (int what = 0; what < 5; what++) {
                room.lock(k, what, want[k][what]);
            }
        }
        room.ask("UNLOCK / DAV\ntoken: 1\n\n", 204);
        room.ask("LOCK /c- DAV\n\n", 201);
        room.lock(2, 2, 1);
        room.lock(2, 3, 1);
    }

    private static void lockByRisingTokens() {
        Room.about("Promise 10, the k-th lock by rising tokens");
        Room room = locked();
        room.ask("LOCK / DAV\ntoken: 1\nfor: 1000\n\n", 200);
        room.lock(0, 0, 1);
        room.lock(0, 1, 1005);
        room.ask("UNLOCK /c DAV\ntoken: 2\n\n", 204);
        room.lock(0, 0, 1);
        room.lock(1, 0, 3);
        room.lock(2, 0, Room.NONE);
        room.ask("LOCK /c DAV\nsort: many\n\n", 201);
        room.ask("UNLOCK / DAV\ntoken: 1\n\n", 204);
        room.lock(0, 0, 3);
        room.lock(1, 0, 4);
        room.lock(2, 0, Room.NONE);
    }

    private static void lockAtTheNumberOfLocks() {
        Room.about("Promise 10, NONE for k that is the number of locks");
        Room room = new Room();
        for (int locks = 0; locks <= 10; locks++) {
            for (int what = 0; what < 5; what++) {
                room.lock(locks, what, Room.NONE);
            }
            room.lock(locks + 1, 0, Room.NONE);
            room.lock(MOST, 0, Room.NONE);
            if (locks > 0) {
                room.lock(locks - 1, 0, locks);
            }
            room.ask("LOCK / DAV\nsort: many\n\n", locks < 10 ? 201 : 507);
        }
    }

    private static void lockBelowZero() {
        Room.about("Promise 10, NONE for k below 0");
        for (Room room : new Room[] {new Room(), locked()}) {
            for (int what = 0; what < 5; what++) {
                room.lock(-1, what, Room.NONE);
                room.lock(LEAST, what, Room.NONE);
            }
        }
    }

    private static void lockRefusedFirst() {
        Room.about("Promise 10, REFUSED for another what, first");
        for (Room room : new Room[] {new Room(), locked()}) {
            for (int what : new int[] {-1, 5, 6, LEAST, MOST}) {
                for (int k : new int[] {0, -1, 2, 3, 10, LEAST, MOST}) {
                    room.lock(k, what, Room.REFUSED);
                }
            }
        }
    }

    private static void lockCoversHowMany() {
        Room.about("Promise 10, how many resources it covers (\"/\" and its own counted)");
        Room room = filled();
        room.ask("LOCK / DAV\ndepth: 0\nsort: many\n\n", 201);
        room.lock(0, 4, 1);
        room.ask("LOCK / DAV\nsort: many\n\n", 201);
        room.lock(1, 4, 6);
        room.ask("LOCK /c/f DAV\nsort: many\n\n", 201);
        room.lock(2, 4, 1);
        room.ask("LOCK /c/d DAV\nsort: many\n\n", 201);
        room.lock(3, 4, 2);
        room.ask("DELETE /c/d/g DAV\ntoken: 2\n\n", 204);
        room.lock(3, 4, 1);
        room.lock(1, 4, 5);
        Room alone = new Room();
        alone.ask("LOCK / DAV\n\n", 201);
        alone.lock(0, 4, 1);
    }

    private static void countOfEach() {
        Room.about("Promise 11, each what");
        Room room = filled();
        room.tick(9, 0);
        room.ask("LOCK / DAV\n\n", 201);
        int[] want = {9, 5, 3, 1, 8};
        for (int what = 0; what < 5; what++) {
            room.count(what, want[what]);
        }
        room.ask("DELETE /c DAV\ntoken: 1\n\n", 204);
        room.count(1, 1);
        room.count(2, 1);
        room.count(3, 1);
        room.count(4, 3);
        room.ask("DELETE /c- DAV\ntoken: 1\n\n", 204);
        room.count(1, 0);
        room.count(2, 0);
        room.count(4, 0);
    }

    private static void countRefused() {
        Room.about("Promise 11, REFUSED for others");
        Room room = filled();
        for (int what : new int[] {-1, 5, 6, LEAST, MOST}) {
            room.count(what, Room.REFUSED);
        }
    }
}
