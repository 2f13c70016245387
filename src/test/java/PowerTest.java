/** Promises 6, 7 and 8: tick, keep, crash. */
public final class PowerTest {
    public static void main(String[] args) {
        tickOfNone();
        tickOfAThousand();
        tickRefused();
        tickTellsHowManyEnded();
        lockWhoseEndIsTheClock();
        lockWhoseEndIsPassed();
        endedLocksHoldNothing();
        neverKept();
        keptAsItWas();
        keptTwice();
        crashTwice();
        keptEmpty();
        keptFull();
        keptLocksComeBackAsTheyWere();
        keptLocksComeBackOverOthers();
        keptLocksThatWereGone();
        keptLocksThatEndedSince();
        keptTenLocks();
        locksThatWereNotKept();
        versionsGoOn();
        tokensGoOn();
        clockTapeAndOutStay();
        keepChangesNothing();
        Room.finish();
    }

    private static void lock(Room room, String path, int term, int want) {
        room.ask("LOCK " + path + " DAV\nsort: many\nfor: " + term + "\n\n", 201, want + "\n");
    }

    private static void tickOfNone() {
        Room.about("Promise 6, n 0");
        Room room = new Room();
        room.tick(0, 0);
        room.count(0, 0);
        lock(room, "/", 1, 1);
        room.tick(0, 0);
        room.count(0, 0);
        room.count(3, 1);
    }

    private static void tickOfAThousand() {
        Room.about("Promise 6, n 999 and 1000");
        Room room = new Room();
        room.tick(1000, 0);
        room.count(0, 1000);
        room.tick(999, 0);
        room.count(0, 1999);
        room.tick(1, 0);
        room.count(0, 2000);
        Room old = new Room();
        for (int k = 1; k <= 500; k++) {
            old.tick(1000, 0);
        }
        old.count(0, 500000);
        lock(old, "/", 1000, 1);
        old.lock(0, 1, 501000);
    }

    private static void tickRefused() {
        Room.about("Promise 6, REFUSED below 0 and above 1000");
        Room room = new Room();
        lock(room, "/", 1, 1);
        for (int n : new int[] {-1, 1001, -1000, 1002, Integer.MIN_VALUE, Integer.MAX_VALUE}) {
            room.tick(n, Room.REFUSED);
            room.count(0, 0);
            room.count(3, 1);
        }
    }

    private static void tickTellsHowManyEnded() {
        Room.about("Promise 6, how many locks ended");
        Room room = new Room();
        room.tick(1000, 0);
        lock(room, "/", 5, 1);
        lock(room, "/", 3, 2);
        lock(room, "/", 5, 3);
        lock(room, "/", 1000, 4);
        room.tick(2, 0);
        room.tick(1, 1);
        room.lock(0, 0, 1);
        room.lock(1, 0, 3);
        room.tick(2, 2);
        room.tick(2, 0);
        room.lock(0, 0, 4);
        room.lock(0, 1, 2000);
        room.tick(993, 1);
        room.count(3, 0);
        for (int k = 5; k < 15; k++) {
            lock(room, "/", 1000, k);
        }
        room.tick(1000, 10);
    }

    private static void lockWhoseEndIsTheClock() {
        Room.about("Promise 6, a lock whose END is just the clock");
        for (int term : new int[] {1, 2, 100, 1000}) {
            Room room = new Room();
            room.tick(7, 0);
            lock(room, "/", term, 1);
            room.lock(0, 1, 7 + term);
            room.tick(term - 1, 0);
            room.count(3, 1);
            room.tick(1, 1);
            room.count(3, 0);
            room.tick(0, 0);
        }
    }

    private static void lockWhoseEndIsPassed() {
        Room.about("Promise 6, a lock whose END is below the clock");
        Room room = new Room();
        lock(room, "/", 10, 1);
        lock(room, "/", 12, 2);
        room.tick(11, 1);
        room.lock(0, 0, 2);
        room.tick(1000, 1);
        room.count(3, 0);
    }

    private static void endedLocksHoldNothing() {
        Room.about("Terms, at its END a lock is gone");
        Room room = new Room().with("/f");
        room.ask("LOCK /f DAV\nfor: 3\n\n", 201, "1\n");
        room.tick(2, 0);
        room.refuses("PUT /f DAV\n\n", 423);
        room.refuses("LOCK /f DAV\n\n", 423);
        room.look("/f", 3, 1);
        room.tick(1, 1);
        room.look("/f", 3, 0);
        room.refuses("LOCK /f DAV\ntoken: 1\n\n", 412);
        room.refuses("UNLOCK /f DAV\ntoken: 1\n\n", 412);
        room.ask("PUT /f DAV\n\n", 204);
        room.ask("LOCK /f DAV\n\n", 201, "2\n");
    }

    private static void neverKept() {
        Room.about("Promise 8, as at first, if never kept");
        Room room = new Room().with("/c/", "/c/f");
        lock(room, "/", 100, 1);
        room.crash(0);
        for (int what = 0; what < 5; what++) {
            room.count(what, 0);
        }
        room.has("/");
        room.look("/", 0, 2);
        room.look("/", 3, 0);
        room.with("/c/").crash(0);
    }

    private static void keptAsItWas() {
        Room.about("Promises 7 and 8, as they were kept");
        Room room = new Room().with("/c/", "/g");
        room.ask("PUT /c/f DAV\n\nold", 201);
        room.keep(3);
        room.ask("PUT /c/f DAV\n\nnewer", 204);
        room.ask("MOVE /g DAV\nto: /c/g\n\n", 201);
        room.ask("DELETE /c/f DAV\n\n", 204);
        room.with("/0/", "/0/1", "/c/f/");
        room.count(1, 5);
        room.crash(3);
        room.has("/ /c /c/f /g");
        room.ask("GET /c/f DAV\n\n", 200, "old");
        room.look("/c/f", 1, 2);
        room.look("/g", 1, 1);
        room.look("/c", 0, 2);
        room.look("/c", 1, 0);
        room.count(2, 2);
        room.count(4, 3);
    }

    private static void keptTwice() {
        Room.about("Promises 7 and 8, kept twice: the later one stands");
        Room room = new Room().with("/a", "/b/", "/b/c");
        lock(room, "/a", 100, 1);
        room.keep(3);
        room.ask("DELETE /b DAV\n\n", 204);
        room.ask("UNLOCK /a DAV\ntoken: 1\n\n", 204);
        lock(room, "/", 100, 2);
        room.keep(1);
        room.ask("DELETE /a DAV\ntoken: 2\n\n", 204);
        room.crash(1);
        room.has("/ /a");
        room.count(3, 1);
        room.lock(0, 0, 2);
        room.keep(1);
        room.keep(1);
        room.crash(1);
    }

    private static void crashTwice() {
        Room.about("Promise 8, what was kept is kept behind a crash");
        Room room = new Room().with("/a");
        room.keep(1);
        for (int k = 0; k < 3; k++) {
            room.ask("PUT /a DAV\n\nother", 204);
            room.with("/b" + k);
            room.ask("LOCK / DAV\n\n", 201, k + 1 + "\n");
            room.crash(1);
            room.has("/ /a");
            room.look("/a", 1, 1);
            room.look("/a", 2, 0);
            room.count(3, 0);
        }
        room.crash(1);
    }

    private static void keptEmpty() {
        Room.about("Promise 7, nothing but \"/\" kept");
        Room room = new Room();
        room.keep(0);
        room.with("/a", "/b");
        room.crash(0);
        room.with("/a");
        room.keep(1);
        room.ask("DELETE /a DAV\n\n", 204);
        room.keep(0);
        room.with("/a");
        room.crash(0);
        room.has("/");
    }

    private static void keptFull() {
        Room.about("Promises 7 and 8, 40 resources kept");
        Room room = new Room();
        for (int k = 0; k < 40; k++) {
            room.with("/f" + k);
        }
        room.keep(40);
        room.ask("DELETE /f39 DAV\n\n", 204);
        room.keep(39);
        room.with("/g");
        room.keep(40);
        room.ask("DELETE /f0 DAV\n\n", 204);
        room.crash(40);
        room.look("/f0", 1, 1);
        room.look("/g", 1, 41);
        room.look("/f39", 1, Room.NONE);
    }

    private static void keptLocksComeBackAsTheyWere() {
        Room.about("Promises 7 and 8, locks are those that were kept");
        Room room = new Room().with("/f", "/c/");
        lock(room, "/f", 10, 1);
        room.ask("LOCK /c DAV\ndepth: 0\nfor: 20\n\n", 201, "2\n");
        room.keep(2);
        room.ask("LOCK /f DAV\ntoken: 1\nfor: 500\n\n", 200);
        room.lock(0, 1, 500);
        room.tick(4, 0);
        room.crash(2);
        int[][] want = {{1, 10, 1, 0, 1}, {2, 20, 0, 1, 1}};
        for (int k = 0; k < 2; k++) {
            for (int what = 0; what < 5; what++) {
                room.lock(k, what, want[k][what]);
            }
        }
        room.lock(2, 0, Room.NONE);
        room.tick(6, 1);
    }

    private static void keptLocksComeBackOverOthers() {
        Room.about("Promises 7 and 8, kept locks come back where there are others since");
        Room room = new Room().with("/f", "/c/");
        lock(room, "/f", 10, 1);
        room.ask("LOCK /c DAV\ndepth: 0\nfor: 20\n\n", 201, "2\n");
        room.keep(2);
        room.ask("UNLOCK /f DAV\ntoken: 1\n\n", 204);
        room.ask("UNLOCK /c DAV\ntoken: 2\n\n", 204);
        room.ask("LOCK /c DAV\ndepth: 0\n\n", 201, "3\n");
        lock(room, "/f", 500, 4);
        lock(room, "/f", 500, 5);
        for (int times = 0; times < 2; times++) {
            room.crash(2);
            room.count(3, 2);
            int[][] want = {{1, 10, 1, 0, 1}, {2, 20, 0, 1, 1}};
            for (int k = 0; k < 2; k++) {
                for (int what = 0; what < 5; what++) {
                    room.lock(k, what, want[k][what]);
                }
            }
            room.look("/f", 3, 1);
            room.look("/c", 3, 1);
            room.ask("LOCK /f DAV\ntoken: 1\nfor: 700\n\n", 200, "1\n");
        }
    }

    private static void keptLocksThatWereGone() {
        Room.about("Promise 8, kept locks that are gone since come back");
        Room room = new Room().with("/f", "/g");
        lock(room, "/f", 100, 1);
        lock(room, "/g", 100, 2);
        room.keep(2);
        room.ask("UNLOCK /f DAV\ntoken: 1\n\n", 204);
        room.ask("DELETE /g DAV\ntoken: 2\n\n", 204);
        lock(room, "/", 100, 3);
        room.crash(2);
        room.count(3, 2);
        room.look("/f", 3, 1);
        room.look("/g", 3, 1);
        room.look("/", 3, 0);
        room.refuses("PUT /f DAV\n\n", 423);
        room.refuses("PUT /f DAV\ntoken: 2\n\n", 423);
        room.ask("PUT /f DAV\ntoken: 1\n\n", 204);
    }

    private static void keptLocksThatEndedSince() {
        Room.about("Promise 8, but those whose END is not above the clock");
        for (int clock : new int[] {9, 10, 11}) {
            Room room = new Room().with("/f");
            lock(room, "/f", 10, 1);
            lock(room, "/f", 11, 2);
            lock(room, "/f", 12, 3);
            room.keep(1);
            room.ask("UNLOCK /f DAV\ntoken: 1\n\n", 204);
            room.ask("LOCK /f DAV\ntoken: 2\nfor: 500\n\n", 200);
            room.tick(clock, 0);
            room.crash(1);
            room.count(3, 12 - clock);
            room.lock(0, 0, clock - 8);
            room.look("/f", 3, 12 - clock);
            room.tick(0, 0);
        }
    }

    private static void keptTenLocks() {
        Room.about("Promises 7 and 8, 10 locks kept");
        Room room = new Room();
        for (int k = 1; k <= 10; k++) {
            lock(room, "/", 10 + k, k);
        }
        room.keep(0);
        room.ask("UNLOCK / DAV\ntoken: 10\n\n", 204);
        room.crash(0);
        room.count(3, 10);
        room.ask("LOCK / DAV\nsort: many\n\n", 507, "");
        room.tick(11, 1);
        room.ask("LOCK / DAV\nsort: many\n\n", 201, "11\n");
        room.crash(0);
        room.count(3, 9);
    }

    private static void locksThatWereNotKept() {
        Room.about("Promise 8, locks that were not kept");
        Room room = new Room().with("/f");
        room.keep(1);
        lock(room, "/f", 100, 1);
        room.crash(1);
        room.count(3, 0);
        room.look("/f", 3, 0);
        room.ask("PUT /f DAV\n\n", 204);
        room.refuses("UNLOCK /f DAV\ntoken: 1\n\n", 412);
    }

    private static void versionsGoOn() {
        Room.about("Promise 8, VERSIONS go on");
        Room room = new Room().with("/a", "/b");
        room.crash(0);
        room.with("/a");
        room.look("/a", 1, 3);
        room.keep(1);
        room.ask("PUT /a DAV\n\n", 204);
        room.with("/c");
        room.crash(1);
        room.look("/a", 1, 3);
        room.refuses("GET /a DAV\nmatch: 4\n\n", 412);
        room.ask("GET /a DAV\nmatch: 3\n\n", 200);
        room.ask("COPY /a DAV\nto: /b\n\n", 201);
        room.look("/b", 1, 6);
    }

    private static void tokensGoOn() {
        Room.about("Promise 8, tokens go on");
        Room room = new Room();
        lock(room, "/", 100, 1);
        lock(room, "/", 100, 2);
        room.crash(0);
        lock(room, "/", 100, 3);
        room.keep(0);
        lock(room, "/", 100, 4);
        room.crash(0);
        room.lock(0, 0, 3);
        lock(room, "/", 100, 5);
        room.lock(1, 0, 5);
    }

    private static void clockTapeAndOutStay() {
        Room.about("Promise 8, clock, TAPE and OUT stay");
        Room room = new Room();
        room.tick(70, 0);
        room.keep(0);
        room.ask("PUT /f DAV\n\nout", 201);
        room.ask("GET /f DAV\n\n", 200, "out");
        room.tick(7, 0);
        room.tape("GET /f DAV\n\n");
        room.crash(0);
        Room.due("OUT", room.out(), "out");
        room.count(0, 77);
        room.end(13, Room.REFUSED);
        room.end(12, 12);
        room.request(404);
        room.octet(-1, 0);
    }

    private static void keepChangesNothing() {
        Room.about("Promise 7, what there is stays");
        Room room = new Room().with("/f", "/c/", "/c/g");
        lock(room, "/c", 9, 1);
        room.tick(3, 0);
        String before = room.state();
        room.keep(3);
        Room.due("what there is behind keep()", room.state(), before);
        room.ask("GET / DAV\n\n", 200, "c\nf\n");
        room.tape("/f");
        room.keep(3);
        Room.due("OUT", room.out(), "c\nf\n");
        room.count(0, 3);
        room.look(1, 1);
    }
}
