/** Promise 4: LOCKS, LOCK and UNLOCK. */
public final class LocksTest {
    private static final String[] ALL = {"/", "/c", "/c/d", "/c/d/f", "/c/e", "/c-", "/x"};

    public static void main(String[] args) {
        lockOfNone();
        lockAsUsual();
        lockWithAllHeaders();
        lockOfEachDepth();
        lockEndsFromNow();
        coversAtAnyDepth();
        coversWhatComesLater();
        everyTwoLocks();
        manyOnOne();
        tokensFromOneOn();
        refreshEndsFromNow();
        refreshKeepsSortAndDepth();
        refreshWhereItCovers();
        refreshOfNoneSuch();
        unlockWhereItCovers();
        unlockOfNoneSuch();
        unlockOneOfSeveral();
        tokensOfOtherLocks();
        tokenOfOneForEach();
        goneWithTheResource();
        goneWhenCopiedOver();
        goneWhenMoved();
        goneWhenMovedOver();
        staysWhenPutOrCopied();
        comesAnew();
        Room.finish();
    }

    /** "/c", "/c/d", "/c/d/f", "/c/e", "/c-", "/x". */
    private static Room filled() {
        return new Room().with("/c/", "/c/d/", "/c/d/f", "/c/e", "/c-", "/x/");
    }

    private static void lock(Room room, String path, String headers, int want, String wantOut) {
        room.ask("LOCK " + path + " DAV\n" + headers + "\n", want, wantOut);
    }

    private static void tells(Room room, int k, int... want) {
        for (int what = 0; what < want.length; what++) {
            room.lock(k, what, want[what]);
        }
    }

    private static void lockOfNone() {
        Room.about("LOCK, 404 without a resource");
        Room room = filled();
        room.refuses("LOCK /q DAV\n\n", 404);
        lock(room, "/c/q", "", 404, "");
        lock(room, "/x/q", "token: 1\n", 404, "");
        lock(room, "/c/d/f/q", "depth: 0\n", 404, "");
        lock(room, "/c/d/f", "", 201, "1\n");
    }

    private static void lockAsUsual() {
        Room.about("LOCK without a header: 100 from now, sort one, DEEP");
        Room room = filled();
        lock(room, "/c", "", 201, "1\n");
        tells(room, 0, 1, 100, 1, 1, 4);
    }

    private static void lockWithAllHeaders() {
        Room.about("LOCK with depth, for and sort");
        Room room = filled();
        lock(room, "/c", "depth: 0\nfor: 30\nsort: many\n", 201, "1\n");
        tells(room, 0, 1, 30, 0, 0, 1);
        lock(room, "/x", "depth: all\nfor: 1000\nsort: one\n", 201, "2\n");
        tells(room, 1, 2, 1000, 1, 1, 1);
    }

    private static void lockOfEachDepth() {
        Room.about("LOCK, DEEP without depth or with all");
        Room room = filled();
        lock(room, "/c", "sort: many\n", 201, "1\n");
        lock(room, "/c", "sort: many\ndepth: all\n", 201, "2\n");
        lock(room, "/c", "sort: many\ndepth: 0\n", 201, "3\n");
        room.lock(0, 2, 1);
        room.lock(1, 2, 1);
        room.lock(2, 2, 0);
    }

    private static void lockEndsFromNow() {
        Room.about("LOCK, so long (for, else 100) from now");
        Room room = filled();
        room.tick(7, 0);
        lock(room, "/c", "for: 1\n", 201, "1\n");
        lock(room, "/x", "for: 1000\n", 201, "2\n");
        lock(room, "/c-", "", 201, "3\n");
        room.lock(0, 1, 8);
        room.lock(1, 1, 1007);
        room.lock(2, 1, 107);
        room.tick(1, 1);
        room.tick(98, 0);
        room.tick(1, 1);
        room.tick(899, 0);
        room.tick(1, 1);
    }

    private static void coversAtAnyDepth() {
        Room.about("a lock COVERS its resource, and, DEEP, all that are in it, at any depth");
        for (String top : ALL) {
            for (boolean deep : new boolean[] {false, true}) {
                Room room = filled();
                lock(room, top, deep ? "" : "depth: 0\n", 201, "1\n");
                int covered = 0;
                for (String path : ALL) {
                    boolean covers = covers(top, deep, path);
                    covered += covers ? 1 : 0;
                    room.look(path, 3, covers ? 1 : 0);
                }
                room.lock(0, 4, covered);
            }
        }
        Room deepest = new Room().with("/1/", "/1/2/", "/1/2/3/", "/1/2/3/4/", "/1/2/3/4/5");
        lock(deepest, "/", "", 201, "1\n");
        deepest.look("/1/2/3/4/5", 3, 1);
        deepest.lock(0, 4, 6);
    }

    private static boolean covers(String top, boolean deep, String path) {
        return path.equals(top) || deep && path.startsWith(top.equals("/") ? "/" : top + "/");
    }

    private static void coversWhatComesLater() {
        Room.about("a DEEP lock COVERS what comes into its resource, and not what goes out of it");
        Room room = filled();
        lock(room, "/x", "", 201, "1\n");
        room.ask("PUT /x/n DAV\ntoken: 1\n\n", 201);
        room.ask("MOVE /c DAV\nto: /x/c\ntoken: 1\n\n", 201);
        room.look("/x/n", 3, 1);
        room.look("/x/c/d/f", 3, 1);
        room.lock(0, 4, 6);
        room.ask("MOVE /x/c/d DAV\nto: /d\ntoken: 1\n\n", 201);
        room.look("/d/f", 3, 0);
        room.lock(0, 4, 4);
        room.ask("COPY /x/n DAV\nto: /n\n\n", 201);
        room.look("/n", 3, 0);
    }

    /** Each two places, depths and sorts: 423 if some resource would be covered by both and one has the sort one. */
    private static void everyTwoLocks() {
        for (String first : ALL) {
            for (String second : ALL) {
                for (int kinds = 0; kinds < 16; kinds++) {
                    twoLocks(first, second, kinds);
                }
            }
        }
    }

    private static void twoLocks(String first, String second, int kinds) {
        boolean firstDeep = (kinds & 1) != 0, secondDeep = (kinds & 2) != 0;
        String one = (firstDeep ? "" : "depth: 0\n") + ((kinds & 4) != 0 ? "sort: one\n" : "sort: many\n");
        String other = (secondDeep ? "depth: all\n" : "depth: 0\n") + ((kinds & 8) != 0 ? "" : "sort: many\n");
        boolean together = false;
        for (String path : ALL) {
            together |= covers(first, firstDeep, path) && covers(second, secondDeep, path);
        }
        boolean clash = together && (kinds & 12) != 0;
        Room.about("LOCK of " + second + " with " + Room.shown(other) + " behind one of " + first + " with " + Room.shown(one));
        Room room = filled();
        lock(room, first, one, 201, "1\n");
        lock(room, second, other, clash ? 423 : 201, clash ? "" : "2\n");
        room.count(3, clash ? 1 : 2);
    }

    private static void manyOnOne() {
        Room.about("LOCK, any one of several locks may stand against it");
        Room room = filled();
        lock(room, "/c", "sort: many\n", 201, "1\n");
        lock(room, "/c", "sort: many\n", 201, "2\n");
        lock(room, "/c/d", "sort: many\n", 201, "3\n");
        lock(room, "/", "sort: many\n", 201, "4\n");
        lock(room, "/c/d/f", "", 423, "");
        lock(room, "/x", "", 423, "");
        room.ask("UNLOCK / DAV\ntoken: 4\n\n", 204);
        lock(room, "/x", "", 201, "5\n");
        lock(room, "/", "sort: many\n", 423, "");
        lock(room, "/", "sort: many\ndepth: 0\n", 201, "6\n");
        lock(room, "/c", "sort: many\n", 201, "7\n");
    }

    private static void tokensFromOneOn() {
        Room.about("a token, a number that none had before, from 1 on");
        Room room = filled();
        lock(room, "/c", "", 201, "1\n");
        lock(room, "/c", "", 423, "");
        lock(room, "/q", "", 404, "");
        lock(room, "/c", "token: 7\n", 412, "");
        lock(room, "/c", "token: 1\n", 200, "1\n");
        lock(room, "/x", "", 201, "2\n");
        room.ask("UNLOCK /x DAV\ntoken: 2\n\n", 204);
        lock(room, "/x", "", 201, "3\n");
        room.tick(100, 2);
        for (int k = 4; k <= 13; k++) {
            lock(room, "/x", "sort: many\n", 201, k + "\n");
        }
        lock(room, "/x", "sort: many\n", 507, "");
        room.ask("UNLOCK /x DAV\ntoken: 13\n\n", 204);
        lock(room, "/x", "sort: many\n", 201, "14\n");
    }

    private static void refreshEndsFromNow() {
        Room.about("LOCK with a token, it ends so long from now");
        Room room = filled();
        lock(room, "/c", "for: 10\n", 201, "1\n");
        lock(room, "/x", "for: 10\n", 201, "2\n");
        room.tick(9, 0);
        lock(room, "/c", "token: 1\nfor: 20\n", 200, "1\n");
        room.lock(0, 1, 29);
        room.lock(1, 1, 10);
        room.tick(1, 1);
        lock(room, "/c", "token: 1\n", 200, "1\n");
        room.lock(0, 1, 110);
        lock(room, "/c", "token: 01\nfor: 1\n", 200, "1\n");
        room.lock(0, 1, 11);
        lock(room, "/c", "for: 1000\ntoken: 1\n", 200, "1\n");
        room.lock(0, 1, 1010);
        room.tick(1000, 1);
    }

    private static void refreshKeepsSortAndDepth() {
        Room.about("LOCK with a token, the sort and depth stay");
        Room room = filled();
        lock(room, "/c", "sort: many\n", 201, "1\n");
        lock(room, "/x", "depth: 0\n", 201, "2\n");
        lock(room, "/c", "token: 1\nsort: one\ndepth: 0\n", 200, "1\n");
        lock(room, "/x", "token: 2\nsort: many\ndepth: all\n", 200, "2\n");
        tells(room, 0, 1, 100, 1, 0, 4);
        tells(room, 1, 2, 100, 0, 1, 1);
        room.count(3, 2);
    }

    private static void refreshWhereItCovers() {
        Room.about("LOCK with a token, that lock, if it covers this resource");
        Room room = filled();
        lock(room, "/c", "", 201, "1\n");
        lock(room, "/c/d/f", "token: 1\nfor: 7\n", 200, "1\n");
        room.lock(0, 1, 7);
        room.lock(0, 4, 4);
        room.refuses("LOCK /x DAV\ntoken: 1\n\n", 412);
        lock(room, "/c-", "token: 1\n", 412, "");
        lock(room, "/", "token: 1\n", 412, "");
        lock(room, "/x", "depth: 0\n", 201, "2\n");
        room.ask("PUT /x/in DAV\ntoken: 2\n\n", 201);
        lock(room, "/x/in", "token: 2\n", 412, "");
        lock(room, "/x", "token: 2\n", 200, "2\n");
    }

    private static void refreshOfNoneSuch() {
        Room.about("LOCK with a token, 412 if there is none such");
        Room room = filled();
        lock(room, "/c", "token: 1\n", 412, "");
        lock(room, "/c", "token: 0\n", 412, "");
        lock(room, "/c", "", 201, "1\n");
        lock(room, "/c", "token: 0\n", 412, "");
        lock(room, "/c", "token: 2\n", 412, "");
        lock(room, "/c", "token: 999999999\n", 412, "");
        room.count(3, 1);
        room.ask("UNLOCK /c DAV\ntoken: 1\n\n", 204);
        lock(room, "/c", "token: 1\n", 412, "");
        room.count(3, 0);
    }

    private static void unlockWhereItCovers() {
        Room.about("UNLOCK, a lock with this token that covers it");
        Room room = filled();
        lock(room, "/c", "", 201, "1\n");
        lock(room, "/x", "depth: 0\n", 201, "2\n");
        room.ask("PUT /x/in DAV\ntoken: 2\n\n", 201);
        room.refuses("UNLOCK /x/in DAV\ntoken: 2\n\n", 412);
        room.ask("UNLOCK /c- DAV\ntoken: 1\n\n", 412);
        room.ask("UNLOCK / DAV\ntoken: 1\n\n", 412);
        room.ask("UNLOCK /x DAV\ntoken: 1\n\n", 412);
        room.ask("UNLOCK /x DAV\ntoken: 002\n\n", 204, "");
        room.ask("UNLOCK /c/d/f DAV\ntoken: 1\n\n", 204, "");
        room.count(3, 0);
    }

    private static void unlockOfNoneSuch() {
        Room.about("UNLOCK, 404 without a resource, 412 if there is no such lock");
        Room room = filled();
        room.ask("UNLOCK /c DAV\ntoken: 1\n\n", 412, "");
        lock(room, "/c", "", 201, "1\n");
        room.refuses("UNLOCK /q DAV\ntoken: 1\n\n", 404);
        room.ask("UNLOCK /c/q DAV\ntoken: 1\n\n", 404, "");
        room.ask("UNLOCK /c DAV\ntoken: 0\n\n", 412, "");
        room.ask("UNLOCK /c DAV\ntoken: 2\n\n", 412, "");
        room.ask("UNLOCK /c DAV\ntoken: 1\n\n", 204, "");
        room.ask("UNLOCK /c DAV\ntoken: 1\n\n", 412, "");
    }

    private static void unlockOneOfSeveral() {
        Room.about("UNLOCK, the others stay");
        Room room = filled();
        for (int k = 1; k <= 3; k++) {
            lock(room, "/c", "sort: many\nfor: " + 10 * k + "\n", 201, k + "\n");
        }
        room.ask("UNLOCK /c DAV\ntoken: 2\n\n", 204);
        room.count(3, 2);
        tells(room, 0, 1, 10);
        tells(room, 1, 3, 30);
        room.ask("PUT /c/e DAV\ntoken: 2\n\n", 423);
        room.ask("PUT /c/e DAV\ntoken: 3\n\n", 204);
    }

    private static void tokensOfOtherLocks() {
        Room.about("FREE, a lock that covers it has the token of the request");
        Room room = filled();
        lock(room, "/c/e", "", 201, "1\n");
        lock(room, "/x", "", 201, "2\n");
        room.ask("PUT /c/e DAV\ntoken: 2\n\n", 423);
        room.ask("PUT /c/e DAV\n\n", 423);
        room.ask("PUT /c/e DAV\ntoken: 0\n\n", 423);
        room.ask("PUT /c/e DAV\ntoken: 1\n\n", 204);
        room.ask("PUT /c- DAV\ntoken: 2\n\n", 204);
        room.ask("PUT /c- DAV\ntoken: 77\n\n", 204);
        room.count(3, 2);
    }

    private static void tokenOfOneForEach() {
        Room.about("FREE, of each that a lock covers, at least one that covers it has the token");
        Room room = filled();
        lock(room, "/c", "sort: many\n", 201, "1\n");
        lock(room, "/c/e", "sort: many\n", 201, "2\n");
        room.ask("PUT /c/e DAV\ntoken: 3\n\n", 423);
        room.ask("PUT /c/e DAV\ntoken: 1\n\n", 204);
        room.ask("PUT /c/e DAV\ntoken: 2\n\n", 204);
        room.refuses("DELETE /c/e DAV\ntoken: 2\n\n", 423);
        room.refuses("DELETE /c DAV\ntoken: 2\n\n", 423);
        room.ask("DELETE /c DAV\ntoken: 1\n\n", 204);
        room.count(3, 0);
        room = filled();
        lock(room, "/c/d/f", "", 201, "1\n");
        lock(room, "/c/e", "", 201, "2\n");
        room.ask("DELETE /c DAV\ntoken: 1\n\n", 423);
        room.ask("DELETE /c DAV\ntoken: 2\n\n", 423);
        room.ask("DELETE /c/d DAV\ntoken: 1\n\n", 204);
    }

    private static void goneWithTheResource() {
        Room.about("a lock is gone when its resource goes");
        Room room = filled();
        lock(room, "/c/d", "depth: 0\nsort: many\n", 201, "1\n");
        lock(room, "/c", "sort: many\n", 201, "2\n");
        lock(room, "/c-", "", 201, "3\n");
        room.ask("DELETE /c/d DAV\ntoken: 2\n\n", 204);
        room.count(3, 2);
        room.lock(0, 0, 2);
        room.lock(0, 4, 2);
        room.ask("DELETE /c DAV\ntoken: 2\n\n", 204);
        room.count(3, 1);
        room.lock(0, 0, 3);
        room.lock(0, 4, 1);
    }

    private static void goneWhenCopiedOver() {
        Room.about("COPY, what is at to goes, and its locks");
        Room room = filled();
        lock(room, "/c", "depth: 0\nsort: many\n", 201, "1\n");
        lock(room, "/c", "sort: many\n", 201, "2\n");
        lock(room, "/c/d/f", "sort: many\n", 201, "3\n");
        lock(room, "/", "depth: 0\n", 201, "4\n");
        room.ask("COPY /x DAV\nto: /c\ntoken: 2\n\n", 204);
        room.count(3, 1);
        room.lock(0, 0, 4);
        room.look("/c", 3, 0);
        lock(room, "/c-", "", 201, "5\n");
        room.ask("COPY /c DAV\nto: /c-\ntoken: 5\n\n", 204);
        room.count(3, 1);
    }

    private static void goneWhenMoved() {
        Room.about("MOVE, locks on what moves are gone");
        Room room = filled();
        lock(room, "/c", "sort: many\n", 201, "1\n");
        lock(room, "/c/d/f", "sort: many\n", 201, "2\n");
        lock(room, "/c-", "", 201, "3\n");
        room.ask("MOVE /c DAV\nto: /n\ntoken: 1\n\n", 201);
        room.count(3, 1);
        room.lock(0, 0, 3);
        for (String path : new String[] {"/n", "/n/d", "/n/d/f"}) {
            room.look(path, 3, 0);
        }
        room.ask("PUT /n/d/f DAV\n\n", 204);
    }

    private static void goneWhenMovedOver() {
        Room.about("MOVE, what is at to goes, and its locks");
        Room room = filled();
        lock(room, "/c/d", "", 201, "1\n");
        lock(room, "/x", "depth: 0\n", 201, "2\n");
        room.ask("MOVE /c-/q DAV\nto: /c/d\ntoken: 1\n\n", 404);
        room.ask("MOVE /c- DAV\nto: /c/d\ntoken: 1\n\n", 204);
        room.count(3, 1);
        room.lock(0, 0, 2);
        room.look("/c/d", 0, 1);
        room.look("/c/d", 3, 0);
    }

    private static void staysWhenPutOrCopied() {
        Room.about("a lock stays when its resource is put anew, copied from, or gets more");
        Room room = filled();
        lock(room, "/c-", "", 201, "1\n");
        lock(room, "/x", "", 201, "2\n");
        room.ask("PUT /c- DAV\ntoken: 1\n\nnew", 204);
        room.ask("COPY /c- DAV\nto: /n\n\n", 201);
        room.ask("MKCOL /x/n DAV\ntoken: 2\n\n", 201);
        room.ask("DELETE /x/n DAV\ntoken: 2\n\n", 204);
        room.count(3, 2);
        room.look("/c-", 3, 1);
        room.look("/n", 3, 0);
        room.look("/x", 3, 1);
    }

    private static void comesAnew() {
        Room.about("what comes where a locked resource was is not locked");
        Room room = filled();
        lock(room, "/c", "", 201, "1\n");
        room.ask("DELETE /c DAV\ntoken: 1\n\n", 204);
        room.with("/c/", "/c/d");
        room.look("/c", 3, 0);
        room.refuses("UNLOCK /c DAV\ntoken: 1\n\n", 412);
        lock(room, "/c", "", 201, "2\n");
    }
}
