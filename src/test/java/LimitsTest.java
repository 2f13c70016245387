/** Promise 4: what there is at most, on both sides of each limit. */
public final class LimitsTest {
    private static final String LONG = "/abcdefgh/abcdefgh/abcdefgh/abcdefgh";

    public static void main(String[] args) {
        putAndMkcolAtForty();
        putOfOldAtForty();
        deleteMakesPlaces();
        copyOfOneAtForty();
        copyOfSeveralAtForty();
        copyOfDepthZeroAtForty();
        copyOverAtForty();
        moveAtForty();
        refusalsAtFortyGiveNothing();
        filesOfAllBytes();
        tenLocks();
        tenLocksAndOneGoes();
        fiveSegmentsBehindCopyAndMove();
        fiveSegmentsBehindCopyOfDepthZero();
        fiveSegmentsOverWhatIsThere();
        listOfJustFourHundred();
        listOfOneMore();
        listTellsNothingBehindTheCut();
        listOfAllIsCutToo();
        getOfTheMostSegments();
        Room.finish();
    }

    /** As many resources as asked for: the ones given, and files n.. */
    private static Room filled(int until, String... paths) {
        Room room = new Room().with(paths);
        for (int k = paths.length; k < until; k++) {
            room.with("/n" + k);
        }
        room.count(1, until);
        return room;
    }

    private static void copy(Room room, String from, String to, int want) {
        room.ask("COPY " + from + " DAV\nto: " + to + "\n\n", want, "");
    }

    private static void putAndMkcolAtForty() {
        for (String verb : new String[] {"PUT", "MKCOL"}) {
            Room.about(verb + ", 507 if there were more than 40");
            Room room = filled(39, "/c/");
            room.ask(verb + " /c/x DAV\n\n", 201);
            room.count(1, 40);
            room.ask(verb + " /y DAV\n\n", 507, "");
            room.ask(verb + " /c/y DAV\n\n", 507, "");
            room.count(1, 40);
            room.look("/y", 0, Room.NONE);
            room.look("/c", 2, 1);
        }
    }

    private static void putOfOldAtForty() {
        Room.about("PUT of what is there, with 40");
        Room room = filled(40);
        room.ask("PUT /n0 DAV\n\nx", 204);
        room.ask("GET /n0 DAV\n\n", 200, "x");
        room.look("/n0", 1, 41);
        room.ask("MKCOL /n0 DAV\n\n", 405);
        room.ask("PUT /n0/x DAV\n\n", 409);
    }

    private static void deleteMakesPlaces() {
        Room.about("behind a DELETE there is a place again");
        Room room = filled(40, "/c/", "/c/d");
        room.ask("PUT /y DAV\n\n", 507);
        room.ask("DELETE /c DAV\n\n", 204);
        room.count(1, 38);
        room.with("/y", "/z/");
        room.ask("PUT /w DAV\n\n", 507);
        room.ask("MKCOL /w DAV\n\n", 507);
    }

    private static void copyOfOneAtForty() {
        Room.about("COPY of one, 507 if there were more than 40 behind");
        Room room = filled(39);
        copy(room, "/n0", "/x", 201);
        room.count(1, 40);
        copy(room, "/n0", "/y", 507);
        room.count(1, 40);
        room.look("/y", 0, Room.NONE);
        copy(room, "/n0", "/x", 204);
        copy(room, "/n0", "/n1", 204);
        room.count(1, 40);
    }

    private static void copyOfSeveralAtForty() {
        Room.about("COPY of several, 507 if there were more than 40 behind");
        for (int has : new int[] {36, 37}) {
            Room room = filled(has, "/d/", "/d/e/", "/d/e/f", "/d/g");
            copy(room, "/d", "/x", has == 36 ? 201 : 507);
            room.count(1, has == 36 ? 40 : 37);
            room.look("/x", 2, has == 36 ? 3 : Room.NONE);
            copy(room, "/d/e", "/y", has == 36 ? 507 : 201);
        }
    }

    private static void copyOfDepthZeroAtForty() {
        Room.about("COPY of depth 0, 507 if there were more than 40 behind");
        Room room = filled(39, "/d/", "/d/e", "/d/f");
        copy(room, "/d", "/x", 507);
        room.ask("COPY /d DAV\nto: /x\ndepth: all\n\n", 507);
        room.ask("COPY /d DAV\nto: /x\ndepth: 0\n\n", 201);
        room.count(1, 40);
        room.ask("COPY /d DAV\nto: /y\ndepth: 0\n\n", 507);
        room.ask("COPY /d DAV\nto: /x\ndepth: 0\n\n", 204);
        room.count(1, 40);
    }

    private static void copyOverAtForty() {
        Room.about("COPY over what goes, 507 if there were more than 40 behind");
        for (int has : new int[] {38, 39}) {
            Room room = filled(has, "/d/", "/d/e", "/d/f", "/d/g", "/x/", "/x/y");
            copy(room, "/d", "/x", has == 38 ? 204 : 507);
            room.count(1, has == 38 ? 40 : 39);
            room.look("/x", 2, has == 38 ? 3 : 1);
            room.look("/x/y", 0, has == 38 ? Room.NONE : 1);
        }
        Room full = filled(40, "/d/", "/d/e", "/d/f", "/x/", "/x/y", "/x/z");
        copy(full, "/d", "/x", 204);
        full.count(1, 40);
        copy(full, "/n9", "/x", 204);
        full.count(1, 38);
    }

    private static void moveAtForty() {
        Room.about("MOVE has no 507");
        Room room = filled(40, "/d/", "/d/e/", "/d/e/f");
        room.ask("MOVE /d DAV\nto: /x\n\n", 201);
        room.count(1, 40);
        room.look("/x", 2, 2);
        room.ask("MOVE /n9 DAV\nto: /x/n\n\n", 201);
        room.count(1, 40);
        room.ask("MOVE /x DAV\nto: /n8\n\n", 204);
        room.count(1, 39);
        room.look("/n8", 2, 3);
    }

    private static void refusalsAtFortyGiveNothing() {
        Room.about("507 gives no VERSION and takes nothing away");
        Room room = filled(40, "/d/", "/d/e", "/d/f");
        room.ask("PUT /y DAV\n\n", 507);
        copy(room, "/d", "/n9", 507);
        copy(room, "/d", "/y", 507);
        room.look("/n9", 1, 9);
        room.ask("PUT /n9 DAV\n\n", 204);
        room.look("/n9", 1, 40);
    }

    private static void filesOfAllBytes() {
        Room.about("40 FILES of 80 bytes");
        Room room = new Room();
        for (int k = 0; k < 40; k++) {
            room.ask("PUT /f" + k + " DAV\n\n" + "x".repeat(80), 201);
        }
        room.count(2, 40);
        room.count(4, 3200);
    }

    private static void lock(Room room, int want, int token) {
        room.ask("LOCK / DAV\nsort: many\n\n", want, want == 201 ? token + "\n" : "");
    }

    private static void tenLocks() {
        Room.about("LOCK, 507 with 10");
        Room room = new Room().with("/f");
        for (int k = 1; k <= 10; k++) {
            lock(room, 201, k);
        }
        room.count(3, 10);
        lock(room, 507, 0);
        room.ask("LOCK /f DAV\nsort: many\n\n", 507, "");
        room.count(3, 10);
        room.ask("LOCK / DAV\ntoken: 10\nfor: 7\n\n", 200, "10\n");
        room.lock(9, 1, 7);
        room.ask("LOCK / DAV\ntoken: 11\n\n", 412, "");
        room.look("/f", 3, 10);
        Room apart = new Room();
        for (int k = 1; k <= 11; k++) {
            apart.with("/f" + k);
            apart.ask("LOCK /f" + k + " DAV\n\n", k <= 10 ? 201 : 507, k <= 10 ? k + "\n" : "");
        }
    }

    private static void tenLocksAndOneGoes() {
        Room.about("LOCK, a place again when a lock is gone");
        Room room = new Room().with("/f");
        room.ask("LOCK /f DAV\nsort: many\nfor: 5\n\n", 201);
        room.ask("LOCK /f DAV\nsort: many\nfor: 500\n\n", 201);
        for (int k = 3; k <= 10; k++) {
            lock(room, 201, k);
        }
        lock(room, 507, 0);
        room.ask("UNLOCK / DAV\ntoken: 4\n\n", 204);
        lock(room, 201, 11);
        lock(room, 507, 0);
        room.tick(5, 1);
        lock(room, 201, 12);
        lock(room, 507, 0);
        room.ask("DELETE /f DAV\ntoken: 3\n\n", 204);
        room.count(3, 9);
        lock(room, 201, 13);
        lock(room, 507, 0);
        room.lock(9, 0, 13);
        room.lock(0, 0, 3);
    }

    /** "/1/2/3/4", and a source of three levels: "/s/t/u". */
    private static Room deep() {
        return new Room().with("/1/", "/1/2/", "/1/2/3/", "/1/2/3/4/", "/s/", "/s/t/", "/s/t/u", "/s/v");
    }

    private static void fiveSegmentsBehindCopyAndMove() {
        for (String verb : new String[] {"COPY", "MOVE"}) {
            Room.about(verb + ", a PATH of more than 5 SEGMENTS would come: 409");
            deep().refuses(verb + " /s DAV\nto: /1/2/3/x\n\n", 409);
            deep().refuses(verb + " /s DAV\nto: /1/2/3/4/x\n\n", 409);
            deep().refuses(verb + " /s/t DAV\nto: /1/2/3/4/x\n\n", 409);
            Room room = deep();
            room.ask(verb + " /s DAV\nto: /1/2/x\n\n", 201);
            room.look("/1/2/x/t/u", 0, 1);
            room = deep();
            room.ask(verb + " /s/t DAV\nto: /1/2/3/x\n\n", 201);
            room.look("/1/2/3/x/u", 0, 1);
            room = deep();
            room.ask(verb + " /s/t/u DAV\nto: /1/2/3/4/x\n\n", 201);
            room.look("/1/2/3/4/x", 0, 1);
        }
    }

    private static void fiveSegmentsBehindCopyOfDepthZero() {
        Room.about("COPY of depth 0, what is in it does not come");
        Room room = deep();
        room.ask("COPY /s DAV\nto: /1/2/3/4/x\ndepth: all\n\n", 409);
        room.ask("COPY /s DAV\nto: /1/2/3/4/x\ndepth: 0\n\n", 201);
        room.look("/1/2/3/4/x", 0, 2);
        room.look("/1/2/3/4/x", 2, 0);
    }

    private static void fiveSegmentsOverWhatIsThere() {
        for (String verb : new String[] {"COPY", "MOVE"}) {
            Room.about(verb + ", a PATH of more than 5 SEGMENTS, where there is a resource at to");
            deep().with("/1/2/3/x").refuses(verb + " /s DAV\nto: /1/2/3/x\n\n", 409);
            Room room = deep().with("/1/2/x");
            room.ask(verb + " /s DAV\nto: /1/2/x\n\n", 204);
            room.look("/1/2/x", 2, 3);
            longestPaths(verb);
        }
    }

    private static void longestPaths(String verb) {
        Room room = collections(LONG).with("/s/", "/s/ijklmnop");
        room.ask(verb + " /s DAV\nto: " + LONG + "\n\n", 204);
        room.look(LONG + "/ijklmnop", 0, 1);
        room.ask("LIST " + LONG + " DAV\n\n", 207, LONG + "\n" + LONG + "/ijklmnop\n");
    }

    /** The collection and those that it is in, each of eight letters. */
    private static Room collections(String path) {
        Room room = new Room();
        for (int k = 9; k <= path.length(); k += 9) {
            room.with(path.substring(0, k) + "/");
        }
        return room;
    }

    /** LONG and seven files in it: 37 bytes and seven times 46 are 359 of a LIST. */
    private static Room listed(String... more) {
        Room room = collections(LONG);
        for (int k = 0; k < 7; k++) {
            room.with(LONG + "/file--0" + k);
        }
        for (String name : more) {
            room.with(LONG + "/" + name);
        }
        return room;
    }

    private static String told(String... more) {
        StringBuilder want = new StringBuilder(LONG + "\n");
        for (int k = 0; k < 7; k++) {
            want.append(LONG).append("/file--0").append(k).append('\n');
        }
        for (String name : more) {
            want.append(LONG).append('/').append(name).append('\n');
        }
        return want.toString();
    }

    private static void listOfJustFourHundred() {
        Room.about("LIST, a path whose LF is byte 400 of OUT");
        Room.due("bytes that are due", told("abc").length(), 400);
        Room room = listed("xyz");
        room.ask("LIST " + LONG + " DAV\n\n", 207, told("xyz"));
        room = listed("xyz");
        room.ask("LIST " + LONG + " DAV\n\n", 207);
        room.octet(-1, 400);
        room.octet(398, 'z');
        room.octet(399, 10);
        room.octet(400, Room.NONE);
    }

    private static void listOfOneMore() {
        Room.about("LIST, a path whose LF would be byte 401 of OUT");
        Room.due("bytes that are due", told("abcd").length(), 401);
        Room room = listed("wxyz");
        room.ask("LIST " + LONG + " DAV\n\n", 207, told());
        room.octet(-1, 359);
        room.octet(359, Room.NONE);
        room.ask("LIST " + LONG + "/wxyz DAV\n\n", 207, LONG + "/wxyz\n");
    }

    private static void listTellsNothingBehindTheCut() {
        Room.about("LIST, of those behind a path that would not be whole nothing is told");
        Room room = listed("wxyz", "x", "yz");
        room.ask("LIST " + LONG + " DAV\n\n", 207, told());
        room = listed("xyz", "y");
        room.ask("LIST " + LONG + " DAV\n\n", 207, told("xyz"));
        room = listed("w", "wxyz");
        room.ask("LIST " + LONG + " DAV\n\n", 207, told("w"));
    }

    private static void listOfAllIsCutToo() {
        Room.about("LIST, all in it, at 400 and 401 bytes of OUT");
        for (String sixth : new String[] {"file--5", "file--05"}) {
            Room room = collections(LONG);
            StringBuilder want = new StringBuilder("/\n/abcdefgh\n/abcdefgh/abcdefgh\n/abcdefgh/abcdefgh/abcdefgh\n" + LONG + "\n");
            for (String name : new String[] {"file--00", "file--01", "file--02", "file--03", "file--04", sixth}) {
                room.with(LONG + "/" + name);
                want.append(LONG).append('/').append(name).append('\n');
            }
            room.with("/zbcdefgh/", "/zbcdefgh/zbcdefgh", "/zz");
            want.append("/zbcdefgh\n");
            if (sixth.length() == 7) {
                want.append("/zbcdefgh/zbcdefgh\n");
            }
            Room.due("bytes that are due", want.length(), sixth.length() == 7 ? 400 : 382);
            room.ask("LIST / DAV\ndepth: all\n\n", 207, want.toString());
        }
    }

    private static void getOfTheMostSegments() {
        Room.about("GET, 40 SEGMENTS of 8 letters");
        Room room = new Room();
        for (int k = 0; k < 40; k++) {
            room.with("/segmen" + (k + 10));
        }
        room.ask("GET / DAV\n\n", 200);
        room.octet(-1, 360);
        for (int k = 0; k < 40; k++) {
            room.octet(9 * k, 's');
            room.octet(9 * k + 7, '0' + k % 10);
            room.octet(9 * k + 8, 10);
        }
        room.octet(360, Room.NONE);
    }
}
