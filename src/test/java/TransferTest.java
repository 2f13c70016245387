/** Promise 4: COPY and MOVE without locks. */
public final class TransferTest {
    public static void main(String[] args) {
        for (String verb : new String[] {"COPY", "MOVE"}) {
            missing(verb);
            toRoot(verb);
            toItself(verb);
            oneInTheOther(verb);
            toTheLikeNamed(verb);
            noCollectionForTo(verb);
            overNo(verb);
            overYes(verb);
            newAndOld(verb);
            fileOverCollection(verb);
            collectionOverFile(verb);
            whereItIs(verb);
        }
        copyLeavesTheSource();
        copyOfAll();
        copyOfDepthZero();
        copyGivesVersions();
        copyGivesVersionsByRisingPaths();
        copyIsApart();
        moveTakesTheSource();
        moveOfAll();
        moveKeepsVersions();
        moveOverGivesNoVersions();
        Room.finish();
    }

    /** "/d", "/d/a" (version 1), "/d/c", "/d/c/z" (version 2), "/f" (version 3). */
    private static Room filled() {
        Room room = new Room();
        room.ask("MKCOL /d DAV\n\n", 201);
        room.ask("PUT /d/a DAV\n\naa", 201);
        room.ask("MKCOL /d/c DAV\n\n", 201);
        room.ask("PUT /d/c/z DAV\n\nzzz", 201);
        room.ask("PUT /f DAV\n\nf", 201);
        return room;
    }

    private static void transfer(Room room, String verb, String from, String to, int want) {
        room.ask(verb + " " + from + " DAV\nto: " + to + "\n\n", want, "");
    }

    private static void refuses(String verb, int want, String... fromAndTo) {
        for (int k = 0; k + 1 < fromAndTo.length; k += 2) {
            filled().refuses(verb + " " + fromAndTo[k] + " DAV\nto: " + fromAndTo[k + 1] + "\n\n", want);
        }
    }

    private static void missing(String verb) {
        Room.about(verb + ", 404 without it");
        refuses(verb, 404, "/q", "/", "/q", "/q", "/q", "/x/y", "/f/q", "/x", "/d/q", "/x", "/q", "/f");
        transfer(filled(), verb, "/f", "/x", 201);
    }

    private static void toRoot(String verb) {
        Room.about(verb + ", 403 if to is \"/\"");
        refuses(verb, 403, "/", "/", "/d", "/", "/f", "/", "/d/c/z", "/");
    }

    private static void toItself(String verb) {
        Room.about(verb + ", 403 if to is it itself");
        refuses(verb, 403, "/d", "/d", "/f", "/f", "/d/c", "/d/c", "/d/c/z", "/d/c/z");
    }

    private static void oneInTheOther(String verb) {
        Room.about(verb + ", 403 if one of them is in the other");
        refuses(verb, 403, "/", "/x", "/", "/x/y", "/", "/f", "/d", "/d/q", "/d", "/d/q/r/s/t", "/d", "/d/a", "/d", "/d/a/b", "/d", "/d/c/z");
        refuses(verb, 403, "/d/a", "/d", "/d/c/z", "/d", "/d/c", "/d", "/f", "/f/g");
    }

    private static void toTheLikeNamed(String verb) {
        Room.about(verb + ", what has its name as a beginning is not in it");
        transfer(filled(), verb, "/d", "/d-", 201);
        transfer(filled(), verb, "/d", "/dd", 201);
        transfer(filled(), verb, "/d/c", "/d/c0", 201);
        Room room = filled().with("/dd/");
        transfer(room, verb, "/dd", "/d", 204);
        transfer(filled().with("/d.d"), verb, "/d.d", "/d", 204);
    }

    private static void noCollectionForTo(String verb) {
        Room.about(verb + ", 409 if the COLLECTION for to is not there");
        refuses(verb, 409, "/f", "/x/y", "/d/a", "/f/y", "/d", "/x/y", "/f", "/d/c/q/y", "/f", "/d/a/y");
        transfer(filled(), verb, "/f", "/d/c/y", 201);
    }

    private static void overNo(String verb) {
        Room.about(verb + ", 412 if there is a resource at to and over is no");
        filled().refuses(verb + " /f DAV\nto: /d\nover: no\n\n", 412);
        filled().refuses(verb + " /d DAV\nto: /f\nover: no\n\n", 412);
        filled().refuses(verb + " /f DAV\nto: /d/a\nover: no\n\n", 412);
        filled().ask(verb + " /f DAV\nto: /g\nover: no\n\n", 201);
        filled().ask(verb + " /d DAV\nto: /g\nover: no\n\n", 201);
    }

    private static void overYes(String verb) {
        Room.about(verb + ", over is yes, or there is no over");
        for (String over : new String[] {"over: yes\n", ""}) {
            filled().ask(verb + " /f DAV\nto: /d\n" + over + "\n", 204);
            filled().ask(verb + " /f DAV\nto: /d/a\n" + over + "\n", 204);
            filled().ask(verb + " /f DAV\nto: /g\n" + over + "\n", 201);
        }
    }

    private static void newAndOld(String verb) {
        Room.about(verb + ", 201 if to was none, else 204");
        Room room = filled();
        transfer(room, verb, "/d/a", "/g", 201);
        room.ask("GET /g DAV\n\n", 200, "aa");
        transfer(room, verb, "/f", "/g", 204);
        room.ask("GET /g DAV\n\n", 200, "f");
    }

    private static void fileOverCollection(String verb) {
        Room.about(verb + ", what is at to goes, and all in it");
        Room room = filled();
        transfer(room, verb, "/f", "/d", 204);
        room.has(verb.equals("COPY") ? "/ /d /f" : "/ /d");
        room.look("/d", 0, 1);
        room.ask("GET /d DAV\n\n", 200, "f");
        room.count(4, verb.equals("COPY") ? 2 : 1);
    }

    private static void collectionOverFile(String verb) {
        Room.about(verb + ", a COLLECTION where a FILE was");
        Room room = filled();
        transfer(room, verb, "/d", "/f", 204);
        room.has(verb.equals("COPY") ? "/ /d /d/a /d/c /d/c/z /f /f/a /f/c /f/c/z" : "/ /f /f/a /f/c /f/c/z");
        room.look("/f", 0, 2);
        room.look("/f", 1, 0);
        room.look("/f", 2, 3);
        room.ask("GET /f DAV\n\n", 200, "a\nc\n");
    }

    private static void whereItIs(String verb) {
        Room.about(verb + " within one COLLECTION");
        Room room = filled();
        transfer(room, verb, "/d/a", "/d/0", 201);
        transfer(room, verb, "/d/0", "/d/c", 204);
        room.has(verb.equals("COPY") ? "/ /d /d/0 /d/a /d/c /f" : "/ /d /d/c /f");
        room.ask("GET /d/c DAV\n\n", 200, "aa");
    }

    private static void copyLeavesTheSource() {
        Room.about("COPY, what is copied stays as it is");
        Room room = filled();
        transfer(room, "COPY", "/f", "/g", 201);
        room.look("/f", 1, 3);
        room.ask("GET /f DAV\n\n", 200, "f");
        transfer(room, "COPY", "/d", "/e", 201);
        room.look("/d", 2, 3);
        room.look("/d/a", 1, 1);
        room.look("/d/c/z", 1, 2);
        room.count(4, 12);
    }

    private static void copyOfAll() {
        Room.about("COPY, it comes there, and all in it");
        for (String depth : new String[] {"", "depth: all\n"}) {
            Room room = filled();
            room.ask("COPY /d DAV\nto: /e\n" + depth + "\n", 201);
            room.has("/ /d /d/a /d/c /d/c/z /e /e/a /e/c /e/c/z /f");
            room.ask("GET /e/c/z DAV\n\n", 200, "zzz");
            room.ask("PUT /e/q DAV\n\n", 201);
            room.ask("COPY /d DAV\nto: /e\n" + depth + "\n", 204);
            room.has("/ /d /d/a /d/c /d/c/z /e /e/a /e/c /e/c/z /f");
        }
    }

    private static void copyOfDepthZero() {
        Room.about("COPY, depth 0: not what is in it");
        Room room = filled();
        room.ask("COPY /d DAV\nto: /e\ndepth: 0\n\n", 201);
        room.has("/ /d /d/a /d/c /d/c/z /e /f");
        room.look("/e", 0, 2);
        room.ask("COPY /e DAV\nto: /d\ndepth: 0\n\n", 204);
        room.has("/ /d /e /f");
        room.ask("COPY /f DAV\nto: /d\ndepth: 0\n\n", 204);
        room.ask("GET /d DAV\n\n", 200, "f");
        room.look("/d", 1, 4);
    }

    private static void copyGivesVersions() {
        Room.about("COPY, files are given VERSIONS");
        Room room = filled();
        transfer(room, "COPY", "/f", "/g", 201);
        room.look("/g", 1, 4);
        transfer(room, "COPY", "/f", "/g", 204);
        room.look("/g", 1, 5);
        transfer(room, "COPY", "/d", "/e", 201);
        room.look("/e", 1, 0);
        room.look("/e/a", 1, 6);
        room.look("/e/c", 1, 0);
        room.look("/e/c/z", 1, 7);
        room.ask("COPY /d DAV\nto: /n\ndepth: 0\n\n", 201);
        room.with("/m");
        room.look("/m", 1, 8);
    }

    private static void copyGivesVersionsByRisingPaths() {
        Room.about("COPY, VERSIONS by rising bytes of paths");
        Room room = new Room().with("/s/", "/s/a/", "/s/b", "/s/a/x", "/s/a0", "/s/a-", "/s/a.", "/s/a/x-");
        transfer(room, "COPY", "/s", "/t", 201);
        String[] rising = {"/t/a-", "/t/a.", "/t/a/x", "/t/a/x-", "/t/a0", "/t/b"};
        for (int k = 0; k < rising.length; k++) {
            room.look(rising[k], 1, 7 + k);
        }
        transfer(room, "COPY", "/t", "/0", 201);
        room.look("/0/a-", 1, 13);
        room.look("/0/a/x", 1, 15);
        room.look("/0/b", 1, 18);
    }

    private static void copyIsApart() {
        Room.about("COPY, the two are apart");
        Room room = filled();
        transfer(room, "COPY", "/d/a", "/g", 201);
        room.ask("PUT /d/a DAV\n\nother", 204);
        room.ask("GET /g DAV\n\n", 200, "aa");
        room.ask("PUT /g DAV\n\nthird", 204);
        room.ask("GET /d/a DAV\n\n", 200, "other");
        room.ask("DELETE /d DAV\n\n", 204);
        room.ask("GET /g DAV\n\n", 200, "third");
    }

    private static void moveTakesTheSource() {
        Room.about("MOVE, what moves is no longer where it was");
        Room room = filled();
        transfer(room, "MOVE", "/f", "/d/f", 201);
        room.look("/f", 0, Room.NONE);
        room.ask("GET /d/f DAV\n\n", 200, "f");
        room.has("/ /d /d/a /d/c /d/c/z /d/f");
        transfer(room, "MOVE", "/f", "/g", 404);
    }

    private static void moveOfAll() {
        Room.about("MOVE, as COPY of all");
        Room room = filled();
        transfer(room, "MOVE", "/d", "/0", 201);
        room.has("/ /0 /0/a /0/c /0/c/z /f");
        room.ask("GET /0/c/z DAV\n\n", 200, "zzz");
        transfer(room, "MOVE", "/0", "/longname", 201);
        room.has("/ /f /longname /longname/a /longname/c /longname/c/z");
        transfer(room, "MOVE", "/longname/c", "/f", 204);
        room.has("/ /f /f/z /longname /longname/a");
        transfer(room, "MOVE", "/f/z", "/longname", 204);
        room.has("/ /f /longname");
        room.count(2, 1);
        room.count(4, 3);
    }

    private static void moveKeepsVersions() {
        Room.about("MOVE, VERSIONS stay (of what moves)");
        Room room = filled();
        transfer(room, "MOVE", "/d", "/0", 201);
        room.look("/0/a", 1, 1);
        room.look("/0/c/z", 1, 2);
        transfer(room, "MOVE", "/0/c/z", "/f", 204);
        room.look("/f", 1, 2);
        room.ask("GET /f DAV\nmatch: 2\n\n", 200, "zzz");
    }

    private static void moveOverGivesNoVersions() {
        Room.about("MOVE gives no VERSION");
        Room room = filled();
        transfer(room, "MOVE", "/d/a", "/f", 204);
        transfer(room, "MOVE", "/f", "/g", 201);
        room.with("/new");
        room.look("/new", 1, 4);
    }
}
