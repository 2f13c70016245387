/** Promise 4: GET, PUT, MKCOL, DELETE and LIST without locks. */
public final class MethodsTest {
    public static void main(String[] args) {
        getOfNone();
        getOfAFile();
        getOfACollection();
        getByRisingBytes();
        putOfACollection();
        putWithoutItsCollection();
        putNewAndOld();
        putGivesVersionsFromOneOn();
        mkcolWhereThereIsOne();
        mkcolWithoutItsCollection();
        mkcolAtTheLastDepth();
        deleteOfNone();
        deleteTakesAllInIt();
        deleteLeavesTheLikeNamed();
        deletedFilesLeaveNothing();
        listOfNone();
        listOfEachDepth();
        listOfAFile();
        listByRisingBytes();
        rootOfEachMethod();
        rootStays();
        Room.finish();
    }

    private static void getOfNone() {
        Room.about("GET, 404 without a resource");
        Room room = new Room().with("/b", "/c/");
        room.refuses("GET /a DAV\n\n", 404);
        room.refuses("GET /b/c DAV\n\n", 404);
        room.refuses("GET /c/c DAV\n\n", 404);
        room.ask("GET /b DAV\n\n", 200);
    }

    private static void getOfAFile() {
        Room.about("GET, of a FILE 200, OUT are its bytes");
        Room room = new Room();
        room.ask("PUT /b DAV\n\nbody", 201, "");
        room.ask("GET /b DAV\n\n", 200, "body");
        room.ask("PUT /b DAV\n\nb", 204, "");
        room.ask("GET /b DAV\n\n", 200, "b");
        room.ask("PUT /b DAV\n\n", 204, "");
        room.ask("GET /b DAV\n\n", 200, "");
    }

    private static void getOfACollection() {
        Room.about("GET, of a COLLECTION 200, OUT are the SEGMENTS of what is directly in it");
        Room room = new Room();
        room.ask("GET / DAV\n\n", 200, "");
        room.with("/a/", "/a/x/", "/a/x/deep", "/b", "/ab/");
        room.ask("GET / DAV\n\n", 200, "a\nab\nb\n");
        room.ask("GET /a DAV\n\n", 200, "x\n");
        room.ask("GET /a/x DAV\n\n", 200, "deep\n");
        room.ask("GET /ab DAV\n\n", 200, "");
    }

    private static void getByRisingBytes() {
        Room.about("GET, by rising bytes (what is a beginning of another one first)");
        Room room = new Room().with("/c/", "/c/xx", "/c/x0", "/c/x/", "/c/x/q", "/c/x.y", "/c/z", "/c/x-y", "/c/w", "/c/0", "/c/-", "/c/.a", "/c/xa", "/c/9");
        room.ask("GET /c DAV\n\n", 200, "-\n.a\n0\n9\nw\nx\nx-y\nx.y\nx0\nxa\nxx\nz\n");
    }

    private static void putOfACollection() {
        Room.about("PUT, of a COLLECTION 405");
        Room room = new Room().with("/c/", "/c/f");
        room.refuses("PUT /c DAV\n\nx", 405);
        room.refuses("PUT / DAV\n\nx", 405);
        room.ask("PUT /c/f DAV\n\nx", 204);
    }

    private static void putWithoutItsCollection() {
        Room.about("PUT, 409 if the COLLECTION for it is not there");
        Room room = new Room().with("/f", "/c/");
        room.refuses("PUT /a/b DAV\n\n", 409);
        room.refuses("PUT /c/a/b DAV\n\n", 409);
        room.refuses("PUT /f/b DAV\n\n", 409);
        room.refuses("PUT /f/b/c DAV\n\n", 409);
        room.ask("PUT /c/b DAV\n\n", 201);
    }

    private static void putNewAndOld() {
        Room.about("PUT, 201 if new, else 204");
        Room room = new Room();
        room.ask("PUT /a DAV\n\nlonger", 201, "");
        room.count(1, 1);
        room.ask("PUT /a DAV\n\nx", 204, "");
        room.count(1, 1);
        room.ask("GET /a DAV\n\n", 200, "x");
        room.count(4, 1);
        room.ask("DELETE /a DAV\n\n", 204);
        room.ask("PUT /a DAV\n\nxy", 201, "");
        room.ask("GET /a DAV\n\n", 200, "xy");
    }

    private static void putGivesVersionsFromOneOn() {
        Room.about("Terms, a VERSION, a number that no file had before, from 1 on");
        Room room = new Room().with("/a", "/c/", "/b");
        room.look("/a", 1, 1);
        room.look("/b", 1, 2);
        room.ask("PUT /a DAV\n\n", 204);
        room.look("/a", 1, 3);
        room.ask("PUT / DAV\n\n", 405);
        room.ask("PUT /q/a DAV\n\n", 409);
        room.ask("DELETE /a DAV\n\n", 204);
        room.with("/a");
        room.look("/a", 1, 4);
        room.look("/b", 1, 2);
    }

    private static void mkcolWhereThereIsOne() {
        Room.about("MKCOL, 405 if there is a resource");
        Room room = new Room().with("/f", "/c/", "/c/g");
        room.refuses("MKCOL / DAV\n\n", 405);
        room.refuses("MKCOL /f DAV\n\n", 405);
        room.refuses("MKCOL /c DAV\n\n", 405);
        room.ask("MKCOL /d DAV\n\n", 201, "");
        room.look("/d", 0, 2);
    }

    private static void mkcolWithoutItsCollection() {
        Room.about("MKCOL, 409 as PUT new");
        Room room = new Room().with("/f");
        room.refuses("MKCOL /a/b DAV\n\n", 409);
        room.refuses("MKCOL /f/g DAV\n\n", 409);
        room.with("/a/", "/a/b/");
    }

    private static void mkcolAtTheLastDepth() {
        Room.about("MKCOL, up to 5 SEGMENTS");
        Room room = new Room();
        String path = "";
        for (int k = 0; k < 5; k++) {
            path += "/abcdefgh";
            room.ask("MKCOL " + path + " DAV\n\n", 201, "");
            room.ask("MKCOL " + path + " DAV\n\n", 405);
            room.look(path, 0, 2);
        }
        room.ask("MKCOL " + path + "/x DAV\n\n", 400);
        room.look("/abcdefgh", 2, 4);
    }

    private static void deleteOfNone() {
        Room.about("DELETE, 404; \"/\": 403");
        Room room = new Room().with("/f", "/c/");
        room.refuses("DELETE /a DAV\n\n", 404);
        room.refuses("DELETE /f/a DAV\n\n", 404);
        room.refuses("DELETE / DAV\n\n", 403);
        room.ask("DELETE /f DAV\n\n", 204, "");
        room.refuses("DELETE /f DAV\n\n", 404);
        room.ask("DELETE /c DAV\n\n", 204, "");
        room.has("/");
    }

    private static void deleteTakesAllInIt() {
        Room.about("DELETE, it and all in it go");
        Room room = new Room().with("/a/", "/a/b/", "/a/b/c/", "/a/b/c/d/", "/a/b/c/d/e", "/a/f", "/z");
        room.ask("DELETE /a/b/c DAV\n\n", 204);
        room.has("/ /a /a/b /a/f /z");
        room.ask("DELETE /a DAV\n\n", 204);
        room.has("/ /z");
        room.ask("PUT /a/b DAV\n\n", 409);
    }

    private static void deleteLeavesTheLikeNamed() {
        Room.about("DELETE, what has its name as a beginning stays");
        Room room = new Room().with("/a/", "/a/b", "/a-", "/a.b", "/ab/", "/ab/b", "/aa");
        room.ask("DELETE /a DAV\n\n", 204);
        room.has("/ /a- /a.b /aa /ab /ab/b");
    }

    private static void deletedFilesLeaveNothing() {
        Room.about("MKCOL where a FILE was");
        Room room = new Room();
        room.ask("PUT /a DAV\n\n4567", 201);
        room.ask("DELETE /a DAV\n\n", 204);
        room.count(4, 0);
        room.with("/a/", "/b/");
        room.count(2, 0);
        room.count(4, 0);
        room.look("/a", 0, 2);
        room.look("/a", 1, 0);
        room.look("/a", 2, 0);
        room.ask("GET /a DAV\n\n", 200, "");
    }

    private static void listOfNone() {
        Room.about("LIST, 404");
        Room room = new Room().with("/b");
        room.refuses("LIST /a DAV\n\n", 404);
        room.refuses("LIST /b/a DAV\ndepth: 0\n\n", 404);
        room.ask("LIST /b DAV\n\n", 207, "/b\n");
    }

    private static void listOfEachDepth() {
        Room.about("LIST, depth 0, 1, all and none");
        Room room = new Room().with("/b/", "/a/", "/a/a/", "/a/a/a", "/c");
        room.ask("LIST / DAV\n\n", 207, "/\n/a\n/b\n/c\n");
        room.ask("LIST / DAV\ndepth: 1\n\n", 207, "/\n/a\n/b\n/c\n");
        room.ask("LIST / DAV\ndepth: 0\n\n", 207, "/\n");
        room.ask("LIST / DAV\ndepth: all\n\n", 207, "/\n/a\n/a/a\n/a/a/a\n/b\n/c\n");
        room.ask("LIST /a DAV\n\n", 207, "/a\n/a/a\n");
        room.ask("LIST /a DAV\ndepth: 1\n\n", 207, "/a\n/a/a\n");
        room.ask("LIST /a DAV\ndepth: all\n\n", 207, "/a\n/a/a\n/a/a/a\n");
        room.ask("LIST /a DAV\ndepth: 0\n\n", 207, "/a\n");
        room.ask("LIST /b DAV\ndepth: all\n\n", 207, "/b\n");
    }

    private static void listOfAFile() {
        Room.about("LIST, of a FILE");
        Room room = new Room().with("/f", "/f-");
        for (String depth : new String[] {"", "depth: 0\n", "depth: 1\n", "depth: all\n"}) {
            room.ask("LIST /f DAV\n" + depth + "\n", 207, "/f\n");
        }
    }

    private static void listByRisingBytes() {
        Room.about("LIST, by rising bytes of paths");
        Room room = new Room().with("/b", "/a/", "/a/a/", "/a-/", "/a.f", "/a0", "/a/a-", "/a/a/a", "/a-/z", "/aa");
        room.ask("LIST / DAV\ndepth: all\n\n", 207, "/\n/a\n/a-\n/a-/z\n/a.f\n/a/a\n/a/a-\n/a/a/a\n/a0\n/aa\n/b\n");
        room.ask("LIST / DAV\n\n", 207, "/\n/a\n/a-\n/a.f\n/a0\n/aa\n/b\n");
        room.ask("LIST /a DAV\ndepth: all\n\n", 207, "/a\n/a/a\n/a/a-\n/a/a/a\n");
    }

    private static void rootOfEachMethod() {
        Room.about("\"/\" of each METHOD, and as to");
        Room room = new Room().with("/f", "/c/");
        room.ask("GET / DAV\n\n", 200, "c\nf\n");
        room.refuses("PUT / DAV\n\nx", 405);
        room.refuses("MKCOL / DAV\n\n", 405);
        room.refuses("DELETE / DAV\n\n", 403);
        room.ask("LOCK / DAV\n\n", 201, "1\n");
        room.ask("LOCK / DAV\ntoken: 1\n\n", 200, "1\n");
        room.ask("UNLOCK / DAV\ntoken: 1\n\n", 204, "");
        room.ask("LIST / DAV\ndepth: 0\n\n", 207, "/\n");
        for (String verb : new String[] {"COPY", "MOVE"}) {
            Room other = new Room().with("/f", "/c/");
            other.refuses(verb + " / DAV\nto: /n\n\n", 403);
            other.refuses(verb + " / DAV\nto: /\n\n", 403);
            other.refuses(verb + " /f DAV\nto: /\n\n", 403);
            other.refuses(verb + " /c DAV\nto: /\nover: yes\n\n", 403);
        }
    }

    private static void rootStays() {
        Room.about("Terms, \"/\" is a collection that is always there");
        Room room = new Room().with("/f");
        room.ask("DELETE /f DAV\n\n", 204);
        room.look("/", 0, 2);
        room.ask("COPY / DAV\nto: /n\ndepth: 0\n\n", 403);
        room.ask("MOVE / DAV\nto: /n\n\n", 403);
        room.ask("LIST / DAV\n\n", 207, "/\n");
        room.crash(0);
        room.look("/", 0, 2);
        room.with("/f");
    }
}
