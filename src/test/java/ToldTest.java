/** Promises 9, 10 and 11: look, lock, count. */
public final class ToldTest {
    private static final int[] FAR = {Integer.MIN_VALUE, -1, 5, 6, Integer.MAX_VALUE};

    public static void main(String[] args) {
        look();
        lookAndTheTape();
        lock();
        count();
        Room.finish();
    }

    private static Room filled() {
        Room room = new Room();
        room.ask("MKCOL /c DAV\n\n", 201);
        room.ask("PUT /c/f DAV\n\n12345", 201);
        room.ask("MKCOL /c/d DAV\n\n", 201);
        room.ask("PUT /c/d/g DAV\n\n", 201);
        room.ask("PUT /c- DAV\n\n123", 201);
        return room;
    }

    private static void look() {
        Room room = filled();
        room.ask("LOCK /c DAV\nsort: many\n\n", 201);
        room.ask("LOCK /c/f DAV\nsort: many\n\n", 201);
        room.ask("LOCK /c DAV\nsort: many\ndepth: 0\n\n", 201);
        room.look("/", 0, 2);
        room.look("/", 1, 0);
        room.look("/", 2, 5);
        room.look("/", 3, 0);
        room.look("/c", 0, 2);
        room.look("/c", 1, 0);
        room.look("/c", 2, 3);
        room.look("/c", 3, 2);
        room.look("/c/f", 0, 1);
        room.look("/c/f", 1, 1);
        room.look("/c/f", 2, 5);
        room.look("/c/f", 3, 2);
        room.look("/c/d/g", 2, 0);
        room.look("/c/d/g", 3, 1);
        room.look("/c-", 3, 0);
        for (String path : new String[] {"", "c", "/q", "/c/", "//", "/c/f/x", "/c ", " /c", "/C", "/c/q", "\u00af", "/c\u0000", "/".repeat(400)}) {
            room.look(path, 0, Room.NONE);
            room.look(path, 3, Room.NONE);
        }
    }

    private static void lookAndTheTape() {
        Room room = filled();
        room.tape("/c/f");
        for (int what : new int[] {Integer.MIN_VALUE, -1, 4, Integer.MAX_VALUE}) {
            Room.due("look(" + what + ")", room.dav.look(what), Room.REFUSED);
        }
        Room.due("look(2) of the tape that stayed", room.dav.look(2), 5);
        Room.due("look(2) of the emptied tape", room.dav.look(2), Room.NONE);
        room.tape("/q");
        Room.due("look(2)", room.dav.look(2), Room.NONE);
        Room.due("the tape is empty behind NONE", room.dav.feed(0, 0, 0, 0, 0), 20);
        Room.due("look(9) of nothing", new DavRoom().look(9), Room.REFUSED);
    }

    private static void lock() {
        Room room = filled();
        for (int what : FAR) {
            room.lock(0, what, Room.REFUSED);
            room.lock(-1, what, Room.REFUSED);
        }
        room.lock(0, 0, Room.NONE);
        room.tick(5, 0);
        room.ask("LOCK / DAV\nsort: many\n\n", 201);
        room.ask("LOCK /c DAV\nsort: many\nfor: 3\n\n", 201);
        room.ask("LOCK /c DAV\nsort: many\ndepth: 0\n\n", 201);
        int[][] want = {{1, 105, 1, 0, 6}, {2, 8, 1, 0, 4}, {3, 105, 0, 0, 1}};
        for (int k = 0; k < 3; k++) {
            for (int what = 0; what < 5; what++) {
                room.lock(k, what, want[k][what]);
            }
        }
        for (int k : new int[] {Integer.MIN_VALUE, -1, 3, 10, Integer.MAX_VALUE}) {
            room.lock(k, 0, Room.NONE);
            room.lock(k, 4, Room.NONE);
            room.lock(k, 5, Room.REFUSED);
        }
        room.ask("UNLOCK / DAV\ntoken: 1\n\n", 204);
        room.lock(0, 0, 2);
        room.lock(1, 0, 3);
        room.lock(2, 0, Room.NONE);
        room.ask("LOCK /c- DAV\n\n", 201);
        room.lock(2, 3, 1);
    }

    private static void count() {
        Room room = filled();
        room.tick(9, 0);
        room.ask("LOCK / DAV\n\n", 201);
        room.count(0, 9);
        room.count(1, 5);
        room.count(2, 3);
        room.count(3, 1);
        room.count(4, 8);
        for (int what : FAR) {
            room.count(what, Room.REFUSED);
        }
        room.ask("DELETE /c DAV\ntoken: 1\n\n", 204);
        room.count(1, 1);
        room.count(2, 1);
        room.count(4, 3);
    }
}
