/** Promises 1 to 8: what a new object is, and what is put into it. */
public final class RoomsTest {
    private static final int UNKNOWN = EscapeRooms.UNKNOWN;
    private static final int BAD_VALUE = EscapeRooms.BAD_VALUE;
    private static final int FULL = EscapeRooms.FULL;
    private static final int NONE = EscapeRooms.NONE;
    private static final Check check = new Check("RoomsTest");

    public static void main(String[] args) {
        constants();
        promise1NewObject();
        promise2AddRoom();
        promise3SetExit();
        promise4AddDoor();
        promise5AddLock();
        promise6AddKey();
        promise7AddGroup();
        promise8SetHints();
        check.end();
    }

    private static EscapeRooms withRooms(int rooms) {
        EscapeRooms game = new EscapeRooms();
        for (int i = 0; i < rooms; i++) {
            game.addRoom();
        }
        return game;
    }

    private static void constants() {
        check.due("UNKNOWN", EscapeRooms.UNKNOWN, -1);
        check.due("BAD_VALUE", EscapeRooms.BAD_VALUE, -2);
        check.due("FULL", EscapeRooms.FULL, -3);
        check.due("NOT_POSSIBLE", EscapeRooms.NOT_POSSIBLE, -4);
        check.due("TOO_LATE", EscapeRooms.TOO_LATE, -5);
        check.due("NONE", EscapeRooms.NONE, -6);
    }

    private static void promise1NewObject() {
        EscapeRooms game = new EscapeRooms();
        int[] counts = {0, 0, 0, 0, NONE, 0, 0, 0, NONE, 0, 0, BAD_VALUE};
        for (int what = 0; what < counts.length; what++) {
            check.due("new: count(" + what + ")", game.count(what), counts[what]);
        }
        check.due("new: door(0, 0)", game.door(0, 0), UNKNOWN);
        check.due("new: key(0, 0)", game.key(0, 0), UNKNOWN);
        check.due("new: group(0, 0)", game.group(0, 0), UNKNOWN);
        check.due("new: setExit(0)", game.setExit(0), UNKNOWN);
        EscapeRooms other = new EscapeRooms();
        check.due("addRoom()", game.addRoom(), 0);
        check.due("another object is not changed", other.count(0), 0);
    }

    private static void promise2AddRoom() {
        EscapeRooms game = new EscapeRooms();
        for (int i = 0; i < 12; i++) {
            check.due("addRoom()", game.addRoom(), i);
        }
        check.due("addRoom() the 13th", game.addRoom(), FULL);
        check.due("addRoom() the 13th again", game.addRoom(), FULL);
        check.due("count(0)", game.count(0), 12);
    }

    private static void promise3SetExit() {
        EscapeRooms game = withRooms(3);
        check.due("setExit(3)", game.setExit(3), UNKNOWN);
        check.due("setExit(-1)", game.setExit(-1), UNKNOWN);
        check.due("count(4)", game.count(4), NONE);
        check.due("setExit(2)", game.setExit(2), NONE);
        check.due("count(4) behind NONE", game.count(4), 2);
        check.due("setExit(0)", game.setExit(0), 2);
        check.due("setExit(0) again", game.setExit(0), 0);
        check.due("setExit(-6)", game.setExit(-6), UNKNOWN);
        check.due("count(4)", game.count(4), 0);
    }

    private static void promise4AddDoor() {
        EscapeRooms game = withRooms(2);
        check.due("addDoor(2, 0, 1)", game.addDoor(2, 0, 1), UNKNOWN);
        check.due("addDoor(0, 2, 1)", game.addDoor(0, 2, 1), UNKNOWN);
        check.due("addDoor(-1, 0, 1)", game.addDoor(-1, 0, 1), UNKNOWN);
        check.due("addDoor(0, -1, 1)", game.addDoor(0, -1, 1), UNKNOWN);
        check.due("addDoor(2, 2, 0)", game.addDoor(2, 2, 0), UNKNOWN);
        check.due("addDoor(0, 1, 0)", game.addDoor(0, 1, 0), BAD_VALUE);
        check.due("addDoor(0, 1, 31)", game.addDoor(0, 1, 31), BAD_VALUE);
        check.due("addDoor(1, 1, 5)", game.addDoor(1, 1, 5), BAD_VALUE);
        check.due("count(1)", game.count(1), 0);
        check.due("addDoor(1, 0, 30)", game.addDoor(1, 0, 30), 0);
        check.due("lower room", game.door(0, 0), 0);
        check.due("higher room", game.door(0, 1), 1);
        check.due("walking time", game.door(0, 2), 30);
        check.due("no color", game.door(0, 3), NONE);
        check.due("no unlocking time", game.door(0, 4), 0);
        check.due("open from 0", game.door(0, 5), 0);
        for (int i = 1; i < 16; i++) {
            check.due("addDoor(0, 1, 1)", game.addDoor(0, 1, 1), i);
        }
        check.due("addDoor(0, 1, 1) the 17th", game.addDoor(0, 1, 1), FULL);
        check.due("addDoor(0, 0, 1) the 17th", game.addDoor(0, 0, 1), BAD_VALUE);
        check.due("addDoor(0, 2, 1) the 17th", game.addDoor(0, 2, 1), UNKNOWN);
        check.due("addLock() the 17th", game.addLock(0, 1, 1, 0, 1), FULL);
        check.due("count(1)", game.count(1), 16);
    }

    private static void promise5AddLock() {
        EscapeRooms game = withRooms(3);
        check.due("addLock(3, 0, ..)", game.addLock(3, 0, 1, 0, 1), UNKNOWN);
        check.due("addLock(0, 3, ..)", game.addLock(0, 3, 1, 0, 1), UNKNOWN);
        check.due("addLock(-1, 0, ..)", game.addLock(-1, 0, 1, 0, 1), UNKNOWN);
        check.due("addLock(0, -1, 99, 99, 99)", game.addLock(0, -1, 99, 99, 99), UNKNOWN);
        check.due("addLock(1, 1, ..)", game.addLock(1, 1, 1, 0, 1), BAD_VALUE);
        check.due("walk 0", game.addLock(0, 1, 0, 0, 1), BAD_VALUE);
        check.due("walk 31", game.addLock(0, 1, 31, 0, 1), BAD_VALUE);
        check.due("color -1", game.addLock(0, 1, 1, -1, 1), BAD_VALUE);
        check.due("color 6", game.addLock(0, 1, 1, 6, 1), BAD_VALUE);
        check.due("unlock 0", game.addLock(0, 1, 1, 0, 0), BAD_VALUE);
        check.due("unlock 61", game.addLock(0, 1, 1, 0, 61), BAD_VALUE);
        check.due("addLock(2, 1, 30, 5, 60)", game.addLock(2, 1, 30, 5, 60), 0);
        check.due("lower room", game.door(0, 0), 1);
        check.due("higher room", game.door(0, 1), 2);
        check.due("walking time", game.door(0, 2), 30);
        check.due("color", game.door(0, 3), 5);
        check.due("unlocking time", game.door(0, 4), 60);
        check.due("not open", game.door(0, 5), NONE);
        for (int i = 1; i < 10; i++) {
            check.due("addLock(0, 1, 1, 0, 1)", game.addLock(0, 1, 1, 0, 1), i);
        }
        check.due("addLock() the 11th lock", game.addLock(0, 1, 1, 0, 1), FULL);
        check.due("addLock() the 11th lock, a bad value", game.addLock(0, 1, 1, 0, 61), BAD_VALUE);
        for (int i = 10; i < 16; i++) {
            check.due("addDoor(0, 1, 1)", game.addDoor(0, 1, 1), i);
        }
        check.due("addDoor() the 17th door", game.addDoor(0, 1, 1), FULL);

        // An unlocked door is still one with a lock.
        EscapeRooms opened = withRooms(2);
        opened.addKey(0, 0);
        opened.addGroup(1, 0);
        for (int i = 0; i < 10; i++) {
            opened.addLock(0, 1, 1, 0, 1);
        }
        opened.take(0, 0);
        opened.unlock(0, 3);
        check.due("addLock() behind an unlocking", opened.addLock(0, 1, 1, 0, 1), FULL);

        // Doors without locks fill the doors up as well.
        EscapeRooms mixed = withRooms(2);
        for (int i = 0; i < 15; i++) {
            mixed.addDoor(0, 1, 1);
        }
        check.due("addLock() the 16th door", mixed.addLock(0, 1, 1, 0, 1), 15);
        check.due("addLock() the 17th door", mixed.addLock(0, 1, 1, 0, 1), FULL);
    }

    private static void promise6AddKey() {
        EscapeRooms game = withRooms(2);
        check.due("addKey(2, 0)", game.addKey(2, 0), UNKNOWN);
        check.due("addKey(-1, 9)", game.addKey(-1, 9), UNKNOWN);
        check.due("addKey(0, -1)", game.addKey(0, -1), BAD_VALUE);
        check.due("addKey(0, 6)", game.addKey(0, 6), BAD_VALUE);
        check.due("addKey(1, 5)", game.addKey(1, 5), 0);
        check.due("color", game.key(0, 0), 5);
        check.due("it lies", game.key(0, 1), 0);
        check.due("room", game.key(0, 2), 1);
        check.due("no holder", game.key(0, 3), NONE);
        check.due("no door", game.key(0, 4), NONE);
        for (int i = 1; i < 16; i++) {
            check.due("addKey(0, 0)", game.addKey(0, 0), i);
        }
        check.due("addKey(0, 0) the 17th", game.addKey(0, 0), FULL);
        check.due("addKey(0, 6) the 17th", game.addKey(0, 6), BAD_VALUE);
        check.due("count(2)", game.count(2), 16);

        // It lies from the time 0, also if it comes late.
        EscapeRooms late = withRooms(1);
        late.addGroup(1, 0);
        late.idle(0, 50);
        late.addKey(0, 0);
        late.addGroup(1, 0);
        check.due("take(1, 0)", late.take(1, 0), 1);
        check.due("time of group 1", late.group(1, 2), 0);
    }

    private static void promise7AddGroup() {
        EscapeRooms game = withRooms(2);
        check.due("addGroup(1, 2)", game.addGroup(1, 2), UNKNOWN);
        check.due("addGroup(0, -1)", game.addGroup(0, -1), UNKNOWN);
        check.due("addGroup(0, 0)", game.addGroup(0, 0), BAD_VALUE);
        check.due("addGroup(25, 0)", game.addGroup(25, 0), BAD_VALUE);
        check.due("addGroup(3, 1)", game.addGroup(3, 1), 0);
        int[] properties = {3, 1, 0, 0, 0, 0};
        for (int what = 0; what < properties.length; what++) {
            check.due("group(0, " + what + ")", game.group(0, what), properties[what]);
        }
        check.due("addGroup(22, 0) of 25", game.addGroup(22, 0), FULL);
        check.due("addGroup(21, 0) of 24", game.addGroup(21, 0), 1);
        check.due("addGroup(1, 0) of 25", game.addGroup(1, 0), FULL);
        check.due("addGroup(25, 0)", game.addGroup(25, 0), BAD_VALUE);
        check.due("count(3)", game.count(3), 2);

        EscapeRooms many = withRooms(1);
        for (int i = 0; i < 6; i++) {
            check.due("addGroup(1, 0)", many.addGroup(1, 0), i);
        }
        check.due("addGroup(1, 0) the 7th", many.addGroup(1, 0), FULL);
        check.due("addGroup(0, 0) the 7th", many.addGroup(0, 0), BAD_VALUE);
        many.join(0, 1);
        check.due("addGroup(1, 0) with one that joined", many.addGroup(1, 0), FULL);

        // Those who escaped count, as do those who joined, once.
        EscapeRooms escaped = withRooms(1);
        escaped.setExit(0);
        escaped.addGroup(10, 0);
        escaped.addGroup(10, 0);
        escaped.leave(0);
        check.due("addGroup(5, 0) with 20 of them", escaped.addGroup(5, 0), FULL);
        check.due("addGroup(2, 0) with 20 of them", escaped.addGroup(2, 0), 2);
        escaped.join(2, 1);
        check.due("addGroup(3, 0) with 22 of them", escaped.addGroup(3, 0), FULL);
        check.due("addGroup(2, 0) with 22 of them", escaped.addGroup(2, 0), 3);
    }

    private static void promise8SetHints() {
        EscapeRooms game = withRooms(1);
        game.addGroup(1, 0);
        check.due("setHints(0, 0)", game.setHints(0, 0), BAD_VALUE);
        check.due("setHints(31, 0)", game.setHints(31, 0), BAD_VALUE);
        check.due("setHints(1, -1)", game.setHints(1, -1), BAD_VALUE);
        check.due("setHints(1, 31)", game.setHints(1, 31), BAD_VALUE);
        game.hint(0);
        check.due("the first hint costs 5", game.group(0, 2), 5);
        game.hint(0);
        check.due("the second one 10", game.group(0, 2), 15);
        check.due("setHints(1, 0)", game.setHints(1, 0), 5);
        game.hint(0);
        check.due("then 1", game.group(0, 2), 16);
        check.due("setHints(30, 30)", game.setHints(30, 30), 1);
        game.hint(0);
        check.due("then 30 and 3 times 30", game.group(0, 2), 136);
        check.due("setHints(2, 3)", game.setHints(2, 3), 30);
        game.hint(0);
        check.due("then 2 and 4 times 3", game.group(0, 2), 150);
    }
}
