/**
 * Promises 1 to 8, sentence by sentence where one names a limit, an order of errors or a refusal.
 * Each refused call is compared with a twin that did not get it (see Run).
 */
public final class RoomsEdgesTest {
    private static final int UNKNOWN = EscapeRooms.UNKNOWN;
    private static final int BAD_VALUE = EscapeRooms.BAD_VALUE;
    private static final int FULL = EscapeRooms.FULL;
    private static final int NONE = EscapeRooms.NONE;
    private static final Check check = new Check("RoomsEdgesTest");

    public static void main(String[] args) {
        promise1NothingIsKnown();
        promise1NothingIsThere();
        promise2UpTo12Rooms();
        promise3RoomsThatCanBeTheExit();
        promise3ThePreviousExit();
        promise4Limits();
        promise4OrderOfErrors();
        promise4UpTo16Doors();
        promise5Limits();
        promise5OrderOfErrors();
        promise5UpTo10Locks();
        promise5UpTo16Doors();
        promise6Limits();
        promise6UpTo16Keys();
        promise6KeysUsedUpCount();
        promise7Limits();
        promise7UpTo6Groups();
        promise7GroupsThatPartedOrJoinedCount();
        promise7SizesUpTo24();
        promise7SizesOfWhoEscapedCount();
        promise7SizesOfWhoJoinedCountOnce();
        promise8Limits();
        promise8PreviousBaseCosts();
        promise8LeastAndGreatestCosts();
        check.end();
    }

    private static Run withRooms(int rooms) {
        return new Run(check).make(rooms, "addRoom");
    }

    /** There is no room, door, key or group: each call that names one is refused, whatever its other arguments. */
    private static void promise1NothingIsKnown() {
        Run empty = new Run(check);
        String[] calls = {"setExit 0", "addDoor 0 1 1", "addDoor 0 0 0", "addLock 0 1 1 0 1", "addLock 0 0 0 6 0",
            "addKey 0 0", "addKey 0 6", "addGroup 1 0", "addGroup 0 0", "walk 0 0", "unlock 0 0", "take 0 0",
            "drop 0 0", "idle 0 1", "idle 0 0", "part 0 1", "part 0 0", "join 0 1", "join 0 0", "leave 0", "hint 0",
            "plan 0 0", "plan 0 2", "planned 0 0", "planned 0 -1", "way 0 0", "reach 0", "door 0 0", "door 0 6",
            "key 0 0", "key 0 5", "group 0 0", "group 0 6"};
        for (String call : calls) {
            empty.refuses(call, UNKNOWN);
        }
        empty.refuses("color 6 0", BAD_VALUE).refuses("color 0 2", BAD_VALUE).refuses("count 11", BAD_VALUE);
        empty.refuses("setHints 0 0", BAD_VALUE);
        empty.answers("addRoom", 0);
    }

    private static void promise1NothingIsThere() {
        Run empty = new Run(check);
        for (int color = 0; color < 6; color++) {
            empty.tells("color " + color + " 0", 0).tells("color " + color + " 1", 0);
        }
        int[] counts = {0, 0, 0, 0, NONE, 0, 0, 0, NONE, 0, 0};
        for (int what = 0; what < counts.length; what++) {
            empty.tells("count " + what, counts[what]);
        }
        // At first hints cost 5, and 5 more each.
        Run hints = new Run(check, "addRoom", "addGroup 1 0").answers("hint 0", 17).tells("group 0 2", 5);
        hints.answers("hint 0", 17).tells("group 0 2", 15).answers("setHints 1 0", 5);
    }

    private static void promise2UpTo12Rooms() {
        Run game = new Run(check);
        for (int room = 0; room < 12; room++) {
            game.tells("count 0", room).answers("addRoom", room);
        }
        game.refuses("addRoom", FULL).refuses("addRoom", FULL).tells("count 0", 12);
        game.answers("addDoor 11 0 1", 0).answers("addGroup 1 11", 0).answers("addKey 11 0", 0);
    }

    private static void promise3RoomsThatCanBeTheExit() {
        withRooms(1).limits("setExit ?", 0, 0, UNKNOWN);
        Run game = withRooms(12).limits("setExit ?", 0, 11, UNKNOWN);
        game.answers("setExit 11", NONE).limits("setExit ?", 0, 11, UNKNOWN).tells("count 4", 11);
    }

    private static void promise3ThePreviousExit() {
        Run game = withRooms(3).answers("setExit 0", NONE).tells("count 4", 0);
        game.answers("setExit 2", 0).answers("setExit 2", 2).answers("setExit 1", 2).tells("count 4", 1);
    }

    private static void promise4Limits() {
        Run game = withRooms(3).limits("addDoor ? 1 5", 0, 2, UNKNOWN).limits("addDoor 1 ? 5", 0, 2, UNKNOWN);
        game.limits("addDoor 0 2 ?", 1, 30, BAD_VALUE);
        game.refuses("addDoor 0 0 5", BAD_VALUE).refuses("addDoor 2 2 5", BAD_VALUE);
        game.answers("addDoor 2 0 1", 0).tells("door 0 0", 0).tells("door 0 1", 2).tells("door 0 2", 1);
        game.answers("addDoor 0 2 30", 1).tells("door 1 0", 0).tells("door 1 1", 2).tells("door 1 2", 30);
        game.tells("door 1 3", NONE).tells("door 1 4", 0).tells("door 1 5", 0);
    }

    private static void promise4OrderOfErrors() {
        Run game = withRooms(2);
        game.refuses("addDoor 2 2 5", UNKNOWN).refuses("addDoor -1 -1 5", UNKNOWN);
        game.refuses("addDoor 0 2 0", UNKNOWN).refuses("addDoor 2 0 31", UNKNOWN).refuses("addDoor 1 1 31", BAD_VALUE);
        game.make(16, "addDoor 0 1 1");
        game.refuses("addDoor 0 2 1", UNKNOWN).refuses("addDoor -1 0 1", UNKNOWN).refuses("addDoor 2 2 0", UNKNOWN);
        game.refuses("addDoor 0 1 0", BAD_VALUE).refuses("addDoor 0 1 31", BAD_VALUE);
        game.refuses("addDoor 1 1 1", BAD_VALUE).refuses("addDoor 0 1 1", FULL);
    }

    private static void promise4UpTo16Doors() {
        Run open = withRooms(2).make("addGroup 1 1", "setExit 0").make(15, "addDoor 0 1 1");
        open.answers("addDoor 1 0 2", 15).refuses("addDoor 0 1 1", FULL);
        open.tells("count 1", 16).tells("door 15 2", 2).refuses("door 16 0", UNKNOWN);
        Run mixed = withRooms(2).make(10, "addLock 0 1 1 0 1").make(5, "addDoor 0 1 1");
        mixed.answers("addDoor 0 1 1", 15).refuses("addDoor 0 1 1", FULL);
    }

    private static void promise5Limits() {
        Run game = withRooms(3).limits("addLock ? 1 5 0 5", 0, 2, UNKNOWN).limits("addLock 1 ? 5 0 5", 0, 2, UNKNOWN);
        game.limits("addLock 0 2 ? 0 5", 1, 30, BAD_VALUE).limits("addLock 0 2 5 ? 5", 0, 5, BAD_VALUE);
        game.limits("addLock 0 2 5 0 ?", 1, 60, BAD_VALUE);
        game.refuses("addLock 0 0 5 0 5", BAD_VALUE).refuses("addLock 2 2 5 0 5", BAD_VALUE);
        game.answers("addLock 2 0 1 0 1", 0).answers("addLock 0 2 30 5 60", 1);
        int[][] told = {{0, 2, 1, 0, 1, NONE}, {0, 2, 30, 5, 60, NONE}};
        for (int door = 0; door < 2; door++) {
            for (int what = 0; what < 6; what++) game.tells("door " + door + " " + what, told[door][what]);
        }
    }

    private static void promise5OrderOfErrors() {
        Run game = withRooms(2);
        game.refuses("addLock 2 2 5 0 5", UNKNOWN).refuses("addLock -1 0 31 0 5", UNKNOWN);
        game.refuses("addLock 0 2 5 6 5", UNKNOWN).refuses("addLock 2 0 5 0 61", UNKNOWN);
        game.refuses("addLock 1 1 0 -1 0", BAD_VALUE);
        Run locks = withRooms(2).make("addGroup 1 0", "setExit 1", "addKey 0 0").make(10, "addLock 0 1 1 0 1");
        Run doors = withRooms(2).make(16, "addDoor 0 1 1");
        Run both = withRooms(2).make(10, "addLock 0 1 1 0 1").make(6, "addDoor 0 1 1");
        for (Run full : new Run[] {locks, doors, both}) {
            full.refuses("addLock 0 2 5 0 5", UNKNOWN).refuses("addLock -1 0 5 0 5", UNKNOWN);
            full.refuses("addLock 0 2 0 6 0", UNKNOWN);
            full.refuses("addLock 0 0 5 0 5", BAD_VALUE).refuses("addLock 0 1 31 0 5", BAD_VALUE);
            full.refuses("addLock 0 1 5 6 5", BAD_VALUE).refuses("addLock 0 1 5 0 61", BAD_VALUE);
            full.refuses("addLock 0 1 5 0 5", FULL);
        }
    }

    private static void promise5UpTo10Locks() {
        Run game = withRooms(2).make("addDoor 0 1 1").make(9, "addLock 0 1 1 0 1");
        game.answers("addLock 0 1 1 0 1", 10).refuses("addLock 0 1 1 0 1", FULL).tells("color 0 0", 10);
        game.answers("addDoor 0 1 1", 11).refuses("addLock 0 1 1 0 1", FULL);
        // A lock that was unlocked is a lock.
        game.make("addKey 0 0", "addGroup 1 0", "take 0 0", "unlock 0 1");
        game.refuses("addLock 0 1 1 0 1", FULL).tells("color 0 0", 9);
    }

    private static void promise5UpTo16Doors() {
        Run game = withRooms(2).make(15, "addDoor 0 1 1").answers("addLock 0 1 1 0 1", 15);
        game.refuses("addLock 0 1 1 0 1", FULL).refuses("addDoor 0 1 1", FULL).tells("count 1", 16);
    }

    private static void promise6Limits() {
        Run game = withRooms(3).limits("addKey ? 0", 0, 2, UNKNOWN).limits("addKey 0 ?", 0, 5, BAD_VALUE);
        game.refuses("addKey 3 6", UNKNOWN).refuses("addKey -1 -1", UNKNOWN);
        game.answers("addKey 2 0", 0).tells("key 0 0", 0).tells("key 0 2", 2);
        game.answers("addKey 0 5", 1).tells("key 1 0", 5).tells("key 1 2", 0);
    }

    private static void promise6UpTo16Keys() {
        Run game = withRooms(2).make("addGroup 2 0", "addGroup 3 1").make(15, "addKey 0 1");
        game.answers("addKey 1 2", 15).refuses("addKey 0 0", FULL);
        game.refuses("addKey 2 0", UNKNOWN).refuses("addKey -1 0", UNKNOWN).refuses("addKey 2 6", UNKNOWN);
        game.refuses("addKey 0 -1", BAD_VALUE).refuses("addKey 0 6", BAD_VALUE);
        game.tells("count 2", 16).tells("key 15 0", 2).refuses("key 16 0", UNKNOWN).tells("color 1 1", 15);
    }

    private static void promise6KeysUsedUpCount() {
        Run game = withRooms(2).make("addLock 0 1 1 0 1", "addGroup 1 0").make(16, "addKey 0 0");
        game.make("take 0 3", "take 0 9", "unlock 0 0").refuses("addKey 0 0", FULL).tells("count 2", 16);
        game.tells("color 0 1", 15);
    }

    private static void promise7Limits() {
        Run game = withRooms(3).limits("addGroup ? 0", 1, 24, BAD_VALUE).limits("addGroup 1 ?", 0, 2, UNKNOWN);
        game.refuses("addGroup 0 3", UNKNOWN).refuses("addGroup 25 -1", UNKNOWN);
        game.answers("addGroup 1 2", 0).tells("group 0 0", 1).tells("group 0 1", 2).tells("group 0 2", 0);
        withRooms(1).answers("addGroup 24 0", 0).tells("group 0 0", 24);
    }

    private static void promise7UpTo6Groups() {
        Run game = withRooms(1).make(5, "addGroup 1 0").answers("addGroup 1 0", 5).refuses("addGroup 1 0", FULL);
        game.refuses("addGroup 1 1", UNKNOWN).refuses("addGroup 0 -1", UNKNOWN);
        game.refuses("addGroup 0 0", BAD_VALUE).refuses("addGroup 25 0", BAD_VALUE);
        game.refuses("addGroup 24 0", FULL).tells("count 3", 6).refuses("group 6 0", UNKNOWN);
    }

    private static void promise7GroupsThatPartedOrJoinedCount() {
        Run game = withRooms(1).make("addGroup 6 0").make(4, "part 0 1").answers("addGroup 1 0", 5);
        game.refuses("addGroup 1 0", FULL).make("join 5 0", "join 4 0").refuses("addGroup 1 0", FULL);
        game.make("setExit 0", "leave 0").refuses("addGroup 1 0", FULL);
    }

    private static void promise7SizesUpTo24() {
        Run game = withRooms(1).make("addGroup 20 0").refuses("addGroup 5 0", FULL).refuses("addGroup 24 0", FULL);
        game.refuses("addGroup max 0", BAD_VALUE).answers("addGroup 4 0", 1).refuses("addGroup 1 0", FULL);
        game.refuses("addGroup 1 1", UNKNOWN).refuses("addGroup 25 0", BAD_VALUE).refuses("addGroup 0 0", BAD_VALUE);
        // Who parts is counted once.
        game.make("part 0 19").refuses("addGroup 1 0", FULL).tells("count 7", 24);
    }

    private static void promise7SizesOfWhoEscapedCount() {
        Run game = withRooms(1).make("setExit 0", "addGroup 12 0", "leave 0", "addGroup 11 0");
        game.refuses("addGroup 2 0", FULL).answers("addGroup 1 0", 2).make("leave 1", "leave 2");
        game.refuses("addGroup 1 0", FULL).tells("count 6", 24);
    }

    private static void promise7SizesOfWhoJoinedCountOnce() {
        Run game = withRooms(1).make("addGroup 8 0", "addGroup 8 0", "join 0 1");
        game.refuses("addGroup 9 0", FULL).answers("addGroup 8 0", 2).refuses("addGroup 1 0", FULL);
        game.make("join 1 2").tells("group 2 0", 24).refuses("addGroup 1 0", FULL);
    }

    private static Run withHints() {
        return withRooms(2).make("addGroup 2 0", "part 0 1", "hint 0");
    }

    private static void promise8Limits() {
        for (Run game : new Run[] {withHints(), withHints().make("setHints 7 9")}) {
            game.limits("setHints ? 3", 1, 30, BAD_VALUE).limits("setHints 3 ?", 0, 30, BAD_VALUE);
            game.refuses("setHints 0 -1", BAD_VALUE).refuses("setHints 31 31", BAD_VALUE);
        }
    }

    private static void promise8PreviousBaseCosts() {
        Run game = new Run(check).answers("setHints 1 0", 5).answers("setHints 30 30", 1);
        game.answers("setHints 30 0", 30).answers("setHints 2 30", 30).answers("setHints 2 1", 2);
        game.refuses("setHints 0 1", BAD_VALUE).answers("setHints 9 1", 2);
    }

    private static void promise8LeastAndGreatestCosts() {
        Run least = withRooms(1).make("addGroup 1 0", "setHints 1 0", "hint 0").tells("group 0 2", 1);
        least.make("hint 0", "hint 0").tells("group 0 2", 3);
        Run greatest = withRooms(1).make("addGroup 1 0", "setHints 30 30", "hint 0").tells("group 0 2", 30);
        greatest.make("hint 0").tells("group 0 2", 90).make("hint 0").tells("group 0 2", 180);
    }
}
