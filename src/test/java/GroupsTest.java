/** Promises 9 to 17: what groups do. */
public final class GroupsTest {
    private static final int UNKNOWN = EscapeRooms.UNKNOWN;
    private static final int BAD_VALUE = EscapeRooms.BAD_VALUE;
    private static final int FULL = EscapeRooms.FULL;
    private static final int NOT_POSSIBLE = EscapeRooms.NOT_POSSIBLE;
    private static final int TOO_LATE = EscapeRooms.TOO_LATE;
    private static final int NONE = EscapeRooms.NONE;
    private static final Check check = new Check("GroupsTest");

    public static void main(String[] args) {
        promise9Walk();
        promise10Unlock();
        promise10UnlockErrors();
        promise11Take();
        promise12Drop();
        promise13Idle();
        promise14Part();
        promise15Join();
        promise16Leave();
        promise17Hint();
        promise17HintCosts();
        groupsNotInPlay();
        check.end();
    }

    /** Rooms 0 to 2; the doors 0: 0-1 open, 1: 1-2 locked (color 1); keys of color 1 in 0 and 1; a group of 4 in 0. */
    private static EscapeRooms small() {
        EscapeRooms game = new EscapeRooms();
        game.addRoom();
        game.addRoom();
        game.addRoom();
        game.addDoor(0, 1, 3);
        game.addLock(1, 2, 4, 1, 10);
        game.addKey(0, 1);
        game.addKey(1, 1);
        game.addGroup(4, 0);
        return game;
    }

    /** Lets the group wait until a time. */
    private static void waitUntil(EscapeRooms game, int group, int time) {
        int rest = time - game.group(group, 2);
        while (rest > 0) {
            int minutes = Math.min(rest, 1000);
            game.idle(group, minutes);
            rest -= minutes;
        }
        check.due("waited until", game.group(group, 2), time);
    }

    private static void promise9Walk() {
        EscapeRooms game = small();
        check.due("walk(1, 0)", game.walk(1, 0), UNKNOWN);
        check.due("walk(-1, 0)", game.walk(-1, 0), UNKNOWN);
        check.due("walk(0, 2)", game.walk(0, 2), UNKNOWN);
        check.due("walk(0, -1)", game.walk(0, -1), UNKNOWN);
        check.due("walk(0, 1) from elsewhere", game.walk(0, 1), NOT_POSSIBLE);
        check.due("walk(0, 0)", game.walk(0, 0), 3);
        check.due("its room", game.group(0, 1), 1);
        check.due("its time", game.group(0, 2), 3);
        check.due("walk(0, 1) locked", game.walk(0, 1), NOT_POSSIBLE);
        check.due("walk(0, 0) back", game.walk(0, 0), 6);
        check.due("its room", game.group(0, 1), 0);
        game.walk(0, 0);
        game.part(0, 1);
        game.take(0, 1);
        check.due("unlock(0, 1)", game.unlock(0, 1), 1);
        check.due("walk(1, 1) waits until 19", game.walk(1, 1), 23);
        check.due("its room", game.group(1, 1), 2);
        game.idle(0, 11);
        check.due("walk(0, 1) does not wait", game.walk(0, 1), 34);
        check.due("walk(0, 1) back", game.walk(0, 1), 38);
        waitUntil(game, 0, 99997);
        check.due("walk(0, 1) until 100001", game.walk(0, 1), TOO_LATE);
        check.due("its room", game.group(0, 1), 1);
        check.due("its time", game.group(0, 2), 99997);
        check.due("walk(0, 0) until 100000", game.walk(0, 0), 100000);
        check.due("walk(0, 0)", game.walk(0, 0), TOO_LATE);
        check.due("walk(0, 1) from elsewhere", game.walk(0, 1), NOT_POSSIBLE);
    }

    private static void promise10Unlock() {
        EscapeRooms game = small();
        game.addKey(1, 2);
        game.addKey(1, 1);
        game.walk(0, 0);
        game.take(0, 3);
        game.take(0, 1);
        game.take(0, 2);
        game.part(0, 2);
        game.idle(1, 50);
        check.due("unlock(0, 1) with the lowest one", game.unlock(0, 1), 1);
        check.due("its time", game.group(0, 2), 13);
        check.due("its keys", game.group(0, 3), 2);
        check.due("its room", game.group(0, 1), 1);
        check.due("the door is open from", game.door(1, 5), 13);
        check.due("the key is used up", game.key(1, 1), 2);
        check.due("it lies nowhere", game.key(1, 2), NONE);
        check.due("nobody holds it", game.key(1, 3), NONE);
        check.due("its door", game.key(1, 4), 1);
        check.due("the other key is held", game.key(3, 3), 0);
        check.due("unlock(0, 1) again", game.unlock(0, 1), NOT_POSSIBLE);
        check.due("take(0, 1) used up", game.take(0, 1), NOT_POSSIBLE);
        check.due("drop(0, 1) used up", game.drop(0, 1), NOT_POSSIBLE);
        check.due("walk(1, 1)", game.walk(1, 1), 57);
        check.due("count(5)", game.count(5), 1);

        // The other side of a door is a side, too.
        EscapeRooms behind = small();
        behind.addGroup(1, 2);
        behind.addKey(2, 1);
        behind.take(1, 2);
        check.due("unlock(1, 1) from the higher room", behind.unlock(1, 1), 2);
        check.due("the door is open from", behind.door(1, 5), 10);
    }

    private static void promise10UnlockErrors() {
        EscapeRooms game = small();
        game.addKey(0, 2);
        check.due("unlock(1, 1)", game.unlock(1, 1), UNKNOWN);
        check.due("unlock(-1, 1)", game.unlock(-1, 1), UNKNOWN);
        check.due("unlock(0, 2)", game.unlock(0, 2), UNKNOWN);
        check.due("unlock(0, -1)", game.unlock(0, -1), UNKNOWN);
        check.due("unlock(0, 0) no lock", game.unlock(0, 0), NOT_POSSIBLE);
        game.take(0, 2);
        game.take(0, 0);
        check.due("unlock(0, 1) from elsewhere", game.unlock(0, 1), NOT_POSSIBLE);
        game.drop(0, 0);
        game.walk(0, 0);
        check.due("unlock(0, 1) with a key of another color", game.unlock(0, 1), NOT_POSSIBLE);
        game.addGroup(1, 1);
        game.take(1, 1);
        check.due("unlock(0, 1) with another one's key", game.unlock(0, 1), NOT_POSSIBLE);
        waitUntil(game, 1, 99991);
        check.due("unlock(1, 1) until 100001", game.unlock(1, 1), TOO_LATE);
        check.due("the door", game.door(1, 5), NONE);
        check.due("the key", game.key(1, 3), 1);
        check.due("the time", game.group(1, 2), 99991);
        game.drop(1, 1);
        check.due("unlock(1, 1) without a key", game.unlock(1, 1), NOT_POSSIBLE);

        EscapeRooms last = small();
        last.walk(0, 0);
        last.take(0, 1);
        waitUntil(last, 0, 99990);
        check.due("unlock(0, 1) until 100000", last.unlock(0, 1), 1);
        check.due("the door", last.door(1, 5), 100000);
    }

    private static void promise11Take() {
        EscapeRooms game = small();
        game.addKey(0, 5);
        check.due("take(1, 0)", game.take(1, 0), UNKNOWN);
        check.due("take(-1, 0)", game.take(-1, 0), UNKNOWN);
        check.due("take(0, 3)", game.take(0, 3), UNKNOWN);
        check.due("take(0, -1)", game.take(0, -1), UNKNOWN);
        check.due("take(0, 1) from elsewhere", game.take(0, 1), NOT_POSSIBLE);
        check.due("take(0, 2)", game.take(0, 2), 1);
        check.due("take(0, 0)", game.take(0, 0), 2);
        check.due("take(0, 0) again", game.take(0, 0), NOT_POSSIBLE);
        check.due("it is held", game.key(0, 1), 1);
        check.due("it lies nowhere", game.key(0, 2), NONE);
        check.due("its holder", game.key(0, 3), 0);
        check.due("the time", game.group(0, 2), 0);
        game.part(0, 1);
        check.due("take(1, 0) from another group", game.take(1, 0), NOT_POSSIBLE);
        game.idle(0, 20);
        game.drop(0, 0);
        check.due("take(1, 0) waits", game.take(1, 0), 1);
        check.due("its time", game.group(1, 2), 20);
        game.drop(1, 0);
        game.idle(0, 7);
        check.due("take(0, 0) does not wait", game.take(0, 0), 2);
        check.due("its time", game.group(0, 2), 27);
    }

    private static void promise12Drop() {
        EscapeRooms game = small();
        game.addKey(0, 5);
        check.due("drop(1, 0)", game.drop(1, 0), UNKNOWN);
        check.due("drop(-1, 0)", game.drop(-1, 0), UNKNOWN);
        check.due("drop(0, 3)", game.drop(0, 3), UNKNOWN);
        check.due("drop(0, -1)", game.drop(0, -1), UNKNOWN);
        check.due("drop(0, 0) not held", game.drop(0, 0), NOT_POSSIBLE);
        game.take(0, 0);
        game.take(0, 2);
        game.part(0, 1);
        check.due("drop(1, 0) of another group", game.drop(1, 0), NOT_POSSIBLE);
        check.due("walk(0, 0)", game.walk(0, 0), 3);
        check.due("drop(0, 0)", game.drop(0, 0), 1);
        check.due("it lies", game.key(0, 1), 0);
        check.due("its room", game.key(0, 2), 1);
        check.due("its holder", game.key(0, 3), NONE);
        check.due("the time", game.group(0, 2), 3);
        check.due("drop(0, 0) again", game.drop(0, 0), NOT_POSSIBLE);
        check.due("drop(0, 2)", game.drop(0, 2), 0);
        game.addGroup(1, 1);
        check.due("take(2, 0)", game.take(2, 0), 1);
        check.due("it lay there from 3 on", game.group(2, 2), 3);
    }

    private static void promise13Idle() {
        EscapeRooms game = small();
        check.due("idle(1, 1)", game.idle(1, 1), UNKNOWN);
        check.due("idle(-1, 0)", game.idle(-1, 0), UNKNOWN);
        check.due("idle(0, 0)", game.idle(0, 0), BAD_VALUE);
        check.due("idle(0, -5)", game.idle(0, -5), BAD_VALUE);
        check.due("idle(0, 1001)", game.idle(0, 1001), BAD_VALUE);
        check.due("idle(0, 1)", game.idle(0, 1), 1);
        check.due("idle(0, 1000)", game.idle(0, 1000), 1001);
        waitUntil(game, 0, 99500);
        check.due("idle(0, 501)", game.idle(0, 501), TOO_LATE);
        check.due("its time", game.group(0, 2), 99500);
        check.due("idle(0, 500)", game.idle(0, 500), 100000);
        check.due("idle(0, 1)", game.idle(0, 1), TOO_LATE);
        check.due("idle(0, 1001)", game.idle(0, 1001), BAD_VALUE);
    }

    private static void promise14Part() {
        EscapeRooms game = small();
        game.take(0, 0);
        game.hint(0);
        check.due("part(1, 1)", game.part(1, 1), UNKNOWN);
        check.due("part(-1, 0)", game.part(-1, 0), UNKNOWN);
        check.due("part(0, 0)", game.part(0, 0), BAD_VALUE);
        check.due("part(0, 24)", game.part(0, 24), BAD_VALUE);
        check.due("part(0, 23)", game.part(0, 23), NOT_POSSIBLE);
        check.due("part(0, 4)", game.part(0, 4), NOT_POSSIBLE);
        check.due("count(3)", game.count(3), 1);
        game.walk(0, 0);
        check.due("part(0, 3)", game.part(0, 3), 1);
        int[] old = {1, 1, 8, 1, 1, 0};
        int[] made = {3, 1, 8, 0, 0, 0};
        for (int what = 0; what < 6; what++) {
            check.due("group(0, " + what + ")", game.group(0, what), old[what]);
            check.due("group(1, " + what + ")", game.group(1, what), made[what]);
        }
        check.due("part(0, 1)", game.part(0, 1), NOT_POSSIBLE);
        for (int i = 2; i < 6; i++) {
            game.addGroup(2, 0);
        }
        check.due("part(1, 1) the 7th group", game.part(1, 1), FULL);
        check.due("part(0, 1) the 7th group", game.part(0, 1), NOT_POSSIBLE);
        check.due("part(0, 24) the 7th group", game.part(0, 24), BAD_VALUE);
        check.due("its size", game.group(1, 0), 3);

        EscapeRooms big = new EscapeRooms();
        big.addRoom();
        big.addGroup(24, 0);
        check.due("part(0, 23) of 24", big.part(0, 23), 1);
        check.due("what is left", big.group(0, 0), 1);
    }

    private static void promise15Join() {
        EscapeRooms game = small();
        game.part(0, 1);
        game.part(0, 1);
        check.due("join(3, 0)", game.join(3, 0), UNKNOWN);
        check.due("join(0, 3)", game.join(0, 3), UNKNOWN);
        check.due("join(-1, -1)", game.join(-1, -1), UNKNOWN);
        check.due("join(1, 1)", game.join(1, 1), BAD_VALUE);
        game.take(0, 0);
        game.hint(0);
        game.hint(0);
        game.hint(1);
        game.walk(1, 0);
        check.due("join(0, 1) elsewhere", game.join(0, 1), NOT_POSSIBLE);
        game.take(1, 1);
        game.walk(0, 0);
        check.due("join(0, 1)", game.join(0, 1), 3);
        int[] joining = {0, 1, 18, 0, 2, 2};
        int[] joined = {3, 1, 18, 2, 3, 0};
        for (int what = 0; what < 6; what++) {
            check.due("group(0, " + what + ")", game.group(0, what), joining[what]);
            check.due("group(1, " + what + ")", game.group(1, what), joined[what]);
        }
        check.due("key(0, 3)", game.key(0, 3), 1);
        check.due("key(1, 3)", game.key(1, 3), 1);
        check.due("count(3)", game.count(3), 3);
        check.due("count(9)", game.count(9), 3);
        check.due("join(0, 1) again", game.join(0, 1), NOT_POSSIBLE);
        check.due("join(1, 0) that joined", game.join(1, 0), NOT_POSSIBLE);
        check.due("join(0, 0) that joined", game.join(0, 0), BAD_VALUE);
        game.walk(2, 0);
        check.due("join(2, 1) earlier", game.join(2, 1), 4);
        check.due("its time stays", game.group(1, 2), 18);
        check.due("the other time stays, too", game.group(2, 2), 3);
        game.hint(1);
        check.due("hints of both make the next one dearer", game.group(1, 2), 38);
        check.due("hints of the one that joined", game.group(0, 4), 2);
    }

    private static void promise16Leave() {
        EscapeRooms game = small();
        check.due("leave(1)", game.leave(1), UNKNOWN);
        check.due("leave(-1)", game.leave(-1), UNKNOWN);
        check.due("leave(0) without an exit", game.leave(0), NOT_POSSIBLE);
        game.setExit(1);
        check.due("leave(0) elsewhere", game.leave(0), NOT_POSSIBLE);
        game.part(0, 1);
        game.take(0, 0);
        game.walk(0, 0);
        check.due("leave(0)", game.leave(0), 3);
        int[] left = {3, 1, 3, 1, 0, 1};
        for (int what = 0; what < 6; what++) {
            check.due("group(0, " + what + ")", game.group(0, what), left[what]);
        }
        check.due("the key stays with it", game.key(0, 3), 0);
        check.due("it is held", game.key(0, 1), 1);
        check.due("leave(0) again", game.leave(0), NOT_POSSIBLE);
        game.walk(1, 0);
        check.due("take(1, 0) from who escaped", game.take(1, 0), NOT_POSSIBLE);
        check.due("join(1, 0) who escaped", game.join(1, 0), NOT_POSSIBLE);
        check.due("join(0, 1) who escaped", game.join(0, 1), NOT_POSSIBLE);
        game.setExit(0);
        check.due("leave(1) by the old exit", game.leave(1), NOT_POSSIBLE);
        check.due("who escaped stays so", game.group(0, 5), 1);
    }

    private static void promise17Hint() {
        EscapeRooms game = small();
        check.due("hint(1)", game.hint(1), UNKNOWN);
        check.due("hint(-1)", game.hint(-1), UNKNOWN);
        check.due("hint(0) without an exit", game.hint(0), 17);
        game.setExit(2);
        check.due("hint(0)", game.hint(0), 1);
        game.setExit(1);
        check.due("hint(0) without doors", game.hint(0), 16);
        check.due("hints", game.group(0, 4), 3);
        check.due("count(9)", game.count(9), 3);
        check.due("time", game.group(0, 2), 30);
        game.addRoom();
        game.setExit(3);
        check.due("hint(0) in a dead end", game.hint(0), 17);
        check.due("time", game.group(0, 2), 50);

        // The first door of a plan of two, which is not the lowest one.
        EscapeRooms two = small();
        two.addRoom();
        two.addLock(0, 3, 1, 0, 1);
        two.addKey(2, 0);
        two.setExit(3);
        check.due("hint(0) of two doors", two.hint(0), 1);
        check.due("plan(0, 1)", two.plan(0, 1), 2);
    }

    private static void promise17HintCosts() {
        EscapeRooms game = small();
        game.setHints(7, 2);
        game.hint(0);
        check.due("7", game.group(0, 2), 7);
        game.hint(0);
        check.due("and 9", game.group(0, 2), 16);
        game.part(0, 1);
        game.hint(1);
        check.due("a new group begins again", game.group(1, 2), 23);
        waitUntil(game, 0, 99989);
        game.setHints(8, 2);
        check.due("hint(0) until 100001", game.hint(0), TOO_LATE);
        check.due("hints", game.group(0, 4), 2);
        check.due("count(9)", game.count(9), 3);
        check.due("time", game.group(0, 2), 99989);
        game.setHints(7, 2);
        check.due("hint(0) until 100000", game.hint(0), 17);
        check.due("time", game.group(0, 2), 100000);
    }

    /** What a group that escaped (0) or joined (1) is asked to do is not possible; wrong values come first. */
    private static void groupsNotInPlay() {
        EscapeRooms game = small();
        game.part(0, 1);
        game.part(0, 1);
        game.join(1, 2);
        game.take(0, 0);
        game.addLock(0, 2, 1, 1, 1);
        game.addKey(0, 1);
        game.setExit(0);
        game.leave(0);
        for (int group = 0; group < 2; group++) {
            check.due("walk", game.walk(group, 0), NOT_POSSIBLE);
            check.due("unlock", game.unlock(group, 2), NOT_POSSIBLE);
            check.due("take", game.take(group, 2), NOT_POSSIBLE);
            check.due("drop", game.drop(group, 0), NOT_POSSIBLE);
            check.due("idle", game.idle(group, 1), NOT_POSSIBLE);
            check.due("idle 0", game.idle(group, 0), BAD_VALUE);
            check.due("part", game.part(group, 1), NOT_POSSIBLE);
            check.due("part 0", game.part(group, 0), BAD_VALUE);
            check.due("join", game.join(group, 2), NOT_POSSIBLE);
            check.due("join them", game.join(2, group), NOT_POSSIBLE);
            check.due("leave", game.leave(group), NOT_POSSIBLE);
            check.due("hint", game.hint(group), NOT_POSSIBLE);
            check.due("time", game.group(group, 2), 0);
            check.due("room", game.group(group, 1), 0);
        }
        check.due("group 2 can", game.take(2, 2), 1);
        check.due("group 2 can", game.unlock(2, 2), 2);
    }
}
