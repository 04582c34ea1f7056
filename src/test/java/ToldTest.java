/** Promises 20 to 26: what is told of ways, rooms within reach, doors, keys, groups, colors and the game. */
public final class ToldTest {
    private static final int UNKNOWN = EscapeRooms.UNKNOWN;
    private static final int BAD_VALUE = EscapeRooms.BAD_VALUE;
    private static final int NOT_POSSIBLE = EscapeRooms.NOT_POSSIBLE;
    private static final int NONE = EscapeRooms.NONE;
    private static final Check check = new Check("ToldTest");

    public static void main(String[] args) {
        promise20Way();
        promise20WayWaits();
        promise20WayLong();
        promise21Reach();
        promise22Door();
        promise23Key();
        promise24Group();
        promise25Color();
        promise26Count();
        promise26CountDeadEnds();
        check.end();
    }

    private static EscapeRooms withRooms(int rooms) {
        EscapeRooms game = new EscapeRooms();
        for (int i = 0; i < rooms; i++) {
            game.addRoom();
        }
        return game;
    }

    private static void promise20Way() {
        EscapeRooms game = withRooms(4);
        game.setExit(0);
        game.addDoor(0, 1, 20);
        game.addDoor(1, 2, 3);
        game.addDoor(2, 0, 4);
        game.addLock(2, 3, 1, 0, 1);
        game.addDoor(0, 2, 9);
        game.addGroup(3, 0);
        check.due("way(1, 0)", game.way(1, 0), UNKNOWN);
        check.due("way(-1, 0)", game.way(-1, 0), UNKNOWN);
        check.due("way(0, 4)", game.way(0, 4), UNKNOWN);
        check.due("way(0, -1)", game.way(0, -1), UNKNOWN);
        check.due("way(0, 0)", game.way(0, 0), 0);
        check.due("way(0, 1) round", game.way(0, 1), 7);
        check.due("way(0, 2) by the shorter one", game.way(0, 2), 4);
        check.due("way(0, 3) locked", game.way(0, 3), NONE);
        game.idle(0, 77);
        check.due("way(0, 1) later", game.way(0, 1), 7);
        game.part(0, 1);
        game.part(0, 1);
        game.leave(0);
        game.join(1, 2);
        check.due("way(0, 1) escaped", game.way(0, 1), NOT_POSSIBLE);
        check.due("way(1, 1) joined", game.way(1, 1), NOT_POSSIBLE);
        check.due("way(1, 4) joined", game.way(1, 4), UNKNOWN);
        check.due("way(2, 1)", game.way(2, 1), 7);
    }

    private static void promise20WayWaits() {
        EscapeRooms game = withRooms(4);
        game.addLock(0, 1, 1, 0, 50);
        game.addDoor(0, 2, 30);
        game.addDoor(2, 1, 20);
        game.addDoor(1, 3, 2);
        game.addKey(0, 0);
        game.addGroup(2, 0);
        game.part(0, 1);
        game.take(0, 0);
        game.unlock(0, 0);
        check.due("way(1, 1) round is shorter than waiting", game.way(1, 1), 50);
        game.idle(1, 1);
        check.due("way(1, 1) waiting is as long", game.way(1, 1), 50);
        game.idle(1, 9);
        check.due("way(1, 1) waiting is shorter", game.way(1, 1), 41);
        check.due("way(1, 3)", game.way(1, 3), 43);
        check.due("way(0, 1) nothing to wait for", game.way(0, 1), 1);
        check.due("way(0, 2)", game.way(0, 2), 21);
        game.idle(1, 39);
        check.due("way(1, 1) just then", game.way(1, 1), 2);
        game.idle(1, 1);
        check.due("way(1, 1) at the time", game.way(1, 1), 1);
        check.due("way(1, 1) does not walk", game.group(1, 1), 0);
        check.due("its time", game.group(1, 2), 50);

        // Waiting before a door that is not the first one.
        game.addGroup(1, 3);
        check.due("way(2, 0)", game.way(2, 0), 51);
        check.due("way(2, 2)", game.way(2, 2), 22);
    }

    /** Doors numbered against the way, through all twelve rooms. */
    private static void promise20WayLong() {
        EscapeRooms game = withRooms(12);
        for (int i = 10; i >= 0; i--) {
            game.addDoor(i, i + 1, 30);
        }
        game.addGroup(1, 0);
        game.addGroup(1, 11);
        check.due("way(0, 11)", game.way(0, 11), 330);
        check.due("way(1, 0)", game.way(1, 0), 330);
        check.due("reach(0)", game.reach(0), 4095);
        check.due("reach(1)", game.reach(1), 4095);
        for (int i = 0; i < 100; i++) {
            game.idle(0, 1000);
        }
        check.due("way(0, 11) at the end of the clock", game.way(0, 11), 330);
    }

    private static void promise21Reach() {
        EscapeRooms game = withRooms(5);
        game.setExit(1);
        game.addLock(1, 2, 1, 0, 5);
        game.addDoor(3, 0, 1);
        game.addDoor(0, 1, 1);
        game.addKey(1, 0);
        game.addGroup(3, 3);
        game.addGroup(1, 4);
        check.due("reach(2)", game.reach(2), UNKNOWN);
        check.due("reach(-1)", game.reach(-1), UNKNOWN);
        check.due("reach(0)", game.reach(0), 1 + 2 + 8);
        check.due("reach(1) its own room", game.reach(1), 16);
        game.part(0, 1);
        game.walk(2, 1);
        game.walk(2, 2);
        game.take(2, 0);
        game.unlock(2, 0);
        check.due("reach(0) through a door of another group", game.reach(0), 1 + 2 + 4 + 8);
        check.due("reach(2)", game.reach(2), 1 + 2 + 4 + 8);
        game.leave(2);
        check.due("reach(2) escaped", game.reach(2), NOT_POSSIBLE);
        game.part(0, 1);
        game.join(3, 0);
        check.due("reach(3) joined", game.reach(3), NOT_POSSIBLE);
    }

    private static void promise22Door() {
        EscapeRooms game = withRooms(4);
        game.addLock(3, 1, 8, 2, 17);
        game.addDoor(2, 3, 9);
        game.addKey(1, 2);
        game.addGroup(1, 1);
        int[] locked = {1, 3, 8, 2, 17, NONE, BAD_VALUE};
        int[] open = {2, 3, 9, NONE, 0, 0, BAD_VALUE};
        int[] unlocked = {1, 3, 8, 2, 17, 21, BAD_VALUE};
        for (int what = 0; what < 7; what++) {
            check.due("door(0, " + what + ")", game.door(0, what), locked[what]);
            check.due("door(1, " + what + ")", game.door(1, what), open[what]);
        }
        game.idle(0, 4);
        game.take(0, 0);
        game.unlock(0, 0);
        for (int what = 0; what < 7; what++) {
            check.due("door(0, " + what + ") unlocked", game.door(0, what), unlocked[what]);
        }
        check.due("door(0, -1)", game.door(0, -1), BAD_VALUE);
        check.due("door(2, 0)", game.door(2, 0), UNKNOWN);
        check.due("door(2, 9)", game.door(2, 9), UNKNOWN);
        check.due("door(-1, -1)", game.door(-1, -1), UNKNOWN);
    }

    private static void dueKey(EscapeRooms game, String when, int... properties) {
        for (int what = 0; what < properties.length; what++) {
            check.due("key(0, " + what + ") " + when, game.key(0, what), properties[what]);
        }
    }

    private static void promise23Key() {
        EscapeRooms game = withRooms(3);
        game.addKey(1, 4);
        game.addDoor(1, 2, 1);
        game.addLock(0, 1, 1, 4, 1);
        game.addGroup(2, 1);
        game.part(0, 1);
        dueKey(game, "new", 4, 0, 1, NONE, NONE, BAD_VALUE);
        game.take(1, 0);
        dueKey(game, "held", 4, 1, NONE, 1, NONE);
        game.walk(1, 0);
        dueKey(game, "carried", 4, 1, NONE, 1, NONE);
        game.drop(1, 0);
        dueKey(game, "dropped", 4, 0, 2, NONE, NONE);
        game.take(1, 0);
        game.walk(1, 0);
        game.unlock(1, 1);
        dueKey(game, "used up", 4, 2, NONE, NONE, 1, BAD_VALUE);
        check.due("key(0, -1)", game.key(0, -1), BAD_VALUE);
        check.due("key(1, 0)", game.key(1, 0), UNKNOWN);
        check.due("key(1, 9)", game.key(1, 9), UNKNOWN);
        check.due("key(-1, -1)", game.key(-1, -1), UNKNOWN);
    }

    private static void promise24Group() {
        EscapeRooms game = withRooms(3);
        game.setExit(2);
        game.addGroup(9, 2);
        game.addKey(2, 0);
        game.addKey(2, 1);
        game.idle(0, 6);
        game.take(0, 0);
        game.take(0, 1);
        game.hint(0);
        int[] inPlay = {9, 2, 11, 2, 1, 0, BAD_VALUE};
        int[] escaped = {9, 2, 11, 2, 1, 1, BAD_VALUE};
        for (int what = 0; what < 7; what++) {
            check.due("group(0, " + what + ")", game.group(0, what), inPlay[what]);
        }
        game.leave(0);
        for (int what = 0; what < 7; what++) {
            check.due("group(0, " + what + ") escaped", game.group(0, what), escaped[what]);
        }
        game.addGroup(2, 1);
        game.addGroup(3, 1);
        game.hint(1);
        game.addKey(1, 3);
        game.take(1, 2);
        game.join(1, 2);
        game.idle(2, 3);
        int[] joined = {0, 1, 5, 0, 1, 2, BAD_VALUE};
        int[] other = {5, 1, 8, 1, 1, 0, BAD_VALUE};
        for (int what = 0; what < 7; what++) {
            check.due("group(1, " + what + ") joined", game.group(1, what), joined[what]);
            check.due("group(2, " + what + ")", game.group(2, what), other[what]);
        }
        check.due("group(0, -1)", game.group(0, -1), BAD_VALUE);
        check.due("group(3, 0)", game.group(3, 0), UNKNOWN);
        check.due("group(3, 9)", game.group(3, 9), UNKNOWN);
        check.due("group(-1, -1)", game.group(-1, -1), UNKNOWN);
    }

    private static void promise25Color() {
        EscapeRooms game = withRooms(2);
        game.setExit(0);
        game.addLock(0, 1, 1, 0, 1);
        game.addLock(0, 1, 1, 5, 1);
        game.addLock(0, 1, 1, 5, 1);
        game.addDoor(0, 1, 1);
        game.addKey(0, 5);
        game.addKey(0, 5);
        game.addKey(1, 5);
        game.addKey(1, 3);
        game.addGroup(2, 0);
        check.due("color(-1, 0)", game.color(-1, 0), BAD_VALUE);
        check.due("color(6, 0)", game.color(6, 0), BAD_VALUE);
        check.due("color(-6, 0)", game.color(-6, 0), BAD_VALUE);
        check.due("color(0, -1)", game.color(0, -1), BAD_VALUE);
        check.due("color(0, 2)", game.color(0, 2), BAD_VALUE);
        int[] locks = {1, 0, 0, 0, 0, 2};
        int[] keys = {0, 0, 0, 1, 0, 3};
        for (int color = 0; color < 6; color++) {
            check.due("color(" + color + ", 0)", game.color(color, 0), locks[color]);
            check.due("color(" + color + ", 1)", game.color(color, 1), keys[color]);
        }
        game.take(0, 0);
        game.take(0, 1);
        check.due("color(5, 1) held", game.color(5, 1), 3);
        game.unlock(0, 2);
        check.due("color(5, 0) unlocked", game.color(5, 0), 1);
        check.due("color(5, 1) used up", game.color(5, 1), 2);
        game.leave(0);
        check.due("color(5, 1) left", game.color(5, 1), 2);
        check.due("color(0, 0)", game.color(0, 0), 1);
    }

    private static void dueCounts(EscapeRooms game, String when, int... counts) {
        for (int what = 0; what < counts.length; what++) {
            check.due("count(" + what + ") " + when, game.count(what), counts[what]);
        }
    }

    private static void promise26Count() {
        EscapeRooms game = withRooms(3);
        game.addLock(0, 1, 1, 0, 2);
        game.addDoor(0, 1, 1);
        game.addKey(0, 0);
        game.addKey(0, 1);
        game.addKey(0, 1);
        game.addKey(0, 1);
        game.addGroup(9, 0);
        dueCounts(game, "at first", 3, 2, 4, 1, NONE, 0, 0, 9, NONE, 0, 1, BAD_VALUE);
        game.setExit(0);
        game.part(0, 2);
        game.part(0, 3);
        game.take(0, 0);
        game.unlock(0, 0);
        game.hint(0);
        game.hint(0);
        game.hint(1);
        dueCounts(game, "unlocked", 3, 2, 4, 3, 0, 1, 0, 9, NONE, 3, 0, BAD_VALUE);
        game.leave(0);
        dueCounts(game, "escaped", 3, 2, 4, 3, 0, 1, 4, 5, 17, 3, 0);
        game.join(1, 2);
        dueCounts(game, "joined", 3, 2, 4, 3, 0, 1, 4, 5, 17, 3, 0);
        game.hint(2);
        dueCounts(game, "a hint more", 3, 2, 4, 3, 0, 1, 4, 5, 17, 4, 0);
        game.leave(2);
        dueCounts(game, "all escaped", 3, 2, 4, 3, 0, 1, 9, 0, 17, 4, 0);
        game.addGroup(1, 0);
        game.leave(3);
        dueCounts(game, "an earlier one", 3, 2, 4, 4, 0, 1, 10, 0, 17, 4, 0);
        game.addGroup(1, 0);
        game.idle(4, 18);
        game.leave(4);
        dueCounts(game, "a later one", 3, 2, 4, 5, 0, 1, 11, 0, 18, 4, 0);
        check.due("count(-1)", game.count(-1), BAD_VALUE);
        check.due("count(max)", game.count(Integer.MAX_VALUE), BAD_VALUE);

        // Who escapes at the time 0 has a time.
        EscapeRooms quick = withRooms(1);
        quick.setExit(0);
        quick.addGroup(1, 0);
        quick.leave(0);
        check.due("count(8) at 0", quick.count(8), 0);
    }

    private static void promise26CountDeadEnds() {
        EscapeRooms game = withRooms(3);
        game.addLock(0, 1, 1, 0, 1);
        game.addDoor(1, 2, 1);
        game.addKey(0, 0);
        game.addGroup(3, 0);
        game.part(0, 1);
        game.part(0, 1);
        game.addGroup(1, 2);
        check.due("count(10) without an exit", game.count(10), 4);
        game.setExit(2);
        check.due("count(10)", game.count(10), 0);
        game.take(0, 0);
        check.due("count(10) the key is taken", game.count(10), 2);
        game.join(1, 2);
        check.due("count(10) two of them joined", game.count(10), 1);
        game.leave(3);
        check.due("count(10) one has left", game.count(10), 1);
        game.setExit(0);
        game.leave(2);
        game.setExit(2);
        check.due("count(10) another one has left", game.count(10), 0);
        game.addGroup(1, 2);
        game.setExit(0);
        check.due("count(10) another exit", game.count(10), 1);
        game.setExit(2);
        game.unlock(0, 0);
        check.due("count(10) unlocked", game.count(10), 0);
    }
}
