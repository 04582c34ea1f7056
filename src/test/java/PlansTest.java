/** Promises 18 and 19: plans of escape. */
public final class PlansTest {
    private static final int UNKNOWN = EscapeRooms.UNKNOWN;
    private static final int BAD_VALUE = EscapeRooms.BAD_VALUE;
    private static final int NOT_POSSIBLE = EscapeRooms.NOT_POSSIBLE;
    private static final int NONE = EscapeRooms.NONE;
    private static final Check check = new Check("PlansTest");

    public static void main(String[] args) {
        promise18And19Errors();
        noDoors();
        leastCost();
        fewerDoors();
        leastSequence();
        leastSequenceNotLeastSet();
        keysAreUsedOnce();
        keysOfOthers();
        keysHeldAndLying();
        keysBehindDoors();
        doorsAreReachedFromBothSides();
        doorsOpenedBefore();
        clocksPlayNoPart();
        plansFollowTheGame();
        eachCallAsksForItsOwnGroup();
        manyColors();
        tenDoors();
        check.end();
    }

    private static EscapeRooms withRooms(int rooms, int exit) {
        EscapeRooms game = new EscapeRooms();
        for (int i = 0; i < rooms; i++) {
            game.addRoom();
        }
        game.setExit(exit);
        return game;
    }

    /** The plan of a group is due to have a cost and just these doors. */
    private static void duePlan(String what, EscapeRooms game, int group, int cost, int... doors) {
        check.due(what + ": cost", game.plan(group, 0), cost);
        check.due(what + ": doors", game.plan(group, 1), doors.length);
        for (int i = 0; i < doors.length; i++) {
            check.due(what + ": place " + i, game.planned(group, i), doors[i]);
        }
        check.due(what + ": behind the last place", game.planned(group, doors.length), NONE);
        check.due(what + ": far behind", game.planned(group, Integer.MAX_VALUE), NONE);
    }

    private static void dueDeadEnd(String what, EscapeRooms game, int group) {
        check.due(what + ": cost", game.plan(group, 0), NONE);
        check.due(what + ": doors", game.plan(group, 1), NONE);
        check.due(what + ": place 0", game.planned(group, 0), NONE);
    }

    private static void promise18And19Errors() {
        EscapeRooms game = withRooms(2, 1);
        check.due("plan(0, 0)", game.plan(0, 0), UNKNOWN);
        check.due("planned(0, 0)", game.planned(0, 0), UNKNOWN);
        game.addGroup(2, 1);
        game.part(0, 1);
        check.due("plan(2, 9)", game.plan(2, 9), UNKNOWN);
        check.due("plan(-1, 0)", game.plan(-1, 0), UNKNOWN);
        check.due("plan(0, -1)", game.plan(0, -1), BAD_VALUE);
        check.due("plan(0, 2)", game.plan(0, 2), BAD_VALUE);
        check.due("planned(2, -1)", game.planned(2, -1), UNKNOWN);
        check.due("planned(-1, 0)", game.planned(-1, 0), UNKNOWN);
        check.due("planned(0, -1)", game.planned(0, -1), BAD_VALUE);
        check.due("planned(0, min)", game.planned(0, Integer.MIN_VALUE), BAD_VALUE);
        game.leave(0);
        check.due("plan(0, 0) escaped", game.plan(0, 0), NOT_POSSIBLE);
        check.due("plan(0, 2) escaped", game.plan(0, 2), BAD_VALUE);
        check.due("planned(0, 0) escaped", game.planned(0, 0), NOT_POSSIBLE);
        check.due("planned(0, -1) escaped", game.planned(0, -1), BAD_VALUE);
        game.addGroup(1, 1);
        game.join(1, 2);
        check.due("plan(1, 0) joined", game.plan(1, 0), NOT_POSSIBLE);
        check.due("planned(1, 0) joined", game.planned(1, 0), NOT_POSSIBLE);
    }

    private static void noDoors() {
        EscapeRooms game = withRooms(3, 1);
        game.addDoor(0, 1, 5);
        game.addLock(0, 1, 1, 0, 1);
        game.addKey(0, 0);
        game.addGroup(1, 0);
        game.addGroup(1, 1);
        game.addGroup(1, 2);
        duePlan("through an open door", game, 0, 0);
        duePlan("in the exit", game, 1, 0);
        dueDeadEnd("a room without doors", game, 2);

        EscapeRooms without = new EscapeRooms();
        without.addRoom();
        without.addGroup(1, 0);
        dueDeadEnd("without an exit", without, 0);
        check.due("setExit(0)", without.setExit(0), NONE);
        duePlan("with an exit", without, 0, 0);
    }

    private static void leastCost() {
        EscapeRooms game = withRooms(3, 2);
        game.addLock(0, 2, 1, 0, 60);
        game.addLock(0, 1, 30, 0, 29);
        game.addLock(1, 2, 30, 0, 30);
        game.addKey(0, 0);
        game.addGroup(1, 0);
        duePlan("one key", game, 0, 60, 0);
        game.addKey(0, 0);
        duePlan("two keys", game, 0, 59, 1, 2);
    }

    private static void fewerDoors() {
        EscapeRooms game = withRooms(3, 2);
        game.addLock(0, 1, 1, 0, 20);
        game.addLock(1, 2, 1, 0, 20);
        game.addLock(0, 2, 1, 0, 40);
        game.addKey(0, 0);
        game.addKey(0, 0);
        game.addGroup(1, 0);
        duePlan("fewer doors at the same cost", game, 0, 40, 2);
    }

    private static void leastSequence() {
        EscapeRooms game = withRooms(4, 3);
        game.addLock(2, 3, 1, 0, 5);
        game.addLock(1, 3, 1, 0, 5);
        game.addLock(0, 2, 1, 0, 5);
        game.addLock(0, 1, 1, 0, 5);
        game.addKey(0, 0);
        game.addKey(0, 0);
        game.addGroup(1, 0);
        duePlan("2 before 3", game, 0, 10, 2, 0);

        // Two doors whose order is free come in the order of their numbers, whatever the keys.
        EscapeRooms free = withRooms(4, 3);
        free.addLock(0, 2, 1, 1, 7);
        free.addLock(0, 1, 1, 0, 7);
        free.addLock(2, 3, 1, 2, 7);
        free.addKey(0, 0);
        free.addKey(0, 1);
        free.addKey(1, 2);
        free.addGroup(1, 0);
        duePlan("the order is free", free, 0, 21, 0, 1, 2);
    }

    /** Two plans of the same cost and length: the doors {0, 4, 5} hold the lowest one, but must begin with 4. */
    private static void leastSequenceNotLeastSet() {
        EscapeRooms game = withRooms(6, 5);
        game.addLock(4, 5, 1, 0, 1);
        game.addLock(0, 1, 1, 0, 1);
        game.addLock(1, 2, 1, 0, 1);
        game.addLock(2, 5, 1, 0, 1);
        game.addLock(0, 3, 1, 0, 1);
        game.addLock(3, 4, 1, 0, 1);
        for (int i = 0; i < 3; i++) {
            game.addKey(0, 0);
        }
        game.addGroup(1, 0);
        duePlan("1 is less than 4", game, 0, 3, 1, 2, 3);
    }

    private static void keysAreUsedOnce() {
        EscapeRooms game = withRooms(3, 2);
        game.addLock(0, 1, 1, 3, 5);
        game.addLock(1, 2, 1, 3, 5);
        game.addKey(0, 3);
        game.addGroup(1, 0);
        dueDeadEnd("one key for two doors", game, 0);
        game.addKey(0, 2);
        dueDeadEnd("a key of another color", game, 0);
        game.addKey(2, 3);
        dueDeadEnd("a key behind", game, 0);
        game.addKey(1, 3);
        duePlan("a key between", game, 0, 10, 0, 1);
    }

    private static void keysOfOthers() {
        EscapeRooms game = withRooms(2, 1);
        game.addLock(0, 1, 1, 0, 5);
        game.addKey(0, 0);
        game.addGroup(3, 0);
        game.part(0, 1);
        game.take(1, 0);
        dueDeadEnd("another group holds the key", game, 0);
        duePlan("it holds it", game, 1, 5, 0);
        check.due("count(10)", game.count(10), 1);
        game.join(1, 0);
        duePlan("it got it", game, 0, 5, 0);
        game.setExit(0);
        game.part(0, 1);
        game.leave(0);
        game.setExit(1);
        dueDeadEnd("the key has left", game, 2);
    }

    private static void keysHeldAndLying() {
        EscapeRooms game = withRooms(4, 3);
        game.addLock(0, 1, 1, 0, 5);
        game.addLock(1, 2, 1, 0, 5);
        game.addLock(2, 3, 1, 0, 5);
        game.addKey(0, 0);
        game.addKey(0, 0);
        game.addKey(2, 0);
        game.addGroup(1, 0);
        duePlan("all lie", game, 0, 15, 0, 1, 2);
        game.take(0, 1);
        duePlan("one is held", game, 0, 15, 0, 1, 2);
        game.take(0, 0);
        duePlan("two are held", game, 0, 15, 0, 1, 2);
        game.unlock(0, 0);
        duePlan("one is used up", game, 0, 10, 1, 2);
        game.walk(0, 0);
        duePlan("one is carried", game, 0, 10, 1, 2);
        game.unlock(0, 1);
        duePlan("two are used up", game, 0, 5, 2);
    }

    private static void keysBehindDoors() {
        // The way round by room 1 brings the key for the exit; room 2 brings nothing.
        EscapeRooms game = withRooms(5, 4);
        game.addLock(0, 4, 1, 5, 1);
        game.addLock(0, 2, 1, 0, 1);
        game.addLock(0, 1, 1, 0, 50);
        game.addDoor(1, 3, 1);
        game.addKey(0, 0);
        game.addKey(3, 5);
        game.addGroup(1, 0);
        duePlan("round by 1", game, 0, 51, 2, 0);
        game.addKey(2, 0);
        duePlan("1 is dear all the same", game, 0, 51, 2, 0);
        game.addKey(2, 5);
        duePlan("2 brings a key", game, 0, 2, 1, 0);
    }

    private static void doorsAreReachedFromBothSides() {
        EscapeRooms game = withRooms(3, 0);
        game.addLock(1, 0, 1, 0, 5);
        game.addLock(2, 1, 1, 0, 6);
        game.addKey(2, 0);
        game.addKey(2, 0);
        game.addGroup(1, 2);
        duePlan("downwards", game, 0, 11, 1, 0);
    }

    private static void doorsOpenedBefore() {
        EscapeRooms game = withRooms(4, 3);
        game.addLock(1, 2, 1, 0, 5);
        game.addLock(0, 1, 1, 0, 6);
        game.addLock(2, 3, 1, 0, 7);
        game.addKey(1, 0);
        game.addKey(0, 0);
        game.addKey(3, 0);
        game.addGroup(1, 1);
        game.addGroup(1, 0);
        dueDeadEnd("from 1", game, 0);
        dueDeadEnd("from 0", game, 1);
        game.take(0, 0);
        game.unlock(0, 0);
        dueDeadEnd("a door between is open, no key", game, 0);
        game.addKey(2, 0);
        duePlan("the key behind the open door", game, 0, 7, 2);
        duePlan("two doors", game, 1, 13, 1, 2);
        game.addKey(1, 1);
        game.addLock(2, 3, 1, 1, 1);
        duePlan("a new door", game, 0, 1, 3);
    }

    private static void clocksPlayNoPart() {
        EscapeRooms game = withRooms(2, 1);
        game.addLock(0, 1, 30, 0, 60);
        game.addKey(0, 0);
        game.addGroup(2, 0);
        game.part(0, 1);
        for (int i = 0; i < 100; i++) {
            game.idle(1, 1000);
        }
        game.take(1, 0);
        game.drop(1, 0);
        duePlan("the key lies from the last minute on", game, 0, 60, 0);
        duePlan("there is no time left", game, 1, 60, 0);
    }

    private static void plansFollowTheGame() {
        EscapeRooms game = withRooms(4, 3);
        game.addGroup(2, 0);
        dueDeadEnd("no doors", game, 0);
        game.addLock(0, 3, 1, 0, 9);
        dueDeadEnd("no keys", game, 0);
        game.addKey(0, 0);
        duePlan("a door", game, 0, 9, 0);
        game.take(0, 0);
        game.unlock(0, 0);
        duePlan("it is open", game, 0, 0);
        game.setExit(2);
        dueDeadEnd("another exit", game, 0);
        game.addDoor(2, 3, 1);
        duePlan("another door", game, 0, 0);
    }

    private static void eachCallAsksForItsOwnGroup() {
        EscapeRooms game = withRooms(4, 3);
        game.addLock(0, 1, 1, 0, 5);
        game.addLock(1, 2, 1, 0, 5);
        game.addLock(2, 3, 1, 0, 5);
        game.addKey(1, 0);
        game.addKey(2, 0);
        game.addGroup(1, 1);
        game.addGroup(1, 2);
        game.addGroup(1, 0);
        check.due("planned(1, 0)", game.planned(1, 0), 2);
        check.due("planned(0, 0)", game.planned(0, 0), 1);
        check.due("planned(2, 0)", game.planned(2, 0), NONE);
        check.due("planned(0, 1)", game.planned(0, 1), 2);
        check.due("planned(1, 1)", game.planned(1, 1), NONE);
        check.due("plan(0, 1)", game.plan(0, 1), 2);
        check.due("plan(1, 1)", game.plan(1, 1), 1);
        check.due("plan(2, 1)", game.plan(2, 1), NONE);
        check.due("hint(0)", game.hint(0), 1);
        check.due("hint(1)", game.hint(1), 2);
        check.due("hint(2)", game.hint(2), 17);
    }

    /** Sixteen keys of one color, and one way by a door of each color in turn. */
    private static void manyColors() {
        for (int last = 0; last < 6; last++) {
            EscapeRooms game = withRooms(3, 2);
            int first = (last + 1) % 6;
            game.addLock(0, 1, 1, first, 5);
            game.addLock(1, 2, 1, last, 5);
            game.addKey(0, first);
            game.addGroup(1, 0);
            for (int i = 0; i < 14; i++) {
                game.addKey(0, first);
            }
            dueDeadEnd("no key of color " + last, game, 0);
            game.addKey(0, last);
            duePlan("a key of color " + last, game, 0, 10, 0, 1);

            EscapeRooms full = withRooms(2, 1);
            full.addLock(0, 1, 1, last, 5);
            full.addGroup(1, 0);
            for (int i = 0; i < 16; i++) {
                full.addKey(0, last);
            }
            duePlan("16 keys of color " + last, full, 0, 5, 0);

            EscapeRooms other = withRooms(2, 1);
            other.addLock(0, 1, 1, last, 5);
            other.addGroup(1, 0);
            for (int i = 0; i < 16; i++) {
                other.addKey(0, (last + 5) % 6);
            }
            dueDeadEnd("16 keys of the color before " + last, other, 0);
        }
    }

    /** Ten locks in a row, the door of the room 0 with the highest number, each with its key before it. */
    private static void tenDoors() {
        EscapeRooms game = withRooms(12, 10);
        for (int i = 0; i < 6; i++) {
            game.addDoor(0, 11, 1);
        }
        for (int room = 9; room >= 0; room--) {
            game.addLock(room, room + 1, 1, room % 6, 60 - room);
            game.addKey(room, room % 6);
        }
        game.addGroup(1, 11);
        duePlan("ten doors", game, 0, 600 - 45, 15, 14, 13, 12, 11, 10, 9, 8, 7, 6);
        game.walk(0, 0);
        game.take(0, 9);
        game.unlock(0, 15);
        duePlan("nine doors more", game, 0, 540 - 45, 14, 13, 12, 11, 10, 9, 8, 7, 6);

        EscapeRooms downwards = withRooms(11, 0);
        for (int i = 0; i < 10; i++) {
            downwards.addLock(i, i + 1, 1, 5, 60);
            downwards.addKey(10, 5);
        }
        for (int i = 0; i < 6; i++) {
            downwards.addDoor(9, 10, 1);
        }
        downwards.addGroup(1, 10);
        duePlan("a locked door beside an open one", downwards, 0, 540, 8, 7, 6, 5, 4, 3, 2, 1, 0);
    }
}
