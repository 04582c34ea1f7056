/**
 * Promises 18 to 26, sentence by sentence where one names a limit, an order of errors or a refusal.
 * Each call is compared with a twin that did not get it (see Run), as nothing told is a change.
 */
public final class ToldEdgesTest {
    private static final int UNKNOWN = EscapeRooms.UNKNOWN;
    private static final int BAD_VALUE = EscapeRooms.BAD_VALUE;
    private static final int NOT_POSSIBLE = EscapeRooms.NOT_POSSIBLE;
    private static final int NONE = EscapeRooms.NONE;
    private static final Check check = new Check("ToldEdgesTest");

    public static void main(String[] args) {
        promise18Limits();
        promise18NoPlan();
        promise18LeastAndGreatestPlan();
        promise18OneMinuteDecides();
        promise18LeastSequence();
        promise18LeastSequenceByWayOfKeys();
        promise18KeysOnceEach();
        promise18AsManyKeysAsDoors();
        promise18DoorsAgainstTheWay();
        promise19Places();
        promise19InTurn();
        promise19PlacesOfNoDoors();
        promise20Limits();
        promise20OwnRoomAndNoWay();
        promise20WaitsAMinute();
        promise20AtTheEnd();
        promise21Limits();
        promise21LeastAndGreatestSet();
        promise22Limits();
        promise22LeastAndGreatestValues();
        promise23Limits();
        promise23StatesOfAKey();
        promise24Limits();
        promise24LeastAndGreatestValues();
        promise25Limits();
        promise25LeastAndGreatestNumbers();
        promise26Limits();
        promise26GreatestNumbers();
        promise26TimesOfWhoEscaped();
        promise26GroupsInADeadEnd();
        check.end();
    }

    private static Run withRooms(int rooms) {
        return new Run(check).make(rooms, "addRoom");
    }

    /** The group 0 escaped; the group 1 joined the group 2, which is in the room 0 before the lock of the exit 1. */
    private static Run threeGroups() {
        return withRooms(2).make("addLock 0 1 1 0 7", "addKey 0 0", "addGroup 6 0", "part 0 2", "part 0 3",
                "setExit 0", "leave 0", "join 1 2", "setExit 1");
    }

    private static void promise18Limits() {
        Run game = threeGroups().limits("plan ? 0", 0, 2, UNKNOWN).limits("plan 2 ?", 0, 1, BAD_VALUE);
        game.refuses("plan 3 2", UNKNOWN).refuses("plan -1 -1", UNKNOWN);
        for (int group = 0; group < 2; group++) {
            game.refuses("plan " + group + " 2", BAD_VALUE).refuses("plan " + group + " -1", BAD_VALUE);
            game.refuses("plan " + group + " 0", NOT_POSSIBLE).refuses("plan " + group + " 1", NOT_POSSIBLE);
        }
        game.tells("plan 2 0", 7).tells("plan 2 1", 1);
    }

    /** NONE comes behind the errors, and there is no plan without an exit, even from room to room without doors. */
    private static void promise18NoPlan() {
        Run game = withRooms(2).make("addGroup 2 0", "part 0 1", "join 1 0");
        for (int i = 0; i < 2; i++) {
            game.tells("plan 0 0", NONE).tells("plan 0 1", NONE).refuses("plan 0 2", BAD_VALUE);
            game.refuses("plan 1 0", NOT_POSSIBLE).refuses("plan 2 0", UNKNOWN).make("setExit 1");
        }
        game.make("setExit 0").tells("plan 0 0", 0).tells("plan 0 1", 0);
    }

    /** No doors cost nothing; one door of one minute; ten doors of sixty minutes. */
    private static void promise18LeastAndGreatestPlan() {
        Run least = withRooms(2).make("setExit 1", "addLock 0 1 30 5 1", "addGroup 1 0").tells("plan 0 0", NONE);
        least.make("addKey 0 5").tells("plan 0 0", 1).tells("plan 0 1", 1).make("take 0 0", "unlock 0 0");
        least.tells("plan 0 0", 0).tells("plan 0 1", 0);
        Run greatest = withRooms(12).make("setExit 10", "addGroup 1 0").make(6, "addDoor 0 11 1");
        for (int room = 0; room < 10; room++) {
            greatest.make("addLock " + room + " " + (room + 1) + " 30 0 60").tells("plan 0 0", NONE);
            greatest.make("addKey 0 0");
        }
        greatest.tells("plan 0 0", 600).tells("plan 0 1", 10).tells("planned 0 9", 15).tells("planned 0 10", NONE);
        greatest.make(6, "addKey 0 0").tells("plan 0 0", 600).make("take 0 0", "take 0 15").tells("plan 0 0", 600);
    }

    /** One door of the cost c against two that cost 20 together, with lower numbers. */
    private static void promise18OneMinuteDecides() {
        for (int cost = 19; cost <= 21; cost++) {
            Run game = withRooms(3).make("setExit 2", "addLock 0 1 1 0 10", "addLock 1 2 1 0 10");
            game.make("addLock 0 2 30 0 " + cost, "addKey 0 0", "addKey 0 0", "addGroup 1 0");
            game.tells("plan 0 0", Math.min(cost, 20)).tells("plan 0 1", cost <= 20 ? 1 : 2);
            game.tells("planned 0 0", cost <= 20 ? 2 : 0).tells("planned 0 1", cost <= 20 ? NONE : 1);
        }
    }

    /** The same cost and as many doors: the first number that differs decides. */
    private static void promise18LeastSequence() {
        Run same = withRooms(3).make("setExit 2", "addLock 1 2 1 0 5", "addLock 1 2 1 0 5", "addLock 0 1 1 0 5");
        same.make("addLock 0 1 1 0 5", "addKey 0 0", "addKey 0 0", "addGroup 1 0");
        same.tells("planned 0 0", 2).tells("planned 0 1", 0);
        // One set of doors, of which two can be unlocked in both orders, before the last one or behind it.
        Run free = withRooms(4).make("setExit 3", "addLock 0 2 1 1 7", "addLock 0 1 1 0 7", "addLock 2 3 1 2 7");
        free.make("addKey 0 0", "addKey 0 1", "addKey 1 2", "addGroup 1 0");
        free.tells("planned 0 0", 0).tells("planned 0 1", 1).tells("planned 0 2", 2);
    }

    /**
     * The doors 0, 1 and 2 bring the keys of the way to the exit. 0 and 1 need the same key, and
     * another one lies behind 1 and behind 2: 1, 0, 2 is possible, but not 0, 1, and 0, 2, 1 is less.
     */
    private static void promise18LeastSequenceByWayOfKeys() {
        Run game = withRooms(7).make("setExit 6", "addLock 0 1 1 0 1", "addLock 0 2 1 0 1", "addLock 0 3 1 1 1");
        game.make("addLock 0 4 1 2 1", "addLock 4 5 1 3 1", "addLock 5 6 1 4 1", "addGroup 1 0");
        game.make("addKey 0 0", "addKey 0 1", "addKey 2 0", "addKey 3 0", "addKey 1 2", "addKey 2 3", "addKey 3 4");
        int[] doors = {0, 2, 1, 3, 4, 5, NONE};
        for (int place = 0; place < doors.length; place++) {
            game.tells("planned 0 " + place, doors[place]);
        }
    }

    /** Two doors of a color need two keys of it, held or within reach when they are due. */
    private static void promise18KeysOnceEach() {
        Run game = withRooms(4).make("setExit 2", "addLock 0 1 1 3 1", "addLock 1 2 1 3 1", "addGroup 2 0", "part 0 1");
        game.tells("plan 0 0", NONE).make("addKey 0 3").tells("plan 0 0", NONE).make("addKey 2 3");
        game.tells("plan 0 0", NONE).make("addKey 3 3", "addKey 0 2", "addKey 0 4").tells("plan 0 0", NONE);
        game.make("addKey 1 3").tells("plan 0 0", 2).tells("planned 0 0", 0).tells("planned 0 1", 1);
        game.make("take 1 0", "idle 1 9").tells("plan 0 0", NONE).tells("plan 1 0", 2);
        game.make("drop 1 0").tells("plan 0 0", 2).make("take 0 0").tells("plan 0 0", 2).tells("plan 1 0", NONE);
        game.make("unlock 0 0").tells("plan 0 0", 1).tells("plan 1 0", 1).tells("planned 1 0", 1);
    }

    /** Ten doors of a color in a row need ten keys of it, and keys of other colors are no use. */
    private static void promise18AsManyKeysAsDoors() {
        for (int color = 0; color < 6; color++) {
            Run game = withRooms(11).make("setExit 10", "addGroup 1 0");
            for (int room = 0; room < 10; room++) {
                game.make("addLock " + room + " " + (room + 1) + " 1 " + color + " 1");
            }
            game.make(9, "addKey 0 " + color);
            game.make(3, "addKey 0 " + (color + 1) % 6).make(3, "addKey 0 " + (color + 5) % 6);
            game.tells("plan 0 0", NONE).make("setExit 9").tells("plan 0 0", 9).make("setExit 10");
            game.make("addKey 9 " + color).tells("plan 0 0", 10).tells("plan 0 1", 10);
        }
        // What one color's doors use up is not taken from, nor given to, another color.
        for (int color = 0; color < 6; color++) {
            for (int last = 0; last < 6; last++) {
                Run game = withRooms(4).make("setExit 3", "addGroup 1 0").make(2, "addKey 0 " + color);
                game.make("addLock 0 1 1 " + color + " 1", "addLock 1 2 1 " + color + " 1", "addLock 2 3 1 " + last + " 1");
                game.tells("plan 0 0", NONE).make("addKey 0 " + last).tells("plan 0 0", 3);
            }
        }
    }

    private static void promise18DoorsAgainstTheWay() {
        Run game = withRooms(12).make("setExit 11", "addLock 10 11 1 0 2", "addGroup 1 0", "addKey 10 0");
        for (int room = 8; room >= 0; room--) {
            game.make("addDoor " + (room + 1) + " " + room + " 1");
        }
        game.make("addLock 9 10 1 1 3", "addKey 9 1").tells("plan 0 0", 5);
        game.tells("planned 0 0", 10).tells("planned 0 1", 0);
        game.make("addDoor 11 10 1").tells("plan 0 0", 3).tells("planned 0 0", 10).tells("planned 0 1", NONE);
    }

    private static void promise19Places() {
        Run game = threeGroups().limits("planned ? 0", 0, 2, UNKNOWN);
        game.refuses("planned 2 -1", BAD_VALUE).refuses("planned 2 min", BAD_VALUE);
        game.tells("planned 2 0", 0).tells("planned 2 1", NONE);
        game.tells("planned 2 16", NONE).tells("planned 2 max", NONE);
        game.refuses("planned 3 -1", UNKNOWN).refuses("planned -1 -1", UNKNOWN);
        for (int group = 0; group < 2; group++) {
            game.refuses("planned " + group + " -1", BAD_VALUE).refuses("planned " + group + " min", BAD_VALUE);
            game.refuses("planned " + group + " 0", NOT_POSSIBLE).refuses("planned " + group + " max", NOT_POSSIBLE);
        }
    }

    private static void promise19PlacesOfNoDoors() {
        Run game = withRooms(2).make("addGroup 1 0").tells("planned 0 0", NONE).refuses("planned 0 -1", BAD_VALUE);
        game.make("setExit 0").tells("planned 0 0", NONE).tells("planned 0 max", NONE);
        game.make("setExit 1").tells("planned 0 0", NONE).tells("planned 0 max", NONE);
        game.refuses("planned 0 min", BAD_VALUE);
    }

    /** Questions on one object, each of its own group, whatever was asked before. */
    private static void promise19InTurn() {
        Run game = withRooms(4).make("setExit 3", "addLock 0 1 1 0 5", "addLock 1 2 1 0 5", "addLock 2 3 1 0 5");
        game.make("addKey 1 0", "addKey 2 0", "addGroup 1 1", "addGroup 1 2", "addGroup 1 0", "addGroup 1 3");
        int[][] firstDoors = {{0, 1}, {2, NONE}, {1, 2}, {3, NONE}, {2, NONE}, {0, 1}, {1, 2}, {2, NONE}, {3, NONE}};
        for (int[] row : firstDoors) {
            game.answers("planned " + row[0] + " 0", row[1]);
        }
        int[][] costs = {{0, 10}, {2, NONE}, {1, 5}, {3, 0}, {0, 10}, {3, 0}, {2, NONE}};
        for (int[] row : costs) {
            game.answers("plan " + row[0] + " 0", row[1]).answers("count 10", 1);
        }
        int[][] hints = {{0, 1}, {2, 17}, {1, 2}, {3, 16}, {2, 17}};
        for (int[] row : hints) {
            game.answers("hint " + row[0], row[1]).answers("planned 2 0", NONE);
        }
    }

    private static void promise20Limits() {
        Run game = threeGroups().limits("way ? 0", 0, 2, UNKNOWN).limits("way 2 ?", 0, 1, UNKNOWN);
        game.refuses("way 3 2", UNKNOWN).refuses("way 0 2", UNKNOWN).refuses("way 1 -1", UNKNOWN);
        game.refuses("way 0 0", NOT_POSSIBLE).refuses("way 0 1", NOT_POSSIBLE).refuses("way 1 0", NOT_POSSIBLE);
        withRooms(12).make("addGroup 1 11").limits("way 0 ?", 0, 11, UNKNOWN).tells("way 0 11", 0);
    }

    private static void promise20OwnRoomAndNoWay() {
        Run game = threeGroups().tells("way 2 0", 0).tells("way 2 1", NONE).make("take 2 0").tells("way 2 1", NONE);
        game.make("unlock 2 0").tells("way 2 0", 0).tells("way 2 1", 1);
        Run apart = withRooms(12).make("addGroup 1 11", "addGroup 1 0", "addDoor 10 11 7").tells("way 0 0", NONE);
        apart.answers("way 1 0", 0).answers("way 0 0", NONE).answers("way 1 11", NONE).answers("way 0 10", 7);
        apart.answers("way 1 10", NONE).answers("way 0 11", 0);
        Run longest = withRooms(12).make("addGroup 1 0");
        for (int room = 0; room < 11; room++) {
            longest.tells("way 0 " + (room + 1), NONE).make("addDoor " + room + " " + (room + 1) + " 30");
            longest.tells("way 0 " + (room + 1), 30 * (room + 1));
        }
        longest.make("addDoor 0 11 30").tells("way 0 11", 30).tells("way 0 6", 180).tells("way 0 7", 150);
        Run against = withRooms(12).make("addGroup 1 0", "addGroup 1 11");
        for (int room = 10; room >= 0; room--) {
            against.make("addDoor " + (room + 1) + " " + room + " " + (room + 1));
        }
        against.tells("way 0 11", 66).tells("way 1 0", 66).tells("way 0 1", 1).tells("way 1 10", 11);
    }

    /** The door is open from the minute 20 on, and needs 4 minutes; the other way needs 10. */
    private static void promise20WaitsAMinute() {
        int[] times = {9, 10, 13, 14, 15, 19, 20, 21};
        int[] ways = {10, 10, 10, 10, 9, 5, 4, 4};
        for (int i = 0; i < times.length; i++) {
            Run game = withRooms(3).make("addLock 0 1 4 0 20", "addDoor 0 2 5", "addDoor 2 1 5", "addKey 0 0");
            game.make("addGroup 2 0", "part 0 1", "take 0 0", "unlock 0 0").waits(1, times[i]);
            game.tells("way 1 1", ways[i]).tells("way 1 2", 5).tells("way 0 1", 4);
        }
    }

    /** The document names no end of the clock for ways: their minutes are told all the same. */
    private static void promise20AtTheEnd() {
        Run game = withRooms(3).make("addLock 0 1 30 0 1", "addDoor 1 2 30", "addKey 0 0", "addGroup 2 0", "part 0 1");
        game.make("take 0 0").waits(0, 99999).make("unlock 0 0").tells("door 0 5", 100000);
        game.tells("way 0 0", 0).tells("way 0 1", 30).tells("way 0 2", 60);
        game.tells("way 1 0", 0).tells("way 1 1", 100030).tells("way 1 2", 100060);
    }

    private static void promise21Limits() {
        Run game = threeGroups().limits("reach ?", 0, 2, UNKNOWN);
        game.refuses("reach 0", NOT_POSSIBLE).refuses("reach 1", NOT_POSSIBLE).tells("reach 2", 1);
    }

    private static void promise21LeastAndGreatestSet() {
        withRooms(1).make("addGroup 1 0").tells("reach 0", 1);
        Run game = withRooms(12).make("addGroup 1 11", "addLock 11 0 1 0 1").tells("reach 0", 2048);
        for (int room = 0; room < 10; room++) {
            game.make("addDoor " + room + " " + (room + 1) + " 1").tells("reach 0", 2048);
        }
        game.make("addKey 11 0", "take 0 0").tells("reach 0", 2048).make("unlock 0 0").tells("reach 0", 4095);
        Run against = withRooms(12).make("addGroup 1 0");
        for (int room = 10; room >= 0; room--) {
            against.tells("reach 0", 1).make("addDoor " + room + " " + (room + 1) + " 1");
        }
        against.tells("reach 0", 4095);
    }

    private static void promise22Limits() {
        Run game = threeGroups().limits("door ? 0", 0, 0, UNKNOWN).limits("door 0 ?", 0, 5, BAD_VALUE);
        game.refuses("door 1 6", UNKNOWN).refuses("door -1 -1", UNKNOWN);
        Run full = withRooms(2).make(16, "addDoor 0 1 1").limits("door ? 0", 0, 15, UNKNOWN);
        full.limits("door 15 ?", 0, 5, BAD_VALUE).refuses("door 16 -1", UNKNOWN);
    }

    private static void promise22LeastAndGreatestValues() {
        Run game = withRooms(12).make("addLock 11 0 1 0 1", "addLock 10 11 30 5 60", "addDoor 1 0 30", "addKey 0 0");
        int[][] told = {{0, 11, 1, 0, 1, NONE}, {10, 11, 30, 5, 60, NONE}, {0, 1, 30, NONE, 0, 0}};
        for (int door = 0; door < 3; door++) {
            for (int what = 0; what < 6; what++) game.tells("door " + door + " " + what, told[door][what]);
        }
        game.make("addGroup 1 0", "take 0 0", "unlock 0 0");
        game.tells("door 0 5", 1).tells("door 0 3", 0).tells("door 0 4", 1).tells("door 1 5", NONE).tells("door 2 5", 0);
    }

    private static void promise23Limits() {
        Run game = threeGroups().limits("key ? 0", 0, 0, UNKNOWN).limits("key 0 ?", 0, 4, BAD_VALUE);
        game.refuses("key 1 5", UNKNOWN).refuses("key -1 -1", UNKNOWN);
        Run full = withRooms(1).make(16, "addKey 0 5").limits("key ? 0", 0, 15, UNKNOWN);
        full.limits("key 15 ?", 0, 4, BAD_VALUE).refuses("key 16 5", UNKNOWN);
    }

    private static void tellsKey(Run game, int... told) {
        for (int what = 0; what < told.length; what++) {
            game.tells("key 0 " + what, told[what]);
        }
    }

    /** The room 0, the group 0 and the door 0 are numbers, not NONE. */
    private static void promise23StatesOfAKey() {
        Run game = withRooms(12).make("addLock 0 11 1 5 1", "addKey 0 5", "addGroup 2 0", "part 0 1");
        tellsKey(game, 5, 0, 0, NONE, NONE);
        tellsKey(game.make("take 0 0"), 5, 1, NONE, 0, NONE);
        tellsKey(game.make("drop 0 0"), 5, 0, 0, NONE, NONE);
        tellsKey(game.make("take 1 0"), 5, 1, NONE, 1, NONE);
        tellsKey(game.make("join 1 0"), 5, 1, NONE, 0, NONE);
        tellsKey(game.make("unlock 0 0"), 5, 2, NONE, NONE, 0);
        Run escaped = withRooms(1).make("setExit 0", "addKey 0 0", "addGroup 1 0", "take 0 0", "leave 0");
        tellsKey(escaped, 0, 1, NONE, 0, NONE);
    }

    private static void promise24Limits() {
        Run game = threeGroups().limits("group ? 0", 0, 2, UNKNOWN);
        for (int group = 0; group < 3; group++) {
            game.limits("group " + group + " ?", 0, 5, BAD_VALUE);
        }
        game.refuses("group 3 6", UNKNOWN).refuses("group -1 -1", UNKNOWN);
        Run full = withRooms(1).make(6, "addGroup 4 0").limits("group ? 0", 0, 5, UNKNOWN);
        full.limits("group 5 ?", 0, 5, BAD_VALUE).refuses("group 6 -1", UNKNOWN);
    }

    private static void tellsGroup(Run game, int group, int... told) {
        for (int what = 0; what < told.length; what++) {
            game.tells("group " + group + " " + what, told[what]);
        }
    }

    private static void promise24LeastAndGreatestValues() {
        Run game = withRooms(12).make("addGroup 24 11").make(16, "addKey 11 0");
        tellsGroup(game, 0, 24, 11, 0, 0, 0, 0);
        for (int key = 0; key < 16; key++) {
            game.make("take 0 " + key);
        }
        game.make("hint 0").waitsToTheEnd(0);
        tellsGroup(game, 0, 24, 11, 100000, 16, 1, 0);
        // Room, time and hints of who joined stay, whatever the other group does then.
        game.make("part 0 1", "join 0 1", "setExit 11", "leave 1");
        tellsGroup(game, 0, 0, 11, 100000, 0, 1, 2);
        tellsGroup(game, 1, 24, 11, 100000, 16, 1, 1);
        Run walked = withRooms(2).make("addDoor 0 1 9", "addGroup 2 0", "part 0 1", "join 0 1", "hint 1", "walk 1 0");
        tellsGroup(walked, 0, 0, 0, 0, 0, 0, 2);
        tellsGroup(walked, 1, 2, 1, 14, 0, 1, 0);
    }

    private static void promise25Limits() {
        Run game = threeGroups().limits("color ? 0", 0, 5, BAD_VALUE).limits("color ? 1", 0, 5, BAD_VALUE);
        game.limits("color 0 ?", 0, 1, BAD_VALUE).limits("color 5 ?", 0, 1, BAD_VALUE);
        // Doors without a lock have no color, not the one that NONE is the number of.
        withRooms(2).make("addDoor 0 1 1").refuses("color -6 0", BAD_VALUE).tells("color 0 0", 0);
    }

    private static void promise25LeastAndGreatestNumbers() {
        for (int color = 0; color < 6; color++) {
            Run game = withRooms(2).make("addGroup 1 0").make(10, "addLock 0 1 1 " + color + " 1");
            game.make(16, "addKey 0 " + color).tells("color " + color + " 0", 10).tells("color " + color + " 1", 16);
            game.tells("color " + (color + 1) % 6 + " 0", 0).tells("color " + (color + 5) % 6 + " 1", 0);
            game.make("take 0 15").tells("color " + color + " 1", 16).make("unlock 0 9");
            game.tells("color " + color + " 0", 9).tells("color " + color + " 1", 15);
        }
    }

    private static void promise26Limits() {
        new Run(check).limits("count ?", 0, 10, BAD_VALUE);
        threeGroups().limits("count ?", 0, 10, BAD_VALUE);
    }

    private static void promise26GreatestNumbers() {
        Run game = withRooms(12).make("addGroup 24 0").make(10, "addLock 0 1 1 0 1").make(6, "addDoor 0 1 1");
        game.make(16, "addKey 0 0").make(5, "part 0 1").make("setExit 0");
        for (int lock = 0; lock < 10; lock++) {
            game.tells("count 5", lock).make("take 0 " + lock, "unlock 0 " + lock);
        }
        int[] inPlay = {12, 16, 16, 6, 0, 10, 0, 24, NONE, 0, 0};
        for (int what = 0; what < inPlay.length; what++) {
            game.tells("count " + what, inPlay[what]);
        }
        game.make("setExit 11").tells("count 10", 6).tells("count 4", 11).make("setExit 0");
        for (int group = 0; group < 6; group++) {
            game.make("hint " + group, "leave " + group).tells("count 9", group + 1).tells("count 7", 5 - group);
        }
        game.tells("count 6", 24).tells("count 7", 0).tells("count 10", 0).tells("count 8", 15);
        game.make("setExit 11").tells("count 10", 0);
    }

    /** The times of groups in play and of those that joined do not count. */
    private static void promise26TimesOfWhoEscaped() {
        Run game = withRooms(1).make("setExit 0", "addGroup 5 0", "part 0 1", "part 0 1", "part 0 1");
        game.waits(1, 70).waits(2, 90).make("join 2 1", "idle 0 1000").tells("count 8", NONE);
        game.make("leave 3").tells("count 8", 0).make("leave 1").tells("count 8", 90);
        game.waitsToTheEnd(0).tells("count 8", 90).make("leave 0").tells("count 8", 100000);
    }

    /** No exit: each group in play; a group that escaped or joined is in none. */
    private static void promise26GroupsInADeadEnd() {
        Run game = threeGroups().tells("count 10", 0).make("take 2 0").tells("count 10", 0).make("addGroup 1 0");
        game.tells("count 10", 1).make("unlock 2 0").tells("count 10", 0);
        Run noExit = withRooms(1).tells("count 10", 0).make(6, "addGroup 1 0").tells("count 10", 6);
        noExit.make("join 0 1").tells("count 10", 5).make("setExit 0").tells("count 10", 0);
    }
}
