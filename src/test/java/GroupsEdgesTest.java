/**
 * Promises 9 to 17, sentence by sentence where one names a limit, an order of errors or a refusal.
 * Each refused call is compared with a twin that did not get it (see Run).
 */
public final class GroupsEdgesTest {
    private static final int UNKNOWN = EscapeRooms.UNKNOWN;
    private static final int BAD_VALUE = EscapeRooms.BAD_VALUE;
    private static final int FULL = EscapeRooms.FULL;
    private static final int NOT_POSSIBLE = EscapeRooms.NOT_POSSIBLE;
    private static final int TOO_LATE = EscapeRooms.TOO_LATE;
    private static final int NONE = EscapeRooms.NONE;
    private static final Check check = new Check("GroupsEdgesTest");

    public static void main(String[] args) {
        notInPlay();
        notInPlayAtTheEnd();
        promise9Numbers();
        promise9WhereAndWhatIsOpen();
        promise9WaitsForTheDoor();
        promise9TooLate();
        promise9TooLateByWaiting();
        promise10Numbers();
        promise10NotPossible();
        promise10LowestKey();
        promise10TooLate();
        promise11Numbers();
        promise11KeyDoesNotLieThere();
        promise11TimeFromWhichItLies();
        promise11AtTheEnd();
        promise12Numbers();
        promise12NotHeld();
        promise12LiesFrom();
        promise13Limits();
        promise13OrderOfErrors();
        promise13TooLate();
        promise14Limits();
        promise14OrderOfErrors();
        promise14NotGreater();
        promise14UpTo6Groups();
        promise15Numbers();
        promise15SameGroup();
        promise15NotPossible();
        promise15GreaterTime();
        promise15SizesUpTo24();
        promise16Numbers();
        promise16RoomIsNotTheExit();
        promise16FirstAndLastTime();
        promise17Numbers();
        promise17Answers();
        promise17TooLate();
        promise17StepCountsAtTheEnd();
        check.end();
    }

    /**
     * Rooms 0 to 2; the doors 0: 0-1 open, 1: 1-2 with a lock of color 1; keys of color 1 in the
     * rooms 0 and 1; a group of 4 in the room 0.
     */
    private static Run small() {
        return new Run(check, "addRoom", "addRoom", "addRoom", "addDoor 0 1 3", "addLock 1 2 4 1 10",
                "addKey 0 1", "addKey 1 1", "addGroup 4 0");
    }

    /** The same, with the group in the room 1 behind the minute 3, holding both keys. */
    private static Run atTheLock() {
        return small().make("take 0 0", "walk 0 0", "take 0 1");
    }

    /** The group 0 escaped with the key 0, the group 1 joined the group 2; all in the room 0, where the key 1 lies. */
    private static Run left() {
        return new Run(check, "addRoom", "addRoom", "setExit 0", "addDoor 0 1 1", "addLock 0 1 1 0 1",
                "addKey 0 0", "addKey 0 0", "addGroup 9 0", "part 0 2", "part 0 3", "take 0 0");
    }

    private static void refusesAllOf(Run game, int group) {
        String[] calls = {"walk %d 0", "unlock %d 1", "take %d 1", "drop %d 0", "idle %d 1", "part %d 1",
            "join %d 2", "join 2 %d", "leave %d", "hint %d"};
        for (String call : calls) {
            game.refuses(call.replace("%d", Integer.toString(group)), NOT_POSSIBLE);
        }
    }

    private static void notInPlay() {
        Run game = left().make("leave 0", "join 1 2");
        refusesAllOf(game, 0);
        refusesAllOf(game, 1);
        game.refuses("join 0 1", NOT_POSSIBLE).refuses("join 1 0", NOT_POSSIBLE);
        // What is wrong about the arguments comes first.
        for (int group = 0; group < 2; group++) {
            game.refuses("walk " + group + " 2", UNKNOWN).refuses("unlock " + group + " 2", UNKNOWN);
            game.refuses("take " + group + " 2", UNKNOWN).refuses("drop " + group + " 2", UNKNOWN);
            game.refuses("join " + group + " 3", UNKNOWN).refuses("join 3 " + group, UNKNOWN);
            game.refuses("join " + group + " " + group, BAD_VALUE);
            game.refuses("idle " + group + " 0", BAD_VALUE).refuses("idle " + group + " 1001", BAD_VALUE);
            game.refuses("part " + group + " 0", BAD_VALUE).refuses("part " + group + " 24", BAD_VALUE);
        }
    }

    /** NOT_POSSIBLE comes before TOO_LATE. */
    private static void notInPlayAtTheEnd() {
        refusesAllOf(left().waitsToTheEnd(0).make("leave 0"), 0);
        refusesAllOf(left().waitsToTheEnd(1).make("join 1 2"), 1);
    }

    private static void promise9Numbers() {
        Run game = small().make("part 0 1").limits("walk ? 0", 0, 1, UNKNOWN).limits("walk 0 ?", 0, 1, UNKNOWN);
        game.refuses("walk 2 2", UNKNOWN).refuses("walk -1 -1", UNKNOWN);
        game.refuses("walk 2 1", UNKNOWN).waitsToTheEnd(0).refuses("walk 0 2", UNKNOWN);
    }

    private static void promise9WhereAndWhatIsOpen() {
        Run game = small().refuses("walk 0 1", NOT_POSSIBLE).answers("walk 0 0", 3).refuses("walk 0 1", NOT_POSSIBLE);
        game.make("take 0 1", "unlock 0 1").answers("walk 0 1", 17).refuses("walk 0 0", NOT_POSSIBLE);
        game.answers("walk 0 1", 21).answers("walk 0 0", 24).refuses("walk 0 1", NOT_POSSIBLE);
    }

    /** The door 1 is open from the minute 13 on. */
    private static void promise9WaitsForTheDoor() {
        int[] arrivals = {17, 17, 18};
        for (int i = 0; i < 3; i++) {
            Run game = atTheLock().make("part 0 1", "unlock 0 1").tells("door 1 5", 13).waits(1, 12 + i);
            game.answers("walk 1 1", arrivals[i]).tells("group 1 2", arrivals[i]).tells("group 1 1", 2);
        }
    }

    private static void promise9TooLate() {
        Run late = atTheLock().waits(0, 99998).refuses("walk 0 0", TOO_LATE).refuses("walk 0 1", NOT_POSSIBLE);
        late.tells("group 0 1", 1).tells("group 0 2", 99998);
        atTheLock().waits(0, 99997).answers("walk 0 0", 100000).refuses("walk 0 0", TOO_LATE);
        Run end = small().waitsToTheEnd(0).refuses("walk 0 0", TOO_LATE).refuses("walk 0 1", NOT_POSSIBLE);
        end.refuses("walk 1 0", UNKNOWN);
    }

    /** A group of the time 3 can come too late behind a door that was unlocked late. */
    private static void promise9TooLateByWaiting() {
        Run late = atTheLock().make("part 0 1").waits(0, 99987).answers("unlock 0 1", 0).tells("door 1 5", 99997);
        late.refuses("walk 1 1", TOO_LATE).refuses("walk 0 1", TOO_LATE).tells("group 1 2", 3);
        Run last = atTheLock().make("part 0 1").waits(0, 99986).answers("unlock 0 1", 0).tells("door 1 5", 99996);
        last.answers("walk 1 1", 100000).tells("group 1 1", 2).answers("walk 0 1", 100000);
    }

    private static void promise10Numbers() {
        Run game = atTheLock().make("part 0 1").limits("unlock ? 1", 0, 1, UNKNOWN).limits("unlock 0 ?", 0, 1, UNKNOWN);
        game.refuses("unlock 2 2", UNKNOWN).refuses("unlock 2 0", UNKNOWN);
        game.waitsToTheEnd(0).refuses("unlock 0 2", UNKNOWN).refuses("unlock -1 1", UNKNOWN);
    }

    private static void promise10NotPossible() {
        small().make("take 0 0").refuses("unlock 0 1", NOT_POSSIBLE).refuses("unlock 0 0", NOT_POSSIBLE);
        Run atDoor = atTheLock().refuses("unlock 0 0", NOT_POSSIBLE).make("part 0 1");
        atDoor.refuses("unlock 1 1", NOT_POSSIBLE).answers("unlock 0 1", 0).refuses("unlock 0 1", NOT_POSSIBLE);
        // A key that lies in the room is not held, and colors beside the lock's are not its color.
        Run without = small().make("addKey 1 0", "addKey 1 2", "walk 0 0").refuses("unlock 0 1", NOT_POSSIBLE);
        without.make("take 0 2", "take 0 3").refuses("unlock 0 1", NOT_POSSIBLE);
        without.answers("take 0 1", 3).answers("unlock 0 1", 1);
        // What is not possible does not become too late.
        Run end = small().make("take 0 0").waitsToTheEnd(0).refuses("unlock 0 1", NOT_POSSIBLE);
        end.refuses("unlock 0 0", NOT_POSSIBLE);
        Run keyless = small().make("walk 0 0").waitsToTheEnd(0).refuses("unlock 0 1", NOT_POSSIBLE);
        keyless.answers("take 0 1", 1).refuses("unlock 0 1", TOO_LATE);
        atTheLock().make("unlock 0 1").waitsToTheEnd(0).refuses("unlock 0 1", NOT_POSSIBLE);
    }

    private static void promise10LowestKey() {
        Run first = atTheLock().answers("unlock 0 1", 0).tells("key 0 1", 2).tells("key 1 1", 1).tells("group 0 3", 1);
        first.tells("key 0 4", 1).tells("key 0 3", NONE);
        Run second = atTheLock().make("drop 0 0").answers("unlock 0 1", 1).tells("key 0 1", 0).tells("group 0 3", 0);
        second.tells("color 1 0", 0).tells("color 1 1", 1);
        // The highest key of all, behind fifteen of another color.
        Run last = new Run(check, "addRoom", "addRoom", "addLock 0 1 1 5 1", "addGroup 1 0").make(15, "addKey 0 4");
        last.make("addKey 0 5", "take 0 0", "take 0 14").refuses("unlock 0 0", NOT_POSSIBLE);
        last.answers("take 0 15", 3).answers("unlock 0 0", 15).tells("key 15 4", 0).tells("group 0 3", 2);
    }

    private static void promise10TooLate() {
        Run late = atTheLock().waits(0, 99991).refuses("unlock 0 1", TOO_LATE).tells("door 1 5", NONE);
        late.tells("key 0 3", 0).tells("group 0 3", 2).tells("count 5", 0);
        Run last = atTheLock().waits(0, 99990).answers("unlock 0 1", 0).tells("group 0 2", 100000);
        last.tells("door 1 5", 100000).tells("group 0 1", 1).refuses("walk 0 1", TOO_LATE);
        atTheLock().waitsToTheEnd(0).refuses("unlock 0 1", TOO_LATE);
    }

    private static void promise11Numbers() {
        Run game = small().make("part 0 1").limits("take ? 0", 0, 1, UNKNOWN).limits("take 0 ?", 0, 1, UNKNOWN);
        game.refuses("take 2 2", UNKNOWN).refuses("take 2 1", UNKNOWN).refuses("take -1 -1", UNKNOWN);
    }

    private static void promise11KeyDoesNotLieThere() {
        Run game = small().make("part 0 1").refuses("take 0 1", NOT_POSSIBLE).answers("take 0 0", 1);
        game.refuses("take 0 0", NOT_POSSIBLE).refuses("take 1 0", NOT_POSSIBLE);
        atTheLock().make("unlock 0 1").refuses("take 0 0", NOT_POSSIBLE);
        // Nobody can take the keys of who escaped.
        Run escaped = left().make("leave 0").refuses("take 2 0", NOT_POSSIBLE);
        escaped.tells("key 0 3", 0).tells("group 0 3", 1).answers("take 2 1", 1);
    }

    /** The key 0 lies in the room 1 from the minute 20 on. */
    private static void promise11TimeFromWhichItLies() {
        int[] times = {20, 20, 21};
        for (int i = 0; i < 3; i++) {
            Run game = atTheLock().make("part 0 1").waits(0, 20).make("drop 0 0").waits(1, 19 + i);
            game.answers("take 1 0", 1).tells("group 1 2", times[i]).tells("key 0 3", 1);
        }
        // From 0 at first, whenever the key is added.
        Run first = small().make("part 0 1").waits(0, 30).make("addKey 0 2").answers("take 1 2", 1);
        first.tells("group 1 2", 0).answers("take 1 0", 2).tells("group 1 2", 0);
        first.answers("drop 1 0", 1).answers("take 0 0", 1).tells("group 0 2", 30);
    }

    /** Taking has no TOO_LATE: the time from which a key lies is a time of the clock. */
    private static void promise11AtTheEnd() {
        Run game = small().make("part 0 1", "take 0 0").waitsToTheEnd(0).make("drop 0 0");
        game.answers("take 1 0", 1).tells("group 1 2", 100000).answers("drop 1 0", 0).answers("take 0 0", 1);
        Run all = new Run(check, "addRoom", "addGroup 1 0").make(16, "addKey 0 0");
        for (int key = 0; key < 16; key++) {
            all.answers("take 0 " + key, key + 1);
        }
        all.tells("group 0 3", 16).answers("drop 0 7", 15).refuses("take 0 16", UNKNOWN);
    }

    private static void promise12Numbers() {
        Run game = atTheLock().make("part 0 1").limits("drop ? 0", 0, 1, UNKNOWN).limits("drop 0 ?", 0, 1, UNKNOWN);
        game.refuses("drop 2 2", UNKNOWN).refuses("drop -1 -1", UNKNOWN);
    }

    private static void promise12NotHeld() {
        Run game = small().make("part 0 1").refuses("drop 0 0", NOT_POSSIBLE).refuses("drop 0 1", NOT_POSSIBLE);
        game.make("take 0 0").refuses("drop 1 0", NOT_POSSIBLE);
        game.answers("drop 0 0", 0).refuses("drop 0 0", NOT_POSSIBLE);
        atTheLock().make("unlock 0 1").refuses("drop 0 0", NOT_POSSIBLE).answers("drop 0 1", 0);
        left().make("join 0 2").refuses("drop 0 0", NOT_POSSIBLE).answers("drop 2 0", 0);
    }

    private static void promise12LiesFrom() {
        Run game = small().make("part 0 1", "take 0 0", "walk 0 0").answers("drop 0 0", 0).tells("key 0 2", 1);
        game.tells("group 0 2", 3).make("addGroup 1 1").answers("take 2 0", 1).tells("group 2 2", 3);
        Run last = atTheLock().waitsToTheEnd(0).answers("drop 0 1", 1).answers("drop 0 0", 0);
        last.make("addGroup 1 1").answers("take 1 1", 1).tells("group 1 2", 100000);
    }

    private static void promise13Limits() {
        Run game = small().limits("idle 0 ?", 1, 1000, BAD_VALUE).limits("idle ? 5", 0, 0, UNKNOWN);
        game.answers("idle 0 1", 1).answers("idle 0 1000", 1001).tells("group 0 2", 1001);
    }

    private static void promise13OrderOfErrors() {
        Run game = small().refuses("idle 1 0", UNKNOWN).refuses("idle -1 1001", UNKNOWN).waitsToTheEnd(0);
        game.refuses("idle 1 1", UNKNOWN).refuses("idle 0 0", BAD_VALUE).refuses("idle 0 1001", BAD_VALUE);
        game.refuses("idle 0 max", BAD_VALUE).refuses("idle 0 1", TOO_LATE).refuses("idle 0 1000", TOO_LATE);
    }

    private static void promise13TooLate() {
        Run game = small().waits(0, 99001).refuses("idle 0 1000", TOO_LATE).tells("group 0 2", 99001);
        game.answers("idle 0 998", 99999).refuses("idle 0 2", TOO_LATE).answers("idle 0 1", 100000);
        small().waits(0, 99000).answers("idle 0 1000", 100000);
    }

    private static void promise14Limits() {
        Run game = new Run(check, "addRoom", "addGroup 24 0").limits("part 0 ?", 1, 23, BAD_VALUE);
        game.limits("part ? 5", 0, 0, UNKNOWN).answers("part 0 1", 1).tells("group 0 0", 23).tells("group 1 0", 1);
        Run big = new Run(check, "addRoom", "addGroup 24 0").answers("part 0 23", 1);
        big.tells("group 0 0", 1).tells("group 1 0", 23).tells("count 7", 24);
    }

    private static void promise14OrderOfErrors() {
        Run game = small().refuses("part 1 0", UNKNOWN).refuses("part -1 24", UNKNOWN);
        game.refuses("part 0 24", BAD_VALUE).refuses("part 0 0", BAD_VALUE).refuses("part 0 23", NOT_POSSIBLE);
        game.make(5, "addGroup 2 0").refuses("part 6 1", UNKNOWN).refuses("part 6 0", UNKNOWN);
        game.refuses("part 0 0", BAD_VALUE).refuses("part 0 24", BAD_VALUE).refuses("part 0 4", NOT_POSSIBLE);
        game.refuses("part 0 3", FULL).make("join 1 2").refuses("part 1 1", NOT_POSSIBLE).refuses("part 0 1", FULL);
    }

    /** A group of 4 can give away 3, but neither 4 nor 5; a group of 1 nothing. */
    private static void promise14NotGreater() {
        Run game = small().refuses("part 0 4", NOT_POSSIBLE).refuses("part 0 5", NOT_POSSIBLE);
        game.answers("part 0 3", 1).refuses("part 0 1", NOT_POSSIBLE).refuses("part 1 3", NOT_POSSIBLE);
        game.answers("part 1 2", 2).tells("group 1 0", 1).tells("group 2 0", 2);
        // Its room and time, without keys and hints.
        Run old = atTheLock().make("hint 0", "part 0 1");
        int[] made = {1, 1, 8, 0, 0, 0};
        int[] kept = {3, 1, 8, 2, 1, 0};
        for (int what = 0; what < 6; what++) {
            old.tells("group 1 " + what, made[what]).tells("group 0 " + what, kept[what]);
        }
        small().waitsToTheEnd(0).answers("part 0 1", 1).tells("group 1 2", 100000);
    }

    private static void promise14UpTo6Groups() {
        Run game = small().make(4, "addGroup 1 0").answers("part 0 1", 5).refuses("part 0 1", FULL);
        game.tells("count 3", 6).tells("group 0 0", 3);
        // Those that joined stay in the numbering.
        game.make("join 5 0").refuses("part 0 1", FULL).tells("group 0 0", 4);
    }

    private static void promise15Numbers() {
        Run game = small().make("part 0 1").limits("join ? 1", 0, 1, UNKNOWN).limits("join 0 ?", 0, 1, UNKNOWN);
        game.refuses("join 2 2", UNKNOWN).refuses("join 2 -1", UNKNOWN).answers("join 0 1", 4);
        game.limits("join ? 1", 0, 1, UNKNOWN).limits("join 0 ?", 0, 1, UNKNOWN);
    }

    private static void promise15SameGroup() {
        Run game = small().make("part 0 1", "part 0 1").refuses("join 3 3", UNKNOWN).refuses("join -1 -1", UNKNOWN);
        game.refuses("join 0 0", BAD_VALUE).refuses("join 2 2", BAD_VALUE);
        game.make("join 2 0").refuses("join 2 2", BAD_VALUE).refuses("join 2 3", UNKNOWN);
    }

    private static void promise15NotPossible() {
        Run game = small().make("part 0 1", "walk 1 0");
        game.refuses("join 0 1", NOT_POSSIBLE).refuses("join 1 0", NOT_POSSIBLE);
        game.make("walk 1 0").answers("join 1 0", 4);
        game.refuses("join 1 0", NOT_POSSIBLE).refuses("join 0 1", NOT_POSSIBLE);
    }

    private static void promise15GreaterTime() {
        int[] times = {20, 20, 21};
        for (int i = 0; i < 3; i++) {
            Run game = small().make("part 0 1").waits(1, 20).waits(0, 19 + i);
            game.answers("join 0 1", 4).tells("group 1 2", times[i]).tells("group 0 2", 19 + i);
        }
        small().make("part 0 1").waitsToTheEnd(1).answers("join 1 0", 4).tells("group 0 2", 100000);
    }

    private static void promise15SizesUpTo24() {
        Run game = new Run(check, "addRoom").make(6, "addGroup 4 0").make(4, "addKey 0 0");
        game.make("take 0 0", "take 5 1", "take 5 2", "hint 0", "hint 5", "hint 5");
        game.answers("join 5 0", 8).tells("group 0 3", 3).tells("group 0 4", 3).tells("group 0 2", 15);
        game.tells("group 5 0", 0).tells("group 5 3", 0).tells("group 5 4", 2).tells("group 5 5", 2);
        game.answers("join 1 0", 12).answers("join 2 0", 16).answers("join 3 0", 20).answers("join 0 4", 24);
        game.tells("count 7", 24).tells("group 4 3", 3).tells("group 4 4", 3).refuses("addGroup 1 0", FULL);
    }

    private static void promise16Numbers() {
        Run game = small().make("setExit 0", "part 0 1").limits("leave ?", 0, 1, UNKNOWN);
        game.answers("leave 1", 0).limits("leave ?", 0, 1, UNKNOWN);
    }

    private static void promise16RoomIsNotTheExit() {
        Run game = small().refuses("leave 0", NOT_POSSIBLE).answers("setExit 1", NONE).refuses("leave 0", NOT_POSSIBLE);
        game.answers("setExit 0", 1).answers("leave 0", 0).refuses("leave 0", NOT_POSSIBLE);
        game.answers("setExit 2", 0).tells("group 0 5", 1).tells("count 6", 4).refuses("leave 0", NOT_POSSIBLE);
    }

    private static void promise16FirstAndLastTime() {
        Run first = small().make("take 0 0", "setExit 0").tells("count 8", NONE);
        first.answers("leave 0", 0).tells("count 8", 0);
        first.tells("group 0 0", 4).tells("group 0 2", 0).tells("group 0 3", 1).tells("key 0 1", 1);
        Run last = small().make("setExit 0").waitsToTheEnd(0).answers("leave 0", 100000);
        last.tells("count 8", 100000).tells("group 0 2", 100000);
    }

    private static void promise17Numbers() {
        Run game = small().make("part 0 1").limits("hint ?", 0, 1, UNKNOWN);
        game.waitsToTheEnd(0).limits("hint ?", 0, 1, UNKNOWN);
    }

    /** The first door can be 0 or 15; 16 for a plan without doors; 17 for none. */
    private static void promise17Answers() {
        Run game = small().answers("hint 0", 17).make("setExit 0").answers("hint 0", 16).make("setExit 2");
        game.answers("hint 0", 1).tells("group 0 4", 3).tells("group 0 2", 30).tells("count 9", 3);
        Run first = new Run(check, "addRoom", "addRoom", "setExit 1", "addLock 0 1 1 0 1");
        first.make("addKey 0 0", "addGroup 1 0").answers("hint 0", 0);
        Run last = new Run(check, "addRoom", "addRoom", "addRoom", "setExit 1").make(15, "addDoor 0 2 1");
        last.make("addLock 2 1 1 0 1", "addKey 0 0", "addGroup 1 0").answers("hint 0", 15).tells("group 0 2", 5);
    }

    private static void promise17TooLate() {
        for (int exit = 0; exit < 3; exit++) {
            Run late = small().make("setExit " + exit).waits(0, 99996).refuses("hint 0", TOO_LATE);
            late.tells("group 0 4", 0).tells("count 9", 0).tells("group 0 2", 99996);
        }
        Run last = small().waits(0, 99995).answers("hint 0", 17).tells("group 0 2", 100000).tells("group 0 4", 1);
        last.refuses("hint 0", TOO_LATE).tells("count 9", 1).refuses("hint 1", UNKNOWN);
        small().make("setHints 1 0").waits(0, 99999).answers("hint 0", 17).tells("group 0 2", 100000);
        small().make("setHints 1 0").waitsToTheEnd(0).refuses("hint 0", TOO_LATE);
    }

    /** The hints of a group that joined make the next one dearer, up to the end of the clock. */
    private static void promise17StepCountsAtTheEnd() {
        Run game = small().make("setHints 30 30", "part 0 1", "hint 0", "hint 1", "hint 1", "join 1 0");
        game.tells("group 0 2", 90).tells("group 0 4", 3).waits(0, 99881).refuses("hint 0", TOO_LATE);
        game.tells("group 0 4", 3).tells("count 9", 3).answers("setHints 29 30", 30).answers("hint 0", 17);
        game.tells("group 0 2", 100000).tells("group 0 4", 4).tells("count 9", 4).tells("group 1 4", 2);
    }
}
