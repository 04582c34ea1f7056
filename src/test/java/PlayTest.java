import java.util.ArrayList;
import java.util.Arrays;
import java.util.List;
import java.util.Random;

/**
 * Plans (promises 17 to 19 and 26) and ways (20, 21) against what groups can really do: small games are played
 * by walk, take and unlock in every order, and the best play must be the plan that was told before.
 */
public final class PlayTest {
    private static final int GAMES = 3000;
    private static final int MOST_LOCKS = 5;
    private static final int NONE = EscapeRooms.NONE;
    private static final Check check = new Check("PlayTest");

    private final Random random;
    private final Run start = new Run(check);
    /** In a tree there are no ways round: locks are unlocked for the keys behind them, often in a free order. */
    private final boolean isTree;
    private final int rooms;
    private final int exit;
    /** Both rooms, and the unlocking time, 0 without a lock. */
    private final List<int[]> doors = new ArrayList<>();
    private final int keys;
    private final int colors;
    private int locks = 0;
    /** The best play found: its cost and then its doors, null as long as there is none. */
    private int[] best = null;

    private PlayTest(long seed) {
        // The first numbers of neighbouring seeds are alike; far apart, they are not.
        random = new Random(seed * 0x9E3779B97F4A7C15L);
        isTree = random.nextBoolean();
        rooms = isTree ? 6 : 2 + random.nextInt(3);
        colors = isTree ? 2 : 1 + random.nextInt(2);
        exit = random.nextInt(rooms);
        keys = random.nextInt(8);
    }

    public static void main(String[] args) {
        theExampleOfTheReadme();
        int escapes = 0;
        for (int seed = 0; seed < GAMES && check.wrong() == 0; seed++) {
            if (new PlayTest(seed).plays()) escapes++;
        }
        check.isTrue("some games end with an escape, some in a dead end", escapes > 100 && escapes < GAMES - 100);
        check.end();
    }

    private static void theExampleOfTheReadme() {
        Run game = new Run(check).answers("addRoom", 0).answers("addRoom", 1).answers("setExit 1", NONE);
        game.answers("addLock 0 1 2 0 10", 0).answers("addKey 0 0", 0).answers("addGroup 4 0", 0);
        game.tells("plan 0 0", 10).answers("take 0 0", 1).answers("unlock 0 0", 0).answers("walk 0 0", 12);
        game.answers("leave 0", 12).tells("count 6", 4).tells("count 8", 12);
    }

    /** Says whether there was a way to escape. */
    private boolean plays() {
        build();
        play(start.twin(), new int[] {0});
        String game = start.toString();
        if (best == null) {
            check.due("plan 0 0" + game, start.ask("plan 0 0"), NONE);
            check.due("count 10" + game, start.ask("count 10"), 1);
            check.due("hint 0" + game, start.ask("hint 0"), 17);
            return false;
        }
        check.due("plan 0 0" + game, start.ask("plan 0 0"), best[0]);
        check.due("plan 0 1" + game, start.ask("plan 0 1"), best.length - 1);
        for (int i = 1; i < best.length; i++) {
            check.due("planned 0 " + (i - 1) + game, start.ask("planned 0 " + (i - 1)), best[i]);
        }
        check.due("count 10" + game, start.ask("count 10"), 0);
        check.due("hint 0" + game, start.ask("hint 0"), best.length == 1 ? 16 : best[1]);
        return true;
    }

    private void build() {
        start.make(rooms, "addRoom").make("setExit " + exit);
        if (isTree) {
            for (int room = rooms - 1; room > 0; room--) {
                buildDoor(room, random.nextInt(3) > 0 ? 0 : random.nextInt(room));
            }
        } else {
            for (int i = 2 + random.nextInt(5); i > 0; i--) {
                int a = random.nextInt(rooms);
                buildDoor(a, (a + 1 + random.nextInt(rooms - 1)) % rooms);
            }
        }
        int first = isTree ? 0 : random.nextInt(rooms);
        start.make("addGroup 1 " + first);
        for (int i = 0; i < keys; i++) {
            int room = i < 2 || !isTree && random.nextBoolean() ? first : random.nextInt(rooms);
            start.make("addKey " + room + " " + random.nextInt(colors));
        }
    }

    private void buildDoor(int a, int b) {
        String ends = a + " " + b + " " + (1 + random.nextInt(30));
        if (locks < MOST_LOCKS && random.nextInt(6) > 0) {
            locks++;
            int minutes = 1 + random.nextInt(2);
            start.make("addLock " + ends + " " + random.nextInt(colors) + " " + minutes);
            doors.add(new int[] {a, b, minutes});
        } else {
            start.make("addDoor " + ends);
            doors.add(new int[] {a, b, 0});
        }
    }

    /** Goes on with each lock that the group can unlock; the play so far is its cost and then its doors. */
    private void play(Run game, int[] played) {
        takeAllKeys(game, played);
        if (canReach(game, exit)) {
            walkTo(game, exit, played);
            check.isTrue("leave 0" + game, game.ask("leave 0") >= 0);
            if (best == null || isLess(played, best)) best = played;
            return;
        }
        for (int door = 0; door < doors.size(); door++) {
            if (isOpen(door, played)) continue;
            for (int side = 0; side < 2; side++) {
                if (canReach(game, doors.get(door)[side])) unlockFrom(side, door, game, played);
            }
        }
    }

    private void unlockFrom(int side, int door, Run game, int[] played) {
        Run tried = game.twin();
        walkTo(tried, doors.get(door)[side], played);
        if (tried.ask("unlock 0 " + door) < 0) return;
        int[] longer = Arrays.copyOf(played, played.length + 1);
        longer[played.length] = door;
        longer[0] += doors.get(door)[2];
        play(tried, longer);
    }

    private void takeAllKeys(Run game, int[] played) {
        for (int key = 0; key < keys; key++) {
            int room = game.ask("key " + key + " 2");
            if (room == NONE || !canReach(game, room)) continue;
            walkTo(game, room, played);
            check.isTrue("take 0 " + key + game, game.ask("take 0 " + key) > 0);
        }
    }

    private static boolean canReach(Run game, int room) {
        return (game.ask("reach 0") & 1 << room) != 0;
    }

    private boolean isOpen(int door, int[] played) {
        boolean isPlayed = false;
        for (int i = 1; i < played.length; i++) isPlayed |= played[i] == door;
        return isPlayed || doors.get(door)[2] == 0;
    }

    /** Walks to a room that can be reached, by steps that each take just what they shorten the way by. */
    private void walkTo(Run game, int room, int[] played) {
        int rest = game.ask("way 0 " + room);
        check.isTrue("way 0 " + room + game, rest >= 0);
        for (int steps = 0; rest > 0 && steps < rooms; steps++) {
            rest = walkNearer(game, room, rest, played);
        }
        check.due("rest of the way to " + room + game, rest, 0);
        check.due("group 0 1" + game, game.ask("group 0 1"), room);
    }

    /** Walks through the first door that keeps to the least number of minutes, and tells the rest of them. */
    private int walkNearer(Run game, int room, int rest, int[] played) {
        int here = game.ask("group 0 1");
        int time = game.ask("group 0 2");
        for (int door = 0; door < doors.size(); door++) {
            int[] ends = doors.get(door);
            if (!isOpen(door, played) || ends[0] != here && ends[1] != here) continue;
            Run tried = game.twin();
            int left = time + rest - tried.ask("walk 0 " + door);
            int nearer = tried.ask("way 0 " + room);
            check.isTrue("way 0 " + room + " is the least" + tried, nearer >= left);
            if (nearer == left) {
                game.make("walk 0 " + door);
                return nearer;
            }
        }
        check.isTrue("a door that keeps to way 0 " + room + game, false);
        return NONE;
    }

    private static boolean isLess(int[] a, int[] b) {
        if (a[0] != b[0]) return a[0] < b[0];
        if (a.length != b.length) return a.length < b.length;
        return Arrays.compare(a, b) < 0;
    }
}
