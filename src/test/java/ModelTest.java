import java.util.Random;

/** Runs of random calls, each answered by the class and by the model; the last ones ask for whatever is told. */
public final class ModelTest {
    private static final int RUNS = 1500;
    private static final int MOST_CALLS = 512;
    private static final int LAST_CALLS = 100;
    private static final Check check = new Check("ModelTest");

    private final Random random;
    private final EscapeRooms game = new EscapeRooms();
    private final Model model = new Model();
    private final StringBuilder calls = new StringBuilder();
    /** How big this run's game is, how many of its doors have locks, and how many colors it uses. */
    private final int rooms;
    private final int doors;
    private final int locksInTen;
    private final int keys;
    private final int colors;
    private final int longestTime;
    private final boolean isLate;
    private int made = 0;

    private ModelTest(long seed) {
        random = new Random(seed);
        boolean isFull = random.nextInt(5) == 0;
        rooms = isFull ? 14 : 2 + random.nextInt(9);
        doors = isFull ? 20 : 2 + random.nextInt(13);
        locksInTen = 3 + random.nextInt(7);
        keys = isFull ? 18 : 1 + random.nextInt(12);
        colors = 1 + random.nextInt(6);
        longestTime = random.nextBoolean() ? 5 : 60;
        isLate = random.nextInt(6) == 0;
    }

    public static void main(String[] args) {
        for (int seed = 0; seed < RUNS && check.wrong() == 0; seed++) {
            new ModelTest(seed).run();
        }
        check.end();
    }

    private void run() {
        build();
        while (made < MOST_CALLS && check.wrong() == 0) {
            if (made < MOST_CALLS - LAST_CALLS) {
                act();
            } else {
                tellWhatever();
            }
        }
        if (check.wrong() > 0) System.out.println(calls);
    }

    /** Each call asks the game once, which is promised to answer no more than 512 of them. */
    private void due(String call, int got, int want) {
        made++;
        calls.append(call).append(" -> ").append(got).append('\n');
        check.due(call, got, want);
    }

    private void build() {
        for (int i = 0; i < rooms; i++) due("addRoom()", game.addRoom(), model.addRoom());
        int exit = random.nextInt(rooms);
        due("setExit(" + exit + ")", game.setExit(exit), model.setExit(exit));
        for (int i = 0; i < doors; i++) addDoorOrLock();
        for (int i = 0; i < keys; i++) addKey();
        for (int i = random.nextInt(4); i >= 0; i--) addGroup();
        if (isLate) waitLong();
    }

    /** Brings the group 0 near the last time of the clock. */
    private void waitLong() {
        for (int i = 0; i < 99; i++) due("idle(0, 1000)", game.idle(0, 1000), model.idle(0, 1000));
        int rest = 800 + random.nextInt(201);
        due("idle(0, " + rest + ")", game.idle(0, rest), model.idle(0, rest));
    }

    private void addDoorOrLock() {
        int a = room();
        int b = room();
        int walk = 1 + random.nextInt(30);
        if (random.nextInt(10) >= locksInTen) {
            due("addDoor(" + a + ", " + b + ", " + walk + ")", game.addDoor(a, b, walk), model.addDoor(a, b, walk));
            return;
        }
        int color = color();
        int unlock = 1 + random.nextInt(longestTime);
        due("addLock(" + a + ", " + b + ", " + walk + ", " + color + ", " + unlock + ")",
                game.addLock(a, b, walk, color, unlock), model.addLock(a, b, walk, color, unlock));
    }

    private void addKey() {
        int room = room();
        int color = color();
        due("addKey(" + room + ", " + color + ")", game.addKey(room, color), model.addKey(room, color));
    }

    private void addGroup() {
        int size = 1 + random.nextInt(8);
        int room = room();
        due("addGroup(" + size + ", " + room + ")", game.addGroup(size, room), model.addGroup(size, room));
    }

    private int strange(int ordinary) {
        if (random.nextInt(60) != 0) return ordinary;
        int[] values = {-1, -6, 6, 12, 16, 31, 1001, 32, 33, Integer.MAX_VALUE, Integer.MIN_VALUE};
        return values[random.nextInt(values.length)];
    }

    private int room() {
        return strange(random.nextInt(Math.max(1, model.count(0))));
    }

    private int color() {
        return strange(random.nextInt(colors));
    }

    private int door() {
        return strange(random.nextInt(Math.max(1, model.count(1))));
    }

    private int key() {
        return strange(random.nextInt(Math.max(1, model.count(2))));
    }

    private int group() {
        return strange(random.nextInt(Math.max(1, model.count(3))));
    }

    private void act() {
        int a = group();
        int b;
        switch (random.nextInt(24)) {
            case 0: case 1: case 2: case 3:
                b = door();
                due("walk(" + a + ", " + b + ")", game.walk(a, b), model.walk(a, b));
                break;
            case 4: case 5:
                b = door();
                due("unlock(" + a + ", " + b + ")", game.unlock(a, b), model.unlock(a, b));
                break;
            case 6: case 7:
                b = key();
                due("take(" + a + ", " + b + ")", game.take(a, b), model.take(a, b));
                break;
            case 8:
                b = key();
                due("drop(" + a + ", " + b + ")", game.drop(a, b), model.drop(a, b));
                break;
            case 9:
                b = strange(random.nextInt(4) == 0 ? 1000 : random.nextInt(40));
                due("idle(" + a + ", " + b + ")", game.idle(a, b), model.idle(a, b));
                break;
            case 10:
                rarely(a);
                break;
            case 11:
                b = group();
                if (random.nextInt(3) == 0) {
                    due("join(" + a + ", " + b + ")", game.join(a, b), model.join(a, b));
                }
                break;
            case 12:
                due("hint(" + a + ")", game.hint(a), model.hint(a));
                break;
            default:
                tell(a);
        }
    }

    private void rarely(int a) {
        int b = strange(random.nextInt(5));
        int c = strange(random.nextInt(31));
        switch (random.nextInt(9)) {
            case 0: due("addRoom()", game.addRoom(), model.addRoom()); break;
            case 1: addDoorOrLock(); break;
            case 2: addKey(); break;
            case 3: addGroup(); break;
            case 4: due("setHints(" + c + ", " + b + ")", game.setHints(c, b), model.setHints(c, b)); break;
            case 5: due("leave(" + a + ")", game.leave(a), model.leave(a)); break;
            case 6: due("setExit(" + b + ")", game.setExit(b), model.setExit(b)); break;
            default: due("part(" + a + ", " + b + ")", game.part(a, b), model.part(a, b));
        }
    }

    private void tell(int a) {
        int b = strange(random.nextInt(7));
        int c;
        switch (random.nextInt(11)) {
            case 0: case 1: due("plan(" + a + ", " + b % 2 + ")", game.plan(a, b % 2), model.plan(a, b % 2)); break;
            case 2: case 3: due("planned(" + a + ", " + b + ")", game.planned(a, b), model.planned(a, b)); break;
            case 4: due("reach(" + a + ")", game.reach(a), model.reach(a)); break;
            case 5:
                c = room();
                due("way(" + a + ", " + c + ")", game.way(a, c), model.way(a, c));
                break;
            case 6:
                c = door();
                due("door(" + c + ", " + b + ")", game.door(c, b), model.door(c, b));
                break;
            case 7:
                c = key();
                due("key(" + c + ", " + b + ")", game.key(c, b), model.key(c, b));
                break;
            case 8: due("group(" + a + ", " + b + ")", game.group(a, b), model.group(a, b)); break;
            case 9:
                c = color();
                due("color(" + c + ", " + b % 2 + ")", game.color(c, b % 2), model.color(c, b % 2));
                break;
            default:
                c = strange(random.nextInt(12));
                due("count(" + c + ")", game.count(c), model.count(c));
        }
    }

    /** Numbers and properties from below the first one to behind the last one. */
    private void tellWhatever() {
        int number = random.nextInt(19) - 1;
        int what = random.nextInt(14) - 1;
        int group = random.nextInt(8) - 1;
        String row = "(" + number + ", " + what + ")";
        String ofGroup = "(" + group + ", " + what + ")";
        switch (random.nextInt(9)) {
            case 0: due("reach(" + group + ")", game.reach(group), model.reach(group)); break;
            case 1: due("plan" + ofGroup, game.plan(group, what), model.plan(group, what)); break;
            case 2: due("planned" + ofGroup, game.planned(group, what), model.planned(group, what)); break;
            case 3: due("way" + ofGroup, game.way(group, what), model.way(group, what)); break;
            case 4: due("door" + row, game.door(number, what), model.door(number, what)); break;
            case 5: due("key" + row, game.key(number, what), model.key(number, what)); break;
            case 6: due("group" + ofGroup, game.group(group, what), model.group(group, what)); break;
            case 7: due("color" + ofGroup, game.color(group, what), model.color(group, what)); break;
            default: due("count(" + what + ")", game.count(what), model.count(what));
        }
    }
}
