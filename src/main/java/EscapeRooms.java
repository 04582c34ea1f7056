import java.util.ArrayList;

/**
 * Escape rooms: rooms with doors whose locks take keys that are used once, groups of players that
 * walk, unlock, part and join, each with a clock of its own, doors that others can pass only from
 * the time at which they were unlocked, hints that cost more and more, plans of escape with the
 * least time for locks, and dead ends that are told.
 */
public final class EscapeRooms {
    /** There is no such room, door, key or group. */
    public static final int UNKNOWN = -1;
    /** Another argument is out of range. */
    public static final int BAD_VALUE = -2;
    /** There is no more room. */
    public static final int FULL = -3;
    /** This is not possible. */
    public static final int NOT_POSSIBLE = -4;
    /** The clock of the group would be greater than 100000. */
    public static final int TOO_LATE = -5;
    /** There is no such thing; not an error. */
    public static final int NONE = -6;

    private static final int MOST_ROOMS = 12;
    private static final int MOST_DOORS = 16;
    private static final int MOST_LOCKS = 10;
    private static final int MOST_KEYS = 16;
    private static final int MOST_GROUPS = 6;
    private static final int MOST_PLAYERS = 24;
    private static final int MOST_WALK_TIME = 30;
    private static final int MOST_UNLOCK_TIME = 60;
    private static final int MOST_IDLE_TIME = 1000;
    private static final int MOST_HINT_COST = 30;
    private static final int LAST_COLOR = 5;
    private static final int LAST_TIME = 100000;
    private static final int HINT_OF_NO_DOORS = 16;
    private static final int HINT_OF_DEAD_END = 17;

    private static final int IN_PLAY = 0;
    private static final int ESCAPED = 1;
    private static final int JOINED = 2;

    private static final int LIES = 0;
    private static final int HELD = 1;
    private static final int USED_UP = 2;

    /** Later than any arrival: the clock ends at 100000, and a way takes a few hundred minutes. */
    private static final int NEVER = 1000000;

    private final ArrayList<Room> rooms;
    private final ArrayList<Door> doors;
    private final ArrayList<Key> keys;
    private final ArrayList<Group> groups;
    private final PlanSearch search;
    private Room exit;
    private int lockCount;
    private int hintBase;
    private int hintStep;
    private int hintsTaken;

    /** Creates a game without rooms. */
    public EscapeRooms() {
        rooms = new ArrayList<Room>();
        doors = new ArrayList<Door>();
        keys = new ArrayList<Key>();
        groups = new ArrayList<Group>();
        search = new PlanSearch();
        exit = null;
        hintBase = 5;
        hintStep = 5;
    }

    // ---- the rooms

    /** Adds a room. Returns its number; FULL. */
    public int addRoom() {
        int number = rooms.size();
        if (number >= MOST_ROOMS) {
            return FULL;
        }
        rooms.add(new Room(number));
        return number;
    }

    /** Makes a room the exit. Returns the previous exit, NONE if there was none; UNKNOWN. */
    public int setExit(int room) {
        if (!isRoom(room)) {
            return UNKNOWN;
        }
        int previous = exitNumber();
        exit = rooms.get(room);
        return previous;
    }

    /** Adds a door without a lock. Returns its number; UNKNOWN; BAD_VALUE; FULL. */
    public int addDoor(int a, int b, int walk) {
        if (!isRoom(a) || !isRoom(b)) {
            return UNKNOWN;
        }
        if (a == b || !isBetween(walk, 1, MOST_WALK_TIME)) {
            return BAD_VALUE;
        }
        int number = doors.size();
        if (number >= MOST_DOORS) {
            return FULL;
        }
        doors.add(new Door(number, lowerRoom(a, b), higherRoom(a, b), walk));
        return number;
    }

    /** Adds a door with a lock. Returns its number; UNKNOWN; BAD_VALUE; FULL. */
    public int addLock(int a, int b, int walk, int color, int unlock) {
        if (!isRoom(a) || !isRoom(b)) {
            return UNKNOWN;
        }
        if (a == b || !isBetween(walk, 1, MOST_WALK_TIME) || !isColor(color)
                || !isBetween(unlock, 1, MOST_UNLOCK_TIME)) {
            return BAD_VALUE;
        }
        int number = doors.size();
        if (number >= MOST_DOORS || lockCount >= MOST_LOCKS) {
            return FULL;
        }
        Door added = new Door(number, lowerRoom(a, b), higherRoom(a, b), walk);
        added.putLock(1 << lockCount, color, unlock);
        doors.add(added);
        lockCount++;
        return number;
    }

    /** Adds a key, which lies in a room from the time 0. Returns its number; UNKNOWN; BAD_VALUE; FULL. */
    public int addKey(int room, int color) {
        if (!isRoom(room)) {
            return UNKNOWN;
        }
        if (!isColor(color)) {
            return BAD_VALUE;
        }
        int number = keys.size();
        if (number >= MOST_KEYS) {
            return FULL;
        }
        keys.add(new Key(number, color, rooms.get(room)));
        return number;
    }

    /** Adds a group with the time 0. Returns its number; UNKNOWN; BAD_VALUE; FULL. */
    public int addGroup(int size, int room) {
        if (!isRoom(room)) {
            return UNKNOWN;
        }
        if (!isBetween(size, 1, MOST_PLAYERS)) {
            return BAD_VALUE;
        }
        int number = groups.size();
        int players = playersThat(IN_PLAY) + playersThat(ESCAPED);
        if (number >= MOST_GROUPS || players + size > MOST_PLAYERS) {
            return FULL;
        }
        groups.add(new Group(number, size, rooms.get(room), 0));
        return number;
    }

    /** Sets the costs of hints. Returns the previous base cost; BAD_VALUE. */
    public int setHints(int base, int step) {
        if (!isBetween(base, 1, MOST_HINT_COST) || !isBetween(step, 0, MOST_HINT_COST)) {
            return BAD_VALUE;
        }
        int previous = hintBase;
        hintBase = base;
        hintStep = step;
        return previous;
    }

    // ---- what groups do; for a group that is not in play: NOT_POSSIBLE

    /** Walks. Returns the time of the group then; UNKNOWN; NOT_POSSIBLE; TOO_LATE. */
    public int walk(int group, int door) {
        if (!isGroup(group) || !isDoor(door)) {
            return UNKNOWN;
        }
        Group walker = groups.get(group);
        Door passed = doors.get(door);
        if (!walker.isInPlay() || !passed.isAt(walker.room) || !passed.isOpen) {
            return NOT_POSSIBLE;
        }
        int time = passed.timeBehind(walker.time);
        if (time > LAST_TIME) {
            return TOO_LATE;
        }
        walker.time = time;
        walker.room = passed.otherRoom(walker.room);
        return time;
    }

    /** Unlocks a door. Returns the key that is used up; UNKNOWN; NOT_POSSIBLE; TOO_LATE. */
    public int unlock(int group, int door) {
        if (!isGroup(group) || !isDoor(door)) {
            return UNKNOWN;
        }
        Group opener = groups.get(group);
        Door locked = doors.get(door);
        if (!opener.isInPlay() || !locked.isAt(opener.room) || locked.isOpen) {
            return NOT_POSSIBLE;
        }
        Key used = lowestHeldKey(opener, locked.color);
        if (used == null) {
            return NOT_POSSIBLE;
        }
        int time = opener.time + locked.unlockTime;
        if (time > LAST_TIME) {
            return TOO_LATE;
        }
        opener.time = time;
        locked.openFrom(time);
        used.useUp(locked);
        return used.number;
    }

    /** Takes a key. Returns the number of keys that the group holds then; UNKNOWN; NOT_POSSIBLE. */
    public int take(int group, int key) {
        if (!isGroup(group) || !isKey(key)) {
            return UNKNOWN;
        }
        Group taker = groups.get(group);
        Key taken = keys.get(key);
        if (!taker.isInPlay() || taken.room != taker.room) {
            return NOT_POSSIBLE;
        }
        taker.time = Math.max(taker.time, taken.liesFrom);
        taken.giveTo(taker);
        return keysHeldBy(taker);
    }

    /** Drops a key. Returns the number of keys that the group holds then; UNKNOWN; NOT_POSSIBLE. */
    public int drop(int group, int key) {
        if (!isGroup(group) || !isKey(key)) {
            return UNKNOWN;
        }
        Group dropper = groups.get(group);
        Key dropped = keys.get(key);
        if (!dropper.isInPlay() || dropped.holder != dropper) {
            return NOT_POSSIBLE;
        }
        dropped.layDown(dropper.room, dropper.time);
        return keysHeldBy(dropper);
    }

    /** Waits. Returns the time of the group then; UNKNOWN; BAD_VALUE; NOT_POSSIBLE; TOO_LATE. */
    public int idle(int group, int minutes) {
        if (!isGroup(group)) {
            return UNKNOWN;
        }
        if (!isBetween(minutes, 1, MOST_IDLE_TIME)) {
            return BAD_VALUE;
        }
        Group waiter = groups.get(group);
        if (!waiter.isInPlay()) {
            return NOT_POSSIBLE;
        }
        int time = waiter.time + minutes;
        if (time > LAST_TIME) {
            return TOO_LATE;
        }
        waiter.time = time;
        return time;
    }

    /** Parts. Returns the number of the new group; UNKNOWN; BAD_VALUE; NOT_POSSIBLE; FULL. */
    public int part(int group, int size) {
        if (!isGroup(group)) {
            return UNKNOWN;
        }
        if (!isBetween(size, 1, MOST_PLAYERS - 1)) {
            return BAD_VALUE;
        }
        Group parted = groups.get(group);
        if (!parted.isInPlay() || parted.size <= size) {
            return NOT_POSSIBLE;
        }
        int number = groups.size();
        if (number >= MOST_GROUPS) {
            return FULL;
        }
        parted.size -= size;
        groups.add(new Group(number, size, parted.room, parted.time));
        return number;
    }

    /** Joins. Returns the size of the other group then; UNKNOWN; BAD_VALUE; NOT_POSSIBLE. */
    public int join(int group, int other) {
        if (!isGroup(group) || !isGroup(other)) {
            return UNKNOWN;
        }
        if (group == other) {
            return BAD_VALUE;
        }
        Group joining = groups.get(group);
        Group joined = groups.get(other);
        if (!joining.isInPlay() || !joined.isInPlay() || joining.room != joined.room) {
            return NOT_POSSIBLE;
        }
        handOverKeys(joining, joined);
        joined.size += joining.size;
        joined.time = Math.max(joined.time, joining.time);
        joined.hints += joining.hints;
        joining.size = 0;
        joining.state = JOINED;
        return joined.size;
    }

    /** Leaves. Returns the time of the group; UNKNOWN; NOT_POSSIBLE. */
    public int leave(int group) {
        if (!isGroup(group)) {
            return UNKNOWN;
        }
        Group leaver = groups.get(group);
        if (!leaver.isInPlay() || leaver.room != exit) {
            return NOT_POSSIBLE;
        }
        leaver.state = ESCAPED;
        return leaver.time;
    }

    /**
     * Takes a hint. Returns the first door of the best plan, 16 without doors, 17 without a plan;
     * UNKNOWN; NOT_POSSIBLE; TOO_LATE.
     */
    public int hint(int group) {
        if (!isGroup(group)) {
            return UNKNOWN;
        }
        Group asker = groups.get(group);
        if (!asker.isInPlay()) {
            return NOT_POSSIBLE;
        }
        int time = asker.time + hintBase + hintStep * asker.hints;
        if (time > LAST_TIME) {
            return TOO_LATE;
        }
        asker.time = time;
        asker.hints++;
        hintsTaken++;
        search.find(asker, exit, doors, keys, lockCount);
        if (!search.isFound) {
            return HINT_OF_DEAD_END;
        }
        return search.doorCount == 0 ? HINT_OF_NO_DOORS : search.doorAt(0);
    }

    // ---- what is told

    /** Tells of the best plan: 0 its cost, 1 its number of doors; UNKNOWN; BAD_VALUE; NOT_POSSIBLE; NONE. */
    public int plan(int group, int what) {
        if (!isGroup(group)) {
            return UNKNOWN;
        }
        if (!isBetween(what, 0, 1)) {
            return BAD_VALUE;
        }
        Group asker = groups.get(group);
        if (!asker.isInPlay()) {
            return NOT_POSSIBLE;
        }
        search.find(asker, exit, doors, keys, lockCount);
        if (!search.isFound) {
            return NONE;
        }
        return what == 0 ? search.cost : search.doorCount;
    }

    /** Tells the door at a place of the best plan; UNKNOWN; BAD_VALUE; NOT_POSSIBLE; NONE. */
    public int planned(int group, int place) {
        if (!isGroup(group)) {
            return UNKNOWN;
        }
        if (place < 0) {
            return BAD_VALUE;
        }
        Group asker = groups.get(group);
        if (!asker.isInPlay()) {
            return NOT_POSSIBLE;
        }
        search.find(asker, exit, doors, keys, lockCount);
        if (!search.isFound || place >= search.doorCount) {
            return NONE;
        }
        return search.doorAt(place);
    }

    /** Tells the least minutes to walk to a room through open doors; UNKNOWN; NOT_POSSIBLE; NONE. */
    public int way(int group, int room) {
        if (!isGroup(group) || !isRoom(room)) {
            return UNKNOWN;
        }
        Group walker = groups.get(group);
        if (!walker.isInPlay()) {
            return NOT_POSSIBLE;
        }
        findArrivals(walker);
        int arrival = rooms.get(room).arrival;
        return arrival == NEVER ? NONE : arrival - walker.time;
    }

    /** Tells the rooms that can be reached through open doors, as a bit set; UNKNOWN; NOT_POSSIBLE. */
    public int reach(int group) {
        if (!isGroup(group)) {
            return UNKNOWN;
        }
        Group walker = groups.get(group);
        if (!walker.isInPlay()) {
            return NOT_POSSIBLE;
        }
        return spread(doors, walker.room.bit, openLocks(doors));
    }

    /** Tells a property of a door; UNKNOWN; BAD_VALUE. */
    public int door(int door, int what) {
        if (!isDoor(door)) {
            return UNKNOWN;
        }
        Door asked = doors.get(door);
        switch (what) {
            case 0: return asked.low.number;
            case 1: return asked.high.number;
            case 2: return asked.walkTime;
            case 3: return asked.color;
            case 4: return asked.unlockTime;
            case 5: return asked.isOpen ? asked.openTime : NONE;
            default: return BAD_VALUE;
        }
    }

    /** Tells a property of a key; UNKNOWN; BAD_VALUE. */
    public int key(int key, int what) {
        if (!isKey(key)) {
            return UNKNOWN;
        }
        Key asked = keys.get(key);
        switch (what) {
            case 0: return asked.color;
            case 1: return asked.state();
            case 2: return asked.room == null ? NONE : asked.room.number;
            case 3: return asked.holder == null ? NONE : asked.holder.number;
            case 4: return asked.unlocked == null ? NONE : asked.unlocked.number;
            default: return BAD_VALUE;
        }
    }

    /** Tells a property of a group; UNKNOWN; BAD_VALUE. */
    public int group(int group, int what) {
        if (!isGroup(group)) {
            return UNKNOWN;
        }
        Group asked = groups.get(group);
        switch (what) {
            case 0: return asked.size;
            case 1: return asked.room.number;
            case 2: return asked.time;
            case 3: return keysHeldBy(asked);
            case 4: return asked.hints;
            case 5: return asked.state;
            default: return BAD_VALUE;
        }
    }

    /** Tells of a color: 0 the locks that are not unlocked, 1 the keys that are not used up; BAD_VALUE. */
    public int color(int color, int what) {
        if (!isColor(color)) {
            return BAD_VALUE;
        }
        switch (what) {
            case 0: return closedLocksOf(color);
            case 1: return keysLeftOf(color);
            default: return BAD_VALUE;
        }
    }

    /** Tells a number of the whole game; BAD_VALUE. */
    public int count(int what) {
        switch (what) {
            case 0: return rooms.size();
            case 1: return doors.size();
            case 2: return keys.size();
            case 3: return groups.size();
            case 4: return exitNumber();
            case 5: return Integer.bitCount(openLocks(doors));
            case 6: return playersThat(ESCAPED);
            case 7: return playersThat(IN_PLAY);
            case 8: return latestEscape();
            case 9: return hintsTaken;
            case 10: return groupsInDeadEnd();
            default: return BAD_VALUE;
        }
    }

    // ---- what the calls are made of

    private static boolean isBetween(int value, int least, int most) {
        return value >= least && value <= most;
    }

    private static boolean isColor(int color) {
        return isBetween(color, 0, LAST_COLOR);
    }

    private boolean isRoom(int room) {
        return room >= 0 && room < rooms.size();
    }

    private boolean isDoor(int door) {
        return door >= 0 && door < doors.size();
    }

    private boolean isKey(int key) {
        return key >= 0 && key < keys.size();
    }

    private boolean isGroup(int group) {
        return group >= 0 && group < groups.size();
    }

    /** The room with the lower one of two numbers that were tested by isRoom. */
    private Room lowerRoom(int a, int b) {
        return rooms.get(Math.min(a, b));
    }

    /** The room with the higher one of two numbers that were tested by isRoom. */
    private Room higherRoom(int a, int b) {
        return rooms.get(Math.max(a, b));
    }

    private int exitNumber() {
        return exit == null ? NONE : exit.number;
    }

    private int playersThat(int state) {
        int players = 0;
        for (int i = 0; i < groups.size(); i++) {
            Group one = groups.get(i);
            if (one.state == state) {
                players += one.size;
            }
        }
        return players;
    }

    private int latestEscape() {
        int latest = NONE;
        for (int i = 0; i < groups.size(); i++) {
            Group one = groups.get(i);
            if (one.state == ESCAPED) {
                latest = Math.max(latest, one.time);
            }
        }
        return latest;
    }

    private int groupsInDeadEnd() {
        int dead = 0;
        for (int i = 0; i < groups.size(); i++) {
            Group one = groups.get(i);
            if (one.isInPlay()) {
                search.find(one, exit, doors, keys, lockCount);
                if (!search.isFound) {
                    dead++;
                }
            }
        }
        return dead;
    }

    private int keysHeldBy(Group group) {
        int held = 0;
        for (int i = 0; i < keys.size(); i++) {
            if (keys.get(i).holder == group) {
                held++;
            }
        }
        return held;
    }

    /** The key that an unlocking uses up, null if the group holds none of the color. */
    private Key lowestHeldKey(Group group, int color) {
        for (int i = 0; i < keys.size(); i++) {
            Key one = keys.get(i);
            if (one.holder == group && one.color == color) {
                return one;
            }
        }
        return null;
    }

    private void handOverKeys(Group from, Group to) {
        for (int i = 0; i < keys.size(); i++) {
            Key one = keys.get(i);
            if (one.holder == from) {
                one.giveTo(to);
            }
        }
    }

    private int closedLocksOf(int color) {
        int closed = 0;
        for (int i = 0; i < doors.size(); i++) {
            Door one = doors.get(i);
            if (one.color == color && !one.isOpen) {
                closed++;
            }
        }
        return closed;
    }

    private int keysLeftOf(int color) {
        int left = 0;
        for (int i = 0; i < keys.size(); i++) {
            Key one = keys.get(i);
            if (one.color == color && one.state() != USED_UP) {
                left++;
            }
        }
        return left;
    }

    /** The bits of the locks that were unlocked. */
    private static int openLocks(ArrayList<Door> doors) {
        int open = 0;
        for (int i = 0; i < doors.size(); i++) {
            Door one = doors.get(i);
            if (one.isOpen) {
                open |= one.lockBit;
            }
        }
        return open;
    }

    /** The rooms that can be reached from those of a bit set while the locks of another one are open. */
    private static int spread(ArrayList<Door> doors, int from, int openLocks) {
        int reached = from;
        boolean grows = true;
        for (int round = 0; grows && round < MOST_ROOMS; round++) {
            grows = false;
            for (int i = 0; i < doors.size(); i++) {
                Door one = doors.get(i);
                if (one.isPassable(openLocks) && one.leadsOutOf(reached)) {
                    reached |= one.roomBits;
                    grows = true;
                }
            }
        }
        return reached;
    }

    /**
     * Leaves in each room the earliest time at which the group can be there. A later start never
     * arrives earlier behind a door, so the earliest time for each room is enough; and no best way
     * enters a room twice, so as many rounds as there are rooms settle all times.
     */
    private void findArrivals(Group walker) {
        for (int i = 0; i < rooms.size(); i++) {
            rooms.get(i).arrival = NEVER;
        }
        walker.room.arrival = walker.time;
        boolean improves = true;
        for (int round = 0; improves && round < MOST_ROOMS; round++) {
            improves = false;
            for (int i = 0; i < doors.size(); i++) {
                Door one = doors.get(i);
                if (one.isOpen && (one.speedsUp(one.low, one.high) || one.speedsUp(one.high, one.low))) {
                    improves = true;
                }
            }
        }
    }

    /** A room. */
    private static final class Room {
        final int number;
        final int bit;
        /** The time found by the last search for ways. */
        int arrival;

        Room(int number) {
            this.number = number;
            this.bit = 1 << number;
        }
    }

    /** A door; without a lock it has the color NONE, no lock bit, and is open from the time 0. */
    private static final class Door {
        final int number;
        final Room low;
        final Room high;
        final int walkTime;
        final int roomBits;
        int color;
        int unlockTime;
        /** The bit of this lock among all locks, in the order of their doors. */
        int lockBit;
        boolean isOpen;
        int openTime;

        Door(int number, Room low, Room high, int walkTime) {
            this.number = number;
            this.low = low;
            this.high = high;
            this.walkTime = walkTime;
            this.roomBits = low.bit | high.bit;
            this.color = NONE;
            this.isOpen = true;
        }

        void putLock(int bit, int lockColor, int minutes) {
            lockBit = bit;
            color = lockColor;
            unlockTime = minutes;
            isOpen = false;
        }

        void openFrom(int time) {
            isOpen = true;
            openTime = time;
        }

        boolean isAt(Room room) {
            return room == low || room == high;
        }

        Room otherRoom(Room room) {
            return room == low ? high : low;
        }

        /** The time behind the door of somebody who stands before it at a time; it may be necessary to wait. */
        int timeBehind(int time) {
            return Math.max(time, openTime) + walkTime;
        }

        boolean isPassable(int openLocks) {
            return (openLocks & lockBit) == lockBit;
        }

        /** Whether just one of its rooms is among those of a bit set. */
        boolean leadsOutOf(int reached) {
            int inside = reached & roomBits;
            return inside != 0 && inside != roomBits;
        }

        /** Makes the arrival behind the door earlier, if it can; says whether it did. */
        boolean speedsUp(Room from, Room to) {
            if (from.arrival == NEVER || timeBehind(from.arrival) >= to.arrival) {
                return false;
            }
            to.arrival = timeBehind(from.arrival);
            return true;
        }
    }

    /** A key: it has a room while it lies, a holder while it is held, and then a door that it unlocked. */
    private static final class Key {
        final int number;
        final int color;
        Room room;
        int liesFrom;
        Group holder;
        Door unlocked;

        Key(int number, int color, Room room) {
            this.number = number;
            this.color = color;
            this.room = room;
        }

        int state() {
            if (room != null) {
                return LIES;
            }
            return holder != null ? HELD : USED_UP;
        }

        void layDown(Room where, int time) {
            room = where;
            liesFrom = time;
            holder = null;
        }

        void giveTo(Group group) {
            room = null;
            holder = group;
        }

        void useUp(Door door) {
            holder = null;
            unlocked = door;
        }

        /** Whether a group can have it that can reach the rooms of a bit set. */
        boolean isWithin(Group group, int reached) {
            if (room != null) {
                return (room.bit & reached) != 0;
            }
            return holder == group;
        }
    }

    /** A group of players. */
    private static final class Group {
        final int number;
        int size;
        Room room;
        int time;
        int hints;
        int state;

        Group(int number, int size, Room room, int time) {
            this.number = number;
            this.size = size;
            this.room = room;
            this.time = time;
            this.state = IN_PLAY;
        }

        boolean isInPlay() {
            return state == IN_PLAY;
        }
    }

    /**
     * The search for the best plan. A state is the bit set of the locks that are open: which rooms
     * can be reached, which keys are left of each color, and the cost so far depend on it alone, not
     * on the order in which its locks were opened. A lock more makes a greater number, so one pass
     * over the states in ascending order sees each one after all that lead to it.
     */
    private static final class PlanSearch {
        /** The rooms reached in each state, 0 for a state that no sequence of doors leads to. */
        private final int[] reached;
        /** The least sequence of doors that leads to each state, four bits a door, the last one lowest. */
        private final long[] sequences;
        private Group group;
        private ArrayList<Door> doors;
        private ArrayList<Key> keys;
        private int openAtFirst;

        boolean isFound;
        int cost;
        int doorCount;
        private long sequence;

        PlanSearch() {
            reached = new int[1 << MOST_LOCKS];
            sequences = new long[1 << MOST_LOCKS];
        }

        /** Finds the best plan of a group; there is none without an exit (null). */
        void find(Group planner, Room exit, ArrayList<Door> allDoors, ArrayList<Key> allKeys, int locks) {
            isFound = false;
            if (exit == null) {
                return;
            }
            group = planner;
            doors = allDoors;
            keys = allKeys;
            openAtFirst = openLocks(allDoors);
            int states = Math.min(1 << locks, Math.min(reached.length, sequences.length));
            for (int state = 0; state < states; state++) {
                reached[state] = 0;
            }
            comeTo(openAtFirst, planner.room.bit, 0);
            for (int state = 0; state < states; state++) {
                if ((reached[state] & exit.bit) != 0) {
                    keepIfBetter(state, sequences[state]);
                } else if (reached[state] != 0) {
                    goOnFrom(state, reached[state], sequences[state]);
                }
            }
        }

        /** The door at a place of the plan found, which has more doors than that. */
        int doorAt(int place) {
            return (int) (sequence >> (4 * (doorCount - 1 - place))) & 15;
        }

        /** Notes that a sequence of doors leads to a state, where at least the rooms of a bit set are reached. */
        private void comeTo(int state, int rooms, long way) {
            if (state < 0 || state >= reached.length || state >= sequences.length) {
                return;
            }
            if (reached[state] == 0) {
                reached[state] = spread(doors, rooms, state);
                sequences[state] = way;
            } else if (way < sequences[state]) {
                // All sequences to one state have the same length, so the order of the numbers is theirs.
                sequences[state] = way;
            }
        }

        /** Opens each door that can come next; one between two rooms reached would cost time and give nothing. */
        private void goOnFrom(int state, int rooms, long way) {
            int left = keysLeft(state, rooms);
            for (int i = 0; i < doors.size(); i++) {
                Door next = doors.get(i);
                if (!next.isPassable(state) && next.leadsOutOf(rooms) && hasOne(left, next.color)) {
                    comeTo(state | next.lockBit, rooms | next.roomBits, (way << 4) | next.number);
                }
            }
        }

        /**
         * How many keys of each color are within reach in a state and were not used by its doors. Each
         * color has five bits, as there are at most 16 keys, so that one number a state is enough.
         */
        private int keysLeft(int state, int rooms) {
            int left = 0;
            for (int i = 0; i < keys.size(); i++) {
                Key one = keys.get(i);
                if (one.isWithin(group, rooms)) {
                    left += 1 << (5 * one.color);
                }
            }
            for (int i = 0; i < doors.size(); i++) {
                Door one = doors.get(i);
                if (isOpenedByPlan(one, state)) {
                    left -= 1 << (5 * one.color);
                }
            }
            return left;
        }

        private static boolean hasOne(int left, int color) {
            return ((left >> (5 * color)) & 31) != 0;
        }

        private boolean isOpenedByPlan(Door door, int state) {
            return (state & ~openAtFirst & door.lockBit) != 0;
        }

        /** Keeps a plan that ends in a state if it costs less, or has fewer or lesser doors at the same cost. */
        private void keepIfBetter(int state, long way) {
            int wayCost = costOf(state);
            int wayDoors = Integer.bitCount(state & ~openAtFirst);
            if (!isFound || isBetter(wayCost, wayDoors, way)) {
                isFound = true;
                cost = wayCost;
                doorCount = wayDoors;
                sequence = way;
            }
        }

        private boolean isBetter(int wayCost, int wayDoors, long way) {
            if (wayCost != cost) {
                return wayCost < cost;
            }
            if (wayDoors != doorCount) {
                return wayDoors < doorCount;
            }
            return way < sequence;
        }

        private int costOf(int state) {
            int sum = 0;
            for (int i = 0; i < doors.size(); i++) {
                Door one = doors.get(i);
                if (isOpenedByPlan(one, state)) {
                    sum += one.unlockTime;
                }
            }
            return sum;
        }
    }
}
