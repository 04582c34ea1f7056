import java.util.ArrayList;
import java.util.HashSet;
import java.util.List;
import java.util.Set;
import java.util.TreeMap;

/**
 * The document once more, written for comparison only: whole-number rows, ways by a walk through
 * all paths without a room twice, plans by trying sequence after sequence in ascending order.
 */
final class Model {
    private static final int UNKNOWN = -1, BAD_VALUE = -2, FULL = -3, NOT_POSSIBLE = -4, TOO_LATE = -5, NONE = -6;

    private int rooms = 0;
    private int exit = NONE;
    private int base = 5;
    private int step = 5;
    /** Lower room, higher room, walk, color, unlock, open from. */
    private final List<int[]> doors = new ArrayList<>();
    /** Color, 0 lies, 1 is held or 2 is used up, room, holder, door, lies from. */
    private final List<int[]> keys = new ArrayList<>();
    /** Size, room, time, (unused), hints, state. */
    private final List<int[]> groups = new ArrayList<>();
    private int hints = 0;

    private static boolean in(int value, int least, int most) {
        return least <= value && value <= most;
    }

    private static boolean has(List<int[]> list, int number) {
        return in(number, 0, list.size() - 1);
    }

    private boolean playing(int group) {
        return groups.get(group)[5] == 0;
    }

    int addRoom() {
        return rooms == 12 ? FULL : rooms++;
    }

    int setExit(int room) {
        if (!in(room, 0, rooms - 1)) return UNKNOWN;
        int before = exit;
        exit = room;
        return before;
    }

    int addDoor(int a, int b, int walk) {
        if (!in(a, 0, rooms - 1) || !in(b, 0, rooms - 1)) return UNKNOWN;
        if (a == b || !in(walk, 1, 30)) return BAD_VALUE;
        if (doors.size() == 16) return FULL;
        doors.add(new int[] {Math.min(a, b), Math.max(a, b), walk, NONE, 0, 0});
        return doors.size() - 1;
    }

    int addLock(int a, int b, int walk, int color, int unlock) {
        if (!in(a, 0, rooms - 1) || !in(b, 0, rooms - 1)) return UNKNOWN;
        if (a == b || !in(walk, 1, 30) || !in(color, 0, 5) || !in(unlock, 1, 60)) return BAD_VALUE;
        long locks = doors.stream().filter(d -> d[3] != NONE).count();
        if (doors.size() == 16 || locks == 10) return FULL;
        doors.add(new int[] {Math.min(a, b), Math.max(a, b), walk, color, unlock, NONE});
        return doors.size() - 1;
    }

    int addKey(int room, int color) {
        if (!in(room, 0, rooms - 1)) return UNKNOWN;
        if (!in(color, 0, 5)) return BAD_VALUE;
        if (keys.size() == 16) return FULL;
        keys.add(new int[] {color, 0, room, NONE, NONE, 0});
        return keys.size() - 1;
    }

    int addGroup(int size, int room) {
        if (!in(room, 0, rooms - 1)) return UNKNOWN;
        if (!in(size, 1, 24)) return BAD_VALUE;
        if (groups.size() == 6 || groups.stream().mapToInt(g -> g[0]).sum() + size > 24) return FULL;
        groups.add(new int[] {size, room, 0, 0, 0, 0});
        return groups.size() - 1;
    }

    int setHints(int newBase, int newStep) {
        if (!in(newBase, 1, 30) || !in(newStep, 0, 30)) return BAD_VALUE;
        int before = base;
        base = newBase;
        step = newStep;
        return before;
    }

    int walk(int group, int door) {
        if (!has(groups, group) || !has(doors, door)) return UNKNOWN;
        int[] g = groups.get(group);
        int[] d = doors.get(door);
        if (!playing(group) || d[0] != g[1] && d[1] != g[1] || d[5] == NONE) return NOT_POSSIBLE;
        int time = Math.max(g[2], d[5]) + d[2];
        if (time > 100000) return TOO_LATE;
        g[1] = d[0] + d[1] - g[1];
        return g[2] = time;
    }

    int unlock(int group, int door) {
        if (!has(groups, group) || !has(doors, door)) return UNKNOWN;
        int[] g = groups.get(group);
        int[] d = doors.get(door);
        if (!playing(group) || d[0] != g[1] && d[1] != g[1] || d[3] == NONE || d[5] != NONE) return NOT_POSSIBLE;
        int key = 0;
        while (key < keys.size() && !(keys.get(key)[3] == group && keys.get(key)[0] == d[3])) key++;
        if (key == keys.size()) return NOT_POSSIBLE;
        if (g[2] + d[4] > 100000) return TOO_LATE;
        g[2] += d[4];
        d[5] = g[2];
        keys.set(key, new int[] {d[3], 2, NONE, NONE, door, NONE});
        return key;
    }

    int take(int group, int key) {
        if (!has(groups, group) || !has(keys, key)) return UNKNOWN;
        int[] g = groups.get(group);
        int[] k = keys.get(key);
        if (!playing(group) || k[1] != 0 || k[2] != g[1]) return NOT_POSSIBLE;
        g[2] = Math.max(g[2], k[5]);
        keys.set(key, new int[] {k[0], 1, NONE, group, NONE, NONE});
        return group(group, 3);
    }

    int drop(int group, int key) {
        if (!has(groups, group) || !has(keys, key)) return UNKNOWN;
        int[] g = groups.get(group);
        int[] k = keys.get(key);
        if (!playing(group) || k[1] != 1 || k[3] != group) return NOT_POSSIBLE;
        keys.set(key, new int[] {k[0], 0, g[1], NONE, NONE, g[2]});
        return group(group, 3);
    }

    int idle(int group, int minutes) {
        if (!has(groups, group)) return UNKNOWN;
        if (!in(minutes, 1, 1000)) return BAD_VALUE;
        if (!playing(group)) return NOT_POSSIBLE;
        if (groups.get(group)[2] + minutes > 100000) return TOO_LATE;
        return groups.get(group)[2] += minutes;
    }

    int part(int group, int size) {
        if (!has(groups, group)) return UNKNOWN;
        if (!in(size, 1, 23)) return BAD_VALUE;
        int[] g = groups.get(group);
        if (!playing(group) || g[0] <= size) return NOT_POSSIBLE;
        if (groups.size() == 6) return FULL;
        g[0] -= size;
        groups.add(new int[] {size, g[1], g[2], 0, 0, 0});
        return groups.size() - 1;
    }

    int join(int group, int other) {
        if (!has(groups, group) || !has(groups, other)) return UNKNOWN;
        if (group == other) return BAD_VALUE;
        int[] g = groups.get(group);
        int[] o = groups.get(other);
        if (!playing(group) || !playing(other) || g[1] != o[1]) return NOT_POSSIBLE;
        o[0] += g[0];
        o[2] = Math.max(o[2], g[2]);
        o[4] += g[4];
        g[0] = 0;
        g[5] = 2;
        for (int[] k : keys) {
            if (k[3] == group) k[3] = other;
        }
        return o[0];
    }

    int leave(int group) {
        if (!has(groups, group)) return UNKNOWN;
        int[] g = groups.get(group);
        if (!playing(group) || g[1] != exit) return NOT_POSSIBLE;
        g[5] = 1;
        return g[2];
    }

    int hint(int group) {
        if (!has(groups, group)) return UNKNOWN;
        if (!playing(group)) return NOT_POSSIBLE;
        int[] g = groups.get(group);
        int time = g[2] + base + step * g[4];
        if (time > 100000) return TOO_LATE;
        g[2] = time;
        g[4]++;
        hints++;
        List<Integer> best = bestPlan(group);
        return best == null ? 17 : best.isEmpty() ? 16 : best.get(0);
    }

    int plan(int group, int what) {
        if (!has(groups, group)) return UNKNOWN;
        if (!in(what, 0, 1)) return BAD_VALUE;
        if (!playing(group)) return NOT_POSSIBLE;
        List<Integer> best = bestPlan(group);
        if (best == null) return NONE;
        return what == 0 ? costOf(best) : best.size();
    }

    int planned(int group, int place) {
        if (!has(groups, group)) return UNKNOWN;
        if (place < 0) return BAD_VALUE;
        if (!playing(group)) return NOT_POSSIBLE;
        List<Integer> best = bestPlan(group);
        return best == null || place >= best.size() ? NONE : best.get(place);
    }

    int way(int group, int room) {
        if (!has(groups, group) || !in(room, 0, rooms - 1)) return UNKNOWN;
        if (!playing(group)) return NOT_POSSIBLE;
        int[] g = groups.get(group);
        int arrival = earliest(g[1], g[2], room, 1 << g[1]);
        return arrival == Integer.MAX_VALUE ? NONE : arrival - g[2];
    }

    /** The earliest arrival by any path on which no room of the bit set seen comes again. */
    private int earliest(int here, int time, int room, int seen) {
        if (here == room) return time;
        int best = Integer.MAX_VALUE;
        for (int[] d : doors) {
            if (d[5] == NONE || d[0] != here && d[1] != here) continue;
            int next = d[0] + d[1] - here;
            if ((seen & 1 << next) != 0) continue;
            best = Math.min(best, earliest(next, Math.max(time, d[5]) + d[2], room, seen | 1 << next));
        }
        return best;
    }

    int reach(int group) {
        if (!has(groups, group)) return UNKNOWN;
        if (!playing(group)) return NOT_POSSIBLE;
        int set = 0;
        for (int room : reached(groups.get(group)[1], new ArrayList<>())) set |= 1 << room;
        return set;
    }

    private Set<Integer> reached(int start, List<Integer> opened) {
        Set<Integer> found = new HashSet<>();
        List<Integer> open = new ArrayList<>(List.of(start));
        while (!open.isEmpty()) {
            int here = open.remove(open.size() - 1);
            if (!found.add(here)) continue;
            for (int i = 0; i < doors.size(); i++) {
                int[] d = doors.get(i);
                if ((d[5] != NONE || opened.contains(i)) && (d[0] == here || d[1] == here)) open.add(d[0] + d[1] - here);
            }
        }
        return found;
    }

    /** The best plan of a group, null if there is none. */
    private List<Integer> bestPlan(int group) {
        if (exit == NONE) return null;
        List<List<Integer>> best = new ArrayList<>();
        long closed = doors.stream().filter(d -> d[5] == NONE).count();
        // With many locks each set of doors is tried once: in ascending order its least sequence comes first.
        Set<Set<Integer>> tried = closed > 5 ? new HashSet<>() : null;
        tryPlans(group, new ArrayList<>(), best, tried);
        return best.isEmpty() ? null : best.get(0);
    }

    private void tryPlans(int group, List<Integer> plan, List<List<Integer>> best, Set<Set<Integer>> tried) {
        if (tried != null && !tried.add(new HashSet<>(plan))) return;
        Set<Integer> inside = reached(groups.get(group)[1], plan);
        if (inside.contains(exit)) {
            if (best.isEmpty() || isLess(plan, best.get(0))) {
                best.clear();
                best.add(new ArrayList<>(plan));
            }
            return;
        }
        TreeMap<Integer, Integer> usable = new TreeMap<>();
        for (int[] k : keys) {
            if (k[3] == group || k[1] == 0 && inside.contains(k[2])) usable.merge(k[0], 1, Integer::sum);
        }
        for (int door : plan) usable.merge(doors.get(door)[3], -1, Integer::sum);
        for (int i = 0; i < doors.size(); i++) {
            int[] d = doors.get(i);
            if (d[5] != NONE || plan.contains(i) || !inside.contains(d[0]) && !inside.contains(d[1])) continue;
            if (usable.getOrDefault(d[3], 0) < 1) continue;
            plan.add(i);
            tryPlans(group, plan, best, tried);
            plan.remove(plan.size() - 1);
        }
    }

    private int costOf(List<Integer> plan) {
        return plan.stream().mapToInt(door -> doors.get(door)[4]).sum();
    }

    private boolean isLess(List<Integer> a, List<Integer> b) {
        if (costOf(a) != costOf(b)) return costOf(a) < costOf(b);
        if (a.size() != b.size()) return a.size() < b.size();
        for (int i = 0; i < a.size(); i++) {
            if (!a.get(i).equals(b.get(i))) return a.get(i) < b.get(i);
        }
        return false;
    }

    int door(int door, int what) {
        if (!has(doors, door)) return UNKNOWN;
        return in(what, 0, 5) ? doors.get(door)[what] : BAD_VALUE;
    }

    int key(int key, int what) {
        if (!has(keys, key)) return UNKNOWN;
        return in(what, 0, 4) ? keys.get(key)[what] : BAD_VALUE;
    }

    int group(int group, int what) {
        if (!has(groups, group)) return UNKNOWN;
        if (!in(what, 0, 5)) return BAD_VALUE;
        if (what == 3) return (int) keys.stream().filter(k -> k[3] == group).count();
        return groups.get(group)[what];
    }

    int color(int color, int what) {
        if (!in(color, 0, 5) || !in(what, 0, 1)) return BAD_VALUE;
        if (what == 0) return (int) doors.stream().filter(d -> d[3] == color && d[5] == NONE).count();
        return (int) keys.stream().filter(k -> k[0] == color && k[1] != 2).count();
    }

    int count(int what) {
        switch (what) {
            case 0: return rooms;
            case 1: return doors.size();
            case 2: return keys.size();
            case 3: return groups.size();
            case 4: return exit;
            case 5: return (int) doors.stream().filter(d -> d[3] != NONE && d[5] != NONE).count();
            case 6: return groups.stream().filter(g -> g[5] == 1).mapToInt(g -> g[0]).sum();
            case 7: return groups.stream().filter(g -> g[5] == 0).mapToInt(g -> g[0]).sum();
            case 8: return groups.stream().filter(g -> g[5] == 1).mapToInt(g -> g[2]).max().orElse(NONE);
            case 9: return hints;
            case 10:
                int dead = 0;
                for (int i = 0; i < groups.size(); i++) {
                    if (playing(i) && bestPlan(i) == null) dead++;
                }
                return dead;
            default: return BAD_VALUE;
        }
    }
}
