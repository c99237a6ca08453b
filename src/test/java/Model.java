import java.util.ArrayList;
import java.util.HashMap;
import java.util.List;
import java.util.Map;

/** The document once more, as plainly as can be, with the Java library and without a thought of cost. */
final class Model {
    private static final int NONE = -1000000, BAD = -1000001, FULL = -1000003;

    private static final class Found extends Exception {
        private static final long serialVersionUID = 1;
        final int number;

        Found(int number) {
            this.number = number;
        }
    }

    private static final class Bad extends Exception {
        private static final long serialVersionUID = 1;
    }

    private record World(int weight, List<Integer> levels) { }

    private record Ship(int number, int minute, int takes) { }

    /** How the barrier is as an HOUR begins; the water behind at the end of the HOUR ahead. */
    private record Way(String how, int left, int water) { }

    private record Course(long loss, Map<Integer, List<int[]>> hours) { }

    private final Object[] sheets = new Object[8];
    private final List<World> worlds = new ArrayList<>();
    private final int[] rivers = {10, 10, 10, 10, 10, 10, 10, 10};
    private final int[] rules = {1, 1, 300, 200, 50, 5, 10, 3};
    private final List<int[]> gates = new ArrayList<>();
    private final List<Ship> ships = new ArrayList<>();
    private final List<Integer> bodies = new ArrayList<>();
    private int status = 0;

    long call(String name, int... a) {
        switch (name) {
            case "river": return river(a[0], a[1]);
            case "rule": return rule(a[0], a[1]);
            case "best": return plan().loss;
            case "hour": return hour(a[0], a[1], a[2]);
            case "shutAt": return shutAt(a[0]);
            case "alarm": return alarm();
            case "groups": return a[0] < 0 || a[0] > 7 ? BAD : parts(worldNumbers(), a[0], 0).size();
            case "gate": return gate(a[0], a[1]);
            case "fail": return turn(a[0], 1);
            case "mend": return turn(a[0], 0);
            case "time": return time(a[0], a[1]);
            case "ship": return ship(a[0], a[1]);
            case "waits": return waits(a[0], a[1], a[2]);
            case "kind": return noGate(a[0]) ? BAD : kind(a[0]);
            case "ask": return ask(a[0], a[1]);
            case "trace": return a[0] < 0 || a[0] >= bodies.size() ? NONE : bodies.get(a[0]);
            case "count": return count(a[0]);
            case "status": return status;
            default: return withSheet(name, a);
        }
    }

    private long withSheet(String name, int[] a) {
        try {
            long answer = sheetCall(name, a);
            if (answer != FULL) {
                status = 0;
            }
            return answer;
        } catch (Found found) {
            status = found.number;
            return -1000010 - found.number;
        } catch (Bad bad) {
            return BAD;
        }
    }

    private long sheetCall(String name, int[] a) throws Found, Bad {
        switch (name) {
            case "sheet": return sheet(a[0], a[1], a[2]);
            case "set": return set(a[0], a[1], a[2]);
            case "copy": return copy(a[0], a[1], a[2], a[3], a[4]);
            case "drop": return drop(a[0]);
            case "world": return world(a[0], a[1], a[2]);
            case "closings": return closings(a[0], a[1], a[2], a[3], a[4], a[5]);
            case "tooMany": return tooMany(a[0], a[1], a[2], a[3], a[4], a[5]);
            case "as": return as(a[0], a[1]);
            default: throw new IllegalArgumentException(name);
        }
    }

    private static void between(int v, int least, int most) throws Bad {
        if (v < least || v > most) {
            throw new Bad();
        }
    }

    private int sheet(int sheet, int lane, int n) throws Found, Bad {
        between(sheet, 0, 7);
        between(lane, 0, 2);
        between(n, Integer.MIN_VALUE, 60);
        if (n < 0) {
            throw new Found(4);
        }
        sheets[sheet] = lane == 0 ? new byte[n] : lane == 1 ? new short[n] : new int[n];
        return n;
    }

    private Object present(int sheet) throws Found {
        if (sheets[sheet] == null) {
            throw new Found(1);
        }
        return sheets[sheet];
    }

    private int[] items(int sheet, long from, long n) throws Found {
        Object there = present(sheet);
        int length = java.lang.reflect.Array.getLength(there);
        if (from < 0 || n < 0 || from + n > length) {
            throw new Found(2);
        }
        int[] items = new int[(int) n];
        for (int k = 0; k < n; k++) {
            items[k] = java.lang.reflect.Array.getInt(there, (int) from + k);
        }
        return items;
    }

    private int set(int sheet, int i, int v) throws Found, Bad {
        between(sheet, 0, 7);
        items(sheet, i, 1);
        if (sheets[sheet] instanceof byte[] bytes) {
            bytes[i] = (byte) v;
        } else if (sheets[sheet] instanceof short[] shorts) {
            shorts[i] = (short) v;
        } else {
            ((int[]) sheets[sheet])[i] = v;
        }
        return items(sheet, i, 1)[0];
    }

    private int copy(int a, int i, int b, int j, int n) throws Found, Bad {
        between(a, 0, 7);
        between(b, 0, 7);
        Object from = present(a);
        Object to = present(b);
        if (from.getClass() != to.getClass()) {
            throw new Found(5);
        }
        int[] moved = items(a, i, n);
        items(b, j, n);
        for (int k = 0; k < n; k++) {
            set(b, j + k, moved[k]);
        }
        return n;
    }

    private int drop(int sheet) throws Found, Bad {
        between(sheet, 0, 7);
        int had = java.lang.reflect.Array.getLength(present(sheet));
        sheets[sheet] = null;
        return had;
    }

    private int world(int weight, int sheet, int i) throws Found, Bad {
        between(weight, 1, 20);
        between(sheet, 0, 7);
        if (worlds.size() == 8) {
            return FULL;
        }
        List<Integer> levels = new ArrayList<>();
        for (int level : items(sheet, i, 8)) {
            between(level, 0, 1000);
            levels.add(level);
        }
        worlds.add(new World(weight, levels));
        return worlds.size() - 1;
    }

    private int river(int hour, int v) {
        if (hour < 0 || hour > 7 || v < 0 || v > 100) {
            return BAD;
        }
        int was = rivers[hour];
        rivers[hour] = v;
        return was;
    }

    private int rule(int what, int v) {
        if (what < 0 || what > 7 || v < 0 || v > 1000 || what < 2 && (v < 1 || v > 3)) {
            return BAD;
        }
        int was = rules[what];
        rules[what] = v;
        return was;
    }

    private List<Integer> worldNumbers() {
        List<Integer> all = new ArrayList<>();
        for (int w = 0; w < worlds.size(); w++) {
            all.add(w);
        }
        return all;
    }

    /** Groups of some WORLDS by their LEVELS from one HOUR to another. */
    private List<List<Integer>> parts(List<Integer> some, int last, int first) {
        Map<List<Integer>, List<Integer>> parts = new HashMap<>();
        for (int w : some) {
            parts.computeIfAbsent(worlds.get(w).levels.subList(first, last + 1), k -> new ArrayList<>()).add(w);
        }
        return new ArrayList<>(parts.values());
    }

    private Course plan() {
        return plan(worldNumbers(), 0, new Way("OPEN", 0, 0));
    }

    /** BEST from an HOUR on for some WORLDS that were alike till the HOUR ahead. */
    private Course plan(List<Integer> some, int hour, Way way) {
        long loss = 0;
        Map<Integer, List<int[]>> hours = new HashMap<>();
        if (hour == 8) {
            for (int w : some) {
                hours.put(w, new ArrayList<>());
            }
            return new Course(0, hours);
        }
        for (List<Integer> group : parts(some, hour, hour)) {
            Course chosen = planGroup(group, hour, way, false);
            if (way.how.equals("OPEN") || way.how.equals("SHUT")) {
                Course told = planGroup(group, hour, way, true);
                chosen = told.loss < chosen.loss ? told : chosen;
            }
            loss += chosen.loss;
            hours.putAll(chosen.hours);
        }
        return new Course(loss, hours);
    }

    private Course planGroup(List<Integer> group, int hour, Way way, boolean tell) {
        int level = worlds.get(group.get(0)).levels.get(hour);
        String how = way.how;
        int left = way.left;
        int lost = 0;
        int order = 0;
        if (tell && how.equals("OPEN")) {
            how = "SHUTTING";
            left = rules[0];
            lost = rules[4];
            order = 1;
        } else if (tell) {
            how = "OPENING";
            left = rules[1];
            order = 2;
        }
        int water = how.equals("SHUT") ? way.water + rivers[hour] : level;
        lost += how.equals("SHUT")
            ? rules[5] + Math.max(0, water - rules[3]) * rules[7]
            : Math.max(0, level - rules[2]) * rules[6];
        int number = List.of("OPEN", "SHUTTING", "SHUT", "OPENING").indexOf(how);
        if (left > 0) {
            left--;
            if (left == 0) {
                how = how.equals("SHUTTING") ? "SHUT" : "OPEN";
            }
        }
        Course rest = plan(group, hour + 1, new Way(how, left, water));
        long loss = rest.loss;
        for (int w : group) {
            loss += (long) worlds.get(w).weight * lost;
            rest.hours.get(w).add(0, new int[] {order, number, water, lost});
        }
        return new Course(loss, rest.hours);
    }

    private int hour(int world, int hour, int what) {
        if (world < 0 || world >= worlds.size() || hour < 0 || hour > 7 || what < 0 || what > 3) {
            return BAD;
        }
        return plan().hours.get(world).get(hour)[what];
    }

    private long shutAt(int order) {
        if (order < 0 || order > 8) {
            return BAD;
        }
        long loss = 0;
        for (World world : worlds) {
            int water = 0;
            for (int h = 0; h < 8; h++) {
                int level = world.levels.get(h);
                int lost = h == order ? rules[4] : 0;
                if (h >= order + rules[0]) {
                    water += rivers[h];
                    lost += rules[5] + Math.max(0, water - rules[3]) * rules[7];
                } else {
                    water = level;
                    lost += Math.max(0, level - rules[2]) * rules[6];
                }
                loss += (long) world.weight * lost;
            }
        }
        return loss;
    }

    private int alarm() {
        boolean[] high = new boolean[8];
        boolean some = false;
        for (World world : worlds) {
            for (int h = 0; h < 8; h++) {
                high[h] |= world.levels.get(h) > rules[2];
                some |= high[h];
            }
        }
        if (!some) {
            return 8;
        }
        for (int order = 7; order >= 0; order--) {
            boolean fits = true;
            for (int h = 0; h < 8; h++) {
                fits &= !high[h] || h >= order + rules[0];
            }
            if (fits) {
                return order;
            }
        }
        return NONE;
    }

    private int gate(int minutes, int hand) {
        if (minutes < 1 || minutes > 500 || hand < 0 || hand > 2000) {
            return BAD;
        }
        if (gates.size() == 6) {
            return FULL;
        }
        gates.add(new int[] {minutes, hand, 0});
        return gates.size() - 1;
    }

    private boolean noGate(int gate) {
        return gate < 0 || gate >= gates.size();
    }

    private int turn(int gate, int failed) {
        if (noGate(gate)) {
            return BAD;
        }
        int changed = gates.get(gate)[2] == failed ? 0 : 1;
        gates.get(gate)[2] = failed;
        return changed;
    }

    private int time(int crews, int what) {
        if (crews < 1 || crews > 3 || what < 0 || what > 1) {
            return BAD;
        }
        List<Integer> tried = new ArrayList<>();
        for (int[] gate : gates) {
            if (what == 1 && gate[2] == 0) {
                gate[2] = 1;
                tried.add(timeNow(crews));
                gate[2] = 0;
            }
        }
        if (tried.isEmpty()) {
            return timeNow(crews);
        }
        return tried.contains(NONE) ? NONE : java.util.Collections.max(tried);
    }

    /** Minute by minute: a CREW that is free takes the next FAILED GATE. */
    private int timeNow(int crews) {
        int greatest = 0;
        List<Integer> byHand = new ArrayList<>();
        for (int[] gate : gates) {
            if (gate[2] == 0) {
                greatest = Math.max(greatest, gate[0]);
            } else if (gate[1] == 0) {
                return NONE;
            } else {
                byHand.add(gate[1]);
            }
        }
        int[] busyTill = new int[crews];
        for (int minute = 0; !byHand.isEmpty(); minute++) {
            for (int crew = 0; crew < crews && !byHand.isEmpty(); crew++) {
                if (busyTill[crew] <= minute) {
                    busyTill[crew] = minute + byHand.remove(0);
                    greatest = Math.max(greatest, busyTill[crew]);
                }
            }
        }
        return greatest;
    }

    private int ship(int minute, int takes) {
        if (minute < 0 || minute > 100000 || takes < 1 || takes > 500) {
            return BAD;
        }
        if (ships.size() == 20) {
            return FULL;
        }
        ships.add(new Ship(ships.size(), minute, takes));
        return ships.size() - 1;
    }

    /** Minute by minute: if none passes and it is not shut, the first in the row that has come begins. */
    private int waits(int ship, int from, int to) {
        if (ship < 0 || ship >= ships.size() || from < 0 || to < from || to > 100000) {
            return BAD;
        }
        List<Ship> row = new ArrayList<>(ships);
        row.sort(java.util.Comparator.comparingInt(Ship::minute));
        int busyTill = 0;
        for (int minute = 0; !row.isEmpty(); minute++) {
            boolean shut = minute >= from && minute < to;
            if (!shut && busyTill <= minute && row.get(0).minute <= minute) {
                Ship begins = row.remove(0);
                busyTill = minute + begins.takes;
                if (begins.number == ship) {
                    return minute - begins.minute;
                }
            }
        }
        throw new IllegalStateException();
    }

    private int closings(int sheet, int i, int n, int rise, int level, int year) throws Found, Bad {
        between(sheet, 0, 7);
        between(n, 1, 60);
        between(rise, 0, 100);
        between(year, 0, 300);
        int above = 0;
        for (int peak : items(sheet, i, n)) {
            if ((long) peak + year * rise / 10 > level) {
                above++;
            }
        }
        return above;
    }

    private int tooMany(int sheet, int i, int n, int rise, int level, int m) throws Found, Bad {
        between(m, 0, Integer.MAX_VALUE);
        for (int year = 0; year <= 300; year++) {
            if (closings(sheet, i, n, rise, level, year) > m) {
                return year;
            }
        }
        return NONE;
    }

    private int kind(int gate) {
        int minutes = gates.get(gate)[0];
        int hand = gates.get(gate)[1];
        if (hand == 0) {
            return minutes >= 200 ? 3 : 0;
        }
        return hand <= minutes ? 2 : 1;
    }

    private int as(int gate, int kind) throws Found, Bad {
        if (noGate(gate)) {
            throw new Bad();
        }
        between(kind, 0, 3);
        if (!List.of("0", "01", "012", "03").get(kind(gate)).contains(String.valueOf(kind))) {
            throw new Found(3);
        }
        return gates.get(gate)[0];
    }

    private int ask(int gate, int what) {
        if (noGate(gate) || what < 0 || what > 1) {
            return BAD;
        }
        bodies.clear();
        int[] first = what == 0 ? new int[] {10, 11, 12, 13} : new int[] {20, 21, 21, 22};
        return body(first[kind(gate)], gate);
    }

    private int body(int number, int gate) {
        bodies.add(number);
        int cost = new int[] {10, 11, 12, 13}[kind(gate)];
        switch (number) {
            case 10: return gates.get(gate)[0];
            case 11: return body(10, gate) + gates.get(gate)[1];
            case 12: return body(11, gate) / 2;
            case 13: return body(10, gate) + 1000;
            case 20: return gates.get(gate)[2];
            case 21: return body(20, gate) + body(cost, gate);
            case 22: return body(20, gate) - body(cost, gate);
            default: throw new IllegalStateException();
        }
    }

    private int count(int what) {
        switch (what) {
            case 0: return (int) java.util.Arrays.stream(sheets).filter(s -> s != null).count();
            case 1: return worlds.size();
            case 2: return worlds.stream().mapToInt(World::weight).sum();
            case 3: return gates.size();
            case 4: return (int) gates.stream().filter(g -> g[2] == 1).count();
            case 5: return ships.size();
            default: return BAD;
        }
    }
}
