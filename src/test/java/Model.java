import java.util.ArrayList;
import java.util.Comparator;
import java.util.HashMap;
import java.util.List;
import java.util.Map;
import java.util.Set;
import java.util.TreeSet;

/**
 * The document once more, written down as plainly as it goes and without a look at PilotStation, so that random runs
 * can be compared. It throws nothing: ModelTest asks it only for what PilotStation did not refuse by a throw.
 */
final class Model {
    private static final class Person {
        int kind;
        int length;
        int draught;
        boolean willing = true;
        Set<Integer> off = new TreeSet<>();
        /** 0 STATION, 1 POST, 2 ABOARD, 3 ROAD, and since when they are there. */
        int where = 0;
        int since = 0;
        int roadTill = 0;
        int rested = 0;
        Integer lastEnd = null;
        int turns = 0;
        int led = 0;
        int ship = -1;

        Person copy() {
            Person p = new Person();
            p.kind = kind;
            p.length = length;
            p.draught = draught;
            p.willing = willing;
            p.off = new TreeSet<>(off);
            p.where = where;
            p.since = since;
            p.roadTill = roadTill;
            p.rested = rested;
            p.lastEnd = lastEnd;
            p.turns = turns;
            p.led = led;
            p.ship = ship;
            return p;
        }
    }

    private static final class Vessel {
        int number;
        boolean in;
        int length;
        int draught;
        int hour;
        int wants;
        boolean learnerAlong;
        /** As craft() tells them: state, went, LEADER, SECOND ONE, LEARNER, kept by TIDE, PILOTS, BOATS. */
        int[] told = {0, -1, -1, -1, -1, 0, 0, 0};

        int end() {
            return told[1] + 1 + length / 100;
        }

        Vessel copy() {
            Vessel v = new Vessel();
            v.number = number;
            v.in = in;
            v.length = length;
            v.draught = draught;
            v.hour = hour;
            v.wants = wants;
            v.learnerAlong = learnerAlong;
            v.told = told.clone();
            return v;
        }
    }

    private int now = 0;
    private int road = 1;
    private int base = 8;
    private int nights = 4;
    private int twice = 4;
    private List<Person> people = new ArrayList<>();
    private List<Vessel> vessels = new ArrayList<>();
    private List<Integer> list = new ArrayList<>();
    /** The LIST as the latest hour() began. */
    private List<Integer> listThen = new ArrayList<>();
    private final Map<Integer, List<Integer>> rows = new HashMap<>();
    private final List<int[]> boats = new ArrayList<>();
    private List<int[]> asked = new ArrayList<>();
    private Model ahead = null;
    private int seatsLeft = 0;

    private Model copy() {
        Model m = new Model();
        m.now = now;
        for (Person p : people) {
            m.people.add(p.copy());
        }
        for (Vessel v : vessels) {
            m.vessels.add(v.copy());
        }
        m.list = new ArrayList<>(list);
        m.listThen = new ArrayList<>(listThen);
        return m;
    }

    int pilot(int kind, int length, int draught) {
        ahead = null;
        Person p = new Person();
        p.kind = kind;
        p.length = length;
        p.draught = draught;
        people.add(p);
        list.add(people.size() - 1);
        return people.size() - 1;
    }

    int ship(boolean in, int length, int draught, int hour, int wants, boolean learner) {
        ahead = null;
        Vessel v = new Vessel();
        v.number = vessels.size();
        v.in = in;
        v.length = length;
        v.draught = draught;
        v.hour = hour;
        v.wants = wants;
        v.learnerAlong = learner;
        vessels.add(v);
        return v.number;
    }

    /** How many DRAUGHTS the row of a DAY has. */
    int told(int day) {
        return rows.containsKey(day) ? rows.get(day).size() : 0;
    }

    int tide(int day, int draught) {
        ahead = null;
        rows.computeIfAbsent(day, d -> new ArrayList<>()).add(draught);
        return rows.get(day).size();
    }

    boolean tear(int day) {
        ahead = null;
        return rows.remove(day) != null;
    }

    int boat(int clocks, int seats) {
        ahead = null;
        boats.add(new int[] {clocks, seats});
        return boats.size() - 1;
    }

    void road(int hours) {
        ahead = null;
        road = hours;
    }

    void rest(int newBase, int newNights, int newTwice) {
        ahead = null;
        base = newBase;
        nights = newNights;
        twice = newTwice;
    }

    boolean off(int pilot, int day, boolean on) {
        ahead = null;
        Set<Integer> days = people.get(pilot).off;
        return on ? days.add(day) : days.remove(day);
    }

    boolean will(int pilot, boolean on) {
        ahead = null;
        boolean other = people.get(pilot).willing != on;
        people.get(pilot).willing = on;
        return other;
    }

    boolean may(int pilot, int ship) {
        Person p = people.get(pilot);
        Vessel v = vessels.get(ship);
        boolean within = v.length <= p.length && v.draught <= p.draught;
        return p.kind == 0 && within || p.kind == 1 || p.kind == 3 && v.wants == -2
                || p.kind == 4 && within && v.wants == pilot;
    }

    boolean window(int ship, int hour) {
        if (hour < 0) {
            return false;
        }
        List<Integer> row = rows.get(hour / 24);
        return row != null && row.size() > hour % 24 && vessels.get(ship).draught <= row.get(hour % 24);
    }

    int seats(int hour, boolean out) {
        if (hour < 0 || hour > 9599 || !out && hour == 0) {
            return 0;
        }
        int clock = (out ? hour : hour - 1) % 24;
        return boats.stream().filter(b -> (b[0] >> clock & 1) == 1).mapToInt(b -> b[1]).sum();
    }

    int hour() {
        if (now == 9599) {
            return -1;
        }
        ahead = copy();
        asked = new ArrayList<>();
        listThen = new ArrayList<>(list);
        seatsLeft = seats(now, true);
        List<Vessel> order = new ArrayList<>(vessels);
        order.removeIf(v -> v.told[0] != 0 || v.hour > now + 1);
        order.sort(Comparator.comparingInt((Vessel v) -> -v.length).thenComparingInt(v -> v.number));
        int went = 0;
        for (Vessel v : order) {
            went += send(v) ? 1 : 0;
        }
        fetchFromThePost();
        now++;
        for (Vessel v : vessels) {
            if (v.told[0] == 1 && v.end() == now) {
                end(v);
            }
        }
        for (int i = 0; i < people.size(); i++) {
            Person p = people.get(i);
            if (p.where == 3 && p.roadTill == now) {
                put(p, 0);
            }
            if (p.where < 2 && p.rested <= now && !list.contains(i)) {
                list.add(i);
            }
        }
        return went;
    }

    private void put(Person p, int where) {
        p.where = where;
        p.since = now;
        p.ship = -1;
    }

    private boolean send(Vessel v) {
        if (!window(v.number, now + 1)) {
            v.told[5]++;
            return false;
        }
        int first = asked.size();
        int leader = v.wants >= 0 ? told(v) : seek(v, -1);
        int second = leader >= 0 && v.wants == -2 ? seek(v, leader) : -1;
        if (leader < 0 || v.wants == -2 && second < 0) {
            boolean boat = asked.subList(first, asked.size()).stream()
                    .anyMatch(a -> a[2] == 3 && v.in && people.get(a[1]).where == 0);
            v.told[boat ? 7 : 6]++;
            return false;
        }
        v.told[0] = 1;
        v.told[1] = now + 1;
        take(v, 2, leader);
        take(v, 3, second);
        if (v.learnerAlong) {
            int day = (now + 1) / 24;
            take(v, 4, list.stream().filter(i -> people.get(i).kind == 2 && !people.get(i).off.contains(day)
                    && there(v, people.get(i), seatsLeft) && people.get(i).willing).findFirst().orElse(-1));
        }
        return true;
    }

    private void take(Vessel v, int as, int pilot) {
        v.told[as] = pilot;
        if (pilot < 0) {
            return;
        }
        Person p = people.get(pilot);
        if (v.in && p.where == 0) {
            seatsLeft--;
        }
        list.remove(Integer.valueOf(pilot));
        p.where = 2;
        p.ship = v.number;
    }

    private static boolean there(Vessel v, Person p, int seats) {
        return v.in ? p.where == 1 || p.where == 0 && seats > 0 : p.where == 0;
    }

    private int told(Vessel v) {
        if (!list.contains(v.wants)) {
            asked.add(new int[] {v.number, v.wants, 5});
            return -1;
        }
        return ask(v, v.wants, seatsLeft) == 0 ? v.wants : -1;
    }

    private int seek(Vessel v, int leader) {
        boolean leadersSeat = leader >= 0 && v.in && people.get(leader).where == 0;
        for (int pilot : new ArrayList<>(list)) {
            if (pilot != leader && ask(v, pilot, seatsLeft - (leadersSeat ? 1 : 0)) == 0) {
                return pilot;
            }
        }
        return -1;
    }

    private int ask(Vessel v, int pilot, int seats) {
        Person p = people.get(pilot);
        int against = 0;
        if (!may(pilot, v.number)) {
            against = 1;
        } else if (p.off.contains((now + 1) / 24)) {
            against = 2;
        } else if (!there(v, p, seats)) {
            against = 3;
        } else if (!p.willing) {
            against = 4;
            list.remove(Integer.valueOf(pilot));
            list.add(pilot);
        }
        asked.add(new int[] {v.number, pilot, against});
        return against;
    }

    private void fetchFromThePost() {
        List<Person> there = new ArrayList<>(people);
        there.removeIf(p -> p.where != 1);
        there.sort(Comparator.comparingInt(p -> p.since));
        for (int i = 0; i < Math.min(there.size(), seats(now, false)); i++) {
            put(there.get(i), 0);
        }
    }

    private void end(Vessel v) {
        v.told[0] = 2;
        boolean night = false;
        for (int hour = v.told[1]; hour < v.end(); hour++) {
            night |= hour % 24 < 6 || hour % 24 > 21;
        }
        for (int as = 2; as <= 4; as++) {
            if (v.told[as] < 0) {
                continue;
            }
            Person p = people.get(v.told[as]);
            if (as < 4) {
                p.turns++;
                p.led += 1 + v.length / 100;
            }
            p.rested = now + base + (night ? nights : 0) + (p.lastEnd != null && now - p.lastEnd < 24 ? twice : 0);
            p.lastEnd = now;
            put(p, !v.in ? 1 : road == 0 ? 0 : 3);
            p.roadTill = now + road;
        }
    }

    boolean back(int ship) {
        Vessel v = vessels.get(ship);
        if (v.told[0] != 1 || v.told[1] != now) {
            return false;
        }
        List<Integer> aboard = new ArrayList<>(List.of(v.told[2], v.told[3], v.told[4]));
        aboard.removeIf(i -> i < 0);
        aboard.sort(Comparator.comparingInt(i -> listThen.indexOf(i)));
        for (int pilot : aboard) {
            put(people.get(pilot), v.in ? 1 : 0);
            list.add(Math.min(listThen.indexOf(pilot), list.size()), pilot);
        }
        v.told[0] = 3;
        v.told[2] = -1;
        v.told[3] = -1;
        v.told[4] = -1;
        return true;
    }

    boolean swap(int ship, int other) {
        Vessel v = vessels.get(ship);
        Vessel w = vessels.get(other);
        boolean can = v != w && v.in == w.in && v.told[0] == 1 && w.told[0] == 1 && v.told[1] == now
                && w.told[1] == now && v.told[3] < 0 && w.told[3] < 0
                && may(v.told[2], other) && may(w.told[2], ship);
        if (can) {
            int leader = v.told[2];
            v.told[2] = w.told[2];
            w.told[2] = leader;
            people.get(v.told[2]).ship = ship;
            people.get(w.told[2]).ship = other;
        }
        return can;
    }

    boolean undo() {
        if (ahead == null) {
            return false;
        }
        now = ahead.now;
        people = ahead.people;
        vessels = ahead.vessels;
        list = ahead.list;
        listThen = ahead.listThen;
        asked = new ArrayList<>();
        ahead = null;
        return true;
    }

    int list(int k) {
        return k >= 0 && k < list.size() ? list.get(k) : -1;
    }

    int asked(int i, int what) {
        return i >= 0 && i < Math.min(300, asked.size()) && what >= 0 && what <= 2 ? asked.get(i)[what] : -1;
    }

    int look(int pilot, int what) {
        Person p = people.get(pilot);
        int[] told = {p.kind, p.length, p.draught, p.where, p.rested, p.turns, p.led, list.indexOf(pilot), p.ship,
            p.willing ? 1 : 0, p.off.size()};
        return told[what];
    }

    int craft(int ship, int what) {
        Vessel v = vessels.get(ship);
        return what < 8 ? v.told[what] : what == 8 ? v.length : v.draught;
    }

    int fair() {
        Map<List<Integer>, List<Integer>> groups = new HashMap<>();
        for (Person p : people) {
            groups.computeIfAbsent(List.of(p.kind, p.length, p.draught, p.off.size()), g -> new ArrayList<>()).add(p.turns);
        }
        int greatest = 0;
        for (List<Integer> turns : groups.values()) {
            turns.sort(Comparator.naturalOrder());
            greatest = Math.max(greatest, turns.get(turns.size() - 1) - turns.get(0));
        }
        return greatest;
    }

    int count(int what) {
        switch (what) {
            case 0: return now;
            case 1: return people.size();
            case 2: return vessels.size();
            case 3: return boats.size();
            case 4: case 5: case 6: case 7: return (int) vessels.stream().filter(v -> v.told[0] == what - 4).count();
            case 8: return people.stream().mapToInt(p -> p.turns).sum();
            case 9: return people.stream().mapToInt(p -> p.led).sum();
            case 10: return list.size();
            case 11: case 12: case 13: return vessels.stream().mapToInt(v -> v.told[what - 6]).sum();
            case 14: return asked.size();
            default: return -1;
        }
    }
}
