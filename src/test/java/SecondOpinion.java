import java.util.ArrayList;
import java.util.List;
import java.util.NoSuchElementException;

/**
 * The document once more, told in the most naive way, with lists and objects and tick by tick: RandomRunsTest asks
 * it and the class the same questions. Nothing of the class under test is used here.
 */
final class SecondOpinion {
    static final int NONE = -1;
    static final String[] WORDS = {"staff", "foot", "horse", "guns", "bakery"};
    static final int[] WEIGHT = {1, 4, 3, 6, 0};
    static final int[] UNLOADING = {2, 3, 6, 9, 4};

    static final class Station {
        int ramps, sidings, engines, foul;
        boolean water;
    }

    static final class Line {
        int near, far, blocks, pace, through;
        boolean twin, open = true;

        int other(int station) {
            return station == near ? far : near;
        }
    }

    static final class Path {
        int start, sector, railhead, unloading, lines, ticks;
        /** For each TICK from START on: where the PATH is (NONE: it stands). */
        List<Integer> line = new ArrayList<>();
        List<Integer> block = new ArrayList<>();
        List<Boolean> forward = new ArrayList<>();

        int arrives() {
            return start + line.size();
        }

        int lineAt(int tick) {
            int k = tick - start;
            return k < 0 || k >= line.size() ? NONE : line.get(k);
        }

        boolean hasRampAt(int tick) {
            return tick > arrives() && tick <= arrives() + unloading;
        }
    }

    static final class Load {
        Unit unit;
        int number;
        boolean supply, ready, gone, unloaded, there;
        int sector = NONE, comes = NONE, sent;
        Path path;

        int kindWeight() {
            return WEIGHT[unit.kind];
        }
    }

    static final class Unit {
        int number, kind, home, sector, state, called = NONE, orderAt = NONE, stopAt = NONE, work;
        Load[] loads;
        int[] aims = new int[4];

        int ready() {
            int n = 0;
            for (Load l : loads) {
                n += l.ready ? 1 : 0;
            }
            return n;
        }

        int gone() {
            int n = 0;
            for (Load l : loads) {
                n += l.gone ? 1 : 0;
            }
            return n;
        }
    }

    static final class Train {
        Load load;
        int number, home, goal, sector, how, where, block = NONE, left, rest, since, arrives, backAt = NONE;
        boolean forward;
    }

    static final class Sector {
        int railhead = NONE, march = 24, foe, ground, store = 20, hungry, wounded, taken, lost, road;
        int[] came = new int[30];
    }

    static final class Coming {
        int sector, day, strength;
    }

    final List<Station> stations = new ArrayList<>();
    final List<Line> lines = new ArrayList<>();
    final List<Unit> units = new ArrayList<>();
    final List<Train> trains = new ArrayList<>();
    final List<Load> supplies = new ArrayList<>();
    final Sector[] sectors = {new Sector(), new Sector(), new Sector()};
    final List<List<Coming>> plans = List.of(new ArrayList<>(), new ArrayList<>(), new ArrayList<>());
    final int[] rumours = new int[3];
    int tick, real, refused;

    private static void place(boolean isGood) {
        if (!isGood) {
            throw new IndexOutOfBoundsException();
        }
    }

    private static void worth(boolean isGood) {
        if (!isGood) {
            throw new IllegalArgumentException();
        }
    }

    private static void time(boolean isGood) {
        if (!isGood) {
            throw new IllegalStateException();
        }
    }

    private static boolean in(int value, int least, int most) {
        return least <= value && value <= most;
    }

    int station(int ramps, int sidings, int engines, boolean isWater) {
        worth(in(ramps, 1, 3) && in(sidings, 0, 5) && in(engines, 0, 9));
        time(stations.size() < 10);
        Station s = new Station();
        s.ramps = ramps;
        s.sidings = sidings;
        s.engines = engines;
        s.water = isWater;
        stations.add(s);
        return stations.size() - 1;
    }

    int line(int near, int far, int blocks, boolean isDouble, int grade) {
        place(in(near, 0, stations.size() - 1) && in(far, 0, stations.size() - 1));
        worth(near != far && in(blocks, 1, 5) && in(grade, 0, 2));
        time(lines.size() < 14);
        Line l = new Line();
        l.near = near;
        l.far = far;
        l.blocks = blocks;
        l.twin = isDouble;
        l.pace = 2 + grade;
        lines.add(l);
        return lines.size() - 1;
    }

    int land(int blocks, int grade) {
        worth(in(blocks, 1, 5) && in(grade, 0, 2));
        time(stations.isEmpty());
        for (int k = 0; k < 6; k++) {
            station(2, 3, 4, k % 2 == 0);
        }
        line(0, 1, 2, true, 0);
        line(1, 2, 2, true, 0);
        line(2, 3, 2, true, 0);
        line(3, 4, 2, true, 0);
        line(4, 5, 2, true, 0);
        line(0, 3, blocks, false, grade);
        line(1, 4, blocks, false, grade);
        line(2, 5, blocks, false, grade);
        return lines.size();
    }

    boolean bridge(int line) {
        place(in(line, 0, lines.size() - 1));
        lines.get(line).open = !lines.get(line).open;
        return lines.get(line).open;
    }

    /** TIME by trying every simple way there is. */
    int timeOf(int from, int goal, List<Integer> seen) {
        if (from == goal) {
            return 0;
        }
        int best = NONE;
        List<Integer> more = new ArrayList<>(seen);
        more.add(from);
        for (Line l : lines) {
            if (l.open && (l.near == from || l.far == from) && !more.contains(l.other(from))) {
                int rest = timeOf(l.other(from), goal, more);
                int all = rest + l.blocks * l.pace;
                if (rest != NONE && (best == NONE || all < best)) {
                    best = all;
                }
            }
        }
        return best;
    }

    int[][] timesNow;
    long timesOf = NONE;

    int timeOf(int from, int goal) {
        long now = stations.size() + 16L * lines.size();
        for (Line l : lines) {
            now = now * 2 + (l.open ? 1 : 0);
        }
        if (now != timesOf) {
            timesNow = new int[10][10];
            for (int a = 0; a < stations.size(); a++) {
                for (int b = 0; b < stations.size(); b++) {
                    timesNow[a][b] = timeOf(a, b, new ArrayList<>());
                }
            }
            timesOf = now;
        }
        return timesNow[from][goal];
    }

    int firstOf(int from, int goal) {
        if (from == goal) {
            return NONE;
        }
        int all = timeOf(from, goal);
        for (int k = 0; k < lines.size() && all != NONE; k++) {
            Line l = lines.get(k);
            if (l.open && (l.near == from || l.far == from)) {
                int rest = timeOf(l.other(from), goal);
                if (rest != NONE && rest + l.blocks * l.pace == all) {
                    return k;
                }
            }
        }
        return NONE;
    }

    /** The LINES of the way; null without one. */
    List<Integer> wayOf(int from, int goal) {
        List<Integer> way = new ArrayList<>();
        int at = from;
        while (at != goal) {
            int line = firstOf(at, goal);
            if (line == NONE) {
                return null;
            }
            way.add(line);
            at = lines.get(line).other(at);
        }
        return way;
    }

    int way(int from, int to, int what) {
        place(in(from, 0, stations.size() - 1) && in(to, 0, stations.size() - 1));
        worth(in(what, 0, 2));
        List<Integer> way = wayOf(from, to);
        if (way == null) {
            return NONE;
        }
        if (what == 0) {
            int sum = 0;
            for (int k : way) {
                sum += lines.get(k).blocks * lines.get(k).pace;
            }
            return sum;
        }
        return what == 2 ? way.size() : way.isEmpty() ? NONE : way.get(0);
    }

    List<Train> at(int station) {
        List<Train> all = new ArrayList<>();
        for (Train t : trains) {
            if ((t.how == 0 || t.how == 2) && t.where == station) {
                all.add(t);
            }
        }
        return all;
    }

    int unloadedAt(int station) {
        int n = 0;
        for (Train t : at(station)) {
            n += t.how == 2 ? 1 : 0;
        }
        return n;
    }

    List<Train> on(int line) {
        List<Train> all = new ArrayList<>();
        for (Train t : trains) {
            if (t.how == 1 && t.where == line) {
                all.add(t);
            }
        }
        return all;
    }

    int ofStation(int station, int what) {
        place(in(station, 0, stations.size() - 1));
        worth(in(what, 0, 5));
        Station s = stations.get(station);
        return new int[] {s.ramps, s.sidings, s.engines, s.water ? 1 : 0, at(station).size(),
            unloadedAt(station)}[what];
    }

    int ofLine(int line, int what) {
        place(in(line, 0, lines.size() - 1));
        worth(in(what, 0, 6));
        Line l = lines.get(line);
        return new int[] {l.near, l.far, l.blocks, l.pace, l.open ? 1 : 0, on(line).size(), l.through}[what];
    }

    int unit(int kind, int loads, int home, int sector) {
        place(in(home, 0, stations.size() - 1) && in(sector, 0, 2));
        worth(in(kind, 0, 4) && in(loads, 1, 8));
        time(units.size() < 6);
        Unit u = new Unit();
        u.number = units.size();
        u.kind = kind;
        u.home = home;
        u.sector = sector;
        u.loads = new Load[loads];
        for (int k = 0; k < loads; k++) {
            u.loads[k] = new Load();
            u.loads[k].unit = u;
            u.loads[k].number = k;
        }
        for (int k = 0; k < 4; k++) {
            u.aims[k] = sector;
        }
        units.add(u);
        return u.number;
    }

    List<Load> loadsWithPaths() {
        List<Load> all = new ArrayList<>();
        for (Unit u : units) {
            for (Load l : u.loads) {
                if (l.path != null) {
                    all.add(l);
                }
            }
        }
        for (Load l : supplies) {
            if (l.path != null) {
                all.add(l);
            }
        }
        return all;
    }

    int railhead(int sector, int station, int march) {
        place(in(sector, 0, 2) && in(station, 0, stations.size() - 1));
        worth(in(march, 6, 144));
        for (Load l : loadsWithPaths()) {
            time(l.path.sector != sector);
        }
        for (Train t : trains) {
            time(t.how == 3 || t.sector != sector);
        }
        int before = sectors[sector].railhead;
        sectors[sector].railhead = station;
        sectors[sector].march = march;
        return before;
    }

    int wire(int station) {
        List<Integer> way = wayOf(0, station);
        return tick + (way == null ? 30 : way.isEmpty() ? 1 : 3 * way.size());
    }

    int order(int set) {
        worth(set >= 0);
        for (int k = 0; k < 31; k++) {
            worth((set & (1 << k)) == 0 || k < units.size());
        }
        time(!stations.isEmpty());
        int n = 0;
        for (Unit u : units) {
            if ((set & (1 << u.number)) != 0 && u.state == 0) {
                u.state = 1;
                u.orderAt = wire(u.home);
                n++;
            }
        }
        return n;
    }

    int stop(int unit) {
        place(in(unit, 0, units.size() - 1));
        Unit u = units.get(unit);
        time(u.state == 1 || u.state == 2);
        time(u.stopAt == NONE);
        u.stopAt = wire(u.home);
        return u.stopAt;
    }

    int ofUnit(int unit, int what) {
        place(in(unit, 0, units.size() - 1));
        worth(in(what, 0, 12));
        Unit u = units.get(unit);
        int unloaded = 0;
        int there = 0;
        int last = NONE;
        int kept = 0;
        for (Load l : u.loads) {
            unloaded += l.unloaded ? 1 : 0;
            there += l.there ? 1 : 0;
            last = l.path != null ? l.path.arrives() : last;
            kept += l.path != null ? 1 : 0;
        }
        int still = u.state == 2 ? Math.max(0, 36 - (tick - u.called)) : NONE;
        return new int[] {u.kind, u.loads.length, u.home, u.sector, u.state, u.called, u.ready(), u.gone(), unloaded,
            there, last, kept, still}[what];
    }

    // ==== paths

    Path lay(int home, int sector, int unloading) {
        List<Integer> way = sectors[sector].railhead == NONE ? null : wayOf(home, sectors[sector].railhead);
        if (way == null) {
            return null;
        }
        Path p = new Path();
        p.sector = sector;
        p.railhead = sectors[sector].railhead;
        p.unloading = unloading;
        p.lines = way.size();
        int at = home;
        for (int k : way) {
            Line l = lines.get(k);
            if (!p.line.isEmpty()) {
                step(p, NONE, NONE, false);
            }
            boolean forward = l.near == at;
            for (int b = 0; b < l.blocks; b++) {
                for (int t = 0; t < l.pace; t++) {
                    step(p, k, forward ? b : l.blocks - 1 - b, forward);
                }
            }
            at = l.other(at);
        }
        return p;
    }

    static void step(Path p, int line, int block, boolean forward) {
        p.line.add(line);
        p.block.add(block);
        p.forward.add(forward);
    }

    boolean foulsOn(Path p, int line, List<Path> kept) {
        for (int k = 0; k < p.line.size(); k++) {
            if (p.line.get(k) != line) {
                continue;
            }
            int now = p.start + k;
            for (Path q : kept) {
                if (q == p || q.lineAt(now) != line) {
                    continue;
                }
                int j = now - q.start;
                boolean same = q.forward.get(j).equals(p.forward.get(k));
                boolean oneBlock = q.block.get(j).equals(p.block.get(k));
                boolean twin = lines.get(line).twin;
                if (twin ? same && oneBlock : oneBlock || !same) {
                    return true;
                }
            }
        }
        return false;
    }

    int firstFouled(Path p, List<Path> kept) {
        int before = NONE;
        for (int line : p.line) {
            if (line != NONE && line != before && foulsOn(p, line, kept)) {
                return line;
            }
            before = line;
        }
        return NONE;
    }

    boolean foulsRamps(Path p, List<Path> kept) {
        for (int t = p.arrives(); t <= p.arrives() + p.unloading + 1; t++) {
            int n = p.hasRampAt(t) ? 1 : 0;
            for (Path q : kept) {
                n += q != p && q.railhead == p.railhead && q.hasRampAt(t) ? 1 : 0;
            }
            if (p.hasRampAt(t) && n > stations.get(p.railhead).ramps) {
                return true;
            }
        }
        return false;
    }

    /** Looks for a START, and keeps the PATH in the list. */
    int look(Path p, List<Path> kept, int from, int last) {
        if (p == null) {
            return -2;
        }
        for (int start = from; start <= last; start++) {
            p.start = start;
            if (firstFouled(p, kept) == NONE && !foulsRamps(p, kept)) {
                kept.add(p);
                return start;
            }
        }
        p.start = last;
        int line = firstFouled(p, kept);
        return line == NONE ? -3 : -10 - line;
    }

    List<Path> keptBut(List<Load> without) {
        List<Path> all = new ArrayList<>();
        for (Load l : loadsWithPaths()) {
            if (!without.contains(l)) {
                all.add(l.path);
            }
        }
        return all;
    }

    static List<Load> waiting(Unit u) {
        List<Load> all = new ArrayList<>();
        for (Load l : u.loads) {
            if (!l.gone) {
                all.add(l);
            }
        }
        return all;
    }

    /** PLANS a UNIT: what was found is put behind the list. */
    int planAll(Unit u, int sector, int from, List<Path> kept, List<Path> found) {
        int start = from - 1;
        for (Load l : waiting(u)) {
            Path p = lay(u.home, sector, UNLOADING[u.kind]);
            start = look(p, kept, start + 1, from + 288);
            if (start < 0) {
                return start;
            }
            found.add(p);
        }
        return start;
    }

    int plan(int unit, int from) {
        place(in(unit, 0, units.size() - 1));
        worth(in(from, tick, 2880));
        Unit u = units.get(unit);
        for (Load l : waiting(u)) {
            time(l.path == null);
        }
        time(u.state != 3 && !waiting(u).isEmpty() && sectors[u.sector].railhead != NONE);
        List<Path> found = new ArrayList<>();
        int answer = planAll(u, u.sector, from, keptBut(List.of()), found);
        if (answer >= 0) {
            for (Load l : waiting(u)) {
                l.path = found.remove(0);
            }
        }
        return answer;
    }

    int drop(int unit) {
        place(in(unit, 0, units.size() - 1));
        int n = 0;
        for (Load l : waiting(units.get(unit))) {
            n += l.path != null ? 1 : 0;
            l.path = null;
        }
        return n;
    }

    int path(int unit, int load, int what) {
        place(in(unit, 0, units.size() - 1));
        place(in(load, 0, units.get(unit).loads.length - 1));
        worth(in(what, 0, 2));
        Path p = units.get(unit).loads[load].path;
        return p == null ? NONE : new int[] {p.start, p.arrives(), p.lines}[what];
    }

    int could(int unit, int from) {
        place(in(unit, 0, units.size() - 1));
        worth(in(from, tick, 2880));
        Unit u = units.get(unit);
        time(u.state != 3 && !waiting(u).isEmpty() && sectors[u.sector].railhead != NONE);
        return planAll(u, u.sector, from, keptBut(waiting(u)), new ArrayList<>());
    }

    int planned(int line, int at) {
        place(in(line, 0, lines.size() - 1));
        int n = 0;
        for (Load l : loadsWithPaths()) {
            n += at >= 0 && l.path.lineAt(at) == line ? 1 : 0;
        }
        return n;
    }

    int aim(int variant, int unit, int sector) {
        place(in(variant, 0, 3) && in(unit, 0, units.size() - 1) && in(sector, 0, 2));
        int before = units.get(unit).aims[variant];
        units.get(unit).aims[variant] = sector;
        return before;
    }

    List<Unit> changing(int variant) {
        List<Unit> all = new ArrayList<>();
        for (Unit u : units) {
            if (u.state != 3 && !waiting(u).isEmpty() && u.sector != u.aims[variant]) {
                all.add(u);
            }
        }
        return all;
    }

    int changeTo(int variant, boolean isDone) {
        List<Load> dropped = new ArrayList<>();
        for (Unit u : changing(variant)) {
            dropped.addAll(waiting(u));
        }
        List<Path> kept = keptBut(dropped);
        List<Path> found = new ArrayList<>();
        for (Unit u : changing(variant)) {
            int answer = planAll(u, u.aims[variant], tick + 36, kept, found);
            if (answer < 0) {
                return answer;
            }
        }
        int n = found.size();
        if (isDone) {
            for (Load l : dropped) {
                l.path = found.remove(0);
                l.unit.sector = l.unit.aims[variant];
            }
        }
        return n;
    }

    int change(int variant) {
        place(in(variant, 0, 3));
        time(tick <= 2808);
        return changeTo(variant, true);
    }

    int variant(int variant, int what) {
        place(in(variant, 0, 3));
        worth(in(what, 0, 3));
        time(tick <= 2808);
        int gone = 0;
        List<Load> dropped = new ArrayList<>();
        for (Unit u : changing(variant)) {
            gone += u.gone();
            dropped.addAll(waiting(u));
        }
        if (what == 0) {
            return changeTo(variant, false);
        }
        return what == 1 ? changing(variant).size() : what == 2 ? gone : keptBut(dropped).size();
    }

    // ==== trains

    int late(Train t) {
        return t.how == 3 || tick < t.arrives ? 0 : tick - t.arrives;
    }

    int box(int train, int ticks) {
        place(in(train, 0, trains.size() - 1));
        worth(in(ticks, 1, 72));
        Train t = trains.get(train);
        time(t.how < 2);
        if (t.how == 1) {
            t.left += ticks;
        } else {
            t.rest += ticks;
        }
        return late(t);
    }

    int foul(int station, int ticks) {
        place(in(station, 0, stations.size() - 1));
        worth(in(ticks, 0, 144));
        int before = stations.get(station).foul;
        stations.get(station).foul = ticks;
        return before;
    }

    int ofTrain(int train, int what) {
        place(in(train, 0, trains.size() - 1));
        worth(in(what, 0, 9));
        Train t = trains.get(train);
        return new int[] {t.load.supply ? NONE : t.load.unit.number, t.load.supply ? t.sector : t.load.number, t.how,
            t.how == 3 ? NONE : t.where, t.how == 1 ? t.block : NONE, t.left, t.rest, late(t), t.since,
            t.goal}[what];
    }

    boolean blockFree(int line, int block, boolean forward) {
        for (Train t : on(line)) {
            if (t.block == block && (!lines.get(line).twin || t.forward == forward)) {
                return false;
            }
        }
        return true;
    }

    boolean lineFree(int line, boolean forward) {
        for (Train t : on(line)) {
            if (!lines.get(line).twin && t.forward != forward) {
                return false;
            }
        }
        return true;
    }

    int waits(int train) {
        place(in(train, 0, trains.size() - 1));
        Train t = trains.get(train);
        if (t.how >= 2 || (t.how == 1 && t.left > 1)) {
            return 0;
        }
        if (t.how == 0) {
            if (t.rest > 0) {
                return 1;
            }
            Station here = stations.get(t.where);
            if (t.where == t.goal) {
                return unloadedAt(t.where) < here.ramps ? 0 : 4;
            }
            int line = firstOf(t.where, t.goal);
            if (here.foul > 0) {
                return 5;
            }
            if (line == NONE) {
                return 6;
            }
            boolean forward = lines.get(line).near == t.where;
            int block = forward ? 0 : lines.get(line).blocks - 1;
            return blockFree(line, block, forward) && lineFree(line, forward) ? 0 : 2;
        }
        Line l = lines.get(t.where);
        int next = t.forward ? t.block + 1 : t.block - 1;
        if (in(next, 0, l.blocks - 1)) {
            return blockFree(t.where, next, t.forward) ? 0 : 2;
        }
        int end = t.forward ? l.far : l.near;
        if (stations.get(end).foul > 0) {
            return 5;
        }
        return at(end).size() < stations.get(end).ramps + stations.get(end).sidings ? 0 : 3;
    }

    void enter(Train t, int line, int block, boolean forward) {
        int pace = lines.get(line).pace;
        t.left = t.since >= 12 ? 2 * pace : pace;
        t.since++;
        t.how = 1;
        t.where = line;
        t.block = block;
        t.forward = forward;
    }

    void move(Train t) {
        if (t.how == 2) {
            t.left--;
            if (t.left == 0) {
                done(t);
            }
            return;
        }
        if (t.how == 0 && t.rest > 0) {
            t.rest--;
            return;
        }
        if (t.how == 1 && t.left > 0) {
            t.left--;
        }
        if ((t.how == 1 && t.left > 0) || waits(t.number) != 0) {
            return;
        }
        if (t.how == 0 && t.where == t.goal) {
            t.how = 2;
            t.left = t.load.supply ? 3 : UNLOADING[t.load.unit.kind];
        } else if (t.how == 0) {
            int line = firstOf(t.where, t.goal);
            boolean forward = lines.get(line).near == t.where;
            enter(t, line, forward ? 0 : lines.get(line).blocks - 1, forward);
        } else {
            Line l = lines.get(t.where);
            int next = t.forward ? t.block + 1 : t.block - 1;
            if (in(next, 0, l.blocks - 1)) {
                enter(t, t.where, next, t.forward);
            } else {
                l.through++;
                t.how = 0;
                t.where = t.forward ? l.far : l.near;
                t.block = NONE;
                if (stations.get(t.where).water && t.since >= 4) {
                    t.rest = 2;
                    t.since = 0;
                }
            }
        }
    }

    void done(Train t) {
        t.how = 3;
        t.load.path = null;
        Sector s = sectors[t.sector];
        int home = Math.min(6, s.wounded);
        s.wounded -= home;
        s.taken += home;
        if (t.load.supply) {
            s.store = Math.min(999, s.store + 24);
            supplies.remove(t.load);
        } else {
            t.load.unloaded = true;
            t.load.sector = t.sector;
            int begins = tick > s.road ? tick : s.road;
            s.road = begins + 4;
            t.load.comes = begins + s.march;
        }
        int time = timeOf(t.goal, t.home);
        if (time <= 0) {
            stations.get(t.home).engines++;
        } else {
            t.backAt = tick + 2 * time;
        }
    }

    // ==== stores, the foe

    int supply(int sector, int from) {
        place(in(sector, 0, 2));
        worth(in(from, tick, 2880));
        time(sectors[sector].railhead != NONE && supplies.size() < 6);
        Path p = lay(0, sector, 3);
        int answer = look(p, keptBut(List.of()), from, from + 288);
        if (answer >= 0) {
            Load l = new Load();
            l.supply = true;
            l.sector = sector;
            l.path = p;
            supplies.add(l);
        }
        return answer;
    }

    int day() {
        return tick / 144;
    }

    int foe(int plan, int sector, int day, int strength) {
        place(in(plan, 0, 2) && in(sector, 0, 2));
        worth(day > day() && day <= 20 && in(strength, 1, 60));
        time(plans.get(plan).size() < 6);
        Coming c = new Coming();
        c.sector = sector;
        c.day = day;
        c.strength = strength;
        plans.get(plan).add(c);
        return plans.get(plan).size();
    }

    int has(int plan, int sector, int day) {
        int sum = 0;
        for (Coming c : plans.get(plan)) {
            sum += c.sector == sector && c.day == day ? c.strength : 0;
        }
        return sum;
    }

    List<Load> loadsAt(int sector) {
        List<Load> all = new ArrayList<>();
        for (Unit u : units) {
            for (Load l : u.loads) {
                if (l.there && l.sector == sector) {
                    all.add(l);
                }
            }
        }
        return all;
    }

    int weightAt(int sector) {
        int sum = 0;
        for (Load l : loadsAt(sector)) {
            sum += l.kindWeight();
        }
        return sum;
    }

    int ofSector(int sector, int what) {
        place(in(sector, 0, 2));
        worth(in(what, 0, 12));
        Sector s = sectors[sector];
        int seen = 0;
        for (int d = 0; d <= day() - 2; d++) {
            seen += s.came[d];
        }
        return new int[] {s.railhead, s.march, loadsAt(sector).size(), weightAt(sector), s.foe, seen, s.ground,
            s.store, s.hungry, s.wounded, s.taken, s.lost, s.road}[what];
    }

    int forecast(int sector, int day) {
        place(in(sector, 0, 2));
        worth(in(day, 0, 21));
        int sum = weightAt(sector);
        for (Unit u : units) {
            for (Load l : u.loads) {
                boolean marches = l.unloaded && !l.there && l.sector == sector && l.comes <= 144 * day;
                boolean due = l.path != null && l.path.sector == sector
                        && l.path.arrives() + 1 + UNLOADING[u.kind] + sectors[sector].march <= 144 * day;
                sum += marches || due ? l.kindWeight() : 0;
            }
        }
        return sum;
    }

    int real(int plan) {
        place(in(plan, 0, 2));
        int before = real;
        real = plan;
        return before;
    }

    int rumour(int plan) {
        place(in(plan, 0, 2));
        return ++rumours[plan];
    }

    int guess() {
        int best = NONE;
        for (int p = 2; p >= 0; p--) {
            boolean possible = true;
            for (int d = 1; d <= day() - 2; d++) {
                for (int s = 0; s < 3; s++) {
                    possible &= has(p, s, d) == sectors[s].came[d];
                }
            }
            if (possible && (best == NONE || rumours[p] >= rumours[best])) {
                best = p;
            }
        }
        return best;
    }

    int balance(int sector, int day) {
        int all = forecast(sector, day);
        for (int d = 0; d <= day && guess() != NONE; d++) {
            all -= has(guess(), sector, d);
        }
        return all;
    }

    // ==== time

    int pass(int ticks) {
        worth(in(ticks, 1, 144));
        time(tick + ticks <= 2880);
        for (int k = 0; k < ticks; k++) {
            next();
        }
        return tick;
    }

    void next() {
        tick++;
        for (Station s : stations) {
            s.foul = Math.max(0, s.foul - 1);
        }
        for (Unit u : units) {
            if (u.orderAt == tick) {
                u.orderAt = NONE;
                if (u.state == 1) {
                    u.state = 2;
                    u.called = tick;
                }
            }
        }
        for (Unit u : units) {
            if (u.stopAt == tick) {
                u.stopAt = NONE;
                if (u.state == 1 || (u.state == 2 && tick - u.called < 36)) {
                    u.state = 3;
                    drop(u.number);
                }
            }
        }
        for (Train t : trains) {
            if (t.backAt == tick) {
                stations.get(t.home).engines++;
            }
        }
        for (Unit u : units) {
            for (Load l : u.loads) {
                l.there |= l.unloaded && l.comes <= tick;
            }
        }
        if (tick % 144 == 0) {
            dawn();
        }
        for (int s = 0; s < stations.size(); s++) {
            work(s);
        }
        for (Unit u : units) {
            while (go(u)) {
                continue;
            }
        }
        for (Load l : supplies) {
            if (!l.gone) {
                go(l, 0);
            }
        }
        List<Train> all = new ArrayList<>();
        for (Train t : trains) {
            if (t.how != 3) {
                all.add(t);
            }
        }
        all.sort((a, b) -> late(a) != late(b) ? late(b) - late(a) : a.number - b.number);
        for (Train t : all) {
            move(t);
        }
    }

    void dawn() {
        for (int k = 0; k < 3; k++) {
            Sector s = sectors[k];
            s.came[day()] = has(real, k, day());
            if (s.lost == 1) {
                continue;
            }
            s.foe += s.came[day()];
            int eat = 0;
            for (Load l : loadsAt(k)) {
                if (l.unit.kind == 4) {
                    s.store = Math.min(999, s.store + 3);
                } else {
                    eat++;
                }
            }
            s.hungry = s.store < eat ? 1 : 0;
            s.store = s.hungry == 1 ? 0 : s.store - eat;
            int own = s.hungry == 1 ? weightAt(k) / 2 : weightAt(k);
            int foe = s.foe;
            if (own > foe && s.ground < 5) {
                s.ground++;
            }
            if (own < foe && s.ground > -5) {
                s.ground--;
            }
            s.foe -= Math.min(foe, own / 8);
            s.wounded += Math.min(own, foe / 8);
            s.lost = s.ground == -5 ? 1 : 0;
        }
    }

    void work(int station) {
        Unit best = null;
        for (Unit u : units) {
            boolean has = u.home == station && u.state == 2 && u.ready() < u.loads.length;
            if (has && (best == null || u.called < best.called)) {
                best = u;
            }
        }
        if (best != null) {
            best.work++;
            if (best.work == (best.kind == 2 || best.kind == 3 ? 9 : 6)) {
                best.work = 0;
                best.loads[best.ready()].ready = true;
            }
        }
    }

    boolean go(Unit u) {
        for (Load l : u.loads) {
            if (!l.gone) {
                return u.state == 2 && l.ready && go(l, u.home);
            }
        }
        return false;
    }

    boolean go(Load l, int home) {
        if (l.path == null || l.path.start > tick || stations.get(home).engines == 0 || trains.size() == 60) {
            return false;
        }
        stations.get(home).engines--;
        Train t = new Train();
        t.number = trains.size();
        t.load = l;
        t.home = home;
        t.where = home;
        t.goal = l.path.railhead;
        t.sector = l.path.sector;
        t.arrives = l.path.arrives();
        l.gone = true;
        trains.add(t);
        return true;
    }

    int many(int what) {
        worth(in(what, 0, 12));
        int done = 0;
        int latest = 0;
        for (Train t : trains) {
            done += t.how == 3 ? 1 : 0;
            latest = Math.max(latest, late(t));
        }
        int unloaded = 0;
        int wires = 0;
        for (Unit u : units) {
            unloaded += ofUnit(u.number, 8);
            wires += (u.orderAt != NONE ? 1 : 0) + (u.stopAt != NONE ? 1 : 0);
        }
        int told = plans.get(0).size() + plans.get(1).size() + plans.get(2).size();
        return new int[] {tick, day(), stations.size(), lines.size(), units.size(), trains.size(), done,
            loadsWithPaths().size(), supplies.size(), unloaded, latest, wires, told}[what];
    }

    boolean isSound() {
        for (Train a : trains) {
            for (Train b : trains) {
                if (a != b && a.how == 1 && b.how == 1 && a.where == b.where) {
                    boolean twin = lines.get(a.where).twin;
                    boolean same = a.forward == b.forward;
                    if ((same && a.block == b.block) || (!twin && !same)) {
                        return false;
                    }
                }
            }
        }
        for (int s = 0; s < stations.size(); s++) {
            int guests = 0;
            for (Train t : at(s)) {
                guests += t.home != s ? 1 : 0;
            }
            if (guests > stations.get(s).ramps + stations.get(s).sidings || unloadedAt(s) > stations.get(s).ramps) {
                return false;
            }
        }
        List<Path> kept = keptBut(List.of());
        for (Path p : kept) {
            if (firstFouled(p, kept) != NONE) {
                return false;
            }
        }
        for (Unit u : units) {
            if (ofUnit(u.number, 9) > ofUnit(u.number, 8) || ofUnit(u.number, 8) > u.gone() || u.gone() > u.ready()) {
                return false;
            }
        }
        return true;
    }

    int key() {
        return ++refused;
    }

    String tell(int train) {
        place(in(train, 0, trains.size() - 1));
        Train t = trains.get(train);
        String name = t.load.supply ? "supply " + t.sector
                : WORDS[t.load.unit.kind] + " " + t.load.unit.number + "/" + t.load.number;
        String where;
        if (t.how == 0) {
            where = "at " + t.where;
        } else if (t.how == 1) {
            where = "on " + t.where + "." + t.block;
        } else if (t.how == 2) {
            where = "unloads at " + t.where;
        } else if (t.how == 3) {
            where = "done";
        } else {
            throw new NoSuchElementException();
        }
        return train + " " + name + " " + where;
    }

    long digest() {
        long d = 58259;
        for (int k = 0; k <= 12; k++) {
            d = d * 31 + many(k);
        }
        for (int s = 0; s < stations.size(); s++) {
            for (int k = 0; k <= 5; k++) {
                d = d * 31 + ofStation(s, k);
            }
        }
        for (int l = 0; l < lines.size(); l++) {
            for (int k = 0; k <= 6; k++) {
                d = d * 31 + ofLine(l, k);
            }
        }
        for (Unit u : units) {
            for (int k = 0; k <= 12; k++) {
                d = d * 31 + ofUnit(u.number, k);
            }
            for (Load l : u.loads) {
                for (int k = 0; k <= 2; k++) {
                    d = d * 31 + path(u.number, l.number, k);
                }
            }
        }
        for (Train t : trains) {
            for (int k = 0; k <= 9; k++) {
                d = d * 31 + ofTrain(t.number, k);
            }
            d = d * 31 + waits(t.number);
        }
        for (int s = 0; s < 3; s++) {
            for (int k = 0; k <= 12; k++) {
                d = d * 31 + ofSector(s, k);
            }
            d = d * 31 + forecast(s, 13);
        }
        d = d * 31 + guess();
        return d * 31 + (isSound() ? 1 : 0);
    }
}
