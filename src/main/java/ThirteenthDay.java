/**
 * An army that goes to war by timetable: ../shared/DOC.md says what each call answers.
 *
 * <p>The public methods look at their arguments and throw; all that stands behind them is total, so that
 * neither a question nor a TICK can fail half way.
 */
public final class ThirteenthDay {
    private static final int NONE = -1;
    private static final int TICKS_OF_DAY = 144;
    private static final int LAST_TICK = 2880;
    private static final int LAST_TICK_TO_CHANGE = 2808;
    private static final int TICKS_TO_CHANGE = 36;
    private static final int TICKS_TO_STOP = 36;
    private static final int TICKS_TO_SEARCH = 288;
    private static final int NO_WAY = -2;
    private static final int SECTORS = 3;
    private static final int VARIANTS = 4;
    private static final int FORECAST_OF_DIGEST = 13;

    private final Land land = new Land();
    private final Units units = new Units();
    private final Paths paths = new Paths();
    /** PATHS are looked for in this copy, so that a search that fails leaves nothing behind. */
    private final Paths trial = new Paths();
    private final Trains trains = new Trains();
    private final Supplies supplies = new Supplies();
    private final Sectors sectors = new Sectors();
    private final Foes foes = new Foes();
    private final Table aims = new Table(VARIANTS, Units.MOST);
    private int tick = 0;
    private int refused = 0;

    public ThirteenthDay() {
    }

    // ==== 1. stations and lines

    public int station(int ramps, int sidings, int engines, boolean isWater)
            throws IllegalArgumentException, IllegalStateException {
        if (ramps < 1 || ramps > 3) {
            throw new IllegalArgumentException("ramps is not 1 to 3");
        }
        if (sidings < 0 || sidings > 5) {
            throw new IllegalArgumentException("sidings is not 0 to 5");
        }
        if (engines < 0 || engines > 9) {
            throw new IllegalArgumentException("engines is not 0 to 9");
        }
        if (land.countStations() >= Land.MOST_STATIONS) {
            throw new IllegalStateException("there are 10 STATIONS");
        }
        return land.addStation(ramps, sidings, engines, isWater);
    }

    public int line(int near, int far, int blocks, boolean isDouble, int grade)
            throws IndexOutOfBoundsException, IllegalArgumentException, IllegalStateException {
        if (!land.hasStation(near) || !land.hasStation(far)) {
            throw new IndexOutOfBoundsException("no such STATION");
        }
        if (near == far) {
            throw new IllegalArgumentException("both STATIONS are the same");
        }
        if (isNoTrack(blocks, grade)) {
            throw new IllegalArgumentException("blocks is not 1 to 5, or grade not 0 to 2");
        }
        if (land.countLines() >= Land.MOST_LINES) {
            throw new IllegalStateException("there are 14 LINES");
        }
        return land.addLine(near, far, blocks, isDouble, grade);
    }

    public int land(int blocks, int grade) throws IllegalArgumentException, IllegalStateException {
        if (isNoTrack(blocks, grade)) {
            throw new IllegalArgumentException("blocks is not 1 to 5, or grade not 0 to 2");
        }
        if (land.countStations() > 0) {
            throw new IllegalStateException("there is a STATION");
        }
        land.addWhole(blocks, grade);
        return land.countLines();
    }

    public boolean bridge(int line) throws IndexOutOfBoundsException {
        if (!land.hasLine(line)) {
            throw new IndexOutOfBoundsException("no such LINE");
        }
        return land.turnBridge(line);
    }

    public int way(int from, int to, int what) throws IndexOutOfBoundsException, IllegalArgumentException {
        if (!land.hasStation(from) || !land.hasStation(to)) {
            throw new IndexOutOfBoundsException("no such STATION");
        }
        if (what < 0 || what > 2) {
            throw new IllegalArgumentException("what is not 0 to 2");
        }
        if (what == 0) {
            return land.timeOf(from, to);
        }
        return what == 1 ? land.firstOf(from, to) : land.linesOf(from, to);
    }

    public int ofStation(int station, int what) throws IndexOutOfBoundsException, IllegalArgumentException {
        if (!land.hasStation(station)) {
            throw new IndexOutOfBoundsException("no such STATION");
        }
        if (what < 0 || what > 5) {
            throw new IllegalArgumentException("what is not 0 to 5");
        }
        return stationFact(station, what);
    }

    public int ofLine(int line, int what) throws IndexOutOfBoundsException, IllegalArgumentException {
        if (!land.hasLine(line)) {
            throw new IndexOutOfBoundsException("no such LINE");
        }
        if (what < 0 || what > 6) {
            throw new IllegalArgumentException("what is not 0 to 6");
        }
        return lineFact(line, what);
    }

    // ==== 2. units, sectors and depots

    public int unit(int kind, int loads, int home, int sector)
            throws IndexOutOfBoundsException, IllegalArgumentException, IllegalStateException {
        if (!land.hasStation(home)) {
            throw new IndexOutOfBoundsException("no such STATION");
        }
        if (isNoSector(sector)) {
            throw new IndexOutOfBoundsException("sector is not 0 to 2");
        }
        if (kind < 0 || kind > 4) {
            throw new IllegalArgumentException("kind is not 0 to 4");
        }
        if (loads < 1 || loads > Units.MOST_LOADS) {
            throw new IllegalArgumentException("loads is not 1 to 8");
        }
        if (units.count() >= Units.MOST) {
            throw new IllegalStateException("there are 6 UNITS");
        }
        int unit = units.add(kind, loads, home, sector);
        for (int variant = 0; variant < VARIANTS; variant++) {
            aims.set(variant, unit, sector);
        }
        return unit;
    }

    public int railhead(int sector, int station, int march)
            throws IndexOutOfBoundsException, IllegalArgumentException, IllegalStateException {
        if (isNoSector(sector)) {
            throw new IndexOutOfBoundsException("sector is not 0 to 2");
        }
        if (!land.hasStation(station)) {
            throw new IndexOutOfBoundsException("no such STATION");
        }
        if (march < 6 || march > 144) {
            throw new IllegalArgumentException("march is not 6 to 144");
        }
        if (paths.hasFor(sector) || trains.hasFor(sector)) {
            throw new IllegalStateException("a PATH or a TRAIN for this SECTOR is on its way");
        }
        int before = sectors.get(sector, Sectors.RAILHEAD);
        sectors.set(sector, Sectors.RAILHEAD, station);
        sectors.set(sector, Sectors.MARCH, march);
        return before;
    }

    public int order(int set) throws IllegalArgumentException, IllegalStateException {
        if (set < 0 || (set >> units.count()) != 0) {
            throw new IllegalArgumentException("set is less than 0, or has a UNIT that there is not");
        }
        if (land.countStations() == 0) {
            throw new IllegalStateException("there is no STATION");
        }
        int ordered = 0;
        for (int unit = 0; unit < units.count(); unit++) {
            if (((set >> unit) & 1) == 1 && units.get(unit, Units.STATE) == Units.PEACE) {
                units.set(unit, Units.STATE, Units.ORDERED);
                units.set(unit, Units.ORDER_AT, tick + wireTicks(unit));
                ordered++;
            }
        }
        return ordered;
    }

    public int stop(int unit) throws IndexOutOfBoundsException, IllegalStateException {
        if (!units.has(unit)) {
            throw new IndexOutOfBoundsException("no such UNIT");
        }
        int state = units.get(unit, Units.STATE);
        if (state == Units.PEACE || state == Units.STOPPED) {
            throw new IllegalStateException("the UNIT is at PEACE or STOPPED");
        }
        if (units.get(unit, Units.STOP_AT) != NONE) {
            throw new IllegalStateException("a wire to STOP the UNIT is on its way");
        }
        int there = tick + wireTicks(unit);
        units.set(unit, Units.STOP_AT, there);
        return there;
    }

    public int ofUnit(int unit, int what) throws IndexOutOfBoundsException, IllegalArgumentException {
        if (!units.has(unit)) {
            throw new IndexOutOfBoundsException("no such UNIT");
        }
        if (what < 0 || what > 12) {
            throw new IllegalArgumentException("what is not 0 to 12");
        }
        return unitFact(unit, what);
    }

    // ==== 3. paths

    public int plan(int unit, int tick)
            throws IndexOutOfBoundsException, IllegalArgumentException, IllegalStateException {
        if (!units.has(unit)) {
            throw new IndexOutOfBoundsException("no such UNIT");
        }
        if (isNoTickToPlan(tick)) {
            throw new IllegalArgumentException("tick is less than TICK, or above 2880");
        }
        if (countWaitingPaths(unit) > 0) {
            throw new IllegalStateException("a LOAD that has not gone has a PATH");
        }
        if (isNotPlannable(unit)) {
            throw new IllegalStateException("the UNIT is STOPPED, gone, or without a RAILHEAD");
        }
        trial.copyFrom(paths);
        int answer = planUnit(unit, units.get(unit, Units.SECTOR), tick);
        if (answer >= 0) {
            paths.copyFrom(trial);
        }
        return answer;
    }

    public int drop(int unit) throws IndexOutOfBoundsException {
        if (!units.has(unit)) {
            throw new IndexOutOfBoundsException("no such UNIT");
        }
        return dropWaiting(paths, unit);
    }

    public int path(int unit, int load, int what) throws IndexOutOfBoundsException, IllegalArgumentException {
        if (!units.has(unit)) {
            throw new IndexOutOfBoundsException("no such UNIT");
        }
        if (load < 0 || load >= units.get(unit, Units.LOADS)) {
            throw new IndexOutOfBoundsException("no such LOAD");
        }
        if (what < 0 || what > 2) {
            throw new IllegalArgumentException("what is not 0 to 2");
        }
        return pathFact(Paths.slotOf(unit, load), what);
    }

    public int could(int unit, int tick)
            throws IndexOutOfBoundsException, IllegalArgumentException, IllegalStateException {
        if (!units.has(unit)) {
            throw new IndexOutOfBoundsException("no such UNIT");
        }
        if (isNoTickToPlan(tick)) {
            throw new IllegalArgumentException("tick is less than TICK, or above 2880");
        }
        if (isNotPlannable(unit)) {
            throw new IllegalStateException("the UNIT is STOPPED, gone, or without a RAILHEAD");
        }
        trial.copyFrom(paths);
        dropWaiting(trial, unit);
        return planUnit(unit, units.get(unit, Units.SECTOR), tick);
    }

    public int planned(int line, int tick) throws IndexOutOfBoundsException {
        if (!land.hasLine(line)) {
            throw new IndexOutOfBoundsException("no such LINE");
        }
        return paths.countOn(line, tick);
    }

    public int aim(int variant, int unit, int sector) throws IndexOutOfBoundsException {
        if (variant < 0 || variant >= VARIANTS) {
            throw new IndexOutOfBoundsException("variant is not 0 to 3");
        }
        if (!units.has(unit)) {
            throw new IndexOutOfBoundsException("no such UNIT");
        }
        if (isNoSector(sector)) {
            throw new IndexOutOfBoundsException("sector is not 0 to 2");
        }
        int before = aims.get(variant, unit);
        aims.set(variant, unit, sector);
        return before;
    }

    public int change(int variant) throws IndexOutOfBoundsException, IllegalStateException {
        if (variant < 0 || variant >= VARIANTS) {
            throw new IndexOutOfBoundsException("variant is not 0 to 3");
        }
        if (tick > LAST_TICK_TO_CHANGE) {
            throw new IllegalStateException("TICK is above 2808");
        }
        int answer = tryChange(variant);
        if (answer >= 0) {
            paths.copyFrom(trial);
            takeAims(variant);
        }
        return answer;
    }

    public int variant(int variant, int what)
            throws IndexOutOfBoundsException, IllegalArgumentException, IllegalStateException {
        if (variant < 0 || variant >= VARIANTS) {
            throw new IndexOutOfBoundsException("variant is not 0 to 3");
        }
        if (what < 0 || what > 3) {
            throw new IllegalArgumentException("what is not 0 to 3");
        }
        if (tick > LAST_TICK_TO_CHANGE) {
            throw new IllegalStateException("TICK is above 2808");
        }
        return what == 0 ? tryChange(variant) : variantFact(variant, what);
    }

    // ==== 4. trains

    public int box(int train, int ticks)
            throws IndexOutOfBoundsException, IllegalArgumentException, IllegalStateException {
        if (!trains.has(train)) {
            throw new IndexOutOfBoundsException("no such TRAIN");
        }
        if (ticks < 1 || ticks > 72) {
            throw new IllegalArgumentException("ticks is not 1 to 72");
        }
        int how = trains.get(train, Trains.HOW);
        if (how != Trains.STANDS && how != Trains.RUNS) {
            throw new IllegalStateException("the TRAIN is unloaded now, or DONE");
        }
        trains.add(train, how == Trains.RUNS ? Trains.LEFT : Trains.REST, ticks);
        return trains.lateOf(train, tick);
    }

    public int foul(int station, int ticks) throws IndexOutOfBoundsException, IllegalArgumentException {
        if (!land.hasStation(station)) {
            throw new IndexOutOfBoundsException("no such STATION");
        }
        if (ticks < 0 || ticks > 144) {
            throw new IllegalArgumentException("ticks is not 0 to 144");
        }
        int before = land.getStation(station, Land.FOUL);
        land.setStation(station, Land.FOUL, ticks);
        return before;
    }

    public int ofTrain(int train, int what) throws IndexOutOfBoundsException, IllegalArgumentException {
        if (!trains.has(train)) {
            throw new IndexOutOfBoundsException("no such TRAIN");
        }
        if (what < 0 || what > 9) {
            throw new IllegalArgumentException("what is not 0 to 9");
        }
        return trainFact(train, what);
    }

    public int waits(int train) throws IndexOutOfBoundsException {
        if (!trains.has(train)) {
            throw new IndexOutOfBoundsException("no such TRAIN");
        }
        return trains.waitOf(train, land);
    }

    // ==== 5, 6. stores and fights

    public int supply(int sector, int tick)
            throws IndexOutOfBoundsException, IllegalArgumentException, IllegalStateException {
        if (isNoSector(sector)) {
            throw new IndexOutOfBoundsException("sector is not 0 to 2");
        }
        if (isNoTickToPlan(tick)) {
            throw new IllegalArgumentException("tick is less than TICK, or above 2880");
        }
        if (sectors.get(sector, Sectors.RAILHEAD) == NONE) {
            throw new IllegalStateException("the SECTOR has no RAILHEAD");
        }
        int row = supplies.freeRow();
        if (row == NONE) {
            throw new IllegalStateException("there are 6 SUPPLIES that are not DONE");
        }
        int slot = Paths.slotOfSupply(row);
        trial.copyFrom(paths);
        trial.describe(slot, sector, sectors.get(sector, Sectors.RAILHEAD), Supplies.UNLOADING);
        boolean isWay = trial.lay(slot, Supplies.HOME, land);
        int answer = isWay ? trial.findStart(slot, tick, tick + TICKS_TO_SEARCH) : NO_WAY;
        if (answer >= 0) {
            paths.copyFrom(trial);
            supplies.send(row, sector);
        }
        return answer;
    }

    public int foe(int plan, int sector, int day, int strength)
            throws IndexOutOfBoundsException, IllegalArgumentException, IllegalStateException {
        if (isNoFoePlan(plan)) {
            throw new IndexOutOfBoundsException("plan is not 0 to 2");
        }
        if (isNoSector(sector)) {
            throw new IndexOutOfBoundsException("sector is not 0 to 2");
        }
        if (day <= day() || day > 20) {
            throw new IllegalArgumentException("day is not above DAY, or above 20");
        }
        if (strength < 1 || strength > 60) {
            throw new IllegalArgumentException("strength is not 1 to 60");
        }
        if (foes.countOf(plan) >= Foes.MOST) {
            throw new IllegalStateException("there are 6 of that PLAN");
        }
        return foes.add(plan, sector, day, strength);
    }

    public int ofSector(int sector, int what) throws IndexOutOfBoundsException, IllegalArgumentException {
        if (isNoSector(sector)) {
            throw new IndexOutOfBoundsException("sector is not 0 to 2");
        }
        if (what < 0 || what > 12) {
            throw new IllegalArgumentException("what is not 0 to 12");
        }
        return sectorFact(sector, what);
    }

    public int forecast(int sector, int day) throws IndexOutOfBoundsException, IllegalArgumentException {
        if (isNoSector(sector)) {
            throw new IndexOutOfBoundsException("sector is not 0 to 2");
        }
        if (day < 0 || day > 21) {
            throw new IllegalArgumentException("day is not 0 to 21");
        }
        return weightBy(sector, day);
    }

    public int real(int plan) throws IndexOutOfBoundsException {
        if (isNoFoePlan(plan)) {
            throw new IndexOutOfBoundsException("plan is not 0 to 2");
        }
        return foes.carryOut(plan);
    }

    public int rumour(int plan) throws IndexOutOfBoundsException {
        if (isNoFoePlan(plan)) {
            throw new IndexOutOfBoundsException("plan is not 0 to 2");
        }
        return foes.addRumour(plan);
    }

    public int guess() {
        return foes.guessOn(day());
    }

    public int balance(int sector, int day) throws IndexOutOfBoundsException, IllegalArgumentException {
        if (isNoSector(sector)) {
            throw new IndexOutOfBoundsException("sector is not 0 to 2");
        }
        if (day < 0 || day > 21) {
            throw new IllegalArgumentException("day is not 0 to 21");
        }
        return weightBy(sector, day) - foes.toldUpTo(foes.guessOn(day()), sector, day);
    }

    // ==== 7. time

    public int pass(int ticks) throws IllegalArgumentException, IllegalStateException {
        if (ticks < 1 || ticks > 144) {
            throw new IllegalArgumentException("ticks is not 1 to 144");
        }
        if (tick + ticks > LAST_TICK) {
            throw new IllegalStateException("TICK would be above 2880");
        }
        for (int k = 0; k < ticks; k++) {
            nextTick();
        }
        return tick;
    }

    public int many(int what) throws IllegalArgumentException {
        if (what < 0 || what > 12) {
            throw new IllegalArgumentException("what is not 0 to 12");
        }
        return manyFact(what);
    }

    public boolean isSound() {
        return isWholeSound();
    }

    public int key() {
        refused++;
        return refused;
    }

    public String tell(int train) throws IndexOutOfBoundsException {
        if (!trains.has(train)) {
            throw new IndexOutOfBoundsException("no such TRAIN");
        }
        StringBuilder text = new StringBuilder();
        text.append(train).append(' ');
        appendName(text, train);
        appendPlace(text, train);
        return text.toString();
    }

    public long digest() {
        long d = 58259L;
        for (int what = 0; what <= 12; what++) {
            d = d * 31 + manyFact(what);
        }
        d = digestLand(d);
        d = digestUnits(d);
        d = digestTrains(d);
        d = digestSectors(d);
        d = d * 31 + foes.guessOn(day());
        return d * 31 + (isWholeSound() ? 1 : 0);
    }

    // ---- what arguments may be

    private static boolean isNoTrack(int blocks, int grade) {
        return blocks < 1 || blocks > 5 || grade < 0 || grade > 2;
    }

    private static boolean isNoSector(int sector) {
        return sector < 0 || sector >= SECTORS;
    }

    private static boolean isNoFoePlan(int plan) {
        return plan < 0 || plan >= Foes.PLANS;
    }

    private boolean isNoTickToPlan(int from) {
        return from < tick || from > LAST_TICK;
    }

    private boolean isNotPlannable(int unit) {
        return units.get(unit, Units.STATE) == Units.STOPPED
                || units.get(unit, Units.GONE) >= units.get(unit, Units.LOADS)
                || sectors.get(units.get(unit, Units.SECTOR), Sectors.RAILHEAD) == NONE;
    }

    private int day() {
        return tick / TICKS_OF_DAY;
    }

    // ---- facts that are asked

    private int stationFact(int station, int what) {
        if (what == 4) {
            return trains.countAt(station);
        }
        return what == 5 ? trains.countUnloadingAt(station) : land.getStation(station, what);
    }

    private int lineFact(int line, int what) {
        return what == 5 ? trains.countOn(line) : land.getLine(line, what);
    }

    private int unitFact(int unit, int what) {
        if (what < 10) {
            return units.get(unit, what);
        }
        if (what == 12) {
            return units.ticksToStop(unit, tick);
        }
        int kept = 0;
        int arrives = NONE;
        for (int load = 0; load < units.get(unit, Units.LOADS); load++) {
            int slot = Paths.slotOf(unit, load);
            if (paths.isKept(slot)) {
                kept++;
                arrives = paths.arrivesOf(slot);
            }
        }
        return what == 10 ? arrives : kept;
    }

    private int pathFact(int slot, int what) {
        if (!paths.isKept(slot)) {
            return NONE;
        }
        if (what == 0) {
            return paths.get(slot, Paths.START);
        }
        return what == 1 ? paths.arrivesOf(slot) : paths.get(slot, Paths.LINES);
    }

    private int trainFact(int train, int what) {
        return what == 7 ? trains.lateOf(train, tick) : trains.get(train, what);
    }

    private int sectorFact(int sector, int what) {
        if (what == 2) {
            return units.countAt(sector, false);
        }
        if (what == 3) {
            return units.weightAt(sector);
        }
        return what == 5 ? foes.seenOf(sector, day()) : sectors.get(sector, what);
    }

    private int manyFact(int what) {
        switch (what) {
            case 0:
                return tick;
            case 1:
                return day();
            case 2:
                return land.countStations();
            case 3:
                return land.countLines();
            case 4:
                return units.count();
            case 5:
                return trains.count();
            case 6:
                return trains.countDone();
            case 7:
                return paths.countKept();
            case 8:
                return supplies.count();
            case 9:
                return units.sumOf(Units.UNLOADED);
            case 10:
                return trains.greatestLate(tick);
            case 11:
                return units.countWires();
            default:
                return foes.count();
        }
    }

    /** The WEIGHT that would be at a SECTOR as a DAY begins (promise 29). */
    private int weightBy(int sector, int day) {
        int limit = day * TICKS_OF_DAY;
        int march = sectors.get(sector, Sectors.MARCH);
        int sum = 0;
        for (int unit = 0; unit < units.count(); unit++) {
            int weight = Units.weightOf(units.get(unit, Units.KIND));
            for (int load = 0; load < units.get(unit, Units.LOADS); load++) {
                int slot = Paths.slotOf(unit, load);
                boolean isThere = units.isAtBy(slot, sector, limit)
                        || paths.isDueAt(slot, sector, limit - march);
                sum += isThere ? weight : 0;
            }
        }
        return sum;
    }

    // ---- wires

    private int wireTicks(int unit) {
        int lines = land.linesOf(0, units.get(unit, Units.HOME));
        if (lines == NONE) {
            return 30;
        }
        return lines == 0 ? 1 : 3 * lines;
    }

    private void bringStops() {
        for (int unit = 0; unit < units.count(); unit++) {
            if (units.takeStop(unit, tick)) {
                dropWaiting(paths, unit);
            }
        }
    }

    // ---- planning

    private int countWaitingPaths(int unit) {
        int count = 0;
        for (int load = units.get(unit, Units.GONE); load < units.get(unit, Units.LOADS); load++) {
            count += paths.isKept(Paths.slotOf(unit, load)) ? 1 : 0;
        }
        return count;
    }

    private int dropWaiting(Paths book, int unit) {
        int dropped = 0;
        for (int load = units.get(unit, Units.GONE); load < units.get(unit, Units.LOADS); load++) {
            dropped += book.takeOut(Paths.slotOf(unit, load)) ? 1 : 0;
        }
        return dropped;
    }

    /** PLANS a UNIT in the trial book, which is of no use when the answer is below 0. */
    private int planUnit(int unit, int sector, int from) {
        int home = units.get(unit, Units.HOME);
        int railhead = sectors.get(sector, Sectors.RAILHEAD);
        int unloading = Units.unloadingOf(units.get(unit, Units.KIND));
        int answer = from - 1;
        for (int load = units.get(unit, Units.GONE); load < units.get(unit, Units.LOADS); load++) {
            int slot = Paths.slotOf(unit, load);
            trial.describe(slot, sector, railhead, unloading);
            boolean isWay = trial.lay(slot, home, land);
            answer = isWay ? trial.findStart(slot, answer + 1, from + TICKS_TO_SEARCH) : NO_WAY;
            if (answer < 0) {
                return answer;
            }
        }
        return answer;
    }

    private boolean isToChange(int variant, int unit) {
        return units.get(unit, Units.STATE) != Units.STOPPED
                && units.get(unit, Units.GONE) < units.get(unit, Units.LOADS)
                && units.get(unit, Units.SECTOR) != aims.get(variant, unit);
    }

    /** CHANGES to a VARIANT in the trial book alone. */
    private int tryChange(int variant) {
        trial.copyFrom(paths);
        for (int unit = 0; unit < units.count(); unit++) {
            if (isToChange(variant, unit)) {
                dropWaiting(trial, unit);
            }
        }
        int changed = 0;
        for (int unit = 0; unit < units.count(); unit++) {
            if (isToChange(variant, unit)) {
                int answer = planUnit(unit, aims.get(variant, unit), tick + TICKS_TO_CHANGE);
                if (answer < 0) {
                    return answer;
                }
                changed += units.get(unit, Units.LOADS) - units.get(unit, Units.GONE);
            }
        }
        return changed;
    }

    private void takeAims(int variant) {
        for (int unit = 0; unit < units.count(); unit++) {
            if (isToChange(variant, unit)) {
                units.set(unit, Units.SECTOR, aims.get(variant, unit));
            }
        }
    }

    private int variantFact(int variant, int what) {
        int changing = 0;
        int gone = 0;
        int dropped = 0;
        for (int unit = 0; unit < units.count(); unit++) {
            if (isToChange(variant, unit)) {
                changing++;
                gone += units.get(unit, Units.GONE);
                dropped += countWaitingPaths(unit);
            }
        }
        if (what == 1) {
            return changing;
        }
        return what == 2 ? gone : paths.countKept() - dropped;
    }

    // ---- what comes with a TICK

    private void nextTick() {
        tick++;
        land.clearFoul();
        units.takeOrders(tick);
        bringStops();
        bringEngines();
        units.come(tick);
        if (tick % TICKS_OF_DAY == 0) {
            beginDay();
        }
        for (int station = 0; station < land.countStations(); station++) {
            units.workAt(station);
        }
        sendLoads();
        sendSupplies();
        int moving = trains.lineUp(tick);
        for (int place = 0; place < moving; place++) {
            int train = trains.inPlace(place);
            int wait = trains.waitOf(train, land);
            if (trains.move(train, wait, land)) {
                finish(train);
            }
        }
    }

    private void bringEngines() {
        for (int train = 0; train < trains.count(); train++) {
            if (trains.get(train, Trains.ENGINE_BACK) == tick) {
                land.addEngines(trains.get(train, Trains.HOME), 1);
                trains.set(train, Trains.ENGINE_BACK, NONE);
            }
        }
    }

    private void beginDay() {
        for (int sector = 0; sector < SECTORS; sector++) {
            int coming = foes.come(sector, day());
            if (sectors.get(sector, Sectors.LOST) == 0) {
                int bakers = units.countAt(sector, true);
                int eaters = units.countAt(sector, false) - bakers;
                sectors.add(sector, Sectors.FOE, coming);
                sectors.feed(sector, bakers, eaters);
                sectors.fight(sector, units.weightAt(sector));
            }
        }
    }

    private void sendLoads() {
        for (int unit = 0; unit < units.count(); unit++) {
            int home = units.get(unit, Units.HOME);
            for (int load = units.get(unit, Units.GONE); load < units.get(unit, Units.READY); load++) {
                int slot = Paths.slotOf(unit, load);
                if (units.get(unit, Units.STATE) != Units.CALLED || !canGo(slot, home)) {
                    break;
                }
                depart(unit, load, slot, home);
                units.leave(unit, slot, paths.get(slot, Paths.SECTOR));
            }
        }
    }

    private void sendSupplies() {
        int row = supplies.nextBehind(0);
        for (int k = 0; k < Supplies.MOST && row != NONE; k++) {
            int slot = Paths.slotOfSupply(row);
            int sent = supplies.get(row, Supplies.SENT);
            if (canGo(slot, Supplies.HOME)) {
                depart(NONE, supplies.get(row, Supplies.SECTOR), slot, Supplies.HOME);
                supplies.leave(row);
            }
            row = supplies.nextBehind(sent);
        }
    }

    private boolean canGo(int slot, int home) {
        return paths.isKept(slot) && paths.get(slot, Paths.START) <= tick
                && land.getStation(home, Land.ENGINES) > 0 && trains.count() < Trains.MOST;
    }

    private void depart(int unit, int load, int slot, int home) {
        int train = trains.stand(unit, load, home);
        trains.set(train, Trains.SLOT, slot);
        trains.set(train, Trains.GOAL, paths.get(slot, Paths.RAILHEAD));
        trains.set(train, Trains.SECTOR, paths.get(slot, Paths.SECTOR));
        trains.set(train, Trains.UNLOADING, paths.get(slot, Paths.UNLOADING));
        trains.set(train, Trains.ARRIVES, paths.arrivesOf(slot));
        land.addEngines(home, -1);
    }

    /** What a TRAIN leaves behind as it is DONE. */
    private void finish(int train) {
        int sector = trains.get(train, Trains.SECTOR);
        int slot = trains.get(train, Trains.SLOT);
        int unit = trains.get(train, Trains.UNIT);
        paths.takeOut(slot);
        sectors.takeHome(sector);
        if (unit == NONE) {
            sectors.store(sector, Supplies.BRINGS);
            supplies.free(Paths.supplyOf(slot));
        } else {
            units.march(unit, slot, sectors.takeRoad(sector, tick));
        }
        returnEngine(train);
    }

    private void returnEngine(int train) {
        int home = trains.get(train, Trains.HOME);
        int time = land.timeOf(trains.get(train, Trains.GOAL), home);
        if (time > 0) {
            trains.set(train, Trains.ENGINE_BACK, tick + 2 * time);
        } else {
            land.addEngines(home, 1);
        }
    }

    // ---- soundness

    private boolean isWholeSound() {
        return trains.areApart(land) && areStationsSound() && paths.areApart() && units.areSound();
    }

    private boolean areStationsSound() {
        for (int station = 0; station < land.countStations(); station++) {
            int ramps = land.getStation(station, Land.RAMPS);
            int room = ramps + land.getStation(station, Land.SIDINGS);
            if (trains.countGuestsAt(station) > room || trains.countUnloadingAt(station) > ramps) {
                return false;
            }
        }
        return true;
    }

    // ---- texts

    private void appendName(StringBuilder text, int train) {
        int unit = trains.get(train, Trains.UNIT);
        if (unit == NONE) {
            text.append("supply ").append(trains.get(train, Trains.LOAD));
        } else {
            text.append(Units.wordOf(units.get(unit, Units.KIND))).append(' ');
            text.append(unit).append('/').append(trains.get(train, Trains.LOAD));
        }
    }

    private void appendPlace(StringBuilder text, int train) {
        int where = trains.get(train, Trains.WHERE);
        switch (trains.get(train, Trains.HOW)) {
            case Trains.STANDS:
                text.append(" at ").append(where);
                break;
            case Trains.RUNS:
                text.append(" on ").append(where).append('.').append(trains.get(train, Trains.BLOCK));
                break;
            case Trains.UNLOADS:
                text.append(" unloads at ").append(where);
                break;
            default:
                text.append(" done");
                break;
        }
    }

    // ---- the checksum

    private long digestLand(long before) {
        long d = before;
        for (int station = 0; station < land.countStations(); station++) {
            for (int what = 0; what <= 5; what++) {
                d = d * 31 + stationFact(station, what);
            }
        }
        for (int line = 0; line < land.countLines(); line++) {
            for (int what = 0; what <= 6; what++) {
                d = d * 31 + lineFact(line, what);
            }
        }
        return d;
    }

    private long digestUnits(long before) {
        long d = before;
        for (int unit = 0; unit < units.count(); unit++) {
            for (int what = 0; what <= 12; what++) {
                d = d * 31 + unitFact(unit, what);
            }
            for (int load = 0; load < units.get(unit, Units.LOADS); load++) {
                for (int what = 0; what <= 2; what++) {
                    d = d * 31 + pathFact(Paths.slotOf(unit, load), what);
                }
            }
        }
        return d;
    }

    private long digestTrains(long before) {
        long d = before;
        for (int train = 0; train < trains.count(); train++) {
            for (int what = 0; what <= 9; what++) {
                d = d * 31 + trainFact(train, what);
            }
            d = d * 31 + trains.waitOf(train, land);
        }
        return d;
    }

    private long digestSectors(long before) {
        long d = before;
        for (int sector = 0; sector < SECTORS; sector++) {
            for (int what = 0; what <= 12; what++) {
                d = d * 31 + sectorFact(sector, what);
            }
            d = d * 31 + weightBy(sector, FORECAST_OF_DIGEST);
        }
        return d;
    }

    /** Rows and columns of numbers: outside of them there is 0, and nothing is kept there, so no index is ever wrong. */
    private static final class Table {
        private final int[] cells;
        private final int width;

        Table(int rows, int columns) {
            int size = rows * columns;
            width = columns;
            cells = new int[size > 0 ? size : 0];
        }

        int get(int row, int column) {
            int at = row * width + column;
            boolean isInside = row >= 0 && column >= 0 && column < width && at >= 0 && at < cells.length;
            return isInside ? cells[at] : 0;
        }

        void set(int row, int column, int value) {
            int at = row * width + column;
            if (row >= 0 && column >= 0 && column < width && at >= 0 && at < cells.length) {
                cells[at] = value;
            }
        }

        void add(int row, int column, int more) {
            int at = row * width + column;
            if (row >= 0 && column >= 0 && column < width && at >= 0 && at < cells.length) {
                cells[at] += more;
            }
        }

        void fill(int value) {
            for (int at = 0; at < cells.length; at++) {
                cells[at] = value;
            }
        }

        void copyFrom(Table other) {
            for (int at = 0; at < cells.length && at < other.cells.length; at++) {
                cells[at] = other.cells[at];
            }
        }
    }

    /** STATIONS and LINES, and the ways of now between all of them. */
    private static final class Land {
        static final int MOST_STATIONS = 10;
        static final int MOST_LINES = 14;
        static final int RAMPS = 0;
        static final int SIDINGS = 1;
        static final int ENGINES = 2;
        static final int WATER = 3;
        static final int FOUL = 4;
        static final int NEAR = 0;
        static final int FAR = 1;
        static final int BLOCKS = 2;
        static final int PACE = 3;
        static final int OPEN = 4;
        static final int DOUBLE = 5;
        static final int THROUGH = 6;
        static final int TICKS = 7;

        private final Table stations = new Table(MOST_STATIONS, 5);
        private final Table lines = new Table(MOST_LINES, 8);
        /** From row to column: TIME and first LINE of the way, NONE without one. */
        private final Table times = new Table(MOST_STATIONS, MOST_STATIONS);
        private final Table firsts = new Table(MOST_STATIONS, MOST_STATIONS);
        private int stationCount = 0;
        private int lineCount = 0;

        int countStations() {
            return stationCount;
        }

        int countLines() {
            return lineCount;
        }

        boolean hasStation(int station) {
            return station >= 0 && station < stationCount;
        }

        boolean hasLine(int line) {
            return line >= 0 && line < lineCount;
        }

        int getStation(int station, int column) {
            return stations.get(station, column);
        }

        void setStation(int station, int column, int value) {
            stations.set(station, column, value);
        }

        int getLine(int line, int column) {
            return lines.get(line, column);
        }

        int addStation(int ramps, int sidings, int engines, boolean isWater) {
            int station = stationCount;
            stations.set(station, RAMPS, ramps);
            stations.set(station, SIDINGS, sidings);
            stations.set(station, ENGINES, engines);
            stations.set(station, WATER, isWater ? 1 : 0);
            stationCount++;
            findWays();
            return station;
        }

        int addLine(int near, int far, int blocks, boolean isDouble, int grade) {
            int line = lineCount;
            lines.set(line, NEAR, near);
            lines.set(line, FAR, far);
            lines.set(line, BLOCKS, blocks);
            lines.set(line, PACE, 2 + grade);
            lines.set(line, TICKS, blocks * (2 + grade));
            lines.set(line, OPEN, 1);
            lines.set(line, DOUBLE, isDouble ? 1 : 0);
            lineCount++;
            findWays();
            return line;
        }

        void addWhole(int blocks, int grade) {
            for (int station = 0; station < 6; station++) {
                addStation(2, 3, 4, station % 2 == 0);
            }
            for (int near = 0; near < 5; near++) {
                addLine(near, near + 1, 2, true, 0);
            }
            for (int near = 0; near < 3; near++) {
                addLine(near, near + 3, blocks, false, grade);
            }
        }

        boolean turnBridge(int line) {
            boolean isOpen = lines.get(line, OPEN) == 0;
            lines.set(line, OPEN, isOpen ? 1 : 0);
            findWays();
            return isOpen;
        }

        void addEngines(int station, int more) {
            stations.add(station, ENGINES, more);
        }

        void addThrough(int line) {
            lines.add(line, THROUGH, 1);
        }

        void clearFoul() {
            for (int station = 0; station < stationCount; station++) {
                if (stations.get(station, FOUL) > 0) {
                    stations.add(station, FOUL, -1);
                }
            }
        }

        boolean isDouble(int line) {
            return lines.get(line, DOUBLE) == 1;
        }

        /** The STATION at which one is behind a LINE. */
        int endOf(int line, boolean isForward) {
            return lines.get(line, isForward ? FAR : NEAR);
        }

        int timeOf(int from, int goal) {
            return times.get(from, goal);
        }

        int firstOf(int from, int goal) {
            return firsts.get(from, goal);
        }

        int linesOf(int from, int goal) {
            if (times.get(from, goal) == NONE) {
                return NONE;
            }
            int count = 0;
            int at = from;
            for (int k = 0; k < MOST_STATIONS && at != goal; k++) {
                int line = firsts.get(at, goal);
                at = endOf(line, lines.get(line, NEAR) == at);
                count++;
            }
            return count;
        }

        private void findWays() {
            times.fill(NONE);
            firsts.fill(NONE);
            for (int goal = 0; goal < stationCount; goal++) {
                times.set(goal, goal, 0);
                for (int round = 1; round < stationCount; round++) {
                    for (int line = 0; line < lineCount; line++) {
                        shorten(line, NEAR, FAR, goal);
                        shorten(line, FAR, NEAR, goal);
                    }
                }
                findFirsts(goal);
            }
        }

        /** Takes a LINE from one of its ends to the other, if the way to the goal is shorter by that. */
        private void shorten(int line, int fromEnd, int toEnd, int goal) {
            int behind = times.get(lines.get(line, toEnd), goal);
            if (lines.get(line, OPEN) == 1 && behind != NONE) {
                int from = lines.get(line, fromEnd);
                int time = lines.get(line, TICKS) + behind;
                int before = times.get(from, goal);
                times.set(from, goal, before == NONE ? time : Math.min(time, before));
            }
        }

        /** From the last LINE to the first one, so that of several ones the smallest number stays. */
        private void findFirsts(int goal) {
            for (int line = lineCount - 1; line >= 0; line--) {
                noteFirst(line, NEAR, FAR, goal);
                noteFirst(line, FAR, NEAR, goal);
            }
        }

        private void noteFirst(int line, int fromEnd, int toEnd, int goal) {
            int from = lines.get(line, fromEnd);
            int behind = times.get(lines.get(line, toEnd), goal);
            boolean isWay = lines.get(line, OPEN) == 1 && behind != NONE
                    && times.get(from, goal) == lines.get(line, TICKS) + behind;
            if (isWay) {
                firsts.set(from, goal, line);
            }
        }
    }

    /** UNITS with their LOADS, which are kept by the same slots as their PATHS. */
    private static final class Units {
        static final int MOST = 6;
        static final int MOST_LOADS = 8;
        static final int KIND = 0;
        static final int LOADS = 1;
        static final int HOME = 2;
        static final int SECTOR = 3;
        static final int STATE = 4;
        static final int CALLED_AT = 5;
        static final int READY = 6;
        static final int GONE = 7;
        static final int UNLOADED = 8;
        static final int ARRIVED = 9;
        static final int ORDER_AT = 10;
        static final int STOP_AT = 11;
        static final int WORK = 12;
        static final int PEACE = 0;
        static final int ORDERED = 1;
        static final int CALLED = 2;
        static final int STOPPED = 3;

        private static final int STAGE = 0;
        private static final int AIM = 1;
        private static final int COMES = 2;
        private static final int MARCHING = 1;
        private static final int THERE = 2;
        private static final int BAKERY = 4;
        private static final int[] WEIGHTS = {1, 4, 3, 6, 0};
        private static final int[] UNLOADINGS = {2, 3, 6, 9, 4};
        private static final int[] WORKS = {6, 6, 9, 9, 6};

        private final Table units = new Table(MOST, 13);
        private final Table loads = new Table(MOST * MOST_LOADS, 3);
        private int unitCount = 0;

        static int weightOf(int kind) {
            return kind >= 0 && kind < WEIGHTS.length ? WEIGHTS[kind] : 0;
        }

        static int unloadingOf(int kind) {
            return kind >= 0 && kind < UNLOADINGS.length ? UNLOADINGS[kind] : 0;
        }

        static int workOf(int kind) {
            return kind >= 0 && kind < WORKS.length ? WORKS[kind] : 0;
        }

        static String wordOf(int kind) {
            switch (kind) {
                case 0:
                    return "staff";
                case 1:
                    return "foot";
                case 2:
                    return "horse";
                case 3:
                    return "guns";
                default:
                    return "bakery";
            }
        }

        int count() {
            return unitCount;
        }

        boolean has(int unit) {
            return unit >= 0 && unit < unitCount;
        }

        int get(int unit, int column) {
            return units.get(unit, column);
        }

        void set(int unit, int column, int value) {
            units.set(unit, column, value);
        }

        int add(int kind, int loadCount, int home, int sector) {
            int unit = unitCount;
            units.set(unit, KIND, kind);
            units.set(unit, LOADS, loadCount);
            units.set(unit, HOME, home);
            units.set(unit, SECTOR, sector);
            units.set(unit, CALLED_AT, NONE);
            units.set(unit, ORDER_AT, NONE);
            units.set(unit, STOP_AT, NONE);
            unitCount++;
            return unit;
        }

        int sumOf(int column) {
            int sum = 0;
            for (int unit = 0; unit < unitCount; unit++) {
                sum += units.get(unit, column);
            }
            return sum;
        }

        int countWires() {
            int count = 0;
            for (int unit = 0; unit < unitCount; unit++) {
                count += units.get(unit, ORDER_AT) == NONE ? 0 : 1;
                count += units.get(unit, STOP_AT) == NONE ? 0 : 1;
            }
            return count;
        }

        int ticksToStop(int unit, int tick) {
            if (units.get(unit, STATE) != CALLED) {
                return NONE;
            }
            return Math.max(0, TICKS_TO_STOP - (tick - units.get(unit, CALLED_AT)));
        }

        void takeOrders(int tick) {
            for (int unit = 0; unit < unitCount; unit++) {
                if (units.get(unit, ORDER_AT) == tick) {
                    units.set(unit, ORDER_AT, NONE);
                    if (units.get(unit, STATE) == ORDERED) {
                        units.set(unit, STATE, CALLED);
                        units.set(unit, CALLED_AT, tick);
                    }
                }
            }
        }

        /** Whether a UNIT is STOPPED by a wire that is there at this TICK. */
        boolean takeStop(int unit, int tick) {
            if (units.get(unit, STOP_AT) != tick) {
                return false;
            }
            units.set(unit, STOP_AT, NONE);
            boolean isStopped = units.get(unit, STATE) == ORDERED || ticksToStop(unit, tick) > 0;
            if (isStopped) {
                units.set(unit, STATE, STOPPED);
            }
            return isStopped;
        }

        /** One TICK of work of the DEPOT of a STATION. */
        void workAt(int station) {
            int unit = nextOf(station);
            if (unit == NONE) {
                return;
            }
            units.add(unit, WORK, 1);
            if (units.get(unit, WORK) >= workOf(units.get(unit, KIND))) {
                units.set(unit, WORK, 0);
                units.add(unit, READY, 1);
            }
        }

        private int nextOf(int station) {
            int next = NONE;
            for (int unit = 0; unit < unitCount; unit++) {
                boolean isWaiting = units.get(unit, HOME) == station && units.get(unit, STATE) == CALLED
                        && units.get(unit, READY) < units.get(unit, LOADS);
                if (isWaiting && (next == NONE || units.get(unit, CALLED_AT) < units.get(next, CALLED_AT))) {
                    next = unit;
                }
            }
            return next;
        }

        void leave(int unit, int slot, int sector) {
            loads.set(slot, AIM, sector);
            units.add(unit, GONE, 1);
        }

        void march(int unit, int slot, int comes) {
            loads.set(slot, STAGE, MARCHING);
            loads.set(slot, COMES, comes);
            units.add(unit, UNLOADED, 1);
        }

        void come(int tick) {
            for (int unit = 0; unit < unitCount; unit++) {
                for (int load = 0; load < units.get(unit, LOADS); load++) {
                    int slot = Paths.slotOf(unit, load);
                    if (loads.get(slot, STAGE) == MARCHING && loads.get(slot, COMES) <= tick) {
                        loads.set(slot, STAGE, THERE);
                        units.add(unit, ARRIVED, 1);
                    }
                }
            }
        }

        /** Whether a LOAD is at a SECTOR, or MARCHES to it and comes by a TICK. */
        boolean isAtBy(int slot, int sector, int limit) {
            int stage = loads.get(slot, STAGE);
            return loads.get(slot, AIM) == sector
                    && (stage == THERE || (stage == MARCHING && loads.get(slot, COMES) <= limit));
        }

        int countAt(int sector, boolean isOnlyBakery) {
            int count = 0;
            for (int unit = 0; unit < unitCount; unit++) {
                if (!isOnlyBakery || units.get(unit, KIND) == BAKERY) {
                    count += countLoadsAt(unit, sector);
                }
            }
            return count;
        }

        int weightAt(int sector) {
            int sum = 0;
            for (int unit = 0; unit < unitCount; unit++) {
                sum += countLoadsAt(unit, sector) * weightOf(units.get(unit, KIND));
            }
            return sum;
        }

        private int countLoadsAt(int unit, int sector) {
            int count = 0;
            for (int load = 0; load < units.get(unit, LOADS); load++) {
                int slot = Paths.slotOf(unit, load);
                boolean isThere = loads.get(slot, STAGE) == THERE && loads.get(slot, AIM) == sector;
                count += isThere ? 1 : 0;
            }
            return count;
        }

        boolean areSound() {
            for (int unit = 0; unit < unitCount; unit++) {
                boolean isSoundUnit = units.get(unit, ARRIVED) <= units.get(unit, UNLOADED)
                        && units.get(unit, UNLOADED) <= units.get(unit, GONE)
                        && units.get(unit, GONE) <= units.get(unit, READY);
                if (!isSoundUnit) {
                    return false;
                }
            }
            return true;
        }
    }

    /** The book of all PATHS that are kept: a slot for each LOAD of each UNIT, and behind these for each SUPPLY. */
    private static final class Paths {
        static final int START = 0;
        static final int LINES = 1;
        static final int SECTOR = 2;
        static final int RAILHEAD = 3;
        static final int UNLOADING = 4;

        private static final int SPAN = 5;
        private static final int RAMPS = 6;
        private static final int OFF = -1;
        private static final int PACE = 0;
        private static final int TICKS = 1;
        private static final int DOUBLE = 2;
        private static final int LOAD_SLOTS = Units.MOST * Units.MOST_LOADS;
        private static final int SLOTS = LOAD_SLOTS + Supplies.MOST;
        private static final int FOULED_LINE = -10;
        private static final int FOULED_NO_LINE = -3;

        private final Table facts = new Table(SLOTS, 7);
        /** The LINES of each PATH one behind the other, as far as LINES tells. */
        private final Table steps = new Table(SLOTS, Land.MOST_LINES);
        /** For each LINE how many TICKS behind its START a PATH is on it; OFF, if it never is. */
        private final Table offsets = new Table(SLOTS, Land.MOST_LINES);
        private final Table forwards = new Table(SLOTS, Land.MOST_LINES);
        /** What of the LINES decides over FOULING, noted as a PATH is laid over them. */
        private final Table tracks = new Table(Land.MOST_LINES, 3);

        Paths() {
            for (int slot = 0; slot < SLOTS; slot++) {
                facts.set(slot, START, NONE);
            }
        }

        static int slotOf(int unit, int load) {
            return unit * Units.MOST_LOADS + load;
        }

        static int slotOfSupply(int row) {
            return LOAD_SLOTS + row;
        }

        static int supplyOf(int slot) {
            return slot - LOAD_SLOTS;
        }

        void copyFrom(Paths other) {
            facts.copyFrom(other.facts);
            steps.copyFrom(other.steps);
            offsets.copyFrom(other.offsets);
            forwards.copyFrom(other.forwards);
            tracks.copyFrom(other.tracks);
        }

        int get(int slot, int column) {
            return facts.get(slot, column);
        }

        boolean isKept(int slot) {
            return facts.get(slot, START) != NONE;
        }

        int arrivesOf(int slot) {
            return facts.get(slot, START) + facts.get(slot, SPAN);
        }

        boolean takeOut(int slot) {
            boolean wasKept = isKept(slot);
            facts.set(slot, START, NONE);
            return wasKept;
        }

        int countKept() {
            int count = 0;
            for (int slot = 0; slot < SLOTS; slot++) {
                count += isKept(slot) ? 1 : 0;
            }
            return count;
        }

        boolean hasFor(int sector) {
            for (int slot = 0; slot < SLOTS; slot++) {
                if (isKept(slot) && facts.get(slot, SECTOR) == sector) {
                    return true;
                }
            }
            return false;
        }

        int countOn(int line, int tick) {
            int ticks = tracks.get(line, TICKS);
            int count = 0;
            for (int slot = 0; slot < SLOTS; slot++) {
                if (isKept(slot) && offsets.get(slot, line) != OFF) {
                    int enters = facts.get(slot, START) + offsets.get(slot, line);
                    count += tick >= enters && tick < enters + ticks ? 1 : 0;
                }
            }
            return count;
        }

        /** Whether the PATH of a LOAD is to a SECTOR, and the LOAD begins to MARCH by a TICK. */
        boolean isDueAt(int slot, int sector, int latest) {
            return isKept(slot) && facts.get(slot, SECTOR) == sector
                    && arrivesOf(slot) + 1 + facts.get(slot, UNLOADING) <= latest;
        }

        void describe(int slot, int sector, int railhead, int unloading) {
            facts.set(slot, SECTOR, sector);
            facts.set(slot, RAILHEAD, railhead);
            facts.set(slot, UNLOADING, unloading);
        }

        /** Lays the way of now from a STATION to the RAILHEAD into a slot, without a START. */
        boolean lay(int slot, int home, Land land) {
            int goal = facts.get(slot, RAILHEAD);
            if (goal == NONE || land.timeOf(home, goal) == NONE) {
                return false;
            }
            for (int line = 0; line < Land.MOST_LINES; line++) {
                offsets.set(slot, line, OFF);
            }
            int lines = land.linesOf(home, goal);
            int at = home;
            int behind = 0;
            for (int step = 0; step < lines; step++) {
                int line = land.firstOf(at, goal);
                boolean isForward = land.getLine(line, Land.NEAR) == at;
                behind += step == 0 ? 0 : 1;
                steps.set(slot, step, line);
                offsets.set(slot, line, behind);
                forwards.set(slot, line, isForward ? 1 : 0);
                noteTrack(line, land);
                behind += land.getLine(line, Land.TICKS);
                at = land.endOf(line, isForward);
            }
            facts.set(slot, LINES, lines);
            facts.set(slot, SPAN, behind);
            facts.set(slot, RAMPS, land.getStation(goal, Land.RAMPS));
            return true;
        }

        private void noteTrack(int line, Land land) {
            tracks.set(line, PACE, land.getLine(line, Land.PACE));
            tracks.set(line, TICKS, land.getLine(line, Land.TICKS));
            tracks.set(line, DOUBLE, land.isDouble(line) ? 1 : 0);
        }

        /** Keeps a PATH that was laid with its first START; without one tells why not, and keeps nothing. */
        int findStart(int slot, int from, int last) {
            for (int start = from; start < last + 1; start++) {
                facts.set(slot, START, start);
                if (firstFouledLine(slot) == NONE && !foulsAtRamps(slot)) {
                    return start;
                }
            }
            facts.set(slot, START, last);
            int line = firstFouledLine(slot);
            facts.set(slot, START, NONE);
            return line == NONE ? FOULED_NO_LINE : FOULED_LINE - line;
        }

        private int firstFouledLine(int slot) {
            for (int step = 0; step < facts.get(slot, LINES); step++) {
                int line = steps.get(slot, step);
                if (foulsOn(slot, line)) {
                    return line;
                }
            }
            return NONE;
        }

        private boolean foulsOn(int slot, int line) {
            int enters = facts.get(slot, START) + offsets.get(slot, line);
            int pace = tracks.get(line, PACE);
            int opposite = tracks.get(line, DOUBLE) == 1 ? 0 : tracks.get(line, TICKS);
            for (int other = 0; other < SLOTS; other++) {
                int start = facts.get(other, START);
                if (start != NONE && other != slot && offsets.get(other, line) != OFF) {
                    boolean isSameWay = forwards.get(other, line) == forwards.get(slot, line);
                    int gap = Math.abs(start + offsets.get(other, line) - enters);
                    if (gap < (isSameWay ? pace : opposite)) {
                        return true;
                    }
                }
            }
            return false;
        }

        private boolean foulsAtRamps(int slot) {
            int first = arrivesOf(slot) + 1;
            for (int tick = first; tick < first + facts.get(slot, UNLOADING); tick++) {
                if (countAtRamps(facts.get(slot, RAILHEAD), tick) > facts.get(slot, RAMPS)) {
                    return true;
                }
            }
            return false;
        }

        private int countAtRamps(int station, int tick) {
            int count = 0;
            for (int slot = 0; slot < SLOTS; slot++) {
                int start = facts.get(slot, START);
                if (start != NONE && facts.get(slot, RAILHEAD) == station) {
                    int arrives = start + facts.get(slot, SPAN);
                    count += tick > arrives && tick <= arrives + facts.get(slot, UNLOADING) ? 1 : 0;
                }
            }
            return count;
        }

        boolean areApart() {
            for (int slot = 0; slot < SLOTS; slot++) {
                if (isKept(slot) && firstFouledLine(slot) != NONE) {
                    return false;
                }
            }
            return true;
        }
    }

    /** TRAINS, numbered as they went: the columns up to GOAL are those of promise 24. */
    private static final class Trains {
        static final int MOST = 60;
        static final int UNIT = 0;
        static final int LOAD = 1;
        static final int HOW = 2;
        static final int WHERE = 3;
        static final int BLOCK = 4;
        static final int LEFT = 5;
        static final int REST = 6;
        /** In the place of LATE, which follows from it. */
        static final int ARRIVES = 7;
        static final int SINCE_WATER = 8;
        static final int GOAL = 9;
        static final int SECTOR = 10;
        static final int FORWARD = 11;
        static final int HOME = 12;
        static final int UNLOADING = 13;
        static final int SLOT = 14;
        static final int ENGINE_BACK = 15;
        static final int STANDS = 0;
        static final int RUNS = 1;
        static final int UNLOADS = 2;
        static final int DONE = 3;

        private static final int WAITS_NOT = 0;
        private static final int WAITS_REST = 1;
        private static final int WAITS_LINE = 2;
        private static final int WAITS_FULL = 3;
        private static final int WAITS_RAMP = 4;
        private static final int WAITS_FOULED = 5;
        private static final int WAITS_WAY = 6;
        private static final int BLOCKS_TO_DRY = 12;
        private static final int BLOCKS_TO_WATER = 4;
        private static final int TICKS_OF_WATER = 2;

        private final Table trains = new Table(MOST, 16);
        /** The numbers of TRAINS in the order in which they MOVE in this TICK. */
        private final Table places = new Table(MOST, 1);
        private int trainCount = 0;

        int count() {
            return trainCount;
        }

        boolean has(int train) {
            return train >= 0 && train < trainCount;
        }

        int get(int train, int column) {
            return trains.get(train, column);
        }

        void set(int train, int column, int value) {
            trains.set(train, column, value);
        }

        void add(int train, int column, int more) {
            trains.add(train, column, more);
        }

        /** A further TRAIN, which stands at its HOME. */
        int stand(int unit, int load, int home) {
            int train = trainCount;
            trains.set(train, UNIT, unit);
            trains.set(train, LOAD, load);
            trains.set(train, HOW, STANDS);
            trains.set(train, WHERE, home);
            trains.set(train, BLOCK, NONE);
            trains.set(train, HOME, home);
            trains.set(train, ENGINE_BACK, NONE);
            trainCount++;
            return train;
        }

        int lateOf(int train, int tick) {
            return trains.get(train, HOW) == DONE ? 0 : Math.max(0, tick - trains.get(train, ARRIVES));
        }

        int greatestLate(int tick) {
            int greatest = 0;
            for (int train = 0; train < trainCount; train++) {
                greatest = Math.max(greatest, lateOf(train, tick));
            }
            return greatest;
        }

        int countDone() {
            int count = 0;
            for (int train = 0; train < trainCount; train++) {
                count += trains.get(train, HOW) == DONE ? 1 : 0;
            }
            return count;
        }

        boolean hasFor(int sector) {
            for (int train = 0; train < trainCount; train++) {
                if (trains.get(train, SECTOR) == sector && trains.get(train, HOW) != DONE) {
                    return true;
                }
            }
            return false;
        }

        private boolean isAt(int train, int station) {
            int how = trains.get(train, HOW);
            return (how == STANDS || how == UNLOADS) && trains.get(train, WHERE) == station;
        }

        int countAt(int station) {
            int count = 0;
            for (int train = 0; train < trainCount; train++) {
                count += isAt(train, station) ? 1 : 0;
            }
            return count;
        }

        /** TRAINS at a STATION that is not their HOME. */
        int countGuestsAt(int station) {
            int count = 0;
            for (int train = 0; train < trainCount; train++) {
                count += isAt(train, station) && trains.get(train, HOME) != station ? 1 : 0;
            }
            return count;
        }

        int countUnloadingAt(int station) {
            int count = 0;
            for (int train = 0; train < trainCount; train++) {
                count += isAt(train, station) && trains.get(train, HOW) == UNLOADS ? 1 : 0;
            }
            return count;
        }

        int countOn(int line) {
            int count = 0;
            for (int train = 0; train < trainCount; train++) {
                count += isOn(train, line) ? 1 : 0;
            }
            return count;
        }

        private boolean isOn(int train, int line) {
            return trains.get(train, HOW) == RUNS && trains.get(train, WHERE) == line;
        }

        private boolean isTaken(int line, int block, int forward, boolean isDouble) {
            for (int train = 0; train < trainCount; train++) {
                if (isOn(train, line) && trains.get(train, BLOCK) == block
                        && (!isDouble || trains.get(train, FORWARD) == forward)) {
                    return true;
                }
            }
            return false;
        }

        private boolean isComing(int line, int forward) {
            for (int train = 0; train < trainCount; train++) {
                if (isOn(train, line) && trains.get(train, FORWARD) != forward) {
                    return true;
                }
            }
            return false;
        }

        /** Puts the TRAINS that are not DONE into the order in which they MOVE, and tells how many. */
        int lineUp(int tick) {
            int count = 0;
            for (int train = 0; train < trainCount; train++) {
                if (trains.get(train, HOW) != DONE) {
                    placeIn(train, count, tick);
                    count++;
                }
            }
            return count;
        }

        private void placeIn(int train, int count, int tick) {
            int late = lateOf(train, tick);
            int place = count;
            for (; place > 0 && lateOf(places.get(place - 1, 0), tick) < late; place--) {
                places.set(place, 0, places.get(place - 1, 0));
            }
            places.set(place, 0, train);
        }

        int inPlace(int place) {
            return places.get(place, 0);
        }

        /** What a TRAIN waits for (promise 25). */
        int waitOf(int train, Land land) {
            int how = trains.get(train, HOW);
            if (how == STANDS) {
                return waitAtStation(train, land);
            }
            return how == RUNS && trains.get(train, LEFT) <= 1 ? waitOnBlock(train, land) : WAITS_NOT;
        }

        private int waitAtStation(int train, Land land) {
            int station = trains.get(train, WHERE);
            int goal = trains.get(train, GOAL);
            if (trains.get(train, REST) > 0) {
                return WAITS_REST;
            }
            if (station == goal) {
                boolean isRamp = countUnloadingAt(station) < land.getStation(station, Land.RAMPS);
                return isRamp ? WAITS_NOT : WAITS_RAMP;
            }
            if (land.getStation(station, Land.FOUL) > 0) {
                return WAITS_FOULED;
            }
            int line = land.firstOf(station, goal);
            if (line == NONE) {
                return WAITS_WAY;
            }
            boolean isDouble = land.isDouble(line);
            int forward = land.getLine(line, Land.NEAR) == station ? 1 : 0;
            int block = forward == 1 ? 0 : land.getLine(line, Land.BLOCKS) - 1;
            boolean isFree = !isTaken(line, block, forward, isDouble) && (isDouble || !isComing(line, forward));
            return isFree ? WAITS_NOT : WAITS_LINE;
        }

        private int waitOnBlock(int train, Land land) {
            int line = trains.get(train, WHERE);
            int forward = trains.get(train, FORWARD);
            int next = nextBlock(train);
            if (next >= 0 && next < land.getLine(line, Land.BLOCKS)) {
                return isTaken(line, next, forward, land.isDouble(line)) ? WAITS_LINE : WAITS_NOT;
            }
            int station = land.endOf(line, forward == 1);
            if (land.getStation(station, Land.FOUL) > 0) {
                return WAITS_FOULED;
            }
            int room = land.getStation(station, Land.RAMPS) + land.getStation(station, Land.SIDINGS);
            return countAt(station) < room ? WAITS_NOT : WAITS_FULL;
        }

        private int nextBlock(int train) {
            return trains.get(train, BLOCK) + (trains.get(train, FORWARD) == 1 ? 1 : -1);
        }

        /** MOVES a TRAIN that waits for this, and tells whether it is DONE by that. */
        boolean move(int train, int wait, Land land) {
            int how = trains.get(train, HOW);
            boolean isFree = wait == WAITS_NOT;
            if (how == RUNS) {
                run(train, isFree, land);
            } else if (how == STANDS) {
                stay(train, isFree, land);
            } else if (how == UNLOADS) {
                trains.add(train, LEFT, -1);
                if (trains.get(train, LEFT) <= 0) {
                    trains.set(train, HOW, DONE);
                    trains.set(train, WHERE, NONE);
                    return true;
                }
            }
            return false;
        }

        private void run(int train, boolean isFree, Land land) {
            if (trains.get(train, LEFT) > 0) {
                trains.add(train, LEFT, -1);
            }
            if (trains.get(train, LEFT) > 0 || !isFree) {
                return;
            }
            int line = trains.get(train, WHERE);
            int next = nextBlock(train);
            if (next >= 0 && next < land.getLine(line, Land.BLOCKS)) {
                enter(train, line, next, land);
            } else {
                arrive(train, line, land);
            }
        }

        private void stay(int train, boolean isFree, Land land) {
            int station = trains.get(train, WHERE);
            if (trains.get(train, REST) > 0) {
                trains.add(train, REST, -1);
            } else if (isFree && station == trains.get(train, GOAL)) {
                trains.set(train, HOW, UNLOADS);
                trains.set(train, LEFT, trains.get(train, UNLOADING));
            } else if (isFree) {
                int line = land.firstOf(station, trains.get(train, GOAL));
                boolean isForward = land.getLine(line, Land.NEAR) == station;
                trains.set(train, HOW, RUNS);
                trains.set(train, WHERE, line);
                trains.set(train, FORWARD, isForward ? 1 : 0);
                enter(train, line, isForward ? 0 : land.getLine(line, Land.BLOCKS) - 1, land);
            }
        }

        private void enter(int train, int line, int block, Land land) {
            int pace = land.getLine(line, Land.PACE);
            boolean isDry = trains.get(train, SINCE_WATER) >= BLOCKS_TO_DRY;
            trains.set(train, BLOCK, block);
            trains.set(train, LEFT, isDry ? 2 * pace : pace);
            trains.add(train, SINCE_WATER, 1);
        }

        private void arrive(int train, int line, Land land) {
            int station = land.endOf(line, trains.get(train, FORWARD) == 1);
            land.addThrough(line);
            trains.set(train, HOW, STANDS);
            trains.set(train, WHERE, station);
            trains.set(train, BLOCK, NONE);
            if (land.getStation(station, Land.WATER) == 1 && trains.get(train, SINCE_WATER) >= BLOCKS_TO_WATER) {
                trains.set(train, REST, TICKS_OF_WATER);
                trains.set(train, SINCE_WATER, 0);
            }
        }

        boolean areApart(Land land) {
            for (int train = 0; train < trainCount; train++) {
                int line = trains.get(train, WHERE);
                for (int other = train + 1; other < trainCount; other++) {
                    if (isOn(train, line) && isOn(other, line) && clash(train, other, land.isDouble(line))) {
                        return false;
                    }
                }
            }
            return true;
        }

        /** Whether two TRAINS on one LINE are there against section 1. */
        private boolean clash(int train, int other, boolean isDouble) {
            boolean isSameWay = trains.get(train, FORWARD) == trains.get(other, FORWARD);
            boolean isSameBlock = trains.get(train, BLOCK) == trains.get(other, BLOCK);
            return isSameWay ? isSameBlock : !isDouble;
        }
    }

    /** SUPPLIES that are not DONE. */
    private static final class Supplies {
        static final int MOST = 6;
        static final int HOME = 0;
        static final int UNLOADING = 3;
        static final int BRINGS = 24;
        /** How many had been sent with this one: 0 in a row that is free. */
        static final int SENT = 0;
        static final int SECTOR = 1;

        private static final int GONE = 2;

        private final Table rows = new Table(MOST, 3);
        private int sentEver = 0;

        int get(int row, int column) {
            return rows.get(row, column);
        }

        int freeRow() {
            for (int row = 0; row < MOST; row++) {
                if (rows.get(row, SENT) == 0) {
                    return row;
                }
            }
            return NONE;
        }

        int count() {
            int count = 0;
            for (int row = 0; row < MOST; row++) {
                count += rows.get(row, SENT) > 0 ? 1 : 0;
            }
            return count;
        }

        void send(int row, int sector) {
            sentEver++;
            rows.set(row, SENT, sentEver);
            rows.set(row, SECTOR, sector);
            rows.set(row, GONE, 0);
        }

        void leave(int row) {
            rows.set(row, GONE, 1);
        }

        void free(int row) {
            rows.set(row, SENT, 0);
        }

        /** The row of the first SUPPLY that was sent behind another one and has not gone. */
        int nextBehind(int sent) {
            int next = NONE;
            for (int row = 0; row < MOST; row++) {
                boolean isWaiting = rows.get(row, SENT) > sent && rows.get(row, GONE) == 0;
                if (isWaiting && (next == NONE || rows.get(row, SENT) < rows.get(next, SENT))) {
                    next = row;
                }
            }
            return next;
        }
    }

    /** SECTORS: the columns are those of promise 28; what is counted from LOADS and the foe's PLANS is not kept here. */
    private static final class Sectors {
        static final int RAILHEAD = 0;
        static final int MARCH = 1;
        static final int FOE = 4;
        static final int LOST = 11;

        private static final int GROUND = 6;
        private static final int STORE = 7;
        private static final int HUNGRY = 8;
        private static final int WOUNDED = 9;
        private static final int TAKEN_HOME = 10;
        private static final int ROAD = 12;
        private static final int MOST_STORE = 999;
        private static final int MOST_GROUND = 5;
        private static final int BREAD = 3;
        private static final int BEDS = 6;
        private static final int TICKS_OF_ROAD = 4;

        private final Table sectors = new Table(SECTORS, 13);

        Sectors() {
            for (int sector = 0; sector < SECTORS; sector++) {
                sectors.set(sector, RAILHEAD, NONE);
                sectors.set(sector, MARCH, 24);
                sectors.set(sector, STORE, 20);
            }
        }

        int get(int sector, int column) {
            return sectors.get(sector, column);
        }

        void set(int sector, int column, int value) {
            sectors.set(sector, column, value);
        }

        void add(int sector, int column, int more) {
            sectors.add(sector, column, more);
        }

        void store(int sector, int more) {
            sectors.set(sector, STORE, Math.min(MOST_STORE, sectors.get(sector, STORE) + more));
        }

        void feed(int sector, int bakers, int eaters) {
            store(sector, BREAD * bakers);
            int left = sectors.get(sector, STORE) - eaters;
            sectors.set(sector, STORE, Math.max(0, left));
            sectors.set(sector, HUNGRY, left < 0 ? 1 : 0);
        }

        void fight(int sector, int weight) {
            int own = sectors.get(sector, HUNGRY) == 1 ? weight / 2 : weight;
            int foe = sectors.get(sector, FOE);
            int ground = sectors.get(sector, GROUND) + Integer.compare(own, foe);
            ground = Math.max(-MOST_GROUND, Math.min(MOST_GROUND, ground));
            sectors.set(sector, GROUND, ground);
            sectors.add(sector, FOE, -Math.min(foe, own / 8));
            sectors.add(sector, WOUNDED, Math.min(own, foe / 8));
            if (ground == -MOST_GROUND) {
                sectors.set(sector, LOST, 1);
            }
        }

        void takeHome(int sector) {
            int taken = Math.min(BEDS, sectors.get(sector, WOUNDED));
            sectors.add(sector, WOUNDED, -taken);
            sectors.add(sector, TAKEN_HOME, taken);
        }

        /** A LOAD begins to MARCH as soon as the ROAD is free; tells when it comes to the SECTOR. */
        int takeRoad(int sector, int tick) {
            int begins = Math.max(tick, sectors.get(sector, ROAD));
            sectors.set(sector, ROAD, begins + TICKS_OF_ROAD);
            return begins + sectors.get(sector, MARCH);
        }
    }

    /** The PLANS of the foe, what CAME by them, and what is guessed. */
    private static final class Foes {
        static final int PLANS = 3;
        static final int MOST = 6;

        private static final int DAYS = 21;
        private static final int SECTOR = 0;
        private static final int DAY = 1;
        private static final int STRENGTH = 2;
        private static final int TOLD = 0;
        private static final int RUMOURS = 1;
        private static final int DAYS_TO_SEE = 2;

        private final Table entries = new Table(PLANS * MOST, 3);
        private final Table plans = new Table(PLANS, 2);
        private final Table came = new Table(SECTORS, DAYS);
        private int carriedOut = 0;

        int add(int plan, int sector, int day, int strength) {
            int entry = plan * MOST + plans.get(plan, TOLD);
            entries.set(entry, SECTOR, sector);
            entries.set(entry, DAY, day);
            entries.set(entry, STRENGTH, strength);
            plans.add(plan, TOLD, 1);
            return plans.get(plan, TOLD);
        }

        int countOf(int plan) {
            return plans.get(plan, TOLD);
        }

        int count() {
            return plans.get(0, TOLD) + plans.get(1, TOLD) + plans.get(2, TOLD);
        }

        int carryOut(int plan) {
            int before = carriedOut;
            carriedOut = plan;
            return before;
        }

        int addRumour(int plan) {
            plans.add(plan, RUMOURS, 1);
            return plans.get(plan, RUMOURS);
        }

        /** What a PLAN has for a SECTOR on the DAYS from a first to a last one. */
        private int toldFromTo(int plan, int sector, int first, int last) {
            int sum = 0;
            for (int k = 0; k < plans.get(plan, TOLD); k++) {
                int entry = plan * MOST + k;
                int day = entries.get(entry, DAY);
                boolean isMeant = entries.get(entry, SECTOR) == sector && day >= first && day <= last;
                sum += isMeant ? entries.get(entry, STRENGTH) : 0;
            }
            return sum;
        }

        int toldUpTo(int plan, int sector, int day) {
            return toldFromTo(plan, sector, 0, day);
        }

        /** What COMES to a SECTOR as a DAY begins. */
        int come(int sector, int day) {
            int coming = toldFromTo(carriedOut, sector, day, day);
            came.set(sector, day, coming);
            return coming;
        }

        int seenOf(int sector, int today) {
            int sum = 0;
            for (int day = 0; day <= today - DAYS_TO_SEE; day++) {
                sum += came.get(sector, day);
            }
            return sum;
        }

        int guessOn(int today) {
            int guess = NONE;
            for (int plan = 0; plan < PLANS; plan++) {
                boolean isBetter = guess == NONE || plans.get(plan, RUMOURS) > plans.get(guess, RUMOURS);
                if (isBetter && isPossible(plan, today)) {
                    guess = plan;
                }
            }
            return guess;
        }

        private boolean isPossible(int plan, int today) {
            for (int day = 0; day <= today - DAYS_TO_SEE; day++) {
                for (int sector = 0; sector < SECTORS; sector++) {
                    if (toldFromTo(plan, sector, day, day) != came.get(sector, day)) {
                        return false;
                    }
                }
            }
            return true;
        }
    }
}
