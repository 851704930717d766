/** A machine that keeps promises cold. */
public final class PromiseShelves {
    private static final int SHELVES = 5;
    private static final int MAKERS = 6;
    private static final int MOST_PROMISES = 20;
    private static final int LONGEST_LIFE = 100;
    private static final int MOST_HOURS = 100;
    private static final int HOURS_FORESEEN = 200;

    private static final int COLDEST_SETTING = -30;
    private static final int WARMEST_SETTING = -5;
    private static final int FIRST_SETTING = -18;
    private static final int WARMEST = 20;
    private static final int FREEZES_AT = -10;
    private static final int STAYS_FROZEN_TO = -4;

    private static final int NO_SHELF = -1;
    private static final int NOT_BY_THEN = -1;

    private final Shelf[] shelves = new Shelf[SHELVES];
    private final Promise[] promises = new Promise[MOST_PROMISES];
    private int made = 0;
    private int alarmsRung = 0;
    private int hoursGone = 0;
    private boolean power = true;

    // What would be is tried on these two, so that no question makes an object or changes a real one.
    private final Shelf trialShelf = new Shelf(NO_SHELF);
    private final Promise trialPromise = new Promise();

    private enum Stage { UNMADE, FRESH, FROZEN, THAWED, KEPT, EXPIRED }

    private static final class Shelf {
        private final int number;
        private int setting = FIRST_SETTING;
        private int heat = FIRST_SETTING;

        private Shelf(int number) {
            this.number = number;
        }

        private void openDoor() {
            heat = Math.min(heat + 2, WARMEST);
        }

        private void liveAnHour(boolean withPower) {
            if (!withPower) {
                heat = Math.min(heat + 1, WARMEST);
            } else if (heat < setting) {
                heat = Math.min(heat + 2, setting);
            } else {
                heat = Math.max(heat - 2, setting);
            }
        }

        private void becomeLike(Shelf other) {
            setting = other.setting;
            heat = other.heat;
        }
    }

    private static final class Promise {
        private Stage stage = Stage.UNMADE;
        // null as long as it lies on none: not yet made, kept or expired
        private Shelf shelf = null;
        private int maker = 0;
        private int life = 0;
        private int age = 0;
        private int heat = 0;

        private void layAnew(int ofMaker, int ofLife, Shelf on) {
            stage = Stage.FRESH;
            shelf = on;
            maker = ofMaker;
            life = ofLife;
            age = 0;
            heat = WARMEST;
        }

        private void becomeLike(Promise other, Shelf on) {
            stage = other.stage;
            shelf = on;
            maker = other.maker;
            life = other.life;
            age = other.age;
            heat = other.heat;
        }

        private void leaveAs(Stage forGood) {
            stage = forGood;
            shelf = null;
        }

        /** To be called once the hour of its shelf is over; tells whether an alarm rings. */
        private boolean liveAnHour() {
            if (shelf == null) {
                return false;
            }
            drawNearTo(shelf.heat);
            boolean thaws = stage == Stage.FROZEN && heat > STAYS_FROZEN_TO;
            if (thaws) {
                stage = Stage.THAWED;
            } else if (stage == Stage.FRESH && heat <= FREEZES_AT) {
                stage = Stage.FROZEN;
            }
            if (stage != Stage.FROZEN) {
                age++;
                if (age >= life) {
                    leaveAs(Stage.EXPIRED);
                }
            }
            return thaws;
        }

        private void drawNearTo(int shelfHeat) {
            int apart = shelfHeat - heat;
            int half = apart / 2;
            // where the half is 0 they are 1 apart or not at all, and the whole way is what is due
            heat += half == 0 ? apart : half;
        }
    }

    public PromiseShelves() {
        for (int i = 0; i < SHELVES; i++) {
            shelves[i] = new Shelf(i);
        }
        for (int i = 0; i < MOST_PROMISES; i++) {
            promises[i] = new Promise();
        }
    }

    // ---- promises

    public int make(int maker, int life, int shelf)
            throws IndexOutOfBoundsException, IllegalArgumentException, IllegalStateException {
        checkMaker(maker);
        Shelf on = findShelf(shelf);
        if (life < 1 || life > LONGEST_LIFE) {
            throw new IllegalArgumentException("a life is 1 to 100 hours");
        }
        if (made >= MOST_PROMISES) {
            throw new IllegalStateException("there are 20 promises");
        }
        int number = made;
        promises[number].layAnew(maker, life, on);
        on.openDoor();
        made++;
        return number;
    }

    public int move(int promise, int shelf) throws IndexOutOfBoundsException, IllegalStateException {
        Promise moved = findPromise(promise);
        Shelf to = findShelf(shelf);
        Shelf from = moved.shelf;
        if (from == null) {
            throw new IllegalStateException("the promise lies on no shelf");
        }
        if (from == to) {
            throw new IllegalStateException("the promise lies on this shelf");
        }
        if (moved.stage == Stage.THAWED) {
            throw new IllegalStateException("the promise is thawed");
        }
        moved.shelf = to;
        from.openDoor();
        to.openDoor();
        return from.number;
    }

    public int keep(int promise) throws IndexOutOfBoundsException, IllegalStateException {
        Promise kept = findPromise(promise);
        Shelf from = kept.shelf;
        if (from == null) {
            throw new IllegalStateException("the promise lies on no shelf");
        }
        kept.leaveAs(Stage.KEPT);
        from.openDoor();
        return kept.life - kept.age;
    }

    // ---- the machine

    public int set(int shelf, int heat) throws IndexOutOfBoundsException, IllegalArgumentException {
        Shelf changed = findShelf(shelf);
        if (heat < COLDEST_SETTING || heat > WARMEST_SETTING) {
            throw new IllegalArgumentException("a setting is -30 to -5");
        }
        int before = changed.setting;
        changed.setting = heat;
        return before;
    }

    public boolean switchPower() {
        power = !power;
        return power;
    }

    public int pass(int hours) throws IllegalArgumentException {
        checkHours(hours);
        int before = alarmsRung;
        for (int i = 0; i < hours; i++) {
            passAnHour();
        }
        return alarmsRung - before;
    }

    // ---- shelves

    public int hour() {
        return hoursGone;
    }

    public boolean hasPower() {
        return power;
    }

    public int settingOf(int shelf) throws IndexOutOfBoundsException {
        return findShelf(shelf).setting;
    }

    public int heatOn(int shelf) throws IndexOutOfBoundsException {
        return findShelf(shelf).heat;
    }

    public int promisesOn(int shelf) throws IndexOutOfBoundsException {
        Shelf asked = findShelf(shelf);
        int count = 0;
        for (Promise each : promises) {
            if (each.shelf == asked) {
                count++;
            }
        }
        return count;
    }

    public int coldest() {
        int found = 0;
        for (int i = 1; i < SHELVES; i++) {
            if (shelves[i].heat < shelves[found].heat) {
                found = i;
            }
        }
        return found;
    }

    public int alarms() {
        return alarmsRung;
    }

    // ---- what promises are

    public int promises() {
        return made;
    }

    public int makerOf(int promise) throws IndexOutOfBoundsException {
        return findPromise(promise).maker;
    }

    public int shelfOf(int promise) throws IndexOutOfBoundsException {
        Shelf on = findPromise(promise).shelf;
        return on == null ? NO_SHELF : on.number;
    }

    public int heatOf(int promise) throws IndexOutOfBoundsException {
        return findPromise(promise).heat;
    }

    public int ageOf(int promise) throws IndexOutOfBoundsException {
        return findPromise(promise).age;
    }

    public int hoursLeft(int promise) throws IndexOutOfBoundsException {
        Promise asked = findPromise(promise);
        return asked.life - asked.age;
    }

    public boolean isFrozen(int promise) throws IndexOutOfBoundsException {
        return findPromise(promise).stage == Stage.FROZEN;
    }

    public boolean isThawed(int promise) throws IndexOutOfBoundsException {
        return findPromise(promise).stage == Stage.THAWED;
    }

    public boolean isKept(int promise) throws IndexOutOfBoundsException {
        return findPromise(promise).stage == Stage.KEPT;
    }

    public boolean isExpired(int promise) throws IndexOutOfBoundsException {
        return findPromise(promise).stage == Stage.EXPIRED;
    }

    // ---- people

    public int owedBy(int maker) throws IndexOutOfBoundsException {
        checkMaker(maker);
        int count = 0;
        for (Promise each : promises) {
            if (each.shelf != null && each.maker == maker) {
                count++;
            }
        }
        return count;
    }

    public int honourOf(int maker) throws IndexOutOfBoundsException {
        checkMaker(maker);
        return countOf(maker, Stage.KEPT) - countOf(maker, Stage.EXPIRED);
    }

    public int mostHonourable() {
        int found = 0;
        for (int i = 1; i < MAKERS; i++) {
            if (honourOf(i) > honourOf(found)) {
                found = i;
            }
        }
        return found;
    }

    // ---- what would be

    public int hoursUntilFrozen(int promise) throws IndexOutOfBoundsException {
        return hoursUntil(findPromise(promise), Stage.FROZEN);
    }

    public int hoursUntilThawed(int promise) throws IndexOutOfBoundsException {
        return hoursUntil(findPromise(promise), Stage.THAWED);
    }

    public int hoursUntilExpired(int promise) throws IndexOutOfBoundsException {
        return hoursUntil(findPromise(promise), Stage.EXPIRED);
    }

    public int leftIn(int hours) throws IllegalArgumentException {
        checkHours(hours);
        int count = 0;
        for (Promise each : promises) {
            if (liesBehind(each, hours)) {
                count++;
            }
        }
        return count;
    }

    public int bestShelf() {
        if (made >= MOST_PROMISES) {
            return NO_SHELF;
        }
        int best = NO_SHELF;
        int soonest = NOT_BY_THEN;
        for (Shelf each : shelves) {
            int hours = hoursToFreezeAnew(each);
            if (isSooner(hours, soonest)) {
                best = each.number;
                soonest = hours;
            }
        }
        return best;
    }

    public int hoursOfCold() {
        int soonest = NOT_BY_THEN;
        for (Promise each : promises) {
            int hours = hoursToAlarmWithoutPower(each);
            if (isSooner(hours, soonest)) {
                soonest = hours;
            }
        }
        return soonest;
    }

    public double meanHeat() {
        int sum = 0;
        int count = 0;
        for (Promise each : promises) {
            if (each.shelf != null) {
                sum += each.heat;
                count++;
            }
        }
        return count == 0 ? 0.0 : (double) sum / count;
    }

    public long digest() {
        long d = 2017;
        d = d * 31 + hour();
        d = d * 31 + asNumber(hasPower());
        d = d * 31 + alarms();
        d = d * 31 + promises();
        d = d * 31 + coldest();
        d = d * 31 + mostHonourable();
        d = d * 31 + bestShelf();
        d = d * 31 + hoursOfCold();
        d = withShelves(d);
        d = withPromises(d);
        return withMakers(d);
    }

    // ---- arguments

    private static void checkMaker(int maker) {
        if (maker < 0 || maker >= MAKERS) {
            throw new IndexOutOfBoundsException("a maker is 0 to 5");
        }
    }

    private static void checkHours(int hours) {
        if (hours < 1 || hours > MOST_HOURS) {
            throw new IllegalArgumentException("hours are 1 to 100");
        }
    }

    private Shelf findShelf(int shelf) {
        if (shelf < 0 || shelf >= SHELVES) {
            throw new IndexOutOfBoundsException("a shelf is 0 to 4");
        }
        return shelves[shelf];
    }

    private Promise findPromise(int promise) {
        if (promise < 0 || promise >= made) {
            throw new IndexOutOfBoundsException("there is no such promise");
        }
        return promises[promise];
    }

    // ---- time and honour

    private void passAnHour() {
        for (Shelf each : shelves) {
            each.liveAnHour(power);
        }
        for (Promise each : promises) {
            if (each.liveAnHour()) {
                alarmsRung++;
            }
        }
        hoursGone++;
    }

    private int countOf(int maker, Stage stage) {
        int count = 0;
        for (Promise each : promises) {
            if (each.stage == stage && each.maker == maker) {
                count++;
            }
        }
        return count;
    }

    // ---- trials: a promise depends on its own shelf alone, so one of each is enough

    private void tryOut(Promise promise, Shelf on) {
        trialShelf.becomeLike(on);
        trialPromise.becomeLike(promise, trialShelf);
    }

    private boolean tryAnHour(boolean withPower) {
        trialShelf.liveAnHour(withPower);
        return trialPromise.liveAnHour();
    }

    private int triedHoursUntil(Stage wanted) {
        for (int hours = 1; hours <= HOURS_FORESEEN; hours++) {
            tryAnHour(power);
            if (trialPromise.stage == wanted) {
                return hours;
            }
        }
        return NOT_BY_THEN;
    }

    private int hoursUntil(Promise promise, Stage wanted) {
        if (promise.stage == wanted) {
            return 0;
        }
        Shelf on = promise.shelf;
        if (on == null) {
            return NOT_BY_THEN;
        }
        tryOut(promise, on);
        return triedHoursUntil(wanted);
    }

    private boolean liesBehind(Promise promise, int hours) {
        Shelf on = promise.shelf;
        if (on == null) {
            return false;
        }
        tryOut(promise, on);
        for (int i = 0; i < hours; i++) {
            tryAnHour(power);
        }
        return trialPromise.shelf != null;
    }

    private int hoursToFreezeAnew(Shelf on) {
        trialShelf.becomeLike(on);
        trialShelf.openDoor();
        trialPromise.layAnew(0, LONGEST_LIFE, trialShelf);
        return triedHoursUntil(Stage.FROZEN);
    }

    private int hoursToAlarmWithoutPower(Promise promise) {
        Shelf on = promise.shelf;
        if (on == null) {
            return NOT_BY_THEN;
        }
        tryOut(promise, on);
        for (int hours = 1; hours <= HOURS_FORESEEN; hours++) {
            // the alarm itself is asked for: one that expires in the hour of its alarm is not thawed behind it
            if (tryAnHour(false)) {
                return hours;
            }
        }
        return NOT_BY_THEN;
    }

    private static boolean isSooner(int hours, int than) {
        return hours != NOT_BY_THEN && (than == NOT_BY_THEN || hours < than);
    }

    // ---- the checksum

    private static int asNumber(boolean isSo) {
        return isSo ? 1 : 0;
    }

    private long withShelves(long before) {
        long d = before;
        for (int i = 0; i < SHELVES; i++) {
            d = d * 31 + settingOf(i);
            d = d * 31 + heatOn(i);
            d = d * 31 + promisesOn(i);
        }
        return d;
    }

    private long withPromises(long before) {
        long d = before;
        for (int i = 0; i < made; i++) {
            d = d * 31 + makerOf(i);
            d = d * 31 + shelfOf(i);
            d = d * 31 + heatOf(i);
            d = d * 31 + ageOf(i);
            d = d * 31 + hoursLeft(i);
            d = d * 31 + asNumber(isFrozen(i));
            d = d * 31 + asNumber(isThawed(i));
            d = d * 31 + asNumber(isKept(i));
            d = d * 31 + asNumber(isExpired(i));
        }
        return d;
    }

    private long withMakers(long before) {
        long d = before;
        for (int i = 0; i < MAKERS; i++) {
            d = d * 31 + owedBy(i);
            d = d * 31 + honourOf(i);
        }
        return d;
    }
}
