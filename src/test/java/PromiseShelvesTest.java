/** Each promise of the document by name: ordinary inputs, the edges that the document names, wrong inputs. */
public final class PromiseShelvesTest {
    private static final String INDEX = "IndexOutOfBoundsException";
    private static final String ARGUMENT = "IllegalArgumentException";
    private static final String STATE = "IllegalStateException";

    private static int wrong = 0;
    private static int promise = 0;

    private interface Call {
        Object answer();
    }

    private static void due(String call, Object got, Object want) {
        if (!got.equals(want)) {
            wrong++;
            System.out.println("promise " + promise + ": " + call + " answered " + got + ", due is " + want);
        }
    }

    /** The call throws just this exception, and changes nothing. */
    private static void refuses(PromiseShelves x, String call, String exception, Call made) {
        long before = x.digest();
        String got;
        try {
            got = "" + made.answer();
        } catch (RuntimeException e) {
            got = e.getClass().getSimpleName();
        }
        due(call, got, exception);
        due(call + ", digest() behind it", x.digest(), before);
    }

    private static final int[] NO_SHELVES = {-1, 5, Integer.MIN_VALUE, Integer.MAX_VALUE};
    private static final int[] NO_MAKERS = {-1, 6, Integer.MIN_VALUE, Integer.MAX_VALUE};
    private static final int[] NO_HOURS = {0, -1, 101, Integer.MIN_VALUE, Integer.MAX_VALUE};

    private interface CallOf {
        Object answer(PromiseShelves x, int argument);
    }

    /** What every question about a promise refuses: each number that none has yet. */
    private static void refusesNoPromise(String name, CallOf call) {
        PromiseShelves x = new PromiseShelves();
        refuses(x, name + "(0) without promises", INDEX, () -> call.answer(x, 0));
        x.make(1, 5, 2);
        for (int none : new int[] {-1, 1, 19, 20, Integer.MIN_VALUE, Integer.MAX_VALUE}) {
            refuses(x, name + "(" + none + ")", INDEX, () -> call.answer(x, none));
        }
        due(name + "(0) throws", answers(() -> call.answer(x, 0)), true);
    }

    private static void refusesAll(String name, int[] arguments, String exception, CallOf call) {
        PromiseShelves x = new PromiseShelves();
        for (int none : arguments) {
            refuses(x, name + "(" + none + ")", exception, () -> call.answer(x, none));
        }
    }

    private static boolean answers(Call call) {
        try {
            call.answer();
            return true;
        } catch (RuntimeException e) {
            return false;
        }
    }

    /** A machine whose promise 0, of this life, is frozen in the shelf 0, at an age of 2, in the hour 3. */
    private static PromiseShelves withFrozen(int life) {
        PromiseShelves x = new PromiseShelves();
        x.make(0, life, 0);
        x.pass(3);
        return x;
    }

    /** The same, of maker 0 and a life of 50, thawed as power failed. */
    private static PromiseShelves withThawed() {
        PromiseShelves x = withFrozen(50);
        x.switchPower();
        x.pass(20);
        x.switchPower();
        return x;
    }

    private static PromiseShelves withTwenty() {
        PromiseShelves x = new PromiseShelves();
        for (int i = 0; i < 20; i++) {
            x.make(i % 6, 100, i % 5);
        }
        return x;
    }

    private static PromiseShelves dark() {
        PromiseShelves x = new PromiseShelves();
        x.switchPower();
        return x;
    }

    private static void newObject() {
        PromiseShelves x = new PromiseShelves();
        due("hour()", x.hour(), 0);
        due("hasPower()", x.hasPower(), true);
        due("promises()", x.promises(), 0);
        due("alarms()", x.alarms(), 0);
        for (int i = 0; i < 5; i++) {
            due("settingOf(" + i + ")", x.settingOf(i), -18);
            due("heatOn(" + i + ")", x.heatOn(i), -18);
            due("promisesOn(" + i + ")", x.promisesOn(i), 0);
        }
        for (int i = 0; i < 6; i++) {
            due("owedBy(" + i + ")", x.owedBy(i), 0);
            due("honourOf(" + i + ")", x.honourOf(i), 0);
        }
        x.make(0, 1, 0);
        due("promises() of another object", new PromiseShelves().promises(), 0);
    }

    private static void make() {
        PromiseShelves x = new PromiseShelves();
        due("make(5, 1, 4)", x.make(5, 1, 4), 0);
        due("make(0, 100, 0)", x.make(0, 100, 0), 1);
        due("heatOf(0)", x.heatOf(0), 20);
        due("ageOf(0)", x.ageOf(0), 0);
        due("makerOf(0)", x.makerOf(0), 5);
        due("shelfOf(0)", x.shelfOf(0), 4);
        due("hoursLeft(0)", x.hoursLeft(0), 1);
        due("hoursLeft(1)", x.hoursLeft(1), 100);
        due("isFrozen(0)", x.isFrozen(0), false);
        due("heatOn(4), its door opened", x.heatOn(4), -16);
        due("heatOn(3), its door shut", x.heatOn(3), -18);
        for (int maker : NO_MAKERS) {
            refuses(x, "make(" + maker + ", 0, 0)", INDEX, () -> x.make(maker, 0, 0));
        }
        for (int shelf : NO_SHELVES) {
            refuses(x, "make(0, 101, " + shelf + ")", INDEX, () -> x.make(0, 101, shelf));
        }
        for (int life : NO_HOURS) {
            refuses(x, "make(0, " + life + ", 0)", ARGUMENT, () -> x.make(0, life, 0));
        }
        makeTwenty();
    }

    private static void makeTwenty() {
        PromiseShelves x = new PromiseShelves();
        for (int i = 0; i < 20; i++) {
            due("make as number " + i, x.make(0, 100, 0), i);
        }
        due("heatOn(0), its door opened 20 times", x.heatOn(0), 20);
        refuses(x, "make as number 20", STATE, () -> x.make(0, 1, 0));
        refuses(x, "make(6, 1, 0) with 20", INDEX, () -> x.make(6, 1, 0));
        refuses(x, "make(0, 1, 5) with 20", INDEX, () -> x.make(0, 1, 5));
        refuses(x, "make(0, 0, 0) with 20", ARGUMENT, () -> x.make(0, 0, 0));
        x.keep(0);
        refuses(x, "make with 20 made and one kept", STATE, () -> x.make(0, 1, 0));
    }

    private static void move() {
        PromiseShelves x = new PromiseShelves();
        x.make(0, 50, 1);
        due("move(0, 4)", x.move(0, 4), 1);
        due("shelfOf(0)", x.shelfOf(0), 4);
        due("heatOn(1), its door opened again", x.heatOn(1), -14);
        due("heatOn(4), its door opened", x.heatOn(4), -16);
        due("heatOn(0), its door shut", x.heatOn(0), -18);
        due("heatOf(0), as it was", x.heatOf(0), 20);
        due("move(0, 0)", x.move(0, 0), 4);
        refuses(x, "move to where it lies", STATE, () -> x.move(0, 0));
        refuses(x, "move(-1, 0)", INDEX, () -> x.move(-1, 0));
        refuses(x, "move(1, 0)", INDEX, () -> x.move(1, 0));
        for (int shelf : NO_SHELVES) {
            refuses(x, "move(0, " + shelf + ")", INDEX, () -> x.move(0, shelf));
        }
        x.keep(0);
        refuses(x, "move of a kept one", STATE, () -> x.move(0, 1));
        refuses(x, "move of a kept one to shelf 5", INDEX, () -> x.move(0, 5));
        moveByStage();
    }

    private static void moveByStage() {
        PromiseShelves frozen = withFrozen(50);
        due("move of a frozen one", frozen.move(0, 1), 0);
        due("isFrozen(0), moved", frozen.isFrozen(0), true);
        PromiseShelves thawed = withThawed();
        due("isThawed(0)", thawed.isThawed(0), true);
        refuses(thawed, "move of a thawed one", STATE, () -> thawed.move(0, 1));
        PromiseShelves expired = new PromiseShelves();
        expired.make(0, 1, 0);
        expired.pass(1);
        refuses(expired, "move of an expired one", STATE, () -> expired.move(0, 1));
        PromiseShelves warm = withTwenty();
        for (int i = 0; i < 12; i++) {
            warm.move(0, 1);
            warm.move(0, 0);
        }
        due("heatOn(0), at most", warm.heatOn(0), 20);
        due("heatOn(1), at most", warm.heatOn(1), 20);
    }

    private static void keep() {
        PromiseShelves x = new PromiseShelves();
        x.make(3, 10, 2);
        x.pass(2);
        due("heatOn(2)", x.heatOn(2), -18);
        due("keep(0)", x.keep(0), 8);
        due("heatOn(2), its door opened", x.heatOn(2), -16);
        due("shelfOf(0)", x.shelfOf(0), -1);
        due("isKept(0)", x.isKept(0), true);
        refuses(x, "keep of a kept one", STATE, () -> x.keep(0));
        refuses(x, "keep(-1)", INDEX, () -> x.keep(-1));
        refuses(x, "keep(1)", INDEX, () -> x.keep(1));
        x.pass(50);
        due("ageOf(0), kept", x.ageOf(0), 2);
        due("isExpired(0), kept", x.isExpired(0), false);
        x.make(3, 1, 2);
        x.pass(1);
        refuses(x, "keep of an expired one", STATE, () -> x.keep(1));
        due("keep of a frozen one", withFrozen(9).keep(0), 7);
        PromiseShelves thawed = withThawed();
        due("keep of a thawed one", thawed.keep(0), 50 - thawed.ageOf(0));
    }

    private static void set() {
        PromiseShelves x = new PromiseShelves();
        due("set(1, -30)", x.set(1, -30), -18);
        due("set(1, -5)", x.set(1, -5), -30);
        due("set(0, -20)", x.set(0, -20), -18);
        due("settingOf(1)", x.settingOf(1), -5);
        due("settingOf(2)", x.settingOf(2), -18);
        due("heatOn(1), as it was", x.heatOn(1), -18);
        for (int shelf : NO_SHELVES) {
            refuses(x, "set(" + shelf + ", 0)", INDEX, () -> x.set(shelf, 0));
        }
        for (int heat : new int[] {-31, -4, 0, Integer.MIN_VALUE, Integer.MAX_VALUE}) {
            refuses(x, "set(0, " + heat + ")", ARGUMENT, () -> x.set(0, heat));
        }
    }

    private static void switchPower() {
        PromiseShelves x = new PromiseShelves();
        due("switchPower()", x.switchPower(), false);
        x.pass(3);
        due("heatOn(0) without power", x.heatOn(0), -15);
        due("switchPower() again", x.switchPower(), true);
        x.pass(1);
        due("heatOn(0) with power", x.heatOn(0), -17);
    }

    private static void pass() {
        refusesAll("pass", NO_HOURS, ARGUMENT, (x, hours) -> x.pass(hours));
        PromiseShelves shelves = new PromiseShelves();
        shelves.set(0, -23);
        shelves.set(1, -13);
        shelves.set(2, -17);
        shelves.set(3, -19);
        due("pass(1)", shelves.pass(1), 0);
        int[] behindOne = {-20, -16, -17, -19, -18};
        for (int i = 0; i < 5; i++) {
            due("heatOn(" + i + ") behind 1", shelves.heatOn(i), behindOne[i]);
        }
        due("pass(2)", shelves.pass(2), 0);
        due("heatOn(0) behind 3", shelves.heatOn(0), -23);
        due("heatOn(1) behind 3", shelves.heatOn(1), -13);
        PromiseShelves warm = dark();
        warm.pass(37);
        due("heatOn(4) behind 37 without power", warm.heatOn(4), 19);
        due("pass(100)", warm.pass(100), 0);
        due("heatOn(4), at most", warm.heatOn(4), 20);
        due("hour()", warm.hour(), 137);
        passOfPromise();
        passToAlarm();
        passToExpiry();
    }

    private static void passOfPromise() {
        PromiseShelves x = new PromiseShelves();
        x.make(0, 100, 0);
        int[] heats = {1, -8, -13, -15, -16, -17, -18, -18};
        int[] ages = {1, 2, 2, 2, 2, 2, 2, 2};
        for (int i = 0; i < heats.length; i++) {
            x.pass(1);
            due("heatOf(0) behind " + (i + 1), x.heatOf(0), heats[i]);
            due("ageOf(0) behind " + (i + 1), x.ageOf(0), ages[i]);
            due("isFrozen(0) behind " + (i + 1), x.isFrozen(0), heats[i] <= -10);
        }
        PromiseShelves edge = new PromiseShelves();
        edge.set(0, -10);
        edge.set(1, -9);
        edge.pass(10);
        edge.make(0, 100, 0);
        edge.make(0, 100, 1);
        edge.pass(20);
        due("isFrozen at -10", edge.isFrozen(0), true);
        due("heatOf(1)", edge.heatOf(1), -9);
        due("isFrozen at -9", edge.isFrozen(1), false);
    }

    private static void passToAlarm() {
        PromiseShelves x = withFrozen(50);
        x.make(1, 100, 0);
        x.pass(10);
        x.switchPower();
        due("pass(14)", x.pass(14), 0);
        due("heatOf(0), still frozen", x.heatOf(0), -4);
        due("isFrozen(0)", x.isFrozen(0), true);
        due("pass(1)", x.pass(1), 2);
        due("heatOf(0), thawed", x.heatOf(0), -3);
        due("isThawed(0)", x.isThawed(0), true);
        due("ageOf(0), older again", x.ageOf(0), 3);
        x.switchPower();
        due("pass(30), both stay thawed", x.pass(30), 0);
        due("heatOf(0), cold again", x.heatOf(0), -18);
        due("isThawed(0), cold again", x.isThawed(0), true);
        due("isFrozen(0), cold again", x.isFrozen(0), false);
    }

    private static void passToExpiry() {
        PromiseShelves x = withFrozen(3);
        x.switchPower();
        due("pass(20), it thaws and is expired at once", x.pass(20), 1);
        due("isExpired(0)", x.isExpired(0), true);
        due("alarms()", x.alarms(), 1);
        due("heatOf(0), as it was then", x.heatOf(0), -3);
        PromiseShelves fresh = new PromiseShelves();
        fresh.make(0, 2, 0);
        fresh.make(0, 3, 1);
        fresh.pass(2);
        due("isExpired(0), as old as its life", fresh.isExpired(0), true);
        due("ageOf(0)", fresh.ageOf(0), 2);
        fresh.pass(1);
        due("isFrozen(1), not older in the hour in which it freezes", fresh.isFrozen(1), true);
    }

    private static void hour() {
        PromiseShelves x = new PromiseShelves();
        x.pass(1);
        due("hour()", x.hour(), 1);
        x.pass(100);
        x.switchPower();
        x.make(0, 1, 0);
        x.leftIn(7);
        due("hour()", x.hour(), 101);
    }

    private static void hasPower() {
        PromiseShelves x = dark();
        due("hasPower()", x.hasPower(), false);
        x.pass(5);
        x.hoursOfCold();
        due("hasPower() behind 5", x.hasPower(), false);
        x.switchPower();
        x.hoursOfCold();
        due("hasPower() again", x.hasPower(), true);
    }

    private static void settingOf() {
        PromiseShelves x = new PromiseShelves();
        for (int i = 0; i < 5; i++) {
            x.set(i, -30 + i);
        }
        x.pass(1);
        for (int i = 0; i < 5; i++) {
            due("settingOf(" + i + ")", x.settingOf(i), -30 + i);
        }
        refusesAll("settingOf", NO_SHELVES, INDEX, (y, shelf) -> y.settingOf(shelf));
    }

    private static void heatOn() {
        PromiseShelves x = new PromiseShelves();
        x.set(4, -30);
        x.make(0, 9, 3);
        x.make(0, 9, 3);
        due("heatOn(3)", x.heatOn(3), -14);
        x.pass(6);
        due("heatOn(4)", x.heatOn(4), -30);
        due("heatOn(3)", x.heatOn(3), -18);
        due("heatOn(0)", x.heatOn(0), -18);
        refusesAll("heatOn", NO_SHELVES, INDEX, (y, shelf) -> y.heatOn(shelf));
    }

    private static void promisesOn() {
        PromiseShelves x = new PromiseShelves();
        x.make(0, 50, 0);
        x.make(1, 50, 4);
        x.make(2, 2, 4);
        x.make(3, 50, 4);
        due("promisesOn(4)", x.promisesOn(4), 3);
        due("promisesOn(0)", x.promisesOn(0), 1);
        due("promisesOn(1)", x.promisesOn(1), 0);
        x.pass(2);
        due("promisesOn(4), one expired", x.promisesOn(4), 2);
        x.keep(1);
        due("promisesOn(4), one kept", x.promisesOn(4), 1);
        x.move(3, 0);
        due("promisesOn(4), one moved", x.promisesOn(4), 0);
        due("promisesOn(0), one moved", x.promisesOn(0), 2);
        refusesAll("promisesOn", NO_SHELVES, INDEX, (y, shelf) -> y.promisesOn(shelf));
    }

    private static void coldest() {
        PromiseShelves x = new PromiseShelves();
        due("coldest(), all alike", x.coldest(), 0);
        x.make(0, 9, 0);
        due("coldest(), the first one warmer", x.coldest(), 1);
        x.set(4, -30);
        due("coldest(), not by its setting", x.coldest(), 1);
        x.pass(1);
        due("coldest()", x.coldest(), 4);
        x.set(2, -30);
        x.pass(20);
        due("coldest(), of two", x.coldest(), 2);
    }

    private static void alarms() {
        PromiseShelves x = withThawed();
        due("alarms()", x.alarms(), 1);
        x.make(0, 50, 1);
        x.pass(20);
        x.switchPower();
        x.pass(30);
        due("alarms(), in all", x.alarms(), 2);
        x.hoursOfCold();
        x.keep(1);
        due("alarms(), one kept", x.alarms(), 2);
    }

    private static void promises() {
        PromiseShelves x = withFrozen(50);
        due("promises()", x.promises(), 1);
        x.make(0, 1, 0);
        x.keep(0);
        x.pass(1);
        x.bestShelf();
        due("promises(), one kept, one expired", x.promises(), 2);
        due("promises(), 20", withTwenty().promises(), 20);
    }

    private static void makerOf() {
        PromiseShelves x = withTwenty();
        x.keep(11);
        for (int i = 0; i < 20; i++) {
            due("makerOf(" + i + ")", x.makerOf(i), i % 6);
        }
        refusesNoPromise("makerOf", (y, number) -> y.makerOf(number));
    }

    private static void shelfOf() {
        PromiseShelves x = withTwenty();
        for (int i = 0; i < 20; i++) {
            due("shelfOf(" + i + ")", x.shelfOf(i), i % 5);
        }
        x.move(7, 0);
        x.keep(8);
        due("shelfOf(7), moved", x.shelfOf(7), 0);
        due("shelfOf(8), kept", x.shelfOf(8), -1);
        PromiseShelves expired = new PromiseShelves();
        expired.make(0, 1, 3);
        expired.pass(1);
        due("shelfOf(0), expired", expired.shelfOf(0), -1);
        refusesNoPromise("shelfOf", (y, number) -> y.shelfOf(number));
    }

    private static void heatOf() {
        PromiseShelves x = new PromiseShelves();
        x.make(0, 50, 0);
        x.make(0, 2, 0);
        x.make(0, 50, 0);
        x.pass(1);
        due("heatOf(0)", x.heatOf(0), 3);
        x.keep(0);
        x.pass(30);
        due("heatOf(0), kept", x.heatOf(0), 3);
        due("heatOf(1), expired", x.heatOf(1), -5);
        due("heatOf(2)", x.heatOf(2), -18);
        refusesNoPromise("heatOf", (y, number) -> y.heatOf(number));
    }

    private static void ageOf() {
        PromiseShelves x = withThawed();
        int age = x.ageOf(0);
        x.pass(4);
        due("ageOf(0), thawed", x.ageOf(0), age + 4);
        due("ageOf(0), frozen", withFrozen(50).ageOf(0), 2);
        PromiseShelves expired = new PromiseShelves();
        expired.make(0, 2, 0);
        expired.pass(40);
        due("ageOf(0), expired", expired.ageOf(0), 2);
        refusesNoPromise("ageOf", (y, number) -> y.ageOf(number));
    }

    private static void hoursLeft() {
        PromiseShelves x = new PromiseShelves();
        x.make(0, 50, 0);
        x.make(0, 3, 1);
        x.make(0, 1, 2);
        due("hoursLeft(0)", x.hoursLeft(0), 50);
        x.pass(1);
        due("hoursLeft(0) behind 1", x.hoursLeft(0), 49);
        due("hoursLeft(2), expired", x.hoursLeft(2), 0);
        x.keep(1);
        x.pass(10);
        due("hoursLeft(1), kept", x.hoursLeft(1), 2);
        due("hoursLeft(0), frozen", x.hoursLeft(0), 48);
        refusesNoPromise("hoursLeft", (y, number) -> y.hoursLeft(number));
    }

    private static void isFrozen() {
        PromiseShelves x = new PromiseShelves();
        x.make(0, 50, 0);
        due("isFrozen(0), fresh", x.isFrozen(0), false);
        x.pass(2);
        due("isFrozen(0), at -8", x.isFrozen(0), false);
        x.pass(1);
        due("isFrozen(0), at -13", x.isFrozen(0), true);
        x.keep(0);
        due("isFrozen(0), kept", x.isFrozen(0), false);
        due("isFrozen(0), thawed", withThawed().isFrozen(0), false);
        refusesNoPromise("isFrozen", (y, number) -> y.isFrozen(number));
    }

    private static void isThawed() {
        due("isThawed(0), frozen", withFrozen(50).isThawed(0), false);
        PromiseShelves x = withThawed();
        due("isThawed(0)", x.isThawed(0), true);
        x.keep(0);
        due("isThawed(0), kept", x.isThawed(0), false);
        PromiseShelves expired = withThawed();
        expired.pass(100);
        due("isThawed(0), expired", expired.isThawed(0), false);
        PromiseShelves fresh = new PromiseShelves();
        fresh.make(0, 9, 0);
        due("isThawed(0), fresh and warm", fresh.isThawed(0), false);
        refusesNoPromise("isThawed", (y, number) -> y.isThawed(number));
    }

    private static void isKept() {
        PromiseShelves x = withFrozen(50);
        x.make(0, 1, 0);
        due("isKept(0)", x.isKept(0), false);
        x.keep(0);
        x.pass(100);
        due("isKept(0), for good", x.isKept(0), true);
        due("isKept(1), expired", x.isKept(1), false);
        refusesNoPromise("isKept", (y, number) -> y.isKept(number));
    }

    private static void isExpired() {
        PromiseShelves x = new PromiseShelves();
        x.make(0, 2, 0);
        x.make(0, 9, 0);
        x.pass(1);
        due("isExpired(0), an hour left", x.isExpired(0), false);
        x.pass(1);
        due("isExpired(0)", x.isExpired(0), true);
        x.keep(1);
        x.pass(100);
        due("isExpired(0), for good", x.isExpired(0), true);
        due("isExpired(1), kept", x.isExpired(1), false);
        refusesNoPromise("isExpired", (y, number) -> y.isExpired(number));
    }

    private static void owedBy() {
        PromiseShelves x = new PromiseShelves();
        x.make(5, 50, 0);
        x.make(5, 50, 1);
        x.make(5, 2, 2);
        x.make(0, 50, 3);
        due("owedBy(5)", x.owedBy(5), 3);
        due("owedBy(0)", x.owedBy(0), 1);
        due("owedBy(1)", x.owedBy(1), 0);
        x.pass(3);
        due("owedBy(5), one expired", x.owedBy(5), 2);
        x.keep(0);
        due("owedBy(5), one kept", x.owedBy(5), 1);
        refusesAll("owedBy", NO_MAKERS, INDEX, (y, maker) -> y.owedBy(maker));
    }

    private static void honourOf() {
        PromiseShelves x = new PromiseShelves();
        for (int i = 0; i < 4; i++) {
            x.make(5, 50, 0);
        }
        x.make(0, 1, 1);
        x.make(5, 1, 1);
        x.keep(0);
        x.keep(1);
        due("honourOf(5), two kept", x.honourOf(5), 2);
        x.pass(1);
        due("honourOf(5), one of three expired", x.honourOf(5), 1);
        due("honourOf(0), one expired", x.honourOf(0), -1);
        due("honourOf(4)", x.honourOf(4), 0);
        refusesAll("honourOf", NO_MAKERS, INDEX, (y, maker) -> y.honourOf(maker));
    }

    private static void mostHonourable() {
        PromiseShelves x = new PromiseShelves();
        due("mostHonourable(), all alike", x.mostHonourable(), 0);
        x.make(0, 1, 0);
        x.make(1, 1, 1);
        x.pass(1);
        due("mostHonourable(), two below 0", x.mostHonourable(), 2);
        x.make(5, 9, 2);
        x.make(4, 9, 2);
        x.keep(2);
        due("mostHonourable()", x.mostHonourable(), 5);
        x.keep(3);
        due("mostHonourable(), of two", x.mostHonourable(), 4);
        PromiseShelves none = new PromiseShelves();
        for (int i = 0; i < 6; i++) {
            none.make(i, 1, 0);
        }
        none.make(0, 1, 0);
        none.pass(1);
        due("mostHonourable(), all below 0", none.mostHonourable(), 1);
    }

    private static void hoursUntilFrozen() {
        PromiseShelves x = new PromiseShelves();
        x.make(0, 50, 0);
        x.make(0, 2, 1);
        x.make(0, 3, 2);
        long before = x.digest();
        due("hoursUntilFrozen(0)", x.hoursUntilFrozen(0), 3);
        due("hoursUntilFrozen(1), expired before", x.hoursUntilFrozen(1), -1);
        due("hoursUntilFrozen(2), just in time", x.hoursUntilFrozen(2), 3);
        due("digest() behind it", x.digest(), before);
        x.pass(3);
        due("hoursUntilFrozen(0), frozen", x.hoursUntilFrozen(0), 0);
        due("hoursUntilFrozen(1), expired", x.hoursUntilFrozen(1), -1);
        x.keep(0);
        due("hoursUntilFrozen(0), kept", x.hoursUntilFrozen(0), -1);
        due("hoursUntilFrozen(0), thawed", withThawed().hoursUntilFrozen(0), -1);
        PromiseShelves warm = dark();
        warm.make(0, 50, 0);
        due("hoursUntilFrozen(0) without power", warm.hoursUntilFrozen(0), 4);
        warm.pass(20);
        warm.make(0, 50, 0);
        due("hoursUntilFrozen(1), too warm", warm.hoursUntilFrozen(1), -1);
        refusesNoPromise("hoursUntilFrozen", (y, number) -> y.hoursUntilFrozen(number));
    }

    private static void hoursUntilThawed() {
        PromiseShelves x = new PromiseShelves();
        x.make(0, 50, 0);
        due("hoursUntilThawed(0) with power", x.hoursUntilThawed(0), -1);
        x.switchPower();
        x.make(0, 50, 1);
        long before = x.digest();
        due("hoursUntilThawed(1), not frozen yet", x.hoursUntilThawed(1), 13);
        due("digest() behind it", x.digest(), before);
        x.pass(13);
        due("hoursUntilThawed(1), thawed", x.hoursUntilThawed(1), 0);
        x.keep(1);
        due("hoursUntilThawed(1), kept", x.hoursUntilThawed(1), -1);
        PromiseShelves atOnce = withFrozen(3);
        atOnce.switchPower();
        due("hoursUntilThawed(0), expired at once", atOnce.hoursUntilThawed(0), -1);
        PromiseShelves later = withFrozen(4);
        later.switchPower();
        due("hoursUntilThawed(0), expired an hour later", later.hoursUntilThawed(0), 15);
        PromiseShelves doors = withFrozen(50);
        doors.set(0, -5);
        due("hoursUntilThawed(0), warmest setting", doors.hoursUntilThawed(0), -1);
        refusesNoPromise("hoursUntilThawed", (y, number) -> y.hoursUntilThawed(number));
    }

    private static void hoursUntilExpired() {
        PromiseShelves x = new PromiseShelves();
        x.make(0, 2, 0);
        x.make(0, 3, 1);
        x.set(2, -5);
        x.pass(20);
        x.make(0, 100, 2);
        long before = x.digest();
        due("hoursUntilExpired(0), expired", x.hoursUntilExpired(0), 0);
        due("hoursUntilExpired(1), frozen", x.hoursUntilExpired(1), -1);
        due("hoursUntilExpired(2), never frozen", x.hoursUntilExpired(2), 100);
        due("digest() behind it", x.digest(), before);
        x.switchPower();
        due("hoursUntilExpired(1) without power", x.hoursUntilExpired(1), 15);
        x.keep(2);
        due("hoursUntilExpired(2), kept", x.hoursUntilExpired(2), -1);
        PromiseShelves cold = withFrozen(100);
        cold.set(0, -30);
        cold.pass(30);
        cold.switchPower();
        due("hoursUntilExpired(0), frozen for 26 hours more", cold.hoursUntilExpired(0), 26 + 98);
        PromiseShelves thawed = withThawed();
        due("hoursUntilExpired(0), thawed", thawed.hoursUntilExpired(0), thawed.hoursLeft(0));
        refusesNoPromise("hoursUntilExpired", (y, number) -> y.hoursUntilExpired(number));
    }

    private static void leftIn() {
        PromiseShelves x = new PromiseShelves();
        due("leftIn(1), none", x.leftIn(1), 0);
        x.make(0, 1, 0);
        x.make(0, 2, 1);
        x.make(0, 3, 2);
        x.make(0, 9, 3);
        x.keep(3);
        long before = x.digest();
        due("leftIn(1)", x.leftIn(1), 2);
        due("leftIn(2)", x.leftIn(2), 1);
        due("leftIn(100)", x.leftIn(100), 1);
        due("digest() behind it", x.digest(), before);
        x.switchPower();
        due("leftIn(100) without power", x.leftIn(100), 0);
        refusesAll("leftIn", NO_HOURS, ARGUMENT, (y, hours) -> y.leftIn(hours));
    }

    private static void bestShelf() {
        PromiseShelves x = new PromiseShelves();
        due("bestShelf(), all alike", x.bestShelf(), 0);
        for (int i = 0; i < 5; i++) {
            x.set(i, -11);
        }
        x.set(2, -30);
        x.set(4, -30);
        x.pass(20);
        long before = x.digest();
        due("bestShelf(), of two", x.bestShelf(), 2);
        due("digest() behind it", x.digest(), before);
        for (int i = 0; i < 5; i++) {
            x.set(i, -9);
        }
        x.pass(20);
        due("bestShelf(), all too warm", x.bestShelf(), -1);
        x.set(3, -10);
        due("bestShelf(), one cold enough", x.bestShelf(), 3);
        due("bestShelf(), with 20", withTwenty().bestShelf(), -1);
        bestShelfByItsDoor();
    }

    private static void bestShelfByItsDoor() {
        PromiseShelves x = dark();
        x.pass(1);
        due("bestShelf(), just cold enough", x.bestShelf(), 0);
        x.pass(1);
        due("bestShelf(), too warm by its opened door", x.bestShelf(), -1);
        x.pass(100);
        x.switchPower();
        for (int i = 0; i < 4; i++) {
            x.set(i, -9);
        }
        x.set(4, -10);
        due("bestShelf(), cold enough at long last", x.bestShelf(), 4);
    }

    private static void hoursOfCold() {
        PromiseShelves x = new PromiseShelves();
        due("hoursOfCold(), none", x.hoursOfCold(), -1);
        x.make(0, 50, 1);
        due("hoursOfCold(), fresh, frozen on the way", x.hoursOfCold(), 13);
        x.pass(30);
        x.set(0, -30);
        x.make(0, 50, 0);
        x.pass(30);
        long before = x.digest();
        due("hoursOfCold(), the first", x.hoursOfCold(), 15);
        due("digest() behind it", x.digest(), before);
        x.keep(0);
        due("hoursOfCold(), the other one", x.hoursOfCold(), 27);
        x.switchPower();
        due("hoursOfCold() without power", x.hoursOfCold(), 27);
        x.pass(26);
        due("hoursOfCold(), an hour before", x.hoursOfCold(), 1);
        x.pass(1);
        due("hoursOfCold(), thawed", x.hoursOfCold(), -1);
        due("hoursOfCold(), thaws and is expired at once", withFrozen(3).hoursOfCold(), 15);
        PromiseShelves fresh = new PromiseShelves();
        fresh.make(0, 2, 0);
        due("hoursOfCold(), expired before it freezes", fresh.hoursOfCold(), -1);
    }

    private static void meanHeat() {
        PromiseShelves x = new PromiseShelves();
        due("meanHeat(), none", x.meanHeat(), 0.0);
        x.make(0, 50, 0);
        due("meanHeat(), one", x.meanHeat(), 20.0);
        x.pass(1);
        x.make(0, 50, 1);
        x.make(0, 1, 2);
        due("meanHeat(), three", x.meanHeat(), 41 / 3.0);
        x.pass(1);
        due("meanHeat(), one expired", x.meanHeat(), (-8 + 1) / 2.0);
        x.keep(1);
        due("meanHeat(), one kept", x.meanHeat(), -8.0);
        x.keep(0);
        due("meanHeat(), all gone", x.meanHeat(), 0.0);
    }

    private static long digestOf(long... numbers) {
        long d = 2017;
        for (long x : numbers) {
            d = d * 31 + x;
        }
        return d;
    }

    private static void digest() {
        PromiseShelves x = new PromiseShelves();
        due("digest() of a new object", x.digest(), digestOf(0, 1, 0, 0, 0, 0, 0, -1,
                -18, -18, 0, -18, -18, 0, -18, -18, 0, -18, -18, 0, -18, -18, 0,
                0, 0, 0, 0, 0, 0, 0, 0, 0, 0, 0, 0));
        PromiseShelves colder = new PromiseShelves();
        colder.set(3, -30);
        colder.pass(1);
        due("digest() with a colder shelf", colder.digest(), digestOf(1, 1, 0, 0, 3, 0, 3, -1,
                -18, -18, 0, -18, -18, 0, -18, -18, 0, -30, -20, 0, -18, -18, 0,
                0, 0, 0, 0, 0, 0, 0, 0, 0, 0, 0, 0));
        x.make(3, 50, 1);
        x.make(4, 2, 2);
        x.make(5, 9, 2);
        x.keep(2);
        x.pass(3);
        x.set(0, -20);
        x.switchPower();
        due("digest() with promises", x.digest(), digestOf(3, 0, 0, 3, 0, 5, 0, 15,
                -20, -18, 0, -18, -18, 1, -18, -18, 0, -18, -18, 0, -18, -18, 0,
                3, 1, -13, 2, 48, 1, 0, 0, 0,
                4, -1, -6, 2, 0, 0, 0, 0, 1,
                5, -1, 20, 0, 9, 0, 0, 1, 0,
                0, 0, 0, 0, 0, 0, 1, 0, 0, -1, 0, 1));
        x.pass(20);
        due("digest() with an alarm", x.digest(), digestOf(23, 0, 1, 3, 0, 5, -1, -1,
                -20, 2, 0, -18, 2, 1, -18, 2, 0, -18, 2, 0, -18, 2, 0,
                3, 1, 2, 8, 42, 0, 1, 0, 0,
                4, -1, -6, 2, 0, 0, 0, 0, 1,
                5, -1, 20, 0, 9, 0, 0, 1, 0,
                0, 0, 0, 0, 0, 0, 1, 0, 0, -1, 0, 1));
    }

    private static final Runnable[] TESTS = {
        PromiseShelvesTest::newObject, PromiseShelvesTest::make, PromiseShelvesTest::move, PromiseShelvesTest::keep,
        PromiseShelvesTest::set, PromiseShelvesTest::switchPower, PromiseShelvesTest::pass, PromiseShelvesTest::hour,
        PromiseShelvesTest::hasPower, PromiseShelvesTest::settingOf, PromiseShelvesTest::heatOn,
        PromiseShelvesTest::promisesOn, PromiseShelvesTest::coldest, PromiseShelvesTest::alarms,
        PromiseShelvesTest::promises, PromiseShelvesTest::makerOf, PromiseShelvesTest::shelfOf,
        PromiseShelvesTest::heatOf, PromiseShelvesTest::ageOf, PromiseShelvesTest::hoursLeft,
        PromiseShelvesTest::isFrozen, PromiseShelvesTest::isThawed, PromiseShelvesTest::isKept,
        PromiseShelvesTest::isExpired, PromiseShelvesTest::owedBy, PromiseShelvesTest::honourOf,
        PromiseShelvesTest::mostHonourable, PromiseShelvesTest::hoursUntilFrozen, PromiseShelvesTest::hoursUntilThawed,
        PromiseShelvesTest::hoursUntilExpired, PromiseShelvesTest::leftIn, PromiseShelvesTest::bestShelf,
        PromiseShelvesTest::hoursOfCold, PromiseShelvesTest::meanHeat, PromiseShelvesTest::digest,
    };

    public static void main(String[] args) {
        for (Runnable test : TESTS) {
            promise++;
            test.run();
        }
        System.out.println(promise + " promises tested, " + wrong + " answers are not as due");
        if (wrong != 0 || promise != 35) {
            System.exit(1);
        }
    }
}
