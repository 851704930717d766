import java.util.Random;

/**
 * Random runs of calls (always the same ones), each answer held against a second machine that is written
 * to the document's letter: it foresees by letting hours go by on a whole copy of itself.
 */
public final class PromiseShelvesModelTest {
    private static final int RUNS = 1500;
    private static final int CALLS = 60;

    private static final class Model implements Cloneable {
        int[] setting = {-18, -18, -18, -18, -18};
        int[] shelfHeat = {-18, -18, -18, -18, -18};
        boolean power = true;
        int hour = 0;
        int alarms = 0;
        int count = 0;
        int[] maker = new int[20];
        int[] life = new int[20];
        int[] age = new int[20];
        int[] heat = new int[20];
        int[] shelf = new int[20];
        char[] is = new char[20]; // f fresh, z frozen, t thawed, k kept, e expired
        int thawedAndExpiredAtOnce = 0;

        Model copy() {
            Model other = new Model();
            other.setting = setting.clone();
            other.shelfHeat = shelfHeat.clone();
            other.power = power;
            other.hour = hour;
            other.alarms = alarms;
            other.count = count;
            other.maker = maker.clone();
            other.life = life.clone();
            other.age = age.clone();
            other.heat = heat.clone();
            other.shelf = shelf.clone();
            other.is = is.clone();
            return other;
        }

        boolean lies(int p) {
            return is[p] == 'f' || is[p] == 'z' || is[p] == 't';
        }

        void door(int s) {
            shelfHeat[s] = shelfHeat[s] + 2 > 20 ? 20 : shelfHeat[s] + 2;
        }

        void anHour() {
            for (int s = 0; s < 5; s++) {
                if (power) {
                    for (int degree = 0; degree < 2; degree++) {
                        shelfHeat[s] += Integer.signum(setting[s] - shelfHeat[s]);
                    }
                } else if (shelfHeat[s] < 20) {
                    shelfHeat[s]++;
                }
            }
            for (int p = 0; p < count; p++) {
                if (!lies(p)) continue;
                int goal = shelfHeat[shelf[p]];
                int apart = Math.abs(goal - heat[p]);
                int by = apart == 0 ? 0 : Math.max(1, apart / 2);
                heat[p] = goal > heat[p] ? heat[p] + by : heat[p] - by;
                boolean rang = false;
                if (is[p] == 'f' && heat[p] <= -10) {
                    is[p] = 'z';
                } else if (is[p] == 'z' && heat[p] > -4) {
                    is[p] = 't';
                    alarms++;
                    rang = true;
                }
                if (is[p] != 'z') {
                    age[p]++;
                    if (age[p] == life[p]) {
                        is[p] = 'e';
                        if (rang) thawedAndExpiredAtOnce++;
                    }
                }
            }
            hour++;
        }

        int make(int who, int hours, int s) {
            if (who < 0 || who > 5 || s < 0 || s > 4) return IOOBE;
            if (hours < 1 || hours > 100) return IAE;
            if (count == 20) return ISE;
            maker[count] = who;
            life[count] = hours;
            shelf[count] = s;
            heat[count] = 20;
            is[count] = 'f';
            door(s);
            return count++;
        }

        int move(int p, int s) {
            if (p < 0 || p >= count || s < 0 || s > 4) return IOOBE;
            if (!lies(p) || shelf[p] == s || is[p] == 't') return ISE;
            int before = shelf[p];
            shelf[p] = s;
            door(before);
            door(s);
            return before;
        }

        int keep(int p) {
            if (p < 0 || p >= count) return IOOBE;
            if (!lies(p)) return ISE;
            is[p] = 'k';
            door(shelf[p]);
            return life[p] - age[p];
        }

        int set(int s, int degrees) {
            if (s < 0 || s > 4) return IOOBE;
            if (degrees < -30 || degrees > -5) return IAE;
            int before = setting[s];
            setting[s] = degrees;
            return before;
        }

        int pass(int hours) {
            if (hours < 1 || hours > 100) return IAE;
            int before = alarms;
            for (int h = 0; h < hours; h++) anHour();
            return alarms - before;
        }

        int on(int s) {
            int n = 0;
            for (int p = 0; p < count; p++) if (lies(p) && shelf[p] == s) n++;
            return n;
        }

        int owed(int who) {
            int n = 0;
            for (int p = 0; p < count; p++) if (lies(p) && maker[p] == who) n++;
            return n;
        }

        int honour(int who) {
            int n = 0;
            for (int p = 0; p < count; p++) {
                if (maker[p] == who && is[p] == 'k') n++;
                if (maker[p] == who && is[p] == 'e') n--;
            }
            return n;
        }

        int coldest() {
            for (int degrees = -30; degrees < 20; degrees++) {
                for (int s = 0; s < 5; s++) if (shelfHeat[s] == degrees) return s;
            }
            return 0;
        }

        int mostHonourable() {
            for (int n = 20; n > -20; n--) {
                for (int who = 0; who < 6; who++) if (honour(who) == n) return who;
            }
            return 0;
        }

        int until(int p, char what) {
            Model other = copy();
            for (int h = 0; h <= 200; h++) {
                if (other.is[p] == what) return h;
                other.anHour();
            }
            return -1;
        }

        int left(int hours) {
            if (hours < 1 || hours > 100) return IAE;
            Model other = copy();
            other.pass(hours);
            int n = 0;
            for (int p = 0; p < count; p++) if (other.lies(p)) n++;
            return n;
        }

        int bestShelf() {
            if (count == 20) return -1;
            int best = -1;
            int soonest = 1000;
            for (int s = 0; s < 5; s++) {
                Model other = copy();
                int hours = other.until(other.make(0, 100, s), 'z');
                if (hours != -1 && hours < soonest) {
                    soonest = hours;
                    best = s;
                }
            }
            return best;
        }

        int hoursOfCold() {
            Model other = copy();
            other.power = false;
            for (int h = 1; h <= 200; h++) {
                if (other.pass(1) > 0) return h;
            }
            return -1;
        }

        double meanHeat() {
            double sum = 0;
            int n = 0;
            for (int p = 0; p < count; p++) {
                if (lies(p)) {
                    sum += heat[p];
                    n++;
                }
            }
            return n == 0 ? 0 : sum / n;
        }

        long digest() {
            long d = 2017;
            int[] heads = {hour, power ? 1 : 0, alarms, count, coldest(), mostHonourable(), bestShelf(), hoursOfCold()};
            for (int x : heads) d = d * 31 + x;
            for (int s = 0; s < 5; s++) {
                for (int x : new int[] {setting[s], shelfHeat[s], on(s)}) d = d * 31 + x;
            }
            for (int p = 0; p < count; p++) {
                int[] row = {maker[p], lies(p) ? shelf[p] : -1, heat[p], age[p], is[p] == 'e' ? 0 : life[p] - age[p],
                    is[p] == 'z' ? 1 : 0, is[p] == 't' ? 1 : 0, is[p] == 'k' ? 1 : 0, is[p] == 'e' ? 1 : 0};
                for (int x : row) d = d * 31 + x;
            }
            for (int who = 0; who < 6; who++) {
                for (int x : new int[] {owed(who), honour(who)}) d = d * 31 + x;
            }
            return d;
        }
    }

    // stand-ins for exceptions, far from all answers
    private static final int IOOBE = -1001;
    private static final int IAE = -1002;
    private static final int ISE = -1003;

    private static int wrong = 0;
    private static long compared = 0;
    private static StringBuilder told = new StringBuilder();

    private interface Call {
        int answer();
    }

    private static int answer(Call call) {
        try {
            return call.answer();
        } catch (IndexOutOfBoundsException e) {
            return e.getClass() == IndexOutOfBoundsException.class ? IOOBE : -2001;
        } catch (IllegalArgumentException e) {
            return e.getClass() == IllegalArgumentException.class ? IAE : -2002;
        } catch (IllegalStateException e) {
            return e.getClass() == IllegalStateException.class ? ISE : -2003;
        }
    }

    private static void due(String call, double got, double want) {
        compared++;
        if (got != want) {
            wrong++;
            if (wrong < 20) System.out.println(told + "\n  " + call + " answered " + got + ", due is " + want);
        }
    }

    private static void compareAll(PromiseShelves x, Model m) {
        due("hour", x.hour(), m.hour);
        due("hasPower", x.hasPower() ? 1 : 0, m.power ? 1 : 0);
        due("alarms", x.alarms(), m.alarms);
        due("promises", x.promises(), m.count);
        due("coldest", x.coldest(), m.coldest());
        due("mostHonourable", x.mostHonourable(), m.mostHonourable());
        due("bestShelf", x.bestShelf(), m.bestShelf());
        due("hoursOfCold", x.hoursOfCold(), m.hoursOfCold());
        due("meanHeat", x.meanHeat(), m.meanHeat());
        for (int s = 0; s < 5; s++) {
            due("settingOf " + s, x.settingOf(s), m.setting[s]);
            due("heatOn " + s, x.heatOn(s), m.shelfHeat[s]);
            due("promisesOn " + s, x.promisesOn(s), m.on(s));
        }
        for (int who = 0; who < 6; who++) {
            due("owedBy " + who, x.owedBy(who), m.owed(who));
            due("honourOf " + who, x.honourOf(who), m.honour(who));
        }
        for (int p = 0; p < m.count; p++) comparePromise(x, m, p);
        due("digest", x.digest() == m.digest() ? 1 : 0, 1);
    }

    private static void comparePromise(PromiseShelves x, Model m, int p) {
        due("makerOf " + p, x.makerOf(p), m.maker[p]);
        due("shelfOf " + p, x.shelfOf(p), m.lies(p) ? m.shelf[p] : -1);
        due("heatOf " + p, x.heatOf(p), m.heat[p]);
        due("ageOf " + p, x.ageOf(p), m.age[p]);
        due("hoursLeft " + p, x.hoursLeft(p), m.is[p] == 'e' ? 0 : m.life[p] - m.age[p]);
        due("isFrozen " + p, x.isFrozen(p) ? 1 : 0, m.is[p] == 'z' ? 1 : 0);
        due("isThawed " + p, x.isThawed(p) ? 1 : 0, m.is[p] == 't' ? 1 : 0);
        due("isKept " + p, x.isKept(p) ? 1 : 0, m.is[p] == 'k' ? 1 : 0);
        due("isExpired " + p, x.isExpired(p) ? 1 : 0, m.is[p] == 'e' ? 1 : 0);
        due("hoursUntilFrozen " + p, x.hoursUntilFrozen(p), m.until(p, 'z'));
        due("hoursUntilThawed " + p, x.hoursUntilThawed(p), m.until(p, 't'));
        due("hoursUntilExpired " + p, x.hoursUntilExpired(p), m.until(p, 'e'));
    }

    private static int within(Random random, int least, int most) {
        return least + random.nextInt(most - least + 1);
    }

    /** Mostly a good number, now and then one just outside. */
    private static int about(Random random, int least, int most) {
        int odd = random.nextInt(40);
        return odd == 0 ? least - 1 : odd == 1 ? most + 1 : within(random, least, most);
    }

    private static void oneCall(Random random, PromiseShelves x, Model m, int longest) {
        int p = about(random, 0, Math.max(0, m.count - 1));
        int s = about(random, 0, 4);
        switch (random.nextInt(12)) {
            case 0: case 1: case 2: {
                int who = about(random, 0, 5);
                int life = random.nextBoolean() ? about(random, 1, 100) : about(random, 1, 12);
                told.append(" make(" + who + "," + life + "," + s + ")");
                due("make", answer(() -> x.make(who, life, s)), m.make(who, life, s));
                break;
            }
            case 3: case 4:
                told.append(" move(" + p + "," + s + ")");
                due("move", answer(() -> x.move(p, s)), m.move(p, s));
                break;
            case 5:
                told.append(" keep(" + p + ")");
                due("keep", answer(() -> x.keep(p)), m.keep(p));
                break;
            case 6: {
                int heat = about(random, -30, -5);
                told.append(" set(" + s + "," + heat + ")");
                due("set", answer(() -> x.set(s, heat)), m.set(s, heat));
                break;
            }
            case 7:
                told.append(" switchPower()");
                m.power = !m.power;
                due("switchPower", x.switchPower() ? 1 : 0, m.power ? 1 : 0);
                break;
            case 8: {
                int hours = about(random, 1, 100);
                told.append(" leftIn(" + hours + ")");
                due("leftIn", answer(() -> x.leftIn(hours)), m.left(hours));
                break;
            }
            default: {
                int hours = about(random, 1, longest);
                told.append(" pass(" + hours + ")");
                due("pass", answer(() -> x.pass(hours)), m.pass(hours));
            }
        }
    }

    public static void main(String[] args) {
        Random random = new Random(2017);
        int alarms = 0;
        int atOnce = 0;
        for (int run = 0; run < RUNS; run++) {
            PromiseShelves x = new PromiseShelves();
            Model m = new Model();
            told.setLength(0);
            told.append("run " + run + ":");
            int longest = run % 3 == 0 ? 100 : run % 3 == 1 ? 12 : 3;
            compareAll(x, m);
            for (int call = 0; call < CALLS; call++) {
                oneCall(random, x, m, longest);
                if (call % 4 == 3) compareAll(x, m);
            }
            alarms += m.alarms;
            atOnce += m.thawedAndExpiredAtOnce;
        }
        if (alarms < 1000 || atOnce < 5) {
            wrong++;
            System.out.println("the runs are too tame: alarms " + alarms + ", thawed and expired at once " + atOnce);
        }
        System.out.println(compared + " answers compared, " + wrong + " of them wrong; alarms " + alarms + ", thawed and expired at once " + atOnce);
        if (wrong != 0) System.exit(1);
    }
}
