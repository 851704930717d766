import java.lang.reflect.InvocationTargetException;
import java.lang.reflect.Method;
import java.lang.reflect.Modifier;
import java.util.ArrayList;
import java.util.HashMap;
import java.util.List;
import java.util.Map;
import java.util.Set;

/**
 * Each sentence of the document that names a boundary case, with runs of its own that a machine without it fails.
 *
 * A line "> .." is a sentence, under the place where the document says it; each line behind it is a run of calls on a
 * new object, up to the next sentence; a line that ends with ";" goes on in the next one. A call is "name arguments",
 * with "= answer" where one is due; "a|b|c" stands for the call with each of these arguments, and "20* call" for the
 * call 20 times. Behind each run the object must look like a twin of which no question was asked and no call made that
 * is due to throw: so "changes nothing" and "(nothing is changed)" are asked of every such call here.
 */
public final class PromiseShelvesEdgeTest {
    private static final Map<String, String> THROWN = Map.of(
            "IndexOutOfBoundsException", "INDEX",
            "IllegalArgumentException", "ARGUMENT",
            "IllegalStateException", "STATE");
    private static final Map<String, Integer> FARTHEST = Map.of("MIN", Integer.MIN_VALUE, "MAX", Integer.MAX_VALUE);
    private static final Set<String> CHANGING = Set.of("make", "move", "keep", "set", "switchPower", "pass");
    private static final Map<String, Method> METHODS = methods();

    private static final String FACE_AND_TERMS = """
            > The public face: An object is used for at most 512 calls after it has been made
            511* pass 100; hour = 51100
            make 0 100 0 = 0; set 0 -30; pass 6; 507* digest; keep 0 = 98; heatOn 0 = -26

            > Terms: All numbers are whole, and / is cut towards 0. (39 apart, colder; 3 apart, warmer)
            set 0 -19; pass 1; heatOn 0 = -19; make 0 50 0; pass 1; heatOf 0 = 1
            make 0 50 0; pass 7; heatOf 0 = -18; set 0 -5; pass 1; heatOf 0 = -17; pass 1; heatOf 0 = -16

            > Terms: Time is told in hours, from 0
            hour = 0; pass 1; hour = 1

            > Terms: Five, numbered from 0
            heatOn 0|1|2|3|4 = -18; heatOn -1|5 = INDEX

            > Terms: each has a setting, -30 to -5 (-18, at first)
            settingOf 0|1|2|3|4 = -18
            set 0 -30 = -18; settingOf 0 = -30; set 0 -31 = ARGUMENT
            set 4 -5 = -18; settingOf 4 = -5; set 4 -4 = ARGUMENT

            > Terms: and a heat, -30 to 20 (-18, at first)
            heatOn 0|1|2|3|4 = -18
            set 0 -30; pass 5; heatOn 0 = -28; pass 1; heatOn 0 = -30; pass 1; heatOn 0 = -30; pass 100; heatOn 0 = -30
            switchPower; pass 37; heatOn 0|4 = 19; pass 1; heatOn 0|4 = 20; pass 100; heatOn 0|4 = 20

            > Terms: Power is on (at first), or off.
            hasPower = true; switchPower; hasPower = false; pass 100; hasPower = false

            > Terms: At most 20, numbered from 0, in the order in which they are made
            make 3 9 1 = 0; make 2 8 1 = 1; make 1 7 1 = 2; makerOf 0 = 3; makerOf 1 = 2; makerOf 2 = 1
            make 0 9 0 = 0; keep 0; make 0 1 0 = 1; pass 1; isExpired 1 = true; make 0 9 0 = 2
            19* make 0 100 0; make 0 100 0 = 19; makerOf 19 = 0; make 0 100 0 = STATE; promises = 20

            > Terms: each is of somebody, 0 to 5
            make 0 9 0 = 0; make 5 9 0 = 1; makerOf 0 = 0; makerOf 1 = 5; make -1|6 9 0 = INDEX

            > Terms: has a life of 1 to 100 hours
            make 0 1 0 = 0; make 0 100 0 = 1; hoursLeft 0 = 1; hoursLeft 1 = 100; make 0 0|101 0 = ARGUMENT

            > Terms: an age (0, at first)
            pass 3; make 0 1 0; ageOf 0 = 0

            > Terms: and lies on a shelf, as long as it is neither kept nor expired
            make 0 2 4; shelfOf 0 = 4; pass 1; shelfOf 0 = 4; pass 1; shelfOf 0 = -1; promisesOn 4 = 0
            make 0 2 4; pass 1; keep 0; shelfOf 0 = -1; promisesOn 4 = 0; heatOf 0 = 1; pass 1; heatOf 0 = 1

            > Terms: both are for good
            make 0 2 0; pass 1; keep 0; pass 100; isKept 0 = true; isExpired 0 = false; ageOf 0 = 1
            make 0 1 0; pass 1; keep 0 = STATE; pass 100; isExpired 0 = true; isKept 0 = false; ageOf 0 = 1

            > Terms: fresh at first
            make 0 9 0; isFrozen 0 = false; isThawed 0 = false
            set 0 -30; pass 6; make 0 9 0; isFrozen 0 = false; pass 1; isFrozen 0 = false; pass 1; isFrozen 0 = true

            > Terms: a fresh one whose heat is -10 or less is frozen
            set 0 -10; pass 4; make 0 100 0; pass 5; heatOf 0 = -9; isFrozen 0 = false;
                pass 1; heatOf 0 = -10; isFrozen 0 = true
            set 0 -9; pass 5; make 0 100 0; pass 50; heatOf 0 = -9; isFrozen 0 = false

            > Terms: a frozen one whose heat is more than -4 is thawed
            make 0 50 0; pass 7; switchPower; pass 14; heatOf 0 = -4; isFrozen 0 = true; isThawed 0 = false;
                pass 1; heatOf 0 = -3; isFrozen 0 = false; isThawed 0 = true
            set 0 -5; pass 7; make 0 50 0; pass 30; heatOf 0 = -5; isThawed 0 = false; isFrozen 0 = false

            > Terms: and an alarm rings (as a frozen one thaws, not for a fresh one that is warm, or for a thawed one)
            make 0 50 0; pass 7; switchPower; pass 14 = 0; alarms = 0; pass 1 = 1; pass 1 = 0; alarms = 1
            switchPower; pass 10; make 0 50 0; heatOn 0 = -6; pass 49 = 0; isThawed 0 = false; alarms = 0

            > Terms: a thawed one stays so
            make 0 100 0; pass 7; switchPower; pass 15 = 1; switchPower; pass 20 = 0; heatOf 0 = -18;
                isFrozen 0 = false;
                isThawed 0 = true; hoursUntilFrozen 0 = -1; switchPower; pass 16 = 0; alarms = 1; isThawed 0 = true

            > Terms: A door is opened, if a promise is laid on its shelf (its heat is 2 more, and that of no other)
            make 0 50 2; heatOn 2 = -16; heatOn 0|1|3|4 = -18; make 0 50 2; heatOn 2 = -14

            > Terms: moved from it or to it
            make 0 50 2; move 0 3; heatOn 2 = -14; heatOn 3 = -16; heatOn 0|1|4 = -18

            > Terms: or kept (and by nothing else: one that is expired leaves it shut)
            make 0 50 2; keep 0; heatOn 2 = -14; heatOn 0|1|3|4 = -18
            make 0 1 2; pass 1; isExpired 0 = true; heatOn 2 = -18

            > Terms: at most 20 (laid at 18, 19 and 20; moved from 19 and to 19, from 20 and to 20; kept at 19 and 20)
            switchPower; pass 36; heatOn 0 = 18; make 0 50 0; heatOn 0 = 20
            switchPower; pass 37; heatOn 0 = 19; make 0 50 0; heatOn 0 = 20; make 0 50 0; heatOn 0 = 20
            switchPower; pass 38; make 0 50 0; switchPower; pass 1; switchPower; pass 1; heatOn 0|1 = 19;
                move 0 1; heatOn 0|1 = 20; move 0 0; heatOn 0|1 = 20
            switchPower; pass 38; make 0 50 0; keep 0; heatOn 0 = 20
            switchPower; pass 38; make 0 50 0; switchPower; pass 1; switchPower; pass 1; heatOn 0 = 19; keep 0;
                heatOn 0 = 20
            """;

    private static final String AN_HOUR = """
            > An hour 1: with power its heat goes up to 2 towards its setting (0, 1, 2 and 3 below; 1, 2 and 3 above)
            set 1 -19; set 2 -20; set 3 -21; pass 1; heatOn 0 = -18; heatOn 1 = -19; heatOn 2|3 = -20;
                pass 1; heatOn 0 = -18; heatOn 1 = -19; heatOn 2 = -20; heatOn 3 = -21
            set 1 -17; set 2 -16; set 3 -15; pass 1; heatOn 0 = -18; heatOn 1 = -17; heatOn 2|3 = -16;
                pass 1; heatOn 0 = -18; heatOn 1 = -17; heatOn 2 = -16; heatOn 3 = -15

            > An hour 1: without power it is 1 more (whatever its setting is)
            set 0 -30; set 1 -5; set 2 -17; switchPower; pass 1; heatOn 0|1|2|3|4 = -17; pass 15; heatOn 0|1|2|3|4 = -2

            > An hour 1: at most 20
            switchPower; pass 37; heatOn 3 = 19; pass 1; heatOn 3 = 20; pass 1; heatOn 3 = 20

            > An hour 2: its heat goes towards that of its shelf (as it is behind 1)
            set 0 -30; make 0 50 0; heatOn 0 = -16; pass 1; heatOn 0 = -18; heatOf 0 = 1
            set 4 -30; make 0 50 0; pass 20; move 0 4; pass 20; heatOf 0 = -30

            > An hour 2: by half of how far they are apart, but by 1 at least, if they are apart at all
            make 0 50 0; pass 1; heatOf 0 = 1; pass 1; heatOf 0 = -8; pass 1; heatOf 0 = -13; pass 1; heatOf 0 = -15;
                pass 1; heatOf 0 = -16; pass 1; heatOf 0 = -17; pass 1; heatOf 0 = -18; pass 1; heatOf 0 = -18
            make 0 50 0; pass 7; set 0 -5; pass 2; heatOf 0 = -16; pass 1; heatOf 0 = -14; pass 1; heatOf 0 = -12;
                pass 2; heatOf 0 = -8; pass 1; heatOf 0 = -7; pass 1; heatOf 0 = -6; pass 1; heatOf 0 = -5;
                pass 1; heatOf 0 = -5

            > An hour 2: Then it may be frozen or thawed by that. (not by an opened door, before the hour goes)
            make 0 100 0; pass 3; isFrozen 0 = true; 19* make 0 100 0; heatOn 0 = 20; isFrozen 0 = true; alarms = 0;
                pass 1 = 1; heatOf 0 = 2; isThawed 0 = true

            > An hour 3: Each promise on a shelf that is not frozen then is 1 hour older (freezing, frozen, thawing)
            make 0 50 0; pass 2; ageOf 0 = 2; pass 1; isFrozen 0 = true; ageOf 0 = 2; pass 100; ageOf 0 = 2
            make 0 50 0; pass 7; switchPower; pass 14; ageOf 0 = 2; pass 1; isThawed 0 = true; ageOf 0 = 3;
                pass 1; ageOf 0 = 4

            > An hour 3: if it is as old as its life then, it is expired (a life of 1, of 100, and one that is frozen)
            make 0 1 0; isExpired 0 = false; pass 1; isExpired 0 = true; ageOf 0 = 1
            set 0 -5; pass 7; make 0 100 0; pass 99; isExpired 0 = false; ageOf 0 = 99; pass 1; isExpired 0 = true;
                ageOf 0 = 100; pass 1; ageOf 0 = 100
            make 0 3 0; pass 100; ageOf 0 = 2; isExpired 0 = false; isFrozen 0 = true
            make 0 3 0; pass 7; switchPower; pass 15 = 1; isThawed 0 = false; isExpired 0 = true; ageOf 0 = 3;
                alarms = 1

            > An hour 4: The hour is 1 greater.
            pass 1; hour = 1; pass 2; hour = 3; pass 100; hour = 103

            > Terms: A method that throws an exception changes nothing.
            make 0 3 0; make 1 50 1; make 2 1 2; make 3 50 3; keep 3; pass 3; switchPower;
                make -1|6 5 0 = INDEX; make 0 5 -1|5 = INDEX; make 0 0|101 0 = ARGUMENT;
                move -1|4 0 = INDEX; move 0 -1|5 = INDEX; move 0 0 = STATE; move 2|3 1 = STATE;
                keep -1|4 = INDEX; keep 2|3 = STATE; set -1|5 -20 = INDEX; set 0 -31|-4 = ARGUMENT;
                pass 0|101 = ARGUMENT; leftIn 0|101 = ARGUMENT; settingOf -1|5 = INDEX; makerOf -1|4 = INDEX
            20* make 0 50 0; make 0 50 1 = STATE; heatOn 1 = -18
            make 0 50 0; pass 7; switchPower; pass 20; isThawed 0 = true; move 0 1 = STATE; heatOn 0 = 2; heatOn 1 = 2

            > Terms: If several exceptions apply, the one that is named first is thrown.
            make -1|6 0|101 0 = INDEX; make 0 0|101 -1|5 = INDEX; make 6 101 5 = INDEX
            20* make 0 50 0; make 6 0 5 = INDEX; make 6 1 0 = INDEX; make 0 1 5 = INDEX; make 0 0|101 0 = ARGUMENT
            make 0 50 0; keep 0; move 0 -1|5 = INDEX; move 1 5 = INDEX
            make 0 1 0; pass 1; move 0 -1|5 = INDEX
            make 0 50 0; pass 7; switchPower; pass 20; isThawed 0 = true; move 0 -1|5 = INDEX
            set -1|5 -31|-4 = INDEX
            """;

    private static final String PROMISES = """
            > 1: Creates a machine without promises
            promises = 0; promisesOn 0|1|2|3|4 = 0; owedBy 0|1|2|3|4|5 = 0; shelfOf 0 = INDEX; alarms = 0

            > 1: in the hour 0
            hour = 0

            > 2: Makes a promise, with a heat of 20 (whatever the heat of the shelf is)
            make 0 9 0; heatOf 0 = 20; set 1 -30; pass 6; make 0 9 1; heatOf 1 = 20

            > 2: its door is opened
            make 0 9 4; heatOn 4 = -16; heatOn 0|1|2|3 = -18

            > 2: Returns its number. (from the first to the last)
            make 5 9 4 = 0; make 5 9 4 = 1; 17* make 0 9 0; make 5 9 4 = 19

            > 2: Throws IndexOutOfBoundsException if maker is not 0 to 5
            make 0 9 0 = 0; make 5 9 0 = 1; make -1|6|MIN|MAX 9 0 = INDEX; promises = 2

            > 2: or shelf is not 0 to 4
            make 0 9 0 = 0; make 0 9 4 = 1; make 0 9 -1|5|MIN|MAX = INDEX; promises = 2

            > 2: Throws IllegalArgumentException if life is not 1 to 100
            make 0 1 0 = 0; make 0 100 0 = 1; make 0 0|-1|101|MIN|MAX 0 = ARGUMENT; promises = 2

            > 2: Throws IllegalStateException if there are 20 (kept and expired ones too)
            19* make 0 9 0; make 0 9 0 = 19; make 0 9 0 = STATE; make 5 100 4 = STATE
            19* make 0 1 0; make 0 9 0; keep 19; make 0 9 0 = STATE; pass 1; isExpired 0 = true; make 0 9 0 = STATE

            > 3: Moves a promise to another shelf (a fresh one, and a frozen one, which are so still)
            make 0 50 0; move 0 4 = 0; shelfOf 0 = 4; promisesOn 0 = 0; promisesOn 4 = 1; heatOf 0 = 20; ageOf 0 = 0;
                isFrozen 0 = false
            make 0 50 0; pass 3; move 0 4 = 0; shelfOf 0 = 4; isFrozen 0 = true; heatOf 0 = -13; ageOf 0 = 2

            > 3: both doors are opened
            make 0 50 0; move 0 4; heatOn 0 = -14; heatOn 4 = -16; heatOn 1|2|3 = -18

            > 3: Returns the shelf on which it lay. (the first, the last, the one to which it was moved)
            make 0 50 0; move 0 4 = 0; move 0 2 = 4; move 0 0 = 2

            > 3: Throws IndexOutOfBoundsException if there is no such promise
            move 0 0 = INDEX; make 0 50 0; move -1|1|20|MIN|MAX 1 = INDEX; move 0 1 = 0
            20* make 0 50 0; move 20 1 = INDEX; move 19 1 = 0

            > 3: or shelf is not 0 to 4
            make 0 50 2; move 0 -1|5|MIN|MAX = INDEX; move 0 0 = 2; move 0 4 = 0

            > 3: Throws IllegalStateException if it lies on no shelf
            make 0 50 0; keep 0; move 0 0|1|4 = STATE
            make 0 1 0; pass 1; move 0 0|1|4 = STATE

            > 3: lies on this one
            make 0 50 0; move 0 0 = STATE; move 0 4; move 0 4 = STATE; pass 9; isFrozen 0 = true; move 0 4 = STATE

            > 3: or is thawed (also one that is cold again)
            make 0 100 0; pass 7; switchPower; pass 14; pass 1 = 1; move 0 1 = STATE; move 0 0 = STATE; switchPower;
                pass 20; heatOf 0 = -18; move 0 1 = STATE; shelfOf 0 = 0

            > 4: Keeps a promise: it does not lie on its shelf any more
            make 0 50 3; make 1 50 3; keep 0; shelfOf 0 = -1; promisesOn 3 = 1; owedBy 0 = 0; isKept 0 = true

            > 4: whose door is opened
            make 0 50 3; keep 0; heatOn 3 = -14; heatOn 0|1|2|4 = -18

            > 4: Returns how many hours of its life were left. (all, one; a fresh, a frozen, a thawed one)
            make 0 100 0; make 0 1 1; keep 0 = 100; keep 1 = 1
            make 0 2 0; pass 1; keep 0 = 1
            make 0 3 0; pass 50; isFrozen 0 = true; keep 0 = 1
            make 0 50 0; pass 7; switchPower; pass 15; isThawed 0 = true; keep 0 = 47

            > 4: Throws IndexOutOfBoundsException if there is no such promise
            keep 0 = INDEX; make 0 50 0; keep -1|1|20|MIN|MAX = INDEX; keep 0 = 50
            20* make 0 50 0; keep 20 = INDEX; keep 19 = 50

            > 4: Throws IllegalStateException if it lies on no shelf
            make 0 50 0; keep 0; keep 0 = STATE
            make 0 1 0; pass 1; keep 0 = STATE; honourOf 0 = -1
            """;

    private static final String MACHINE_AND_SHELVES = """
            > 5: its setting from now on (of this shelf alone; its heat is as it was)
            set 4 -30; settingOf 4 = -30; settingOf 0|1|2|3 = -18; heatOn 4 = -18; pass 1; heatOn 4 = -20;
                heatOn 3 = -18

            > 5: Returns the setting before. (the first one; the same again)
            set 0 -30 = -18; set 0 -30 = -30; set 0 -5 = -30; set 4 -18 = -18

            > 5: Throws IndexOutOfBoundsException if shelf is not 0 to 4
            set 0 -20 = -18; set 4 -20 = -18; set -1|5|MIN|MAX -20 = INDEX

            > 5: Throws IllegalArgumentException if heat is not -30 to -5
            set 0 -30 = -18; set 0 -5 = -30; set 0 -31|-4|0|5|30|MIN|MAX = ARGUMENT; settingOf 0 = -5

            > 6: Switches the power off, or on again.
            switchPower; pass 1; heatOn 0 = -17; switchPower; pass 1; heatOn 0 = -18

            > 6: Returns whether it is on then.
            switchPower = false; switchPower = true; switchPower = false

            > 7: Lets hours go by. (1; 100)
            pass 1; hour = 1
            pass 100; hour = 100

            > 7: Returns how many alarms ring in them. (none; two in one hour; none of those before)
            pass 100 = 0
            make 0 50 0; make 1 50 4; pass 20 = 0; switchPower; pass 14 = 0; pass 1 = 2; pass 1 = 0
            make 0 50 0; pass 20; set 4 -30; make 1 50 4; pass 30; switchPower; pass 26 = 1; pass 1 = 1; alarms = 2

            > 7: Throws IllegalArgumentException if hours is not 1 to 100
            pass 0|-1|101|MIN|MAX = ARGUMENT; hour = 0; pass 1 = 0; pass 100 = 0; hour = 101

            > 8: Returns the hour. (also behind what takes no time)
            make 0 9 0; move 0 1; keep 0; set 0 -9; switchPower; leftIn 100; hour = 0; pass 7; hour = 7

            > 9: Returns whether the power is on.
            hasPower = true; switchPower; hasPower = false; hoursOfCold; hasPower = false; switchPower; hoursOfCold;
                hasPower = true

            > 10: Throws IndexOutOfBoundsException if shelf is not 0 to 4
            set 0 -30; set 4 -5; settingOf 0 = -30; settingOf 4 = -5; settingOf -1|5|MIN|MAX = INDEX

            > 11: Throws IndexOutOfBoundsException if shelf is not 0 to 4
            make 0 9 0; keep 0; make 0 9 4; heatOn 0 = -14; heatOn 4 = -16; heatOn -1|5|MIN|MAX = INDEX

            > 12: Returns how many promises lie on it. (none, 20, not those that are kept or expired)
            promisesOn 0|1|2|3|4 = 0
            20* make 0 50 4; promisesOn 4 = 20; promisesOn 0 = 0
            make 0 50 2; make 0 1 2; make 0 50 2; pass 1; promisesOn 2 = 2; keep 0; promisesOn 2 = 1; move 2 3;
                promisesOn 2 = 0; promisesOn 3 = 1

            > 12: Throws IndexOutOfBoundsException if shelf is not 0 to 4
            make 0 9 0; make 0 9 4; make 0 9 4; promisesOn 0 = 1; promisesOn 4 = 2; promisesOn -1|5|MIN|MAX = INDEX

            > 13: Returns the coldest shelf (not the one with the coldest setting)
            set 4 -30; make 0 9 0; coldest = 1; pass 1; coldest = 4
            set 4 -20; set 3 -21; pass 3; coldest = 3

            > 13: of several the smallest number
            coldest = 0; make 0 9 0; coldest = 1; make 0 9 1; coldest = 2; make 0 9 2; make 0 9 3; coldest = 4;
                make 0 9 4; coldest = 0
            set 2 -30; set 4 -30; pass 20; coldest = 2
            switchPower; pass 100; coldest = 0

            > 14: Returns how many alarms rang in all. (none; those of promises that are kept or expired too)
            alarms = 0; make 0 3 0; make 1 50 0; pass 7; alarms = 0; switchPower; pass 15; alarms = 2; keep 1;
                alarms = 2;
                switchPower; pass 20; make 0 50 0; pass 7; switchPower; pass 15; alarms = 3

            > 15: Returns how many promises were made. (none, 20, also kept and expired ones)
            promises = 0; make 0 1 0; promises = 1; make 0 9 0; keep 1; pass 1; promises = 2
            20* make 0 1 0; promises = 20; pass 1; promises = 20
            """;

    private static final String WHAT_PROMISES_ARE = """
            > 16: Throws IndexOutOfBoundsException if there is no such promise
            makerOf 0 = INDEX; make 5 50 0; makerOf 0 = 5; makerOf -1|1|19|20|MIN|MAX = INDEX
            20* make 4 50 0; makerOf 0|19 = 4; makerOf -1|20 = INDEX; keep 19; makerOf 19 = 4

            > 17: Returns the shelf on which it lies (the first, the last)
            make 0 50 0; make 0 50 4; shelfOf 0 = 0; shelfOf 1 = 4

            > 17: -1 if on none
            make 0 50 3; keep 0; shelfOf 0 = -1; make 0 1 3; shelfOf 1 = 3; pass 1; shelfOf 1 = -1

            > 17: Throws IndexOutOfBoundsException if there is no such promise
            shelfOf 0 = INDEX; make 5 50 0; shelfOf 0 = 0; shelfOf -1|1|19|20|MIN|MAX = INDEX
            20* make 0 50 2; shelfOf 0|19 = 2; shelfOf -1|20 = INDEX

            > 18: Returns its heat, or the one that it had at last on a shelf.
            make 0 50 0; heatOf 0 = 20; pass 1; heatOf 0 = 1; keep 0; pass 20; heatOf 0 = 1
            make 0 2 0; pass 2; isExpired 0 = true; heatOf 0 = -8; pass 20; heatOf 0 = -8
            make 0 50 0; keep 0; heatOf 0 = 20; pass 1; heatOf 0 = 20

            > 18: Throws IndexOutOfBoundsException if there is no such promise
            heatOf 0 = INDEX; make 5 50 0; heatOf 0 = 20; heatOf -1|1|19|20|MIN|MAX = INDEX
            20* make 0 50 2; heatOf 0|19 = 20; heatOf -1|20 = INDEX

            > 19: Returns its age. (0; its whole life; as it was kept)
            make 0 2 0; make 0 9 1; ageOf 0 = 0; pass 1; keep 1; pass 20; ageOf 0 = 2; isExpired 0 = true; ageOf 1 = 1

            > 19: Throws IndexOutOfBoundsException if there is no such promise
            ageOf 0 = INDEX; make 5 50 0; ageOf 0 = 0; ageOf -1|1|19|20|MIN|MAX = INDEX
            20* make 0 50 2; ageOf 0|19 = 0; ageOf -1|20 = INDEX

            > 20: Returns how many hours of its life are left (all; one; as it was kept)
            make 0 2 0; make 0 50 1; hoursLeft 0 = 2; pass 1; hoursLeft 0 = 1; keep 1; pass 20; hoursLeft 1 = 49

            > 20: 0 for an expired one
            make 0 1 0; pass 1; isExpired 0 = true; hoursLeft 0 = 0; pass 100; hoursLeft 0 = 0

            > 20: Throws IndexOutOfBoundsException if there is no such promise
            hoursLeft 0 = INDEX; make 5 50 0; hoursLeft 0 = 50; hoursLeft -1|1|19|20|MIN|MAX = INDEX
            20* make 0 50 2; hoursLeft 0|19 = 50; hoursLeft -1|20 = INDEX

            > 21: Returns whether it lies on a shelf, and is frozen. (not one that was frozen as it was kept)
            make 0 50 0; isFrozen 0 = false; pass 3; isFrozen 0 = true; keep 0; isFrozen 0 = false
            make 0 50 0; pass 7; switchPower; pass 15; isThawed 0 = true; isFrozen 0 = false
            make 0 2 0; pass 9; isExpired 0 = true; isFrozen 0 = false

            > 21: Throws IndexOutOfBoundsException if there is no such promise
            isFrozen 0 = INDEX; make 5 50 0; pass 9; isFrozen 0 = true; isFrozen -1|1|19|20|MIN|MAX = INDEX
            20* make 0 50 2; pass 40; isFrozen 0|19 = true; isFrozen -1|20 = INDEX

            > 22: Returns whether it lies on a shelf, and is thawed. (not one that was thawed as it was kept or expired)
            make 0 50 0; pass 7; isThawed 0 = false; switchPower; pass 15; isThawed 0 = true; keep 0; isThawed 0 = false
            make 0 4 0; pass 7; switchPower; pass 15; isThawed 0 = true; pass 1; isExpired 0 = true; isThawed 0 = false
            make 0 3 0; pass 7; switchPower; pass 15; isExpired 0 = true; isThawed 0 = false

            > 22: Throws IndexOutOfBoundsException if there is no such promise
            isThawed 0 = INDEX; make 5 50 0; isThawed 0 = false; isThawed -1|1|19|20|MIN|MAX = INDEX
            20* make 0 50 2; isThawed 0|19 = false; isThawed -1|20 = INDEX

            > 23: Returns whether it is kept. (not one that lies on a shelf, or is expired)
            make 0 50 0; make 0 1 0; isKept 0|1 = false; pass 1; isKept 1 = false; keep 0; isKept 0 = true; pass 100;
                isKept 0 = true; isKept 1 = false

            > 23: Throws IndexOutOfBoundsException if there is no such promise
            isKept 0 = INDEX; make 5 50 0; isKept 0 = false; isKept -1|1|19|20|MIN|MAX = INDEX
            20* make 0 50 2; isKept 0|19 = false; isKept -1|20 = INDEX

            > 24: Returns whether it is expired. (not one with an hour left, or kept in its last hour)
            make 0 2 0; make 0 2 1; pass 1; isExpired 0|1 = false; keep 1; pass 1; isExpired 0 = true;
                isExpired 1 = false;
                pass 100; isExpired 0 = true; isExpired 1 = false

            > 24: Throws IndexOutOfBoundsException if there is no such promise
            isExpired 0 = INDEX; make 5 50 0; isExpired 0 = false; isExpired -1|1|19|20|MIN|MAX = INDEX
            20* make 0 50 2; isExpired 0|19 = false; isExpired -1|20 = INDEX
            """;

    private static final String PEOPLE = """
            > 25: Returns how many promises of this one lie on shelves. (none, 20, not those that are kept or expired)
            owedBy 0|1|2|3|4|5 = 0
            20* make 0 50 0; owedBy 0 = 20; owedBy 1|2|3|4|5 = 0
            make 5 50 0; make 5 1 1; make 5 50 2; owedBy 5 = 3; pass 1; owedBy 5 = 2; keep 0; owedBy 5 = 1; owedBy 0 = 0

            > 25: Throws IndexOutOfBoundsException if maker is not 0 to 5
            make 0 50 0; make 5 50 0; owedBy 0|5 = 1; owedBy -1|6|MIN|MAX = INDEX

            > 26: Returns how many promises of this one are kept, less those that are expired. (below 0, 0, above 0)
            make 5 50 0; make 5 1 0; make 4 1 0; make 3 9 0; honourOf 5|4|3 = 0; keep 0; honourOf 5 = 1; pass 1;
                honourOf 5 = 0; honourOf 4 = -1; honourOf 3 = 0
            20* make 0 1 0; pass 1; honourOf 0 = -20

            > 26: Throws IndexOutOfBoundsException if maker is not 0 to 5
            make 0 50 0; keep 0; make 5 50 0; keep 1; honourOf 0|5 = 1; honourOf -1|6|MIN|MAX = INDEX

            > 27: Returns the one, 0 to 5, with the most honour
            make 5 9 0; keep 0; mostHonourable = 5
            make 0 1 0; make 1 1 0; make 2 1 0; make 3 1 0; make 4 1 0; pass 1; mostHonourable = 5
            make 3 9 0; make 3 9 0; make 2 9 0; keep 0; keep 2; mostHonourable = 2; keep 1; mostHonourable = 3

            > 27: of several the smallest number (all with 0; two above 0; all below 0)
            mostHonourable = 0
            make 4 9 0; make 2 9 0; keep 0; mostHonourable = 4; keep 1; mostHonourable = 2
            make 0 1 0; make 0 1 0; make 1 1 0; make 2 1 0; make 3 1 0; make 4 1 0; make 5 1 0; pass 1;
                mostHonourable = 1
            """;

    private static final String WHAT_WOULD_BE = """
            > 28: Returns behind how many hours it is frozen, if nothing else is done
            make 0 50 0; hoursUntilFrozen 0 = 3; pass 2; hoursUntilFrozen 0 = 1; isFrozen 0 = false; pass 1;
                isFrozen 0 = true
            make 0 50 0; switchPower; hoursUntilFrozen 0 = 4; pass 4; isFrozen 0 = true
            make 0 3 0; make 0 2 1; hoursUntilFrozen 0 = 3; hoursUntilFrozen 1 = -1

            > 28: 0 if it is now
            make 0 50 0; pass 3; hoursUntilFrozen 0 = 0; pass 100; hoursUntilFrozen 0 = 0; switchPower;
                hoursUntilFrozen 0 = 0

            > 28: at most 200 (as late as it can be: one of a life of 17 is frozen in its last hour)
            switchPower; pass 100; switchPower; set 0 -10; make 0 100 0; make 0 17 0; make 0 16 0; heatOn 0 = 20;
                hoursUntilFrozen 0|1 = 17; hoursUntilFrozen 2 = -1; pass 16; isFrozen 0|1 = false; isExpired 2 = true;
                pass 1; isFrozen 0|1 = true; heatOf 0 = -10

            > 28: -1 if not by then (too warm; thawed; kept; expired)
            set 0 -9; pass 5; make 0 100 0; hoursUntilFrozen 0 = -1; set 0 -10; hoursUntilFrozen 0 = 6
            make 0 50 0; pass 7; switchPower; pass 15; switchPower; isThawed 0 = true; hoursUntilFrozen 0 = -1
            make 0 50 0; make 0 50 0; keep 0; pass 3; keep 1; hoursUntilFrozen 0|1 = -1
            make 0 1 0; pass 1; hoursUntilFrozen 0 = -1

            > 28: (nothing is changed)
            make 0 50 0; hoursUntilFrozen 0 = 3; hoursUntilFrozen 0 = 3; hour = 0; heatOn 0 = -16; heatOf 0 = 20;
                isFrozen 0 = false; pass 2; heatOf 0 = -8; isFrozen 0 = false

            > 28: Throws IndexOutOfBoundsException if there is no such promise
            hoursUntilFrozen 0 = INDEX; make 5 50 0; hoursUntilFrozen 0 = 3; hoursUntilFrozen -1|1|19|20|MIN|MAX = INDEX
            20* make 0 50 4; hoursUntilFrozen 0|19 = 16; hoursUntilFrozen -1|20 = INDEX

            > 29: Returns behind how many hours it is thawed (a frozen one, and a fresh one that freezes before)
            make 0 50 0; pass 7; switchPower; hoursUntilThawed 0 = 15; pass 14; hoursUntilThawed 0 = 1;
                isThawed 0 = false; pass 1; isThawed 0 = true
            switchPower; make 0 50 0; hoursUntilThawed 0 = 13; pass 12; isThawed 0 = false; pass 1; isThawed 0 = true

            > 29: likewise (0 if it is now)
            make 0 50 0; pass 7; switchPower; pass 15; hoursUntilThawed 0 = 0; switchPower; hoursUntilThawed 0 = 0;
                pass 30; heatOf 0 = -18; hoursUntilThawed 0 = 0

            > 29: likewise (at most 200: as late as it can be)
            set 0 -30; pass 6; make 0 100 0; pass 30; heatOf 0 = -30; hoursUntilThawed 0 = -1; switchPower;
                hoursUntilThawed 0 = 27; pass 26; isThawed 0 = false; pass 1; isThawed 0 = true

            > 29: likewise (-1 if not by then: with power; too warm to freeze; kept; expired)
            make 0 50 0; hoursUntilThawed 0 = -1; pass 9; hoursUntilThawed 0 = -1; set 0 -5; hoursUntilThawed 0 = -1
            switchPower; pass 10; make 0 100 0; hoursUntilThawed 0 = -1
            make 0 50 0; make 0 50 0; pass 7; switchPower; keep 0; pass 15; keep 1; hoursUntilThawed 0|1 = -1
            make 0 4 0; pass 7; switchPower; pass 16; isExpired 0 = true; hoursUntilThawed 0 = -1

            > 29: one that thaws and is expired in the same hour is not, behind it
            make 0 3 0; make 0 4 0; pass 20; switchPower; hoursUntilThawed 0 = -1; hoursUntilThawed 1 = 15; pass 15 = 2;
                isThawed 0 = false; isExpired 0 = true; hoursUntilThawed 0 = -1; isThawed 1 = true

            > 29: (nothing is changed)
            make 0 50 0; pass 7; switchPower; 2* hoursUntilThawed 0 = 15; alarms = 0; heatOn 0 = -18; isFrozen 0 = true;
                hour = 7; pass 14 = 0; isFrozen 0 = true

            > 29: Throws IndexOutOfBoundsException if there is no such promise
            hoursUntilThawed 0 = INDEX; make 5 50 0; hoursUntilThawed 0 = -1;
                hoursUntilThawed -1|1|19|20|MIN|MAX = INDEX
            20* make 0 50 4; hoursUntilThawed 0|19 = -1; hoursUntilThawed -1|20 = INDEX

            > 30: Returns behind how many hours it is expired (an hour; as one that is never frozen; frozen for a while)
            make 0 1 0; make 0 2 0; hoursUntilExpired 0 = 1; hoursUntilExpired 1 = 2; pass 1; hoursUntilExpired 1 = 1
            set 0 -9; pass 5; make 0 100 0; hoursUntilExpired 0 = 100; pass 99; hoursUntilExpired 0 = 1;
                isExpired 0 = false; pass 1; isExpired 0 = true
            make 0 3 0; make 0 4 0; pass 20; switchPower; hoursUntilExpired 0 = 15; hoursUntilExpired 1 = 16; pass 15;
                isExpired 0 = true; isExpired 1 = false; hoursUntilExpired 1 = 1

            > 30: likewise (0 if it is now)
            make 0 1 0; pass 1; hoursUntilExpired 0 = 0; pass 100; hoursUntilExpired 0 = 0

            > 30: likewise (at most 200: as late as it can be)
            set 0 -30; pass 6; make 0 100 0; pass 30; switchPower; ageOf 0 = 1; hoursUntilExpired 0 = 125; pass 100;
                hoursUntilExpired 0 = 25; pass 24; isExpired 0 = false; pass 1; isExpired 0 = true

            > 30: likewise (-1 if not by then: frozen with power; to be frozen in its last hour; kept)
            make 0 100 0; hoursUntilExpired 0 = -1; pass 3; hoursUntilExpired 0 = -1
            make 0 3 0; hoursUntilExpired 0 = -1
            make 0 1 0; make 0 9 0; keep 0; hoursUntilExpired 0 = -1; pass 100; hoursUntilExpired 0 = -1

            > 30: (nothing is changed)
            make 0 1 0; 2* hoursUntilExpired 0 = 1; isExpired 0 = false; ageOf 0 = 0; hour = 0; honourOf 0 = 0

            > 30: Throws IndexOutOfBoundsException if there is no such promise
            hoursUntilExpired 0 = INDEX; make 5 1 0; hoursUntilExpired 0 = 1;
                hoursUntilExpired -1|1|19|20|MIN|MAX = INDEX
            20* make 0 1 4; hoursUntilExpired 0|19 = 1; hoursUntilExpired -1|20 = INDEX

            > 31: Returns how many promises lie on shelves behind them, if nothing else is done
            leftIn 1 = 0; leftIn 100 = 0
            make 0 1 0; make 0 2 0; make 0 9 0; make 0 9 0; keep 3; leftIn 1 = 2; leftIn 2 = 1; leftIn 100 = 1
            set 0 -9; pass 5; make 0 100 0; leftIn 99 = 1; leftIn 100 = 0
            make 0 3 0; pass 20; leftIn 100 = 1; switchPower; leftIn 14 = 1; leftIn 15 = 0; leftIn 100 = 0
            20* make 0 100 0; leftIn 100 = 20

            > 31: (nothing is changed)
            make 0 1 0; 2* leftIn 100 = 0; hour = 0; isExpired 0 = false; heatOn 0 = -16; promisesOn 0 = 1

            > 31: Throws IllegalArgumentException if hours is not 1 to 100
            make 0 50 0; leftIn 1|100 = 1; leftIn 0|-1|101|MIN|MAX = ARGUMENT

            > 32: Looks for the best shelf for a new promise with a life of 100 (one that freezes as late as it can)
            switchPower; pass 100; switchPower; set 0 -9; set 1 -9; set 2 -9; set 3 -9; set 4 -10; bestShelf = 4

            > 32: laid there now (with a heat of 20, and its door opened, to 20 at most)
            switchPower; pass 1; bestShelf = 0; make 0 100 0; pass 100; isExpired 0 = false
            switchPower; pass 2; bestShelf = -1; make 0 100 0; pass 4; isFrozen 0 = false; hoursUntilFrozen 0 = -1
            switchPower; pass 36; make 0 100 0; heatOn 0 = 20; heatOn 1|2|3|4 = 18; switchPower; bestShelf = 0

            > 32: Returns the shelf on which it freezes the soonest, if nothing else is done
            set 0 -11; set 1 -11; set 2 -11; set 3 -11; set 4 -30; pass 20; bestShelf = 4; make 0 9 0;
                hoursUntilFrozen 0 = 5; make 0 9 4; hoursUntilFrozen 1 = 2
            set 4 -30; bestShelf = 0; pass 20; bestShelf = 4
            set 0 -5; coldest = 0; bestShelf = 1; make 0 9 0; hoursUntilFrozen 0 = -1

            > 32: of several the smallest number
            bestShelf = 0; make 0 9 4; bestShelf = 0
            set 0 -11; set 1 -11; set 2 -30; set 3 -30; set 4 -30; pass 20; bestShelf = 2

            > 32: -1 if on none within 200 hours
            set 0 -9; set 1 -9; set 2 -9; set 3 -9; set 4 -9; pass 5; bestShelf = -1; set 3 -10; bestShelf = 3
            switchPower; pass 100; bestShelf = -1

            > 32: or there are 20 promises (kept and expired ones too)
            19* make 0 1 0; bestShelf = 1; make 0 9 1; bestShelf = -1; keep 19; pass 50; leftIn 1 = 0; bestShelf = -1

            > 32: (nothing is changed)
            2* bestShelf = 0; promises = 0; heatOn 0|1|2|3|4 = -18; hour = 0; make 0 9 0 = 0

            > 33: Returns behind how many hours the first alarm would ring (the soonest; of a fresh one; the last hour)
            set 4 -30; make 0 50 4; make 0 50 0; pass 30; hoursOfCold = 15; keep 1; hoursOfCold = 27
            make 0 50 0; hoursOfCold = 13; switchPower; pass 12 = 0; hoursOfCold = 1; pass 1 = 1
            make 0 3 0; pass 20; hoursOfCold = 15; switchPower; pass 14 = 0; hoursOfCold = 1; pass 1 = 1

            > 33: if the power failed now and stayed off (also if it is off)
            make 0 50 0; pass 20; hoursOfCold = 15; switchPower; hoursOfCold = 15; pass 14; hoursOfCold = 1;
                switchPower;
                hoursOfCold = 1

            > 33: -1 if none within 200 hours (without promises; too warm to freeze; thawed; kept; expired)
            hoursOfCold = -1
            set 0 -12; pass 3; make 0 50 0; hoursOfCold = -1
            make 0 50 0; pass 7; switchPower; pass 15 = 1; hoursOfCold = -1; switchPower; pass 20; hoursOfCold = -1
            make 0 50 0; make 0 2 1; pass 20; keep 0; isExpired 1 = true; hoursOfCold = -1

            > 33: (nothing is changed)
            make 0 50 0; pass 20; 2* hoursOfCold = 15; hasPower = true; alarms = 0; isFrozen 0 = true; heatOn 0 = -18

            > 34: Returns the mean heat of promises on shelves (of one, of several, below 0, with a fraction)
            make 0 50 0; meanHeat = 20.0; pass 1; make 0 50 1; make 0 50 2; make 0 50 3; meanHeat = 15.25
            make 0 50 0; pass 1; make 0 50 1; pass 1; meanHeat = -3.5; keep 1; meanHeat = -8.0
            make 0 1 0; make 0 50 0; pass 1; heatOf 0|1 = 2; make 0 9 1; meanHeat = 11.0

            > 34: 0 without any (never made; all kept; all expired)
            meanHeat = 0.0
            make 0 50 0; keep 0; meanHeat = 0.0
            make 0 1 0; pass 1; meanHeat = 0.0

            > 35: A number d starts with 2017; for each of the following numbers x, d becomes d * 31 + x
            make 5 7 4; digest = 2582886473494722252; keep 0; digest = -6402569594078639220
            make 1 1 0; pass 1; digest = 5506368017113514563
            set 3 -30; pass 1; digest = -7450287411720684528
            make 2 50 0; pass 7; digest = 6490653998356133574; switchPower; pass 15; digest = -1226315632451971228

            > 35: which wraps around as a 64-bit integer (with the fewest numbers, and with the most)
            digest = -1821932191169737857
            20* make 0 100 0; digest = -6236956674722193851

            > 35: (whether something is so counts 1 or 0)
            digest = -1821932191169737857; switchPower; digest = -4956946709807970464
            """;

    private static final String[] PARTS = {
        FACE_AND_TERMS, AN_HOUR, PROMISES, MACHINE_AND_SHELVES, WHAT_PROMISES_ARE, PEOPLE, WHAT_WOULD_BE,
    };

    private static String sentence = "";
    private static int sentences = 0;
    private static int runs = 0;
    private static int runsOfSentence = 0;
    private static int wrong = 0;

    private static void fault(String what) {
        wrong++;
        System.out.println(sentence + "\n  run " + runsOfSentence + ": " + what);
    }

    /** One object and the calls that are made of it, and a twin of which none are made that must change nothing. */
    private static final class Run {
        private static final int MOST_CALLS = 512;
        private static final String ANY = "no exception";

        private final PromiseShelves x = new PromiseShelves();
        private final PromiseShelves twin = new PromiseShelves();
        private int calls = 0;

        private void make(String text) {
            for (String step : text.split(";")) {
                makeStep(step.trim());
            }
            if (calls > MOST_CALLS) {
                fault("has " + calls + " calls, an object is used for " + MOST_CALLS);
            }
            // a look at 20 promises takes some 200 calls
            if (calls <= MOST_CALLS - 200 && !lookOf(x).equals(lookOf(twin))) {
                fault("a question, or a call that threw, changed something: " + lookOf(x) + ", due is " + lookOf(twin));
            }
        }

        private void makeStep(String step) {
            String[] sides = step.split(" = ");
            String[] times = sides[0].split("\\* ");
            String[] words = times[times.length - 1].trim().split(" +");
            for (int i = times.length == 1 ? 1 : Integer.parseInt(times[0]); i > 0; i--) {
                callEach(words, List.of(), sides.length == 1 ? ANY : sides[1].trim());
            }
        }

        /** Makes the call with each choice of the words' alternatives. */
        private void callEach(String[] words, List<Integer> chosen, String due) {
            if (chosen.size() == words.length - 1) {
                call(words[0], chosen, due);
                return;
            }
            for (String word : words[chosen.size() + 1].split("\\|")) {
                List<Integer> more = new ArrayList<>(chosen);
                more.add(FARTHEST.containsKey(word) ? FARTHEST.get(word) : Integer.valueOf(word));
                callEach(words, more, due);
            }
        }

        private void call(String name, List<Integer> arguments, String due) {
            calls++;
            String got = answerOf(x, name, arguments);
            if (due.equals(ANY) ? Character.isUpperCase(got.charAt(0)) : !got.equals(due)) {
                fault(name + arguments + " answered " + got + ", due is " + due);
            }
            if (CHANGING.contains(name) && !THROWN.containsValue(due)) {
                answerOf(twin, name, arguments);
            }
        }
    }

    private static String answerOf(PromiseShelves x, String name, List<Integer> arguments) {
        try {
            return String.valueOf(METHODS.get(name).invoke(x, arguments.toArray()));
        } catch (InvocationTargetException e) {
            String thrown = e.getCause().getClass().getSimpleName();
            return THROWN.getOrDefault(thrown, thrown);
        } catch (IllegalAccessException e) {
            return "no access";
        }
    }

    /** All that can be seen of the object, by its plainest questions alone. */
    private static String lookOf(PromiseShelves x) {
        StringBuilder seen = new StringBuilder();
        for (String name : new String[] {"hour", "hasPower", "alarms", "promises"}) {
            seen.append(answerOf(x, name, List.of())).append(' ');
        }
        for (int i = 0; i < 5; i++) {
            lookAt(x, i, seen, "settingOf", "heatOn");
        }
        int promises = x.promises();
        for (int i = 0; i < promises; i++) {
            lookAt(x, i, seen, "makerOf", "shelfOf", "heatOf", "ageOf", "hoursLeft",
                    "isFrozen", "isThawed", "isKept", "isExpired");
        }
        return seen.toString();
    }

    private static void lookAt(PromiseShelves x, int number, StringBuilder seen, String... names) {
        seen.append("| ");
        for (String name : names) {
            seen.append(answerOf(x, name, List.of(number))).append(' ');
        }
    }

    private static Map<String, Method> methods() {
        Map<String, Method> found = new HashMap<>();
        for (Method method : PromiseShelves.class.getDeclaredMethods()) {
            if (Modifier.isPublic(method.getModifiers())) {
                found.put(method.getName(), method);
            }
        }
        return found;
    }

    private static void endSentence() {
        if (sentences > 0 && runsOfSentence == 0) {
            fault("the sentence has no run");
        }
    }

    private static void tryPart(String part) {
        for (String line : part.replaceAll(";\n +", "; ").split("\n")) {
            if (line.startsWith("> ")) {
                endSentence();
                sentence = line.substring(2);
                sentences++;
                runsOfSentence = 0;
            } else if (!line.isEmpty()) {
                runs++;
                runsOfSentence++;
                new Run().make(line);
            }
        }
    }

    public static void main(String[] args) {
        for (String part : PARTS) {
            tryPart(part);
        }
        endSentence();
        System.out.println(sentences + " sentences, " + runs + " runs, " + wrong + " answers are not as due");
        if (wrong != 0) {
            System.exit(1);
        }
    }
}
