import java.lang.reflect.InvocationTargetException;
import java.lang.reflect.Method;
import java.util.Arrays;
import java.util.HashMap;
import java.util.Map;
import java.util.TreeMap;

/** Runs of up to 512 calls, the same ones each time: BrandRoom has to answer as PlainDesk does. */
public final class RandomRunsTest {
    private static final int RUNS = 1500;
    private static final int CALLS = 511;
    private static final String[] NAMES = {"asset", "version", "late", "rights", "versionOn", "hasRights", "piece",
        "approve", "hold", "reason", "isFit", "ofPiece", "book", "cancel", "swap", "ofBooking", "day", "at", "many",
        "meanPrice", "groups", "reach", "price", "swapFor", "offIn", "lostIn", "reachWith", "digest"};
    /** How often each call is made, in the order of NAMES. */
    private static final int[] WEIGHTS = {5, 9, 6, 9, 2, 2, 5, 40, 7, 5, 3, 5, 16, 2, 7, 14, 17, 4, 5, 2, 7, 4, 3, 6,
        5, 4, 5, 12};

    private static final Map<String, Method> METHODS = methodsByName();

    private static final Check check = new Check("RandomRunsTest");
    private static long seed;
    /** How often the rarer things happened: a run that never reaches them compares nothing. */
    private static final TreeMap<String, Integer> seen = new TreeMap<>();

    public static void main(String[] args) {
        for (int run = 0; run < RUNS; run++) {
            seed = run * 7919L + 17;
            compareRun(run);
        }
        for (String name : new String[] {"moved", "swapped", "lost", "pulled", "on", "over", "cancelled"}) {
            check.due(name + " is seen", seen.getOrDefault(name, 0) > 100, true);
        }
        System.out.println("RandomRunsTest: " + seen);
        check.end();
    }

    private static int upTo(int bound) {
        seed = seed * 6364136223846793005L + 1442695040888963407L;
        return (int) ((seed >>> 33) % bound);
    }

    private static void compareRun(int run) {
        check.promise("run " + run);
        BrandRoom room = new BrandRoom();
        PlainDesk plain = new PlainDesk();
        boolean wild = run % 5 == 0;
        for (int call = 0; call < CALLS; call++) {
            int kind = call < 6 ? 0 : pickKind();
            int[] a = arguments(kind, plain, wild);
            String told = "call " + call + ", " + NAMES[kind] + Arrays.toString(a);
            String want = answer(plain, NAMES[kind], a);
            String got = answer(room, NAMES[kind], a);
            if (!want.equals(got)) {
                check.due(told + " (" + got + " for " + want + "): same", false, true);
                return;
            }
        }
        check.due("digest()", room.digest(), plain.digest());
        count(plain);
    }

    private static void count(PlainDesk plain) {
        for (int k = 0; k < plain.many(2); k++) {
            String[] states = {"booked", "running", "over", "cancelled", "lost"};
            seen.merge(states[plain.ofBooking(k, 5)], 1, Integer::sum);
            seen.merge("moved", plain.ofBooking(k, 8), Integer::sum);
            seen.merge("pulled", plain.ofBooking(k, 9), Integer::sum);
            seen.merge("on", plain.ofBooking(k, 10), Integer::sum);
            seen.merge("swapped", plain.ofBooking(k, 11), Integer::sum);
        }
    }

    private static int pickKind() {
        int sum = 0;
        for (int weight : WEIGHTS) {
            sum += weight;
        }
        int left = upTo(sum);
        int kind = 0;
        while (left >= WEIGHTS[kind]) {
            left -= WEIGHTS[kind];
            kind++;
        }
        return kind;
    }

    /** Now and then one that is wrong by one, or far off. */
    private static int number(int bound, boolean wild) {
        int odds = upTo(wild ? 12 : 60);
        if (odds == 0) {
            return -1;
        }
        if (odds == 1) {
            return bound;
        }
        if (odds == 2 && wild) {
            return upTo(2) == 0 ? Integer.MIN_VALUE : Integer.MAX_VALUE;
        }
        return bound <= 0 ? 0 : upTo(bound);
    }

    private static int dayNear(int today, boolean wild) {
        return upTo(8) == 0 ? number(100, wild) : today - 1 + upTo(14);
    }

    private static int land(boolean wild) {
        return upTo(3) == 0 ? number(4, wild) : upTo(2);
    }

    private static int[] arguments(int kind, PlainDesk desk, boolean wild) {
        int today = desk.many(10);
        int asset = number(desk.many(0), wild);
        int piece = number(desk.many(1), wild);
        int booking = number(desk.many(2), wild);
        int land = land(wild);
        int medium = land(wild);
        int from = dayNear(today, wild);
        switch (NAMES[kind]) {
            case "version":
                return new int[] {asset, upTo(2) == 0 ? today : from};
            case "late":
                return new int[] {asset, upTo(3) == 0 ? number(22, wild) : 1 + upTo(4)};
            case "rights":
                return upTo(3) == 0 ? new int[] {asset, number(16, wild), from, from + upTo(20)}
                        : new int[] {asset, 15 - upTo(2), 0, 60 + upTo(40)};
            case "versionOn":
                return new int[] {asset, dayNear(today, wild)};
            case "hasRights":
                return new int[] {asset, land, dayNear(today, wild)};
            case "piece":
                return new int[] {upTo(4) == 0 ? number(3, wild) : 0,
                    upTo(4) == 0 ? number(64, wild) : 1 << upTo(5) | 1 << upTo(5)};
            case "approve":
            case "hold":
                return new int[] {piece, land};
            case "reason":
            case "isFit":
                return new int[] {piece, land, dayNear(today, wild)};
            case "ofPiece":
                return new int[] {piece, number(5, wild)};
            case "book":
                return new int[] {piece, land, medium, from, from + upTo(6), 1 + number(999, wild)};
            case "swap":
                return new int[] {booking, piece};
            case "ofBooking":
                return new int[] {booking, number(12, wild)};
            case "at":
                return new int[] {land, medium, dayNear(today, wild)};
            case "many":
                return new int[] {number(11, wild)};
            case "groups":
                return new int[] {medium, land, number(1024, wild)};
            case "reach":
                return new int[] {land};
            case "price":
                return new int[] {from, from + upTo(6), 1 + number(999, wild)};
            case "cancel":
            case "swapFor":
            case "offIn":
            case "reachWith":
                return new int[] {booking};
            case "lostIn":
                return new int[] {1 + number(30, wild)};
            default:
                return new int[0];
        }
    }

    /** BrandRoom and PlainDesk have methods of the same names. */
    private static String answer(Object desk, String name, int[] a) {
        try {
            return String.valueOf(METHODS.get(desk.getClass() + name).invoke(desk, Arrays.stream(a).boxed().toArray()));
        } catch (InvocationTargetException told) {
            RuntimeException thrown = (RuntimeException) told.getCause();
            if (desk instanceof BrandRoom && !Check.isThrownByRoom(thrown)) {
                return "not by BrandRoom: " + thrown;
            }
            return thrown.getClass().getSimpleName();
        } catch (IllegalAccessException e) {
            throw new AssertionError(e);
        }
    }

    private static Map<String, Method> methodsByName() {
        Map<String, Method> methods = new HashMap<>();
        for (Class<?> owner : new Class<?>[] {BrandRoom.class, PlainDesk.class}) {
            for (Method method : owner.getDeclaredMethods()) {
                methods.put(owner + method.getName(), method);
            }
        }
        return methods;
    }
}
