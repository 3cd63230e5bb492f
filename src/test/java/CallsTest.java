/** An object is used for at most 512 calls after it has been made: up to the last one, each is answered. */
public final class CallsTest {
    private static final int CALLS = 512;

    private static final Check check = new Check("CallsTest");

    public static void main(String[] args) {
        check.promise("512 calls");
        dearestCalls();
        callsThatThrow();
        callsOfOneKind();
        lastCallChanges();
        check.end();
    }

    /** 180 calls to fill it; the rest are the dearest ones, the last among them as right as the first. */
    private static void dearestCalls() {
        BrandRoom room = Desks.full();
        BrandRoom fresh = Desks.full();
        int filled = 16 * 7 + 12 * 2 + 16 * 2;
        long due = fresh.digest();
        for (int call = filled; call < CALLS; call++) {
            if (call % 2 == 1) {
                check.due("digest(), call " + (call + 1), room.digest(), due);
            } else {
                check.due("lostIn(30), call " + (call + 1), room.lostIn(30), 16);
            }
        }
    }

    private static void callsThatThrow() {
        BrandRoom room = new BrandRoom();
        for (int call = 1; call < CALLS; call++) {
            check.dueThrown("reach(4), call " + call, IndexOutOfBoundsException.class, () -> room.reach(4));
        }
        check.due("asset(), call 512", room.asset(), 0);
    }

    private static void callsOfOneKind() {
        BrandRoom room = Desks.ready();
        for (int call = 9; call <= CALLS; call++) {
            if (call % 2 == 1) {
                check.due("hold(0, 0), call " + call, room.hold(0, 0), true);
            } else {
                check.due("approve(0, 0), call " + call, room.approve(0, 0), false);
            }
        }
    }

    private static void lastCallChanges() {
        BrandRoom room = new BrandRoom();
        for (int call = 1; call <= 495; call++) {
            room.groups(call % 4, call / 4 % 4, call);
        }
        for (int call = 496; call < CALLS; call++) {
            check.due("asset(), call " + call, room.asset(), call - 496);
        }
        check.dueThrown("asset(), call 512", IllegalStateException.class, () -> room.asset());
    }
}
