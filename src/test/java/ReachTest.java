/** Promises 22, 23 and 28. */
public final class ReachTest {
    private static final Check check = new Check("ReachTest");

    public static void main(String[] args) {
        groups();
        reach();
        reachWith();
        check.end();
    }

    private static void groups() {
        check.promise("22 groups");
        BrandRoom room = new BrandRoom();
        check.outOfBounds("groups(-1, 0, 0)", room, () -> room.groups(-1, 0, 0));
        check.outOfBounds("groups(4, 0, 1024): the medium is told first", room, () -> room.groups(4, 0, 1024));
        check.outOfBounds("groups(0, -1, 0)", room, () -> room.groups(0, -1, 0));
        check.outOfBounds("groups(0, 4, -1): the land is told first", room, () -> room.groups(0, 4, -1));
        check.illegalArgument("groups(0, 0, -1)", room, () -> room.groups(0, 0, -1));
        check.illegalArgument("groups(0, 0, 1024)", room, () -> room.groups(0, 0, 1024));
        for (int medium = 0; medium < 4; medium++) {
            for (int land = 0; land < 4; land++) {
                check.due("groups at first", room.groups(medium, land, 100 + 10 * medium + land), 0);
            }
        }
        check.illegalArgument("groups(1, 2, 1024)", room, () -> room.groups(1, 2, 1024));
        for (int medium = 0; medium < 4; medium++) {
            for (int land = 0; land < 4; land++) {
                check.due("groups before", room.groups(medium, land, 1023), 100 + 10 * medium + land);
            }
        }
        check.due("groups before", room.groups(3, 2, 0), 1023);
        check.due("groups before", room.groups(3, 2, 0), 0);
    }

    private static void reach() {
        check.promise("23 reach");
        BrandRoom room = Desks.ready();
        check.outOfBounds("reach(-1)", room, () -> room.reach(-1));
        check.outOfBounds("reach(4)", room, () -> room.reach(4));
        room.groups(0, 0, 7);
        room.groups(1, 0, 12);
        room.groups(2, 0, 1023);
        room.groups(0, 1, 512);
        room.book(0, 0, 0, 1, 1, 1);
        room.book(0, 0, 1, 1, 3, 1);
        room.book(0, 1, 0, 2, 3, 1);
        check.due("reach(0), booked", room.reach(0), 0);
        room.day();
        check.due("reach(0): a group counts once", room.reach(0), 4);
        check.due("reach(1)", room.reach(1), 0);
        check.due("reach(3)", room.reach(3), 0);
        room.day();
        check.due("reach(0), one is over", room.reach(0), 2);
        check.due("reach(1)", room.reach(1), 1);
        room.groups(1, 0, 31);
        check.due("reach(0) with other groups", room.reach(0), 5);
        room.hold(0, 0);
        check.due("reach(0) today, held", room.reach(0), 5);
        room.day();
        check.due("reach(0), pulled", room.reach(0), 0);
        check.due("reach(1)", room.reach(1), 1);
        room.cancel(2);
        check.due("reach(1), cancelled", room.reach(1), 0);
    }

    private static void reachWith() {
        check.promise("28 reachWith");
        BrandRoom room = Desks.ready();
        check.outOfBounds("reachWith(0) without bookings", room, () -> room.reachWith(0));
        room.groups(0, 0, 7);
        room.groups(1, 0, 12);
        room.groups(1, 1, 1);
        room.groups(0, 1, 1023);
        room.book(0, 0, 0, 1, 3, 1);
        room.book(0, 0, 1, 2, 2, 1);
        room.book(0, 1, 1, 9, 9, 1);
        room.book(0, 2, 1, 9, 9, 1);
        check.outOfBounds("reachWith(-1)", room, () -> room.reachWith(-1));
        check.outOfBounds("reachWith(4)", room, () -> room.reachWith(4));
        check.due("reachWith(0), booked", room.reachWith(0), 3);
        check.due("reachWith(1)", room.reachWith(1), 2);
        check.due("reachWith(2)", room.reachWith(2), 1);
        check.due("reachWith(3)", room.reachWith(3), 0);
        room.day();
        check.due("reachWith(0), on", room.reachWith(0), 3);
        check.due("reachWith(1) beside one that is on", room.reachWith(1), 4);
        check.due("reach(0) after that", room.reach(0), 3);
        room.hold(0, 0);
        room.day();
        check.due("reach(0), pulled", room.reach(0), 0);
        check.due("reachWith(0), running and pulled", room.reachWith(0), 3);
        check.due("reachWith(1)", room.reachWith(1), 2);
        room.day();
        check.outOfBounds("reachWith(1), over", room, () -> room.reachWith(1));
        room.cancel(0);
        check.outOfBounds("reachWith(0), cancelled", room, () -> room.reachWith(0));
        room.book(0, 0, 3, 7, 7, 1);
        room.book(0, 0, 3, 9, 9, 1);
        room.day();
        check.due("state", room.ofBooking(4, 5), 4);
        check.outOfBounds("reachWith(4), lost", room, () -> room.reachWith(4));
    }
}
