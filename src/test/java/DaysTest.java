/** Promise 18. */
public final class DaysTest {
    private static final Check check = new Check("DaysTest");

    public static void main(String[] args) {
        check.promise("18 day");
        lastDay();
        runs();
        fitAtItsDeadline();
        deadlineIsOneDay();
        deadlineThatWentBy();
        swaps();
        swapsTheSmallestNumber();
        swapsOneByOne();
        moves();
        movesThreeTimes();
        movesUpToDay99();
        movesBesideOthers();
        movesOntoOneThatIsRunning();
        lostGivesWay();
        movedGivesWay();
        pulls();
        check.end();
    }

    private static void lastDay() {
        BrandRoom room = new BrandRoom();
        for (int d = 1; d <= 99; d++) {
            check.due("day()", room.day(), 0);
            check.due("TODAY", room.many(10), d);
        }
        check.illegalState("day() on day 99", room, () -> room.day());
        check.due("TODAY", room.many(10), 99);
    }

    private static void runs() {
        BrandRoom room = Desks.ready();
        room.book(0, 0, 0, 2, 3, 10);
        room.book(0, 0, 0, 4, 4, 10);
        check.due("day()", room.day(), 0);
        check.due("state ahead of the first day", room.ofBooking(0, 5), 0);
        check.due("ON", room.ofBooking(0, 10), 0);
        room.day();
        check.due("state on the first day", room.ofBooking(0, 5), 1);
        check.due("ON", room.ofBooking(0, 10), 1);
        room.day();
        check.due("state on the last day", room.ofBooking(0, 5), 1);
        check.due("ON", room.ofBooking(0, 10), 1);
        check.due("state of the next", room.ofBooking(1, 5), 0);
        room.day();
        check.due("state on the day after the last", room.ofBooking(0, 5), 2);
        check.due("ON", room.ofBooking(0, 10), 0);
        check.due("state of the next", room.ofBooking(1, 5), 1);
        check.due("DAYS PULLED", room.ofBooking(0, 9), 0);
    }

    private static void fitAtItsDeadline() {
        BrandRoom room = Desks.ready();
        room.piece(0, 1);
        room.approve(1, 0);
        room.rights(0, 0, 0, 0);
        room.book(0, 0, 0, 4, 4, 10);
        check.due("day() at the deadline, fit, without rights", room.day(), 0);
        check.due("first day", room.ofBooking(0, 3), 4);
        check.due("PIECE", room.ofBooking(0, 0), 0);
        Desks.days(room, 3);
        check.due("DAYS PULLED", room.ofBooking(0, 9), 1);
    }

    private static void deadlineIsOneDay() {
        BrandRoom room = Desks.ready();
        room.hold(0, 0);
        room.book(0, 0, 0, 6, 6, 10);
        check.due("day() 5 days ahead", room.day(), 0);
        check.due("day() 4 days ahead", room.day(), 0);
        room.approve(0, 0);
        check.due("day() 3 days ahead, fit", room.day(), 0);
        room.hold(0, 0);
        check.due("day() 2 days ahead, not fit", room.day(), 0);
        check.due("day() a day ahead, not fit", room.day(), 0);
        check.due("day() on the first day, not fit", room.day(), 0);
        check.due("state", room.ofBooking(0, 5), 1);
        check.due("DAYS PULLED", room.ofBooking(0, 9), 1);
    }

    private static void deadlineThatWentBy() {
        BrandRoom room = Desks.ready();
        room.hold(0, 0);
        room.book(0, 0, 0, 3, 3, 10);
        Desks.days(room, 3);
        Desks.dueBooking(check, room, 0, new int[] {0, 0, 0, 3, 3, 1, 17, 0, 0, 1, 0, 0});
        check.due("day()", room.day(), 0);
        check.due("state", room.ofBooking(0, 5), 2);
    }

    private static void swaps() {
        BrandRoom room = Desks.ready();
        room.piece(0, 1);
        room.hold(0, 0);
        room.approve(1, 0);
        room.book(0, 0, 0, 5, 6, 10);
        check.due("day() ahead of the deadline", room.day(), 0);
        check.due("PIECE", room.ofBooking(0, 0), 0);
        check.due("day() at the deadline", room.day(), 1);
        Desks.dueBooking(check, room, 0, new int[] {1, 0, 0, 5, 6, 0, 30, 30, 0, 0, 0, 1});
        check.due("day() after it", room.day(), 0);
    }

    private static void swapsTheSmallestNumber() {
        BrandRoom room = Desks.ready();
        room.asset();
        room.version(1, 0);
        room.rights(1, 1, 0, 5);
        room.piece(1, 1);
        room.piece(0, 1);
        room.piece(0, 2);
        room.piece(0, 1);
        room.piece(0, 1);
        room.piece(0, 1);
        room.hold(0, 0);
        room.approve(1, 0);
        room.approve(2, 1);
        room.approve(3, 0);
        room.approve(4, 0);
        room.approve(5, 0);
        room.approve(6, 0);
        room.book(4, 0, 1, 50, 50, 1);
        room.book(0, 0, 0, 4, 6, 10);
        check.due("swapFor(1): 1 another format, 2 not fit, 3 without rights, 4 in use", room.swapFor(1), 5);
        check.due("day()", room.day(), 1);
        check.due("PIECE", room.ofBooking(1, 0), 5);
        room.rights(1, 1, 0, 6);
        check.due("swapFor(1)", room.swapFor(1), 3);
    }

    private static void swapsOneByOne() {
        BrandRoom room = Desks.ready();
        room.piece(0, 1);
        room.hold(0, 0);
        room.approve(1, 0);
        room.book(0, 0, 0, 4, 4, 10);
        room.book(0, 0, 1, 4, 4, 10);
        check.due("day(): the only piece goes to the first one", room.day(), 2);
        check.due("PIECE of the first", room.ofBooking(0, 0), 1);
        check.due("PIECE of the second", room.ofBooking(1, 0), 0);
        check.due("MOVED of the second", room.ofBooking(1, 8), 1);
        check.due("SWAPPED of the second", room.ofBooking(1, 11), 0);
    }

    private static void moves() {
        BrandRoom room = Desks.ready();
        room.hold(0, 2);
        room.book(0, 2, 1, 5, 8, 11);
        Desks.days(room, 1);
        check.due("day()", room.day(), 1);
        int price = 44 + 5 * 4;
        Desks.dueBooking(check, room, 0,
                new int[] {0, 2, 1, 7, 10, 0, price + price / 5, price + price / 5, 1, 0, 0, 0});
        check.due("at the old first day", room.at(2, 1, 6), -1);
        check.due("at the new last day", room.at(2, 1, 10), 0);
        check.due("day()", room.day(), 0);
        room.approve(0, 2);
        check.due("day() at the new deadline, fit", room.day(), 0);
        Desks.days(room, 3);
        check.due("state", room.ofBooking(0, 5), 1);
        check.due("ON", room.ofBooking(0, 10), 1);
    }

    private static void movesThreeTimes() {
        BrandRoom room = Desks.ready();
        room.hold(0, 0);
        room.book(0, 0, 0, 4, 4, 99);
        int[] days = {1, 0, 1, 0, 1, 0, 1, 0, 0};
        int[] moved = {1, 1, 2, 2, 3, 3, 3, 3, 3};
        // Booked at 99 + 6 * 9; each fifth is cut.
        int[] price = {183, 183, 219, 219, 262, 262, 262, 262, 262};
        for (int d = 0; d < days.length; d++) {
            check.due("day()", room.day(), days[d]);
            check.due("MOVED", room.ofBooking(0, 8), moved[d]);
            check.due("PRICE", room.ofBooking(0, 6), price[d]);
            check.due("state", room.ofBooking(0, 5), d >= 6 ? 4 : 0);
        }
        check.due("first day of one that is lost", room.ofBooking(0, 3), 10);
        check.due("COST of one that is lost", room.ofBooking(0, 7), 0);
    }

    private static void movesUpToDay99() {
        BrandRoom room = Desks.ready();
        room.hold(0, 0);
        room.book(0, 0, 0, 4, 97, 1);
        room.book(0, 0, 1, 4, 98, 1);
        check.due("day()", room.day(), 2);
        check.due("last day", room.ofBooking(0, 4), 99);
        check.due("state", room.ofBooking(0, 5), 0);
        check.due("last day of one that would go above", room.ofBooking(1, 4), 98);
        check.due("MOVED", room.ofBooking(1, 8), 0);
        check.due("state", room.ofBooking(1, 5), 4);
        int price = 95 + 6 * 9;
        check.due("PRICE stays", room.ofBooking(1, 6), price);
    }

    private static void movesBesideOthers() {
        BrandRoom room = Desks.ready();
        room.hold(0, 0);
        room.book(0, 0, 0, 4, 6, 1);
        room.book(0, 0, 0, 9, 9, 1);
        room.book(0, 0, 1, 4, 6, 1);
        room.book(0, 0, 1, 8, 9, 1);
        room.book(0, 1, 1, 5, 6, 1);
        room.book(0, 0, 2, 4, 6, 1);
        room.book(0, 0, 2, 8, 8, 1);
        room.cancel(6);
        check.due("day()", room.day(), 3);
        check.due("state, free up to the day ahead of another", room.ofBooking(0, 5), 0);
        check.due("last day", room.ofBooking(0, 4), 8);
        check.due("state, a day in common", room.ofBooking(2, 5), 4);
        check.due("last day stays", room.ofBooking(2, 4), 6);
        check.due("state, a day in common with a cancelled one", room.ofBooking(5, 5), 0);
        check.due("last day", room.ofBooking(5, 4), 8);
    }

    private static void movesOntoOneThatIsRunning() {
        BrandRoom room = Desks.ready();
        room.book(0, 0, 0, 1, 1, 1);
        room.book(0, 0, 0, 2, 8, 1);
        room.cancel(1);
        room.book(0, 0, 0, 7, 8, 1);
        room.hold(0, 0);
        Desks.days(room, 3);
        check.due("day()", room.day(), 1);
        check.due("first day: over and cancelled ones do not count", room.ofBooking(2, 3), 9);

        BrandRoom running = Desks.ready();
        running.piece(0, 1);
        running.book(0, 0, 0, 6, 9, 1);
        running.book(1, 0, 0, 1, 5, 1);
        Desks.days(running, 2);
        running.hold(0, 0);
        check.due("day(): its own old days do not count", running.day(), 1);
        check.due("first day", running.ofBooking(0, 3), 8);
    }

    private static void lostGivesWay() {
        BrandRoom room = Desks.ready();
        room.hold(0, 0);
        room.book(0, 0, 0, 4, 4, 1);
        room.book(0, 0, 0, 6, 6, 1);
        check.due("day()", room.day(), 1);
        check.due("state of the first", room.ofBooking(0, 5), 4);
        check.due("book what the lost one had", room.book(0, 0, 0, 4, 4, 1), 2);
        check.due("day()", room.day(), 0);
        check.due("day()", room.day(), 1);
        check.due("first day of the second", room.ofBooking(1, 3), 8);
    }

    private static void movedGivesWay() {
        BrandRoom room = Desks.ready();
        room.hold(0, 0);
        room.book(0, 0, 0, 4, 5, 1);
        room.book(0, 0, 1, 4, 5, 1);
        room.book(0, 0, 1, 6, 6, 1);
        check.due("day()", room.day(), 2);
        check.due("state of the first", room.ofBooking(0, 5), 0);
        check.due("state of the second", room.ofBooking(1, 5), 4);
        check.due("book the days that the first one left", room.book(0, 0, 0, 4, 5, 1), 3);
        check.illegalState("book the days that it has", room, () -> room.book(0, 0, 0, 7, 7, 1));
    }

    private static void pulls() {
        BrandRoom room = Desks.ready();
        room.rights(0, 3, 0, 2);
        room.book(0, 0, 0, 2, 4, 100);
        room.book(0, 1, 0, 2, 4, 100);
        Desks.days(room, 2);
        check.due("ON on the last day with rights", room.ofBooking(0, 10), 1);
        check.due("many(8)", room.many(8), 2);
        check.due("day() that pulls", room.day(), 0);
        check.due("ON", room.ofBooking(0, 10), 0);
        check.due("DAYS PULLED", room.ofBooking(0, 9), 1);
        check.due("state", room.ofBooking(0, 5), 1);
        int price = 300 + 8 * 30;
        check.due("COST", room.ofBooking(0, 7), price - price / 3);
        room.rights(0, 1, 0, 99);
        room.version(0, 4);
        room.day();
        check.due("ON with another look", room.ofBooking(0, 10), 0);
        check.due("DAYS PULLED", room.ofBooking(0, 9), 2);
        check.due("COST", room.ofBooking(0, 7), price - 2 * (price / 3));
        room.day();
        check.due("state", room.ofBooking(0, 5), 2);
        check.due("COST, over", room.ofBooking(0, 7), price - 2 * (price / 3));
        check.due("DAYS PULLED, over", room.ofBooking(0, 9), 2);

        BrandRoom cut = Desks.ready();
        cut.hold(0, 0);
        cut.book(0, 0, 0, 1, 3, 101);
        Desks.days(cut, 3);
        check.due("PRICE", cut.ofBooking(0, 6), 573);
        check.due("COST of one that was pulled on all its days", cut.ofBooking(0, 7), 0);
        cut.book(0, 0, 0, 5, 7, 35);
        cut.approve(0, 0);
        cut.rights(0, 15, 6, 7);
        Desks.days(cut, 2);
        check.due("PRICE", cut.ofBooking(1, 6), 185);
        check.due("COST, PRICE / DAYS cut", cut.ofBooking(1, 7), 124);
    }
}
