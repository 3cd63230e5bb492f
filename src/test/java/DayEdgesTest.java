/** Promise 18 and section 4 of the terms: each sentence that names an edge has a test of its own. */
public final class DayEdgesTest {
    private static final Check check = new Check("DayEdgesTest");

    public static void main(String[] args) {
        todayIs99();
        returnsHowMany();
        overTheDayBehindItsLast();
        overFirst();
        deadlineThreeDaysAhead();
        deadlineOfOneBookedLate();
        deadlineOfOneThatIsFit();
        swappedIfThereIsOne();
        movedTwoDaysLater();
        movedAFifthMoreCut();
        movedTwoDaysBeforeTheNextDeadline();
        lostWithADayInCommon();
        notLostBesideTheOthers();
        lostAbove99();
        lostIfMovedThreeTimes();
        lostAndAllElseStays();
        bookingByBooking();
        runningOnItsFirstDay();
        onIfTheReasonIsZero();
        pulledADayMore();
        staysTillTheNextDay();
        costLessEachDayPulled();
        costOfOneThatWasMoved();
        costOfCancelledAndLost();
        cancelledHasNoDayPulledMore();
        check.end();
    }

    private static void todayIs99() {
        check.promise("18: throws IllegalStateException if TODAY is 99");
        Twins day98 = new Twins(check, () -> Desks.onDay(Desks.states(), 98));
        day98.taken("day() on day 98", 0, (room, n) -> room.day(), 0);
        Twins day99 = new Twins(check, () -> Desks.onDay(Desks.states(), 99));
        day99.illegalState("day() on day 99", (room, n) -> room.day(), 0);
        Twins running = new Twins(check, () -> runningOnDay99());
        running.illegalState("day() on day 99, one is ON, one PULLED", (room, n) -> room.day(), 0);
        BrandRoom bare = Desks.onDay(new BrandRoom(), 98);
        check.due("day() on day 98", bare.day(), 0);
        check.due("TODAY", bare.many(10), 99);
        check.illegalState("day() on day 99", bare, () -> bare.day());
    }

    private static BrandRoom runningOnDay99() {
        BrandRoom room = Desks.onDay(Desks.ready(), 90);
        room.hold(0, 1);
        room.book(0, 0, 0, 91, 99, 1);
        room.book(0, 1, 0, 91, 99, 1);
        return Desks.onDay(room, 99);
    }

    private static void returnsHowMany() {
        check.promise("18: returns how many BOOKINGS are MOVED, SWAPPED, or LOST by that");
        BrandRoom room = Desks.ready();
        check.due("day() without bookings", room.day(), 0);
        room.piece(0, 1);
        for (int land = 0; land < 4; land++) {
            for (int medium = 0; medium < 4; medium++) {
                room.book(0, land, medium, 5, medium == 3 ? 99 : 5, 1);
            }
            room.hold(0, land);
            room.approve(1, land);
        }
        check.due("day(): of 16, in each land one swapped, two moved, one lost", room.day(), 16);
        for (int booking = 0; booking < 16; booking++) {
            check.due("SWAPPED", room.ofBooking(booking, 11), booking % 4 == 0 ? 1 : 0);
            check.due("MOVED", room.ofBooking(booking, 8), booking % 4 == 1 || booking % 4 == 2 ? 1 : 0);
            check.due("state", room.ofBooking(booking, 5), booking % 4 == 3 ? 4 : 0);
        }
        check.due("day() then", room.day(), 0);
    }

    private static void overTheDayBehindItsLast() {
        check.promise("4: one that is RUNNING, and whose last DAY was the DAY ahead, is OVER");
        BrandRoom room = Desks.ready();
        room.book(0, 0, 0, 1, 1, 1);
        room.book(0, 1, 0, 1, 2, 1);
        room.book(0, 2, 0, 99, 99, 1);
        room.day();
        check.due("state of 0 on its only day", room.ofBooking(0, 5), 1);
        room.day();
        check.due("state of 0 on the day behind it", room.ofBooking(0, 5), 2);
        check.due("ON of 0", room.ofBooking(0, 10), 0);
        check.due("state of 1 on its last day", room.ofBooking(1, 5), 1);
        check.due("ON of 1", room.ofBooking(1, 10), 1);
        room.day();
        check.due("state of 1 on the day behind it", room.ofBooking(1, 5), 2);
        Desks.onDay(room, 99);
        check.due("state of 2 on day 99, its last one: no day begins behind it", room.ofBooking(2, 5), 1);
    }

    private static void overFirst() {
        check.promise("4: as a DAY begins, first, BOOKING by BOOKING: .. is OVER");
        BrandRoom room = Desks.ready();
        room.piece(0, 1);
        room.approve(1, 0);
        room.book(0, 0, 0, 6, 6, 1);
        room.book(1, 0, 1, 1, 2, 1);
        Desks.days(room, 2);
        room.hold(0, 0);
        check.due("swapFor(0), piece 1 is in one that is RUNNING", room.swapFor(0), -1);
        check.due("day()", room.day(), 1);
        check.due("state of 1, behind 0", room.ofBooking(1, 5), 2);
        check.due("PIECE of 0: that of the one that is over", room.ofBooking(0, 0), 1);
        check.due("MOVED", room.ofBooking(0, 8), 0);
    }

    private static void deadlineThreeDaysAhead() {
        check.promise("3: its DEADLINE is 3 DAYS ahead of its first DAY");
        BrandRoom room = Desks.ready();
        room.hold(0, 0);
        room.book(0, 0, 0, 10, 10, 1);
        for (int day = 1; day <= 6; day++) {
            check.due("day()", room.day(), 0);
            check.due("first day, on day " + day, room.ofBooking(0, 3), 10);
        }
        check.due("day() on day 7", room.day(), 1);
        check.due("first day, on day 7", room.ofBooking(0, 3), 12);
    }

    private static void deadlineOfOneBookedLate() {
        check.promise("4: if it is its DEADLINE (as a DAY begins)");
        BrandRoom room = Desks.ready();
        room.hold(0, 0);
        for (int first = 1; first <= 4; first++) {
            room.book(0, 0, first - 1, first, first, 1);
        }
        check.due("day(): the one of day 4 is booked a day ahead of its deadline", room.day(), 1);
        for (int booking = 0; booking < 3; booking++) {
            check.due("MOVED of one booked at its deadline or behind it", room.ofBooking(booking, 8), 0);
        }
        check.due("MOVED of the one of day 4", room.ofBooking(3, 8), 1);
        check.due("day() on day 2", room.day(), 0);
        check.due("day() on day 3", room.day(), 1);
        check.due("MOVED of the one of day 4, that of day 6 then", room.ofBooking(3, 8), 2);
        check.due("state of the one of day 3", room.ofBooking(2, 5), 1);
    }

    private static void deadlineOfOneThatIsFit() {
        check.promise("4: and its PIECE is not FIT there TODAY");
        BrandRoom room = Desks.ready();
        room.version(0, 2);
        room.book(0, 0, 0, 4, 4, 1);
        room.book(0, 1, 0, 5, 5, 1);
        room.rights(0, 0, 0, 0);
        check.due("day() on day 1, fit today, neither on its first day, nor with rights", room.day(), 0);
        check.due("day() on day 2, not fit today", room.day(), 1);
        check.due("MOVED of 0", room.ofBooking(0, 8), 0);
        check.due("MOVED of 1", room.ofBooking(1, 8), 1);
    }

    private static void swappedIfThereIsOne() {
        check.promise("4: the PIECE that can be SWAPPED for it is, if there is one; otherwise it is MOVED");
        BrandRoom room = Desks.ready();
        room.piece(0, 1);
        room.approve(1, 0);
        room.hold(0, 0);
        room.hold(0, 1);
        room.book(0, 0, 0, 4, 5, 10);
        room.book(0, 1, 0, 4, 5, 10);
        int price = 20 + 6 * 2;
        check.due("day()", room.day(), 2);
        Desks.dueBooking(check, room, 0, new int[] {1, 0, 0, 4, 5, 0, price, price, 0, 0, 0, 1});
        int more = price + price / 5;
        Desks.dueBooking(check, room, 1, new int[] {0, 1, 0, 6, 7, 0, more, more, 1, 0, 0, 0});
    }

    private static void movedTwoDaysLater() {
        check.promise("4: both its DAYS are 2 later");
        BrandRoom room = Desks.ready();
        room.hold(0, 0);
        room.book(0, 0, 0, 4, 4, 1);
        room.book(0, 0, 1, 4, 50, 1);
        room.day();
        check.due("first day", room.ofBooking(0, 3), 6);
        check.due("last day", room.ofBooking(0, 4), 6);
        check.due("first day", room.ofBooking(1, 3), 6);
        check.due("last day", room.ofBooking(1, 4), 52);
        check.due("at(0, 0, 4)", room.at(0, 0, 4), -1);
        check.due("at(0, 0, 6)", room.at(0, 0, 6), 0);
    }

    private static void movedAFifthMoreCut() {
        check.promise("4: its PRICE a fifth more, cut");
        BrandRoom room = Desks.ready();
        room.hold(0, 0);
        int[] base = {4, 5, 9, 10};
        int[] more = {4, 6, 10, 12};
        int[] again = {4, 7, 12, 14};
        for (int k = 0; k < 4; k++) {
            room.book(0, 0, k, 14, 14, base[k]);
        }
        Desks.onDay(room, 11);
        for (int k = 0; k < 4; k++) {
            check.due("PRICE of base " + base[k], room.ofBooking(k, 6), more[k]);
        }
        Desks.onDay(room, 13);
        for (int k = 0; k < 4; k++) {
            check.due("PRICE of base " + base[k] + ", moved twice", room.ofBooking(k, 6), again[k]);
        }
    }

    private static void movedTwoDaysBeforeTheNextDeadline() {
        check.promise("4: MOVED, its DEADLINE is 3 DAYS ahead of its first DAY then");
        BrandRoom room = Desks.ready();
        room.hold(0, 0);
        room.book(0, 0, 0, 4, 4, 1);
        check.due("day() on day 1", room.day(), 1);
        room.approve(0, 0);
        check.due("day() on day 2", room.day(), 0);
        room.hold(0, 0);
        check.due("day() on day 3, not fit", room.day(), 1);
        room.approve(0, 0);
        check.due("day() on day 4", room.day(), 0);
        check.due("day() on day 5, fit", room.day(), 0);
        check.due("first day", room.ofBooking(0, 3), 8);
        Desks.onDay(room, 8);
        check.due("state", room.ofBooking(0, 5), 1);
        check.due("ON", room.ofBooking(0, 10), 1);
    }

    private static void lostWithADayInCommon() {
        check.promise("4: if it would have a DAY in common with another one then (as above), it is LOST");
        for (int other = 6; other <= 7; other++) {
            BrandRoom room = Desks.ready();
            room.hold(0, 0);
            room.book(0, 0, 0, 4, 5, 1);
            room.book(0, 0, 0, other, 20, 1);
            check.due("day(), the other one is BOOKED from day " + other + " on", room.day(), 1);
            check.due("state", room.ofBooking(0, 5), 4);
            check.due("MOVED", room.ofBooking(0, 8), 0);
        }
    }

    private static void notLostBesideTheOthers() {
        check.promise("4: (as above): another one that is BOOKED or RUNNING, of the same LAND and MEDIUM");
        BrandRoom room = Desks.ready();
        room.piece(0, 1);
        room.hold(1, 0);
        room.hold(0, 0);
        room.book(0, 0, 0, 6, 9, 1);
        room.book(0, 0, 0, 1, 2, 1);
        room.book(0, 0, 0, 12, 13, 1);
        room.book(0, 0, 0, 10, 11, 1);
        room.cancel(3);
        room.book(0, 1, 0, 10, 11, 1);
        room.book(0, 0, 1, 10, 11, 1);
        Desks.days(room, 2);
        check.due("day(): one is over, one cancelled, one a day behind, others elsewhere", room.day(), 1);
        check.due("state", room.ofBooking(0, 5), 0);
        check.due("first day: its own old days do not count", room.ofBooking(0, 3), 8);
        check.due("last day", room.ofBooking(0, 4), 11);

        BrandRoom running = Desks.ready();
        running.book(0, 0, 0, 1, 5, 1);
        running.book(0, 0, 0, 6, 7, 1);
        Desks.days(running, 2);
        running.hold(0, 0);
        check.due("day(), one is RUNNING up to the day ahead", running.day(), 1);
        check.due("state", running.ofBooking(1, 5), 0);
        check.due("first day", running.ofBooking(1, 3), 8);
    }

    private static void lostAbove99() {
        check.promise("4: or a DAY above 99, it is LOST");
        BrandRoom room = Desks.ready();
        room.hold(0, 0);
        room.book(0, 0, 0, 97, 97, 1);
        room.book(0, 0, 1, 97, 98, 1);
        room.book(0, 0, 2, 97, 99, 1);
        Desks.onDay(room, 93);
        check.due("day() on day 94", room.day(), 3);
        check.due("state, up to day 99", room.ofBooking(0, 5), 0);
        check.due("last day", room.ofBooking(0, 4), 99);
        check.due("state, up to day 100", room.ofBooking(1, 5), 4);
        check.due("state, up to day 101", room.ofBooking(2, 5), 4);
        check.due("day() on day 95", room.day(), 0);
        check.due("day() on day 96", room.day(), 1);
        check.due("state, from day 101 on", room.ofBooking(0, 5), 4);
        check.due("first day stays", room.ofBooking(0, 3), 99);
    }

    private static void lostIfMovedThreeTimes() {
        check.promise("4: or was MOVED 3 times already, it is LOST");
        BrandRoom room = Desks.ready();
        room.hold(0, 0);
        room.book(0, 0, 0, 4, 4, 1);
        for (int time = 1; time <= 3; time++) {
            Desks.onDay(room, 2 * time - 2);
            check.due("day() at its deadline", room.day(), 1);
            check.due("MOVED", room.ofBooking(0, 8), time);
            check.due("state", room.ofBooking(0, 5), 0);
        }
        check.due("day() on day 6", room.day(), 0);
        check.due("state a day ahead of its fourth deadline", room.ofBooking(0, 5), 0);
        check.due("day() on day 7", room.day(), 1);
        check.due("state", room.ofBooking(0, 5), 4);
        check.due("MOVED", room.ofBooking(0, 8), 3);

        BrandRoom fit = Desks.ready();
        fit.piece(0, 1);
        fit.hold(0, 0);
        fit.hold(1, 0);
        fit.book(0, 0, 0, 4, 4, 1);
        Desks.onDay(fit, 6);
        fit.approve(1, 0);
        check.due("day() on day 7, one can be swapped", fit.day(), 1);
        check.due("state", fit.ofBooking(0, 5), 0);
        check.due("PIECE", fit.ofBooking(0, 0), 1);
    }

    private static void lostAndAllElseStays() {
        check.promise("4: it is LOST, and all else of it stays");
        BrandRoom room = Desks.ready();
        room.piece(0, 1);
        room.approve(1, 2);
        room.book(0, 2, 3, 6, 8, 50);
        room.swap(0, 1);
        room.hold(0, 2);
        room.hold(1, 2);
        int price = 150 + 4 * 15;
        int more = price + price / 5;
        Desks.onDay(room, 3);
        Desks.dueBooking(check, room, 0, new int[] {1, 2, 3, 8, 10, 0, more, more, 1, 0, 0, 1});
        room.book(0, 2, 3, 12, 12, 1);
        check.due("day() on day 4", room.day(), 0);
        check.due("day() on day 5", room.day(), 1);
        Desks.dueBooking(check, room, 0, new int[] {1, 2, 3, 8, 10, 4, more, 0, 1, 0, 0, 1});
        Desks.onDay(room, 11);
        Desks.dueBooking(check, room, 0, new int[] {1, 2, 3, 8, 10, 4, more, 0, 1, 0, 0, 1});
    }

    private static void bookingByBooking() {
        check.promise("4: then, BOOKING by BOOKING that is BOOKED");
        BrandRoom room = Desks.ready();
        room.piece(0, 1);
        room.approve(1, 0);
        room.hold(0, 0);
        room.book(0, 0, 0, 4, 5, 1);
        room.book(0, 0, 1, 4, 5, 1);
        room.book(0, 0, 2, 6, 7, 1);
        room.book(0, 0, 2, 4, 5, 1);
        check.due("day()", room.day(), 3);
        check.due("PIECE of 0: the only other one goes to the first", room.ofBooking(0, 0), 1);
        check.due("MOVED of 1", room.ofBooking(1, 8), 1);
        check.due("state of 3, that has 2 behind it", room.ofBooking(3, 5), 4);

        BrandRoom late = Desks.ready();
        late.hold(0, 0);
        late.book(0, 0, 0, 4, 9, 1);
        late.cancel(0);
        late.book(0, 0, 0, 4, 4, 1);
        late.book(0, 0, 0, 5, 5, 1);
        late.book(0, 0, 0, 6, 6, 1);
        late.cancel(2);
        check.due("day(): 1 would have day 6", late.day(), 1);
        check.due("state of 1", late.ofBooking(1, 5), 4);
        check.due("day()", late.day(), 0);
        check.due("day(): 3 is moved", late.day(), 1);
        check.due("first day of 3", late.ofBooking(3, 3), 8);
    }

    private static void runningOnItsFirstDay() {
        check.promise("4: if it is its first DAY, it is RUNNING");
        BrandRoom room = Desks.ready();
        room.hold(0, 1);
        room.book(0, 0, 0, 2, 3, 1);
        room.book(0, 1, 0, 2, 3, 1);
        room.book(0, 2, 0, 2, 3, 1);
        room.cancel(2);
        room.day();
        check.due("state a day ahead of it", room.ofBooking(0, 5), 0);
        room.day();
        check.due("state", room.ofBooking(0, 5), 1);
        check.due("state of one that is not fit", room.ofBooking(1, 5), 1);
        check.due("state of one that is CANCELLED", room.ofBooking(2, 5), 3);
    }

    private static void onIfTheReasonIsZero() {
        check.promise("4: it is ON, TODAY, if the REASON of its PIECE there TODAY is 0; otherwise it is PULLED");
        BrandRoom room = Desks.ready();
        room.book(0, 0, 0, 1, 9, 1);
        room.day();
        check.due("ON", room.ofBooking(0, 10), 1);
        room.hold(0, 0);
        room.day();
        check.due("ON, not fit", room.ofBooking(0, 10), 0);
        room.approve(0, 0);
        room.day();
        check.due("ON", room.ofBooking(0, 10), 1);
        room.rights(0, 15, 0, 3);
        room.day();
        check.due("ON, without rights", room.ofBooking(0, 10), 0);
        check.due("DAYS PULLED", room.ofBooking(0, 9), 2);

        BrandRoom bare = Desks.withAssets(1);
        bare.rights(0, 15, 0, 99);
        bare.piece(0, 1);
        bare.book(0, 0, 0, 1, 9, 1);
        bare.day();
        check.due("ON, not laid", bare.ofBooking(0, 10), 0);
        check.due("DAYS PULLED", bare.ofBooking(0, 9), 1);
    }

    private static void pulledADayMore() {
        check.promise("4: it is PULLED, and has a DAY PULLED more");
        BrandRoom room = Desks.ready();
        room.hold(0, 0);
        room.book(0, 0, 0, 2, 4, 100);
        int[] pulled = {0, 1, 2, 3, 3, 3};
        for (int k = 0; k < pulled.length; k++) {
            room.day();
            check.due("DAYS PULLED on day " + (k + 1), room.ofBooking(0, 9), pulled[k]);
        }
    }

    private static void staysTillTheNextDay() {
        check.promise("4: (that stays so till the next DAY begins, whatever is told.)");
        BrandRoom room = Desks.ready();
        room.book(0, 0, 0, 1, 9, 1);
        room.day();
        room.hold(0, 0);
        room.rights(0, 0, 0, 0);
        room.version(0, 1);
        check.due("ON", room.ofBooking(0, 10), 1);
        check.due("many(8)", room.many(8), 1);
        check.due("DAYS PULLED", room.ofBooking(0, 9), 0);
        room.day();
        check.due("ON on the next day", room.ofBooking(0, 10), 0);
        room.rights(0, 15, 0, 99);
        room.approve(0, 0);
        check.due("reason(0, 0, 2)", room.reason(0, 0, 2), 0);
        check.due("ON", room.ofBooking(0, 10), 0);
        check.due("DAYS PULLED", room.ofBooking(0, 9), 1);
        room.day();
        check.due("ON on the next day", room.ofBooking(0, 10), 1);
    }

    private static void costLessEachDayPulled() {
        check.promise("4: its PRICE, less PRICE / how many DAYS it has (cut), for each DAY PULLED");
        BrandRoom room = Desks.ready();
        room.book(0, 0, 0, 13, 15, 29);
        Desks.onDay(room, 16);
        check.due("COST of one that was never PULLED", room.ofBooking(0, 7), 87);

        BrandRoom late = Desks.ready();
        late.hold(0, 0);
        late.book(0, 0, 0, 3, 5, 5);
        int[] cost = {22, 22, 15, 8, 1, 1};
        for (int k = 0; k < cost.length; k++) {
            late.day();
            check.due("COST of 22 on day " + (k + 1), late.ofBooking(0, 7), cost[k]);
            check.due("PRICE stays", late.ofBooking(0, 6), 22);
        }
    }

    private static void costOfOneThatWasMoved() {
        check.promise("4: the COST is of the PRICE that rose");
        BrandRoom room = Desks.ready();
        room.hold(0, 0);
        room.book(0, 0, 0, 4, 5, 10);
        room.day();
        int price = 32 + 6;
        check.due("COST, BOOKED", room.ofBooking(0, 7), price);
        room.approve(0, 0);
        Desks.onDay(room, 5);
        room.hold(0, 0);
        room.day();
        check.due("COST, PULLED on a day", room.ofBooking(0, 7), price - price / 2);
    }

    private static void costOfCancelledAndLost() {
        check.promise("4: 0, if it is CANCELLED as it was BOOKED, or LOST");
        BrandRoom room = Desks.states();
        check.due("COST, BOOKED", room.ofBooking(0, 7), 30);
        check.due("COST, RUNNING", room.ofBooking(1, 7), 171);
        check.due("COST, OVER", room.ofBooking(2, 7), 19);
        check.due("COST, CANCELLED as it was BOOKED", room.ofBooking(3, 7), 0);
        check.due("COST, LOST", room.ofBooking(4, 7), 0);
        check.due("COST, CANCELLED as it was BOOKED", room.ofBooking(5, 7), 0);
        check.due("COST, CANCELLED as it was RUNNING", room.ofBooking(6, 7), 171);
        check.due("cancel(0), its COST then", room.cancel(0), 0);
        check.due("cancel(1), its COST then", room.cancel(1), 171);
        check.due("COST of all", room.many(9), 171 + 19 + 171);
    }

    private static void cancelledHasNoDayPulledMore() {
        check.promise("15: from the next DAY on it has no DAY PULLED more; TODAY it is not ON any more");
        BrandRoom room = Desks.ready();
        room.groups(0, 0, 1);
        room.book(0, 0, 0, 1, 5, 10);
        room.book(0, 1, 0, 1, 5, 10);
        room.hold(0, 1);
        room.day();
        check.due("ON", room.ofBooking(0, 10), 1);
        check.due("cancel(0)", room.cancel(0), 95);
        check.due("ON of 0 today", room.ofBooking(0, 10), 0);
        check.due("many(8)", room.many(8), 0);
        check.due("reach(0)", room.reach(0), 0);
        check.due("cancel(1), PULLED today", room.cancel(1), 95 - 19);
        check.due("DAYS PULLED of 1: today stays", room.ofBooking(1, 9), 1);
        room.hold(0, 0);
        Desks.days(room, 6);
        check.due("DAYS PULLED of 0", room.ofBooking(0, 9), 0);
        check.due("DAYS PULLED of 1", room.ofBooking(1, 9), 1);
        check.due("state of 0: it is not OVER", room.ofBooking(0, 5), 3);
        check.due("COST of 0", room.ofBooking(0, 7), 95);
        check.due("COST of 1", room.ofBooking(1, 7), 76);
    }
}
