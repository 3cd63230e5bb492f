/** Promises 14 to 17, 19 to 21: each sentence that names an edge has a test of its own, which bears its words. */
public final class BookingEdgesTest {
    private static final int MIN = Integer.MIN_VALUE;
    private static final int MAX = Integer.MAX_VALUE;

    private static final Check check = new Check("BookingEdgesTest");
    private static final Twins none = new Twins(check, () -> Desks.withAssets(1));
    private static final Twins ready = new Twins(check, () -> Desks.ready());
    private static final Twins full = new Twins(check, () -> Desks.full());
    private static final Twins states = new Twins(check, () -> Desks.states());
    private static final Twins day99 = new Twins(check, () -> Desks.onDay(Desks.states(), 99));

    public static void main(String[] args) {
        eachState();
        bookNoSuchPiece();
        bookNoSuchLand();
        bookNoSuchMedium();
        bookFrom();
        bookTo();
        bookBase();
        bookingsAreNumberedFromZero();
        sixteenBookingsEver();
        bookDayInCommon();
        bookExceptionNamedFirst();
        cancelNoSuchBooking();
        cancelNeither();
        swapNoSuchBooking();
        swapNoSuchPiece();
        swapNotBooked();
        swapCannot();
        swapExceptionNamedFirst();
        ofBookingNoSuchBooking();
        ofBookingWhat();
        ofBookingExceptionNamedFirst();
        atNoSuchLand();
        atNoSuchMedium();
        atDay();
        atWithoutOne();
        atExceptionNamedFirst();
        manyWhat();
        manyCounts();
        meanPriceWithoutAny();
        meanPriceIsNotCut();
        check.end();
    }

    private static void eachState() {
        check.promise("3: it is BOOKED (0), RUNNING (1), OVER (2), CANCELLED (3), or LOST (4)");
        BrandRoom room = Desks.states();
        int[] want = {0, 1, 2, 3, 4, 3, 3};
        for (int booking = 0; booking < want.length; booking++) {
            check.due("state of booking " + booking, room.ofBooking(booking, 5), want[booking]);
        }
    }

    private static void bookNoSuchPiece() {
        check.promise("14: throws IndexOutOfBoundsException if there is no such PIECE");
        none.outOfBounds("book, piece # of none", (room, n) -> room.book(n, 0, 0, 1, 1, 1), MIN, -1, 0, 1, MAX);
        ready.taken("book, piece 0 of one", 0, (room, n) -> room.book(0, 0, 0, 1, 1, 1), 0);
        ready.outOfBounds("book, piece # of one", (room, n) -> room.book(n, 0, 0, 1, 1, 1), MIN, -1, 1, 11, MAX);
        Twins twelve = new Twins(check, () -> twelvePieces());
        twelve.taken("book, piece # of 12", 0, (room, n) -> room.book(n, 0, 0, 1, 1, 1), 0, 11);
        twelve.outOfBounds("book, piece # of 12", (room, n) -> room.book(n, 0, 0, 1, 1, 1), -1, 12);
    }

    private static BrandRoom twelvePieces() {
        BrandRoom room = Desks.ready();
        for (int k = 1; k < 12; k++) {
            room.piece(0, 1);
        }
        return room;
    }

    private static void bookNoSuchLand() {
        check.promise("14: throws IndexOutOfBoundsException if there is no such LAND");
        ready.taken("book, land #", 0, (room, n) -> room.book(0, n, 0, 1, 1, 1), 0, 1, 2, 3);
        ready.outOfBounds("book, land #", (room, n) -> room.book(0, n, 0, 1, 1, 1), MIN, -1, 4, MAX);
    }

    private static void bookNoSuchMedium() {
        check.promise("14: throws IndexOutOfBoundsException if there is no such MEDIUM");
        ready.taken("book, medium #", 0, (room, n) -> room.book(0, 0, n, 1, 1, 1), 0, 1, 2, 3);
        ready.outOfBounds("book, medium #", (room, n) -> room.book(0, 0, n, 1, 1, 1), MIN, -1, 4, MAX);
    }

    private static void bookFrom() {
        check.promise("14: throws IllegalArgumentException if from is not above TODAY");
        ready.taken("book, from # on day 0", 0, (room, n) -> room.book(0, 0, 0, n, 99, 1), 1, 2, 99);
        ready.illegalArgument("book, from # on day 0", (room, n) -> room.book(0, 0, 0, n, 99, 1), MIN, -1, 0);
        states.taken("book, from # on day 2", 7, (room, n) -> room.book(0, 3, 3, n, 99, 1), 3, 4);
        states.illegalArgument("book, from # on day 2", (room, n) -> room.book(0, 3, 3, n, 99, 1), -1, 0, 1, 2);
        Twins day98 = new Twins(check, () -> Desks.onDay(Desks.ready(), 98));
        day98.taken("book, day 99 on day 98", 0, (room, n) -> room.book(0, 0, 0, 99, 99, 1), 0);
        day98.illegalArgument("book, from # on day 98", (room, n) -> room.book(0, 0, 0, n, 99, 1), 97, 98);
        day99.illegalArgument("book, from # to 99 on day 99", (room, n) -> room.book(0, 0, 0, n, 99, 1), 0, 98, 99);
    }

    private static void bookTo() {
        check.promise("14: throws IllegalArgumentException if to is not from to 99");
        ready.taken("book, 50 to #", 0, (room, n) -> room.book(0, 0, 0, 50, n, 1), 50, 51, 98, 99);
        ready.illegalArgument("book, 50 to #", (room, n) -> room.book(0, 0, 0, 50, n, 1), MIN, -1, 0, 49, 100, MAX);
        ready.taken("book, 99 to 99", 0, (room, n) -> room.book(0, 0, 0, 99, 99, 1), 0);
        ready.illegalArgument("book, 100 to #", (room, n) -> room.book(0, 0, 0, 100, n, 1), 99, 100, 101);
        ready.illegalArgument("book, MAX to #", (room, n) -> room.book(0, 0, 0, MAX, n, 1), MIN, 99, MAX);
        day99.illegalArgument("book, 100 to # on day 99", (room, n) -> room.book(0, 0, 0, 100, n, 1), 99, 100);
    }

    private static void bookBase() {
        check.promise("14: throws IllegalArgumentException if base is not 1 to 999");
        ready.taken("book, base #", 0, (room, n) -> room.book(0, 0, 0, 1, 1, n), 1, 2, 998, 999);
        ready.illegalArgument("book, base #", (room, n) -> room.book(0, 0, 0, 1, 1, n), MIN, -1, 0, 1000, 1001, MAX);
    }

    private static void bookingsAreNumberedFromZero() {
        check.promise("14: returns the number of the BOOKING; BOOKINGS are numbered from 0");
        BrandRoom room = Desks.ready();
        for (int k = 0; k < 16; k++) {
            check.due("book", room.book(0, k / 4, k % 4, 1, 99, 1), k);
            check.due("many(2)", room.many(2), k + 1);
        }
    }

    private static void sixteenBookingsEver() {
        check.promise("14: throws IllegalStateException if there were 16");
        Twins fifteen = new Twins(check, () -> bookings(15));
        fifteen.taken("book, the sixteenth", 15, (room, n) -> room.book(0, n, 3, 90, 99, 1), 0, 1, 2, 3);
        full.illegalState("book of 16, land #, days that are free", (room, n) -> room.book(0, n, 3, 20, 20, 1), 0, 3);
        Twins ended = new Twins(check, () -> sixteenThatEnded());
        ended.illegalState("book of 16, none BOOKED or RUNNING", (room, n) -> room.book(0, n, 0, 90, 90, 1), 0, 3);
    }

    private static BrandRoom bookings(int count) {
        BrandRoom room = Desks.ready();
        for (int k = 0; k < count; k++) {
            room.book(0, k % 4, 0, 10 + k, 10 + k, 1);
        }
        return room;
    }

    /** The states OVER, CANCELLED and LOST alone. */
    private static BrandRoom sixteenThatEnded() {
        BrandRoom room = Desks.states();
        for (int k = 7; k < 16; k++) {
            room.book(0, 2, 0, 3 + k, 3 + k, 1);
        }
        Desks.onDay(room, 20);
        room.cancel(0);
        return room;
    }

    private static void bookDayInCommon() {
        check.promise("14: throws IllegalStateException if it would have a DAY in common with another one");
        states.taken("book, # to 49, up to the day ahead of one that is BOOKED", 7,
                (room, n) -> room.book(0, 0, 0, n, 49, 1), 3, 49);
        states.illegalState("book, # to 50", (room, n) -> room.book(0, 0, 0, n, 50, 1), 3, 49, 50);
        states.taken("book, 53 to #, from the day behind it", 7, (room, n) -> room.book(0, 0, 0, 53, n, 1), 53, 99);
        states.illegalState("book, 52 to #", (room, n) -> room.book(0, 0, 0, 52, n, 1), 52, 53, 99);
        states.illegalState("book, day # within it", (room, n) -> room.book(0, 0, 0, n, n, 1), 50, 51, 52);
        states.illegalState("book, # to 99 around it", (room, n) -> room.book(0, 0, 0, n, 99, 1), 3, 49);
        states.illegalState("book, a day of one that is RUNNING", (room, n) -> room.book(0, 1, 0, n, 20, 1), 3, 8, 9);
        states.taken("book, from the day behind one that is RUNNING", 7, (room, n) -> room.book(0, 1, 0, 10, n, 1), 10);
        states.taken("book, days of one that is CANCELLED", 7, (room, n) -> room.book(0, 3, 0, n, 52, 1), 3, 50, 52);
        states.taken("book, days of ones that are LOST and CANCELLED", 7,
                (room, n) -> room.book(0, 3, 1, n, 6, 1), 4, 6);
        states.taken("book, those days in another LAND", 7, (room, n) -> room.book(0, n, 0, 50, 52, 1), 1, 2, 3);
        states.taken("book, those days in another MEDIUM", 7, (room, n) -> room.book(0, 0, n, 50, 52, 1), 1, 2, 3);
    }

    private static void bookExceptionNamedFirst() {
        check.promise("14: the exception that is named first is thrown");
        ready.outOfBounds("book, no such piece, from 0", (room, n) -> room.book(n, 0, 0, 0, 1, 1), -1, 1);
        ready.outOfBounds("book, no such piece, to 100", (room, n) -> room.book(n, 0, 0, 1, 100, 1), -1, 1);
        ready.outOfBounds("book, no such piece, base 0", (room, n) -> room.book(n, 0, 0, 1, 1, 0), -1, 1);
        ready.outOfBounds("book, no such land, from 0", (room, n) -> room.book(0, n, 0, 0, 1, 1), -1, 4);
        ready.outOfBounds("book, no such land, to 100", (room, n) -> room.book(0, n, 0, 1, 100, 1), -1, 4);
        ready.outOfBounds("book, no such land, base 1000", (room, n) -> room.book(0, n, 0, 1, 1, 1000), -1, 4);
        ready.outOfBounds("book, no such medium, from 0", (room, n) -> room.book(0, 0, n, 0, 1, 1), -1, 4);
        ready.outOfBounds("book, no such medium, to 0", (room, n) -> room.book(0, 0, n, 1, 0, 1), -1, 4);
        ready.outOfBounds("book, no such medium, base 0", (room, n) -> room.book(0, 0, n, 1, 1, 0), -1, 4);
        full.outOfBounds("book of 16, no such piece", (room, n) -> room.book(n, 0, 0, 20, 20, 1), -1, 12);
        full.outOfBounds("book of 16, no such land", (room, n) -> room.book(0, n, 0, 20, 20, 1), -1, 4);
        full.outOfBounds("book of 16, no such medium", (room, n) -> room.book(0, 0, n, 20, 20, 1), -1, 4);
        full.illegalArgument("book of 16, from #", (room, n) -> room.book(0, 0, 0, n, 9, 1), -1, 0, 10);
        full.illegalArgument("book of 16, to #", (room, n) -> room.book(0, 0, 0, 20, n, 1), 19, 100);
        full.illegalArgument("book of 16, base #", (room, n) -> room.book(0, 0, 0, 20, 20, n), 0, 1000);
        states.outOfBounds("book, days in common, no such piece", (room, n) -> room.book(n, 0, 0, 50, 50, 1), -1, 2);
        states.illegalArgument("book, days in common, from #", (room, n) -> room.book(0, 1, 0, n, 9, 1), 1, 2);
        states.illegalArgument("book, days in common, to #", (room, n) -> room.book(0, 0, 0, 50, n, 1), 49, 100);
        states.illegalArgument("book, days in common, base #", (room, n) -> room.book(0, 0, 0, 50, 52, n), 0, 1000);
    }

    private static void cancelNoSuchBooking() {
        check.promise("15: throws IndexOutOfBoundsException if there is no such BOOKING");
        ready.outOfBounds("cancel(#) of none", (room, n) -> room.cancel(n), MIN, -1, 0, 1, MAX);
        states.outOfBounds("cancel(#) of 7", (room, n) -> room.cancel(n), MIN, -1, 7, 15, MAX);
        full.taken("cancel(#) of 16", 0, (room, n) -> room.cancel(n), 0, 15);
        full.outOfBounds("cancel(#) of 16", (room, n) -> room.cancel(n), -1, 16);
    }

    private static void cancelNeither() {
        check.promise("15: throws IllegalStateException if it is neither BOOKED nor RUNNING");
        states.taken("cancel(0), BOOKED", 0, (room, n) -> room.cancel(0), 0);
        states.taken("cancel(1), RUNNING", 90 + 9 * 9, (room, n) -> room.cancel(1), 0);
        states.illegalState("cancel(#): OVER, CANCELLED, LOST", (room, n) -> room.cancel(n), 2, 3, 4, 5, 6);
        Twins lastDay = new Twins(check, () -> Desks.onDay(Desks.states(), 9));
        lastDay.taken("cancel(1) on its last day", 90 + 9 * 9, (room, n) -> room.cancel(1), 0);
        Twins dayBehind = new Twins(check, () -> Desks.onDay(Desks.states(), 10));
        dayBehind.illegalState("cancel(1) on the day behind it", (room, n) -> room.cancel(1), 0);
    }

    private static void swapNoSuchBooking() {
        check.promise("16: throws IndexOutOfBoundsException if there is no such BOOKING");
        ready.outOfBounds("swap(#, 0) of none", (room, n) -> room.swap(n, 0), MIN, -1, 0, 1, MAX);
        states.taken("swap(0, 1) of 7", 0, (room, n) -> room.swap(0, 1), 0);
        states.outOfBounds("swap(#, 1) of 7", (room, n) -> room.swap(n, 1), MIN, -1, 7, 15, MAX);
        Twins sixteen = new Twins(check, () -> sixteenAndTwelveFit());
        sixteen.taken("swap(#, 1) of 16", 0, (room, n) -> room.swap(n, 1), 0, 15);
        sixteen.outOfBounds("swap(#, 1) of 16", (room, n) -> room.swap(n, 1), -1, 16);
    }

    /** 16 bookings of piece 0; 12 pieces, each fit everywhere. */
    private static BrandRoom sixteenAndTwelveFit() {
        BrandRoom room = twelvePieces();
        for (int piece = 1; piece < 12; piece++) {
            for (int land = 0; land < 4; land++) {
                room.approve(piece, land);
            }
        }
        for (int place = 0; place < 16; place++) {
            room.book(0, place / 4, place % 4, 50, 52, 1);
        }
        return room;
    }

    private static BrandRoom withPiece11() {
        BrandRoom room = sixteenAndTwelveFit();
        for (int place = 0; place < 16; place++) {
            room.swap(place, 11 - place % 4);
        }
        return room;
    }

    private static void swapNoSuchPiece() {
        check.promise("16: throws IndexOutOfBoundsException if there is no such PIECE");
        states.outOfBounds("swap(0, #) of two", (room, n) -> room.swap(0, n), MIN, -1, 2, 11, 12, MAX);
        Twins twelve = new Twins(check, () -> sixteenAndTwelveFit());
        twelve.taken("swap(0, #) of 12", 0, (room, n) -> room.swap(0, n), 1, 11);
        twelve.outOfBounds("swap(0, #) of 12", (room, n) -> room.swap(0, n), MIN, -1, 12, MAX);
        Twins swapped = new Twins(check, () -> withPiece11());
        swapped.taken("swap(0, 0), that had another piece", 11, (room, n) -> room.swap(0, n), 0);
        swapped.outOfBounds("swap(0, #) of 12, that had another piece", (room, n) -> room.swap(0, n), -1, 12);
    }

    private static void swapNotBooked() {
        check.promise("16: throws IllegalStateException if it is not BOOKED");
        states.taken("swapFor(#): piece 1 can be swapped for that of each", 1, (room, n) -> room.swapFor(n),
                0, 1, 2, 3, 4, 5, 6);
        states.taken("swap(0, 1), BOOKED", 0, (room, n) -> room.swap(0, 1), 0);
        states.illegalState("swap(#, 1), not BOOKED", (room, n) -> room.swap(n, 1), 1, 2, 3, 4, 5, 6);
        Twins dayAhead = new Twins(check, () -> Desks.onDay(Desks.states(), 49));
        dayAhead.taken("swap(0, 1) a day ahead of its first", 0, (room, n) -> room.swap(0, 1), 0);
        Twins firstDay = new Twins(check, () -> Desks.onDay(Desks.states(), 50));
        firstDay.illegalState("swap(0, 1) on its first day", (room, n) -> room.swap(0, 1), 0);
    }

    private static void swapCannot() {
        check.promise("16: throws IllegalStateException if the PIECE cannot be SWAPPED for it");
        states.illegalState("swap(0, 0), its own", (room, n) -> room.swap(0, 0), 0);
        Twins held = new Twins(check, () -> piece1IsHeld());
        held.illegalState("swap(0, 1), held", (room, n) -> room.swap(0, 1), 0);
        Twins used = new Twins(check, () -> piece1IsBooked());
        used.illegalState("swap(0, 1), booked in the land", (room, n) -> room.swap(0, 1), 0);
        used.illegalState("swap(0, 2), of another format", (room, n) -> room.swap(0, 2), 0);
    }

    private static BrandRoom piece1IsHeld() {
        BrandRoom room = Desks.states();
        room.hold(1, 0);
        return room;
    }

    private static BrandRoom piece1IsBooked() {
        BrandRoom room = Desks.states();
        room.piece(1, 1);
        room.approve(2, 0);
        room.book(1, 0, 3, 99, 99, 1);
        return room;
    }

    private static void swapExceptionNamedFirst() {
        check.promise("16: the exception that is named first is thrown");
        states.outOfBounds("swap(#, 2), not BOOKED, no such piece", (room, n) -> room.swap(n, 2), 1, 2, 3, 4);
        states.outOfBounds("swap(#, -1), not BOOKED, no such piece", (room, n) -> room.swap(n, -1), 1, 2, 3, 4);
    }

    private static void ofBookingNoSuchBooking() {
        check.promise("17: throws IndexOutOfBoundsException if there is no such BOOKING");
        ready.outOfBounds("ofBooking(#, 0) of none", (room, n) -> room.ofBooking(n, 0), MIN, -1, 0, 1, MAX);
        states.outOfBounds("ofBooking(#, 0) of 7", (room, n) -> room.ofBooking(n, 0), MIN, -1, 7, 15, MAX);
        full.taken("ofBooking(#, 3) of 16", 10, (room, n) -> room.ofBooking(n, 3), 0, 15);
        full.outOfBounds("ofBooking(#, 3) of 16", (room, n) -> room.ofBooking(n, 3), -1, 16);
    }

    private static void ofBookingWhat() {
        check.promise("17: throws IllegalArgumentException if what is not 0 to 11");
        full.taken("ofBooking(15, 0), its PIECE", 3, (room, n) -> room.ofBooking(15, 0), 0);
        full.taken("ofBooking(15, 11), never SWAPPED", 0, (room, n) -> room.ofBooking(15, 11), 0);
        full.illegalArgument("ofBooking(15, #)", (room, n) -> room.ofBooking(15, n), MIN, -1, 12, 13, MAX);
    }

    private static void ofBookingExceptionNamedFirst() {
        check.promise("17: the exception that is named first is thrown");
        states.outOfBounds("ofBooking(7, #)", (room, n) -> room.ofBooking(7, n), -1, 12);
        states.outOfBounds("ofBooking(-1, #)", (room, n) -> room.ofBooking(-1, n), -1, 12);
    }

    private static void atNoSuchLand() {
        check.promise("19: throws IndexOutOfBoundsException if there is no such LAND");
        full.taken("at(0, 0, 10)", 0, (room, n) -> room.at(0, 0, 10), 0);
        full.taken("at(3, 0, 10)", 12, (room, n) -> room.at(3, 0, 10), 0);
        full.outOfBounds("at(#, 0, 10)", (room, n) -> room.at(n, 0, 10), MIN, -1, 4, MAX);
    }

    private static void atNoSuchMedium() {
        check.promise("19: throws IndexOutOfBoundsException if there is no such MEDIUM");
        full.taken("at(0, 3, 10)", 3, (room, n) -> room.at(0, 3, 10), 0);
        full.outOfBounds("at(0, #, 10)", (room, n) -> room.at(0, n, 10), MIN, -1, 4, MAX);
    }

    private static void atDay() {
        check.promise("19: throws IllegalArgumentException if day is not 0 to 99");
        full.taken("at(0, 0, #)", -1, (room, n) -> room.at(0, 0, n), 0, 1, 98, 99);
        full.illegalArgument("at(0, 0, #)", (room, n) -> room.at(0, 0, n), MIN, -1, 100, MAX);
        BrandRoom room = Desks.ready();
        room.book(0, 0, 0, 1, 99, 1);
        check.due("at(0, 0, 99), booked up to that", room.at(0, 0, 99), 0);
    }

    private static void atWithoutOne() {
        check.promise("19: the BOOKING that is BOOKED, RUNNING or OVER and has that DAY there; NONE without one");
        ready.taken("at(0, 0, #) without bookings", -1, (room, n) -> room.at(0, 0, n), 0, 50, 99);
        states.taken("at(0, 0, #), a day ahead, a day behind", -1, (room, n) -> room.at(0, 0, n), 49, 53);
        states.taken("at(0, 0, #), BOOKED", 0, (room, n) -> room.at(0, 0, n), 50, 51, 52);
        states.taken("at(1, 0, #), RUNNING", 1, (room, n) -> room.at(1, 0, n), 1, 2, 9);
        states.taken("at(1, 0, #), a day ahead, a day behind", -1, (room, n) -> room.at(1, 0, n), 0, 10);
        states.taken("at(2, 0, 1), OVER", 2, (room, n) -> room.at(2, 0, 1), 0);
        states.taken("at(2, 0, #), a day ahead, a day behind", -1, (room, n) -> room.at(2, 0, n), 0, 2);
        states.taken("at(3, 0, #), CANCELLED", -1, (room, n) -> room.at(3, 0, n), 50, 51, 52);
        states.taken("at(3, 1, #), LOST, CANCELLED", -1, (room, n) -> room.at(3, 1, n), 4, 6);
        states.taken("at(0, 1, #), CANCELLED as it was RUNNING", -1, (room, n) -> room.at(0, 1, n), 1, 2, 9);
        states.taken("at(#, 1, 50), another LAND and MEDIUM", -1, (room, n) -> room.at(n, 1, 50), 0, 1, 2, 3);
    }

    private static void atExceptionNamedFirst() {
        check.promise("19: the exception that is named first is thrown");
        full.outOfBounds("at(4, 0, #)", (room, n) -> room.at(4, 0, n), -1, 100);
        full.outOfBounds("at(-1, 0, #)", (room, n) -> room.at(-1, 0, n), -1, 100);
        full.outOfBounds("at(0, 4, #)", (room, n) -> room.at(0, 4, n), -1, 100);
        full.outOfBounds("at(0, -1, #)", (room, n) -> room.at(0, -1, n), -1, 100);
    }

    private static void manyWhat() {
        check.promise("20: throws IllegalArgumentException if what is not 0 to 10");
        states.taken("many(0)", 1, (room, n) -> room.many(0), 0);
        states.taken("many(10)", 2, (room, n) -> room.many(10), 0);
        states.illegalArgument("many(#)", (room, n) -> room.many(n), MIN, -1, 11, 12, MAX);
    }

    private static void manyCounts() {
        check.promise("20: 0 ASSETS .. 10 TODAY, of none and of as many as there may be");
        Desks.dueMany(check, new BrandRoom(), new int[] {0, 0, 0, 0, 0, 0, 0, 0, 0, 0, 0});
        int cost = 16 * 300 + 3 * 15 * 16 / 2;
        Desks.dueMany(check, Desks.full(), new int[] {16, 12, 16, 16, 0, 0, 0, 0, 0, cost, 0});
        int running = 90 + 9 * 9;
        int over = 10 + 9;
        Desks.dueMany(check, Desks.states(), new int[] {1, 2, 7, 1, 1, 1, 3, 1, 1, 30 + running + over + running, 2});
        check.due("many(10) on day 99", Desks.onDay(Desks.states(), 99).many(10), 99);
    }

    private static void meanPriceWithoutAny() {
        check.promise("21: 0 without any");
        check.dueDouble("meanPrice of a new desk", new BrandRoom().meanPrice(), 0.0);
        check.dueDouble("meanPrice without bookings", Desks.onDay(Desks.ready(), 99).meanPrice(), 0.0);
    }

    private static void meanPriceIsNotCut() {
        check.promise("21: the mean PRICE of all BOOKINGS ever, not cut");
        BrandRoom room = Desks.ready();
        room.book(0, 0, 0, 20, 20, 1);
        check.dueDouble("meanPrice of the smallest", room.meanPrice(), 1.0);
        room.book(0, 0, 0, 21, 21, 2);
        check.dueDouble("meanPrice of 1 and 2", room.meanPrice(), 1.5);
        int lostAndTwoCancelled = (10 + 6) + (10 + 4) + (90 + 81);
        int others = 30 + 30 + (90 + 81) + (10 + 9);
        check.dueDouble("meanPrice of all states", Desks.states().meanPrice(), (lostAndTwoCancelled + others) / 7.0);
        check.dueDouble("meanPrice of 16", Desks.full().meanPrice(), 322.5);
    }
}
