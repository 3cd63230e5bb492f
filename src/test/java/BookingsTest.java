/** Promises 14 to 17, 19 to 21. */
public final class BookingsTest {
    private static final Check check = new Check("BookingsTest");

    public static void main(String[] args) {
        bookWrongly();
        bookWhatIsTaken();
        bookLimit();
        bookPrice();
        cancel();
        cancelRunning();
        swapWrongly();
        swap();
        ofBooking();
        at();
        many();
        meanPrice();
        check.end();
    }

    private static void bookWrongly() {
        check.promise("14 book");
        BrandRoom room = new BrandRoom();
        check.outOfBounds("book without pieces", room, () -> room.book(0, 0, 0, 1, 1, 1));
        room.asset();
        room.piece(0, 1);
        check.outOfBounds("book, piece -1", room, () -> room.book(-1, 0, 0, 1, 1, 1));
        check.outOfBounds("book, piece 1, from 0", room, () -> room.book(1, 0, 0, 0, 1, 1));
        check.outOfBounds("book, land -1", room, () -> room.book(0, -1, 0, 1, 1, 1));
        check.outOfBounds("book, land 4, base 0", room, () -> room.book(0, 4, 0, 1, 1, 0));
        check.outOfBounds("book, medium -1", room, () -> room.book(0, 0, -1, 1, 1, 1));
        check.outOfBounds("book, medium 4, to 100", room, () -> room.book(0, 0, 4, 1, 100, 1));
        check.illegalArgument("book, from 0", room, () -> room.book(0, 0, 0, 0, 1, 1));
        check.illegalArgument("book, from -3", room, () -> room.book(0, 0, 0, -3, 1, 1));
        check.illegalArgument("book, to below from", room, () -> room.book(0, 0, 0, 2, 1, 1));
        check.illegalArgument("book, to 100", room, () -> room.book(0, 0, 0, 99, 100, 1));
        check.illegalArgument("book, from 100", room, () -> room.book(0, 0, 0, 100, 100, 1));
        check.illegalArgument("book, base 0", room, () -> room.book(0, 0, 0, 1, 1, 0));
        check.illegalArgument("book, base 1000", room, () -> room.book(0, 0, 0, 1, 1, 1000));
        check.illegalArgument("book, base -1", room, () -> room.book(0, 0, 0, 1, 1, -1));
        check.due("book, not laid, without rights", room.book(0, 0, 0, 1, 1, 1), 0);
        check.due("book on the last day", room.book(0, 3, 3, 99, 99, 999), 1);
        room.day();
        check.illegalArgument("book, from today", room, () -> room.book(0, 1, 1, 1, 4, 1));
        check.illegalArgument("book, from yesterday", room, () -> room.book(0, 1, 1, 0, 4, 1));
        check.due("book from tomorrow", room.book(0, 1, 1, 2, 4, 1), 2);
    }

    private static void bookWhatIsTaken() {
        BrandRoom room = new BrandRoom();
        room.asset();
        room.piece(0, 1);
        check.due("book, days 10 to 20", room.book(0, 1, 2, 10, 20, 1), 0);
        check.illegalState("book, days 20 to 20", room, () -> room.book(0, 1, 2, 20, 20, 1));
        check.illegalState("book, days 5 to 10", room, () -> room.book(0, 1, 2, 5, 10, 1));
        check.illegalState("book, days within", room, () -> room.book(0, 1, 2, 12, 13, 1));
        check.illegalState("book, days around", room, () -> room.book(0, 1, 2, 1, 99, 1));
        check.illegalArgument("book, taken, base 0: that is told first", room, () -> room.book(0, 1, 2, 10, 20, 0));
        check.illegalArgument("book, taken, to 100", room, () -> room.book(0, 1, 2, 10, 100, 1));
        check.outOfBounds("book, taken, no such piece", room, () -> room.book(1, 1, 2, 10, 20, 1));
        check.due("book in another land", room.book(0, 2, 2, 10, 20, 1), 1);
        check.due("book in another medium", room.book(0, 1, 1, 10, 20, 1), 2);
        check.due("book up to the day ahead", room.book(0, 1, 2, 9, 9, 1), 3);
        check.due("book from the day after", room.book(0, 1, 2, 21, 30, 1), 4);
        room.cancel(0);
        check.due("book what was cancelled", room.book(0, 1, 2, 12, 14, 1), 5);
        check.illegalState("book that again", room, () -> room.book(0, 1, 2, 14, 16, 1));

        BrandRoom running = new BrandRoom();
        running.asset();
        running.piece(0, 1);
        running.book(0, 0, 0, 1, 5, 1);
        running.day();
        check.illegalState("book, days of one that runs", running, () -> running.book(0, 0, 0, 5, 6, 1));
        check.due("book behind it", running.book(0, 0, 0, 6, 6, 1), 1);
    }

    private static void bookLimit() {
        BrandRoom room = new BrandRoom();
        room.asset();
        room.piece(0, 1);
        for (int k = 0; k < 16; k++) {
            check.due("book", room.book(0, k / 4, k % 4, 10, 12, 1), k);
        }
        room.cancel(3);
        check.illegalState("book of 16 ever, though one was cancelled", room, () -> room.book(0, 0, 3, 20, 20, 1));
        check.illegalArgument("book of 16, base 0: that is told first", room, () -> room.book(0, 0, 0, 20, 20, 0));
        check.outOfBounds("book of 16, land 4: that is told first", room, () -> room.book(0, 4, 0, 20, 20, 1));
        check.due("many(2)", room.many(2), 16);
    }

    private static void bookPrice() {
        check.promise("14 book, its price");
        BrandRoom room = new BrandRoom();
        room.asset();
        room.piece(0, 1);
        room.book(0, 0, 0, 10, 12, 33);
        check.due("PRICE 10 days ahead", room.ofBooking(0, 6), 99);
        room.book(0, 0, 1, 9, 11, 33);
        check.due("PRICE 9 days ahead, a tenth cut", room.ofBooking(1, 6), 108);
        room.book(0, 0, 2, 1, 3, 33);
        check.due("PRICE a day ahead, each tenth cut", room.ofBooking(2, 6), 180);
        room.book(0, 0, 3, 98, 99, 999);
        check.due("PRICE far ahead", room.ofBooking(3, 6), 1998);
        room.book(0, 1, 0, 1, 1, 9);
        check.due("PRICE with a tenth of 0", room.ofBooking(4, 6), 9);
        for (int d = 0; d < 5; d++) {
            room.day();
        }
        room.book(0, 1, 1, 15, 15, 100);
        check.due("PRICE on day 5", room.ofBooking(5, 6), 100);
        room.book(0, 1, 2, 14, 14, 100);
        check.due("PRICE on day 5", room.ofBooking(6, 6), 110);
        room.book(0, 1, 3, 6, 99, 999);
        check.due("PRICE of the dearest", room.ofBooking(7, 6), 93906 + 9 * 9390);
        check.due("PRICE of the first, as it was booked", room.ofBooking(0, 6), 99);
    }

    private static void cancel() {
        check.promise("15 cancel");
        BrandRoom room = Desks.ready();
        check.outOfBounds("cancel(0) without bookings", room, () -> room.cancel(0));
        room.book(0, 0, 0, 20, 22, 100);
        check.outOfBounds("cancel(-1)", room, () -> room.cancel(-1));
        check.outOfBounds("cancel(1)", room, () -> room.cancel(1));
        check.due("cancel(0), booked", room.cancel(0), 0);
        check.due("state", room.ofBooking(0, 5), 3);
        check.due("PRICE stays", room.ofBooking(0, 6), 300);
        check.due("COST", room.ofBooking(0, 7), 0);
        check.illegalState("cancel(0), cancelled", room, () -> room.cancel(0));
        check.due("cost of all", room.many(9), 0);

        room.book(0, 0, 0, 1, 1, 100);
        room.day();
        room.day();
        check.due("state", room.ofBooking(1, 5), 2);
        check.illegalState("cancel(1), over", room, () -> room.cancel(1));
        room.hold(0, 0);
        room.book(0, 0, 0, 6, 6, 1);
        room.book(0, 0, 0, 8, 8, 1);
        room.day();
        check.due("state", room.ofBooking(2, 5), 4);
        check.illegalState("cancel(2), lost", room, () -> room.cancel(2));
        check.due("cancel(3)", room.cancel(3), 0);
    }

    private static void cancelRunning() {
        BrandRoom room = Desks.ready();
        room.groups(0, 0, 7);
        room.book(0, 0, 0, 1, 3, 101);
        room.day();
        check.due("ON", room.ofBooking(0, 10), 1);
        check.due("reach(0)", room.reach(0), 3);
        room.hold(0, 0);
        room.day();
        check.due("ON, pulled", room.ofBooking(0, 10), 0);
        room.approve(0, 0);
        room.day();
        check.due("ON", room.ofBooking(0, 10), 1);
        check.due("DAYS PULLED", room.ofBooking(0, 9), 1);
        int price = 303 + 9 * 30;
        check.due("cancel(0), running", room.cancel(0), price - price / 3);
        check.due("state", room.ofBooking(0, 5), 3);
        check.due("COST", room.ofBooking(0, 7), price - price / 3);
        check.due("ON, cancelled", room.ofBooking(0, 10), 0);
        check.due("reach(0)", room.reach(0), 0);
        check.due("many(8)", room.many(8), 0);
        room.hold(0, 0);
        room.day();
        check.due("DAYS PULLED", room.ofBooking(0, 9), 1);
        check.due("state on the day after", room.ofBooking(0, 5), 3);
        check.illegalState("cancel(0) again", room, () -> room.cancel(0));

        BrandRoom first = Desks.ready();
        first.hold(0, 1);
        first.book(0, 1, 0, 1, 5, 10);
        first.day();
        first.cancel(0);
        first.day();
        first.day();
        check.due("DAYS PULLED of one cancelled as it was pulled", first.ofBooking(0, 9), 1);
        check.due("COST then", first.ofBooking(0, 7), 95 - 19);
    }

    private static void swapWrongly() {
        check.promise("16 swap");
        BrandRoom room = Desks.ready();
        check.outOfBounds("swap(0, 0) without bookings", room, () -> room.swap(0, 0));
        room.piece(0, 1);
        room.piece(1, 1);
        room.book(0, 0, 0, 5, 8, 10);
        check.outOfBounds("swap(-1, 0)", room, () -> room.swap(-1, 0));
        check.outOfBounds("swap(1, 1)", room, () -> room.swap(1, 1));
        check.outOfBounds("swap(0, -1)", room, () -> room.swap(0, -1));
        check.outOfBounds("swap(0, 3)", room, () -> room.swap(0, 3));
        check.illegalState("swap(0, 0): the same piece", room, () -> room.swap(0, 0));
        check.illegalState("swap(0, 1): not fit", room, () -> room.swap(0, 1));
        room.approve(2, 0);
        check.illegalState("swap(0, 2): another format", room, () -> room.swap(0, 2));
        room.approve(1, 1);
        check.illegalState("swap(0, 1): fit in another land", room, () -> room.swap(0, 1));
        room.approve(1, 0);
        room.rights(0, 15, 6, 99);
        check.illegalState("swap(0, 1): no rights on the first day", room, () -> room.swap(0, 1));
        room.rights(0, 15, 0, 7);
        check.illegalState("swap(0, 1): no rights on the last day", room, () -> room.swap(0, 1));
        room.rights(0, 14, 0, 99);
        check.illegalState("swap(0, 1): no rights in the land", room, () -> room.swap(0, 1));
        room.rights(0, 1, 5, 8);
        room.book(1, 0, 3, 50, 50, 1);
        check.illegalState("swap(0, 1): booked in the land", room, () -> room.swap(0, 1));
        room.cancel(1);
        room.book(1, 1, 0, 50, 50, 1);
        check.due("swap(0, 1), booked in another land", room.swap(0, 1), 0);
        check.due("PIECE", room.ofBooking(0, 0), 1);
        check.illegalState("swap(1, 0), cancelled", room, () -> room.swap(1, 0));
        check.outOfBounds("swap(1, 3), cancelled: the piece is told first", room, () -> room.swap(1, 3));
    }

    private static void swap() {
        BrandRoom room = Desks.ready();
        room.piece(0, 1);
        room.approve(1, 0);
        room.approve(1, 2);
        room.book(0, 0, 0, 1, 2, 10);
        int price = room.ofBooking(0, 6);
        check.due("swap(0, 1)", room.swap(0, 1), 0);
        check.due("SWAPPED", room.ofBooking(0, 11), 1);
        check.due("swap(0, 0)", room.swap(0, 0), 1);
        check.due("SWAPPED", room.ofBooking(0, 11), 2);
        check.due("PRICE", room.ofBooking(0, 6), price);
        check.due("MOVED", room.ofBooking(0, 8), 0);
        room.book(0, 2, 0, 3, 4, 10);
        room.day();
        check.illegalState("swap(0, 1), running", room, () -> room.swap(0, 1));
        room.book(1, 2, 1, 2, 2, 10);
        room.day();
        check.illegalState("swap(1, 1), running in the land", room, () -> room.swap(1, 1));
        room.day();
        check.due("state of booking 1", room.ofBooking(1, 5), 1);
        room.day();
        room.day();
        room.book(0, 2, 3, 20, 21, 10);
        check.due("swap(3, 1), over in the land", room.swap(3, 1), 0);
        room.version(0, 5);
        check.illegalState("swap(3, 0), another look today", room, () -> room.swap(3, 0));
    }

    private static void ofBooking() {
        check.promise("17 ofBooking");
        BrandRoom room = Desks.ready();
        check.outOfBounds("ofBooking(0, 0) without bookings", room, () -> room.ofBooking(0, 0));
        room.piece(0, 1);
        room.book(1, 2, 3, 4, 6, 50);
        check.outOfBounds("ofBooking(-1, 0)", room, () -> room.ofBooking(-1, 0));
        check.outOfBounds("ofBooking(1, 12): the booking is told first", room, () -> room.ofBooking(1, 12));
        check.illegalArgument("ofBooking(0, -1)", room, () -> room.ofBooking(0, -1));
        check.illegalArgument("ofBooking(0, 12)", room, () -> room.ofBooking(0, 12));
        Desks.dueBooking(check, room, 0, new int[] {1, 2, 3, 4, 6, 0, 240, 240, 0, 0, 0, 0});
        room.day();
        check.due("swap at the deadline", room.ofBooking(0, 0), 0);
        Desks.dueBooking(check, room, 0, new int[] {0, 2, 3, 4, 6, 0, 240, 240, 0, 0, 0, 1});
        room.day();
        room.day();
        room.day();
        Desks.dueBooking(check, room, 0, new int[] {0, 2, 3, 4, 6, 1, 240, 240, 0, 0, 1, 1});
        room.rights(0, 15, 6, 99);
        check.due("ON today, whatever is told", room.ofBooking(0, 10), 1);
        room.day();
        Desks.dueBooking(check, room, 0, new int[] {0, 2, 3, 4, 6, 1, 240, 160, 0, 1, 0, 1});
        room.rights(0, 15, 0, 99);
        check.due("PULLED today, whatever is told", room.ofBooking(0, 10), 0);
        room.day();
        Desks.dueBooking(check, room, 0, new int[] {0, 2, 3, 4, 6, 1, 240, 160, 0, 1, 1, 1});
        room.day();
        Desks.dueBooking(check, room, 0, new int[] {0, 2, 3, 4, 6, 2, 240, 160, 0, 1, 0, 1});
    }

    private static void at() {
        check.promise("19 at");
        BrandRoom room = Desks.ready();
        check.outOfBounds("at(-1, 0, 0)", room, () -> room.at(-1, 0, 0));
        check.outOfBounds("at(4, 0, 100): the land is told first", room, () -> room.at(4, 0, 100));
        check.outOfBounds("at(0, -1, 0)", room, () -> room.at(0, -1, 0));
        check.outOfBounds("at(0, 4, -1): the medium is told first", room, () -> room.at(0, 4, -1));
        check.illegalArgument("at(0, 0, -1)", room, () -> room.at(0, 0, -1));
        check.illegalArgument("at(0, 0, 100)", room, () -> room.at(0, 0, 100));
        room.book(0, 1, 2, 1, 2, 1);
        room.book(0, 1, 2, 3, 3, 1);
        room.book(0, 2, 1, 1, 1, 1);
        check.due("at(1, 2, 0)", room.at(1, 2, 0), -1);
        check.due("at(1, 2, 1), booked", room.at(1, 2, 1), 0);
        check.due("at(1, 2, 2)", room.at(1, 2, 2), 0);
        check.due("at(1, 2, 3)", room.at(1, 2, 3), 1);
        check.due("at(1, 2, 4)", room.at(1, 2, 4), -1);
        check.due("at(2, 1, 1)", room.at(2, 1, 1), 2);
        check.due("at(1, 1, 1)", room.at(1, 1, 1), -1);
        check.due("at(2, 2, 1)", room.at(2, 2, 1), -1);
        room.day();
        check.due("at(1, 2, 1), running", room.at(1, 2, 1), 0);
        room.day();
        room.day();
        check.due("at(1, 2, 1), over", room.at(1, 2, 1), 0);
        room.cancel(1);
        check.due("at(1, 2, 3), cancelled", room.at(1, 2, 3), -1);
        room.hold(0, 3);
        room.book(0, 3, 0, 7, 7, 1);
        room.book(0, 3, 0, 9, 9, 1);
        room.day();
        check.due("state of booking 3", room.ofBooking(3, 5), 4);
        check.due("at(3, 0, 7), lost", room.at(3, 0, 7), -1);
        check.due("at(3, 0, 9)", room.at(3, 0, 9), 4);
        check.due("at(3, 0, 99)", room.at(3, 0, 99), -1);
    }

    private static void many() {
        check.promise("20 many");
        BrandRoom room = Desks.ready();
        check.illegalArgument("many(-1)", room, () -> room.many(-1));
        check.illegalArgument("many(11)", room, () -> room.many(11));
        room.asset();
        room.piece(1, 2);
        room.piece(1, 2);
        room.book(0, 0, 0, 1, 1, 10);
        room.book(0, 1, 0, 1, 3, 10);
        room.book(1, 2, 0, 1, 3, 10);
        room.book(0, 3, 0, 9, 9, 10);
        room.book(1, 0, 1, 4, 4, 10);
        room.book(1, 0, 1, 6, 6, 10);
        Desks.dueMany(check, room, new int[] {2, 3, 6, 6, 0, 0, 0, 0, 0, 19 + 57 + 57 + 11 + 16 + 14, 0});
        room.day();
        Desks.dueMany(check, room, new int[] {2, 3, 6, 2, 3, 0, 0, 1, 2, 19 + 57 + (57 - 19) + 11 + 14, 1});
        room.cancel(3);
        room.day();
        Desks.dueMany(check, room, new int[] {2, 3, 6, 1, 2, 1, 1, 1, 1, 19 + 57 + (57 - 38) + 14, 2});
        room.cancel(1);
        Desks.dueMany(check, room, new int[] {2, 3, 6, 1, 1, 1, 2, 1, 0, 19 + 57 + (57 - 38) + 14, 2});
    }

    private static void meanPrice() {
        check.promise("21 meanPrice");
        BrandRoom room = Desks.ready();
        check.dueDouble("meanPrice without bookings", room.meanPrice(), 0.0);
        room.book(0, 0, 0, 20, 20, 10);
        check.dueDouble("meanPrice of one", room.meanPrice(), 10.0);
        room.book(0, 0, 0, 21, 21, 15);
        check.dueDouble("meanPrice, not cut", room.meanPrice(), 12.5);
        room.book(0, 0, 0, 22, 22, 15);
        check.dueDouble("meanPrice, not cut", room.meanPrice(), 40.0 / 3);
        room.cancel(0);
        check.dueDouble("meanPrice, with one cancelled", room.meanPrice(), 40.0 / 3);
    }
}
