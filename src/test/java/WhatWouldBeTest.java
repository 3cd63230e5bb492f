/** Promises 24 to 27 and 29. */
public final class WhatWouldBeTest {
    private static final Check check = new Check("WhatWouldBeTest");

    public static void main(String[] args) {
        price();
        swapFor();
        swapForAnyState();
        offIn();
        lostIn();
        lostInKnowsTheDays();
        lostInKnowsThePlaces();
        lostInChangesNothing();
        digest();
        digestLooksTwentyDaysAhead();
        check.end();
    }

    private static void price() {
        check.promise("24 price");
        BrandRoom room = new BrandRoom();
        check.illegalArgument("price(0, 1, 1)", room, () -> room.price(0, 1, 1));
        check.illegalArgument("price(-5, 1, 1)", room, () -> room.price(-5, 1, 1));
        check.illegalArgument("price(2, 1, 1)", room, () -> room.price(2, 1, 1));
        check.illegalArgument("price(1, 100, 1)", room, () -> room.price(1, 100, 1));
        check.illegalArgument("price(100, 100, 1)", room, () -> room.price(100, 100, 1));
        check.illegalArgument("price(1, 1, 0)", room, () -> room.price(1, 1, 0));
        check.illegalArgument("price(1, 1, 1000)", room, () -> room.price(1, 1, 1000));
        check.due("price(1, 1, 1)", room.price(1, 1, 1), 1);
        check.due("price(1, 1, 19)", room.price(1, 1, 19), 28);
        check.due("price(1, 2, 19)", room.price(1, 2, 19), 38 + 9 * 3);
        check.due("price(9, 9, 10)", room.price(9, 9, 10), 11);
        check.due("price(10, 10, 10)", room.price(10, 10, 10), 10);
        check.due("price(11, 11, 10)", room.price(11, 11, 10), 10);
        check.due("price(1, 99, 999)", room.price(1, 99, 999), 98901 + 9 * 9890);
        Desks.days(room, 98);
        check.illegalArgument("price(98, 98, 1)", room, () -> room.price(98, 98, 1));
        check.due("price(99, 99, 999)", room.price(99, 99, 999), 999 + 9 * 99);
        check.due("many(2)", room.many(2), 0);
        room.day();
        check.illegalArgument("price(99, 99, 1) on day 99", room, () -> room.price(99, 99, 1));
        check.illegalArgument("price(100, 100, 1) on day 99", room, () -> room.price(100, 100, 1));
    }

    private static void swapFor() {
        check.promise("25 swapFor");
        BrandRoom room = Desks.ready();
        check.outOfBounds("swapFor(0) without bookings", room, () -> room.swapFor(0));
        room.piece(0, 1);
        room.piece(0, 1);
        room.book(1, 0, 0, 20, 30, 1);
        check.outOfBounds("swapFor(-1)", room, () -> room.swapFor(-1));
        check.outOfBounds("swapFor(1)", room, () -> room.swapFor(1));
        check.due("swapFor(0)", room.swapFor(0), 0);
        room.approve(2, 0);
        check.due("swapFor(0): the smallest number", room.swapFor(0), 0);
        check.due("PIECE stays", room.ofBooking(0, 0), 1);
        room.hold(0, 0);
        check.due("swapFor(0)", room.swapFor(0), 2);
        room.book(2, 0, 1, 40, 40, 1);
        check.due("swapFor(0), the other one is in use", room.swapFor(0), -1);
        room.approve(1, 0);
        check.due("swapFor(1): not its own, nor one in use", room.swapFor(1), -1);
        room.cancel(1);
        check.due("swapFor(0)", room.swapFor(0), 2);
        room.rights(0, 1, 20, 29);
        check.due("swapFor(0) without rights on the last day", room.swapFor(0), -1);
        room.rights(0, 1, 20, 30);
        check.due("swapFor(0)", room.swapFor(0), 2);
        room.version(0, 1);
        check.due("swapFor(0): fit today is enough", room.swapFor(0), 2);
        room.day();
        check.due("swapFor(0) as a new look came", room.swapFor(0), -1);
    }

    private static void swapForAnyState() {
        BrandRoom room = Desks.ready();
        room.piece(0, 1);
        room.approve(1, 0);
        room.book(0, 0, 0, 1, 1, 1);
        room.day();
        check.due("swapFor(0), running", room.swapFor(0), 1);
        room.rights(0, 15, 2, 99);
        check.due("swapFor(0), no rights on a day of it", room.swapFor(0), -1);
        room.rights(0, 15, 0, 99);
        room.day();
        check.due("swapFor(0), over", room.swapFor(0), 1);
        room.book(0, 0, 0, 9, 9, 1);
        check.due("swapFor(0), over: the same piece again is no other one", room.swapFor(0), 1);
        room.cancel(1);
        check.due("swapFor(1), cancelled", room.swapFor(1), 1);
        room.book(1, 0, 2, 20, 20, 1);
        check.due("swapFor(1), cancelled, as the other one is booked", room.swapFor(1), -1);

        BrandRoom lost = Desks.ready();
        lost.piece(0, 1);
        lost.hold(0, 0);
        lost.book(0, 0, 0, 4, 4, 1);
        lost.book(0, 0, 0, 6, 6, 1);
        lost.day();
        lost.approve(1, 0);
        check.due("state", lost.ofBooking(0, 5), 4);
        check.due("swapFor(0), lost", lost.swapFor(0), 1);
    }

    private static void offIn() {
        check.promise("26 offIn");
        BrandRoom room = Desks.ready();
        check.outOfBounds("offIn(0) without bookings", room, () -> room.offIn(0));
        room.book(0, 0, 0, 2, 6, 1);
        room.book(0, 1, 0, 99, 99, 1);
        check.outOfBounds("offIn(-1)", room, () -> room.offIn(-1));
        check.outOfBounds("offIn(2)", room, () -> room.offIn(2));
        check.due("offIn(0)", room.offIn(0), 0);
        room.rights(0, 1, 3, 5);
        check.due("offIn(0), without rights on the first and the last day", room.offIn(0), 2);
        check.due("offIn(1)", room.offIn(1), 1);
        room.version(0, 5);
        check.due("offIn(0), with another look from day 5 on", room.offIn(0), 3);
        room.hold(0, 0);
        check.due("offIn(0), held", room.offIn(0), 5);
        Desks.days(room, 2);
        check.due("offIn(0) on its first day", room.offIn(0), 5);
        room.day();
        check.due("offIn(0), today and later", room.offIn(0), 4);
        room.cancel(0);
        check.due("offIn(0), cancelled", room.offIn(0), 4);
        Desks.days(room, 3);
        check.due("offIn(0) on its last day", room.offIn(0), 1);
        room.day();
        check.due("offIn(0), gone by", room.offIn(0), 0);
        check.due("DAYS PULLED", room.ofBooking(0, 9), 2);

        BrandRoom late = new BrandRoom();
        late.asset();
        late.rights(0, 1, 0, 99);
        late.version(0, 4);
        late.piece(0, 1);
        late.book(0, 0, 0, 1, 6, 1);
        check.due("offIn(0), not laid, or not fit", late.offIn(0), 6);
    }

    private static void lostIn() {
        check.promise("27 lostIn");
        BrandRoom room = Desks.ready();
        check.illegalArgument("lostIn(0)", room, () -> room.lostIn(0));
        check.illegalArgument("lostIn(-1)", room, () -> room.lostIn(-1));
        check.illegalArgument("lostIn(31)", room, () -> room.lostIn(31));
        check.due("lostIn(1) without bookings", room.lostIn(1), 0);
        room.book(0, 0, 0, 5, 5, 1);
        room.book(0, 0, 0, 7, 7, 1);
        check.due("lostIn(30), all fit", room.lostIn(30), 0);
        room.hold(0, 0);
        check.due("lostIn(1)", room.lostIn(1), 0);
        check.due("lostIn(2): it cannot be moved", room.lostIn(2), 1);
        check.due("lostIn(9): the other was moved 3 times", room.lostIn(9), 1);
        check.due("lostIn(10)", room.lostIn(10), 2);
        check.due("lostIn(30)", room.lostIn(30), 2);
        Desks.days(room, 2);
        check.due("many(7)", room.many(7), 1);
        check.due("lostIn(30): one is lost", room.lostIn(30), 1);
        room.book(0, 0, 1, 60, 60, 1);
        check.due("lostIn(30): one is too far", room.lostIn(30), 1);
        room.cancel(1);
        check.due("lostIn(30), cancelled", room.lostIn(30), 0);
    }

    private static void lostInKnowsTheDays() {
        BrandRoom room = Desks.ready();
        room.book(0, 0, 0, 40, 98, 1);
        room.version(0, 35);
        check.due("lostIn(30)", room.lostIn(30), 0);
        Desks.days(room, 6);
        check.due("lostIn(30) with a version that comes", room.lostIn(30), 0);
        check.due("day 36 is none ahead of the deadline", room.lostIn(29), 0);
        Desks.days(room, 1);
        check.due("lostIn(30)", room.lostIn(30), 1);
        check.due("lostIn(29)", room.lostIn(29), 0);
        room.late(0, 3);
        check.due("lostIn(30), late", room.lostIn(30), 0);

        BrandRoom end = Desks.ready();
        Desks.days(end, 80);
        end.hold(0, 0);
        end.book(0, 0, 0, 99, 99, 1);
        check.due("lostIn(30) with 19 days left", end.lostIn(30), 1);
        check.due("lostIn(15)", end.lostIn(15), 0);
        check.due("lostIn(16)", end.lostIn(16), 1);
        Desks.days(end, 19);
        check.due("many(7)", end.many(7), 1);
        check.due("lostIn(30) on day 99", end.lostIn(30), 0);
        check.due("TODAY", end.many(10), 99);
    }

    private static void lostInKnowsThePlaces() {
        BrandRoom room = Desks.ready();
        room.hold(0, 0);
        room.hold(0, 1);
        room.book(0, 0, 1, 5, 5, 1);
        room.book(0, 0, 2, 7, 7, 1);
        room.book(0, 1, 1, 5, 5, 1);
        check.due("lostIn(2), each in a place of its own", room.lostIn(2), 0);
        room.book(0, 0, 1, 7, 7, 1);
        check.due("lostIn(2), one behind another", room.lostIn(2), 1);
        room.piece(0, 1);
        room.approve(1, 0);
        check.due("lostIn(2), one can be swapped", room.lostIn(2), 0);
    }

    private static void lostInChangesNothing() {
        BrandRoom room = Desks.ready();
        room.piece(0, 1);
        room.approve(1, 0);
        room.groups(0, 0, 3);
        room.book(0, 0, 0, 5, 6, 10);
        room.book(0, 1, 0, 1, 6, 10);
        room.book(0, 2, 0, 5, 6, 10);
        room.day();
        room.hold(0, 0);
        room.hold(0, 2);
        for (int days = 1; days <= 30; days++) {
            check.due("lostIn(" + days + ")", room.lostIn(days), days >= 7 ? 1 : 0);
            check.due("lostIn(" + days + ") again", room.lostIn(days), days >= 7 ? 1 : 0);
        }
        Desks.dueBooking(check, room, 0, new int[] {0, 0, 0, 5, 6, 0, 30, 30, 0, 0, 0, 0});
        Desks.dueBooking(check, room, 1, new int[] {0, 1, 0, 1, 6, 1, 114, 114, 0, 0, 1, 0});
        Desks.dueBooking(check, room, 2, new int[] {0, 2, 0, 5, 6, 0, 30, 30, 0, 0, 0, 0});
        check.due("TODAY", room.many(10), 1);
        check.due("day() then", room.day(), 2);
    }

    private static void digest() {
        check.promise("29 digest");
        BrandRoom room = new BrandRoom();
        check.due("digest() of a new one", room.digest(), -2123161896987681683L);
        room.day();
        check.due("digest() on day 1", room.digest(), -2123161896959052532L);
        room.asset();
        room.asset();
        room.version(0, 1);
        room.version(0, 1);
        room.version(1, 1);
        room.version(1, 1);
        room.version(1, 1);
        room.version(1, 9);
        room.rights(0, 15, 0, 50);
        room.rights(1, 7, 0, 20);
        room.piece(0, 1);
        room.piece(0, 3);
        room.piece(0, 1);
        room.approve(0, 0);
        room.approve(1, 1);
        room.approve(2, 1);
        room.groups(0, 0, 3);
        room.groups(0, 1, 31);
        room.book(0, 0, 0, 2, 5, 20);
        room.book(1, 1, 0, 2, 9, 20);
        room.book(1, 2, 0, 6, 7, 30);
        room.book(1, 2, 0, 9, 9, 30);
        check.due("digest()", room.digest(), digestOf(room));
        Desks.days(room, 2);
        check.due("digest() on day 3", room.digest(), digestOf(room));
        check.due("digest() again: nothing is changed", room.digest(), digestOf(room));
    }

    private static void digestLooksTwentyDaysAhead() {
        BrandRoom room = Desks.ready();
        room.hold(0, 0);
        room.book(0, 0, 0, 24, 24, 1);
        room.book(0, 0, 0, 26, 26, 1);
        check.due("lostIn(20)", room.lostIn(20), 0);
        check.due("lostIn(21)", room.lostIn(21), 1);
        check.due("digest()", room.digest(), digestOf(room));
        room.day();
        check.due("lostIn(20)", room.lostIn(20), 1);
        check.due("digest()", room.digest(), digestOf(room));
        check.due("lostIn(19)", room.lostIn(19), 0);
    }

    private static long digestOf(BrandRoom room) {
        long d = 5741;
        for (int what = 0; what <= 10; what++) {
            d = d * 31 + room.many(what);
        }
        int today = room.many(10);
        for (int asset = 0; asset < room.many(0); asset++) {
            d = d * 31 + room.versionOn(asset, today);
            d = d * 31 + room.versionOn(asset, 99);
        }
        for (int piece = 0; piece < room.many(1); piece++) {
            for (int what = 0; what <= 4; what++) {
                d = d * 31 + room.ofPiece(piece, what);
            }
            for (int land = 0; land < 4; land++) {
                d = d * 31 + room.reason(piece, land, today);
            }
        }
        for (int booking = 0; booking < room.many(2); booking++) {
            for (int what = 0; what <= 11; what++) {
                d = d * 31 + room.ofBooking(booking, what);
            }
            d = d * 31 + room.swapFor(booking);
            d = d * 31 + room.offIn(booking);
        }
        for (int land = 0; land < 4; land++) {
            d = d * 31 + room.reach(land);
        }
        return d * 31 + room.lostIn(20);
    }
}
