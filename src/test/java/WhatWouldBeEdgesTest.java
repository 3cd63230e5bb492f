import java.math.BigInteger;
import java.util.ArrayList;
import java.util.List;
import java.util.function.Supplier;

/** Promises 22 to 29: each sentence that names an edge has a test of its own, which bears its words. */
public final class WhatWouldBeEdgesTest {
    private static final int MIN = Integer.MIN_VALUE;
    private static final int MAX = Integer.MAX_VALUE;

    private static final Check check = new Check("WhatWouldBeEdgesTest");
    private static final Twins ready = new Twins(check, () -> Desks.ready());
    private static final Twins full = new Twins(check, () -> Desks.full());
    private static final Twins states = new Twins(check, () -> Desks.states());

    private static final List<Supplier<BrandRoom>> DESKS = List.of(
            () -> new BrandRoom(),
            () -> Desks.withAssets(16),
            () -> Desks.ready(),
            () -> Desks.states(),
            () -> Desks.full(),
            () -> Desks.onDay(Desks.full(), 12),
            () -> Desks.onDay(Desks.states(), 99),
            () -> onInEachLand());

    public static void main(String[] args) {
        groupsNoSuchMedium();
        groupsNoSuchLand();
        groupsSet();
        groupsBefore();
        groupsExceptionNamedFirst();
        reachNoSuchLand();
        priceFrom();
        priceTo();
        priceBase();
        priceIsWhatItIsBookedAt();
        swapForNoSuchBooking();
        swapForWithoutOne();
        swapForAnyState();
        offInNoSuchBooking();
        offInTodayAndLater();
        offInOfItsLand();
        offInAnyState();
        lostInDays();
        lostInNoMoreThanThereAre();
        lostInThoseThatAreNotLost();
        lostInNothingElseWasTold();
        lostInTellsThePlacesApart();
        lostInCountsWhatWasMovedBefore();
        reachWithNoSuchBooking();
        reachWithNoneThatIs();
        reachWithOneThatIsOn();
        digestWrapsAround();
        digestOrder();
        digestLooksTwentyDaysAhead();
        nothingIsChanged();
        check.end();
    }

    private static void groupsNoSuchMedium() {
        check.promise("22: throws IndexOutOfBoundsException if there is no such MEDIUM");
        ready.taken("groups(#, 0, 1)", 0, (room, n) -> room.groups(n, 0, 1), 0, 1, 2, 3);
        full.outOfBounds("groups(#, 0, 1)", (room, n) -> room.groups(n, 0, 1), MIN, -1, 4, MAX);
    }

    private static void groupsNoSuchLand() {
        check.promise("22: throws IndexOutOfBoundsException if there is no such LAND");
        ready.taken("groups(0, #, 1)", 0, (room, n) -> room.groups(0, n, 1), 0, 1, 2, 3);
        full.outOfBounds("groups(0, #, 1)", (room, n) -> room.groups(0, n, 1), MIN, -1, 4, MAX);
        full.outOfBounds("groups(3, #, 1)", (room, n) -> room.groups(3, n, 1), -1, 4);
    }

    private static void groupsSet() {
        check.promise("22: throws IllegalArgumentException if groups is not 0 to 1023");
        full.taken("groups(0, 0, #)", 1, (room, n) -> room.groups(0, 0, n), 0, 1, 1022, 1023);
        full.illegalArgument("groups(0, 0, #)", (room, n) -> room.groups(0, 0, n), MIN, -1, 1024, 1025, MAX);
    }

    private static void groupsBefore() {
        check.promise("22: returns that before");
        BrandRoom room = Desks.full();
        for (int place = 0; place < 16; place++) {
            check.due("groups", room.groups(place % 4, place / 4, 1023), 1 << place % 10);
            check.due("groups again", room.groups(place % 4, place / 4, 0), 1023);
            check.due("groups again", room.groups(place % 4, place / 4, 3), 0);
        }
    }

    private static void groupsExceptionNamedFirst() {
        check.promise("22: the exception that is named first is thrown");
        full.outOfBounds("groups(4, 0, #)", (room, n) -> room.groups(4, 0, n), -1, 1024);
        full.outOfBounds("groups(-1, 0, #)", (room, n) -> room.groups(-1, 0, n), -1, 1024);
        full.outOfBounds("groups(0, 4, #)", (room, n) -> room.groups(0, 4, n), -1, 1024);
        full.outOfBounds("groups(0, -1, #)", (room, n) -> room.groups(0, -1, n), -1, 1024);
    }

    private static void reachNoSuchLand() {
        check.promise("23: throws IndexOutOfBoundsException if there is no such LAND");
        full.taken("reach(#), nothing is on", 0, (room, n) -> room.reach(n), 0, 1, 2, 3);
        full.outOfBounds("reach(#)", (room, n) -> room.reach(n), MIN, -1, 4, MAX);
    }

    private static void priceFrom() {
        check.promise("24: throws IllegalArgumentException if from is not above TODAY");
        ready.taken("price(#, #, 1) on day 0", 1, (room, n) -> room.price(n, n, 1), 1, 2, 99);
        ready.illegalArgument("price(#, 99, 1) on day 0", (room, n) -> room.price(n, 99, 1), MIN, -1, 0);
        Twins day98 = new Twins(check, () -> Desks.onDay(Desks.states(), 98));
        day98.taken("price(99, 99, 1) on day 98", 1, (room, n) -> room.price(99, 99, 1), 0);
        day98.illegalArgument("price(#, 99, 1) on day 98", (room, n) -> room.price(n, 99, 1), 0, 97, 98);
        Twins day99 = new Twins(check, () -> Desks.onDay(Desks.states(), 99));
        day99.illegalArgument("price(#, 99, 1) on day 99", (room, n) -> room.price(n, 99, 1), 0, 98, 99, 100);
    }

    private static void priceTo() {
        check.promise("24: throws IllegalArgumentException if to is not from to 99");
        ready.taken("price(50, 50, 2)", 2, (room, n) -> room.price(50, 50, 2), 0);
        ready.taken("price(50, 99, 2)", 100, (room, n) -> room.price(50, 99, 2), 0);
        ready.illegalArgument("price(50, #, 2)", (room, n) -> room.price(50, n, 2), MIN, 0, 49, 100, MAX);
        ready.illegalArgument("price(99, #, 2)", (room, n) -> room.price(99, n, 2), 98, 100);
        ready.illegalArgument("price(100, #, 2)", (room, n) -> room.price(100, n, 2), 99, 100, MAX);
        ready.illegalArgument("price(MAX, #, 2)", (room, n) -> room.price(MAX, n, 2), MIN, 99, MAX);
    }

    private static void priceBase() {
        check.promise("24: throws IllegalArgumentException if base is not 1 to 999");
        ready.taken("price(50, 50, 1)", 1, (room, n) -> room.price(50, 50, 1), 0);
        ready.taken("price(50, 50, 999)", 999, (room, n) -> room.price(50, 50, 999), 0);
        ready.illegalArgument("price(50, 50, #)", (room, n) -> room.price(50, 50, n), MIN, -1, 0, 1000, MAX);
    }

    private static void priceIsWhatItIsBookedAt() {
        check.promise("24: returns the PRICE of such a BOOKING, booked TODAY");
        BrandRoom room = Desks.onDay(Desks.ready(), 7);
        for (int k = 0; k < 16; k++) {
            int price = room.price(8 + k, 8 + 2 * k, 37 + k);
            check.due("price of one that is not booked: BOOKINGS ever", room.many(2), k);
            room.book(0, k % 4, k / 4, 8 + k, 8 + 2 * k, 37 + k);
            check.due("PRICE", room.ofBooking(k, 6), price);
        }
        check.due("price, though 16 were booked, and the days are taken", room.price(8, 8, 1), 1);
    }

    private static void swapForNoSuchBooking() {
        check.promise("25: throws IndexOutOfBoundsException if there is no such BOOKING");
        ready.outOfBounds("swapFor(#) of none", (room, n) -> room.swapFor(n), MIN, -1, 0, 1, MAX);
        states.taken("swapFor(#) of 7", 1, (room, n) -> room.swapFor(n), 0, 6);
        states.outOfBounds("swapFor(#) of 7", (room, n) -> room.swapFor(n), MIN, -1, 7, 15, MAX);
        full.outOfBounds("swapFor(#) of 16", (room, n) -> room.swapFor(n), -1, 16);
    }

    private static void swapForWithoutOne() {
        check.promise("25: NONE without one");
        full.taken("swapFor(#)", -1, (room, n) -> room.swapFor(n), 0, 15);
        BrandRoom room = Desks.ready();
        room.book(0, 0, 0, 9, 9, 1);
        check.due("swapFor(0), no other piece", room.swapFor(0), -1);
        room.piece(0, 1);
        check.due("swapFor(0), another one that is not fit", room.swapFor(0), -1);
        room.approve(1, 0);
        check.due("swapFor(0), another one that is fit", room.swapFor(0), 1);
    }

    private static void swapForAnyState() {
        check.promise("25: (whatever its state is)");
        String[] names = {"BOOKED", "RUNNING", "OVER", "CANCELLED", "LOST"};
        for (int booking = 0; booking < names.length; booking++) {
            BrandRoom room = Desks.states();
            check.due("state", room.ofBooking(booking, 5), booking);
            check.due("swapFor of one that is " + names[booking], room.swapFor(booking), 1);
            check.due("its PIECE stays", room.ofBooking(booking, 0), 0);
        }
    }

    private static void offInNoSuchBooking() {
        check.promise("26: throws IndexOutOfBoundsException if there is no such BOOKING");
        ready.outOfBounds("offIn(#) of none", (room, n) -> room.offIn(n), MIN, -1, 0, 1, MAX);
        full.taken("offIn(#) of 16, another look on all its days", 3, (room, n) -> room.offIn(n), 0, 15);
        full.outOfBounds("offIn(#) of 16", (room, n) -> room.offIn(n), -1, 16);
        states.outOfBounds("offIn(#) of 7", (room, n) -> room.offIn(n), MIN, -1, 7, 15, MAX);
    }

    private static void offInTodayAndLater() {
        check.promise("26: on how many of its DAYS, TODAY and later, the REASON of its PIECE there is not 0");
        BrandRoom room = Desks.ready();
        room.book(0, 0, 0, 4, 6, 1);
        room.book(0, 1, 0, 1, 99, 1);
        check.due("offIn(0), the REASON is 0 on all", room.offIn(0), 0);
        room.rights(0, 0, 0, 0);
        int[] off = {3, 3, 3, 3, 3, 2, 1, 0, 0};
        for (int day = 0; day < off.length; day++) {
            check.due("offIn(0) on day " + day, room.offIn(0), off[day]);
            check.due("offIn(1) on day " + day, room.offIn(1), day == 0 ? 99 : 100 - day);
            room.day();
        }
        Desks.onDay(room, 99);
        check.due("offIn(1) on day 99", room.offIn(1), 1);
        room.rights(0, 15, 99, 99);
        check.due("offIn(1) with rights again", room.offIn(1), 0);
    }

    /** Its land is 2, its medium 1: what is told of land 1 does not count. */
    private static void offInOfItsLand() {
        check.promise("26: the REASON of its PIECE there");
        BrandRoom room = Desks.ready();
        room.book(0, 2, 1, 5, 8, 1);
        room.rights(0, 4, 0, 99);
        check.due("offIn(0), rights in its land alone", room.offIn(0), 0);
        room.rights(0, 11, 0, 99);
        check.due("offIn(0), rights in all other lands", room.offIn(0), 4);
        room.rights(0, 15, 0, 99);
        room.hold(0, 1);
        check.due("offIn(0), held in another land", room.offIn(0), 0);
        room.hold(0, 2);
        room.approve(0, 1);
        check.due("offIn(0), held in its land alone", room.offIn(0), 4);
    }

    private static void offInAnyState() {
        check.promise("26: (whatever its state is)");
        BrandRoom room = Desks.states();
        room.rights(0, 0, 0, 0);
        int[] off = {3, 8, 0, 3, 1, 1, 8};
        for (int booking = 0; booking < off.length; booking++) {
            check.due("offIn(" + booking + ")", room.offIn(booking), off[booking]);
        }
    }

    private static void lostInDays() {
        check.promise("27: throws IllegalArgumentException if days is not 1 to 30");
        Twins held = new Twins(check, () -> lostOnDay(1, 30));
        held.taken("lostIn(1)", 1, (room, n) -> room.lostIn(1), 0);
        held.taken("lostIn(29)", 1, (room, n) -> room.lostIn(29), 0);
        held.taken("lostIn(30)", 2, (room, n) -> room.lostIn(30), 0);
        held.illegalArgument("lostIn(#)", (room, n) -> room.lostIn(n), MIN, -1, 0, 31, 32, MAX);
        Twins day99 = new Twins(check, () -> Desks.onDay(Desks.states(), 99));
        day99.taken("lostIn(#) on day 99", 0, (room, n) -> room.lostIn(n), 1, 30);
        day99.illegalArgument("lostIn(#) on day 99", (room, n) -> room.lostIn(n), 0, 31);
    }

    /** As nothing is told, one booking is LOST on the one day, one on the other: up to day 99, they cannot be moved. */
    private static BrandRoom lostOnDay(int one, int other) {
        BrandRoom room = Desks.ready();
        room.hold(0, 0);
        room.book(0, 0, 0, one + 3, 99, 1);
        room.book(0, 0, 1, other + 3, 99, 1);
        return room;
    }

    private static void lostInNoMoreThanThereAre() {
        check.promise("27: if so many DAYS began (no more than there are)");
        BrandRoom room = lostOnDay(95, 96);
        Desks.onDay(room, 69);
        check.due("lostIn(30) on day 69", room.lostIn(30), 2);
        check.due("lostIn(26)", room.lostIn(26), 1);
        check.due("lostIn(25)", room.lostIn(25), 0);
        Desks.onDay(room, 70);
        check.due("lostIn(30) on day 70: there are 29", room.lostIn(30), 2);
        Desks.onDay(room, 95);
        check.due("lostIn(1) on day 95", room.lostIn(1), 1);
        check.due("lostIn(30)", room.lostIn(30), 1);
        Desks.onDay(room, 98);
        check.due("lostIn(1) on day 98: there is one", room.lostIn(1), 0);
        check.due("lostIn(2)", room.lostIn(2), 0);
        room.day();
        check.due("lostIn(1) on day 99: there is none", room.lostIn(1), 0);
        check.due("lostIn(30)", room.lostIn(30), 0);
        check.due("TODAY stays", room.many(10), 99);
        check.due("many(7)", room.many(7), 2);
    }

    private static void lostInThoseThatAreNotLost() {
        check.promise("27: how many BOOKINGS that are not LOST would be");
        BrandRoom room = lostOnDay(2, 4);
        check.due("lostIn(1)", room.lostIn(1), 0);
        check.due("lostIn(2)", room.lostIn(2), 1);
        check.due("lostIn(30)", room.lostIn(30), 2);
        Desks.onDay(room, 2);
        check.due("many(7)", room.many(7), 1);
        check.due("lostIn(30), one is LOST", room.lostIn(30), 1);
        Desks.onDay(room, 4);
        check.due("lostIn(30), both are LOST", room.lostIn(30), 0);

        BrandRoom moved = Desks.ready();
        moved.hold(0, 0);
        moved.book(0, 0, 0, 4, 4, 1);
        check.due("lostIn(6), moved 3 times", moved.lostIn(6), 0);
        check.due("lostIn(7)", moved.lostIn(7), 1);
        for (int k = 1; k < 16; k++) {
            moved.book(0, 0, k % 4, 4 + k / 4 * 20, 4 + k / 4 * 20, 1);
        }
        check.due("lostIn(7) of 16", moved.lostIn(7), 4);
        check.due("lostIn(30) of 16", moved.lostIn(30), 8);
    }

    private static void lostInNothingElseWasTold() {
        check.promise("27: and nothing else was told");
        BrandRoom room = lostOnDay(5, 5);
        room.piece(0, 1);
        room.approve(1, 0);
        check.due("lostIn(30): one is swapped, the other has none left", room.lostIn(30), 1);
        room.version(0, 5);
        check.due("lostIn(30): the piece is not fit then", room.lostIn(30), 2);
        room.late(0, 1);
        check.due("lostIn(30): the version is late", room.lostIn(30), 1);
        room.approve(0, 0);
        check.due("lostIn(30): both are fit", room.lostIn(30), 0);
    }

    private static void lostInTellsThePlacesApart() {
        check.promise("27: LOST as day() has it: another one of the same LAND and MEDIUM");
        BrandRoom room = Desks.ready();
        for (int land = 0; land < 4; land++) {
            room.hold(0, land);
        }
        room.book(0, 1, 2, 4, 5, 1);
        room.book(0, 2, 2, 6, 7, 1);
        room.book(0, 1, 3, 6, 7, 1);
        check.due("lostIn(1), others in another land, another medium", room.lostIn(1), 0);
        room.book(0, 1, 2, 7, 7, 1);
        check.due("lostIn(1), another one there", room.lostIn(1), 1);
        room.piece(0, 1);
        room.approve(1, 0);
        check.due("lostIn(1), a piece that is fit in another land", room.lostIn(1), 1);
        room.approve(1, 1);
        check.due("lostIn(1), a piece that is fit there", room.lostIn(1), 0);
    }

    /** Its deadlines are days 1, 3, 5 and 7: at the fourth one it was moved 3 times already. */
    private static void lostInCountsWhatWasMovedBefore() {
        check.promise("27: LOST as day() has it: or was MOVED 3 times already");
        BrandRoom room = Desks.ready();
        room.piece(0, 1);
        room.approve(1, 0);
        room.book(0, 0, 0, 4, 4, 1);
        room.swap(0, 1);
        room.hold(0, 0);
        room.hold(1, 0);
        for (int day = 0; day <= 6; day++) {
            Desks.onDay(room, day);
            check.due("MOVED on day " + day, room.ofBooking(0, 8), (day + 1) / 2);
            check.due("lostIn(" + (7 - day) + ") on day " + day, room.lostIn(7 - day), 1);
            check.due("lostIn(30)", room.lostIn(30), 1);
            if (day < 6) {
                check.due("lostIn(" + (6 - day) + ") on day " + day, room.lostIn(6 - day), 0);
            }
        }
        room.approve(1, 0);
        check.due("lostIn(30) on day 6, its piece is fit", room.lostIn(30), 0);
    }

    private static void reachWithNoSuchBooking() {
        check.promise("28: throws IndexOutOfBoundsException if there is no such one");
        ready.outOfBounds("reachWith(#) of none", (room, n) -> room.reachWith(n), MIN, -1, 0, 1, MAX);
        full.taken("reachWith(#) of 16", 1, (room, n) -> room.reachWith(n), 0, 15);
        full.outOfBounds("reachWith(#) of 16", (room, n) -> room.reachWith(n), MIN, -1, 16, MAX);
    }

    private static void reachWithNoneThatIs() {
        check.promise("28: throws IndexOutOfBoundsException if there is no such one that is BOOKED or RUNNING");
        states.taken("reachWith(#), BOOKED, RUNNING", 0, (room, n) -> room.reachWith(n), 0, 1);
        states.outOfBounds("reachWith(#), OVER, CANCELLED, LOST", (room, n) -> room.reachWith(n), 2, 3, 4, 5, 6);
        states.outOfBounds("reachWith(#)", (room, n) -> room.reachWith(n), -1, 7);
    }

    private static void reachWithOneThatIsOn() {
        check.promise("28: what the REACH of its LAND would be, if it was ON, too");
        BrandRoom room = Desks.states();
        room.book(0, 1, 1, 50, 50, 1);
        room.groups(0, 0, 7);
        room.groups(1, 0, 1023);
        room.groups(0, 1, 28);
        room.groups(1, 1, 48);
        check.due("reachWith(0), nothing is on there", room.reachWith(0), 3);
        check.due("reachWith(1), it is on", room.reachWith(1), 3);
        check.due("reachWith(7), BOOKED beside one that is on", room.reachWith(7), 4);
        room.hold(0, 1);
        room.day();
        check.due("reach(1), PULLED", room.reach(1), 0);
        check.due("reachWith(1), PULLED", room.reachWith(1), 3);
        check.due("reachWith(7)", room.reachWith(7), 2);
    }

    private static void digestWrapsAround() {
        check.promise("29: d becomes d * 31 + v, which wraps around as a 64-bit integer");
        boolean negative = false;
        boolean positive = false;
        for (Supplier<BrandRoom> desks : DESKS) {
            BigInteger exact = BigInteger.valueOf(5741);
            for (long v : valuesOf(desks)) {
                exact = exact.multiply(BigInteger.valueOf(31)).add(BigInteger.valueOf(v));
            }
            long digest = desks.get().digest();
            check.due("it does not fit into 64 bits", exact.bitLength() > 64, true);
            check.due("digest()", digest, exact.longValue());
            negative = negative || digest < 0;
            positive = positive || digest > 0;
        }
        check.due("both signs were seen", negative && positive, true);
        check.due("digest() of a new desk", new BrandRoom().digest(), -2123161896987681683L);
    }

    /** What goes into the checksum, in its order; as it may take more than 512 calls, two desks are asked. */
    private static List<Long> valuesOf(Supplier<BrandRoom> desks) {
        List<Long> values = new ArrayList<>();
        addAssetsAndPieces(values, desks.get());
        addBookingsAndLands(values, desks.get());
        return values;
    }

    private static void addAssetsAndPieces(List<Long> values, BrandRoom room) {
        for (int what = 0; what <= 10; what++) {
            values.add((long) room.many(what));
        }
        int today = room.many(10);
        for (int asset = 0; asset < room.many(0); asset++) {
            values.add((long) room.versionOn(asset, today));
            values.add((long) room.versionOn(asset, 99));
        }
        for (int piece = 0; piece < room.many(1); piece++) {
            for (int what = 0; what <= 4; what++) {
                values.add((long) room.ofPiece(piece, what));
            }
            for (int land = 0; land < 4; land++) {
                values.add((long) room.reason(piece, land, today));
            }
        }
    }

    private static void addBookingsAndLands(List<Long> values, BrandRoom room) {
        for (int booking = 0; booking < room.many(2); booking++) {
            for (int what = 0; what <= 11; what++) {
                values.add((long) room.ofBooking(booking, what));
            }
            values.add((long) room.swapFor(booking));
            values.add((long) room.offIn(booking));
        }
        for (int land = 0; land < 4; land++) {
            values.add((long) room.reach(land));
        }
        values.add((long) room.lostIn(20));
    }

    /** In land k, k + 1 groups are reached; another booking there will be lost. */
    private static BrandRoom onInEachLand() {
        BrandRoom room = Desks.ready();
        room.piece(1, 1);
        for (int land = 0; land < 4; land++) {
            room.groups(0, land, (2 << land) - 1);
            room.book(0, land, 0, 1, 9, 1);
            room.book(1, land, 1, 23 + land, 99, 1);
        }
        room.day();
        return room;
    }

    private static void digestLooksTwentyDaysAhead() {
        check.promise("29: lostIn() of 20");
        BrandRoom room = lostOnDay(20, 21);
        check.due("lostIn(19)", room.lostIn(19), 0);
        check.due("lostIn(20)", room.lostIn(20), 1);
        check.due("lostIn(21)", room.lostIn(21), 2);
        List<Long> values = valuesOf(() -> lostOnDay(20, 21));
        long d = 5741;
        for (long v : values) {
            d = d * 31 + v;
        }
        check.due("the last v", values.get(values.size() - 1), 1);
        check.due("digest()", room.digest(), d);
    }

    private static void digestOrder() {
        check.promise("29: for each v in this order");
        BrandRoom room = new BrandRoom();
        long bare = 5741;
        for (int k = 0; k < 16; k++) {
            bare = bare * 31;
        }
        check.due("digest() of a new desk: 16 zeros", room.digest(), bare);
        room.day();
        check.due("digest() on day 1: many(10) has 5 behind it", room.digest(), bare + 31L * 31 * 31 * 31 * 31);
        BrandRoom one = Desks.withAssets(1);
        one.version(0, 99);
        long d = 5741 * 31 + 1;
        for (int k = 0; k < 10; k++) {
            d = d * 31;
        }
        d = (d * 31 - 1) * 31;
        for (int k = 0; k < 5; k++) {
            d = d * 31;
        }
        check.due("digest() of one asset: -1 today, 0 on day 99", one.digest(), d);
    }

    private static void nothingIsChanged() {
        check.promise("24 to 29: what would be (nothing is changed)");
        for (int batch = 0; batch < Looks.BATCHES; batch++) {
            BrandRoom asked = askedAll(Desks.onDay(Desks.full(), 6));
            BrandRoom spared = Desks.onDay(Desks.full(), 6);
            check.due("same answers as of one that was not asked",
                    Looks.of(asked, batch).equals(Looks.of(spared, batch)), true);
        }
    }

    private static BrandRoom askedAll(BrandRoom room) {
        room.price(7, 99, 999);
        for (int booking = 0; booking < 16; booking += 5) {
            room.swapFor(booking);
            room.offIn(booking);
            room.reachWith(booking);
        }
        room.lostIn(1);
        room.lostIn(30);
        room.digest();
        return room;
    }
}
