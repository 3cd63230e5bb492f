/** What several test files need of a desk. */
final class Desks {
    private Desks() {
    }

    /** Piece 0 of format 0 has asset 0 alone, which came, has all rights; it is approved in all lands. */
    static BrandRoom ready() {
        BrandRoom room = new BrandRoom();
        room.asset();
        room.version(0, 0);
        room.rights(0, 15, 0, 99);
        room.piece(0, 1);
        for (int land = 0; land < 4; land++) {
            room.approve(0, land);
        }
        return room;
    }

    /** So many assets, without anything. */
    static BrandRoom withAssets(int count) {
        BrandRoom room = new BrandRoom();
        for (int k = 0; k < count; k++) {
            room.asset();
        }
        return room;
    }

    /**
     * As much as there may be: 16 assets of 5 versions, 12 pieces (number p of format p % 3, with asset p alone), and
     * 16 bookings (number b of piece b % 12, in land b / 4 and medium b % 4), on days 10 to 12 each.
     */
    static BrandRoom full() {
        BrandRoom room = withAssets(16);
        for (int asset = 0; asset < 16; asset++) {
            for (int v = 0; v < 5; v++) {
                room.version(asset, v);
            }
            room.rights(asset, 15, 0, 80 + asset);
        }
        for (int piece = 0; piece < 12; piece++) {
            room.piece(piece % 3, 1 << piece);
            room.approve(piece, piece % 4);
        }
        for (int place = 0; place < 16; place++) {
            room.book(place % 12, place / 4, place % 4, 10, 12, 100 + place);
            room.groups(place % 4, place / 4, 1 << place % 10);
        }
        return room;
    }

    /**
     * Day 2, with bookings of piece 0 in each state: 0 BOOKED (land 0, medium 0, days 50 to 52), 1 RUNNING (land 1,
     * medium 0, days 1 to 9), 2 OVER (land 2, medium 0, day 1), 3 CANCELLED as it was BOOKED (land 3, medium 0, days 50
     * to 52), 4 LOST (land 3, medium 1, day 4), 5 CANCELLED (land 3, medium 1, day 6), 6 CANCELLED as it was RUNNING
     * (land 0, medium 1, days 1 to 9). Piece 1 can be swapped for that of each.
     */
    static BrandRoom states() {
        BrandRoom room = ready();
        room.piece(0, 1);
        room.hold(0, 3);
        room.book(0, 0, 0, 50, 52, 10);
        room.book(0, 1, 0, 1, 9, 10);
        room.book(0, 2, 0, 1, 1, 10);
        room.book(0, 3, 0, 50, 52, 10);
        room.book(0, 3, 1, 4, 4, 10);
        room.book(0, 3, 1, 6, 6, 10);
        room.book(0, 0, 1, 1, 9, 10);
        room.cancel(3);
        days(room, 2);
        room.cancel(5);
        room.cancel(6);
        for (int land = 0; land < 4; land++) {
            room.approve(0, land);
            room.approve(1, land);
        }
        return room;
    }

    /** It takes the desk as far as so many days. */
    static BrandRoom onDay(BrandRoom room, int day) {
        days(room, day - room.many(10));
        return room;
    }

    static void days(BrandRoom room, int count) {
        for (int d = 0; d < count; d++) {
            room.day();
        }
    }

    static void dueBooking(Check check, BrandRoom room, int booking, int[] want) {
        for (int what = 0; what < want.length; what++) {
            check.due("ofBooking(" + booking + ", " + what + ") on day " + room.many(10),
                    room.ofBooking(booking, what), want[what]);
        }
    }

    static void dueMany(Check check, BrandRoom room, int[] want) {
        for (int what = 0; what < want.length; what++) {
            check.due("many(" + what + ") on day " + room.many(10), room.many(what), want[what]);
        }
    }
}
