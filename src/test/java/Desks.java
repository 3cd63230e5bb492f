/** What several test files need of a desk. */
final class Desks {
    private Desks() {
    }

    /** Piece 0 of format 0 has asset 0 alone, which came, has all rights; it is approved in all lands. */
    static BrandRoom ready() {
        BrandRoom room = new BrandRoom();
        room.asset();
        room.version(0, 0);
        room.rights(0, 15, 0, 99);
        room.piece(0, 1);
        for (int land = 0; land < 4; land++) {
            room.approve(0, land);
        }
        return room;
    }

    static void days(BrandRoom room, int count) {
        for (int d = 0; d < count; d++) {
            room.day();
        }
    }

    static void dueBooking(Check check, BrandRoom room, int booking, int[] want) {
        for (int what = 0; what < want.length; what++) {
            check.due("ofBooking(" + booking + ", " + what + ") on day " + room.many(10),
                    room.ofBooking(booking, what), want[what]);
        }
    }

    static void dueMany(Check check, BrandRoom room, int[] want) {
        for (int what = 0; what < want.length; what++) {
            check.due("many(" + what + ") on day " + room.many(10), room.many(what), want[what]);
        }
    }
}
