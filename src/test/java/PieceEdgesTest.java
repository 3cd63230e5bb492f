/** Promises 8 to 13: each sentence that names an edge has a test of its own, which bears its words. */
public final class PieceEdgesTest {
    private static final int MIN = Integer.MIN_VALUE;
    private static final int MAX = Integer.MAX_VALUE;

    private static final Check check = new Check("PieceEdgesTest");
    private static final Twins none = new Twins(check, () -> Desks.withAssets(1));
    private static final Twins ready = new Twins(check, () -> Desks.ready());
    private static final Twins full = new Twins(check, () -> Desks.full());
    private static final Twins halfLaid = new Twins(check, () -> halfLaid());

    public static void main(String[] args) {
        piecesAreNumberedFromZero();
        pieceFormat();
        pieceAssetsLessThanOne();
        pieceAssetThatThereIsNot();
        twelvePieces();
        pieceExceptionNamedFirst();
        approveNoSuchPiece();
        approveNoSuchLand();
        approveNotLaid();
        approveReturns();
        approveExceptionNamedFirst();
        holdNoSuchPiece();
        holdNoSuchLand();
        holdReturns();
        reasonNoSuchPiece();
        reasonNoSuchLand();
        reasonDay();
        reasonExceptionNamedFirst();
        reasonIsZeroIfItMay();
        isFitNoSuchPiece();
        isFitNoSuchLand();
        isFitDay();
        isFitExceptionNamedFirst();
        ofPieceNoSuchPiece();
        ofPieceWhat();
        ofPieceExceptionNamedFirst();
        ofPieceFirstDayLaid();
        ofPieceCounts();
        check.end();
    }

    /** Piece 0 wants assets 0 and 1, both with rights; asset 0 is there, asset 1 comes on day 1. */
    private static BrandRoom halfLaid() {
        BrandRoom room = Desks.withAssets(2);
        room.version(0, 0);
        room.version(1, 1);
        room.rights(0, 15, 0, 99);
        room.rights(1, 15, 0, 99);
        room.piece(0, 3);
        return room;
    }

    private static void piecesAreNumberedFromZero() {
        check.promise("8: returns its number; PIECES are numbered from 0");
        BrandRoom room = Desks.withAssets(1);
        for (int k = 0; k < 12; k++) {
            check.due("piece(0, 1)", room.piece(0, 1), k);
            check.due("many(1)", room.many(1), k + 1);
        }
    }

    private static void pieceFormat() {
        check.promise("8: throws IllegalArgumentException if format is not 0 to 2");
        ready.taken("piece(#, 1)", 1, (room, n) -> room.piece(n, 1), 0, 1, 2);
        ready.illegalArgument("piece(#, 1)", (room, n) -> room.piece(n, 1), MIN, -1, 3, 4, MAX);
    }

    private static void pieceAssetsLessThanOne() {
        check.promise("8: throws IllegalArgumentException if assets is less than 1");
        ready.taken("piece(0, 1)", 1, (room, n) -> room.piece(0, 1), 0);
        ready.illegalArgument("piece(0, #)", (room, n) -> room.piece(0, n), 0, -1, -2, MIN, MIN + 1);
        Twins sixteen = new Twins(check, () -> Desks.withAssets(16));
        sixteen.illegalArgument("piece(0, #) of 16 assets", (room, n) -> room.piece(0, n), 0, -1, -65536, MIN);
    }

    private static void pieceAssetThatThereIsNot() {
        check.promise("8: throws IllegalArgumentException if assets has an ASSET that there is not");
        Twins bare = new Twins(check, () -> new BrandRoom());
        bare.illegalArgument("piece(0, #) without assets", (room, n) -> room.piece(0, n), 1, 2, MAX);
        none.taken("piece(0, 1) of one asset", 0, (room, n) -> room.piece(0, 1), 0);
        none.illegalArgument("piece(0, #) of one asset", (room, n) -> room.piece(0, n), 2, 3, 32768, 1 << 30, MAX);
        Twins fifteen = new Twins(check, () -> Desks.withAssets(15));
        fifteen.taken("piece(0, #) of 15 assets", 0, (room, n) -> room.piece(0, n), 1, 16384, 32767);
        fifteen.illegalArgument("piece(0, #) of 15 assets", (room, n) -> room.piece(0, n), 32768, 65535);
        Twins sixteen = new Twins(check, () -> Desks.withAssets(16));
        sixteen.taken("piece(0, #) of 16 assets", 0, (room, n) -> room.piece(0, n), 1, 32768, 65535);
        sixteen.illegalArgument("piece(0, #) of 16 assets", (room, n) -> room.piece(0, n), 65536, 65537, 1 << 30, MAX);
    }

    private static BrandRoom pieces(int count) {
        BrandRoom room = Desks.ready();
        for (int k = 1; k < count; k++) {
            room.piece(k % 3, 1);
        }
        return room;
    }

    private static void twelvePieces() {
        check.promise("8: throws IllegalStateException if there are 12");
        Twins eleven = new Twins(check, () -> pieces(11));
        eleven.taken("piece(#, 1) of 11", 11, (room, n) -> room.piece(n, 1), 0, 2);
        Twins twelve = new Twins(check, () -> pieces(12));
        twelve.illegalState("piece(#, 1) of 12", (room, n) -> room.piece(n, 1), 0, 2);
        full.illegalState("piece(0, #) of 12, all else full", (room, n) -> room.piece(0, n), 1, 32768, 65535);
    }

    private static void pieceExceptionNamedFirst() {
        check.promise("8: the exception that is named first is thrown");
        full.illegalArgument("piece(#, 1) of 12", (room, n) -> room.piece(n, 1), -1, 3);
        full.illegalArgument("piece(0, #) of 12", (room, n) -> room.piece(0, n), -1, 0, 65536);
    }

    private static void approveNoSuchPiece() {
        check.promise("9: throws IndexOutOfBoundsException if there is no such PIECE");
        none.outOfBounds("approve(#, 0) of none", (room, n) -> bit(room.approve(n, 0)), MIN, -1, 0, 1, MAX);
        ready.taken("approve(0, 0) of one", 1, (room, n) -> bit(room.approve(0, 0)), 0);
        ready.outOfBounds("approve(#, 0) of one", (room, n) -> bit(room.approve(n, 0)), MIN, -1, 1, 11, MAX);
        full.taken("approve(#, 3) of 12", 1, (room, n) -> bit(room.approve(n, 3)), 3, 7, 11);
        full.outOfBounds("approve(#, 3) of 12", (room, n) -> bit(room.approve(n, 3)), -1, 12);
    }

    private static void approveNoSuchLand() {
        check.promise("9: throws IndexOutOfBoundsException if there is no such LAND");
        ready.taken("approve(0, #)", 1, (room, n) -> bit(room.approve(0, n)), 0, 1, 2, 3);
        ready.outOfBounds("approve(0, #)", (room, n) -> bit(room.approve(0, n)), MIN, -1, 4, MAX);
    }

    private static void approveNotLaid() {
        check.promise("9: throws IllegalStateException if it is not LAID");
        halfLaid.illegalState("approve(0, #), one asset comes tomorrow", (room, n) -> bit(room.approve(0, n)), 0, 3);
        Twins bare = new Twins(check, () -> onePieceOfTwoAssets());
        bare.illegalState("approve(0, #), no asset has a version", (room, n) -> bit(room.approve(0, n)), 0, 3);
        Twins nextDay = new Twins(check, () -> Desks.onDay(halfLaid(), 1));
        nextDay.taken("approve(0, #), it came today", 0, (room, n) -> bit(room.approve(0, n)), 0, 1, 2, 3);
    }

    private static BrandRoom onePieceOfTwoAssets() {
        BrandRoom room = Desks.withAssets(2);
        room.piece(0, 3);
        return room;
    }

    private static void approveReturns() {
        check.promise("9: returns whether it was FIT there ahead of that");
        BrandRoom room = Desks.onDay(halfLaid(), 1);
        check.due("approve(0, 0), never approved", room.approve(0, 0), false);
        check.due("approve(0, 1), approved in another land", room.approve(0, 1), false);
        check.due("approve(0, 0), approved", room.approve(0, 0), true);
        room.hold(0, 0);
        check.due("approve(0, 0), held", room.approve(0, 0), false);
        room.version(1, 1);
        check.due("approve(0, 0), approved for another look", room.approve(0, 0), false);
        check.due("approve(0, 0), approved", room.approve(0, 0), true);
    }

    private static void approveExceptionNamedFirst() {
        check.promise("9: the exception that is named first is thrown");
        halfLaid.outOfBounds("approve(0, #), not laid", (room, n) -> bit(room.approve(0, n)), -1, 4);
    }

    private static void holdNoSuchPiece() {
        check.promise("10: throws IndexOutOfBoundsException if there is no such PIECE");
        none.outOfBounds("hold(#, 0) of none", (room, n) -> bit(room.hold(n, 0)), MIN, -1, 0, 1, MAX);
        ready.taken("hold(0, 0) of one", 1, (room, n) -> bit(room.hold(0, 0)), 0);
        ready.outOfBounds("hold(#, 0) of one", (room, n) -> bit(room.hold(n, 0)), MIN, -1, 1, 11, MAX);
        full.taken("hold(#, 3) of 12", 1, (room, n) -> bit(room.hold(n, 3)), 3, 7, 11);
        full.outOfBounds("hold(#, 3) of 12", (room, n) -> bit(room.hold(n, 3)), -1, 12);
    }

    private static void holdNoSuchLand() {
        check.promise("10: throws IndexOutOfBoundsException if there is no such LAND");
        ready.taken("hold(0, #)", 1, (room, n) -> bit(room.hold(0, n)), 0, 1, 2, 3);
        ready.outOfBounds("hold(0, #)", (room, n) -> bit(room.hold(0, n)), MIN, -1, 4, MAX);
    }

    private static void holdReturns() {
        check.promise("10: returns whether it was FIT there TODAY ahead of that");
        halfLaid.taken("hold(0, #), not laid", 0, (room, n) -> bit(room.hold(0, n)), 0, 3);
        BrandRoom room = Desks.onDay(halfLaid(), 1);
        check.due("hold(0, 0), never approved", room.hold(0, 0), false);
        room.approve(0, 0);
        check.due("hold(0, 0), approved", room.hold(0, 0), true);
        check.due("hold(0, 0), held", room.hold(0, 0), false);
        room.approve(0, 0);
        room.version(0, 2);
        check.due("hold(0, 0), another look comes tomorrow", room.hold(0, 0), true);
        room.approve(0, 0);
        room.day();
        check.due("hold(0, 0), another look came today", room.hold(0, 0), false);
    }

    private static void reasonNoSuchPiece() {
        check.promise("11: throws IndexOutOfBoundsException if there is no such PIECE");
        none.outOfBounds("reason(#, 0, 0) of none", (room, n) -> room.reason(n, 0, 0), MIN, -1, 0, 1, MAX);
        ready.taken("reason(0, 0, 0) of one", 0, (room, n) -> room.reason(0, 0, 0), 0);
        ready.outOfBounds("reason(#, 0, 0) of one", (room, n) -> room.reason(n, 0, 0), MIN, -1, 1, 11, MAX);
        full.taken("reason(#, 3, 0) of 12", 0, (room, n) -> room.reason(n, 3, 0), 3, 7, 11);
        full.outOfBounds("reason(#, 3, 0) of 12", (room, n) -> room.reason(n, 3, 0), -1, 12);
    }

    private static void reasonNoSuchLand() {
        check.promise("11: throws IndexOutOfBoundsException if there is no such LAND");
        ready.taken("reason(0, #, 0)", 0, (room, n) -> room.reason(0, n, 0), 0, 1, 2, 3);
        ready.outOfBounds("reason(0, #, 0)", (room, n) -> room.reason(0, n, 0), MIN, -1, 4, 32, MAX);
    }

    private static void reasonDay() {
        check.promise("11: throws IllegalArgumentException if day is not 0 to 99");
        ready.taken("reason(0, 0, #)", 0, (room, n) -> room.reason(0, 0, n), 0, 1, 98, 99);
        ready.illegalArgument("reason(0, 0, #)", (room, n) -> room.reason(0, 0, n), MIN, -1, 100, MAX);
    }

    private static void reasonExceptionNamedFirst() {
        check.promise("11: the exception that is named first is thrown");
        ready.outOfBounds("reason(1, 0, #)", (room, n) -> room.reason(1, 0, n), -1, 100);
        ready.outOfBounds("reason(-1, 0, #)", (room, n) -> room.reason(-1, 0, n), -1, 100);
        ready.outOfBounds("reason(0, 4, #)", (room, n) -> room.reason(0, 4, n), -1, 100);
        ready.outOfBounds("reason(0, -1, #)", (room, n) -> room.reason(0, -1, n), -1, 100);
    }

    private static void reasonIsZeroIfItMay() {
        check.promise("11: returns the REASON why it may not be shown there and then; 0 if it may");
        BrandRoom room = Desks.ready();
        room.rights(0, 1, 5, 9);
        check.due("reason(0, 0, 4), a day ahead of its rights", room.reason(0, 0, 4), 2);
        check.due("reason(0, 0, 5)", room.reason(0, 0, 5), 0);
        check.due("reason(0, 0, 9)", room.reason(0, 0, 9), 0);
        check.due("reason(0, 0, 10), a day behind them", room.reason(0, 0, 10), 2);
        room.hold(0, 0);
        check.due("reason(0, 0, 5), held", room.reason(0, 0, 5), 3);
        check.due("reason(0, 0, 4), held, without rights", room.reason(0, 0, 4), 2);
    }

    private static void isFitNoSuchPiece() {
        check.promise("12: throws IndexOutOfBoundsException if there is no such PIECE");
        none.outOfBounds("isFit(#, 0, 0) of none", (room, n) -> bit(room.isFit(n, 0, 0)), MIN, -1, 0, 1, MAX);
        ready.taken("isFit(0, 0, 0) of one", 1, (room, n) -> bit(room.isFit(0, 0, 0)), 0);
        ready.outOfBounds("isFit(#, 0, 0) of one", (room, n) -> bit(room.isFit(n, 0, 0)), MIN, -1, 1, 11, MAX);
        full.taken("isFit(#, 3, 0) of 12", 1, (room, n) -> bit(room.isFit(n, 3, 0)), 3, 7, 11);
        full.outOfBounds("isFit(#, 3, 0) of 12", (room, n) -> bit(room.isFit(n, 3, 0)), -1, 12);
    }

    private static void isFitNoSuchLand() {
        check.promise("12: throws IndexOutOfBoundsException if there is no such LAND");
        ready.taken("isFit(0, #, 0)", 1, (room, n) -> bit(room.isFit(0, n, 0)), 0, 1, 2, 3);
        ready.outOfBounds("isFit(0, #, 0)", (room, n) -> bit(room.isFit(0, n, 0)), MIN, -1, 4, 32, MAX);
    }

    private static void isFitDay() {
        check.promise("12: throws IllegalArgumentException if day is not 0 to 99");
        ready.taken("isFit(0, 0, #)", 1, (room, n) -> bit(room.isFit(0, 0, n)), 0, 1, 98, 99);
        ready.illegalArgument("isFit(0, 0, #)", (room, n) -> bit(room.isFit(0, 0, n)), MIN, -1, 100, MAX);
    }

    private static void isFitExceptionNamedFirst() {
        check.promise("12: the exception that is named first is thrown");
        ready.outOfBounds("isFit(1, 0, #)", (room, n) -> bit(room.isFit(1, 0, n)), -1, 100);
        ready.outOfBounds("isFit(-1, 0, #)", (room, n) -> bit(room.isFit(-1, 0, n)), -1, 100);
        ready.outOfBounds("isFit(0, 4, #)", (room, n) -> bit(room.isFit(0, 4, n)), -1, 100);
        ready.outOfBounds("isFit(0, -1, #)", (room, n) -> bit(room.isFit(0, -1, n)), -1, 100);
    }

    private static void ofPieceNoSuchPiece() {
        check.promise("13: throws IndexOutOfBoundsException if there is no such PIECE");
        none.outOfBounds("ofPiece(#, 0) of none", (room, n) -> room.ofPiece(n, 0), MIN, -1, 0, 1, MAX);
        ready.taken("ofPiece(0, 1) of one", 1, (room, n) -> room.ofPiece(0, 1), 0);
        ready.outOfBounds("ofPiece(#, 1) of one", (room, n) -> room.ofPiece(n, 1), MIN, -1, 1, 11, MAX);
        full.taken("ofPiece(11, 1) of 12", 2048, (room, n) -> room.ofPiece(11, 1), 0);
        full.outOfBounds("ofPiece(#, 1) of 12", (room, n) -> room.ofPiece(n, 1), -1, 12);
    }

    private static void ofPieceWhat() {
        check.promise("13: throws IllegalArgumentException if what is not 0 to 4");
        ready.taken("ofPiece(0, #)", 0, (room, n) -> room.ofPiece(0, n), 0, 3, 4);
        ready.taken("ofPiece(0, 1)", 1, (room, n) -> room.ofPiece(0, 1), 0);
        ready.taken("ofPiece(0, 2)", 4, (room, n) -> room.ofPiece(0, 2), 0);
        ready.illegalArgument("ofPiece(0, #)", (room, n) -> room.ofPiece(0, n), MIN, -1, 5, 6, MAX);
    }

    private static void ofPieceExceptionNamedFirst() {
        check.promise("13: the exception that is named first is thrown");
        ready.outOfBounds("ofPiece(1, #)", (room, n) -> room.ofPiece(1, n), -1, 5);
        ready.outOfBounds("ofPiece(-1, #)", (room, n) -> room.ofPiece(-1, n), -1, 5);
    }

    private static void ofPieceFirstDayLaid() {
        check.promise("13: 4 the first DAY on which it is LAID (NONE)");
        BrandRoom room = onePieceOfTwoAssets();
        check.due("ofPiece(0, 4) without versions", room.ofPiece(0, 4), -1);
        room.version(0, 0);
        check.due("ofPiece(0, 4), one asset has none", room.ofPiece(0, 4), -1);
        room.version(1, 99);
        check.due("ofPiece(0, 4), it comes on day 99", room.ofPiece(0, 4), 99);
        room.version(1, 1);
        check.due("ofPiece(0, 4), it comes on day 1", room.ofPiece(0, 4), 1);
        room.version(1, 0);
        check.due("ofPiece(0, 4), both are there", room.ofPiece(0, 4), 0);
        Desks.days(room, 99);
        check.due("ofPiece(0, 4) on day 99: it stays the first one", room.ofPiece(0, 4), 0);
    }

    private static void ofPieceCounts() {
        check.promise("13: 2 in how many LANDS it is FIT TODAY, 3 in how many BOOKINGS");
        BrandRoom room = Desks.withAssets(1);
        room.version(0, 0);
        room.piece(2, 1);
        check.due("ofPiece(0, 2), none", room.ofPiece(0, 2), 0);
        for (int land = 0; land < 4; land++) {
            room.approve(0, land);
            check.due("ofPiece(0, 2)", room.ofPiece(0, 2), land + 1);
        }
        for (int k = 0; k < 16; k++) {
            check.due("ofPiece(0, 3)", room.ofPiece(0, 3), k);
            room.book(0, k % 4, k / 4, 1 + k % 2, 2, 1);
        }
        check.due("ofPiece(0, 3), all", room.ofPiece(0, 3), 16);
        room.day();
        check.due("ofPiece(0, 3), all, half of them running", room.ofPiece(0, 3), 16);
        room.day();
        room.day();
        check.due("ofPiece(0, 3), all over", room.ofPiece(0, 3), 0);
    }

    private static int bit(boolean answer) {
        return answer ? 1 : 0;
    }
}
