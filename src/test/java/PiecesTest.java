/** Promises 8 to 13. */
public final class PiecesTest {
    private static final Check check = new Check("PiecesTest");

    public static void main(String[] args) {
        piece();
        pieceLimit();
        approve();
        approveWithoutTheFirstAsset();
        hold();
        approvalIsForTheLook();
        reason();
        isFit();
        isFitAtTheEdges();
        ofPiece();
        ofPieceBookings();
        check.end();
    }

    private static void piece() {
        check.promise("8 piece");
        BrandRoom room = new BrandRoom();
        check.illegalArgument("piece(0, 1) without assets", room, () -> room.piece(0, 1));
        room.asset();
        room.asset();
        check.illegalArgument("piece(-1, 1)", room, () -> room.piece(-1, 1));
        check.illegalArgument("piece(3, 1)", room, () -> room.piece(3, 1));
        check.illegalArgument("piece(0, 0)", room, () -> room.piece(0, 0));
        check.illegalArgument("piece(0, -1)", room, () -> room.piece(0, -1));
        check.illegalArgument("piece(0, MIN)", room, () -> room.piece(0, Integer.MIN_VALUE));
        check.illegalArgument("piece(0, 4)", room, () -> room.piece(0, 4));
        check.illegalArgument("piece(0, 5)", room, () -> room.piece(0, 5));
        check.illegalArgument("piece(0, 2^16)", room, () -> room.piece(0, 1 << 16));
        check.due("piece(0, 1)", room.piece(0, 1), 0);
        check.due("piece(2, 3)", room.piece(2, 3), 1);
        check.due("piece(1, 2)", room.piece(1, 2), 2);
        check.due("many(1)", room.many(1), 3);
        check.due("ofPiece(1, 0)", room.ofPiece(1, 0), 2);
        check.due("ofPiece(1, 1)", room.ofPiece(1, 1), 3);
        room.asset();
        check.due("piece(0, 4)", room.piece(0, 4), 3);
    }

    private static void pieceLimit() {
        BrandRoom room = new BrandRoom();
        for (int k = 0; k < 16; k++) {
            room.asset();
        }
        check.illegalArgument("piece(0, 2^16) of 16 assets", room, () -> room.piece(0, 1 << 16));
        check.illegalArgument("piece(0, 2^30) of 16 assets", room, () -> room.piece(0, 1 << 30));
        check.due("piece(0, 65535)", room.piece(0, 65535), 0);
        check.due("ofPiece(0, 1)", room.ofPiece(0, 1), 65535);
        for (int k = 1; k < 12; k++) {
            check.due("piece(1, 1)", room.piece(1, 1), k);
        }
        check.illegalArgument("piece(3, 1) of 12: the format is told first", room, () -> room.piece(3, 1));
        check.illegalArgument("piece(0, 0) of 12: the set is told first", room, () -> room.piece(0, 0));
        check.illegalArgument("piece(0, 2^16) of 12", room, () -> room.piece(0, 1 << 16));
        check.illegalState("piece(0, 1) of 12", room, () -> room.piece(0, 1));
        check.due("many(1)", room.many(1), 12);
    }

    private static void approve() {
        check.promise("9 approve");
        BrandRoom room = new BrandRoom();
        check.outOfBounds("approve(0, 0) without pieces", room, () -> room.approve(0, 0));
        room.asset();
        room.asset();
        room.piece(0, 3);
        check.outOfBounds("approve(-1, 0)", room, () -> room.approve(-1, 0));
        check.outOfBounds("approve(1, 0)", room, () -> room.approve(1, 0));
        check.outOfBounds("approve(0, -1), not laid: the land is told first", room, () -> room.approve(0, -1));
        check.outOfBounds("approve(0, 4)", room, () -> room.approve(0, 4));
        check.illegalState("approve(0, 0), not laid", room, () -> room.approve(0, 0));
        room.version(0, 0);
        room.version(1, 1);
        check.illegalState("approve(0, 0), half laid", room, () -> room.approve(0, 0));
        room.day();
        check.due("approve(0, 0)", room.approve(0, 0), false);
        check.due("isFit(0, 0, 1)", room.isFit(0, 0, 1), true);
        check.due("isFit(0, 1, 1) in another land", room.isFit(0, 1, 1), false);
        check.due("approve(0, 0) again", room.approve(0, 0), true);
        check.due("approve(0, 3)", room.approve(0, 3), false);
        room.version(1, 1);
        check.due("approve(0, 0) with a new look", room.approve(0, 0), false);
        check.due("approve(0, 0) again", room.approve(0, 0), true);
        check.due("isFit(0, 3, 1) with the look that was approved there", room.isFit(0, 3, 1), false);
    }

    private static void approveWithoutTheFirstAsset() {
        BrandRoom room = new BrandRoom();
        room.asset();
        room.asset();
        room.asset();
        room.version(1, 0);
        room.version(2, 0);
        room.piece(0, 7);
        check.illegalState("approve(0, 0), the first asset is not there", room, () -> room.approve(0, 0));
        check.due("reason(0, 0, 0)", room.reason(0, 0, 0), 1);
        room.version(0, 0);
        check.due("approve(0, 0)", room.approve(0, 0), false);
    }

    private static void hold() {
        check.promise("10 hold");
        BrandRoom room = new BrandRoom();
        check.outOfBounds("hold(0, 0) without pieces", room, () -> room.hold(0, 0));
        room.asset();
        room.piece(0, 1);
        check.outOfBounds("hold(-1, 0)", room, () -> room.hold(-1, 0));
        check.outOfBounds("hold(1, 0)", room, () -> room.hold(1, 0));
        check.outOfBounds("hold(0, -1)", room, () -> room.hold(0, -1));
        check.outOfBounds("hold(0, 4)", room, () -> room.hold(0, 4));
        check.due("hold(0, 0), not laid", room.hold(0, 0), false);
        room.version(0, 0);
        check.due("hold(0, 0), not approved", room.hold(0, 0), false);
        room.approve(0, 0);
        room.approve(0, 1);
        check.due("hold(0, 0), approved", room.hold(0, 0), true);
        check.due("isFit(0, 0, 0), held", room.isFit(0, 0, 0), false);
        check.due("isFit(0, 1, 0), approved in another land", room.isFit(0, 1, 0), true);
        check.due("hold(0, 0) again", room.hold(0, 0), false);
        check.due("approve(0, 0), held", room.approve(0, 0), false);
        check.due("isFit(0, 0, 0): what was told last counts", room.isFit(0, 0, 0), true);
        room.version(0, 0);
        check.due("hold(0, 0) with another look", room.hold(0, 0), false);
    }

    private static void approvalIsForTheLook() {
        check.promise("9 approve");
        BrandRoom room = new BrandRoom();
        room.asset();
        room.asset();
        room.version(0, 0);
        room.version(1, 0);
        room.version(0, 2);
        room.piece(0, 3);
        room.approve(0, 0);
        check.due("isFit(0, 0, 1)", room.isFit(0, 0, 1), true);
        check.due("isFit(0, 0, 2), as a new version comes", room.isFit(0, 0, 2), false);
        room.day();
        room.day();
        check.due("approve(0, 0) on day 2", room.approve(0, 0), false);
        check.due("isFit(0, 0, 1): that was another look", room.isFit(0, 0, 1), false);
        check.due("isFit(0, 0, 2)", room.isFit(0, 0, 2), true);
        check.due("isFit(0, 0, 99)", room.isFit(0, 0, 99), true);
        check.due("hold(0, 0)", room.hold(0, 0), true);
        check.due("isFit(0, 0, 1)", room.isFit(0, 0, 1), false);
    }

    private static void reason() {
        check.promise("11 reason");
        BrandRoom room = new BrandRoom();
        check.outOfBounds("reason(0, 0, 0) without pieces", room, () -> room.reason(0, 0, 0));
        room.asset();
        room.asset();
        room.piece(0, 3);
        check.outOfBounds("reason(-1, 0, 0)", room, () -> room.reason(-1, 0, 0));
        check.outOfBounds("reason(1, 0, 100): the piece is told first", room, () -> room.reason(1, 0, 100));
        check.outOfBounds("reason(0, -1, 0)", room, () -> room.reason(0, -1, 0));
        check.outOfBounds("reason(0, 4, 100): the land is told first", room, () -> room.reason(0, 4, 100));
        check.illegalArgument("reason(0, 0, -1)", room, () -> room.reason(0, 0, -1));
        check.illegalArgument("reason(0, 0, 100)", room, () -> room.reason(0, 0, 100));

        check.due("reason, nothing is so", room.reason(0, 0, 0), 1);
        room.version(0, 0);
        check.due("reason, one asset without a version", room.reason(0, 0, 0), 1);
        room.version(1, 0);
        check.due("reason, laid", room.reason(0, 0, 0), 2);
        room.rights(0, 1, 0, 5);
        check.due("reason, one asset without rights", room.reason(0, 0, 0), 2);
        room.rights(1, 3, 0, 4);
        check.due("reason, not approved", room.reason(0, 0, 0), 3);
        check.due("reason, in a land without rights of one", room.reason(0, 1, 0), 2);
        room.approve(0, 1);
        check.due("reason, approved in another land", room.reason(0, 0, 0), 3);
        check.due("reason, approved there, without rights", room.reason(0, 1, 0), 2);
        room.approve(0, 0);
        check.due("reason, none", room.reason(0, 0, 0), 0);
        check.due("reason on the last day with rights", room.reason(0, 0, 4), 0);
        check.due("reason on the day after it", room.reason(0, 0, 5), 2);
        room.version(0, 3);
        check.due("reason on the day ahead of a new version", room.reason(0, 0, 2), 0);
        check.due("reason on the day of a new version", room.reason(0, 0, 3), 3);
        room.hold(0, 0);
        check.due("reason, held", room.reason(0, 0, 0), 3);
    }

    private static void isFit() {
        check.promise("12 isFit");
        BrandRoom room = new BrandRoom();
        check.outOfBounds("isFit(0, 0, 0) without pieces", room, () -> room.isFit(0, 0, 0));
        room.asset();
        room.version(0, 0);
        room.piece(0, 1);
        check.outOfBounds("isFit(-1, 0, 0)", room, () -> room.isFit(-1, 0, 0));
        check.outOfBounds("isFit(1, 0, 100): the piece is told first", room, () -> room.isFit(1, 0, 100));
        check.outOfBounds("isFit(0, -1, 0)", room, () -> room.isFit(0, -1, 0));
        check.outOfBounds("isFit(0, 4, 100): the land is told first", room, () -> room.isFit(0, 4, 100));
        check.illegalArgument("isFit(0, 0, -1)", room, () -> room.isFit(0, 0, -1));
        check.illegalArgument("isFit(0, 0, 100)", room, () -> room.isFit(0, 0, 100));
        check.due("isFit, not approved", room.isFit(0, 0, 0), false);
        room.approve(0, 0);
        check.due("isFit without rights", room.isFit(0, 0, 0), true);
        check.due("isFit on day 99", room.isFit(0, 0, 99), true);
        check.due("isFit in another land", room.isFit(0, 2, 0), false);
        room.version(0, 50);
        check.due("isFit ahead of a new version", room.isFit(0, 0, 49), true);
        check.due("isFit with a new version", room.isFit(0, 0, 50), false);
        room.late(0, 1);
        check.due("isFit with the new version late", room.isFit(0, 0, 50), true);
    }

    private static void isFitAtTheEdges() {
        BrandRoom room = new BrandRoom();
        room.asset();
        room.asset();
        room.version(0, 1);
        room.version(1, 0);
        room.piece(0, 3);
        room.piece(0, 2);
        room.day();
        room.approve(0, 0);
        check.due("isFit on a day on which it was not laid", room.isFit(0, 0, 0), false);
        check.due("isFit on the day of the approval", room.isFit(0, 0, 1), true);
        check.due("isFit of another piece", room.isFit(1, 0, 1), false);
        room.approve(1, 0);
        check.due("isFit ahead of the approval, with the same look", room.isFit(1, 0, 0), true);
        room.version(0, 3);
        check.due("isFit of a piece without the new version", room.isFit(1, 0, 3), true);
        check.due("isFit of a piece with the new version", room.isFit(0, 0, 3), false);
    }

    private static void ofPiece() {
        check.promise("13 ofPiece");
        BrandRoom room = new BrandRoom();
        check.outOfBounds("ofPiece(0, 0) without pieces", room, () -> room.ofPiece(0, 0));
        room.asset();
        room.asset();
        room.piece(1, 3);
        room.piece(2, 2);
        check.outOfBounds("ofPiece(-1, 0)", room, () -> room.ofPiece(-1, 0));
        check.outOfBounds("ofPiece(2, 5): the piece is told first", room, () -> room.ofPiece(2, 5));
        check.illegalArgument("ofPiece(0, -1)", room, () -> room.ofPiece(0, -1));
        check.illegalArgument("ofPiece(0, 5)", room, () -> room.ofPiece(0, 5));
        check.due("ofPiece(0, 0)", room.ofPiece(0, 0), 1);
        check.due("ofPiece(1, 0)", room.ofPiece(1, 0), 2);
        check.due("ofPiece(0, 1)", room.ofPiece(0, 1), 3);
        check.due("ofPiece(1, 1)", room.ofPiece(1, 1), 2);
        check.due("ofPiece(0, 4), never laid", room.ofPiece(0, 4), -1);
        room.version(1, 99);
        check.due("ofPiece(1, 4)", room.ofPiece(1, 4), 99);
        check.due("ofPiece(0, 4), never laid", room.ofPiece(0, 4), -1);
        room.version(0, 0);
        check.due("ofPiece(0, 4)", room.ofPiece(0, 4), 99);
        room.version(1, 6);
        check.due("ofPiece(0, 4) with a later version that comes first", room.ofPiece(0, 4), 6);
        room.late(1, 2);
        check.due("ofPiece(0, 4), late", room.ofPiece(0, 4), 8);
        room.version(1, 0);
        check.due("ofPiece(0, 4)", room.ofPiece(0, 4), 0);
        check.due("ofPiece(0, 2)", room.ofPiece(0, 2), 0);
        room.approve(0, 0);
        room.approve(0, 3);
        check.due("ofPiece(0, 2)", room.ofPiece(0, 2), 2);
        check.due("ofPiece(1, 2)", room.ofPiece(1, 2), 0);
        room.version(0, 1);
        check.due("ofPiece(0, 2) today", room.ofPiece(0, 2), 2);
        room.day();
        check.due("ofPiece(0, 2) today", room.ofPiece(0, 2), 0);
        room.approve(0, 3);
        room.hold(0, 1);
        check.due("ofPiece(0, 2)", room.ofPiece(0, 2), 1);
    }

    private static void ofPieceBookings() {
        BrandRoom room = new BrandRoom();
        room.asset();
        room.version(0, 0);
        room.piece(0, 1);
        room.piece(0, 1);
        room.book(0, 0, 0, 1, 2, 1);
        room.book(0, 1, 0, 1, 1, 1);
        room.book(1, 2, 0, 2, 2, 1);
        check.due("ofPiece(0, 3), booked", room.ofPiece(0, 3), 2);
        check.due("ofPiece(1, 3), booked", room.ofPiece(1, 3), 1);
        room.day();
        check.due("ofPiece(0, 3), running", room.ofPiece(0, 3), 2);
        room.day();
        check.due("ofPiece(0, 3), one is over", room.ofPiece(0, 3), 1);
        room.cancel(0);
        check.due("ofPiece(0, 3), one is cancelled", room.ofPiece(0, 3), 0);
        check.due("ofPiece(1, 3)", room.ofPiece(1, 3), 1);
    }
}
