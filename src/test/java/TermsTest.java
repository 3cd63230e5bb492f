/** The document's terms, sections 1 to 3, 5 and 6: each sentence that names an edge has a test of its own. */
public final class TermsTest {
    private static final Check check = new Check("TermsTest");

    public static void main(String[] args) {
        todayIsZeroAtFirst();
        greatestNumbersOfEach();
        setsAreSums();
        rightsNoneAtFirst();
        rightsWithBothDays();
        rightsToldAnewCountAlone();
        versionWithTheGreatestNumber();
        versionOnThatDayOrAheadOfIt();
        laidIfEachAssetHasAVersion();
        approvedForTheLookOfToday();
        lookAreAllTheVersions();
        whatWasToldLastCounts();
        fitIfLaid();
        reasonIsTheFirst();
        reasonNeedsTheRightsOfEachAsset();
        noTwoHaveADayInCommon();
        priceTenDaysAhead();
        priceATenthEachCut();
        priceAsItIsBooked();
        swapIsAnotherOne();
        swapIsOfTheSameFormat();
        swapIsFitInThatLandToday();
        swapHasRightsOnEachDay();
        swapHasRightsInThatLand();
        swapHasRightsOfAllItsAssets();
        swapIsInNoBookingOfThatLand();
        swapIsTheSmallestNumber();
        groupsNoneAtFirst();
        reachCountsGroupsOnce();
        reachOfThoseThatAreOn();
        check.end();
    }

    private static void todayIsZeroAtFirst() {
        check.promise("Terms: TODAY is 0 at first");
        BrandRoom room = Desks.withAssets(1);
        check.due("many(10)", room.many(10), 0);
        room.version(0, 0);
        room.piece(0, 1);
        check.due("approve(0, 0), a version of day 0 is there", room.approve(0, 0), false);
    }

    private static void greatestNumbersOfEach() {
        check.promise("Terms: LANDS 0 to 3, FORMATS 0 to 2, MEDIA 0 to 3, DAYS 0 to 99, GROUPS 0 to 9");
        BrandRoom room = Desks.withAssets(1);
        room.version(0, 99);
        room.rights(0, 8, 99, 99);
        room.piece(2, 1);
        room.groups(3, 3, 512);
        room.book(0, 3, 3, 99, 99, 999);
        Desks.onDay(room, 98);
        check.due("reason(0, 3, 98)", room.reason(0, 3, 98), 1);
        // Its deadline went by: the piece was not fit, and there is no day above 99.
        check.due("state", room.ofBooking(0, 5), 4);
        room.book(0, 3, 3, 99, 99, 999);
        room.day();
        check.due("many(10)", room.many(10), 99);
        check.due("approve(0, 3)", room.approve(0, 3), false);
        check.due("reason(0, 3, 99)", room.reason(0, 3, 99), 0);
        check.due("ofPiece(0, 0)", room.ofPiece(0, 0), 2);
        check.due("state", room.ofBooking(1, 5), 1);
        check.due("at(3, 3, 99)", room.at(3, 3, 99), 1);
        check.due("reachWith(1): group 9", room.reachWith(1), 1);
    }

    private static void setsAreSums() {
        check.promise("Terms: sets are told as the sum of 2^k for each k in them");
        BrandRoom room = Desks.withAssets(4);
        room.version(0, 0);
        room.version(3, 0);
        room.piece(0, 9);
        room.piece(0, 6);
        check.due("reason(0, 0, 0): it has assets 0 and 3", room.reason(0, 0, 0), 2);
        check.due("reason(1, 0, 0): it has assets 1 and 2", room.reason(1, 0, 0), 1);
        for (int lands = 0; lands <= 15; lands++) {
            room.rights(0, lands, 0, 99);
            for (int land = 0; land < 4; land++) {
                boolean in = lands / (land == 0 ? 1 : land == 1 ? 2 : land == 2 ? 4 : 8) % 2 == 1;
                check.due("hasRights(0, " + land + ", 0) of " + lands, room.hasRights(0, land, 0), in);
            }
        }
    }

    private static void rightsNoneAtFirst() {
        check.promise("1: RIGHTS: a set of LANDS (none, at first)");
        BrandRoom room = Desks.withAssets(2);
        room.rights(1, 15, 0, 99);
        for (int land = 0; land < 4; land++) {
            for (int day = 0; day <= 99; day += 33) {
                check.due("hasRights(0, .., ..)", room.hasRights(0, land, day), false);
            }
        }
    }

    private static void rightsWithBothDays() {
        check.promise("1: from a DAY to a DAY, with both");
        BrandRoom room = Desks.withAssets(1);
        room.rights(0, 4, 20, 22);
        for (int day = 0; day <= 99; day++) {
            check.due("hasRights(0, 2, " + day + ")", room.hasRights(0, 2, day), day == 20 || day == 21 || day == 22);
        }
        room.rights(0, 4, 21, 21);
        for (int day = 0; day <= 99; day++) {
            check.due("hasRights(0, 2, " + day + ")", room.hasRights(0, 2, day), day == 21);
        }
    }

    private static void rightsToldAnewCountAlone() {
        check.promise("5: tells its RIGHTS from now on");
        BrandRoom room = Desks.withAssets(1);
        room.rights(0, 3, 0, 50);
        room.rights(0, 6, 40, 99);
        check.due("hasRights(0, 0, 45), told before alone", room.hasRights(0, 0, 45), false);
        check.due("hasRights(0, 1, 39), told before alone", room.hasRights(0, 1, 39), false);
        check.due("hasRights(0, 1, 40)", room.hasRights(0, 1, 40), true);
        check.due("hasRights(0, 2, 99)", room.hasRights(0, 2, 99), true);
    }

    private static void versionWithTheGreatestNumber() {
        check.promise("1: the VERSION of an ASSET on a DAY is that with the greatest number");
        BrandRoom room = Desks.withAssets(1);
        room.version(0, 9);
        room.version(0, 7);
        room.version(0, 8);
        check.due("versionOn(0, 7)", room.versionOn(0, 7), 1);
        check.due("versionOn(0, 8)", room.versionOn(0, 8), 2);
        check.due("versionOn(0, 9): it came later, with a smaller number", room.versionOn(0, 9), 2);
        room.version(0, 9);
        room.version(0, 9);
        check.due("versionOn(0, 8)", room.versionOn(0, 8), 2);
        check.due("versionOn(0, 9), of three on that day", room.versionOn(0, 9), 4);
    }

    private static void versionOnThatDayOrAheadOfIt() {
        check.promise("1: of those that COME on that DAY, or ahead of it; NONE, if none does");
        BrandRoom room = Desks.withAssets(1);
        room.version(0, 50);
        check.due("versionOn(0, 49)", room.versionOn(0, 49), -1);
        check.due("versionOn(0, 50)", room.versionOn(0, 50), 0);
        check.due("versionOn(0, 51)", room.versionOn(0, 51), 0);
        Desks.days(room, 60);
        check.due("versionOn(0, 49) later", room.versionOn(0, 49), -1);
    }

    private static void laidIfEachAssetHasAVersion() {
        check.promise("2: it is LAID on a DAY, if each of its ASSETS has a VERSION on that DAY");
        for (int missing = 0; missing < 16; missing++) {
            BrandRoom room = Desks.withAssets(16);
            for (int asset = 0; asset < 16; asset++) {
                room.version(asset, asset == missing ? 1 : 0);
            }
            room.piece(0, 65535);
            check.due("reason(0, 0, 0) without asset " + missing, room.reason(0, 0, 0), 1);
            check.due("reason(0, 0, 1)", room.reason(0, 0, 1), 2);
            check.due("ofPiece(0, 4)", room.ofPiece(0, 4), 1);
        }
    }

    private static void approvedForTheLookOfToday() {
        check.promise("2: APPROVED in a LAND, TODAY: that is for its LOOK of TODAY");
        BrandRoom room = Desks.withAssets(1);
        room.version(0, 0);
        room.version(0, 5);
        room.version(0, 10);
        room.piece(0, 1);
        Desks.onDay(room, 5);
        room.approve(0, 2);
        check.due("isFit(0, 2, 4), the look ahead of it", room.isFit(0, 2, 4), false);
        check.due("isFit(0, 2, 5)", room.isFit(0, 2, 5), true);
        check.due("isFit(0, 2, 9)", room.isFit(0, 2, 9), true);
        check.due("isFit(0, 2, 10), the look behind it", room.isFit(0, 2, 10), false);
    }

    private static void lookAreAllTheVersions() {
        check.promise("2: its LOOK on a DAY are all these VERSIONS");
        for (int changed = 0; changed < 16; changed++) {
            BrandRoom room = Desks.withAssets(16);
            for (int asset = 0; asset < 16; asset++) {
                room.version(asset, 0);
            }
            room.piece(0, 65535);
            room.approve(0, 0);
            check.due("isFit(0, 0, 0)", room.isFit(0, 0, 0), true);
            room.version(changed, 1);
            check.due("isFit(0, 0, 0), asset " + changed + " changes tomorrow", room.isFit(0, 0, 0), true);
            check.due("isFit(0, 0, 1)", room.isFit(0, 0, 1), false);
        }
    }

    private static void whatWasToldLastCounts() {
        check.promise("2: for each PIECE and LAND what was told last counts");
        BrandRoom room = Desks.withAssets(1);
        room.version(0, 0);
        room.version(0, 1);
        room.piece(0, 1);
        room.piece(0, 1);
        room.approve(0, 0);
        room.day();
        room.approve(0, 0);
        check.due("isFit(0, 0, 0): approved for another look then", room.isFit(0, 0, 0), false);
        check.due("isFit(0, 0, 1)", room.isFit(0, 0, 1), true);
        room.hold(0, 1);
        room.hold(1, 0);
        check.due("isFit(0, 0, 1): another land, another piece is held", room.isFit(0, 0, 1), true);
        room.hold(0, 0);
        check.due("isFit(0, 0, 0), held", room.isFit(0, 0, 0), false);
        check.due("isFit(0, 0, 1), held", room.isFit(0, 0, 1), false);
        room.approve(0, 0);
        check.due("isFit(0, 0, 1), approved again", room.isFit(0, 0, 1), true);
    }

    private static void fitIfLaid() {
        check.promise("2: on a DAY it is FIT there, if it is LAID, it was APPROVED there last, and its LOOK is that");
        BrandRoom room = Desks.withAssets(2);
        room.version(0, 0);
        room.version(1, 3);
        room.piece(0, 3);
        Desks.onDay(room, 3);
        check.due("isFit(0, 0, 3), laid, not approved", room.isFit(0, 0, 3), false);
        room.approve(0, 0);
        check.due("isFit(0, 0, 2), not laid", room.isFit(0, 0, 2), false);
        check.due("isFit(0, 0, 3), without rights", room.isFit(0, 0, 3), true);
        check.due("isFit(0, 1, 3), approved in another land", room.isFit(0, 1, 3), false);
    }

    private static void reasonIsTheFirst() {
        check.promise("2: the REASON is the first one that is so; 0 if none is");
        BrandRoom room = Desks.withAssets(1);
        room.version(0, 10);
        room.piece(0, 1);
        check.due("reason, not laid, no rights, not fit", room.reason(0, 0, 9), 1);
        check.due("reason, no rights, not fit", room.reason(0, 0, 10), 2);
        room.rights(0, 1, 0, 20);
        check.due("reason, not laid, not fit", room.reason(0, 0, 9), 1);
        check.due("reason, not fit", room.reason(0, 0, 20), 3);
        Desks.onDay(room, 10);
        room.approve(0, 0);
        check.due("reason, none", room.reason(0, 0, 20), 0);
        check.due("reason, no rights alone", room.reason(0, 0, 21), 2);
    }

    private static void reasonNeedsTheRightsOfEachAsset() {
        check.promise("2: 2 one of its ASSETS has no RIGHTS for that LAND on that DAY");
        for (int missing = 0; missing < 16; missing++) {
            BrandRoom room = Desks.withAssets(16);
            for (int asset = 0; asset < 16; asset++) {
                room.version(asset, 0);
                room.rights(asset, asset == missing ? 13 : 15, 5, asset == missing ? 6 : 7);
            }
            room.piece(0, 65535);
            check.due("reason(0, 0, 6)", room.reason(0, 0, 6), 3);
            check.due("reason(0, 1, 6), asset " + missing + " has none there", room.reason(0, 1, 6), 2);
            check.due("reason(0, 0, 7), asset " + missing + " has none then", room.reason(0, 0, 7), 2);
        }
    }

    private static void noTwoHaveADayInCommon() {
        check.promise("3: no two with the same LAND and MEDIUM have a DAY in common");
        BrandRoom room = Desks.ready();
        int booked = 0;
        for (int day = 1; day <= 16; day++) {
            check.due("book, day by day", room.book(0, 1, 1, day, day, 1), booked++);
        }
        for (int day = 1; day <= 16; day++) {
            check.due("at(1, 1, " + day + ")", room.at(1, 1, day), day - 1);
        }
        check.illegalState("book one of these days", room, () -> room.book(0, 1, 1, 16, 16, 1));
    }

    private static void priceTenDaysAhead() {
        check.promise("3: for each DAY by which TODAY is behind 10 DAYS ahead of its first DAY");
        BrandRoom room = Desks.onDay(Desks.ready(), 30);
        check.due("price, 69 days ahead", room.price(99, 99, 100), 100);
        check.due("price, 11 days ahead", room.price(41, 41, 100), 100);
        check.due("price, 10 days ahead", room.price(40, 40, 100), 100);
        for (int behind = 1; behind <= 9; behind++) {
            int first = 40 - behind;
            check.due("price, " + (10 - behind) + " days ahead", room.price(first, first, 100), 100 + 10 * behind);
        }
    }

    private static void priceATenthEachCut() {
        check.promise("3: a tenth of that (of BASE * DAYS), each cut");
        BrandRoom room = new BrandRoom();
        check.due("price of 9: a tenth is 0", room.price(1, 1, 9), 9);
        check.due("price of 10", room.price(1, 1, 10), 19);
        check.due("price of 19: a tenth is 1", room.price(1, 1, 19), 28);
        check.due("price of 3 * 13 = 39: a tenth is 3", room.price(1, 3, 13), 39 + 9 * 3);
        check.due("price of 2 * 5 = 10: a tenth is 1, of all its days", room.price(8, 9, 5), 10 + 2);
        check.due("price of 99 * 999", room.price(1, 99, 999), 98901 + 9 * 9890);
    }

    private static void priceAsItIsBooked() {
        check.promise("3: its PRICE, as it is booked");
        BrandRoom room = Desks.ready();
        room.book(0, 0, 0, 12, 12, 100);
        Desks.onDay(room, 11);
        check.due("PRICE of one booked 12 days ahead, a day ahead", room.ofBooking(0, 6), 100);
        room.book(0, 1, 0, 12, 12, 100);
        check.due("PRICE of one booked a day ahead", room.ofBooking(1, 6), 190);
        room.day();
        check.due("PRICE of it as it runs", room.ofBooking(1, 6), 190);
    }

    /** Booking 0 of piece 0 in land 0, days 20 to 30; piece 1 has asset 1, which came and has all rights. */
    private static BrandRoom twoPieces(int format) {
        BrandRoom room = Desks.ready();
        room.asset();
        room.version(1, 0);
        room.rights(1, 15, 0, 99);
        room.piece(format, 2);
        room.approve(1, 0);
        room.book(0, 0, 0, 20, 30, 1);
        return room;
    }

    private static void swapIsAnotherOne() {
        check.promise("5: a PIECE can be SWAPPED for that of a BOOKING, if it is another one");
        BrandRoom room = Desks.ready();
        room.book(0, 0, 0, 20, 30, 1);
        check.due("swapFor(0), its own alone", room.swapFor(0), -1);
        room.cancel(0);
        check.due("swapFor(0), its own alone, in no booking", room.swapFor(0), -1);
        check.due("swapFor(0), another one", twoPieces(0).swapFor(0), 1);
    }

    private static void swapIsOfTheSameFormat() {
        check.promise("5: of the same FORMAT");
        check.due("swapFor(0), format 0", twoPieces(0).swapFor(0), 1);
        check.due("swapFor(0), format 1", twoPieces(1).swapFor(0), -1);
        check.due("swapFor(0), format 2", twoPieces(2).swapFor(0), -1);
    }

    private static void swapIsFitInThatLandToday() {
        check.promise("5: is FIT in that LAND TODAY");
        BrandRoom room = twoPieces(0);
        room.hold(1, 0);
        room.approve(1, 1);
        check.due("swapFor(0), fit in another land", room.swapFor(0), -1);
        room.approve(1, 0);
        room.version(1, 1);
        check.due("swapFor(0), fit today, not tomorrow", room.swapFor(0), 1);
        room.day();
        check.due("swapFor(0), not fit today", room.swapFor(0), -1);
        check.illegalState("swap(0, 1)", room, () -> room.swap(0, 1));
    }

    private static void swapHasRightsOnEachDay() {
        check.promise("5: has RIGHTS there on each DAY of the BOOKING");
        BrandRoom room = twoPieces(0);
        room.rights(1, 1, 20, 30);
        check.due("swapFor(0), on these days alone, in this land alone", room.swapFor(0), 1);
        room.rights(1, 1, 21, 99);
        check.due("swapFor(0), none on the first day", room.swapFor(0), -1);
        room.rights(1, 1, 0, 29);
        check.due("swapFor(0), none on the last day", room.swapFor(0), -1);
        room.rights(1, 14, 0, 99);
        check.due("swapFor(0), in all other lands", room.swapFor(0), -1);
        room.rights(1, 1, 20, 30);
        Desks.onDay(room, 29);
        room.rights(1, 1, 29, 99);
        check.due("swapFor(0), none on days gone by", room.swapFor(0), -1);
    }

    /** The land of the booking is 2, its medium 1: rights in land 1 do not count. */
    private static void swapHasRightsInThatLand() {
        check.promise("5: has RIGHTS there");
        BrandRoom room = twoPieces(0);
        room.approve(1, 2);
        room.book(0, 2, 1, 20, 30, 1);
        room.rights(1, 4, 0, 99);
        check.due("swapFor(1), rights in its land alone", room.swapFor(1), 1);
        room.rights(1, 11, 0, 99);
        check.due("swapFor(1), rights in all other lands", room.swapFor(1), -1);
        check.illegalState("swap(1, 1), rights in all other lands", room, () -> room.swap(1, 1));
        room.rights(1, 4, 0, 99);
        check.due("swap(1, 1)", room.swap(1, 1), 0);
    }

    private static void swapHasRightsOfAllItsAssets() {
        check.promise("5: has RIGHTS there (all its ASSETS)");
        for (int missing = 1; missing <= 3; missing++) {
            BrandRoom room = Desks.ready();
            for (int asset = 1; asset <= 3; asset++) {
                room.asset();
                room.version(asset, 0);
                room.rights(asset, 1, 20, 30);
            }
            room.piece(0, 14);
            room.approve(1, 0);
            room.book(0, 0, 0, 20, 30, 1);
            check.due("swapFor(0)", room.swapFor(0), 1);
            room.rights(missing, 0, 20, 30);
            check.due("swapFor(0) without those of asset " + missing, room.swapFor(0), -1);
        }
    }

    private static void swapIsInNoBookingOfThatLand() {
        check.promise("5: is in no BOOKING of that LAND that is BOOKED or RUNNING");
        BrandRoom room = twoPieces(0);
        room.book(1, 1, 0, 2, 3, 1);
        check.due("swapFor(0), BOOKED in another land", room.swapFor(0), 1);
        room.book(1, 0, 3, 2, 3, 1);
        check.due("swapFor(0), BOOKED in that land, another medium, other days", room.swapFor(0), -1);
        Desks.onDay(room, 2);
        check.due("swapFor(0), RUNNING", room.swapFor(0), -1);
        Desks.onDay(room, 4);
        check.due("swapFor(0), OVER", room.swapFor(0), 1);
        room.book(1, 0, 3, 9, 9, 1);
        room.cancel(3);
        check.due("swapFor(0), CANCELLED", room.swapFor(0), 1);
        room.hold(1, 0);
        room.hold(0, 0);
        room.book(1, 0, 3, 8, 8, 1);
        room.book(0, 0, 3, 10, 10, 1);
        room.day();
        check.due("state", room.ofBooking(4, 5), 4);
        room.approve(1, 0);
        check.due("swapFor(0), LOST", room.swapFor(0), 1);
    }

    private static void swapIsTheSmallestNumber() {
        check.promise("5: of several, the one with the smallest number");
        BrandRoom room = Desks.ready();
        for (int piece = 1; piece < 12; piece++) {
            room.piece(0, 1);
            room.approve(piece, 0);
        }
        room.book(5, 0, 0, 20, 30, 1);
        for (int piece = 0; piece < 12; piece++) {
            if (piece != 5) {
                check.due("swapFor(0)", room.swapFor(0), piece);
                room.hold(piece, 0);
            }
        }
        check.due("swapFor(0), none is left", room.swapFor(0), -1);
    }

    private static void groupsNoneAtFirst() {
        check.promise("6: each MEDIUM has, in each LAND, a set of GROUPS (none, at first)");
        BrandRoom room = Desks.ready();
        for (int place = 0; place < 16; place++) {
            room.book(0, place / 4, place % 4, 1, 1, 1);
            check.due("reachWith of one without groups", room.reachWith(place), 0);
        }
        for (int place = 0; place < 16; place++) {
            check.due("groups at first", room.groups(place % 4, place / 4, 1 << place % 10), 0);
        }
        for (int place = 0; place < 16; place++) {
            check.due("groups then", room.groups(place % 4, place / 4, 0), 1 << place % 10);
        }
    }

    private static void reachCountsGroupsOnce() {
        check.promise("6: how many GROUPS are in one or more of the sets of MEDIA there");
        BrandRoom room = Desks.ready();
        for (int medium = 0; medium < 4; medium++) {
            room.book(0, 2, medium, 1, 9, 1);
        }
        room.day();
        check.due("reach(2), no groups", room.reach(2), 0);
        room.groups(0, 2, 1);
        check.due("reach(2), group 0", room.reach(2), 1);
        room.groups(1, 2, 1);
        check.due("reach(2), group 0 twice", room.reach(2), 1);
        room.groups(2, 2, 512);
        check.due("reach(2), groups 0 and 9", room.reach(2), 2);
        room.groups(3, 2, 1023);
        check.due("reach(2), all", room.reach(2), 10);
        room.groups(3, 1, 1023);
        check.due("reach(1), nothing is on there", room.reach(1), 0);
    }

    private static void reachOfThoseThatAreOn() {
        check.promise("6: with which a BOOKING is ON");
        BrandRoom room = Desks.states();
        for (int place = 0; place < 16; place++) {
            room.groups(place % 4, place / 4, 3 << place / 4);
        }
        check.due("reach(0), BOOKED, CANCELLED as it was RUNNING", room.reach(0), 0);
        check.due("reach(1), RUNNING", room.reach(1), 2);
        check.due("reach(2), OVER", room.reach(2), 0);
        check.due("reach(3), CANCELLED, LOST", room.reach(3), 0);
        room.rights(0, 13, 0, 99);
        check.due("reach(1) today, whatever is told", room.reach(1), 2);
        room.day();
        check.due("reach(1), PULLED", room.reach(1), 0);
    }
}
