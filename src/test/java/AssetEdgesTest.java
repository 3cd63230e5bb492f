/** Promises 1 to 7: each sentence that names an edge has a test of its own, which bears its words. */
public final class AssetEdgesTest {
    private static final int MIN = Integer.MIN_VALUE;
    private static final int MAX = Integer.MAX_VALUE;

    private static final Check check = new Check("AssetEdgesTest");
    private static final Twins none = new Twins(check, () -> new BrandRoom());
    private static final Twins one = new Twins(check, () -> Desks.withAssets(1));
    private static final Twins full = new Twins(check, () -> Desks.full());
    private static final Twins ready = new Twins(check, () -> Desks.ready());
    private static final Twins fiveOnDay40 = new Twins(check, () -> fiveOnDay40());

    public static void main(String[] args) {
        deskWithoutAssets();
        assetsAreNumberedFromZero();
        sixteenAssets();
        versionOfNoSuchAsset();
        versionDay();
        fiveVersions();
        versionExceptionNamedFirst();
        lateOfNoSuchAsset();
        lateDays();
        lateWithoutOneToCome();
        lateIs99AtMost();
        lateExceptionNamedFirst();
        rightsOfNoSuchAsset();
        rightsLands();
        rightsDays();
        rightsToBelowFrom();
        rightsBefore();
        rightsExceptionNamedFirst();
        versionOnOfNoSuchAsset();
        versionOnDay();
        versionOnWithoutOne();
        versionOnExceptionNamedFirst();
        hasRightsOfNoSuchAsset();
        hasRightsOfNoSuchLand();
        hasRightsDay();
        hasRightsExceptionNamedFirst();
        check.end();
    }

    /** Asset 0 has all its versions, asset 1 four; the last ones come on day 60. */
    private static BrandRoom fiveOnDay40() {
        BrandRoom room = Desks.onDay(Desks.withAssets(2), 40);
        for (int v = 0; v < 4; v++) {
            room.version(0, 40 + v);
            room.version(1, 60);
        }
        room.version(0, 60);
        return room;
    }

    private static void deskWithoutAssets() {
        check.promise("1: a desk without ASSETS");
        check.due("many(0)", new BrandRoom().many(0), 0);
        none.outOfBounds("versionOn(#, 0)", (room, n) -> room.versionOn(n, 0), -1, 0, 1);
        none.illegalArgument("piece(0, #)", (room, n) -> room.piece(0, n), 1, 2, 65535);
    }

    private static void assetsAreNumberedFromZero() {
        check.promise("2: returns its number; ASSETS are numbered from 0");
        BrandRoom room = new BrandRoom();
        for (int k = 0; k < 16; k++) {
            check.due("asset()", room.asset(), k);
            check.due("many(0)", room.many(0), k + 1);
        }
    }

    private static void sixteenAssets() {
        check.promise("2: throws IllegalStateException if there are 16");
        Twins fifteen = new Twins(check, () -> Desks.withAssets(15));
        fifteen.taken("asset() of 15", 15, (room, n) -> room.asset(), 0);
        Twins sixteen = new Twins(check, () -> Desks.withAssets(16));
        sixteen.illegalState("asset() of 16", (room, n) -> room.asset(), 0);
        full.illegalState("asset() of 16, all else full", (room, n) -> room.asset(), 0);
    }

    private static void versionOfNoSuchAsset() {
        check.promise("3: throws IndexOutOfBoundsException if there is no such ASSET");
        none.outOfBounds("version(#, 0) of none", (room, n) -> room.version(n, 0), MIN, -1, 0, 1, MAX);
        one.taken("version(#, 0) of one", 0, (room, n) -> room.version(n, 0), 0);
        one.outOfBounds("version(#, 0) of one", (room, n) -> room.version(n, 0), MIN, -1, 1, 15, 16, MAX);
        Twins sixteen = new Twins(check, () -> Desks.withAssets(16));
        sixteen.taken("version(#, 0) of 16", 0, (room, n) -> room.version(n, 0), 0, 15);
        sixteen.outOfBounds("version(#, 0) of 16", (room, n) -> room.version(n, 0), -1, 16);
    }

    private static void versionDay() {
        check.promise("3: throws IllegalArgumentException if day is not TODAY to 99");
        one.taken("version(0, #) on day 0", 0, (room, n) -> room.version(0, n), 0, 1, 98, 99);
        one.illegalArgument("version(0, #) on day 0", (room, n) -> room.version(0, n), MIN, -1, 100, MAX);
        fiveOnDay40.taken("version(1, #) on day 40", 4, (room, n) -> room.version(1, n), 40, 41, 99);
        fiveOnDay40.illegalArgument("version(1, #) on day 40", (room, n) -> room.version(1, n), -1, 0, 39, 100);
        Twins last = new Twins(check, () -> Desks.onDay(Desks.withAssets(1), 99));
        last.taken("version(0, #) on day 99", 0, (room, n) -> room.version(0, n), 99);
        last.illegalArgument("version(0, #) on day 99", (room, n) -> room.version(0, n), 0, 98, 100);
    }

    private static void fiveVersions() {
        check.promise("3: throws IllegalStateException if there are 5");
        BrandRoom room = Desks.withAssets(2);
        for (int v = 0; v < 5; v++) {
            check.due("version(0, 0), numbered from 0", room.version(0, 0), v);
        }
        check.due("version(1, 0): another one has none", room.version(1, 0), 0);
        fiveOnDay40.taken("version(1, 99) of 4", 4, (desk, n) -> desk.version(1, 99), 0);
        fiveOnDay40.illegalState("version(0, #) of 5", (desk, n) -> desk.version(0, n), 40, 60, 99);
        full.illegalState("version(#, 99) of 5", (desk, n) -> desk.version(n, 99), 0, 15);
    }

    private static void versionExceptionNamedFirst() {
        check.promise("3: the exception that is named first is thrown");
        one.outOfBounds("version(1, #), no such asset", (room, n) -> room.version(1, n), -1, 100);
        fiveOnDay40.illegalArgument("version(0, #) of 5", (room, n) -> room.version(0, n), 39, 100);
        fiveOnDay40.outOfBounds("version(2, #), no such asset", (room, n) -> room.version(2, n), 39, 40, 100);
    }

    private static void lateOfNoSuchAsset() {
        check.promise("4: throws IndexOutOfBoundsException if there is no such ASSET");
        none.outOfBounds("late(#, 1) of none", (room, n) -> room.late(n, 1), MIN, -1, 0, 1, MAX);
        fiveOnDay40.taken("late(#, 1) of two", 61, (room, n) -> room.late(n, 1), 0, 1);
        fiveOnDay40.outOfBounds("late(#, 1) of two", (room, n) -> room.late(n, 1), MIN, -1, 2, 15, 16, MAX);
        full.taken("late(#, 1) of 16", 5, (room, n) -> room.late(n, 1), 0, 15);
        full.outOfBounds("late(#, 1) of 16", (room, n) -> room.late(n, 1), -1, 16);
    }

    private static void lateDays() {
        check.promise("4: throws IllegalArgumentException if days is not 1 to 20");
        fiveOnDay40.taken("late(0, 1)", 61, (room, n) -> room.late(0, 1), 0);
        fiveOnDay40.taken("late(0, 20)", 80, (room, n) -> room.late(0, 20), 0);
        fiveOnDay40.illegalArgument("late(0, #)", (room, n) -> room.late(0, n), MIN, -1, 0, 21, MAX);
    }

    private static void lateWithoutOneToCome() {
        check.promise("4: throws IllegalStateException if it has none, or that COMES TODAY, or came");
        one.illegalState("late(0, #) without versions", (room, n) -> room.late(0, n), 1, 20);
        ready.illegalState("late(0, #) of one that comes on day 0, today", (room, n) -> room.late(0, n), 1, 20);
        Twins day29 = new Twins(check, () -> comesOnDay30(29));
        day29.taken("late(0, 1) a day ahead of it", 31, (room, n) -> room.late(0, 1), 0);
        Twins day30 = new Twins(check, () -> comesOnDay30(30));
        day30.illegalState("late(0, #) on that day", (room, n) -> room.late(0, n), 1, 20);
        Twins day31 = new Twins(check, () -> comesOnDay30(31));
        day31.illegalState("late(0, #) a day behind it", (room, n) -> room.late(0, n), 1, 20);
        check.due("late(1, 1) of another one, that is to come", comesOnDay30(31).late(1, 1), 91);
    }

    /** Version 1 of asset 0, the last one, comes on day 30, version 0 on day 90. */
    private static BrandRoom comesOnDay30(int today) {
        BrandRoom room = Desks.withAssets(2);
        room.version(0, 90);
        room.version(0, 30);
        room.version(1, 90);
        return Desks.onDay(room, today);
    }

    private static void lateIs99AtMost() {
        check.promise("4: returns the DAY on which it COMES then; 99 at most");
        lateOn(78, 20, 98);
        lateOn(79, 20, 99);
        lateOn(80, 20, 99);
        lateOn(97, 1, 98);
        lateOn(98, 1, 99);
        lateOn(99, 1, 99);
        lateOn(99, 20, 99);
    }

    private static void lateOn(int day, int days, int then) {
        BrandRoom room = Desks.withAssets(1);
        room.version(0, day);
        String told = "late(0, " + days + ") of day " + day;
        check.due(told, room.late(0, days), then);
        check.due(told + ": ahead of that day", room.versionOn(0, then - 1), -1);
        check.due(told + ": on that day", room.versionOn(0, then), 0);
        check.due(told + ": on day 99", room.versionOn(0, 99), 0);
    }

    private static void lateExceptionNamedFirst() {
        check.promise("4: the exception that is named first is thrown");
        one.outOfBounds("late(1, #), no such asset", (room, n) -> room.late(1, n), 0, 21);
        one.illegalArgument("late(0, #) without versions", (room, n) -> room.late(0, n), 0, 21);
        ready.illegalArgument("late(0, #) of one that comes today", (room, n) -> room.late(0, n), 0, 21);
        Twins came = new Twins(check, () -> comesOnDay30(31));
        came.illegalArgument("late(0, #) of one that came", (room, n) -> room.late(0, n), 0, 21);
    }

    private static void rightsOfNoSuchAsset() {
        check.promise("5: throws IndexOutOfBoundsException if there is no such ASSET");
        none.outOfBounds("rights(#, 1, 0, 9) of none", (room, n) -> room.rights(n, 1, 0, 9), MIN, -1, 0, 1, MAX);
        ready.taken("rights(0, 1, 0, 9) of one", 15, (room, n) -> room.rights(0, 1, 0, 9), 0);
        ready.outOfBounds("rights(#, 1, 0, 9) of one", (room, n) -> room.rights(n, 1, 0, 9), MIN, -1, 1, 15, MAX);
        full.taken("rights(#, 1, 0, 9) of 16", 15, (room, n) -> room.rights(n, 1, 0, 9), 0, 15);
        full.outOfBounds("rights(#, 1, 0, 9) of 16", (room, n) -> room.rights(n, 1, 0, 9), -1, 16);
    }

    private static void rightsLands() {
        check.promise("5: throws IllegalArgumentException if lands is not 0 to 15");
        ready.taken("rights(0, #, 0, 9)", 15, (room, n) -> room.rights(0, n, 0, 9), 0, 1, 14, 15);
        ready.illegalArgument("rights(0, #, 0, 9)", (room, n) -> room.rights(0, n, 0, 9), MIN, -1, 16, 17, MAX);
    }

    private static void rightsDays() {
        check.promise("5: throws IllegalArgumentException if from or to is not 0 to 99");
        ready.taken("rights(0, 1, #, 99)", 15, (room, n) -> room.rights(0, 1, n, 99), 0, 1, 98, 99);
        ready.illegalArgument("rights(0, 1, #, 99)", (room, n) -> room.rights(0, 1, n, 99), MIN, -1, 100, MAX);
        ready.taken("rights(0, 1, 0, #)", 15, (room, n) -> room.rights(0, 1, 0, n), 0, 1, 98, 99);
        ready.illegalArgument("rights(0, 1, 0, #)", (room, n) -> room.rights(0, 1, 0, n), MIN, -1, 100, MAX);
        ready.illegalArgument("rights(0, 1, #, #)", (room, n) -> room.rights(0, 1, n, n), MIN, -1, 100, MAX);
        Twins last = new Twins(check, () -> Desks.onDay(Desks.ready(), 99));
        last.taken("rights(0, 1, #, #), today is 99", 15, (room, n) -> room.rights(0, 1, n, n), 0, 98, 99);
    }

    private static void rightsToBelowFrom() {
        check.promise("5: throws IllegalArgumentException if to is below from");
        ready.taken("rights(0, 1, 50, #)", 15, (room, n) -> room.rights(0, 1, 50, n), 50, 51);
        ready.illegalArgument("rights(0, 1, 50, #)", (room, n) -> room.rights(0, 1, 50, n), 0, 49);
        ready.illegalArgument("rights(0, 0, 99, #), a set of none", (room, n) -> room.rights(0, 0, 99, n), 0, 98);
    }

    private static void rightsBefore() {
        check.promise("5: returns the set of LANDS before (none, at first)");
        BrandRoom room = Desks.withAssets(16);
        for (int asset = 0; asset < 16; asset++) {
            check.due("rights at first", room.rights(asset, asset, 0, 0), 0);
        }
        for (int asset = 0; asset < 16; asset++) {
            check.due("rights then", room.rights(asset, 15, 99, 99), asset);
        }
    }

    private static void rightsExceptionNamedFirst() {
        check.promise("5: the exception that is named first is thrown");
        one.outOfBounds("rights(1, #, 0, 9)", (room, n) -> room.rights(1, n, 0, 9), -1, 16);
        one.outOfBounds("rights(1, 1, #, 99)", (room, n) -> room.rights(1, 1, n, 99), -1, 100);
        one.outOfBounds("rights(1, 1, 5, #)", (room, n) -> room.rights(1, 1, 5, n), -1, 4, 100);
    }

    private static void versionOnOfNoSuchAsset() {
        check.promise("6: throws IndexOutOfBoundsException if there is no such ASSET");
        none.outOfBounds("versionOn(#, 0) of none", (room, n) -> room.versionOn(n, 0), MIN, -1, 0, 1, MAX);
        ready.outOfBounds("versionOn(#, 0) of one", (room, n) -> room.versionOn(n, 0), MIN, -1, 1, 15, 16, MAX);
        full.taken("versionOn(#, 3) of 16", 3, (room, n) -> room.versionOn(n, 3), 0, 15);
        full.outOfBounds("versionOn(#, 3) of 16", (room, n) -> room.versionOn(n, 3), -1, 16);
    }

    private static void versionOnDay() {
        check.promise("6: throws IllegalArgumentException if day is not 0 to 99");
        ready.taken("versionOn(0, #)", 0, (room, n) -> room.versionOn(0, n), 0, 1, 98, 99);
        ready.illegalArgument("versionOn(0, #)", (room, n) -> room.versionOn(0, n), MIN, -1, 100, MAX);
        fiveOnDay40.taken("versionOn(0, #), gone by", -1, (room, n) -> room.versionOn(0, n), 0, 39);
        fiveOnDay40.illegalArgument("versionOn(0, #)", (room, n) -> room.versionOn(0, n), -1, 100);
    }

    private static void versionOnWithoutOne() {
        check.promise("6: returns its VERSION on that; NONE without one");
        one.taken("versionOn(0, #) without versions", -1, (room, n) -> room.versionOn(0, n), 0, 50, 99);
        BrandRoom room = Desks.withAssets(2);
        room.version(0, 99);
        room.version(1, 1);
        check.due("versionOn(0, 98), a day ahead of the first", room.versionOn(0, 98), -1);
        check.due("versionOn(0, 99)", room.versionOn(0, 99), 0);
        check.due("versionOn(1, 0), a day ahead of the first", room.versionOn(1, 0), -1);
        check.due("versionOn(1, 1)", room.versionOn(1, 1), 0);
    }

    private static void versionOnExceptionNamedFirst() {
        check.promise("6: the exception that is named first is thrown");
        ready.outOfBounds("versionOn(1, #)", (room, n) -> room.versionOn(1, n), -1, 100);
        ready.outOfBounds("versionOn(-1, #)", (room, n) -> room.versionOn(-1, n), -1, 100);
    }

    private static void hasRightsOfNoSuchAsset() {
        check.promise("7: throws IndexOutOfBoundsException if there is no such ASSET");
        none.outOfBounds("hasRights(#, 0, 0) of none", (room, n) -> bit(room.hasRights(n, 0, 0)), -1, 0, 1);
        ready.outOfBounds("hasRights(#, 0, 0) of one", (room, n) -> bit(room.hasRights(n, 0, 0)), MIN, -1, 1, 16, MAX);
        full.taken("hasRights(#, 0, 0) of 16", 1, (room, n) -> bit(room.hasRights(n, 0, 0)), 0, 15);
        full.outOfBounds("hasRights(#, 0, 0) of 16", (room, n) -> bit(room.hasRights(n, 0, 0)), -1, 16);
    }

    private static void hasRightsOfNoSuchLand() {
        check.promise("7: throws IndexOutOfBoundsException if there is no such LAND");
        ready.taken("hasRights(0, #, 0)", 1, (room, n) -> bit(room.hasRights(0, n, 0)), 0, 1, 2, 3);
        ready.outOfBounds("hasRights(0, #, 0)", (room, n) -> bit(room.hasRights(0, n, 0)), MIN, -1, 4, 32, MAX);
    }

    private static void hasRightsDay() {
        check.promise("7: throws IllegalArgumentException if day is not 0 to 99");
        ready.taken("hasRights(0, 0, #)", 1, (room, n) -> bit(room.hasRights(0, 0, n)), 0, 1, 98, 99);
        ready.illegalArgument("hasRights(0, 0, #)", (room, n) -> bit(room.hasRights(0, 0, n)), MIN, -1, 100, MAX);
    }

    private static void hasRightsExceptionNamedFirst() {
        check.promise("7: the exception that is named first is thrown");
        ready.outOfBounds("hasRights(1, 0, #)", (room, n) -> bit(room.hasRights(1, 0, n)), -1, 100);
        ready.outOfBounds("hasRights(0, 4, #)", (room, n) -> bit(room.hasRights(0, 4, n)), -1, 100);
        ready.outOfBounds("hasRights(0, -1, #)", (room, n) -> bit(room.hasRights(0, -1, n)), -1, 100);
    }

    private static int bit(boolean answer) {
        return answer ? 1 : 0;
    }
}
