/** Promises 1 to 7. */
public final class AssetsTest {
    private static final Check check = new Check("AssetsTest");

    public static void main(String[] args) {
        newObject();
        asset();
        version();
        late();
        lateIsOfTheGreatestNumber();
        rights();
        versionOn();
        hasRights();
        check.end();
    }

    private static void newObject() {
        check.promise("1 A new object");
        BrandRoom room = new BrandRoom();
        for (int what = 0; what <= 10; what++) {
            check.due("many(" + what + ")", room.many(what), 0);
        }
        for (int land = 0; land < 4; land++) {
            check.due("reach", room.reach(land), 0);
            for (int medium = 0; medium < 4; medium++) {
                check.due("at", room.at(land, medium, 0), -1);
                check.due("groups", room.groups(medium, land, 0), 0);
            }
        }
        check.dueDouble("meanPrice", room.meanPrice(), 0.0);
        check.due("digest", room.digest(), -2123161896987681683L);

        BrandRoom other = new BrandRoom();
        other.asset();
        check.due("assets of the first object, as another one has one", room.many(0), 0);
    }

    private static void asset() {
        check.promise("2 asset");
        BrandRoom room = new BrandRoom();
        for (int k = 0; k < 16; k++) {
            check.due("asset()", room.asset(), k);
            check.due("many(0)", room.many(0), k + 1);
            check.due("versionOn(.., 99) of a new one", room.versionOn(k, 99), -1);
        }
        check.illegalState("asset() of 16", room, () -> room.asset());
        check.due("many(0)", room.many(0), 16);
    }

    private static void version() {
        check.promise("3 version");
        BrandRoom room = new BrandRoom();
        check.outOfBounds("version(0, 0) without assets", room, () -> room.version(0, 0));
        room.asset();
        room.asset();
        check.outOfBounds("version(-1, 0)", room, () -> room.version(-1, 0));
        check.outOfBounds("version(2, 0)", room, () -> room.version(2, 0));
        check.outOfBounds("version(2, 100): the asset is told first", room, () -> room.version(2, 100));
        check.outOfBounds("version(MIN, -1)", room, () -> room.version(Integer.MIN_VALUE, -1));
        check.illegalArgument("version(0, -1)", room, () -> room.version(0, -1));
        check.illegalArgument("version(0, 100)", room, () -> room.version(0, 100));

        check.due("version(0, 0)", room.version(0, 0), 0);
        check.due("versionOn(0, 0)", room.versionOn(0, 0), 0);
        check.due("versionOn(1, 99)", room.versionOn(1, 99), -1);
        check.due("version(0, 99)", room.version(0, 99), 1);
        check.due("version(0, 50)", room.version(0, 50), 2);
        check.due("version(1, 7)", room.version(1, 7), 0);

        room.day();
        check.illegalArgument("version(0, 0) on day 1", room, () -> room.version(0, 0));
        check.due("version(0, 1)", room.version(0, 1), 3);
        check.due("version(0, 1)", room.version(0, 1), 4);
        check.illegalArgument("version(0, 100) of 5: the day is told first", room, () -> room.version(0, 100));
        check.illegalArgument("version(0, 0) of 5: the day is told first", room, () -> room.version(0, 0));
        check.illegalState("version(0, 1) of 5", room, () -> room.version(0, 1));
        check.outOfBounds("version(2, 1)", room, () -> room.version(2, 1));
        check.due("version(1, 2)", room.version(1, 2), 1);
    }

    private static void late() {
        check.promise("4 late");
        BrandRoom room = new BrandRoom();
        check.outOfBounds("late(0, 1) without assets", room, () -> room.late(0, 1));
        room.asset();
        check.outOfBounds("late(-1, 1)", room, () -> room.late(-1, 1));
        check.outOfBounds("late(1, 0): the asset is told first", room, () -> room.late(1, 0));
        check.illegalArgument("late(0, 0): days are told ahead of the state", room, () -> room.late(0, 0));
        check.illegalArgument("late(0, 21)", room, () -> room.late(0, 21));
        check.illegalArgument("late(0, -1)", room, () -> room.late(0, -1));
        check.illegalState("late(0, 1) without versions", room, () -> room.late(0, 1));

        room.version(0, 0);
        check.illegalState("late(0, 1) that comes today", room, () -> room.late(0, 1));
        room.version(0, 2);
        check.due("late(0, 1)", room.late(0, 1), 3);
        check.due("versionOn(0, 2)", room.versionOn(0, 2), 0);
        check.due("versionOn(0, 3)", room.versionOn(0, 3), 1);
        room.day();
        room.day();
        check.due("late(0, 20) of day 3, on day 2", room.late(0, 20), 23);
        check.due("late(0, 20)", room.late(0, 20), 43);
        check.due("versionOn(0, 42)", room.versionOn(0, 42), 0);
        check.due("versionOn(0, 43)", room.versionOn(0, 43), 1);

        room.asset();
        room.version(1, 95);
        check.due("late(1, 4)", room.late(1, 4), 99);
        check.due("late(1, 1) of day 99", room.late(1, 1), 99);
        check.due("versionOn(1, 99)", room.versionOn(1, 99), 0);
        check.due("versionOn(1, 98)", room.versionOn(1, 98), -1);
        room.asset();
        room.version(2, 98);
        check.due("late(2, 20)", room.late(2, 20), 99);

        room.asset();
        for (int k = 0; k < 5; k++) {
            room.version(3, 10 + k);
        }
        check.due("late(3, 6) of the fifth version", room.late(3, 6), 20);
        check.due("versionOn(3, 19)", room.versionOn(3, 19), 3);
        check.due("versionOn(3, 20)", room.versionOn(3, 20), 4);
    }

    private static void lateIsOfTheGreatestNumber() {
        BrandRoom room = new BrandRoom();
        room.asset();
        room.version(0, 9);
        room.version(0, 4);
        check.due("late(0, 3)", room.late(0, 3), 7);
        check.due("versionOn(0, 6)", room.versionOn(0, 6), -1);
        check.due("versionOn(0, 7)", room.versionOn(0, 7), 1);
        check.due("versionOn(0, 9)", room.versionOn(0, 9), 1);
        for (int d = 0; d < 7; d++) {
            room.day();
        }
        check.illegalState("late(0, 1): the last one came, another did not", room, () -> room.late(0, 1));
        room.day();
        check.illegalState("late(0, 1): the last one came ahead of today", room, () -> room.late(0, 1));
        check.illegalArgument("late(0, 21) then", room, () -> room.late(0, 21));
    }

    private static void rights() {
        check.promise("5 rights");
        BrandRoom room = new BrandRoom();
        check.outOfBounds("rights(0, 0, 0, 0) without assets", room, () -> room.rights(0, 0, 0, 0));
        room.asset();
        room.asset();
        check.outOfBounds("rights(-1, 0, 0, 0)", room, () -> room.rights(-1, 0, 0, 0));
        check.outOfBounds("rights(2, 16, 5, 4): the asset is told first", room, () -> room.rights(2, 16, 5, 4));
        check.illegalArgument("rights(0, -1, 0, 0)", room, () -> room.rights(0, -1, 0, 0));
        check.illegalArgument("rights(0, 16, 0, 0)", room, () -> room.rights(0, 16, 0, 0));
        check.illegalArgument("rights(0, 1, -1, 0)", room, () -> room.rights(0, 1, -1, 0));
        check.illegalArgument("rights(0, 1, 0, 100)", room, () -> room.rights(0, 1, 0, 100));
        check.illegalArgument("rights(0, 1, 100, 100)", room, () -> room.rights(0, 1, 100, 100));
        check.illegalArgument("rights(0, 1, -5, -2)", room, () -> room.rights(0, 1, -5, -2));
        check.illegalArgument("rights(0, 1, 5, 4)", room, () -> room.rights(0, 1, 5, 4));

        check.due("rights(0, 5, 3, 6)", room.rights(0, 5, 3, 6), 0);
        check.illegalArgument("rights(0, 2, 5, 4)", room, () -> room.rights(0, 2, 5, 4));
        check.due("hasRights(0, 0, 3) after that", room.hasRights(0, 0, 3), true);
        check.due("rights(0, 15, 4, 4)", room.rights(0, 15, 4, 4), 5);
        check.due("hasRights(0, 0, 3)", room.hasRights(0, 0, 3), false);
        check.due("hasRights(0, 3, 4)", room.hasRights(0, 3, 4), true);
        check.due("rights(1, 8, 0, 99)", room.rights(1, 8, 0, 99), 0);
        check.due("rights(0, 0, 0, 99)", room.rights(0, 0, 0, 99), 15);
        check.due("hasRights(0, 3, 4)", room.hasRights(0, 3, 4), false);
        check.due("rights(0, 1, 0, 99)", room.rights(0, 1, 0, 99), 0);
        check.due("rights(1, 0, 0, 0)", room.rights(1, 0, 0, 0), 8);
    }

    private static void versionOn() {
        check.promise("6 versionOn");
        BrandRoom room = new BrandRoom();
        check.outOfBounds("versionOn(0, 0) without assets", room, () -> room.versionOn(0, 0));
        room.asset();
        check.outOfBounds("versionOn(-1, 0)", room, () -> room.versionOn(-1, 0));
        check.outOfBounds("versionOn(1, 100): the asset is told first", room, () -> room.versionOn(1, 100));
        check.illegalArgument("versionOn(0, -1)", room, () -> room.versionOn(0, -1));
        check.illegalArgument("versionOn(0, 100)", room, () -> room.versionOn(0, 100));
        room.version(0, 5);
        room.version(0, 8);
        room.version(0, 3);
        room.version(0, 99);
        check.due("versionOn(0, 0)", room.versionOn(0, 0), -1);
        check.due("versionOn(0, 2)", room.versionOn(0, 2), -1);
        check.due("versionOn(0, 3)", room.versionOn(0, 3), 2);
        check.due("versionOn(0, 5): the greatest number, not the last day", room.versionOn(0, 5), 2);
        check.due("versionOn(0, 98)", room.versionOn(0, 98), 2);
        check.due("versionOn(0, 99)", room.versionOn(0, 99), 3);
        room.version(0, 0);
        check.due("versionOn(0, 0)", room.versionOn(0, 0), 4);
        check.due("versionOn(0, 99)", room.versionOn(0, 99), 4);
    }

    private static void hasRights() {
        check.promise("7 hasRights");
        BrandRoom room = new BrandRoom();
        check.outOfBounds("hasRights(0, 0, 0) without assets", room, () -> room.hasRights(0, 0, 0));
        room.asset();
        check.outOfBounds("hasRights(-1, 0, 0)", room, () -> room.hasRights(-1, 0, 0));
        check.outOfBounds("hasRights(1, 0, 0)", room, () -> room.hasRights(1, 0, 0));
        check.outOfBounds("hasRights(0, -1, 0)", room, () -> room.hasRights(0, -1, 0));
        check.outOfBounds("hasRights(0, 4, 100): the land is told first", room, () -> room.hasRights(0, 4, 100));
        check.outOfBounds("hasRights(1, 0, 100): the asset is told first", room, () -> room.hasRights(1, 0, 100));
        check.illegalArgument("hasRights(0, 0, -1)", room, () -> room.hasRights(0, 0, -1));
        check.illegalArgument("hasRights(0, 0, 100)", room, () -> room.hasRights(0, 0, 100));
        for (int land = 0; land < 4; land++) {
            check.due("hasRights(0, .., 0) at first", room.hasRights(0, land, 0), false);
        }
        room.rights(0, 10, 20, 30);
        for (int land = 0; land < 4; land++) {
            boolean told = land == 1 || land == 3;
            check.due("hasRights on the day ahead of the first", room.hasRights(0, land, 19), false);
            check.due("hasRights on the first day", room.hasRights(0, land, 20), told);
            check.due("hasRights on the last day", room.hasRights(0, land, 30), told);
            check.due("hasRights on the day after the last", room.hasRights(0, land, 31), false);
        }
        room.rights(0, 1, 99, 99);
        check.due("hasRights(0, 0, 99)", room.hasRights(0, 0, 99), true);
        check.due("hasRights(0, 0, 98)", room.hasRights(0, 0, 98), false);
    }
}
