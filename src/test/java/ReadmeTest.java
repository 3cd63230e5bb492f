/** The example in README.md, call by call. */
public final class ReadmeTest {
    private static final Check check = new Check("ReadmeTest");

    public static void main(String[] args) {
        check.promise("README.md");
        BrandRoom room = new BrandRoom();
        int picture = room.asset();
        check.due("asset()", picture, 0);
        room.version(picture, 0);
        room.rights(picture, 15, 0, 99);
        int poster = room.piece(0, 1 << picture);
        room.approve(poster, 2);
        room.groups(0, 2, 7);
        int booking = room.book(poster, 2, 0, 1, 4, 50);
        room.day();
        check.due("ofBooking(booking, 10)", room.ofBooking(booking, 10), 1);
        check.due("reach(2)", room.reach(2), 3);
        check.end();
    }
}
