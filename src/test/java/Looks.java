import java.util.ArrayList;
import java.util.List;
import java.util.function.Supplier;

/**
 * What a desk answers, in batches: a desk is used for 512 calls at most, so that each batch wants a desk of its own,
 * made with some 200 calls or fewer.
 */
final class Looks {
    static final int BATCHES = 16;

    private static final int[] DAYS = {0, 1, 2, 3, 4, 5, 6, 7, 8, 9, 10, 19, 20, 50, 98, 99};

    private final BrandRoom room;
    private final List<String> answers = new ArrayList<>();

    private Looks(BrandRoom room) {
        this.room = room;
    }

    static List<String> of(BrandRoom room, int batch) {
        Looks looks = new Looks(room);
        int land = batch % 4;
        switch (batch / 4) {
            case 0:
                looks.rights(land);
                break;
            case 1:
                looks.reasons(land);
                break;
            case 2:
                looks.fit(land);
                break;
            default:
                looks.others(land);
                break;
        }
        return looks.answers;
    }

    private void rights(int land) {
        for (int asset = 0; asset < room.many(0); asset++) {
            for (int day : DAYS) {
                add(room.hasRights(asset, land, day) ? 1 : 0);
            }
        }
    }

    private void reasons(int land) {
        for (int piece = 0; piece < room.many(1); piece++) {
            for (int day : DAYS) {
                add(room.reason(piece, land, day));
            }
        }
    }

    private void fit(int land) {
        for (int piece = 0; piece < room.many(1); piece++) {
            for (int day : DAYS) {
                add(room.isFit(piece, land, day) ? 1 : 0);
            }
        }
    }

    private void others(int part) {
        switch (part) {
            case 0:
                versions();
                break;
            case 1:
                places();
                break;
            case 2:
                whatWouldBe();
                break;
            default:
                whatComesOfIt();
                break;
        }
    }

    private void versions() {
        for (int asset = 0; asset < room.many(0); asset++) {
            for (int day : DAYS) {
                add(room.versionOn(asset, day));
            }
        }
    }

    private void places() {
        for (int land = 0; land < 4; land++) {
            for (int medium = 0; medium < 4; medium++) {
                for (int k = 0; k < DAYS.length; k++) {
                    add(room.at(land, medium, DAYS[k]));
                }
            }
        }
    }

    private void whatWouldBe() {
        answers.add("" + room.meanPrice());
        for (int what = 0; what <= 10; what++) {
            add(room.many(what));
        }
        for (int booking = 0; booking < room.many(2); booking++) {
            int asked = booking;
            addTold(() -> room.reachWith(asked));
        }
        for (int days = 1; days <= 30; days++) {
            add(room.lostIn(days));
        }
        add(room.digest());
    }

    /** What earlier calls left behind shows in what later ones answer. */
    private void whatComesOfIt() {
        for (int asset = 0; asset < room.many(0); asset++) {
            int told = asset;
            addTold(() -> room.late(told, 1));
            addTold(() -> room.version(told, 99));
        }
        for (int k = 0; k < 5; k++) {
            addTold(() -> room.day());
            add(room.digest());
        }
        for (int place = 0; place < 16; place++) {
            add(room.groups(place / 4, place % 4, 1 << place % 10));
        }
        for (int land = 0; land < 4; land++) {
            add(room.reach(land));
        }
        for (int asset = 0; asset < room.many(0); asset++) {
            add(room.rights(asset, 15, 0, 99));
        }
        addTold(() -> room.asset());
        addTold(() -> room.piece(0, 1));
        addTold(() -> room.book(0, 0, 0, 97, 97, 1));
        add(room.digest());
    }

    private void add(long answer) {
        answers.add("" + answer);
    }

    private void addTold(Supplier<Integer> call) {
        try {
            answers.add("" + call.get());
        } catch (RuntimeException thrown) {
            answers.add(thrown.getClass().getSimpleName());
        }
    }
}
