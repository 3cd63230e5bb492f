import java.util.ArrayList;
import java.util.List;
import java.util.function.Supplier;

/** Calls on desks that are made alike, each on a new one; one that throws is compared with one that was spared it. */
final class Twins {
    /** A call with a number in it; a boolean answers 1 or 0. */
    interface Call {
        long on(BrandRoom room, int number);
    }

    private final Check check;
    private final Supplier<BrandRoom> desks;
    private final List<List<String>> spared = new ArrayList<>();

    Twins(Check check, Supplier<BrandRoom> desks) {
        this.check = check;
        this.desks = desks;
        for (int batch = 0; batch < Looks.BATCHES; batch++) {
            spared.add(Looks.of(desks.get(), batch));
        }
    }

    void outOfBounds(String told, Call call, int... numbers) {
        refused(IndexOutOfBoundsException.class, told, call, numbers);
    }

    void illegalArgument(String told, Call call, int... numbers) {
        refused(IllegalArgumentException.class, told, call, numbers);
    }

    void illegalState(String told, Call call, int... numbers) {
        refused(IllegalStateException.class, told, call, numbers);
    }

    /** The sign # in what is told stands for each of the numbers. */
    private void refused(Class<?> want, String told, Call call, int... numbers) {
        for (int number : numbers) {
            String name = told.replace("#", "" + number);
            for (int batch = 0; batch < Looks.BATCHES; batch++) {
                BrandRoom room = desks.get();
                if (check.dueThrown(name, want, () -> call.on(room, number))) {
                    boolean same = spared.get(batch).equals(Looks.of(room, batch));
                    check.due(name + " changes nothing: same answers", same, true);
                }
            }
        }
    }

    void taken(String told, long want, Call call, int... numbers) {
        for (int number : numbers) {
            String name = told.replace("#", "" + number);
            BrandRoom room = desks.get();
            try {
                check.due(name, call.on(room, number), want);
            } catch (RuntimeException thrown) {
                check.due(name + " threw " + thrown + ": taken", false, true);
            }
        }
    }
}
