import java.util.List;
import java.util.function.Function;

/** All that can be seen of an object, each time within the calls that an object is promised to bear. */
final class Probes {
    static final List<Function<LoveParts, String>> BUT_THE_TAPE =
        List.of(Probes::asItStands, Probes::allUndone, Probes::imagesRestored, Probes::rowsRead);
    static final List<Function<LoveParts, String>> ALL =
        List.of(Probes::asItStands, Probes::allUndone, Probes::imagesRestored, Probes::rowsRead, Probes::tapeAndFault);

    private Probes() {
    }

    private static String asItStands(LoveParts x) {
        StringBuilder s = new StringBuilder("counts");
        for (int what = 0; what <= 7; what++) {
            s.append(' ').append(x.count(what));
        }
        s.append(" king ").append(x.king(0)).append(' ').append(x.king(1)).append(' ').append(x.king(2));
        for (int i = 0; i < x.count(1); i++) {
            s.append(" heir ").append(x.kind(i));
            for (int what = 0; what <= 8; what++) {
                s.append(' ').append(x.heir(i, what));
            }
        }
        s.append(" trace");
        for (int i = 0; i <= 6; i++) {
            s.append(' ').append(x.trace(i));
        }
        return s.toString();
    }

    private static String tapeAndFault(LoveParts x) {
        int length = x.count(8);
        int fault = x.fault();
        // the bytes are seen by where a text behind them has its fault
        Checks.tell(x, ",0,0,0;p0,0;q0,0;");
        return length + " " + fault + " " + x.realm() + " " + x.fault() + " " + x.count(2);
    }

    private static String allUndone(LoveParts x) {
        StringBuilder s = new StringBuilder("undone");
        int heirs = x.count(1);
        int left = x.count(7);
        for (int n = left; n >= 0; n--) {
            s.append(" / ").append(x.undo()).append(' ').append(x.count(4)).append(' ').append(x.king(0)).append(' ')
                .append(x.king(1)).append(' ').append(x.king(2));
            for (int i = 0; i < heirs; i++) {
                s.append(' ').append(x.heir(i, 3)).append(' ').append(x.heir(i, 6));
            }
        }
        return s.toString();
    }

    private static String imagesRestored(LoveParts x) {
        return x.restore(0) + " " + asItStands(x) + " / " + x.restore(1) + " " + asItStands(x);
    }

    /** The size, the lane (by an item that is cut) and three items of each row. */
    private static String rowsRead(LoveParts x) {
        StringBuilder s = new StringBuilder("rows");
        ItemReader.ready(x);
        for (int row = 0; row < 8; row++) {
            s.append(" / ").append(ItemReader.item(x, row, 0)).append(' ').append(ItemReader.item(x, row, 1)).append(' ')
                .append(ItemReader.item(x, row, 39)).append(' ').append(x.set(row, 0, 40000)).append(' ').append(x.drop(row));
        }
        return s.toString();
    }
}
