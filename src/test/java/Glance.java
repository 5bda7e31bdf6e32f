import java.util.ArrayList;
import java.util.List;

/** The calls that tell all that can be seen of a kernel at one moment. */
final class Glance {
    private static final List<Call> CALLS = new ArrayList<>();

    static {
        for (int t = 0; t < 8; t++) {
            for (int what = 0; what < 6; what++) {
                CALLS.add(Call.of(Call.Kind.TELL, t, what));
            }
        }
        for (int m = 0; m < 4; m++) {
            CALLS.add(Call.of(Call.Kind.OWNER, m));
        }
        for (int what = 0; what < 6; what++) {
            CALLS.add(Call.of(Call.Kind.COUNT, what));
        }
        CALLS.add(Call.of(Call.Kind.RUNNING));
    }

    private Glance() {
    }

    static List<Call> calls() {
        return CALLS;
    }
}
