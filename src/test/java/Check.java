import java.nio.ByteBuffer;
import java.nio.charset.StandardCharsets;
import java.util.Arrays;

/** What the tests share: told texts, answers that are due, exceptions that are due. */
final class Check {
    private static int wrong = 0;
    private static int looked = 0;

    private Check() {
    }

    interface Call {
        long answer();
    }

    static void due(String what, long want, long got) {
        looked++;
        if (got != want) {
            wrong++;
            System.out.println(what + " answered " + got + ", due is " + want);
        }
    }

    static void due(String what, boolean want, boolean got) {
        due(what, want ? 1 : 0, got ? 1 : 0);
    }

    /** kind: the exception's whole class, no other one will do. */
    static void thrown(String what, Class<?> kind, Call call) {
        looked++;
        try {
            long got = call.answer();
            wrong++;
            System.out.println(what + " answered " + got + ", due is " + kind.getSimpleName());
        } catch (RuntimeException e) {
            if (e.getClass() != kind) {
                wrong++;
                System.out.println(what + " threw " + e + ", due is " + kind.getSimpleName());
            }
        }
    }

    static void that(String what, boolean so) {
        looked++;
        if (!so) {
            wrong++;
            System.out.println("not so: " + what);
        }
    }

    /** Feeds a text, blanks behind it. */
    static void feed(TableTower tower, String text) {
        byte[] bytes = text.getBytes(StandardCharsets.ISO_8859_1);
        ByteBuffer buffer = ByteBuffer.wrap(Arrays.copyOf(bytes, (bytes.length + 19) / 20 * 20));
        while (buffer.remaining() > 0) {
            tower.feed(buffer.getInt(), buffer.getInt(), buffer.getInt(), buffer.getInt(), buffer.getInt());
        }
    }

    static int tell(TableTower tower, String text) {
        feed(tower, text);
        return tower.town(text.length());
    }

    static TableTower tower(String text) {
        TableTower tower = new TableTower();
        due("town of " + text, 0, tell(tower, text));
        return tower;
    }

    static void end() {
        System.out.println(looked + " answers looked at, " + wrong + " wrong");
        System.exit(wrong == 0 && looked > 0 ? 0 : 1);
    }
}
