import java.io.IOException;
import java.lang.reflect.Method;
import java.lang.reflect.Modifier;
import java.nio.file.Files;
import java.nio.file.Path;

/** The example of README.md, call by call, with the answers that its comments tell. */
public final class ReadmeTest {
    private static final Due due = new Due("ReadmeTest");

    public static void main(String[] args) throws IOException {
        String readme = Files.readString(Path.of("README.md"));
        example(readme);
        everyCallIsTold(readme);
        due.end();
    }

    private static void shown(String readme, String statement, long got, long want) {
        due.holds("README.md has " + statement, readme.contains(statement + ";"));
        due.is(statement, got, want);
    }

    private static void example(String readme) {
        due.holds("README.md makes an object", readme.contains("WakingPagers net = new WakingPagers();"));
        WakingPagers net = new WakingPagers();
        int ann = net.identity(1234, 1);
        shown(readme, "int ann = net.identity(1234, 1)", ann, 0);
        int pager = net.pager();
        shown(readme, "int pager = net.pager()", pager, 0);
        shown(readme, "net.join(pager, ann)", net.join(pager, ann), 1);
        shown(readme, "net.load(0x68656C6C6FL, 5)", net.load(0x68656C6C6FL, 5), 5);
        shown(readme, "net.call(ann, 3)", net.call(ann, 3), 0);
        shown(readme, "net.transmit(1)", net.transmit(1), 608);
        int before = net.bit(230);
        shown(readme, "net.flip(230)", net.flip(230), 1 - before);
        shown(readme, "net.hear(pager, 0)", net.hear(pager, 0), 1);
        shown(readme, "net.message(pager, 0, 2)", net.message(pager, 0, 2), 5);
        shown(readme, "net.sign(pager, 0, 0)", net.sign(pager, 0, 0), 'h');
        shown(readme, "net.missed(pager, ann)", net.missed(pager, ann), 0);
        shown(readme, "net.count(pager, 1)", net.count(pager, 1), 1);
        shown(readme, "net.desk(ann, 0, 4)", net.desk(ann, 0, 4), 'o');
    }

    private static void everyCallIsTold(String readme) {
        for (Method method : WakingPagers.class.getDeclaredMethods()) {
            if (Modifier.isPublic(method.getModifiers())) {
                due.holds("README.md tells of " + method.getName(), readme.contains("`" + method.getName() + "("));
            }
        }
    }
}
