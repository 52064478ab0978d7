import java.io.IOException;
import java.lang.reflect.Method;
import java.lang.reflect.Modifier;
import java.nio.file.Files;
import java.nio.file.Path;

/** What README.md says of the use of the class is so; it is run from the project's root, as .ci/run does. */
public final class ReadmeTest {
    private static String readme = "";

    private ReadmeTest() {
    }

    public static void main(String[] args) throws IOException {
        readme = Files.readString(Path.of("README.md"));
        example();
        primes();
        eachCallIsNamed();
        Check.end();
    }

    private static void example() {
        Secretshares x = new Secretshares();
        shows("new Secretshares();", "the prime is 13, with 7 holders", x.house(1) + " " + x.house(4), "13 7");
        shows("x.hide(0, 2, 11, 5, 7, 0);", "7 shares", x.hide(0, 2, 11, 5, 7, 0), 7);
        shows("x.text(0);", "\"10 10 11 0 3 7 12\"", x.text(0), "10 10 11 0 3 7 12");
        shows("x.open(0, 0b0010101);", "11", x.open(0, 0b0010101), 11);
        shows("x.open(0, 0b0000101);", "-9", x.open(0, 0b0000101), -9);
        shows("x.lose(0, 7);", "12", x.lose(0, 7), 12);
        shows("x.share(0, 7);", "-1", x.share(0, 7), -1);
        shows("x.regain(0, 7, 0b0000111);", "12", x.regain(0, 7, 0b0000111), 12);
        shows("x.give(0, 5, 0);", "3", x.give(0, 5, 0), 3);
        shows("x.fits(0, 5);", "0", x.fits(0, 5), 0);
        shows("x.wrong(0);", "5", x.wrong(0), 5);
        shows("x.mend(0);", "5", x.mend(0), 5);
        Check.due("the right share again", x.text(0), "10 10 11 0 3 7 12");
    }

    /** A line of README.md has that call, and the comment behind it begins so. */
    private static void shows(String call, String comment, Object got, Object want) {
        Check.due(call, got, want);
        boolean isShown = readme.lines().anyMatch(line ->
            line.matches(".*\\Q" + call + "\\E +// \\Q" + comment + "\\E([^0-9].*)?"));
        Check.due("README.md shows " + call + " // " + comment, isShown);
    }

    private static void primes() {
        Secretshares x = new Secretshares();
        StringBuilder all = new StringBuilder();
        for (int which = 0; which <= 6; which++) {
            x.prime(which);
            all.append(which == 0 ? "(" : ", ").append(x.house(1));
        }
        all.append(")");
        Check.due("README.md tells the primes " + all, readme.contains(all));
    }

    private static void eachCallIsNamed() {
        for (Method method : Secretshares.class.getDeclaredMethods()) {
            if (Modifier.isPublic(method.getModifiers())) {
                Check.due("README.md names " + method.getName(), readme.contains("`" + method.getName() + "`"));
            }
        }
    }
}
