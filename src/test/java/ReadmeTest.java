import java.io.IOException;
import java.nio.file.Files;
import java.nio.file.Path;
import java.util.List;

/** README.md's example: each of its calls, and the answer that it tells of it. */
public final class ReadmeTest {
    private static List<String> lines = List.of();

    public static void main(String[] args) throws IOException {
        lines = Files.readAllLines(Path.of("README.md"));
        PriceEdict x = new PriceEdict();
        int rome = x.town(0);
        dueLine("int rome = x.town(0);", rome + ",");
        int trier = x.town(105);
        dueLine("int trier = x.town(105);", trier + ",");
        x.goods(trier, 2, 60, 150, 20, 12);
        dueLine("x.goods(trier, 2, 60, 150, 20, 12);", "");
        x.stone(7, 0, 0, 4, PriceEdict.NONE);
        dueLine("x.stone(7, 0, 0, 4, PriceEdict.NONE);", "");
        dueLine("x.agree(7, 0, 2);", x.agree(7, 0, 2) + ":");
        x.feed(0x63617020, 0x32203130, 0x303b6361, 0x72726961, 0x67652033);
        dueLine("x.feed(0x63617020, 0x32203130, 0x303b6361, 0x72726961, 0x67652033);", "");
        Check.due("the text has 20 bytes", x.end(20), true);
        dueLine("x.end(20);", "");
        dueLine("x.edict();", x.edict() + ",");
        dueLine("x.cap(trier, 2, false, 10);", x.cap(trier, 2, false, 10) + ":");
        dueLine("x.judge(trier, 2, 131, false, 10);", x.judge(trier, 2, 131, false, 10) + ":");
        x.weeks(4);
        dueLine("x.weeks(4);", "");
        Check.due("TODAY is 28", x.count(0), 28);
        dueLine("x.look(trier, 2, 1);", x.look(trier, 2, 1) + ":");
        dueLine("x.buys(trier, 2, 1000);", x.buys(trier, 2, 1000) + ":");
        Check.end();
    }

    /** That README.md has a line with this call, behind which the answer, if there is one, is told first. */
    private static void dueLine(String call, String answer) {
        boolean told = false;
        for (String line : lines) {
            int comment = line.indexOf("// ");
            told |= line.startsWith(call) && comment >= 0 && line.substring(comment + 3).startsWith(answer);
        }
        Check.due("README.md has " + call + " // " + answer, told, true);
    }
}
