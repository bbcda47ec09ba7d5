import java.io.IOException;
import java.nio.file.Files;
import java.nio.file.Path;
import java.util.List;

/** The example in README.md: the comment behind each call begins with the answer that the call gives. */
public final class ReadmeTest {
    private final Check check = new Check("ReadmeTest");
    private final List<String> example;
    private int place;

    private ReadmeTest(List<String> example) {
        this.example = example;
    }

    public static void main(String[] args) throws IOException {
        List<String> readme = Files.readAllLines(Path.of("README.md"));
        int first = readme.indexOf("```java");
        List<String> behind = readme.subList(first + 1, readme.size());
        ReadmeTest test = new ReadmeTest(behind.subList(0, behind.indexOf("```")).stream()
            .filter(line -> line.contains("//")).toList());
        test.makeTheCalls();
        test.check.end();
    }

    private void makeTheCalls() {
        PriceLines x = new PriceLines();
        boolean hadRoom = true;
        for (char c : "a 3*;10%".toCharArray()) {
            hadRoom &= x.unit(c);
        }
        tells("x.unit(c);", hadRoom);
        tells("x.read();", x.read());
        tells("x.run();", x.run());
        tells("x.line(0, 2);", x.line(0, 2));
        tells("x.line(0, 3);", x.line(0, 3));
        x.fact('a', 5, 2);
        tells("x.fact('a', 5, 2);", "now");
        tells("x.cents();", x.cents());
        tells("x.line(0, 0);", x.line(0, 0));
        tells("x.line(0, 1);", x.line(0, 1));
        tells("x.changed('a', 3, 1);", x.changed('a', 3, 1));
        int offer = x.offer(30);
        tells("int offer = x.offer(30);", offer);
        tells("x.currency(10, 3, 2);", x.currency(10, 3, 2));
        tells("x.centsAt(9);", x.centsAt(9));
        tells("x.centsAt(10);", x.centsAt(10));
        int invoice = x.invoice(offer, 12);
        tells("int invoice = x.invoice(offer, 12);", invoice);
        tells("x.left(invoice);", x.left(invoice));
        tells("x.refund(invoice, 200);", x.refund(invoice, 200));
        tells("x.left(invoice);", x.left(invoice));
        tells("x.learn(0, 45);", x.learn(0, 45));
        tells("x.learn(0, 50);", x.learn(0, 50));
        check.equal("calls with a comment in README.md", example.size(), place);
    }

    private void tells(String call, Object answer) {
        String line = place < example.size() ? example.get(place).trim() : "";
        String comment = line.substring(line.indexOf("//") + 2).trim();
        check.isTrue("README.md, call " + place + ": " + call + " // " + answer,
            line.startsWith(call) && comment.split("[ :,;]")[0].equals(answer.toString()));
        place++;
    }
}
