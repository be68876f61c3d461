import java.io.IOException;
import java.nio.file.Files;
import java.nio.file.Path;
import java.util.Map;
import java.util.TreeMap;

/**
 * The document, sentence by sentence: each is quoted beside calls that would be answered otherwise if it were broken,
 * and no sentence of Terms and of the promises is left unquoted.
 */
public final class EdgesTest {
  private static final Path DOCUMENT = Path.of("../shared/DOC.md");
  private static final int TERMS = 0;
  private static final int PROMISES = 38;

  /** Terms (0) and the promises (1 to 38), as one line each, without headings and the calls' own lines. */
  private static Map<Integer, String> sections() throws IOException {
    Map<Integer, String> all = new TreeMap<>();
    int at = -1;
    for (String line : Files.readAllLines(DOCUMENT)) {
      if (line.startsWith("## ")) {
        at = line.equals("## Terms") ? TERMS : -1;
        if (line.startsWith("## Promise ")) at = Integer.parseInt(line.substring(11, line.indexOf(':')));
      } else if (at >= 0 && !line.startsWith("```") && !line.startsWith("Ahead of the calls")) {
        all.merge(at, " " + line.strip(), String::concat);
      }
    }
    all.replaceAll((section, words) -> words.replaceAll("`[^`]*`:", " ").replaceAll("\\s+", " ").strip());
    return all;
  }

  private static void allQuoted() throws IOException {
    Map<Integer, String> left = sections();
    Map<Integer, String> whole = sections();
    if (whole.size() != PROMISES + 1) Edges.fault("the document has " + whole.size() + " sections");
    for (Edges.Quote q : Edges.QUOTES) {
      boolean isOwn = whole.getOrDefault(q.promise(), "").contains(q.words());
      int section = isOwn ? q.promise() : TERMS;
      int from = whole.get(section).indexOf(q.words());
      if (from < 0) {
        Edges.fault("not in the document: promise " + q.promise() + ", \"" + q.words() + "\"");
        continue;
      }
      StringBuilder rest = new StringBuilder(left.get(section));
      for (int i = from; i < from + q.words().length(); i++) rest.setCharAt(i, '#');
      left.put(section, rest.toString());
    }
    for (Map.Entry<Integer, String> section : left.entrySet()) {
      // the numbers of Terms' four parts are no sentences
      String rest = section.getValue().replaceAll("(^| )[1-4]\\. ", " ").replaceAll("[# ]+", " ").strip();
      if (!rest.isEmpty()) Edges.fault("no edge quotes, of " + (section.getKey() == TERMS ? "Terms" : "promise " + section.getKey()) + ": " + rest);
    }
    for (int promise = 1; promise <= PROMISES; promise++) {
      int number = promise;
      if (Edges.QUOTES.stream().noneMatch(q -> q.promise() == number)) Edges.fault("no edge names promise " + promise);
    }
  }

  public static void main(String[] args) throws IOException {
    AirEdges.all();
    ShoutEdges.all();
    TextEdges.all();
    SecondEdges.all();
    WouldEdges.all();
    RestEdges.all();
    RefusalEdges.all();
    Edges.close();
    allQuoted();
    System.out.println(Edges.QUOTES.size() + " edges, " + Edges.asked() + " answers, " + Edges.wrong() + " not as due");
    if (Edges.wrong() != 0) System.exit(1);
  }
}
