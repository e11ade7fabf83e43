import java.io.IOException;
import java.nio.charset.StandardCharsets;
import java.nio.file.Files;
import java.nio.file.Path;
import java.util.ArrayList;
import java.util.List;

// ../shared/DOC.md, word by word from its first to its last: what a test quotes must be the words that come next, and
// calls must be asked behind each quoted sentence, so that none is left without a test.
final class Document {
  private final List<String> words = new ArrayList<>();
  private final List<String> face = new ArrayList<>();
  private int at = 0;
  private int askedBefore = -1;
  private String quoted = "";

  Document(String path) throws IOException {
    boolean inFace = false;
    for (String line : Files.readString(Path.of(path), StandardCharsets.UTF_8).split("\n")) {
      if (line.startsWith("```")) {
        inFace = line.equals("```java");
        continue;
      }
      if (inFace) {
        face.add(line.strip());
        continue;
      }
      for (String word : line.strip().split("\\s+")) if (!word.isEmpty()) words.add(word);
    }
  }

  // The lines of the block that is Java: the public face.
  List<String> face() {
    return face;
  }

  // A heading, or words that promise nothing.
  void tells(String text) {
    for (String word : text.strip().split("\\s+")) {
      String next = at < words.size() ? words.get(at) : "the end";
      if (!next.equals(word)) throw new IllegalStateException("the document says '" + next + "' where a test reads '" + word + "' of '" + text + "'");
      at++;
    }
  }

  // A sentence, or a part of one: the calls behind this one hold to it.
  void says(String text) {
    heldTo();
    tells(text);
    quoted = text;
    askedBefore = Due.asked();
    Due.by(text);
  }

  private void heldTo() {
    if (askedBefore == Due.asked()) throw new IllegalStateException("no call is asked behind '" + quoted + "'");
  }

  void end() {
    heldTo();
    if (at < words.size()) throw new IllegalStateException("no test reads on from '" + words.get(at) + "', word " + at);
  }
}
