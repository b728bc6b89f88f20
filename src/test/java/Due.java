import java.nio.charset.StandardCharsets;
import java.util.Arrays;
import java.util.NoSuchElementException;

/** What the tests share: texts are fed, answers are held against those that are due. */
final class Due {
  private static int held = 0;
  private static int wrong = 0;
  // The sentence of the document that the answers are held against, where a test is of one sentence.
  private static String sentence = "";

  private Due() {
  }

  static void due(String call, long got, long want) {
    held++;
    if (got != want) {
      wrong++;
      System.out.println(sentence + call + " answered " + got + ", due is " + want);
    }
  }

  /** From here on answers are held against this sentence of a promise (of a term: the promise that shows it). */
  static void edge(int promise, String words) {
    sentence = "Promise " + promise + ", \"" + words + "\": ";
  }

  static void end(String name) {
    System.out.println(name + ": " + held + " answers held, " + wrong + " not as due");
    System.exit(wrong == 0 && held > 0 ? 0 : 1);
  }

  static boolean allWell() {
    return wrong == 0;
  }

  /** The numbers that feed() wants for a text, blanks behind it. */
  static int[] numbers(String text) {
    byte[] bytes = text.getBytes(StandardCharsets.ISO_8859_1);
    byte[] padded = Arrays.copyOf(bytes, (bytes.length + 19) / 20 * 20);
    Arrays.fill(padded, bytes.length, padded.length, (byte) 32);
    int[] numbers = new int[padded.length / 4];
    for (int i = 0; i < padded.length; i++) {
      numbers[i / 4] = numbers[i / 4] << 8 | padded[i] & 255;
    }
    return numbers;
  }

  /** Feeds a text (to an empty tape) and makes it the TEXT. */
  static int tell(GatedDevices x, String text) {
    int[] n = numbers(text);
    for (int i = 0; i < n.length; i += 5) {
      x.feed(n[i], n[i + 1], n[i + 2], n[i + 3], n[i + 4]);
    }
    return x.text(text.length());
  }

  /** A new object with a text that must be without a fault. */
  static GatedDevices with(String text) {
    GatedDevices x = new GatedDevices();
    due("text: " + text, tell(x, text), linesOf(text));
    return x;
  }

  /** Of a text told to a new object: its fault and place; 0 and -1: without. */
  static void fault(String text, int sort, int place) {
    GatedDevices x = new GatedDevices();
    due("text: " + text, tell(x, text), sort == 0 ? linesOf(text) : -1);
    due("fault(0): " + text, x.fault(0), sort);
    due("fault(1): " + text, x.fault(1), place);
  }

  private static int linesOf(String text) {
    return (int) text.chars().filter(sign -> sign == ';').count();
  }

  static int letters(String name) {
    int bits = 0;
    for (int i = 0; i < 6; i++) {
      bits = bits << 5 | (i < name.length() ? name.charAt(i) - 'a' + 1 : 0);
    }
    return bits;
  }

  /** device(), or -101 for an IndexOutOfBoundsException and -102 for a NoSuchElementException. */
  static int device(GatedDevices x, int device, int what) {
    try {
      return x.device(device, what);
    } catch (IndexOutOfBoundsException e) {
      return -101;
    } catch (NoSuchElementException e) {
      return -102;
    }
  }

  /** The row of causes: number and what stands in brackets, one behind the other. */
  static void causes(String when, GatedDevices x, int... row) {
    for (int k = 0; k < row.length / 2; k++) {
      due(when + ": cause(" + k + ")", x.cause(k), row[2 * k]);
      due(when + ": about(" + k + ")", x.about(k), row[2 * k + 1]);
    }
    due(when + ": cause behind the last", x.cause(row.length / 2), -2);
    due(when + ": about behind the last", x.about(row.length / 2), -2);
  }
}
