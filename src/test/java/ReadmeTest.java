import java.io.IOException;
import java.nio.file.DirectoryStream;
import java.nio.file.Files;
import java.nio.file.Path;
import java.util.List;

/** What README.md says of the class and its tests. Run from the project's folder. */
public final class ReadmeTest {
    private static final Check CHECK = new Check();

    private final List<String> lines;
    private int told = 0;

    private ReadmeTest(List<String> lines) {
        this.lines = lines;
    }

    /** The answer stands behind the call, ahead of what is said of it. */
    private void answers(String call, long got) {
        for (String line : lines) {
            int sign = line.indexOf("// ");
            if (line.contains(call + ";") && sign >= 0) {
                String answer = line.substring(sign + 3).split("[: ]")[0];
                CHECK.sameText(call, answer, String.valueOf(got));
                told++;
                return;
            }
        }
        CHECK.same("README.md has " + call, true, false);
    }

    private void example() {
        CHECK.promise("README.md: how to use it");
        ScorePress score = new ScorePress();
        answers("score.setBars(3, 4)", score.setBars(3, 4));
        answers("score.setKey(1)", score.setKey(1));
        int voice = score.addVoice();
        answers("score.addVoice()", voice);
        answers("score.addNote(voice, 4, 0, 4, 0, 4, false)", score.addNote(voice, 4, 0, 4, 0, 4, false));
        answers("score.addNote(voice, 1, 0, 3, 1, 4, false)", score.addNote(voice, 1, 0, 3, 1, 4, false));
        answers("score.element(voice, 1, 7)", score.element(voice, 1, 7));
        answers("score.element(voice, 2, 6)", score.element(voice, 2, 6));
        answers("score.transpose(1, 2)", score.transpose(1, 2));
        answers("score.pitch(voice, 0, 0)", score.pitch(voice, 0, 0));
        answers("score.faults()", score.faults());
        answers("score.events()", score.events());
        answers("score.event(3, 0)", score.event(3, 0));
        answers("score.time(384, 120)", score.time(384, 120));
        long answered = lines.stream().filter(line -> line.matches(".*; +// -?\\d+: .*")).count();
        CHECK.same("the lines with an answer", told, answered);
    }

    private void calls() {
        CHECK.promise("README.md: the calls");
        String all = String.join("\n", lines);
        for (java.lang.reflect.Method m : ScorePress.class.getDeclaredMethods()) {
            if (java.lang.reflect.Modifier.isPublic(m.getModifiers())) {
                CHECK.same("it names " + m.getName(), true, all.contains("`" + m.getName() + "`"));
            }
        }
    }

    private void tests() throws IOException {
        CHECK.promise("README.md: how to run its tests");
        String all = String.join("\n", lines);
        CHECK.same("it names .ci/run", true, all.contains(".ci/run") && Files.isExecutable(Path.of(".ci/run")));
        try (DirectoryStream<Path> found = Files.newDirectoryStream(Path.of("src/test/java"), "*Test.java")) {
            for (Path test : found) {
                String name = test.getFileName().toString().replace(".java", "");
                CHECK.same("it names " + name, true, all.contains("`" + name + "`"));
            }
        }
    }

    public static void main(String[] arguments) throws IOException {
        ReadmeTest readme = new ReadmeTest(Files.readAllLines(Path.of("README.md")));
        readme.example();
        readme.calls();
        readme.tests();
        CHECK.end();
    }
}
