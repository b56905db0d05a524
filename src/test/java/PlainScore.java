import java.util.ArrayList;
import java.util.Comparator;
import java.util.List;

/**
 * The document once more, told as plainly and slowly as it reads: nothing is kept but the elements,
 * and every answer is worked out anew from its definition. RandomRunsTest compares ScorePress with it.
 */
final class PlainScore {
    private static final class Element {
        final int begin;
        final int part;
        final int dots;
        boolean isNote;
        boolean isTied;
        int step;
        int sign;
        int octave;

        Element(int begin, int part, int dots) {
            this.begin = begin;
            this.part = part;
            this.dots = dots;
        }

        int ticks() {
            return ticksOf(part, dots);
        }

        int end() {
            return begin + ticks();
        }

        int tone() {
            return isNote ? toneOf(step, sign, octave) : -1;
        }
    }

    private record Sound(int begin, int end, int tone) {}

    private record Event(int tick, int voice, int tone, int begins) {}

    private final List<List<Element>> voices = new ArrayList<>();
    private int beats = 4;
    private int beatPart = 4;
    private int key = 0;

    private static final int[] PARTS = {1, 2, 4, 8, 16, 32};

    private static int toneOf(int step, int sign, int octave) {
        return 12 * octave + new int[] {0, 2, 4, 5, 7, 9, 11}[step] + sign;
    }

    private static boolean isValue(int part, int dots) {
        boolean isPart = part == 1 || part == 2 || part == 4 || part == 8 || part == 16 || part == 32;
        int mostDots = part == 32 ? 0 : part == 16 ? 1 : 2;
        return isPart && dots >= 0 && dots <= mostDots;
    }

    private static int ticksOf(int part, int dots) {
        int plain = 384 / part;
        return dots == 0 ? plain : dots == 1 ? plain + plain / 2 : plain + plain / 2 + plain / 4;
    }

    private static boolean isPitch(int step, int sign, int octave) {
        return step >= 0 && step <= 6 && sign >= -2 && sign <= 2 && octave >= 0 && octave <= 8
            && toneOf(step, sign, octave) >= 0;
    }

    private int barTicks() {
        return beats * 384 / beatPart;
    }

    private int bar(Element e) {
        return e.begin / barTicks();
    }

    private int beat(Element e) {
        return e.begin % barTicks() / (384 / beatPart);
    }

    private static int end(List<Element> voice) {
        return voice.isEmpty() ? 0 : voice.get(voice.size() - 1).end();
    }

    private static int keySign(int key, int step) {
        char name = "CDEFGAB".charAt(step);
        if (key > 0 && "FCGDAEB".substring(0, key).indexOf(name) >= 0) {
            return 1;
        }
        return key < 0 && "BEADGCF".substring(0, -key).indexOf(name) >= 0 ? -1 : 0;
    }

    private List<Element> voiceOf(int voice) {
        if (voice < 0 || voice >= voices.size()) {
            throw new IndexOutOfBoundsException();
        }
        return voices.get(voice);
    }

    private Element elementOf(int voice, int element) {
        List<Element> row = voiceOf(voice);
        if (element < 0 || element >= row.size()) {
            throw new IndexOutOfBoundsException();
        }
        return row.get(element);
    }

    private static void range(int what, int last) {
        if (what < 0 || what > last) {
            throw new IndexOutOfBoundsException();
        }
    }

    int setBars(int newBeats, int part) {
        if (newBeats < 1 || newBeats > 12 || part != 2 && part != 4 && part != 8) {
            throw new IllegalArgumentException();
        }
        for (List<Element> voice : voices) {
            if (!voice.isEmpty()) {
                throw new IllegalStateException();
            }
        }
        beats = newBeats;
        beatPart = part;
        return barTicks();
    }

    int setKey(int newKey) {
        if (newKey < -7 || newKey > 7) {
            throw new IllegalArgumentException();
        }
        int before = key;
        key = newKey;
        return before;
    }

    int addVoice() {
        if (voices.size() == 4) {
            throw new IllegalStateException();
        }
        voices.add(new ArrayList<>());
        return voices.size() - 1;
    }

    int score(int what) {
        range(what, 4);
        int greatestEnd = 0;
        List<Integer> begun = new ArrayList<>();
        for (List<Element> voice : voices) {
            for (Element e : voice) {
                greatestEnd = Math.max(greatestEnd, e.end());
                if (!begun.contains(bar(e))) {
                    begun.add(bar(e));
                }
            }
        }
        return new int[] {voices.size(), barTicks(), key, begun.size(), greatestEnd}[what];
    }

    int sign(int step) {
        if (step < 0 || step > 6) {
            throw new IllegalArgumentException();
        }
        return keySign(key, step);
    }

    int ticks(int part, int dots) {
        if (!isValue(part, dots)) {
            throw new IllegalArgumentException();
        }
        return ticksOf(part, dots);
    }

    private List<Element> write(List<Element> voice, int part, int dots) {
        List<Element> made = new ArrayList<>();
        int begin = end(voice);
        int end = begin + ticksOf(part, dots);
        if (end <= (begin / barTicks() + 1) * barTicks()) {
            made.add(new Element(begin, part, dots));
        } else {
            while (begin < end) {
                int pieceEnd = Math.min(end, (begin / barTicks() + 1) * barTicks());
                while (begin < pieceEnd) {
                    Element greatest = greatestFrom(begin, pieceEnd - begin);
                    made.add(greatest);
                    begin = greatest.end();
                }
            }
        }
        if (voice.size() + made.size() > 200 || end > 100 * barTicks()) {
            throw new IllegalStateException();
        }
        voice.addAll(made);
        return made;
    }

    private static Element greatestFrom(int begin, int left) {
        Element greatest = null;
        for (int part : PARTS) {
            for (int dots = 0; dots <= 2; dots++) {
                if (isValue(part, dots) && ticksOf(part, dots) <= left
                        && (greatest == null || ticksOf(part, dots) > greatest.ticks())) {
                    greatest = new Element(begin, part, dots);
                }
            }
        }
        return greatest;
    }

    int addNote(int voice, int part, int dots, int step, int sign, int octave, boolean isTied) {
        List<Element> row = voiceOf(voice);
        if (!isValue(part, dots) || !isPitch(step, sign, octave)) {
            throw new IllegalArgumentException();
        }
        List<Element> made = write(row, part, dots);
        for (Element e : made) {
            e.isNote = true;
            e.isTied = true;
            e.step = step;
            e.sign = sign;
            e.octave = octave;
        }
        made.get(made.size() - 1).isTied = isTied;
        return made.size();
    }

    int addRest(int voice, int part, int dots) {
        List<Element> row = voiceOf(voice);
        if (!isValue(part, dots)) {
            throw new IllegalArgumentException();
        }
        return write(row, part, dots).size();
    }

    int removeLast(int voice) {
        List<Element> row = voiceOf(voice);
        if (row.isEmpty()) {
            throw new IllegalStateException();
        }
        row.remove(row.size() - 1);
        return row.size();
    }

    boolean tie(int voice, int element, boolean isTied) {
        Element e = elementOf(voice, element);
        if (!e.isNote) {
            throw new IllegalStateException();
        }
        boolean before = e.isTied;
        e.isTied = isTied;
        return before;
    }

    private static boolean isJoined(List<Element> voice, int i) {
        if (i < 0 || i + 1 >= voice.size()) {
            return false;
        }
        Element e = voice.get(i);
        Element next = voice.get(i + 1);
        return e.isNote && e.isTied && next.isNote && e.tone() == next.tone();
    }

    private boolean showsSign(List<Element> voice, int i) {
        Element e = voice.get(i);
        if (!e.isNote || isJoined(voice, i - 1)) {
            return false;
        }
        int holds = keySign(key, e.step);
        for (int k = 0; k < i; k++) {
            Element ahead = voice.get(k);
            if (ahead.isNote && bar(ahead) == bar(e) && ahead.step == e.step && ahead.octave == e.octave) {
                holds = ahead.sign;
            }
        }
        return holds != e.sign;
    }

    private List<List<Integer>> beams(List<Element> voice) {
        List<List<Integer>> groups = new ArrayList<>();
        List<Integer> group = new ArrayList<>();
        for (int i = 0; i < voice.size(); i++) {
            Element e = voice.get(i);
            boolean canBeam = e.isNote && (e.part == 8 || e.part == 16 || e.part == 32);
            if (!group.isEmpty()) {
                Element first = voice.get(group.get(0));
                if (!canBeam || bar(first) != bar(e) || beat(first) != beat(e)) {
                    groups.add(group);
                    group = new ArrayList<>();
                }
            }
            if (canBeam) {
                group.add(i);
            }
        }
        groups.add(group);
        groups.removeIf(g -> g.size() < 2);
        return groups;
    }

    private static List<Sound> sounds(List<Element> voice) {
        List<Sound> found = new ArrayList<>();
        for (int i = 0; i < voice.size(); i++) {
            if (voice.get(i).isNote && !isJoined(voice, i - 1)) {
                int last = i;
                while (isJoined(voice, last)) {
                    last++;
                }
                found.add(new Sound(voice.get(i).begin, voice.get(last).end(), voice.get(i).tone()));
            }
        }
        return found;
    }

    int element(int voice, int element, int what) {
        Element e = elementOf(voice, element);
        range(what, 8);
        List<Element> row = voices.get(voice);
        switch (what) {
            case 0: return e.begin;
            case 1: return e.ticks();
            case 2: return e.part;
            case 3: return e.dots;
            case 4: return e.tone();
            case 5: return e.isNote && e.isTied ? 1 : 0;
            case 6: return bar(e);
            case 7: return showsSign(row, element) ? 1 : 0;
            default:
                List<List<Integer>> beams = beams(row);
                for (int b = 0; b < beams.size(); b++) {
                    if (beams.get(b).contains(element)) {
                        return b;
                    }
                }
                return -1;
        }
    }

    int pitch(int voice, int element, int what) {
        Element e = elementOf(voice, element);
        range(what, 2);
        if (!e.isNote) {
            throw new IllegalStateException();
        }
        return what == 0 ? e.step : what == 1 ? e.sign : e.octave;
    }

    int voice(int voice, int what) {
        List<Element> row = voiceOf(voice);
        range(what, 6);
        int shown = 0;
        int greatest = -1;
        int least = -1;
        for (int i = 0; i < row.size(); i++) {
            Element e = row.get(i);
            shown += showsSign(row, i) ? 1 : 0;
            if (e.isNote) {
                greatest = greatest < 0 || e.tone() > greatest ? e.tone() : greatest;
                least = least < 0 || e.tone() < least ? e.tone() : least;
            }
        }
        switch (what) {
            case 0: return row.size();
            case 1: return end(row);
            case 2: return sounds(row).size();
            case 3: return beams(row).size();
            case 4: return shown;
            case 5: return greatest;
            default: return least;
        }
    }

    int transpose(int steps, int semitones) {
        if (steps < -14 || steps > 14 || semitones < -24 || semitones > 24) {
            throw new IllegalArgumentException();
        }
        int newKey = key + 7 * semitones - 12 * steps;
        boolean fits = Math.abs(newKey) <= 7;
        List<Element> moved = new ArrayList<>();
        for (List<Element> voice : voices) {
            for (Element e : voice) {
                Element to = new Element(0, 4, 0);
                to.step = e.step;
                to.octave = e.octave;
                for (int k = 0; k < Math.abs(steps); k++) {
                    to.step += steps > 0 ? 1 : -1;
                    if (to.step == 7 || to.step == -1) {
                        to.step = to.step == 7 ? 0 : 6;
                        to.octave += steps > 0 ? 1 : -1;
                    }
                }
                to.sign = e.tone() + semitones - toneOf(to.step, 0, to.octave);
                fits &= !e.isNote || isPitch(to.step, to.sign, to.octave);
                moved.add(to);
            }
        }
        if (!fits) {
            throw new IllegalStateException();
        }
        int next = 0;
        for (List<Element> voice : voices) {
            for (Element e : voice) {
                Element to = moved.get(next++);
                if (e.isNote) {
                    e.step = to.step;
                    e.sign = to.sign;
                    e.octave = to.octave;
                }
            }
        }
        key = newKey;
        return key;
    }

    private static Element noteBeginningAt(List<Element> voice, int tick) {
        for (Element e : voice) {
            if (e.isNote && e.begin == tick) {
                return e;
            }
        }
        return null;
    }

    private static int parallels(List<Element> a, List<Element> b) {
        int found = 0;
        Element earlierA = null;
        Element earlierB = null;
        for (Element noteA : a) {
            Element noteB = noteBeginningAt(b, noteA.begin);
            if (!noteA.isNote || noteB == null) {
                continue;
            }
            if (earlierA != null) {
                int now = ((noteB.tone() - noteA.tone()) % 12 + 12) % 12;
                int before = ((earlierB.tone() - earlierA.tone()) % 12 + 12) % 12;
                int moveA = Integer.signum(noteA.tone() - earlierA.tone());
                int moveB = Integer.signum(noteB.tone() - earlierB.tone());
                if (now == before && (now == 0 || now == 7) && moveA == moveB && moveA != 0) {
                    found++;
                }
            }
            earlierA = noteA;
            earlierB = noteB;
        }
        return found;
    }

    int faults() {
        int lastBar = -1;
        for (List<Element> voice : voices) {
            for (Element e : voice) {
                lastBar = Math.max(lastBar, bar(e));
            }
        }
        int found = 0;
        for (int v = 0; v < voices.size(); v++) {
            List<Element> voice = voices.get(v);
            for (int bar = 0; bar <= lastBar; bar++) {
                found += end(voice) < (bar + 1) * barTicks() ? 1 : 0;
            }
            for (int i = 0; i < voice.size(); i++) {
                found += voice.get(i).isNote && voice.get(i).isTied && !isJoined(voice, i) ? 1 : 0;
            }
            for (int w = v + 1; w < voices.size(); w++) {
                found += parallels(voice, voices.get(w));
            }
        }
        return found;
    }

    private static int toneAt(List<Element> voice, int tick) {
        for (Element e : voice) {
            if (e.begin <= tick && e.end() > tick) {
                return e.tone();
            }
        }
        return -1;
    }

    int interval(int a, int b, int tick) {
        List<Element> first = voiceOf(a);
        List<Element> second = voiceOf(b);
        if (tick < 0) {
            throw new IllegalArgumentException();
        }
        int toneA = toneAt(first, tick);
        int toneB = toneAt(second, tick);
        return toneA < 0 || toneB < 0 ? -100 : toneB - toneA;
    }

    private List<Event> eventList() {
        List<Event> found = new ArrayList<>();
        for (int v = 0; v < voices.size(); v++) {
            for (Sound s : sounds(voices.get(v))) {
                found.add(new Event(s.begin(), v, s.tone(), 1));
                found.add(new Event(s.end(), v, s.tone(), 0));
            }
        }
        found.sort(Comparator.comparingInt(Event::tick).thenComparingInt(Event::begins)
            .thenComparingInt(Event::voice));
        return found;
    }

    int event(int index, int what) {
        List<Event> found = eventList();
        range(index, found.size() - 1);
        range(what, 3);
        return numberOf(found.get(index), what);
    }

    private static int numberOf(Event e, int what) {
        return new int[] {e.tick(), e.voice(), e.tone(), e.begins()}[what];
    }

    int events() {
        return eventList().size();
    }

    long time(int tick, int speed) {
        if (tick < 0 || tick > 100000 || speed < 10 || speed > 400) {
            throw new IllegalArgumentException();
        }
        return (long) tick * 625000 / speed;
    }

    double meanTone() {
        long tones = 0;
        long ticks = 0;
        for (List<Element> voice : voices) {
            for (Element e : voice) {
                tones += e.isNote ? (long) e.tone() * e.ticks() : 0;
                ticks += e.isNote ? e.ticks() : 0;
            }
        }
        return ticks == 0 ? 0 : (double) tones / ticks;
    }

    long digest() {
        List<Long> numbers = new ArrayList<>();
        for (int what = 0; what <= 4; what++) {
            numbers.add((long) score(what));
        }
        for (int v = 0; v < voices.size(); v++) {
            for (int what = 0; what <= 6; what++) {
                numbers.add((long) voice(v, what));
            }
            for (int i = 0; i < voices.get(v).size(); i++) {
                for (int what = 0; what <= 8; what++) {
                    numbers.add((long) element(v, i, what));
                }
            }
        }
        numbers.add((long) faults());
        List<Event> found = eventList();
        numbers.add((long) found.size());
        for (Event e : found) {
            for (int what = 0; what <= 3; what++) {
                numbers.add((long) numberOf(e, what));
            }
        }
        long d = 389;
        for (long x : numbers) {
            d = d * 31 + x;
        }
        return d;
    }
}
