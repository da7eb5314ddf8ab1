import java.io.BufferedReader;
import java.io.File;
import java.io.FileReader;
import java.io.IOException;
import java.util.Arrays;

/** Runs whose answers came from a plain model of the document that shares no code with the program. */
final class RecordedRunsTest {
    public static void main(String[] args) throws IOException {
        File[] files = new File("src/test/runs").listFiles();
        if (files == null || files.length == 0) {
            System.out.println("no recorded runs were found");
            System.exit(1);
            return;
        }
        Arrays.sort(files);
        for (File file : files) {
            check(file);
        }
        Checks.finish();
    }

    private static void check(File file) throws IOException {
        IntegerHouse house = new IntegerHouse();
        try (BufferedReader lines = new BufferedReader(new FileReader(file))) {
            int number = 0;
            for (String line = lines.readLine(); line != null; line = lines.readLine()) {
                number++;
                if (line.equals("new")) {
                    house = new IntegerHouse();
                } else {
                    String[] sides = line.split(" = ");
                    Checks.due(file.getName() + ":" + number + " " + sides[0], answer(house, sides[0].split(" ")), sides[1]);
                }
            }
        }
    }

    private static String answer(IntegerHouse house, String[] call) {
        long[] n = new long[call.length - 1];
        for (int k = 0; k < n.length; k++) {
            n[k] = Long.parseLong(call[k + 1]);
        }
        try {
            if (call[0].equals("end")) {
                house.end((int) n[0]);
                return "ok";
            }
            return String.valueOf(number(house, call[0], n));
        } catch (RuntimeException e) {
            return "throws." + e.getClass().getSimpleName();
        }
    }

    private static long number(IntegerHouse house, String call, long[] n) {
        switch (call) {
            case "feed": return house.feed((int) n[0], (int) n[1], (int) n[2], (int) n[3], (int) n[4]);
            case "sync": return house.sync();
            case "cut": return house.cut((int) n[0], (int) n[1]);
            case "start": return house.start();
            case "verify": return house.verify();
            case "octet": return house.octet((int) n[0], (int) n[1]);
            case "poke": return house.poke((int) n[0], (int) n[1], (int) n[2]);
            case "count": return house.count((int) n[0]);
            case "read": return house.read();
            case "fault": return house.fault();
            case "on": return house.on((int) n[0], n[1] == 1);
            case "push": return house.push();
            case "pop": return house.pop();
            case "find": return house.find();
            case "about": return house.about((int) n[0], (int) n[1]);
            case "atom": return house.atom((int) n[0], (int) n[1], (int) n[2]);
            case "print": return house.print((int) n[0]);
            case "printed": return house.printed((int) n[0]);
            case "holds": return house.holds((int) n[0], n[1], n[2], n[3], n[4]);
            case "decide": return house.decide();
            case "follows": return house.follows();
            case "value": return house.value((int) n[0]);
            case "height": return house.height();
            case "extreme": return house.extreme(n[0] == 1);
            case "number": return house.number();
            case "many": return house.many();
            case "core": return house.core();
            case "inCore": return house.inCore((int) n[0]);
            case "alike": return house.alike((int) n[0], (int) n[1]);
            case "places": return house.places();
            case "own": return house.own((int) n[0]);
            case "half": return house.half((int) n[0], (int) n[1]);
            case "takes": return house.takes((int) n[0], (int) n[1]);
            case "relaxed": return house.relaxed();
            case "fraction": return house.fraction((int) n[0]);
            case "search": return house.search((int) n[0], (int) n[1]);
            case "best": return house.best((int) n[0]);
            case "prove": return house.prove();
            case "line": return house.line((int) n[0], (int) n[1]);
            case "bound": return house.bound((int) n[0]);
            case "audit": return house.audit();
            default: throw new IllegalArgumentException("no such call: " + call);
        }
    }
}
