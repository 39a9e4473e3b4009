import java.util.Random;

/** TEXTS drawn at random: streets, years that fit a Model, and texts that are marred. */
final class Drawn {
    private final Random random;

    Drawn(Random random) {
        this.random = random;
    }

    String street(int mostHouses, int mostPersons) {
        StringBuilder s = new StringBuilder();
        int houses = random.nextInt(mostHouses + 1);
        int persons = random.nextInt(mostPersons + 1);
        int told = 0;
        for (int i = 0; i < houses + persons; i++) {
            s.append(blank());
            if (told < houses && (i < houses - 1 || random.nextBoolean() || i - told >= persons)) {
                s.append('h').append(number(random.nextInt(random.nextBoolean() ? 3 : 100)));
                told++;
            } else {
                String home = told == 0 || random.nextInt(5) == 0 ? "-" : "" + random.nextInt(told);
                s.append('p').append(home).append(':').append(number(random.nextInt(13)));
            }
        }
        return cut(s.toString());
    }

    String year(Model model, int items) {
        StringBuilder s = new StringBuilder();
        int keys = model.keys.size();
        int houses = model.costs.size();
        int persons = model.homes.size();
        for (int i = 0; i < items; i++) {
            s.append(blank());
            char letter = "mmmmcgggllliiiixqqf".charAt(random.nextInt(19));
            boolean needsKey = "cgli".indexOf(letter) >= 0;
            if ("mx".indexOf(letter) >= 0 || needsKey && keys == 0) {
                if (houses > 0 && persons > 0) {
                    s.append(letter == 'x' ? "x" : "m").append(random.nextInt(houses));
                    s.append(letter == 'x' ? "" : ">" + number(random.nextInt(persons)));
                    keys += letter == 'x' ? 0 : 1;
                }
            } else if (needsKey) {
                boolean toHouse = letter == 'l' || letter == 'i';
                s.append(letter).append(number(random.nextInt(keys))).append(toHouse ? '@' : '>');
                s.append(toHouse ? "" + random.nextInt(houses) : number(random.nextInt(persons)));
                keys += letter == 'c' ? 1 : 0;
            } else if (persons > 1) {
                int a = random.nextInt(persons);
                s.append(letter).append(number(a)).append('/');
                s.append(number((a + 1 + random.nextInt(persons - 1)) % persons));
            }
        }
        return cut(s.toString());
    }

    /** A text with a sign changed, taken out or put in, or cut short, or as it is. */
    String marred(String text) {
        int i = random.nextInt(text.length() + 1);
        String sign = "" + " hpmcglixqf0123456789:>@/-y".charAt(random.nextInt(27));
        String rest = i < text.length() ? text.substring(i + 1) : "";
        return cut(switch (random.nextInt(5)) {
            case 0 -> text.substring(0, i) + sign + rest;
            case 1 -> text.substring(0, i) + rest;
            case 2 -> text.substring(0, i) + sign + text.substring(i);
            case 3 -> text.substring(0, i);
            default -> text;
        });
    }

    private String blank() {
        return " ".repeat(random.nextInt(4) / 3);
    }

    private String number(int v) {
        return v < 10 && random.nextInt(6) == 0 ? "0" + v : "" + v;
    }

    private static String cut(String text) {
        return text.length() > 120 ? text.substring(0, 120) : text;
    }
}
