def wsX6_init : List Cond := .code yX6_init cX6_init 1 none :: ([.methodLink RX6 1 objectInit, .instanceMethod objectInit, .code objectInit ⟨#[0xb1]⟩ 1 none, .arrayClass .int, .fieldLink RX6 7 "BorderHarpModel" "now" "[I", .fieldLink RX6 13 "BorderHarpModel" "kept" "[I", .arrayClass .boolean, .fieldLink RX6 16 "BorderHarpModel" "isKept" "[Z", .fieldLink RX6 20 "BorderHarpModel" "refused" "[I", .fieldLink RX6 23 "BorderHarpModel" "below" "J", .fieldLink RX6 27 "BorderHarpModel" "near" "[I", .fieldLink RX6 30 "BorderHarpModel" "tunes" "[I", .fieldLink RX6 33 "BorderHarpModel" "alike" "[I", .fieldLink RX6 36 "BorderHarpModel" "order" "[I", .fieldLink RX6 39 "BorderHarpModel" "left" "[I", .fieldLink RX6 42 "BorderHarpModel" "bytes" "[I", .fieldLink RX6 45 "BorderHarpModel" "next" "[I", .fieldLink RX6 48 "BorderHarpModel" "values" "[I"] ++ wsX60)
def wsX6_in : List Cond := .code yX6_in cX6_in 6 (some .boolean) :: ([])
def wsX6_bad : List Cond := .code yX6_bad cX6_bad 2 (some .int) :: ([.fieldLink RX6 20 "BorderHarpModel" "refused" "[I"] ++ wsX60)
def wsX6_no : List Cond := .code yX6_no cX6_no 1 (some .int) :: ([.fieldLink RX6 20 "BorderHarpModel" "refused" "[I"] ++ wsX60)
def wsX6_full : List Cond := .code yX6_full cX6_full 1 (some .int) :: ([.fieldLink RX6 20 "BorderHarpModel" "refused" "[I"] ++ wsX60)
def wsX6_bits : List Cond := .code yX6_bits cX6_bits 3 (some .int) :: ([])
def wsX6_line : List Cond := .code yX6_line cX6_line 1 (some .int) :: ([.fieldLink RX6 7 "BorderHarpModel" "now" "[I"] ++ wsX60)
def wsX6_wires : List Cond := .code yX6_wires cX6_wires 1 (some .int) :: ([.fieldLink RX6 7 "BorderHarpModel" "now" "[I"] ++ wsX60)
def wsX6_isPost : List Cond := .code yX6_isPost cX6_isPost 2 (some .boolean) :: ([.methodLink RX6 51 yX6_line, .instanceMethod yX6_line, .selects RX6 yX6_line yX6_line, .initialized RX6, .code yX6_line cX6_line 1 (some .int), .fieldLink RX6 7 "BorderHarpModel" "now" "[I", .methodLink RX6 55 yX6_in, .static yX6_in, .code yX6_in cX6_in 6 (some .boolean)] ++ wsX60)
def wsX6_isWire : List Cond := .code yX6_isWire cX6_isWire 2 (some .boolean) :: ([.methodLink RX6 59 yX6_wires, .instanceMethod yX6_wires, .selects RX6 yX6_wires yX6_wires, .initialized RX6, .code yX6_wires cX6_wires 1 (some .int), .fieldLink RX6 7 "BorderHarpModel" "now" "[I", .methodLink RX6 55 yX6_in, .static yX6_in, .code yX6_in cX6_in 6 (some .boolean)] ++ wsX60)
def wsX6_isMinute : List Cond := .code yX6_isMinute cX6_isMinute 1 (some .boolean) :: ([.constantLong RX6 62 (59), .methodLink RX6 55 yX6_in, .static yX6_in, .initialized RX6, .code yX6_in cX6_in 6 (some .boolean)])
def wsX6_isStep : List Cond := .code yX6_isStep cX6_isStep 1 (some .boolean) :: ([.constantLong RX6 64 (3), .methodLink RX6 55 yX6_in, .static yX6_in, .initialized RX6, .code yX6_in cX6_in 6 (some .boolean)])
def wsX6_begin : List Cond := .code yX6_begin cX6_begin 3 none :: ([])
def wsX6_posts : List Cond := .code yX6_posts cX6_posts 3 (some .int) :: ([.constantLong RX6 66 (2), .constantLong RX6 68 (9), .fieldLink RX6 7 "BorderHarpModel" "now" "[I", .methodLink RX6 55 yX6_in, .static yX6_in, .initialized RX6, .code yX6_in cX6_in 6 (some .boolean), .methodLink RX6 70 yX6_bad, .instanceMethod yX6_bad, .selects RX6 yX6_bad yX6_bad, .code yX6_bad cX6_bad 2 (some .int), .fieldLink RX6 20 "BorderHarpModel" "refused" "[I", .methodLink RX6 51 yX6_line, .instanceMethod yX6_line, .selects RX6 yX6_line yX6_line, .code yX6_line cX6_line 1 (some .int), .methodLink RX6 74 yX6_begin, .static yX6_begin, .code yX6_begin cX6_begin 3 none] ++ wsX60)
def wsX6_wire : List Cond := .code yX6_wire cX6_wire 5 (some .int) :: ([.constantLong RX6 82 (4), .constantLong RX6 84 (11), .fieldLink RX6 7 "BorderHarpModel" "now" "[I", .methodLink RX6 78 yX6_isWire, .instanceMethod yX6_isWire, .selects RX6 yX6_isWire yX6_isWire, .initialized RX6, .code yX6_isWire cX6_isWire 2 (some .boolean), .methodLink RX6 59 yX6_wires, .instanceMethod yX6_wires, .selects RX6 yX6_wires yX6_wires, .code yX6_wires cX6_wires 1 (some .int), .methodLink RX6 55 yX6_in, .static yX6_in, .code yX6_in cX6_in 6 (some .boolean), .methodLink RX6 70 yX6_bad, .instanceMethod yX6_bad, .selects RX6 yX6_bad yX6_bad, .code yX6_bad cX6_bad 2 (some .int), .fieldLink RX6 20 "BorderHarpModel" "refused" "[I"] ++ wsX60)
def wsX6_frost : List Cond := .code yX6_frost cX6_frost 3 (some .int) :: ([.constantLong RX6 86 (5), .fieldLink RX6 7 "BorderHarpModel" "now" "[I", .methodLink RX6 55 yX6_in, .static yX6_in, .initialized RX6, .code yX6_in cX6_in 6 (some .boolean), .methodLink RX6 70 yX6_bad, .instanceMethod yX6_bad, .selects RX6 yX6_bad yX6_bad, .code yX6_bad cX6_bad 2 (some .int), .fieldLink RX6 20 "BorderHarpModel" "refused" "[I"] ++ wsX60)
def wsX6_guard : List Cond := .code yX6_guard cX6_guard 3 (some .int) :: ([.fieldLink RX6 7 "BorderHarpModel" "now" "[I", .methodLink RX6 88 yX6_isPost, .instanceMethod yX6_isPost, .selects RX6 yX6_isPost yX6_isPost, .initialized RX6, .code yX6_isPost cX6_isPost 2 (some .boolean), .methodLink RX6 51 yX6_line, .instanceMethod yX6_line, .selects RX6 yX6_line yX6_line, .code yX6_line cX6_line 1 (some .int), .methodLink RX6 55 yX6_in, .static yX6_in, .code yX6_in cX6_in 6 (some .boolean), .methodLink RX6 70 yX6_bad, .instanceMethod yX6_bad, .selects RX6 yX6_bad yX6_bad, .code yX6_bad cX6_bad 2 (some .int), .fieldLink RX6 20 "BorderHarpModel" "refused" "[I", .methodLink RX6 91 yX6_no, .instanceMethod yX6_no, .selects RX6 yX6_no yX6_no, .code yX6_no cX6_no 1 (some .int)] ++ wsX60)
def wsX6_layWind : List Cond := .code yX6_layWind cX6_layWind 4 none :: ([])
def wsX6_wind_r1 : List Cond := [Cond.fieldLink RX6 7 "BorderHarpModel" "now" "[I", Cond.methodLink RX6 94 yX6_isMinute, Cond.static yX6_isMinute, Cond.initialized RX6, Cond.code yX6_isMinute cX6_isMinute 1 (some .boolean), Cond.constantLong RX6 62 (59), Cond.methodLink RX6 55 yX6_in, Cond.static yX6_in, Cond.code yX6_in cX6_in 6 (some .boolean), Cond.methodLink RX6 78 yX6_isWire, Cond.instanceMethod yX6_isWire, Cond.selects RX6 yX6_isWire yX6_isWire, Cond.code yX6_isWire cX6_isWire 2 (some .boolean), Cond.methodLink RX6 59 yX6_wires, Cond.instanceMethod yX6_wires, Cond.selects RX6 yX6_wires yX6_wires, Cond.code yX6_wires cX6_wires 1 (some .int), Cond.methodLink RX6 70 yX6_bad, Cond.instanceMethod yX6_bad, Cond.selects RX6 yX6_bad yX6_bad, Cond.code yX6_bad cX6_bad 2 (some .int), Cond.fieldLink RX6 20 "BorderHarpModel" "refused" "[I", Cond.methodLink RX6 97 yX6_full, Cond.instanceMethod yX6_full]
def wsX6_wind_r2 : List Cond := [Cond.selects RX6 yX6_full yX6_full, Cond.code yX6_full cX6_full 1 (some .int), Cond.methodLink RX6 100 yX6_layWind, Cond.static yX6_layWind, Cond.code yX6_layWind cX6_layWind 4 none]
def wsX6_wind : List Cond := .code yX6_wind cX6_wind 3 (some .int) :: ((wsX6_wind_r1 ++ wsX6_wind_r2) ++ wsX60)
def wsX6_calm : List Cond := .code yX6_calm cX6_calm 2 (some .int) :: ([.fieldLink RX6 7 "BorderHarpModel" "now" "[I"] ++ wsX60)
def wsX6_layPass : List Cond := .code yX6_layPass cX6_layPass 5 none :: ([])
def wsX6_pass_r1 : List Cond := [Cond.fieldLink RX6 7 "BorderHarpModel" "now" "[I", Cond.methodLink RX6 94 yX6_isMinute, Cond.static yX6_isMinute, Cond.initialized RX6, Cond.code yX6_isMinute cX6_isMinute 1 (some .boolean), Cond.constantLong RX6 62 (59), Cond.methodLink RX6 55 yX6_in, Cond.static yX6_in, Cond.code yX6_in cX6_in 6 (some .boolean), Cond.methodLink RX6 78 yX6_isWire, Cond.instanceMethod yX6_isWire, Cond.selects RX6 yX6_isWire yX6_isWire, Cond.code yX6_isWire cX6_isWire 2 (some .boolean), Cond.methodLink RX6 59 yX6_wires, Cond.instanceMethod yX6_wires, Cond.selects RX6 yX6_wires yX6_wires, Cond.code yX6_wires cX6_wires 1 (some .int), Cond.methodLink RX6 104 yX6_isStep, Cond.static yX6_isStep, Cond.code yX6_isStep cX6_isStep 1 (some .boolean), Cond.constantLong RX6 64 (3), Cond.methodLink RX6 70 yX6_bad, Cond.instanceMethod yX6_bad, Cond.selects RX6 yX6_bad yX6_bad]
def wsX6_pass_r2 : List Cond := [Cond.code yX6_bad cX6_bad 2 (some .int), Cond.fieldLink RX6 20 "BorderHarpModel" "refused" "[I", Cond.methodLink RX6 97 yX6_full, Cond.instanceMethod yX6_full, Cond.selects RX6 yX6_full yX6_full, Cond.code yX6_full cX6_full 1 (some .int), Cond.methodLink RX6 107 yX6_layPass, Cond.static yX6_layPass, Cond.code yX6_layPass cX6_layPass 5 none]
def wsX6_pass : List Cond := .code yX6_pass cX6_pass 4 (some .int) :: ((wsX6_pass_r1 ++ wsX6_pass_r2) ++ wsX60)
def wsX6_undo : List Cond := .code yX6_undo cX6_undo 1 (some .int) :: ([.fieldLink RX6 7 "BorderHarpModel" "now" "[I", .methodLink RX6 91 yX6_no, .instanceMethod yX6_no, .selects RX6 yX6_no yX6_no, .initialized RX6, .code yX6_no cX6_no 1 (some .int), .fieldLink RX6 20 "BorderHarpModel" "refused" "[I"] ++ wsX60)
def wsX6_strength : List Cond := .code yX6_strength cX6_strength 1 (some .int) :: ([])
def wsX6_loud : List Cond := .code yX6_loud cX6_loud 3 (some .int) :: ([.fieldLink RX6 7 "BorderHarpModel" "now" "[I"] ++ wsX60)
def wsX6_noteBy : List Cond := .code yX6_noteBy cX6_noteBy 4 (some .int) :: ([])
def wsX6_noteOf : List Cond := .code yX6_noteOf cX6_noteOf 2 (some .int) :: ([.fieldLink RX6 7 "BorderHarpModel" "now" "[I", .methodLink RX6 111 yX6_noteBy, .static yX6_noteBy, .initialized RX6, .code yX6_noteBy cX6_noteBy 4 (some .int)] ++ wsX60)
def wsX6_far : List Cond := .code yX6_far cX6_far 2 (some .int) :: ([])
def wsX6_hears : List Cond := .code yX6_hears cX6_hears 4 (some .boolean) :: ([.methodLink RX6 115 yX6_loud, .instanceMethod yX6_loud, .selects RX6 yX6_loud yX6_loud, .initialized RX6, .code yX6_loud cX6_loud 3 (some .int), .fieldLink RX6 7 "BorderHarpModel" "now" "[I", .methodLink RX6 119 yX6_far, .static yX6_far, .code yX6_far cX6_far 2 (some .int)] ++ wsX60)
def wsX6_sounds_r1 : List Cond := [Cond.constantLong RX6 64 (3), Cond.methodLink RX6 78 yX6_isWire, Cond.instanceMethod yX6_isWire, Cond.selects RX6 yX6_isWire yX6_isWire, Cond.initialized RX6, Cond.code yX6_isWire cX6_isWire 2 (some .boolean), Cond.methodLink RX6 59 yX6_wires, Cond.instanceMethod yX6_wires, Cond.selects RX6 yX6_wires yX6_wires, Cond.code yX6_wires cX6_wires 1 (some .int), Cond.fieldLink RX6 7 "BorderHarpModel" "now" "[I", Cond.methodLink RX6 55 yX6_in, Cond.static yX6_in, Cond.code yX6_in cX6_in 6 (some .boolean), Cond.methodLink RX6 70 yX6_bad, Cond.instanceMethod yX6_bad, Cond.selects RX6 yX6_bad yX6_bad, Cond.code yX6_bad cX6_bad 2 (some .int), Cond.fieldLink RX6 20 "BorderHarpModel" "refused" "[I", Cond.methodLink RX6 115 yX6_loud, Cond.instanceMethod yX6_loud, Cond.selects RX6 yX6_loud yX6_loud, Cond.code yX6_loud cX6_loud 3 (some .int), Cond.methodLink RX6 122 yX6_noteOf]
def wsX6_sounds_r2 : List Cond := [Cond.instanceMethod yX6_noteOf, Cond.selects RX6 yX6_noteOf yX6_noteOf, Cond.code yX6_noteOf cX6_noteOf 2 (some .int), Cond.methodLink RX6 111 yX6_noteBy, Cond.static yX6_noteBy, Cond.code yX6_noteBy cX6_noteBy 4 (some .int)]
def wsX6_sounds : List Cond := .code yX6_sounds cX6_sounds 4 (some .int) :: ((wsX6_sounds_r1 ++ wsX6_sounds_r2) ++ wsX60)
def wsX6_away_r1 : List Cond := [Cond.methodLink RX6 88 yX6_isPost, Cond.instanceMethod yX6_isPost, Cond.selects RX6 yX6_isPost yX6_isPost, Cond.initialized RX6, Cond.code yX6_isPost cX6_isPost 2 (some .boolean), Cond.methodLink RX6 51 yX6_line, Cond.instanceMethod yX6_line, Cond.selects RX6 yX6_line yX6_line, Cond.code yX6_line cX6_line 1 (some .int), Cond.fieldLink RX6 7 "BorderHarpModel" "now" "[I", Cond.methodLink RX6 55 yX6_in, Cond.static yX6_in, Cond.code yX6_in cX6_in 6 (some .boolean), Cond.methodLink RX6 78 yX6_isWire, Cond.instanceMethod yX6_isWire, Cond.selects RX6 yX6_isWire yX6_isWire, Cond.code yX6_isWire cX6_isWire 2 (some .boolean), Cond.methodLink RX6 59 yX6_wires, Cond.instanceMethod yX6_wires, Cond.selects RX6 yX6_wires yX6_wires, Cond.code yX6_wires cX6_wires 1 (some .int), Cond.methodLink RX6 119 yX6_far, Cond.static yX6_far, Cond.code yX6_far cX6_far 2 (some .int)]
def wsX6_away_r2 : List Cond := [Cond.methodLink RX6 70 yX6_bad, Cond.instanceMethod yX6_bad, Cond.selects RX6 yX6_bad yX6_bad, Cond.code yX6_bad cX6_bad 2 (some .int), Cond.fieldLink RX6 20 "BorderHarpModel" "refused" "[I"]
def wsX6_away : List Cond := .code yX6_away cX6_away 3 (some .int) :: ((wsX6_away_r1 ++ wsX6_away_r2) ++ wsX60)
def wsX6_noteAt : List Cond := .code yX6_noteAt cX6_noteAt 4 (some .int) :: ([.methodLink RX6 125 yX6_hears, .instanceMethod yX6_hears, .selects RX6 yX6_hears yX6_hears, .initialized RX6, .code yX6_hears cX6_hears 4 (some .boolean), .methodLink RX6 115 yX6_loud, .instanceMethod yX6_loud, .selects RX6 yX6_loud yX6_loud, .code yX6_loud cX6_loud 3 (some .int), .fieldLink RX6 7 "BorderHarpModel" "now" "[I", .methodLink RX6 119 yX6_far, .static yX6_far, .code yX6_far cX6_far 2 (some .int), .methodLink RX6 122 yX6_noteOf, .instanceMethod yX6_noteOf, .selects RX6 yX6_noteOf yX6_noteOf, .code yX6_noteOf cX6_noteOf 2 (some .int), .methodLink RX6 111 yX6_noteBy, .static yX6_noteBy, .code yX6_noteBy cX6_noteBy 4 (some .int)] ++ wsX60)
def wsX6_notesBy_r1 : List Cond := [Cond.methodLink RX6 129 yX6_strength, Cond.static yX6_strength, Cond.initialized RX6, Cond.code yX6_strength cX6_strength 1 (some .int), Cond.methodLink RX6 132 yX6_noteAt, Cond.instanceMethod yX6_noteAt, Cond.selects RX6 yX6_noteAt yX6_noteAt, Cond.code yX6_noteAt cX6_noteAt 4 (some .int), Cond.methodLink RX6 125 yX6_hears, Cond.instanceMethod yX6_hears, Cond.selects RX6 yX6_hears yX6_hears, Cond.code yX6_hears cX6_hears 4 (some .boolean), Cond.methodLink RX6 115 yX6_loud, Cond.instanceMethod yX6_loud, Cond.selects RX6 yX6_loud yX6_loud, Cond.code yX6_loud cX6_loud 3 (some .int), Cond.fieldLink RX6 7 "BorderHarpModel" "now" "[I", Cond.methodLink RX6 119 yX6_far, Cond.static yX6_far, Cond.code yX6_far cX6_far 2 (some .int), Cond.methodLink RX6 122 yX6_noteOf, Cond.instanceMethod yX6_noteOf, Cond.selects RX6 yX6_noteOf yX6_noteOf, Cond.code yX6_noteOf cX6_noteOf 2 (some .int)]
def wsX6_notesBy_r2 : List Cond := [Cond.methodLink RX6 111 yX6_noteBy, Cond.static yX6_noteBy, Cond.code yX6_noteBy cX6_noteBy 4 (some .int), Cond.methodLink RX6 59 yX6_wires, Cond.instanceMethod yX6_wires, Cond.selects RX6 yX6_wires yX6_wires, Cond.code yX6_wires cX6_wires 1 (some .int)]
def wsX6_notesBy : List Cond := .code yX6_notesBy cX6_notesBy 5 (some .int) :: ((wsX6_notesBy_r1 ++ wsX6_notesBy_r2) ++ wsX60)
def wsX6_heardAt_r1 : List Cond := [Cond.fieldLink RX6 7 "BorderHarpModel" "now" "[I", Cond.methodLink RX6 135 yX6_notesBy, Cond.instanceMethod yX6_notesBy, Cond.selects RX6 yX6_notesBy yX6_notesBy, Cond.initialized RX6, Cond.code yX6_notesBy cX6_notesBy 5 (some .int), Cond.methodLink RX6 129 yX6_strength, Cond.static yX6_strength, Cond.code yX6_strength cX6_strength 1 (some .int), Cond.methodLink RX6 132 yX6_noteAt, Cond.instanceMethod yX6_noteAt, Cond.selects RX6 yX6_noteAt yX6_noteAt, Cond.code yX6_noteAt cX6_noteAt 4 (some .int), Cond.methodLink RX6 125 yX6_hears, Cond.instanceMethod yX6_hears, Cond.selects RX6 yX6_hears yX6_hears, Cond.code yX6_hears cX6_hears 4 (some .boolean), Cond.methodLink RX6 115 yX6_loud, Cond.instanceMethod yX6_loud, Cond.selects RX6 yX6_loud yX6_loud, Cond.code yX6_loud cX6_loud 3 (some .int), Cond.methodLink RX6 119 yX6_far, Cond.static yX6_far, Cond.code yX6_far cX6_far 2 (some .int)]
def wsX6_heardAt_r2 : List Cond := [Cond.methodLink RX6 122 yX6_noteOf, Cond.instanceMethod yX6_noteOf, Cond.selects RX6 yX6_noteOf yX6_noteOf, Cond.code yX6_noteOf cX6_noteOf 2 (some .int), Cond.methodLink RX6 111 yX6_noteBy, Cond.static yX6_noteBy, Cond.code yX6_noteBy cX6_noteBy 4 (some .int), Cond.methodLink RX6 59 yX6_wires, Cond.instanceMethod yX6_wires, Cond.selects RX6 yX6_wires yX6_wires, Cond.code yX6_wires cX6_wires 1 (some .int)]
def wsX6_heardAt : List Cond := .code yX6_heardAt cX6_heardAt 6 (some .int) :: ((wsX6_heardAt_r1 ++ wsX6_heardAt_r2) ++ wsX60)
def wsX6_heard_r1 : List Cond := [Cond.methodLink RX6 88 yX6_isPost, Cond.instanceMethod yX6_isPost, Cond.selects RX6 yX6_isPost yX6_isPost, Cond.initialized RX6, Cond.code yX6_isPost cX6_isPost 2 (some .boolean), Cond.methodLink RX6 51 yX6_line, Cond.instanceMethod yX6_line, Cond.selects RX6 yX6_line yX6_line, Cond.code yX6_line cX6_line 1 (some .int), Cond.fieldLink RX6 7 "BorderHarpModel" "now" "[I", Cond.methodLink RX6 55 yX6_in, Cond.static yX6_in, Cond.code yX6_in cX6_in 6 (some .boolean), Cond.methodLink RX6 94 yX6_isMinute, Cond.static yX6_isMinute, Cond.code yX6_isMinute cX6_isMinute 1 (some .boolean), Cond.constantLong RX6 62 (59), Cond.methodLink RX6 138 yX6_heardAt, Cond.instanceMethod yX6_heardAt, Cond.selects RX6 yX6_heardAt yX6_heardAt, Cond.code yX6_heardAt cX6_heardAt 6 (some .int), Cond.methodLink RX6 135 yX6_notesBy, Cond.instanceMethod yX6_notesBy, Cond.selects RX6 yX6_notesBy yX6_notesBy]
def wsX6_heard_r2 : List Cond := [Cond.code yX6_notesBy cX6_notesBy 5 (some .int), Cond.methodLink RX6 129 yX6_strength, Cond.static yX6_strength, Cond.code yX6_strength cX6_strength 1 (some .int), Cond.methodLink RX6 132 yX6_noteAt, Cond.instanceMethod yX6_noteAt, Cond.selects RX6 yX6_noteAt yX6_noteAt, Cond.code yX6_noteAt cX6_noteAt 4 (some .int), Cond.methodLink RX6 125 yX6_hears, Cond.instanceMethod yX6_hears, Cond.selects RX6 yX6_hears yX6_hears, Cond.code yX6_hears cX6_hears 4 (some .boolean), Cond.methodLink RX6 115 yX6_loud, Cond.instanceMethod yX6_loud, Cond.selects RX6 yX6_loud yX6_loud, Cond.code yX6_loud cX6_loud 3 (some .int), Cond.methodLink RX6 119 yX6_far, Cond.static yX6_far, Cond.code yX6_far cX6_far 2 (some .int), Cond.methodLink RX6 122 yX6_noteOf, Cond.instanceMethod yX6_noteOf, Cond.selects RX6 yX6_noteOf yX6_noteOf, Cond.code yX6_noteOf cX6_noteOf 2 (some .int), Cond.methodLink RX6 111 yX6_noteBy]
def wsX6_heard_r3 : List Cond := [Cond.static yX6_noteBy, Cond.code yX6_noteBy cX6_noteBy 4 (some .int), Cond.methodLink RX6 59 yX6_wires, Cond.instanceMethod yX6_wires, Cond.selects RX6 yX6_wires yX6_wires, Cond.code yX6_wires cX6_wires 1 (some .int), Cond.methodLink RX6 70 yX6_bad, Cond.instanceMethod yX6_bad, Cond.selects RX6 yX6_bad yX6_bad, Cond.code yX6_bad cX6_bad 2 (some .int), Cond.fieldLink RX6 20 "BorderHarpModel" "refused" "[I"]
def wsX6_heard : List Cond := .code yX6_heard cX6_heard 3 (some .int) :: ((wsX6_heard_r1 ++ (wsX6_heard_r2 ++ wsX6_heard_r3)) ++ wsX60)
def wsX6_isGuarded : List Cond := .code yX6_isGuarded cX6_isGuarded 2 (some .boolean) :: ([.fieldLink RX6 7 "BorderHarpModel" "now" "[I"] ++ wsX60)
def wsX6_alarm_r1 : List Cond := [Cond.methodLink RX6 94 yX6_isMinute, Cond.static yX6_isMinute, Cond.initialized RX6, Cond.code yX6_isMinute cX6_isMinute 1 (some .boolean), Cond.constantLong RX6 62 (59), Cond.methodLink RX6 55 yX6_in, Cond.static yX6_in, Cond.code yX6_in cX6_in 6 (some .boolean), Cond.methodLink RX6 70 yX6_bad, Cond.instanceMethod yX6_bad, Cond.selects RX6 yX6_bad yX6_bad, Cond.code yX6_bad cX6_bad 2 (some .int), Cond.fieldLink RX6 20 "BorderHarpModel" "refused" "[I", Cond.methodLink RX6 51 yX6_line, Cond.instanceMethod yX6_line, Cond.selects RX6 yX6_line yX6_line, Cond.code yX6_line cX6_line 1 (some .int), Cond.fieldLink RX6 7 "BorderHarpModel" "now" "[I", Cond.methodLink RX6 141 yX6_isGuarded, Cond.instanceMethod yX6_isGuarded, Cond.selects RX6 yX6_isGuarded yX6_isGuarded, Cond.code yX6_isGuarded cX6_isGuarded 2 (some .boolean), Cond.methodLink RX6 138 yX6_heardAt, Cond.instanceMethod yX6_heardAt]
def wsX6_alarm_r2 : List Cond := [Cond.selects RX6 yX6_heardAt yX6_heardAt, Cond.code yX6_heardAt cX6_heardAt 6 (some .int), Cond.methodLink RX6 135 yX6_notesBy, Cond.instanceMethod yX6_notesBy, Cond.selects RX6 yX6_notesBy yX6_notesBy, Cond.code yX6_notesBy cX6_notesBy 5 (some .int), Cond.methodLink RX6 129 yX6_strength, Cond.static yX6_strength, Cond.code yX6_strength cX6_strength 1 (some .int), Cond.methodLink RX6 132 yX6_noteAt, Cond.instanceMethod yX6_noteAt, Cond.selects RX6 yX6_noteAt yX6_noteAt, Cond.code yX6_noteAt cX6_noteAt 4 (some .int), Cond.methodLink RX6 125 yX6_hears, Cond.instanceMethod yX6_hears, Cond.selects RX6 yX6_hears yX6_hears, Cond.code yX6_hears cX6_hears 4 (some .boolean), Cond.methodLink RX6 115 yX6_loud, Cond.instanceMethod yX6_loud, Cond.selects RX6 yX6_loud yX6_loud, Cond.code yX6_loud cX6_loud 3 (some .int), Cond.methodLink RX6 119 yX6_far, Cond.static yX6_far, Cond.code yX6_far cX6_far 2 (some .int)]
def wsX6_alarm_r3 : List Cond := [Cond.methodLink RX6 122 yX6_noteOf, Cond.instanceMethod yX6_noteOf, Cond.selects RX6 yX6_noteOf yX6_noteOf, Cond.code yX6_noteOf cX6_noteOf 2 (some .int), Cond.methodLink RX6 111 yX6_noteBy, Cond.static yX6_noteBy, Cond.code yX6_noteBy cX6_noteBy 4 (some .int), Cond.methodLink RX6 59 yX6_wires, Cond.instanceMethod yX6_wires, Cond.selects RX6 yX6_wires yX6_wires, Cond.code yX6_wires cX6_wires 1 (some .int)]
def wsX6_alarm : List Cond := .code yX6_alarm cX6_alarm 4 (some .int) :: ((wsX6_alarm_r1 ++ (wsX6_alarm_r2 ++ wsX6_alarm_r3)) ++ wsX60)
def wsX6_which_r1 : List Cond := [Cond.constantLong RX6 144 (4095), Cond.methodLink RX6 88 yX6_isPost, Cond.instanceMethod yX6_isPost, Cond.selects RX6 yX6_isPost yX6_isPost, Cond.initialized RX6, Cond.code yX6_isPost cX6_isPost 2 (some .boolean), Cond.methodLink RX6 51 yX6_line, Cond.instanceMethod yX6_line, Cond.selects RX6 yX6_line yX6_line, Cond.code yX6_line cX6_line 1 (some .int), Cond.fieldLink RX6 7 "BorderHarpModel" "now" "[I", Cond.methodLink RX6 55 yX6_in, Cond.static yX6_in, Cond.code yX6_in cX6_in 6 (some .boolean), Cond.methodLink RX6 70 yX6_bad, Cond.instanceMethod yX6_bad, Cond.selects RX6 yX6_bad yX6_bad, Cond.code yX6_bad cX6_bad 2 (some .int), Cond.fieldLink RX6 20 "BorderHarpModel" "refused" "[I", Cond.methodLink RX6 59 yX6_wires, Cond.instanceMethod yX6_wires, Cond.selects RX6 yX6_wires yX6_wires, Cond.code yX6_wires cX6_wires 1 (some .int), Cond.methodLink RX6 135 yX6_notesBy]
def wsX6_which_r2 : List Cond := [Cond.instanceMethod yX6_notesBy, Cond.selects RX6 yX6_notesBy yX6_notesBy, Cond.code yX6_notesBy cX6_notesBy 5 (some .int), Cond.methodLink RX6 129 yX6_strength, Cond.static yX6_strength, Cond.code yX6_strength cX6_strength 1 (some .int), Cond.methodLink RX6 132 yX6_noteAt, Cond.instanceMethod yX6_noteAt, Cond.selects RX6 yX6_noteAt yX6_noteAt, Cond.code yX6_noteAt cX6_noteAt 4 (some .int), Cond.methodLink RX6 125 yX6_hears, Cond.instanceMethod yX6_hears, Cond.selects RX6 yX6_hears yX6_hears, Cond.code yX6_hears cX6_hears 4 (some .boolean), Cond.methodLink RX6 115 yX6_loud, Cond.instanceMethod yX6_loud, Cond.selects RX6 yX6_loud yX6_loud, Cond.code yX6_loud cX6_loud 3 (some .int), Cond.methodLink RX6 119 yX6_far, Cond.static yX6_far, Cond.code yX6_far cX6_far 2 (some .int), Cond.methodLink RX6 122 yX6_noteOf, Cond.instanceMethod yX6_noteOf, Cond.selects RX6 yX6_noteOf yX6_noteOf]
def wsX6_which_r3 : List Cond := [Cond.code yX6_noteOf cX6_noteOf 2 (some .int), Cond.methodLink RX6 111 yX6_noteBy, Cond.static yX6_noteBy, Cond.code yX6_noteBy cX6_noteBy 4 (some .int)]
def wsX6_which : List Cond := .code yX6_which cX6_which 10 (some .int) :: ((wsX6_which_r1 ++ (wsX6_which_r2 ++ wsX6_which_r3)) ++ wsX60)
def wsX6_isCut : List Cond := .code yX6_isCut cX6_isCut 2 (some .boolean) :: ([.fieldLink RX6 7 "BorderHarpModel" "now" "[I"] ++ wsX60)
def wsX6_covers_r1 : List Cond := [Cond.methodLink RX6 59 yX6_wires, Cond.instanceMethod yX6_wires, Cond.selects RX6 yX6_wires yX6_wires, Cond.initialized RX6, Cond.code yX6_wires cX6_wires 1 (some .int), Cond.fieldLink RX6 7 "BorderHarpModel" "now" "[I", Cond.methodLink RX6 51 yX6_line, Cond.instanceMethod yX6_line, Cond.selects RX6 yX6_line yX6_line, Cond.code yX6_line cX6_line 1 (some .int), Cond.methodLink RX6 125 yX6_hears, Cond.instanceMethod yX6_hears, Cond.selects RX6 yX6_hears yX6_hears, Cond.code yX6_hears cX6_hears 4 (some .boolean), Cond.methodLink RX6 115 yX6_loud, Cond.instanceMethod yX6_loud, Cond.selects RX6 yX6_loud yX6_loud, Cond.code yX6_loud cX6_loud 3 (some .int), Cond.methodLink RX6 119 yX6_far, Cond.static yX6_far, Cond.code yX6_far cX6_far 2 (some .int), Cond.methodLink RX6 146 yX6_isCut, Cond.instanceMethod yX6_isCut, Cond.selects RX6 yX6_isCut yX6_isCut]
def wsX6_covers_r2 : List Cond := [Cond.code yX6_isCut cX6_isCut 2 (some .boolean)]
def wsX6_covers : List Cond := .code yX6_covers cX6_covers 7 (some .boolean) :: ((wsX6_covers_r1 ++ wsX6_covers_r2) ++ wsX60)
def wsX6_cover_r1 : List Cond := [Cond.constantLong RX6 64 (3), Cond.methodLink RX6 55 yX6_in, Cond.static yX6_in, Cond.initialized RX6, Cond.code yX6_in cX6_in 6 (some .boolean), Cond.methodLink RX6 70 yX6_bad, Cond.instanceMethod yX6_bad, Cond.selects RX6 yX6_bad yX6_bad, Cond.code yX6_bad cX6_bad 2 (some .int), Cond.fieldLink RX6 20 "BorderHarpModel" "refused" "[I", Cond.methodLink RX6 51 yX6_line, Cond.instanceMethod yX6_line, Cond.selects RX6 yX6_line yX6_line, Cond.code yX6_line cX6_line 1 (some .int), Cond.fieldLink RX6 7 "BorderHarpModel" "now" "[I", Cond.methodLink RX6 149 yX6_bits, Cond.static yX6_bits, Cond.code yX6_bits cX6_bits 3 (some .int), Cond.methodLink RX6 152 yX6_covers, Cond.instanceMethod yX6_covers, Cond.selects RX6 yX6_covers yX6_covers, Cond.code yX6_covers cX6_covers 7 (some .boolean), Cond.methodLink RX6 59 yX6_wires, Cond.instanceMethod yX6_wires]
def wsX6_cover_r2 : List Cond := [Cond.selects RX6 yX6_wires yX6_wires, Cond.code yX6_wires cX6_wires 1 (some .int), Cond.methodLink RX6 125 yX6_hears, Cond.instanceMethod yX6_hears, Cond.selects RX6 yX6_hears yX6_hears, Cond.code yX6_hears cX6_hears 4 (some .boolean), Cond.methodLink RX6 115 yX6_loud, Cond.instanceMethod yX6_loud, Cond.selects RX6 yX6_loud yX6_loud, Cond.code yX6_loud cX6_loud 3 (some .int), Cond.methodLink RX6 119 yX6_far, Cond.static yX6_far, Cond.code yX6_far cX6_far 2 (some .int), Cond.methodLink RX6 146 yX6_isCut, Cond.instanceMethod yX6_isCut, Cond.selects RX6 yX6_isCut yX6_isCut, Cond.code yX6_isCut cX6_isCut 2 (some .boolean)]
def wsX6_cover : List Cond := .code yX6_cover cX6_cover 5 (some .int) :: ((wsX6_cover_r1 ++ wsX6_cover_r2) ++ wsX60)
def wsX6_together : List Cond := .code yX6_together cX6_together 5 (some .boolean) :: ([.methodLink RX6 51 yX6_line, .instanceMethod yX6_line, .selects RX6 yX6_line yX6_line, .initialized RX6, .code yX6_line cX6_line 1 (some .int), .fieldLink RX6 7 "BorderHarpModel" "now" "[I", .methodLink RX6 125 yX6_hears, .instanceMethod yX6_hears, .selects RX6 yX6_hears yX6_hears, .code yX6_hears cX6_hears 4 (some .boolean), .methodLink RX6 115 yX6_loud, .instanceMethod yX6_loud, .selects RX6 yX6_loud yX6_loud, .code yX6_loud cX6_loud 3 (some .int), .methodLink RX6 119 yX6_far, .static yX6_far, .code yX6_far cX6_far 2 (some .int), .methodLink RX6 146 yX6_isCut, .instanceMethod yX6_isCut, .selects RX6 yX6_isCut yX6_isCut, .code yX6_isCut cX6_isCut 2 (some .boolean)] ++ wsX60)
def wsX6_clashes_r1 : List Cond := [Cond.methodLink RX6 59 yX6_wires, Cond.instanceMethod yX6_wires, Cond.selects RX6 yX6_wires yX6_wires, Cond.initialized RX6, Cond.code yX6_wires cX6_wires 1 (some .int), Cond.fieldLink RX6 7 "BorderHarpModel" "now" "[I", Cond.methodLink RX6 122 yX6_noteOf, Cond.instanceMethod yX6_noteOf, Cond.selects RX6 yX6_noteOf yX6_noteOf, Cond.code yX6_noteOf cX6_noteOf 2 (some .int), Cond.methodLink RX6 111 yX6_noteBy, Cond.static yX6_noteBy, Cond.code yX6_noteBy cX6_noteBy 4 (some .int), Cond.methodLink RX6 156 yX6_together, Cond.instanceMethod yX6_together, Cond.selects RX6 yX6_together yX6_together, Cond.code yX6_together cX6_together 5 (some .boolean), Cond.methodLink RX6 51 yX6_line, Cond.instanceMethod yX6_line, Cond.selects RX6 yX6_line yX6_line, Cond.code yX6_line cX6_line 1 (some .int), Cond.methodLink RX6 125 yX6_hears, Cond.instanceMethod yX6_hears, Cond.selects RX6 yX6_hears yX6_hears]
def wsX6_clashes_r2 : List Cond := [Cond.code yX6_hears cX6_hears 4 (some .boolean), Cond.methodLink RX6 115 yX6_loud, Cond.instanceMethod yX6_loud, Cond.selects RX6 yX6_loud yX6_loud, Cond.code yX6_loud cX6_loud 3 (some .int), Cond.methodLink RX6 119 yX6_far, Cond.static yX6_far, Cond.code yX6_far cX6_far 2 (some .int), Cond.methodLink RX6 146 yX6_isCut, Cond.instanceMethod yX6_isCut, Cond.selects RX6 yX6_isCut yX6_isCut, Cond.code yX6_isCut cX6_isCut 2 (some .boolean)]
def wsX6_clashes : List Cond := .code yX6_clashes cX6_clashes 4 (some .int) :: ((wsX6_clashes_r1 ++ wsX6_clashes_r2) ++ wsX60)
def wsX6_layAlike : List Cond := .code yX6_layAlike cX6_layAlike 8 none :: ([.fieldLink RX6 7 "BorderHarpModel" "now" "[I", .fieldLink RX6 33 "BorderHarpModel" "alike" "[I", .fieldLink RX6 27 "BorderHarpModel" "near" "[I", .methodLink RX6 111 yX6_noteBy, .static yX6_noteBy, .initialized RX6, .code yX6_noteBy cX6_noteBy 4 (some .int)] ++ wsX60)
def wsX6_mayBe : List Cond := .code yX6_mayBe cX6_mayBe 5 (some .int) :: ([.fieldLink RX6 33 "BorderHarpModel" "alike" "[I", .fieldLink RX6 30 "BorderHarpModel" "tunes" "[I", .methodLink RX6 59 yX6_wires, .instanceMethod yX6_wires, .selects RX6 yX6_wires yX6_wires, .initialized RX6, .code yX6_wires cX6_wires 1 (some .int), .fieldLink RX6 7 "BorderHarpModel" "now" "[I"] ++ wsX60)
def wsX6_layOrder : List Cond := .code yX6_layOrder cX6_layOrder 5 (some .int) :: ([.fieldLink RX6 7 "BorderHarpModel" "now" "[I", .fieldLink RX6 36 "BorderHarpModel" "order" "[I", .methodLink RX6 59 yX6_wires, .instanceMethod yX6_wires, .selects RX6 yX6_wires yX6_wires, .initialized RX6, .code yX6_wires cX6_wires 1 (some .int)] ++ wsX60)
def wsX6_lowest : List Cond := .code yX6_lowest cX6_lowest 2 (some .int) :: ([])
def wsX6_canBe : List Cond := .code yX6_canBe cX6_canBe 6 (some .boolean) :: ([.fieldLink RX6 30 "BorderHarpModel" "tunes" "[I", .fieldLink RX6 7 "BorderHarpModel" "now" "[I", .fieldLink RX6 39 "BorderHarpModel" "left" "[I", .fieldLink RX6 36 "BorderHarpModel" "order" "[I", .methodLink RX6 59 yX6_wires, .instanceMethod yX6_wires, .selects RX6 yX6_wires yX6_wires, .initialized RX6, .code yX6_wires cX6_wires 1 (some .int), .methodLink RX6 159 yX6_mayBe, .instanceMethod yX6_mayBe, .selects RX6 yX6_mayBe yX6_mayBe, .code yX6_mayBe cX6_mayBe 5 (some .int), .fieldLink RX6 33 "BorderHarpModel" "alike" "[I", .methodLink RX6 162 yX6_layOrder, .instanceMethod yX6_layOrder, .selects RX6 yX6_layOrder yX6_layOrder, .code yX6_layOrder cX6_layOrder 5 (some .int), .methodLink RX6 165 yX6_lowest, .static yX6_lowest, .code yX6_lowest cX6_lowest 2 (some .int)] ++ wsX60)
def wsX6_retune_r1 : List Cond := [Cond.fieldLink RX6 27 "BorderHarpModel" "near" "[I", Cond.methodLink RX6 59 yX6_wires, Cond.instanceMethod yX6_wires, Cond.selects RX6 yX6_wires yX6_wires, Cond.initialized RX6, Cond.code yX6_wires cX6_wires 1 (some .int), Cond.fieldLink RX6 7 "BorderHarpModel" "now" "[I", Cond.methodLink RX6 156 yX6_together, Cond.instanceMethod yX6_together, Cond.selects RX6 yX6_together yX6_together, Cond.code yX6_together cX6_together 5 (some .boolean), Cond.methodLink RX6 51 yX6_line, Cond.instanceMethod yX6_line, Cond.selects RX6 yX6_line yX6_line, Cond.code yX6_line cX6_line 1 (some .int), Cond.methodLink RX6 125 yX6_hears, Cond.instanceMethod yX6_hears, Cond.selects RX6 yX6_hears yX6_hears, Cond.code yX6_hears cX6_hears 4 (some .boolean), Cond.methodLink RX6 115 yX6_loud, Cond.instanceMethod yX6_loud, Cond.selects RX6 yX6_loud yX6_loud, Cond.code yX6_loud cX6_loud 3 (some .int), Cond.methodLink RX6 119 yX6_far]
def wsX6_retune_r2 : List Cond := [Cond.static yX6_far, Cond.code yX6_far cX6_far 2 (some .int), Cond.methodLink RX6 146 yX6_isCut, Cond.instanceMethod yX6_isCut, Cond.selects RX6 yX6_isCut yX6_isCut, Cond.code yX6_isCut cX6_isCut 2 (some .boolean), Cond.methodLink RX6 168 yX6_layAlike, Cond.instanceMethod yX6_layAlike, Cond.selects RX6 yX6_layAlike yX6_layAlike, Cond.code yX6_layAlike cX6_layAlike 8 none, Cond.fieldLink RX6 33 "BorderHarpModel" "alike" "[I", Cond.methodLink RX6 111 yX6_noteBy, Cond.static yX6_noteBy, Cond.code yX6_noteBy cX6_noteBy 4 (some .int), Cond.methodLink RX6 172 yX6_canBe, Cond.instanceMethod yX6_canBe, Cond.selects RX6 yX6_canBe yX6_canBe, Cond.code yX6_canBe cX6_canBe 6 (some .boolean), Cond.fieldLink RX6 30 "BorderHarpModel" "tunes" "[I", Cond.fieldLink RX6 39 "BorderHarpModel" "left" "[I", Cond.fieldLink RX6 36 "BorderHarpModel" "order" "[I", Cond.methodLink RX6 159 yX6_mayBe, Cond.instanceMethod yX6_mayBe, Cond.selects RX6 yX6_mayBe yX6_mayBe]
def wsX6_retune_r3 : List Cond := [Cond.code yX6_mayBe cX6_mayBe 5 (some .int), Cond.methodLink RX6 162 yX6_layOrder, Cond.instanceMethod yX6_layOrder, Cond.selects RX6 yX6_layOrder yX6_layOrder, Cond.code yX6_layOrder cX6_layOrder 5 (some .int), Cond.methodLink RX6 165 yX6_lowest, Cond.static yX6_lowest, Cond.code yX6_lowest cX6_lowest 2 (some .int), Cond.methodLink RX6 149 yX6_bits, Cond.static yX6_bits, Cond.code yX6_bits cX6_bits 3 (some .int)]
def wsX6_retune : List Cond := .code yX6_retune cX6_retune 4 (some .int) :: ((wsX6_retune_r1 ++ (wsX6_retune_r2 ++ wsX6_retune_r3)) ++ wsX60)
def wsX6_isWindy : List Cond := .code yX6_isWindy cX6_isWindy 5 (some .boolean) :: ([.fieldLink RX6 7 "BorderHarpModel" "now" "[I"] ++ wsX60)
def wsX6_noticed_r1 : List Cond := [Cond.methodLink RX6 175 yX6_isWindy, Cond.instanceMethod yX6_isWindy, Cond.selects RX6 yX6_isWindy yX6_isWindy, Cond.initialized RX6, Cond.code yX6_isWindy cX6_isWindy 5 (some .boolean), Cond.fieldLink RX6 7 "BorderHarpModel" "now" "[I", Cond.methodLink RX6 51 yX6_line, Cond.instanceMethod yX6_line, Cond.selects RX6 yX6_line yX6_line, Cond.code yX6_line cX6_line 1 (some .int), Cond.methodLink RX6 141 yX6_isGuarded, Cond.instanceMethod yX6_isGuarded, Cond.selects RX6 yX6_isGuarded yX6_isGuarded, Cond.code yX6_isGuarded cX6_isGuarded 2 (some .boolean), Cond.methodLink RX6 125 yX6_hears, Cond.instanceMethod yX6_hears, Cond.selects RX6 yX6_hears yX6_hears, Cond.code yX6_hears cX6_hears 4 (some .boolean), Cond.methodLink RX6 115 yX6_loud, Cond.instanceMethod yX6_loud, Cond.selects RX6 yX6_loud yX6_loud, Cond.code yX6_loud cX6_loud 3 (some .int), Cond.methodLink RX6 119 yX6_far, Cond.static yX6_far]
def wsX6_noticed_r2 : List Cond := [Cond.code yX6_far cX6_far 2 (some .int)]
def wsX6_noticed : List Cond := .code yX6_noticed cX6_noticed 6 (some .int) :: ((wsX6_noticed_r1 ++ wsX6_noticed_r2) ++ wsX60)
def wsX6_slip_r1 : List Cond := [Cond.methodLink RX6 55 yX6_in, Cond.static yX6_in, Cond.initialized RX6, Cond.code yX6_in cX6_in 6 (some .boolean), Cond.methodLink RX6 70 yX6_bad, Cond.instanceMethod yX6_bad, Cond.selects RX6 yX6_bad yX6_bad, Cond.code yX6_bad cX6_bad 2 (some .int), Cond.fieldLink RX6 20 "BorderHarpModel" "refused" "[I", Cond.methodLink RX6 59 yX6_wires, Cond.instanceMethod yX6_wires, Cond.selects RX6 yX6_wires yX6_wires, Cond.code yX6_wires cX6_wires 1 (some .int), Cond.fieldLink RX6 7 "BorderHarpModel" "now" "[I", Cond.methodLink RX6 146 yX6_isCut, Cond.instanceMethod yX6_isCut, Cond.selects RX6 yX6_isCut yX6_isCut, Cond.code yX6_isCut cX6_isCut 2 (some .boolean), Cond.methodLink RX6 178 yX6_noticed, Cond.instanceMethod yX6_noticed, Cond.selects RX6 yX6_noticed yX6_noticed, Cond.code yX6_noticed cX6_noticed 6 (some .int), Cond.methodLink RX6 175 yX6_isWindy, Cond.instanceMethod yX6_isWindy]
def wsX6_slip_r2 : List Cond := [Cond.selects RX6 yX6_isWindy yX6_isWindy, Cond.code yX6_isWindy cX6_isWindy 5 (some .boolean), Cond.methodLink RX6 51 yX6_line, Cond.instanceMethod yX6_line, Cond.selects RX6 yX6_line yX6_line, Cond.code yX6_line cX6_line 1 (some .int), Cond.methodLink RX6 141 yX6_isGuarded, Cond.instanceMethod yX6_isGuarded, Cond.selects RX6 yX6_isGuarded yX6_isGuarded, Cond.code yX6_isGuarded cX6_isGuarded 2 (some .boolean), Cond.methodLink RX6 125 yX6_hears, Cond.instanceMethod yX6_hears, Cond.selects RX6 yX6_hears yX6_hears, Cond.code yX6_hears cX6_hears 4 (some .boolean), Cond.methodLink RX6 115 yX6_loud, Cond.instanceMethod yX6_loud, Cond.selects RX6 yX6_loud yX6_loud, Cond.code yX6_loud cX6_loud 3 (some .int), Cond.methodLink RX6 119 yX6_far, Cond.static yX6_far, Cond.code yX6_far cX6_far 2 (some .int)]
def wsX6_slip : List Cond := .code yX6_slip cX6_slip 7 (some .int) :: ((wsX6_slip_r1 ++ wsX6_slip_r2) ++ wsX60)
def wsX6_choose : List Cond := .code yX6_choose cX6_choose 5 (some .long) :: ([])
def wsX6_tell : List Cond := .code yX6_tell cX6_tell 11 (some .int) :: ([.fieldLink RX6 181 "BorderHarpModel" "above" "J", .fieldLink RX6 23 "BorderHarpModel" "below" "J"] ++ wsX60)
def wsX6_deaf : List Cond := .code yX6_deaf cX6_deaf 6 (some .long) :: ([.methodLink RX6 51 yX6_line, .instanceMethod yX6_line, .selects RX6 yX6_line yX6_line, .initialized RX6, .code yX6_line cX6_line 1 (some .int), .fieldLink RX6 7 "BorderHarpModel" "now" "[I", .methodLink RX6 129 yX6_strength, .static yX6_strength, .code yX6_strength cX6_strength 1 (some .int), .methodLink RX6 125 yX6_hears, .instanceMethod yX6_hears, .selects RX6 yX6_hears yX6_hears, .code yX6_hears cX6_hears 4 (some .boolean), .methodLink RX6 115 yX6_loud, .instanceMethod yX6_loud, .selects RX6 yX6_loud yX6_loud, .code yX6_loud cX6_loud 3 (some .int), .methodLink RX6 119 yX6_far, .static yX6_far, .code yX6_far cX6_far 2 (some .int), .methodLink RX6 184 yX6_choose, .static yX6_choose, .code yX6_choose cX6_choose 5 (some .long)] ++ wsX60)
def wsX6_lot_r1 : List Cond := [Cond.methodLink RX6 51 yX6_line, Cond.instanceMethod yX6_line, Cond.selects RX6 yX6_line yX6_line, Cond.initialized RX6, Cond.code yX6_line cX6_line 1 (some .int), Cond.fieldLink RX6 7 "BorderHarpModel" "now" "[I", Cond.methodLink RX6 55 yX6_in, Cond.static yX6_in, Cond.code yX6_in cX6_in 6 (some .boolean), Cond.methodLink RX6 78 yX6_isWire, Cond.instanceMethod yX6_isWire, Cond.selects RX6 yX6_isWire yX6_isWire, Cond.code yX6_isWire cX6_isWire 2 (some .boolean), Cond.methodLink RX6 59 yX6_wires, Cond.instanceMethod yX6_wires, Cond.selects RX6 yX6_wires yX6_wires, Cond.code yX6_wires cX6_wires 1 (some .int), Cond.methodLink RX6 104 yX6_isStep, Cond.static yX6_isStep, Cond.code yX6_isStep cX6_isStep 1 (some .boolean), Cond.constantLong RX6 64 (3), Cond.methodLink RX6 70 yX6_bad, Cond.instanceMethod yX6_bad, Cond.selects RX6 yX6_bad yX6_bad]
def wsX6_lot_r2 : List Cond := [Cond.code yX6_bad cX6_bad 2 (some .int), Cond.fieldLink RX6 20 "BorderHarpModel" "refused" "[I", Cond.methodLink RX6 188 yX6_deaf, Cond.instanceMethod yX6_deaf, Cond.selects RX6 yX6_deaf yX6_deaf, Cond.code yX6_deaf cX6_deaf 6 (some .long), Cond.methodLink RX6 129 yX6_strength, Cond.static yX6_strength, Cond.code yX6_strength cX6_strength 1 (some .int), Cond.methodLink RX6 125 yX6_hears, Cond.instanceMethod yX6_hears, Cond.selects RX6 yX6_hears yX6_hears, Cond.code yX6_hears cX6_hears 4 (some .boolean), Cond.methodLink RX6 115 yX6_loud, Cond.instanceMethod yX6_loud, Cond.selects RX6 yX6_loud yX6_loud, Cond.code yX6_loud cX6_loud 3 (some .int), Cond.methodLink RX6 119 yX6_far, Cond.static yX6_far, Cond.code yX6_far cX6_far 2 (some .int), Cond.methodLink RX6 184 yX6_choose, Cond.static yX6_choose, Cond.code yX6_choose cX6_choose 5 (some .long), Cond.methodLink RX6 192 yX6_tell]
def wsX6_lot_r3 : List Cond := [Cond.instanceMethod yX6_tell, Cond.selects RX6 yX6_tell yX6_tell, Cond.code yX6_tell cX6_tell 11 (some .int), Cond.fieldLink RX6 181 "BorderHarpModel" "above" "J", Cond.fieldLink RX6 23 "BorderHarpModel" "below" "J"]
def wsX6_lot : List Cond := .code yX6_lot cX6_lot 4 (some .int) :: ((wsX6_lot_r1 ++ (wsX6_lot_r2 ++ wsX6_lot_r3)) ++ wsX60)
def wsX6_surest_r1 : List Cond := [Cond.constantLong RX6 196 (-1), Cond.methodLink RX6 51 yX6_line, Cond.instanceMethod yX6_line, Cond.selects RX6 yX6_line yX6_line, Cond.initialized RX6, Cond.code yX6_line cX6_line 1 (some .int), Cond.fieldLink RX6 7 "BorderHarpModel" "now" "[I", Cond.methodLink RX6 55 yX6_in, Cond.static yX6_in, Cond.code yX6_in cX6_in 6 (some .boolean), Cond.methodLink RX6 104 yX6_isStep, Cond.static yX6_isStep, Cond.code yX6_isStep cX6_isStep 1 (some .boolean), Cond.constantLong RX6 64 (3), Cond.methodLink RX6 70 yX6_bad, Cond.instanceMethod yX6_bad, Cond.selects RX6 yX6_bad yX6_bad, Cond.code yX6_bad cX6_bad 2 (some .int), Cond.fieldLink RX6 20 "BorderHarpModel" "refused" "[I", Cond.methodLink RX6 59 yX6_wires, Cond.instanceMethod yX6_wires, Cond.selects RX6 yX6_wires yX6_wires, Cond.code yX6_wires cX6_wires 1 (some .int), Cond.methodLink RX6 146 yX6_isCut]
def wsX6_surest_r2 : List Cond := [Cond.instanceMethod yX6_isCut, Cond.selects RX6 yX6_isCut yX6_isCut, Cond.code yX6_isCut cX6_isCut 2 (some .boolean), Cond.methodLink RX6 188 yX6_deaf, Cond.instanceMethod yX6_deaf, Cond.selects RX6 yX6_deaf yX6_deaf, Cond.code yX6_deaf cX6_deaf 6 (some .long), Cond.methodLink RX6 129 yX6_strength, Cond.static yX6_strength, Cond.code yX6_strength cX6_strength 1 (some .int), Cond.methodLink RX6 125 yX6_hears, Cond.instanceMethod yX6_hears, Cond.selects RX6 yX6_hears yX6_hears, Cond.code yX6_hears cX6_hears 4 (some .boolean), Cond.methodLink RX6 115 yX6_loud, Cond.instanceMethod yX6_loud, Cond.selects RX6 yX6_loud yX6_loud, Cond.code yX6_loud cX6_loud 3 (some .int), Cond.methodLink RX6 119 yX6_far, Cond.static yX6_far, Cond.code yX6_far cX6_far 2 (some .int), Cond.methodLink RX6 184 yX6_choose, Cond.static yX6_choose, Cond.code yX6_choose cX6_choose 5 (some .long)]
def wsX6_surest_r3 : List Cond := [Cond.methodLink RX6 192 yX6_tell, Cond.instanceMethod yX6_tell, Cond.selects RX6 yX6_tell yX6_tell, Cond.code yX6_tell cX6_tell 11 (some .int), Cond.fieldLink RX6 181 "BorderHarpModel" "above" "J", Cond.fieldLink RX6 23 "BorderHarpModel" "below" "J"]
def wsX6_surest : List Cond := .code yX6_surest cX6_surest 9 (some .int) :: ((wsX6_surest_r1 ++ (wsX6_surest_r2 ++ wsX6_surest_r3)) ++ wsX60)
def wsX6_whence_r1 : List Cond := [Cond.constantLong RX6 84 (11), Cond.constantLong RX6 64 (3), Cond.methodLink RX6 88 yX6_isPost, Cond.instanceMethod yX6_isPost, Cond.selects RX6 yX6_isPost yX6_isPost, Cond.initialized RX6, Cond.code yX6_isPost cX6_isPost 2 (some .boolean), Cond.methodLink RX6 51 yX6_line, Cond.instanceMethod yX6_line, Cond.selects RX6 yX6_line yX6_line, Cond.code yX6_line cX6_line 1 (some .int), Cond.fieldLink RX6 7 "BorderHarpModel" "now" "[I", Cond.methodLink RX6 55 yX6_in, Cond.static yX6_in, Cond.code yX6_in cX6_in 6 (some .boolean), Cond.methodLink RX6 70 yX6_bad, Cond.instanceMethod yX6_bad, Cond.selects RX6 yX6_bad yX6_bad, Cond.code yX6_bad cX6_bad 2 (some .int), Cond.fieldLink RX6 20 "BorderHarpModel" "refused" "[I", Cond.methodLink RX6 59 yX6_wires, Cond.instanceMethod yX6_wires, Cond.selects RX6 yX6_wires yX6_wires, Cond.code yX6_wires cX6_wires 1 (some .int)]
def wsX6_whence_r2 : List Cond := [Cond.methodLink RX6 122 yX6_noteOf, Cond.instanceMethod yX6_noteOf, Cond.selects RX6 yX6_noteOf yX6_noteOf, Cond.code yX6_noteOf cX6_noteOf 2 (some .int), Cond.methodLink RX6 111 yX6_noteBy, Cond.static yX6_noteBy, Cond.code yX6_noteBy cX6_noteBy 4 (some .int), Cond.methodLink RX6 125 yX6_hears, Cond.instanceMethod yX6_hears, Cond.selects RX6 yX6_hears yX6_hears, Cond.code yX6_hears cX6_hears 4 (some .boolean), Cond.methodLink RX6 115 yX6_loud, Cond.instanceMethod yX6_loud, Cond.selects RX6 yX6_loud yX6_loud, Cond.code yX6_loud cX6_loud 3 (some .int), Cond.methodLink RX6 119 yX6_far, Cond.static yX6_far, Cond.code yX6_far cX6_far 2 (some .int)]
def wsX6_whence : List Cond := .code yX6_whence cX6_whence 6 (some .int) :: ((wsX6_whence_r1 ++ wsX6_whence_r2) ++ wsX60)
def wsX6_pairs : List Cond := .code yX6_pairs cX6_pairs 4 (some .int) :: ([.methodLink RX6 59 yX6_wires, .instanceMethod yX6_wires, .selects RX6 yX6_wires yX6_wires, .initialized RX6, .code yX6_wires cX6_wires 1 (some .int), .fieldLink RX6 7 "BorderHarpModel" "now" "[I", .methodLink RX6 51 yX6_line, .instanceMethod yX6_line, .selects RX6 yX6_line yX6_line, .code yX6_line cX6_line 1 (some .int), .methodLink RX6 125 yX6_hears, .instanceMethod yX6_hears, .selects RX6 yX6_hears yX6_hears, .code yX6_hears cX6_hears 4 (some .boolean), .methodLink RX6 115 yX6_loud, .instanceMethod yX6_loud, .selects RX6 yX6_loud yX6_loud, .code yX6_loud cX6_loud 3 (some .int), .methodLink RX6 119 yX6_far, .static yX6_far, .code yX6_far cX6_far 2 (some .int)] ++ wsX60)
def wsX6_doubled_r1 : List Cond := [Cond.fieldLink RX6 7 "BorderHarpModel" "now" "[I", Cond.methodLink RX6 198 yX6_pairs, Cond.instanceMethod yX6_pairs, Cond.selects RX6 yX6_pairs yX6_pairs, Cond.initialized RX6, Cond.code yX6_pairs cX6_pairs 4 (some .int), Cond.methodLink RX6 59 yX6_wires, Cond.instanceMethod yX6_wires, Cond.selects RX6 yX6_wires yX6_wires, Cond.code yX6_wires cX6_wires 1 (some .int), Cond.methodLink RX6 51 yX6_line, Cond.instanceMethod yX6_line, Cond.selects RX6 yX6_line yX6_line, Cond.code yX6_line cX6_line 1 (some .int), Cond.methodLink RX6 125 yX6_hears, Cond.instanceMethod yX6_hears, Cond.selects RX6 yX6_hears yX6_hears, Cond.code yX6_hears cX6_hears 4 (some .boolean), Cond.methodLink RX6 115 yX6_loud, Cond.instanceMethod yX6_loud, Cond.selects RX6 yX6_loud yX6_loud, Cond.code yX6_loud cX6_loud 3 (some .int), Cond.methodLink RX6 119 yX6_far, Cond.static yX6_far]
def wsX6_doubled_r2 : List Cond := [Cond.code yX6_far cX6_far 2 (some .int)]
def wsX6_doubled : List Cond := .code yX6_doubled cX6_doubled 6 (some .int) :: ((wsX6_doubled_r1 ++ wsX6_doubled_r2) ++ wsX60)
def wsX6_doubt : List Cond := .code yX6_doubt cX6_doubt 4 (some .int) :: ([.constantLong RX6 201 (100), .methodLink RX6 55 yX6_in, .static yX6_in, .initialized RX6, .code yX6_in cX6_in 6 (some .boolean), .methodLink RX6 70 yX6_bad, .instanceMethod yX6_bad, .selects RX6 yX6_bad yX6_bad, .code yX6_bad cX6_bad 2 (some .int), .fieldLink RX6 20 "BorderHarpModel" "refused" "[I", .methodLink RX6 192 yX6_tell, .instanceMethod yX6_tell, .selects RX6 yX6_tell yX6_tell, .code yX6_tell cX6_tell 11 (some .int), .fieldLink RX6 181 "BorderHarpModel" "above" "J", .fieldLink RX6 23 "BorderHarpModel" "below" "J"] ++ wsX60)
def wsX6_type : List Cond := .code yX6_type cX6_type 5 (some .int) :: ([.constantLong RX6 203 (8), .fieldLink RX6 205 "BorderHarpModel" "bytesLong" "I", .fieldLink RX6 42 "BorderHarpModel" "bytes" "[I", .constantLong RX6 209 (255), .methodLink RX6 55 yX6_in, .static yX6_in, .initialized RX6, .code yX6_in cX6_in 6 (some .boolean), .methodLink RX6 70 yX6_bad, .instanceMethod yX6_bad, .selects RX6 yX6_bad yX6_bad, .code yX6_bad cX6_bad 2 (some .int), .fieldLink RX6 20 "BorderHarpModel" "refused" "[I", .methodLink RX6 97 yX6_full, .instanceMethod yX6_full, .selects RX6 yX6_full yX6_full, .code yX6_full cX6_full 1 (some .int)] ++ wsX60)
def wsX6_clear : List Cond := .code yX6_clear cX6_clear 2 (some .int) :: ([.fieldLink RX6 205 "BorderHarpModel" "bytesLong" "I"] ++ wsX60)
def wsX6_isSmall : List Cond := .code yX6_isSmall cX6_isSmall 1 (some .boolean) :: ([.constantLong RX6 211 (97), .constantLong RX6 213 (122), .methodLink RX6 55 yX6_in, .static yX6_in, .initialized RX6, .code yX6_in cX6_in 6 (some .boolean)])
def wsX6_isFigure : List Cond := .code yX6_isFigure cX6_isFigure 1 (some .boolean) :: ([.constantLong RX6 215 (48), .constantLong RX6 217 (57), .methodLink RX6 55 yX6_in, .static yX6_in, .initialized RX6, .code yX6_in cX6_in 6 (some .boolean)])
def wsX6_look : List Cond := .code yX6_look cX6_look 5 none :: ([.fieldLink RX6 219 "BorderHarpModel" "tokenAt" "I", .fieldLink RX6 205 "BorderHarpModel" "bytesLong" "I", .fieldLink RX6 42 "BorderHarpModel" "bytes" "[I", .fieldLink RX6 222 "BorderHarpModel" "tokenLong" "I", .fieldLink RX6 225 "BorderHarpModel" "token" "I", .fieldLink RX6 228 "BorderHarpModel" "value" "I", .methodLink RX6 231 yX6_isSmall, .static yX6_isSmall, .initialized RX6, .code yX6_isSmall cX6_isSmall 1 (some .boolean), .constantLong RX6 211 (97), .constantLong RX6 213 (122), .methodLink RX6 55 yX6_in, .static yX6_in, .code yX6_in cX6_in 6 (some .boolean), .methodLink RX6 234 yX6_isFigure, .static yX6_isFigure, .code yX6_isFigure cX6_isFigure 1 (some .boolean), .constantLong RX6 215 (48), .constantLong RX6 217 (57)] ++ wsX60)
def wsX6_goOn : List Cond := .code yX6_goOn cX6_goOn 1 none :: ([.fieldLink RX6 219 "BorderHarpModel" "tokenAt" "I", .fieldLink RX6 222 "BorderHarpModel" "tokenLong" "I", .methodLink RX6 237 yX6_look, .instanceMethod yX6_look, .selects RX6 yX6_look yX6_look, .initialized RX6, .code yX6_look cX6_look 5 none, .fieldLink RX6 205 "BorderHarpModel" "bytesLong" "I", .fieldLink RX6 42 "BorderHarpModel" "bytes" "[I", .fieldLink RX6 225 "BorderHarpModel" "token" "I", .fieldLink RX6 228 "BorderHarpModel" "value" "I", .methodLink RX6 231 yX6_isSmall, .static yX6_isSmall, .code yX6_isSmall cX6_isSmall 1 (some .boolean), .constantLong RX6 211 (97), .constantLong RX6 213 (122), .methodLink RX6 55 yX6_in, .static yX6_in, .code yX6_in cX6_in 6 (some .boolean), .methodLink RX6 234 yX6_isFigure, .static yX6_isFigure, .code yX6_isFigure cX6_isFigure 1 (some .boolean), .constantLong RX6 215 (48), .constantLong RX6 217 (57)] ++ wsX60)
def wsX6_isWord : List Cond := .code yX6_isWord cX6_isWord 9 (some .boolean) :: ([.fieldLink RX6 225 "BorderHarpModel" "token" "I", .fieldLink RX6 222 "BorderHarpModel" "tokenLong" "I", .fieldLink RX6 42 "BorderHarpModel" "bytes" "[I", .fieldLink RX6 219 "BorderHarpModel" "tokenAt" "I"] ++ wsX60)
def wsX6_takes_r1 : List Cond := [Cond.fieldLink RX6 225 "BorderHarpModel" "token" "I", Cond.fieldLink RX6 228 "BorderHarpModel" "value" "I", Cond.fieldLink RX6 48 "BorderHarpModel" "values" "[I", Cond.methodLink RX6 55 yX6_in, Cond.static yX6_in, Cond.initialized RX6, Cond.code yX6_in cX6_in 6 (some .boolean), Cond.methodLink RX6 241 yX6_goOn, Cond.instanceMethod yX6_goOn, Cond.selects RX6 yX6_goOn yX6_goOn, Cond.code yX6_goOn cX6_goOn 1 none, Cond.fieldLink RX6 219 "BorderHarpModel" "tokenAt" "I", Cond.fieldLink RX6 222 "BorderHarpModel" "tokenLong" "I", Cond.methodLink RX6 237 yX6_look, Cond.instanceMethod yX6_look, Cond.selects RX6 yX6_look yX6_look, Cond.code yX6_look cX6_look 5 none, Cond.fieldLink RX6 205 "BorderHarpModel" "bytesLong" "I", Cond.fieldLink RX6 42 "BorderHarpModel" "bytes" "[I", Cond.methodLink RX6 231 yX6_isSmall, Cond.static yX6_isSmall, Cond.code yX6_isSmall cX6_isSmall 1 (some .boolean), Cond.constantLong RX6 211 (97), Cond.constantLong RX6 213 (122)]
def wsX6_takes_r2 : List Cond := [Cond.methodLink RX6 234 yX6_isFigure, Cond.static yX6_isFigure, Cond.code yX6_isFigure cX6_isFigure 1 (some .boolean), Cond.constantLong RX6 215 (48), Cond.constantLong RX6 217 (57)]
def wsX6_takes : List Cond := .code yX6_takes cX6_takes 4 (some .boolean) :: ((wsX6_takes_r1 ++ wsX6_takes_r2) ++ wsX60)
def wsX6_readsFirst_r1 : List Cond := [Cond.fieldLink RX6 45 "BorderHarpModel" "next" "[I", Cond.fieldLink RX6 48 "BorderHarpModel" "values" "[I", Cond.fieldLink RX6 225 "BorderHarpModel" "token" "I", Cond.methodLink RX6 244 yX6_isWord, Cond.instanceMethod yX6_isWord, Cond.selects RX6 yX6_isWord yX6_isWord, Cond.initialized RX6, Cond.code yX6_isWord cX6_isWord 9 (some .boolean), Cond.fieldLink RX6 222 "BorderHarpModel" "tokenLong" "I", Cond.fieldLink RX6 42 "BorderHarpModel" "bytes" "[I", Cond.fieldLink RX6 219 "BorderHarpModel" "tokenAt" "I", Cond.methodLink RX6 241 yX6_goOn, Cond.instanceMethod yX6_goOn, Cond.selects RX6 yX6_goOn yX6_goOn, Cond.code yX6_goOn cX6_goOn 1 none, Cond.methodLink RX6 237 yX6_look, Cond.instanceMethod yX6_look, Cond.selects RX6 yX6_look yX6_look, Cond.code yX6_look cX6_look 5 none, Cond.fieldLink RX6 205 "BorderHarpModel" "bytesLong" "I", Cond.fieldLink RX6 228 "BorderHarpModel" "value" "I", Cond.methodLink RX6 231 yX6_isSmall, Cond.static yX6_isSmall, Cond.code yX6_isSmall cX6_isSmall 1 (some .boolean)]
def wsX6_readsFirst_r2 : List Cond := [Cond.constantLong RX6 211 (97), Cond.constantLong RX6 213 (122), Cond.methodLink RX6 55 yX6_in, Cond.static yX6_in, Cond.code yX6_in cX6_in 6 (some .boolean), Cond.methodLink RX6 234 yX6_isFigure, Cond.static yX6_isFigure, Cond.code yX6_isFigure cX6_isFigure 1 (some .boolean), Cond.constantLong RX6 215 (48), Cond.constantLong RX6 217 (57), Cond.methodLink RX6 248 yX6_takes, Cond.instanceMethod yX6_takes, Cond.selects RX6 yX6_takes yX6_takes, Cond.code yX6_takes cX6_takes 4 (some .boolean), Cond.methodLink RX6 74 yX6_begin, Cond.static yX6_begin, Cond.code yX6_begin cX6_begin 3 none]
def wsX6_readsFirst : List Cond := .code yX6_readsFirst cX6_readsFirst 2 (some .boolean) :: ((wsX6_readsFirst_r1 ++ wsX6_readsFirst_r2) ++ wsX60)
def wsX6_lastWire : List Cond := .code yX6_lastWire cX6_lastWire 1 (some .int) :: ([.fieldLink RX6 45 "BorderHarpModel" "next" "[I"] ++ wsX60)
def wsX6_readsWire_r1 : List Cond := [Cond.fieldLink RX6 45 "BorderHarpModel" "next" "[I", Cond.fieldLink RX6 48 "BorderHarpModel" "values" "[I", Cond.methodLink RX6 241 yX6_goOn, Cond.instanceMethod yX6_goOn, Cond.selects RX6 yX6_goOn yX6_goOn, Cond.initialized RX6, Cond.code yX6_goOn cX6_goOn 1 none, Cond.fieldLink RX6 219 "BorderHarpModel" "tokenAt" "I", Cond.fieldLink RX6 222 "BorderHarpModel" "tokenLong" "I", Cond.methodLink RX6 237 yX6_look, Cond.instanceMethod yX6_look, Cond.selects RX6 yX6_look yX6_look, Cond.code yX6_look cX6_look 5 none, Cond.fieldLink RX6 205 "BorderHarpModel" "bytesLong" "I", Cond.fieldLink RX6 42 "BorderHarpModel" "bytes" "[I", Cond.fieldLink RX6 225 "BorderHarpModel" "token" "I", Cond.fieldLink RX6 228 "BorderHarpModel" "value" "I", Cond.methodLink RX6 231 yX6_isSmall, Cond.static yX6_isSmall, Cond.code yX6_isSmall cX6_isSmall 1 (some .boolean), Cond.constantLong RX6 211 (97), Cond.constantLong RX6 213 (122), Cond.methodLink RX6 55 yX6_in, Cond.static yX6_in]
def wsX6_readsWire_r2 : List Cond := [Cond.code yX6_in cX6_in 6 (some .boolean), Cond.methodLink RX6 234 yX6_isFigure, Cond.static yX6_isFigure, Cond.code yX6_isFigure cX6_isFigure 1 (some .boolean), Cond.constantLong RX6 215 (48), Cond.constantLong RX6 217 (57), Cond.methodLink RX6 251 yX6_lastWire, Cond.instanceMethod yX6_lastWire, Cond.selects RX6 yX6_lastWire yX6_lastWire, Cond.code yX6_lastWire cX6_lastWire 1 (some .int), Cond.methodLink RX6 248 yX6_takes, Cond.instanceMethod yX6_takes, Cond.selects RX6 yX6_takes yX6_takes, Cond.code yX6_takes cX6_takes 4 (some .boolean)]
def wsX6_readsWire : List Cond := .code yX6_readsWire cX6_readsWire 1 (some .boolean) :: ((wsX6_readsWire_r1 ++ wsX6_readsWire_r2) ++ wsX60)
def wsX6_readsGuard_r1 : List Cond := [Cond.fieldLink RX6 225 "BorderHarpModel" "token" "I", Cond.fieldLink RX6 228 "BorderHarpModel" "value" "I", Cond.fieldLink RX6 45 "BorderHarpModel" "next" "[I", Cond.methodLink RX6 241 yX6_goOn, Cond.instanceMethod yX6_goOn, Cond.selects RX6 yX6_goOn yX6_goOn, Cond.initialized RX6, Cond.code yX6_goOn cX6_goOn 1 none, Cond.fieldLink RX6 219 "BorderHarpModel" "tokenAt" "I", Cond.fieldLink RX6 222 "BorderHarpModel" "tokenLong" "I", Cond.methodLink RX6 237 yX6_look, Cond.instanceMethod yX6_look, Cond.selects RX6 yX6_look yX6_look, Cond.code yX6_look cX6_look 5 none, Cond.fieldLink RX6 205 "BorderHarpModel" "bytesLong" "I", Cond.fieldLink RX6 42 "BorderHarpModel" "bytes" "[I", Cond.methodLink RX6 231 yX6_isSmall, Cond.static yX6_isSmall, Cond.code yX6_isSmall cX6_isSmall 1 (some .boolean), Cond.constantLong RX6 211 (97), Cond.constantLong RX6 213 (122), Cond.methodLink RX6 55 yX6_in, Cond.static yX6_in, Cond.code yX6_in cX6_in 6 (some .boolean)]
def wsX6_readsGuard_r2 : List Cond := [Cond.methodLink RX6 234 yX6_isFigure, Cond.static yX6_isFigure, Cond.code yX6_isFigure cX6_isFigure 1 (some .boolean), Cond.constantLong RX6 215 (48), Cond.constantLong RX6 217 (57)]
def wsX6_readsGuard : List Cond := .code yX6_readsGuard cX6_readsGuard 1 (some .boolean) :: ((wsX6_readsGuard_r1 ++ wsX6_readsGuard_r2) ++ wsX60)
def wsX6_readsWind_r1 : List Cond := [Cond.fieldLink RX6 45 "BorderHarpModel" "next" "[I", Cond.fieldLink RX6 48 "BorderHarpModel" "values" "[I", Cond.methodLink RX6 241 yX6_goOn, Cond.instanceMethod yX6_goOn, Cond.selects RX6 yX6_goOn yX6_goOn, Cond.initialized RX6, Cond.code yX6_goOn cX6_goOn 1 none, Cond.fieldLink RX6 219 "BorderHarpModel" "tokenAt" "I", Cond.fieldLink RX6 222 "BorderHarpModel" "tokenLong" "I", Cond.methodLink RX6 237 yX6_look, Cond.instanceMethod yX6_look, Cond.selects RX6 yX6_look yX6_look, Cond.code yX6_look cX6_look 5 none, Cond.fieldLink RX6 205 "BorderHarpModel" "bytesLong" "I", Cond.fieldLink RX6 42 "BorderHarpModel" "bytes" "[I", Cond.fieldLink RX6 225 "BorderHarpModel" "token" "I", Cond.fieldLink RX6 228 "BorderHarpModel" "value" "I", Cond.methodLink RX6 231 yX6_isSmall, Cond.static yX6_isSmall, Cond.code yX6_isSmall cX6_isSmall 1 (some .boolean), Cond.constantLong RX6 211 (97), Cond.constantLong RX6 213 (122), Cond.methodLink RX6 55 yX6_in, Cond.static yX6_in]
def wsX6_readsWind_r2 : List Cond := [Cond.code yX6_in cX6_in 6 (some .boolean), Cond.methodLink RX6 234 yX6_isFigure, Cond.static yX6_isFigure, Cond.code yX6_isFigure cX6_isFigure 1 (some .boolean), Cond.constantLong RX6 215 (48), Cond.constantLong RX6 217 (57), Cond.methodLink RX6 248 yX6_takes, Cond.instanceMethod yX6_takes, Cond.selects RX6 yX6_takes yX6_takes, Cond.code yX6_takes cX6_takes 4 (some .boolean), Cond.methodLink RX6 251 yX6_lastWire, Cond.instanceMethod yX6_lastWire, Cond.selects RX6 yX6_lastWire yX6_lastWire, Cond.code yX6_lastWire cX6_lastWire 1 (some .int), Cond.methodLink RX6 100 yX6_layWind, Cond.static yX6_layWind, Cond.code yX6_layWind cX6_layWind 4 none]
def wsX6_readsWind : List Cond := .code yX6_readsWind cX6_readsWind 1 (some .boolean) :: ((wsX6_readsWind_r1 ++ wsX6_readsWind_r2) ++ wsX60)
def wsX6_readsPass_r1 : List Cond := [Cond.fieldLink RX6 45 "BorderHarpModel" "next" "[I", Cond.fieldLink RX6 48 "BorderHarpModel" "values" "[I", Cond.methodLink RX6 241 yX6_goOn, Cond.instanceMethod yX6_goOn, Cond.selects RX6 yX6_goOn yX6_goOn, Cond.initialized RX6, Cond.code yX6_goOn cX6_goOn 1 none, Cond.fieldLink RX6 219 "BorderHarpModel" "tokenAt" "I", Cond.fieldLink RX6 222 "BorderHarpModel" "tokenLong" "I", Cond.methodLink RX6 237 yX6_look, Cond.instanceMethod yX6_look, Cond.selects RX6 yX6_look yX6_look, Cond.code yX6_look cX6_look 5 none, Cond.fieldLink RX6 205 "BorderHarpModel" "bytesLong" "I", Cond.fieldLink RX6 42 "BorderHarpModel" "bytes" "[I", Cond.fieldLink RX6 225 "BorderHarpModel" "token" "I", Cond.fieldLink RX6 228 "BorderHarpModel" "value" "I", Cond.methodLink RX6 231 yX6_isSmall, Cond.static yX6_isSmall, Cond.code yX6_isSmall cX6_isSmall 1 (some .boolean), Cond.constantLong RX6 211 (97), Cond.constantLong RX6 213 (122), Cond.methodLink RX6 55 yX6_in, Cond.static yX6_in]
def wsX6_readsPass_r2 : List Cond := [Cond.code yX6_in cX6_in 6 (some .boolean), Cond.methodLink RX6 234 yX6_isFigure, Cond.static yX6_isFigure, Cond.code yX6_isFigure cX6_isFigure 1 (some .boolean), Cond.constantLong RX6 215 (48), Cond.constantLong RX6 217 (57), Cond.methodLink RX6 248 yX6_takes, Cond.instanceMethod yX6_takes, Cond.selects RX6 yX6_takes yX6_takes, Cond.code yX6_takes cX6_takes 4 (some .boolean), Cond.methodLink RX6 251 yX6_lastWire, Cond.instanceMethod yX6_lastWire, Cond.selects RX6 yX6_lastWire yX6_lastWire, Cond.code yX6_lastWire cX6_lastWire 1 (some .int), Cond.methodLink RX6 107 yX6_layPass, Cond.static yX6_layPass, Cond.code yX6_layPass cX6_layPass 5 none]
def wsX6_readsPass : List Cond := .code yX6_readsPass cX6_readsPass 1 (some .boolean) :: ((wsX6_readsPass_r1 ++ wsX6_readsPass_r2) ++ wsX60)
def wsX6_readsItem_r1 : List Cond := [Cond.fieldLink RX6 45 "BorderHarpModel" "next" "[I", Cond.fieldLink RX6 48 "BorderHarpModel" "values" "[I", Cond.methodLink RX6 244 yX6_isWord, Cond.instanceMethod yX6_isWord, Cond.selects RX6 yX6_isWord yX6_isWord, Cond.initialized RX6, Cond.code yX6_isWord cX6_isWord 9 (some .boolean), Cond.fieldLink RX6 225 "BorderHarpModel" "token" "I", Cond.fieldLink RX6 222 "BorderHarpModel" "tokenLong" "I", Cond.fieldLink RX6 42 "BorderHarpModel" "bytes" "[I", Cond.fieldLink RX6 219 "BorderHarpModel" "tokenAt" "I", Cond.methodLink RX6 254 yX6_readsWire, Cond.instanceMethod yX6_readsWire, Cond.selects RX6 yX6_readsWire yX6_readsWire, Cond.code yX6_readsWire cX6_readsWire 1 (some .boolean), Cond.methodLink RX6 241 yX6_goOn, Cond.instanceMethod yX6_goOn, Cond.selects RX6 yX6_goOn yX6_goOn, Cond.code yX6_goOn cX6_goOn 1 none, Cond.methodLink RX6 237 yX6_look, Cond.instanceMethod yX6_look, Cond.selects RX6 yX6_look yX6_look, Cond.code yX6_look cX6_look 5 none, Cond.fieldLink RX6 205 "BorderHarpModel" "bytesLong" "I"]
def wsX6_readsItem_r2 : List Cond := [Cond.fieldLink RX6 228 "BorderHarpModel" "value" "I", Cond.methodLink RX6 231 yX6_isSmall, Cond.static yX6_isSmall, Cond.code yX6_isSmall cX6_isSmall 1 (some .boolean), Cond.constantLong RX6 211 (97), Cond.constantLong RX6 213 (122), Cond.methodLink RX6 55 yX6_in, Cond.static yX6_in, Cond.code yX6_in cX6_in 6 (some .boolean), Cond.methodLink RX6 234 yX6_isFigure, Cond.static yX6_isFigure, Cond.code yX6_isFigure cX6_isFigure 1 (some .boolean), Cond.constantLong RX6 215 (48), Cond.constantLong RX6 217 (57), Cond.methodLink RX6 251 yX6_lastWire, Cond.instanceMethod yX6_lastWire, Cond.selects RX6 yX6_lastWire yX6_lastWire, Cond.code yX6_lastWire cX6_lastWire 1 (some .int), Cond.methodLink RX6 248 yX6_takes, Cond.instanceMethod yX6_takes, Cond.selects RX6 yX6_takes yX6_takes, Cond.code yX6_takes cX6_takes 4 (some .boolean), Cond.methodLink RX6 258 yX6_readsGuard, Cond.instanceMethod yX6_readsGuard]
def wsX6_readsItem_r3 : List Cond := [Cond.selects RX6 yX6_readsGuard yX6_readsGuard, Cond.code yX6_readsGuard cX6_readsGuard 1 (some .boolean), Cond.methodLink RX6 261 yX6_readsWind, Cond.instanceMethod yX6_readsWind, Cond.selects RX6 yX6_readsWind yX6_readsWind, Cond.code yX6_readsWind cX6_readsWind 1 (some .boolean), Cond.methodLink RX6 100 yX6_layWind, Cond.static yX6_layWind, Cond.code yX6_layWind cX6_layWind 4 none, Cond.methodLink RX6 264 yX6_readsPass, Cond.instanceMethod yX6_readsPass, Cond.selects RX6 yX6_readsPass yX6_readsPass, Cond.code yX6_readsPass cX6_readsPass 1 (some .boolean), Cond.methodLink RX6 107 yX6_layPass, Cond.static yX6_layPass, Cond.code yX6_layPass cX6_layPass 5 none]
def wsX6_readsItem : List Cond := .code yX6_readsItem cX6_readsItem 2 (some .boolean) :: ((wsX6_readsItem_r1 ++ (wsX6_readsItem_r2 ++ wsX6_readsItem_r3)) ++ wsX60)
def wsX6_read_r1 : List Cond := [Cond.fieldLink RX6 48 "BorderHarpModel" "values" "[I", Cond.fieldLink RX6 219 "BorderHarpModel" "tokenAt" "I", Cond.fieldLink RX6 225 "BorderHarpModel" "token" "I", Cond.fieldLink RX6 7 "BorderHarpModel" "now" "[I", Cond.fieldLink RX6 45 "BorderHarpModel" "next" "[I", Cond.methodLink RX6 237 yX6_look, Cond.instanceMethod yX6_look, Cond.selects RX6 yX6_look yX6_look, Cond.initialized RX6, Cond.code yX6_look cX6_look 5 none, Cond.fieldLink RX6 205 "BorderHarpModel" "bytesLong" "I", Cond.fieldLink RX6 42 "BorderHarpModel" "bytes" "[I", Cond.fieldLink RX6 222 "BorderHarpModel" "tokenLong" "I", Cond.fieldLink RX6 228 "BorderHarpModel" "value" "I", Cond.methodLink RX6 231 yX6_isSmall, Cond.static yX6_isSmall, Cond.code yX6_isSmall cX6_isSmall 1 (some .boolean), Cond.constantLong RX6 211 (97), Cond.constantLong RX6 213 (122), Cond.methodLink RX6 55 yX6_in, Cond.static yX6_in, Cond.code yX6_in cX6_in 6 (some .boolean), Cond.methodLink RX6 234 yX6_isFigure, Cond.static yX6_isFigure]
def wsX6_read_r2 : List Cond := [Cond.code yX6_isFigure cX6_isFigure 1 (some .boolean), Cond.constantLong RX6 215 (48), Cond.constantLong RX6 217 (57), Cond.methodLink RX6 267 yX6_readsFirst, Cond.instanceMethod yX6_readsFirst, Cond.selects RX6 yX6_readsFirst yX6_readsFirst, Cond.code yX6_readsFirst cX6_readsFirst 2 (some .boolean), Cond.methodLink RX6 244 yX6_isWord, Cond.instanceMethod yX6_isWord, Cond.selects RX6 yX6_isWord yX6_isWord, Cond.code yX6_isWord cX6_isWord 9 (some .boolean), Cond.methodLink RX6 241 yX6_goOn, Cond.instanceMethod yX6_goOn, Cond.selects RX6 yX6_goOn yX6_goOn, Cond.code yX6_goOn cX6_goOn 1 none, Cond.methodLink RX6 248 yX6_takes, Cond.instanceMethod yX6_takes, Cond.selects RX6 yX6_takes yX6_takes, Cond.code yX6_takes cX6_takes 4 (some .boolean), Cond.methodLink RX6 74 yX6_begin, Cond.static yX6_begin, Cond.code yX6_begin cX6_begin 3 none, Cond.methodLink RX6 270 yX6_readsItem, Cond.instanceMethod yX6_readsItem]
def wsX6_read_r3 : List Cond := [Cond.selects RX6 yX6_readsItem yX6_readsItem, Cond.code yX6_readsItem cX6_readsItem 2 (some .boolean), Cond.methodLink RX6 254 yX6_readsWire, Cond.instanceMethod yX6_readsWire, Cond.selects RX6 yX6_readsWire yX6_readsWire, Cond.code yX6_readsWire cX6_readsWire 1 (some .boolean), Cond.methodLink RX6 251 yX6_lastWire, Cond.instanceMethod yX6_lastWire, Cond.selects RX6 yX6_lastWire yX6_lastWire, Cond.code yX6_lastWire cX6_lastWire 1 (some .int), Cond.methodLink RX6 258 yX6_readsGuard, Cond.instanceMethod yX6_readsGuard, Cond.selects RX6 yX6_readsGuard yX6_readsGuard, Cond.code yX6_readsGuard cX6_readsGuard 1 (some .boolean), Cond.methodLink RX6 261 yX6_readsWind, Cond.instanceMethod yX6_readsWind, Cond.selects RX6 yX6_readsWind yX6_readsWind, Cond.code yX6_readsWind cX6_readsWind 1 (some .boolean), Cond.methodLink RX6 100 yX6_layWind, Cond.static yX6_layWind, Cond.code yX6_layWind cX6_layWind 4 none, Cond.methodLink RX6 264 yX6_readsPass, Cond.instanceMethod yX6_readsPass, Cond.selects RX6 yX6_readsPass yX6_readsPass]
def wsX6_read_r4 : List Cond := [Cond.code yX6_readsPass cX6_readsPass 1 (some .boolean), Cond.methodLink RX6 107 yX6_layPass, Cond.static yX6_layPass, Cond.code yX6_layPass cX6_layPass 5 none]
def wsX6_read : List Cond := .code yX6_read cX6_read 3 (some .int) :: ((wsX6_read_r1 ++ (wsX6_read_r2 ++ (wsX6_read_r3 ++ wsX6_read_r4))) ++ wsX60)
def wsX6_part : List Cond := .code yX6_part cX6_part 2 (some .long) :: ([.fieldLink RX6 181 "BorderHarpModel" "above" "J", .fieldLink RX6 23 "BorderHarpModel" "below" "J", .methodLink RX6 70 yX6_bad, .instanceMethod yX6_bad, .selects RX6 yX6_bad yX6_bad, .initialized RX6, .code yX6_bad cX6_bad 2 (some .int), .fieldLink RX6 20 "BorderHarpModel" "refused" "[I"] ++ wsX60)
def wsX6_image : List Cond := .code yX6_image cX6_image 3 (some .int) :: ([.fieldLink RX6 13 "BorderHarpModel" "kept" "[I", .fieldLink RX6 7 "BorderHarpModel" "now" "[I", .fieldLink RX6 16 "BorderHarpModel" "isKept" "[Z", .methodLink RX6 55 yX6_in, .static yX6_in, .initialized RX6, .code yX6_in cX6_in 6 (some .boolean), .methodLink RX6 70 yX6_bad, .instanceMethod yX6_bad, .selects RX6 yX6_bad yX6_bad, .code yX6_bad cX6_bad 2 (some .int), .fieldLink RX6 20 "BorderHarpModel" "refused" "[I"] ++ wsX60)
def wsX6_from : List Cond := .code yX6_from cX6_from 3 (some .int) :: ([.fieldLink RX6 16 "BorderHarpModel" "isKept" "[Z", .fieldLink RX6 7 "BorderHarpModel" "now" "[I", .fieldLink RX6 13 "BorderHarpModel" "kept" "[I", .methodLink RX6 55 yX6_in, .static yX6_in, .initialized RX6, .code yX6_in cX6_in 6 (some .boolean), .methodLink RX6 70 yX6_bad, .instanceMethod yX6_bad, .selects RX6 yX6_bad yX6_bad, .code yX6_bad cX6_bad 2 (some .int), .fieldLink RX6 20 "BorderHarpModel" "refused" "[I", .methodLink RX6 91 yX6_no, .instanceMethod yX6_no, .selects RX6 yX6_no yX6_no, .code yX6_no cX6_no 1 (some .int)] ++ wsX60)
def wsX6_status : List Cond := .code yX6_status cX6_status 2 (some .int) :: ([.constantLong RX6 66 (2), .fieldLink RX6 20 "BorderHarpModel" "refused" "[I", .methodLink RX6 55 yX6_in, .static yX6_in, .initialized RX6, .code yX6_in cX6_in 6 (some .boolean), .methodLink RX6 70 yX6_bad, .instanceMethod yX6_bad, .selects RX6 yX6_bad yX6_bad, .code yX6_bad cX6_bad 2 (some .int)] ++ wsX60)
def wsX6_counted : List Cond := .code yX6_counted cX6_counted 2 (some .int) :: ([.fieldLink RX6 7 "BorderHarpModel" "now" "[I", .fieldLink RX6 205 "BorderHarpModel" "bytesLong" "I", .methodLink RX6 51 yX6_line, .instanceMethod yX6_line, .selects RX6 yX6_line yX6_line, .initialized RX6, .code yX6_line cX6_line 1 (some .int), .methodLink RX6 149 yX6_bits, .static yX6_bits, .code yX6_bits cX6_bits 3 (some .int)] ++ wsX60)
def wsX6_count : List Cond := .code yX6_count cX6_count 2 (some .int) :: ([.constantLong RX6 86 (5), .methodLink RX6 55 yX6_in, .static yX6_in, .initialized RX6, .code yX6_in cX6_in 6 (some .boolean), .methodLink RX6 273 yX6_counted, .instanceMethod yX6_counted, .selects RX6 yX6_counted yX6_counted, .code yX6_counted cX6_counted 2 (some .int), .fieldLink RX6 7 "BorderHarpModel" "now" "[I", .fieldLink RX6 205 "BorderHarpModel" "bytesLong" "I", .methodLink RX6 51 yX6_line, .instanceMethod yX6_line, .selects RX6 yX6_line yX6_line, .code yX6_line cX6_line 1 (some .int), .methodLink RX6 149 yX6_bits, .static yX6_bits, .code yX6_bits cX6_bits 3 (some .int), .methodLink RX6 70 yX6_bad, .instanceMethod yX6_bad, .selects RX6 yX6_bad yX6_bad, .code yX6_bad cX6_bad 2 (some .int), .fieldLink RX6 20 "BorderHarpModel" "refused" "[I"] ++ wsX60)
def wsX6_sums : List Cond := .code yX6_sums cX6_sums 8 (some .long) :: ([.constantLong RX6 276 (31), .fieldLink RX6 7 "BorderHarpModel" "now" "[I"] ++ wsX60)
def wsX6_digest_r1 : List Cond := [Cond.constantLong RX6 278 (787), Cond.constantLong RX6 276 (31), Cond.fieldLink RX6 7 "BorderHarpModel" "now" "[I", Cond.fieldLink RX6 181 "BorderHarpModel" "above" "J", Cond.fieldLink RX6 23 "BorderHarpModel" "below" "J", Cond.methodLink RX6 273 yX6_counted, Cond.instanceMethod yX6_counted, Cond.selects RX6 yX6_counted yX6_counted, Cond.initialized RX6, Cond.code yX6_counted cX6_counted 2 (some .int), Cond.fieldLink RX6 205 "BorderHarpModel" "bytesLong" "I", Cond.methodLink RX6 51 yX6_line, Cond.instanceMethod yX6_line, Cond.selects RX6 yX6_line yX6_line, Cond.code yX6_line cX6_line 1 (some .int), Cond.methodLink RX6 149 yX6_bits, Cond.static yX6_bits, Cond.code yX6_bits cX6_bits 3 (some .int), Cond.methodLink RX6 59 yX6_wires, Cond.instanceMethod yX6_wires, Cond.selects RX6 yX6_wires yX6_wires, Cond.code yX6_wires cX6_wires 1 (some .int), Cond.methodLink RX6 280 yX6_sums, Cond.instanceMethod yX6_sums]
def wsX6_digest_r2 : List Cond := [Cond.selects RX6 yX6_sums yX6_sums, Cond.code yX6_sums cX6_sums 8 (some .long)]
def wsX6_digest : List Cond := .code yX6_digest cX6_digest 4 (some .long) :: ((wsX6_digest_r1 ++ wsX6_digest_r2) ++ wsX60)
theorem dX6_init_0 : decode cX6_init 0 = .ok (.aload_n 0, 1) := by decide +kernel
theorem dX6_init_1 : decode cX6_init 1 = .ok (.invokespecial 1, 3) := by decide +kernel
theorem dX6_init_4 : decode cX6_init 4 = .ok (.aload_n 0, 1) := by decide +kernel
theorem dX6_init_5 : decode cX6_init 5 = .ok (.bipush 57, 2) := by decide +kernel
theorem dX6_init_7 : decode cX6_init 7 = .ok (.newarray .int, 2) := by decide +kernel
theorem dX6_init_9 : decode cX6_init 9 = .ok (.putfield 7, 3) := by decide +kernel
theorem dX6_init_12 : decode cX6_init 12 = .ok (.aload_n 0, 1) := by decide +kernel
theorem dX6_init_13 : decode cX6_init 13 = .ok (.bipush 114, 2) := by decide +kernel
theorem dX6_init_15 : decode cX6_init 15 = .ok (.newarray .int, 2) := by decide +kernel
theorem dX6_init_17 : decode cX6_init 17 = .ok (.putfield 13, 3) := by decide +kernel
theorem dX6_init_20 : decode cX6_init 20 = .ok (.aload_n 0, 1) := by decide +kernel
theorem dX6_init_21 : decode cX6_init 21 = .ok (.iconst 2, 1) := by decide +kernel
theorem dX6_init_22 : decode cX6_init 22 = .ok (.newarray .boolean, 2) := by decide +kernel
theorem dX6_init_24 : decode cX6_init 24 = .ok (.putfield 16, 3) := by decide +kernel
theorem dX6_init_27 : decode cX6_init 27 = .ok (.aload_n 0, 1) := by decide +kernel
theorem dX6_init_28 : decode cX6_init 28 = .ok (.iconst 3, 1) := by decide +kernel
theorem dX6_init_29 : decode cX6_init 29 = .ok (.newarray .int, 2) := by decide +kernel
theorem dX6_init_31 : decode cX6_init 31 = .ok (.putfield 20, 3) := by decide +kernel
theorem dX6_init_34 : decode cX6_init 34 = .ok (.aload_n 0, 1) := by decide +kernel
theorem dX6_init_35 : decode cX6_init 35 = .ok (.lconst 1, 1) := by decide +kernel
theorem dX6_init_36 : decode cX6_init 36 = .ok (.putfield 23, 3) := by decide +kernel
theorem dX6_init_39 : decode cX6_init 39 = .ok (.aload_n 0, 1) := by decide +kernel
theorem dX6_init_40 : decode cX6_init 40 = .ok (.bipush 8, 2) := by decide +kernel
theorem dX6_init_42 : decode cX6_init 42 = .ok (.newarray .int, 2) := by decide +kernel
theorem dX6_init_44 : decode cX6_init 44 = .ok (.putfield 27, 3) := by decide +kernel
theorem dX6_init_47 : decode cX6_init 47 = .ok (.aload_n 0, 1) := by decide +kernel
theorem dX6_init_48 : decode cX6_init 48 = .ok (.bipush 8, 2) := by decide +kernel
theorem dX6_init_50 : decode cX6_init 50 = .ok (.newarray .int, 2) := by decide +kernel
theorem dX6_init_52 : decode cX6_init 52 = .ok (.putfield 30, 3) := by decide +kernel
theorem dX6_init_55 : decode cX6_init 55 = .ok (.aload_n 0, 1) := by decide +kernel
theorem dX6_init_56 : decode cX6_init 56 = .ok (.sipush 768, 3) := by decide +kernel
theorem dX6_init_59 : decode cX6_init 59 = .ok (.newarray .int, 2) := by decide +kernel
theorem dX6_init_61 : decode cX6_init 61 = .ok (.putfield 33, 3) := by decide +kernel
theorem dX6_init_64 : decode cX6_init 64 = .ok (.aload_n 0, 1) := by decide +kernel
theorem dX6_init_65 : decode cX6_init 65 = .ok (.bipush 8, 2) := by decide +kernel
theorem dX6_init_67 : decode cX6_init 67 = .ok (.newarray .int, 2) := by decide +kernel
theorem dX6_init_69 : decode cX6_init 69 = .ok (.putfield 36, 3) := by decide +kernel
theorem dX6_init_72 : decode cX6_init 72 = .ok (.aload_n 0, 1) := by decide +kernel
theorem dX6_init_73 : decode cX6_init 73 = .ok (.bipush 8, 2) := by decide +kernel
theorem dX6_init_75 : decode cX6_init 75 = .ok (.newarray .int, 2) := by decide +kernel
theorem dX6_init_77 : decode cX6_init 77 = .ok (.putfield 39, 3) := by decide +kernel
theorem dX6_init_80 : decode cX6_init 80 = .ok (.aload_n 0, 1) := by decide +kernel
theorem dX6_init_81 : decode cX6_init 81 = .ok (.sipush 200, 3) := by decide +kernel
theorem dX6_init_84 : decode cX6_init 84 = .ok (.newarray .int, 2) := by decide +kernel
theorem dX6_init_86 : decode cX6_init 86 = .ok (.putfield 42, 3) := by decide +kernel
theorem dX6_init_89 : decode cX6_init 89 = .ok (.aload_n 0, 1) := by decide +kernel
theorem dX6_init_90 : decode cX6_init 90 = .ok (.bipush 57, 2) := by decide +kernel
theorem dX6_init_92 : decode cX6_init 92 = .ok (.newarray .int, 2) := by decide +kernel
theorem dX6_init_94 : decode cX6_init 94 = .ok (.putfield 45, 3) := by decide +kernel
theorem dX6_init_97 : decode cX6_init 97 = .ok (.aload_n 0, 1) := by decide +kernel
theorem dX6_init_98 : decode cX6_init 98 = .ok (.iconst 3, 1) := by decide +kernel
theorem dX6_init_99 : decode cX6_init 99 = .ok (.newarray .int, 2) := by decide +kernel
theorem dX6_init_101 : decode cX6_init 101 = .ok (.putfield 48, 3) := by decide +kernel
theorem dX6_init_104 : decode cX6_init 104 = .ok (.aload_n 0, 1) := by decide +kernel
theorem dX6_init_105 : decode cX6_init 105 = .ok (.getfield 7, 3) := by decide +kernel
theorem dX6_init_108 : decode cX6_init 108 = .ok (.iconst 0, 1) := by decide +kernel
theorem dX6_init_109 : decode cX6_init 109 = .ok (.bipush 6, 2) := by decide +kernel
theorem dX6_init_111 : decode cX6_init 111 = .ok (.iastore, 1) := by decide +kernel
theorem dX6_init_112 : decode cX6_init 112 = .ok (.return_, 1) := by decide +kernel
theorem dX6_in_0 : decode cX6_in 0 = .ok (.lload_n 0, 1) := by decide +kernel
theorem dX6_in_1 : decode cX6_in 1 = .ok (.lload_n 2, 1) := by decide +kernel
theorem dX6_in_2 : decode cX6_in 2 = .ok (.lcmp, 1) := by decide +kernel
theorem dX6_in_3 : decode cX6_in 3 = .ok (.ifCond .lt 14, 3) := by decide +kernel
theorem dX6_in_6 : decode cX6_in 6 = .ok (.lload_n 0, 1) := by decide +kernel
theorem dX6_in_7 : decode cX6_in 7 = .ok (.lload 4, 2) := by decide +kernel
theorem dX6_in_9 : decode cX6_in 9 = .ok (.lcmp, 1) := by decide +kernel
theorem dX6_in_10 : decode cX6_in 10 = .ok (.ifCond .gt 7, 3) := by decide +kernel
theorem dX6_in_13 : decode cX6_in 13 = .ok (.iconst 1, 1) := by decide +kernel
theorem dX6_in_14 : decode cX6_in 14 = .ok (.goto 4, 3) := by decide +kernel
theorem dX6_in_17 : decode cX6_in 17 = .ok (.iconst 0, 1) := by decide +kernel
theorem dX6_in_18 : decode cX6_in 18 = .ok (.ireturn, 1) := by decide +kernel
theorem dX6_bad_0 : decode cX6_bad 0 = .ok (.aload_n 0, 1) := by decide +kernel
theorem dX6_bad_1 : decode cX6_bad 1 = .ok (.getfield 20, 3) := by decide +kernel
theorem dX6_bad_4 : decode cX6_bad 4 = .ok (.iconst 0, 1) := by decide +kernel
theorem dX6_bad_5 : decode cX6_bad 5 = .ok (.dup2, 1) := by decide +kernel
theorem dX6_bad_6 : decode cX6_bad 6 = .ok (.iaload, 1) := by decide +kernel
theorem dX6_bad_7 : decode cX6_bad 7 = .ok (.iconst 1, 1) := by decide +kernel
theorem dX6_bad_8 : decode cX6_bad 8 = .ok (.iadd, 1) := by decide +kernel
theorem dX6_bad_9 : decode cX6_bad 9 = .ok (.iastore, 1) := by decide +kernel
theorem dX6_bad_10 : decode cX6_bad 10 = .ok (.iload_n 1, 1) := by decide +kernel
theorem dX6_bad_11 : decode cX6_bad 11 = .ok (.ireturn, 1) := by decide +kernel
theorem dX6_no_0 : decode cX6_no 0 = .ok (.aload_n 0, 1) := by decide +kernel
theorem dX6_no_1 : decode cX6_no 1 = .ok (.getfield 20, 3) := by decide +kernel
theorem dX6_no_4 : decode cX6_no 4 = .ok (.iconst 1, 1) := by decide +kernel
theorem dX6_no_5 : decode cX6_no 5 = .ok (.dup2, 1) := by decide +kernel
theorem dX6_no_6 : decode cX6_no 6 = .ok (.iaload, 1) := by decide +kernel
theorem dX6_no_7 : decode cX6_no 7 = .ok (.iconst 1, 1) := by decide +kernel
theorem dX6_no_8 : decode cX6_no 8 = .ok (.iadd, 1) := by decide +kernel
theorem dX6_no_9 : decode cX6_no 9 = .ok (.iastore, 1) := by decide +kernel
theorem dX6_no_10 : decode cX6_no 10 = .ok (.bipush (-3), 2) := by decide +kernel
theorem dX6_no_12 : decode cX6_no 12 = .ok (.ireturn, 1) := by decide +kernel
theorem dX6_full_0 : decode cX6_full 0 = .ok (.aload_n 0, 1) := by decide +kernel
theorem dX6_full_1 : decode cX6_full 1 = .ok (.getfield 20, 3) := by decide +kernel
theorem dX6_full_4 : decode cX6_full 4 = .ok (.iconst 2, 1) := by decide +kernel
theorem dX6_full_5 : decode cX6_full 5 = .ok (.dup2, 1) := by decide +kernel
theorem dX6_full_6 : decode cX6_full 6 = .ok (.iaload, 1) := by decide +kernel
theorem dX6_full_7 : decode cX6_full 7 = .ok (.iconst 1, 1) := by decide +kernel
theorem dX6_full_8 : decode cX6_full 8 = .ok (.iadd, 1) := by decide +kernel
theorem dX6_full_9 : decode cX6_full 9 = .ok (.iastore, 1) := by decide +kernel
theorem dX6_full_10 : decode cX6_full 10 = .ok (.bipush (-4), 2) := by decide +kernel
theorem dX6_full_12 : decode cX6_full 12 = .ok (.ireturn, 1) := by decide +kernel
theorem dX6_bits_0 : decode cX6_bits 0 = .ok (.iconst 0, 1) := by decide +kernel
theorem dX6_bits_1 : decode cX6_bits 1 = .ok (.istore_n 1, 1) := by decide +kernel
theorem dX6_bits_2 : decode cX6_bits 2 = .ok (.iload_n 0, 1) := by decide +kernel
theorem dX6_bits_3 : decode cX6_bits 3 = .ok (.istore_n 2, 1) := by decide +kernel
theorem dX6_bits_4 : decode cX6_bits 4 = .ok (.iload_n 2, 1) := by decide +kernel
theorem dX6_bits_5 : decode cX6_bits 5 = .ok (.ifCond .le 16, 3) := by decide +kernel
theorem dX6_bits_8 : decode cX6_bits 8 = .ok (.iload_n 1, 1) := by decide +kernel
theorem dX6_bits_9 : decode cX6_bits 9 = .ok (.iload_n 2, 1) := by decide +kernel
theorem dX6_bits_10 : decode cX6_bits 10 = .ok (.iconst 1, 1) := by decide +kernel
theorem dX6_bits_11 : decode cX6_bits 11 = .ok (.iand, 1) := by decide +kernel
theorem dX6_bits_12 : decode cX6_bits 12 = .ok (.iadd, 1) := by decide +kernel
theorem dX6_bits_13 : decode cX6_bits 13 = .ok (.istore_n 1, 1) := by decide +kernel
theorem dX6_bits_14 : decode cX6_bits 14 = .ok (.iload_n 2, 1) := by decide +kernel
theorem dX6_bits_15 : decode cX6_bits 15 = .ok (.iconst 1, 1) := by decide +kernel
theorem dX6_bits_16 : decode cX6_bits 16 = .ok (.ishr, 1) := by decide +kernel
theorem dX6_bits_17 : decode cX6_bits 17 = .ok (.istore_n 2, 1) := by decide +kernel
theorem dX6_bits_18 : decode cX6_bits 18 = .ok (.goto (-14), 3) := by decide +kernel
theorem dX6_bits_21 : decode cX6_bits 21 = .ok (.iload_n 1, 1) := by decide +kernel
theorem dX6_bits_22 : decode cX6_bits 22 = .ok (.ireturn, 1) := by decide +kernel
theorem dX6_line_0 : decode cX6_line 0 = .ok (.aload_n 0, 1) := by decide +kernel
theorem dX6_line_1 : decode cX6_line 1 = .ok (.getfield 7, 3) := by decide +kernel
theorem dX6_line_4 : decode cX6_line 4 = .ok (.iconst 0, 1) := by decide +kernel
theorem dX6_line_5 : decode cX6_line 5 = .ok (.iaload, 1) := by decide +kernel
theorem dX6_line_6 : decode cX6_line 6 = .ok (.ireturn, 1) := by decide +kernel
theorem dX6_wires_0 : decode cX6_wires 0 = .ok (.aload_n 0, 1) := by decide +kernel
theorem dX6_wires_1 : decode cX6_wires 1 = .ok (.getfield 7, 3) := by decide +kernel
theorem dX6_wires_4 : decode cX6_wires 4 = .ok (.iconst 0, 1) := by decide +kernel
theorem dX6_wires_5 : decode cX6_wires 5 = .ok (.iaload, 1) := by decide +kernel
theorem dX6_wires_6 : decode cX6_wires 6 = .ok (.iconst 1, 1) := by decide +kernel
theorem dX6_wires_7 : decode cX6_wires 7 = .ok (.isub, 1) := by decide +kernel
theorem dX6_wires_8 : decode cX6_wires 8 = .ok (.ireturn, 1) := by decide +kernel
set_option maxRecDepth 20000 in
theorem ggX6_isPost_X6_line : GoodIn wsX6_isPost wsX6_line := goodIn_r _ [5, 6, 10, 11, 12, 13, 14, 15, 16, 17, 18, 19, 20, 21, 22, 23, 24, 25, 26, 27, 28] (by decide +kernel) (by decide +kernel)
set_option maxRecDepth 20000 in
theorem gX6_isPost_X6_line : GoodIn wsX6_isPost (wsV RX6 51 RX6 yX6_line wsX6_line) := goodIn_app (goodIn_of _ (by decide +kernel)) ggX6_isPost_X6_line
set_option maxRecDepth 20000 in
theorem ggX6_isPost_X6_in : GoodIn wsX6_isPost wsX6_in := goodIn_r _ [9] (by decide +kernel) (by decide +kernel)
set_option maxRecDepth 20000 in
theorem gX6_isPost_X6_in : GoodIn wsX6_isPost (va_wsS RX6 55 yX6_in wsX6_in) := goodIn_app (goodIn_of _ (by decide +kernel)) ggX6_isPost_X6_in
theorem dX6_isPost_0 : decode cX6_isPost 0 = .ok (.iload_n 1, 1) := by decide +kernel
theorem dX6_isPost_1 : decode cX6_isPost 1 = .ok (.i2l, 1) := by decide +kernel
theorem dX6_isPost_2 : decode cX6_isPost 2 = .ok (.lconst 0, 1) := by decide +kernel
theorem dX6_isPost_3 : decode cX6_isPost 3 = .ok (.aload_n 0, 1) := by decide +kernel
theorem dX6_isPost_4 : decode cX6_isPost 4 = .ok (.invokevirtual 51, 3) := by decide +kernel
theorem dX6_isPost_7 : decode cX6_isPost 7 = .ok (.iconst 1, 1) := by decide +kernel
theorem dX6_isPost_8 : decode cX6_isPost 8 = .ok (.isub, 1) := by decide +kernel
theorem dX6_isPost_9 : decode cX6_isPost 9 = .ok (.i2l, 1) := by decide +kernel
theorem dX6_isPost_10 : decode cX6_isPost 10 = .ok (.invokestatic 55, 3) := by decide +kernel
theorem dX6_isPost_13 : decode cX6_isPost 13 = .ok (.ireturn, 1) := by decide +kernel
set_option maxRecDepth 20000 in
theorem ggX6_isWire_X6_wires : GoodIn wsX6_isWire wsX6_wires := goodIn_r _ [5, 6, 10, 11, 12, 13, 14, 15, 16, 17, 18, 19, 20, 21, 22, 23, 24, 25, 26, 27, 28] (by decide +kernel) (by decide +kernel)
set_option maxRecDepth 20000 in
theorem gX6_isWire_X6_wires : GoodIn wsX6_isWire (wsV RX6 59 RX6 yX6_wires wsX6_wires) := goodIn_app (goodIn_of _ (by decide +kernel)) ggX6_isWire_X6_wires
set_option maxRecDepth 20000 in
theorem ggX6_isWire_X6_in : GoodIn wsX6_isWire wsX6_in := goodIn_r _ [9] (by decide +kernel) (by decide +kernel)
set_option maxRecDepth 20000 in
theorem gX6_isWire_X6_in : GoodIn wsX6_isWire (va_wsS RX6 55 yX6_in wsX6_in) := goodIn_app (goodIn_of _ (by decide +kernel)) ggX6_isWire_X6_in
theorem dX6_isWire_0 : decode cX6_isWire 0 = .ok (.iload_n 1, 1) := by decide +kernel
theorem dX6_isWire_1 : decode cX6_isWire 1 = .ok (.i2l, 1) := by decide +kernel
theorem dX6_isWire_2 : decode cX6_isWire 2 = .ok (.lconst 0, 1) := by decide +kernel
theorem dX6_isWire_3 : decode cX6_isWire 3 = .ok (.aload_n 0, 1) := by decide +kernel
theorem dX6_isWire_4 : decode cX6_isWire 4 = .ok (.invokevirtual 59, 3) := by decide +kernel
theorem dX6_isWire_7 : decode cX6_isWire 7 = .ok (.iconst 1, 1) := by decide +kernel
theorem dX6_isWire_8 : decode cX6_isWire 8 = .ok (.isub, 1) := by decide +kernel
theorem dX6_isWire_9 : decode cX6_isWire 9 = .ok (.i2l, 1) := by decide +kernel
theorem dX6_isWire_10 : decode cX6_isWire 10 = .ok (.invokestatic 55, 3) := by decide +kernel
theorem dX6_isWire_13 : decode cX6_isWire 13 = .ok (.ireturn, 1) := by decide +kernel
set_option maxRecDepth 20000 in
theorem ggX6_isMinute_X6_in : GoodIn wsX6_isMinute wsX6_in := goodIn_r _ [5] (by decide +kernel) (by decide +kernel)
set_option maxRecDepth 20000 in
theorem gX6_isMinute_X6_in : GoodIn wsX6_isMinute (va_wsS RX6 55 yX6_in wsX6_in) := goodIn_app (goodIn_of _ (by decide +kernel)) ggX6_isMinute_X6_in
theorem dX6_isMinute_0 : decode cX6_isMinute 0 = .ok (.iload_n 0, 1) := by decide +kernel
theorem dX6_isMinute_1 : decode cX6_isMinute 1 = .ok (.i2l, 1) := by decide +kernel
theorem dX6_isMinute_2 : decode cX6_isMinute 2 = .ok (.lconst 0, 1) := by decide +kernel
theorem dX6_isMinute_3 : decode cX6_isMinute 3 = .ok (.ldc2_w 62, 3) := by decide +kernel
theorem dX6_isMinute_6 : decode cX6_isMinute 6 = .ok (.invokestatic 55, 3) := by decide +kernel
theorem dX6_isMinute_9 : decode cX6_isMinute 9 = .ok (.ireturn, 1) := by decide +kernel
set_option maxRecDepth 20000 in
theorem ggX6_isStep_X6_in : GoodIn wsX6_isStep wsX6_in := goodIn_r _ [5] (by decide +kernel) (by decide +kernel)
set_option maxRecDepth 20000 in
theorem gX6_isStep_X6_in : GoodIn wsX6_isStep (va_wsS RX6 55 yX6_in wsX6_in) := goodIn_app (goodIn_of _ (by decide +kernel)) ggX6_isStep_X6_in
theorem dX6_isStep_0 : decode cX6_isStep 0 = .ok (.iload_n 0, 1) := by decide +kernel
theorem dX6_isStep_1 : decode cX6_isStep 1 = .ok (.i2l, 1) := by decide +kernel
theorem dX6_isStep_2 : decode cX6_isStep 2 = .ok (.lconst 0, 1) := by decide +kernel
theorem dX6_isStep_3 : decode cX6_isStep 3 = .ok (.ldc2_w 64, 3) := by decide +kernel
theorem dX6_isStep_6 : decode cX6_isStep 6 = .ok (.invokestatic 55, 3) := by decide +kernel
theorem dX6_isStep_9 : decode cX6_isStep 9 = .ok (.ireturn, 1) := by decide +kernel
theorem dX6_begin_0 : decode cX6_begin 0 = .ok (.iconst 0, 1) := by decide +kernel
theorem dX6_begin_1 : decode cX6_begin 1 = .ok (.istore_n 2, 1) := by decide +kernel
theorem dX6_begin_2 : decode cX6_begin 2 = .ok (.iload_n 2, 1) := by decide +kernel
theorem dX6_begin_3 : decode cX6_begin 3 = .ok (.bipush 57, 2) := by decide +kernel
theorem dX6_begin_5 : decode cX6_begin 5 = .ok (.if_icmp .ge 13, 3) := by decide +kernel
theorem dX6_begin_8 : decode cX6_begin 8 = .ok (.aload_n 0, 1) := by decide +kernel
theorem dX6_begin_9 : decode cX6_begin 9 = .ok (.iload_n 2, 1) := by decide +kernel
theorem dX6_begin_10 : decode cX6_begin 10 = .ok (.iconst 0, 1) := by decide +kernel
theorem dX6_begin_11 : decode cX6_begin 11 = .ok (.iastore, 1) := by decide +kernel
theorem dX6_begin_12 : decode cX6_begin 12 = .ok (.iinc 2 1, 3) := by decide +kernel
theorem dX6_begin_15 : decode cX6_begin 15 = .ok (.goto (-13), 3) := by decide +kernel
theorem dX6_begin_18 : decode cX6_begin 18 = .ok (.aload_n 0, 1) := by decide +kernel
theorem dX6_begin_19 : decode cX6_begin 19 = .ok (.iconst 0, 1) := by decide +kernel
theorem dX6_begin_20 : decode cX6_begin 20 = .ok (.iload_n 1, 1) := by decide +kernel
theorem dX6_begin_21 : decode cX6_begin 21 = .ok (.iastore, 1) := by decide +kernel
theorem dX6_begin_22 : decode cX6_begin 22 = .ok (.return_, 1) := by decide +kernel
set_option maxRecDepth 20000 in
theorem ggX6_posts_X6_in : GoodIn wsX6_posts wsX6_in := goodIn_r _ [7] (by decide +kernel) (by decide +kernel)
set_option maxRecDepth 20000 in
theorem gX6_posts_X6_in : GoodIn wsX6_posts (va_wsS RX6 55 yX6_in wsX6_in) := goodIn_app (goodIn_of _ (by decide +kernel)) ggX6_posts_X6_in
set_option maxRecDepth 20000 in
theorem ggX6_posts_X6_bad : GoodIn wsX6_posts wsX6_bad := goodIn_r _ [11, 12, 20, 21, 22, 23, 24, 25, 26, 27, 28, 29, 30, 31, 32, 33, 34, 35, 36, 37, 38] (by decide +kernel) (by decide +kernel)
set_option maxRecDepth 20000 in
theorem gX6_posts_X6_bad : GoodIn wsX6_posts (wsV RX6 70 RX6 yX6_bad wsX6_bad) := goodIn_app (goodIn_of _ (by decide +kernel)) ggX6_posts_X6_bad
set_option maxRecDepth 20000 in
theorem ggX6_posts_X6_line : GoodIn wsX6_posts wsX6_line := goodIn_r _ [16, 3, 20, 21, 22, 23, 24, 25, 26, 27, 28, 29, 30, 31, 32, 33, 34, 35, 36, 37, 38] (by decide +kernel) (by decide +kernel)
set_option maxRecDepth 20000 in
theorem gX6_posts_X6_line : GoodIn wsX6_posts (wsV RX6 51 RX6 yX6_line wsX6_line) := goodIn_app (goodIn_of _ (by decide +kernel)) ggX6_posts_X6_line
set_option maxRecDepth 20000 in
theorem ggX6_posts_X6_begin : GoodIn wsX6_posts wsX6_begin := goodIn_r _ [19] (by decide +kernel) (by decide +kernel)
set_option maxRecDepth 20000 in
theorem gX6_posts_X6_begin : GoodIn wsX6_posts (va_wsS RX6 74 yX6_begin wsX6_begin) := goodIn_app (goodIn_of _ (by decide +kernel)) ggX6_posts_X6_begin
theorem dX6_posts_0 : decode cX6_posts 0 = .ok (.iload_n 1, 1) := by decide +kernel
theorem dX6_posts_1 : decode cX6_posts 1 = .ok (.i2l, 1) := by decide +kernel
theorem dX6_posts_2 : decode cX6_posts 2 = .ok (.ldc2_w 66, 3) := by decide +kernel
theorem dX6_posts_5 : decode cX6_posts 5 = .ok (.ldc2_w 68, 3) := by decide +kernel
theorem dX6_posts_8 : decode cX6_posts 8 = .ok (.invokestatic 55, 3) := by decide +kernel
theorem dX6_posts_11 : decode cX6_posts 11 = .ok (.ifCond .ne 10, 3) := by decide +kernel
theorem dX6_posts_14 : decode cX6_posts 14 = .ok (.aload_n 0, 1) := by decide +kernel
theorem dX6_posts_15 : decode cX6_posts 15 = .ok (.bipush (-2), 2) := by decide +kernel
theorem dX6_posts_17 : decode cX6_posts 17 = .ok (.invokevirtual 70, 3) := by decide +kernel
theorem dX6_posts_20 : decode cX6_posts 20 = .ok (.ireturn, 1) := by decide +kernel
theorem dX6_posts_21 : decode cX6_posts 21 = .ok (.aload_n 0, 1) := by decide +kernel
theorem dX6_posts_22 : decode cX6_posts 22 = .ok (.invokevirtual 51, 3) := by decide +kernel
theorem dX6_posts_25 : decode cX6_posts 25 = .ok (.istore_n 2, 1) := by decide +kernel
theorem dX6_posts_26 : decode cX6_posts 26 = .ok (.aload_n 0, 1) := by decide +kernel
theorem dX6_posts_27 : decode cX6_posts 27 = .ok (.getfield 7, 3) := by decide +kernel
theorem dX6_posts_30 : decode cX6_posts 30 = .ok (.iload_n 1, 1) := by decide +kernel
theorem dX6_posts_31 : decode cX6_posts 31 = .ok (.invokestatic 74, 3) := by decide +kernel
theorem dX6_posts_34 : decode cX6_posts 34 = .ok (.iload_n 2, 1) := by decide +kernel
theorem dX6_posts_35 : decode cX6_posts 35 = .ok (.ireturn, 1) := by decide +kernel
set_option maxRecDepth 20000 in
theorem ggX6_wire_X6_isWire : GoodIn wsX6_wire wsX6_isWire := goodIn_r _ [8, 9, 10, 11, 7, 12, 3, 13, 14, 15, 21, 22, 23, 24, 25, 26, 27, 28, 29, 30, 31, 32, 33, 34, 35, 36, 37, 38, 39] (by decide +kernel) (by decide +kernel)
set_option maxRecDepth 20000 in
theorem gX6_wire_X6_isWire : GoodIn wsX6_wire (wsV RX6 78 RX6 yX6_isWire wsX6_isWire) := goodIn_app (goodIn_of _ (by decide +kernel)) ggX6_wire_X6_isWire
set_option maxRecDepth 20000 in
theorem ggX6_wire_X6_in : GoodIn wsX6_wire wsX6_in := goodIn_r _ [15] (by decide +kernel) (by decide +kernel)
set_option maxRecDepth 20000 in
theorem gX6_wire_X6_in : GoodIn wsX6_wire (va_wsS RX6 55 yX6_in wsX6_in) := goodIn_app (goodIn_of _ (by decide +kernel)) ggX6_wire_X6_in
set_option maxRecDepth 20000 in
theorem ggX6_wire_X6_bad : GoodIn wsX6_wire wsX6_bad := goodIn_r _ [19, 20, 21, 22, 23, 24, 25, 26, 27, 28, 29, 30, 31, 32, 33, 34, 35, 36, 37, 38, 39] (by decide +kernel) (by decide +kernel)
set_option maxRecDepth 20000 in
theorem gX6_wire_X6_bad : GoodIn wsX6_wire (wsV RX6 70 RX6 yX6_bad wsX6_bad) := goodIn_app (goodIn_of _ (by decide +kernel)) ggX6_wire_X6_bad
theorem dX6_wire_0 : decode cX6_wire 0 = .ok (.aload_n 0, 1) := by decide +kernel
theorem dX6_wire_1 : decode cX6_wire 1 = .ok (.iload_n 1, 1) := by decide +kernel
theorem dX6_wire_2 : decode cX6_wire 2 = .ok (.invokevirtual 78, 3) := by decide +kernel
theorem dX6_wire_5 : decode cX6_wire 5 = .ok (.ifCond .eq 27, 3) := by decide +kernel
theorem dX6_wire_8 : decode cX6_wire 8 = .ok (.iload_n 2, 1) := by decide +kernel
theorem dX6_wire_9 : decode cX6_wire 9 = .ok (.i2l, 1) := by decide +kernel
theorem dX6_wire_10 : decode cX6_wire 10 = .ok (.lconst 0, 1) := by decide +kernel
theorem dX6_wire_11 : decode cX6_wire 11 = .ok (.ldc2_w 82, 3) := by decide +kernel
theorem dX6_wire_14 : decode cX6_wire 14 = .ok (.invokestatic 55, 3) := by decide +kernel
theorem dX6_wire_17 : decode cX6_wire 17 = .ok (.ifCond .eq 15, 3) := by decide +kernel
theorem dX6_wire_20 : decode cX6_wire 20 = .ok (.iload_n 3, 1) := by decide +kernel
theorem dX6_wire_21 : decode cX6_wire 21 = .ok (.i2l, 1) := by decide +kernel
theorem dX6_wire_22 : decode cX6_wire 22 = .ok (.lconst 0, 1) := by decide +kernel
theorem dX6_wire_23 : decode cX6_wire 23 = .ok (.ldc2_w 84, 3) := by decide +kernel
theorem dX6_wire_26 : decode cX6_wire 26 = .ok (.invokestatic 55, 3) := by decide +kernel
theorem dX6_wire_29 : decode cX6_wire 29 = .ok (.ifCond .ne 10, 3) := by decide +kernel
theorem dX6_wire_32 : decode cX6_wire 32 = .ok (.aload_n 0, 1) := by decide +kernel
theorem dX6_wire_33 : decode cX6_wire 33 = .ok (.bipush (-2), 2) := by decide +kernel
theorem dX6_wire_35 : decode cX6_wire 35 = .ok (.invokevirtual 70, 3) := by decide +kernel
theorem dX6_wire_38 : decode cX6_wire 38 = .ok (.ireturn, 1) := by decide +kernel
theorem dX6_wire_39 : decode cX6_wire 39 = .ok (.bipush 12, 2) := by decide +kernel
theorem dX6_wire_41 : decode cX6_wire 41 = .ok (.aload_n 0, 1) := by decide +kernel
theorem dX6_wire_42 : decode cX6_wire 42 = .ok (.getfield 7, 3) := by decide +kernel
theorem dX6_wire_45 : decode cX6_wire 45 = .ok (.iconst 3, 1) := by decide +kernel
theorem dX6_wire_46 : decode cX6_wire 46 = .ok (.iload_n 1, 1) := by decide +kernel
theorem dX6_wire_47 : decode cX6_wire 47 = .ok (.iadd, 1) := by decide +kernel
theorem dX6_wire_48 : decode cX6_wire 48 = .ok (.iaload, 1) := by decide +kernel
theorem dX6_wire_49 : decode cX6_wire 49 = .ok (.imul, 1) := by decide +kernel
theorem dX6_wire_50 : decode cX6_wire 50 = .ok (.aload_n 0, 1) := by decide +kernel
theorem dX6_wire_51 : decode cX6_wire 51 = .ok (.getfield 7, 3) := by decide +kernel
theorem dX6_wire_54 : decode cX6_wire 54 = .ok (.bipush 11, 2) := by decide +kernel
theorem dX6_wire_56 : decode cX6_wire 56 = .ok (.iload_n 1, 1) := by decide +kernel
theorem dX6_wire_57 : decode cX6_wire 57 = .ok (.iadd, 1) := by decide +kernel
theorem dX6_wire_58 : decode cX6_wire 58 = .ok (.iaload, 1) := by decide +kernel
theorem dX6_wire_59 : decode cX6_wire 59 = .ok (.iadd, 1) := by decide +kernel
theorem dX6_wire_60 : decode cX6_wire 60 = .ok (.istore 4, 2) := by decide +kernel
theorem dX6_wire_62 : decode cX6_wire 62 = .ok (.aload_n 0, 1) := by decide +kernel
theorem dX6_wire_63 : decode cX6_wire 63 = .ok (.getfield 7, 3) := by decide +kernel
theorem dX6_wire_66 : decode cX6_wire 66 = .ok (.iconst 3, 1) := by decide +kernel
theorem dX6_wire_67 : decode cX6_wire 67 = .ok (.iload_n 1, 1) := by decide +kernel
theorem dX6_wire_68 : decode cX6_wire 68 = .ok (.iadd, 1) := by decide +kernel
theorem dX6_wire_69 : decode cX6_wire 69 = .ok (.iload_n 2, 1) := by decide +kernel
theorem dX6_wire_70 : decode cX6_wire 70 = .ok (.iastore, 1) := by decide +kernel
theorem dX6_wire_71 : decode cX6_wire 71 = .ok (.aload_n 0, 1) := by decide +kernel
theorem dX6_wire_72 : decode cX6_wire 72 = .ok (.getfield 7, 3) := by decide +kernel
theorem dX6_wire_75 : decode cX6_wire 75 = .ok (.bipush 11, 2) := by decide +kernel
theorem dX6_wire_77 : decode cX6_wire 77 = .ok (.iload_n 1, 1) := by decide +kernel
theorem dX6_wire_78 : decode cX6_wire 78 = .ok (.iadd, 1) := by decide +kernel
theorem dX6_wire_79 : decode cX6_wire 79 = .ok (.iload_n 3, 1) := by decide +kernel
theorem dX6_wire_80 : decode cX6_wire 80 = .ok (.iastore, 1) := by decide +kernel
theorem dX6_wire_81 : decode cX6_wire 81 = .ok (.iload 4, 2) := by decide +kernel
theorem dX6_wire_83 : decode cX6_wire 83 = .ok (.ireturn, 1) := by decide +kernel
set_option maxRecDepth 20000 in
theorem ggX6_frost_X6_in : GoodIn wsX6_frost wsX6_in := goodIn_r _ [6] (by decide +kernel) (by decide +kernel)
set_option maxRecDepth 20000 in
theorem gX6_frost_X6_in : GoodIn wsX6_frost (va_wsS RX6 55 yX6_in wsX6_in) := goodIn_app (goodIn_of _ (by decide +kernel)) ggX6_frost_X6_in
set_option maxRecDepth 20000 in
theorem ggX6_frost_X6_bad : GoodIn wsX6_frost wsX6_bad := goodIn_r _ [10, 11, 12, 13, 14, 15, 16, 17, 18, 19, 20, 21, 22, 23, 24, 25, 26, 27, 28, 29, 30] (by decide +kernel) (by decide +kernel)
set_option maxRecDepth 20000 in
theorem gX6_frost_X6_bad : GoodIn wsX6_frost (wsV RX6 70 RX6 yX6_bad wsX6_bad) := goodIn_app (goodIn_of _ (by decide +kernel)) ggX6_frost_X6_bad
theorem dX6_frost_0 : decode cX6_frost 0 = .ok (.iload_n 1, 1) := by decide +kernel
theorem dX6_frost_1 : decode cX6_frost 1 = .ok (.i2l, 1) := by decide +kernel
theorem dX6_frost_2 : decode cX6_frost 2 = .ok (.lconst 0, 1) := by decide +kernel
theorem dX6_frost_3 : decode cX6_frost 3 = .ok (.ldc2_w 86, 3) := by decide +kernel
theorem dX6_frost_6 : decode cX6_frost 6 = .ok (.invokestatic 55, 3) := by decide +kernel
theorem dX6_frost_9 : decode cX6_frost 9 = .ok (.ifCond .ne 10, 3) := by decide +kernel
theorem dX6_frost_12 : decode cX6_frost 12 = .ok (.aload_n 0, 1) := by decide +kernel
theorem dX6_frost_13 : decode cX6_frost 13 = .ok (.bipush (-2), 2) := by decide +kernel
theorem dX6_frost_15 : decode cX6_frost 15 = .ok (.invokevirtual 70, 3) := by decide +kernel
theorem dX6_frost_18 : decode cX6_frost 18 = .ok (.ireturn, 1) := by decide +kernel
theorem dX6_frost_19 : decode cX6_frost 19 = .ok (.aload_n 0, 1) := by decide +kernel
theorem dX6_frost_20 : decode cX6_frost 20 = .ok (.getfield 7, 3) := by decide +kernel
theorem dX6_frost_23 : decode cX6_frost 23 = .ok (.iconst 1, 1) := by decide +kernel
theorem dX6_frost_24 : decode cX6_frost 24 = .ok (.iaload, 1) := by decide +kernel
theorem dX6_frost_25 : decode cX6_frost 25 = .ok (.istore_n 2, 1) := by decide +kernel
theorem dX6_frost_26 : decode cX6_frost 26 = .ok (.aload_n 0, 1) := by decide +kernel
theorem dX6_frost_27 : decode cX6_frost 27 = .ok (.getfield 7, 3) := by decide +kernel
theorem dX6_frost_30 : decode cX6_frost 30 = .ok (.iconst 1, 1) := by decide +kernel
theorem dX6_frost_31 : decode cX6_frost 31 = .ok (.iload_n 1, 1) := by decide +kernel
theorem dX6_frost_32 : decode cX6_frost 32 = .ok (.iastore, 1) := by decide +kernel
theorem dX6_frost_33 : decode cX6_frost 33 = .ok (.iload_n 2, 1) := by decide +kernel
theorem dX6_frost_34 : decode cX6_frost 34 = .ok (.ireturn, 1) := by decide +kernel
set_option maxRecDepth 20000 in
theorem ggX6_guard_X6_isPost : GoodIn wsX6_guard wsX6_isPost := goodIn_r _ [6, 7, 8, 9, 5, 10, 1, 11, 12, 13, 23, 24, 25, 26, 27, 28, 29, 30, 31, 32, 33, 34, 35, 36, 37, 38, 39, 40, 41] (by decide +kernel) (by decide +kernel)
set_option maxRecDepth 20000 in
theorem gX6_guard_X6_isPost : GoodIn wsX6_guard (wsV RX6 88 RX6 yX6_isPost wsX6_isPost) := goodIn_app (goodIn_of _ (by decide +kernel)) ggX6_guard_X6_isPost
set_option maxRecDepth 20000 in
theorem ggX6_guard_X6_bad : GoodIn wsX6_guard wsX6_bad := goodIn_r _ [17, 18, 23, 24, 25, 26, 27, 28, 29, 30, 31, 32, 33, 34, 35, 36, 37, 38, 39, 40, 41] (by decide +kernel) (by decide +kernel)
set_option maxRecDepth 20000 in
theorem gX6_guard_X6_bad : GoodIn wsX6_guard (wsV RX6 70 RX6 yX6_bad wsX6_bad) := goodIn_app (goodIn_of _ (by decide +kernel)) ggX6_guard_X6_bad
set_option maxRecDepth 20000 in
theorem ggX6_guard_X6_no : GoodIn wsX6_guard wsX6_no := goodIn_r _ [22, 18, 23, 24, 25, 26, 27, 28, 29, 30, 31, 32, 33, 34, 35, 36, 37, 38, 39, 40, 41] (by decide +kernel) (by decide +kernel)
set_option maxRecDepth 20000 in
theorem gX6_guard_X6_no : GoodIn wsX6_guard (wsV RX6 91 RX6 yX6_no wsX6_no) := goodIn_app (goodIn_of _ (by decide +kernel)) ggX6_guard_X6_no
theorem dX6_guard_0 : decode cX6_guard 0 = .ok (.aload_n 0, 1) := by decide +kernel
theorem dX6_guard_1 : decode cX6_guard 1 = .ok (.iload_n 1, 1) := by decide +kernel
theorem dX6_guard_2 : decode cX6_guard 2 = .ok (.invokevirtual 88, 3) := by decide +kernel
theorem dX6_guard_5 : decode cX6_guard 5 = .ok (.ifCond .ne 10, 3) := by decide +kernel
theorem dX6_guard_8 : decode cX6_guard 8 = .ok (.aload_n 0, 1) := by decide +kernel
theorem dX6_guard_9 : decode cX6_guard 9 = .ok (.bipush (-2), 2) := by decide +kernel
theorem dX6_guard_11 : decode cX6_guard 11 = .ok (.invokevirtual 70, 3) := by decide +kernel
theorem dX6_guard_14 : decode cX6_guard 14 = .ok (.ireturn, 1) := by decide +kernel
theorem dX6_guard_15 : decode cX6_guard 15 = .ok (.aload_n 0, 1) := by decide +kernel
theorem dX6_guard_16 : decode cX6_guard 16 = .ok (.getfield 7, 3) := by decide +kernel
theorem dX6_guard_19 : decode cX6_guard 19 = .ok (.iconst 2, 1) := by decide +kernel
theorem dX6_guard_20 : decode cX6_guard 20 = .ok (.iaload, 1) := by decide +kernel
theorem dX6_guard_21 : decode cX6_guard 21 = .ok (.iload_n 1, 1) := by decide +kernel
theorem dX6_guard_22 : decode cX6_guard 22 = .ok (.ishr, 1) := by decide +kernel
theorem dX6_guard_23 : decode cX6_guard 23 = .ok (.iconst 1, 1) := by decide +kernel
theorem dX6_guard_24 : decode cX6_guard 24 = .ok (.iand, 1) := by decide +kernel
theorem dX6_guard_25 : decode cX6_guard 25 = .ok (.iconst 1, 1) := by decide +kernel
theorem dX6_guard_26 : decode cX6_guard 26 = .ok (.if_icmp .ne 7, 3) := by decide +kernel
theorem dX6_guard_29 : decode cX6_guard 29 = .ok (.iconst 1, 1) := by decide +kernel
theorem dX6_guard_30 : decode cX6_guard 30 = .ok (.goto 4, 3) := by decide +kernel
theorem dX6_guard_33 : decode cX6_guard 33 = .ok (.iconst 0, 1) := by decide +kernel
theorem dX6_guard_34 : decode cX6_guard 34 = .ok (.iload_n 2, 1) := by decide +kernel
theorem dX6_guard_35 : decode cX6_guard 35 = .ok (.if_icmp .ne 8, 3) := by decide +kernel
theorem dX6_guard_38 : decode cX6_guard 38 = .ok (.aload_n 0, 1) := by decide +kernel
theorem dX6_guard_39 : decode cX6_guard 39 = .ok (.invokevirtual 91, 3) := by decide +kernel
theorem dX6_guard_42 : decode cX6_guard 42 = .ok (.ireturn, 1) := by decide +kernel
theorem dX6_guard_43 : decode cX6_guard 43 = .ok (.aload_n 0, 1) := by decide +kernel
theorem dX6_guard_44 : decode cX6_guard 44 = .ok (.getfield 7, 3) := by decide +kernel
theorem dX6_guard_47 : decode cX6_guard 47 = .ok (.iconst 2, 1) := by decide +kernel
theorem dX6_guard_48 : decode cX6_guard 48 = .ok (.dup2, 1) := by decide +kernel
theorem dX6_guard_49 : decode cX6_guard 49 = .ok (.iaload, 1) := by decide +kernel
theorem dX6_guard_50 : decode cX6_guard 50 = .ok (.iconst 1, 1) := by decide +kernel
theorem dX6_guard_51 : decode cX6_guard 51 = .ok (.iload_n 1, 1) := by decide +kernel
theorem dX6_guard_52 : decode cX6_guard 52 = .ok (.ishl, 1) := by decide +kernel
theorem dX6_guard_53 : decode cX6_guard 53 = .ok (.ixor, 1) := by decide +kernel
theorem dX6_guard_54 : decode cX6_guard 54 = .ok (.iastore, 1) := by decide +kernel
theorem dX6_guard_55 : decode cX6_guard 55 = .ok (.iconst 1, 1) := by decide +kernel
theorem dX6_guard_56 : decode cX6_guard 56 = .ok (.ireturn, 1) := by decide +kernel
theorem dX6_layWind_0 : decode cX6_layWind 0 = .ok (.bipush 20, 2) := by decide +kernel
theorem dX6_layWind_2 : decode cX6_layWind 2 = .ok (.iconst 2, 1) := by decide +kernel
theorem dX6_layWind_3 : decode cX6_layWind 3 = .ok (.aload_n 0, 1) := by decide +kernel
theorem dX6_layWind_4 : decode cX6_layWind 4 = .ok (.bipush 19, 2) := by decide +kernel
theorem dX6_layWind_6 : decode cX6_layWind 6 = .ok (.iaload, 1) := by decide +kernel
theorem dX6_layWind_7 : decode cX6_layWind 7 = .ok (.imul, 1) := by decide +kernel
theorem dX6_layWind_8 : decode cX6_layWind 8 = .ok (.iadd, 1) := by decide +kernel
theorem dX6_layWind_9 : decode cX6_layWind 9 = .ok (.istore_n 3, 1) := by decide +kernel
theorem dX6_layWind_10 : decode cX6_layWind 10 = .ok (.aload_n 0, 1) := by decide +kernel
theorem dX6_layWind_11 : decode cX6_layWind 11 = .ok (.iload_n 3, 1) := by decide +kernel
theorem dX6_layWind_12 : decode cX6_layWind 12 = .ok (.iload_n 1, 1) := by decide +kernel
theorem dX6_layWind_13 : decode cX6_layWind 13 = .ok (.iastore, 1) := by decide +kernel
theorem dX6_layWind_14 : decode cX6_layWind 14 = .ok (.aload_n 0, 1) := by decide +kernel
theorem dX6_layWind_15 : decode cX6_layWind 15 = .ok (.iload_n 3, 1) := by decide +kernel
theorem dX6_layWind_16 : decode cX6_layWind 16 = .ok (.iconst 1, 1) := by decide +kernel
theorem dX6_layWind_17 : decode cX6_layWind 17 = .ok (.iadd, 1) := by decide +kernel
theorem dX6_layWind_18 : decode cX6_layWind 18 = .ok (.iload_n 2, 1) := by decide +kernel
theorem dX6_layWind_19 : decode cX6_layWind 19 = .ok (.iastore, 1) := by decide +kernel
theorem dX6_layWind_20 : decode cX6_layWind 20 = .ok (.aload_n 0, 1) := by decide +kernel
theorem dX6_layWind_21 : decode cX6_layWind 21 = .ok (.bipush 19, 2) := by decide +kernel
theorem dX6_layWind_23 : decode cX6_layWind 23 = .ok (.dup2, 1) := by decide +kernel
theorem dX6_layWind_24 : decode cX6_layWind 24 = .ok (.iaload, 1) := by decide +kernel
theorem dX6_layWind_25 : decode cX6_layWind 25 = .ok (.iconst 1, 1) := by decide +kernel
theorem dX6_layWind_26 : decode cX6_layWind 26 = .ok (.iadd, 1) := by decide +kernel
theorem dX6_layWind_27 : decode cX6_layWind 27 = .ok (.iastore, 1) := by decide +kernel
theorem dX6_layWind_28 : decode cX6_layWind 28 = .ok (.return_, 1) := by decide +kernel
set_option maxRecDepth 20000 in
theorem ggX6_wind_X6_isMinute : GoodIn wsX6_wind wsX6_isMinute := goodIn_r _ [5, 6, 7, 8, 4, 9] (by decide +kernel) (by decide +kernel)
set_option maxRecDepth 20000 in
theorem gX6_wind_X6_isMinute : GoodIn wsX6_wind (va_wsS RX6 94 yX6_isMinute wsX6_isMinute) := goodIn_app (goodIn_of _ (by decide +kernel)) ggX6_wind_X6_isMinute
set_option maxRecDepth 20000 in
theorem ggX6_wind_X6_isWire : GoodIn wsX6_wind wsX6_isWire := goodIn_r _ [13, 14, 15, 16, 4, 17, 1, 7, 8, 9, 30, 31, 32, 33, 34, 35, 36, 37, 38, 39, 40, 41, 42, 43, 44, 45, 46, 47, 48] (by decide +kernel) (by decide +kernel)
set_option maxRecDepth 20000 in
theorem gX6_wind_X6_isWire : GoodIn wsX6_wind (wsV RX6 78 RX6 yX6_isWire wsX6_isWire) := goodIn_app (goodIn_of _ (by decide +kernel)) ggX6_wind_X6_isWire
set_option maxRecDepth 20000 in
theorem ggX6_wind_X6_bad : GoodIn wsX6_wind wsX6_bad := goodIn_r _ [21, 22, 30, 31, 32, 33, 34, 35, 36, 37, 38, 39, 40, 41, 42, 43, 44, 45, 46, 47, 48] (by decide +kernel) (by decide +kernel)
set_option maxRecDepth 20000 in
theorem gX6_wind_X6_bad : GoodIn wsX6_wind (wsV RX6 70 RX6 yX6_bad wsX6_bad) := goodIn_app (goodIn_of _ (by decide +kernel)) ggX6_wind_X6_bad
set_option maxRecDepth 20000 in
theorem ggX6_wind_X6_full : GoodIn wsX6_wind wsX6_full := goodIn_r _ [26, 22, 30, 31, 32, 33, 34, 35, 36, 37, 38, 39, 40, 41, 42, 43, 44, 45, 46, 47, 48] (by decide +kernel) (by decide +kernel)
set_option maxRecDepth 20000 in
theorem gX6_wind_X6_full : GoodIn wsX6_wind (wsV RX6 97 RX6 yX6_full wsX6_full) := goodIn_app (goodIn_of _ (by decide +kernel)) ggX6_wind_X6_full
set_option maxRecDepth 20000 in
theorem ggX6_wind_X6_layWind : GoodIn wsX6_wind wsX6_layWind := goodIn_r _ [29] (by decide +kernel) (by decide +kernel)
set_option maxRecDepth 20000 in
theorem gX6_wind_X6_layWind : GoodIn wsX6_wind (va_wsS RX6 100 yX6_layWind wsX6_layWind) := goodIn_app (goodIn_of _ (by decide +kernel)) ggX6_wind_X6_layWind
theorem dX6_wind_0 : decode cX6_wind 0 = .ok (.iload_n 1, 1) := by decide +kernel
theorem dX6_wind_1 : decode cX6_wind 1 = .ok (.invokestatic 94, 3) := by decide +kernel
theorem dX6_wind_4 : decode cX6_wind 4 = .ok (.ifCond .eq 11, 3) := by decide +kernel
theorem dX6_wind_7 : decode cX6_wind 7 = .ok (.aload_n 0, 1) := by decide +kernel
theorem dX6_wind_8 : decode cX6_wind 8 = .ok (.iload_n 2, 1) := by decide +kernel
theorem dX6_wind_9 : decode cX6_wind 9 = .ok (.invokevirtual 78, 3) := by decide +kernel
theorem dX6_wind_12 : decode cX6_wind 12 = .ok (.ifCond .ne 10, 3) := by decide +kernel
theorem dX6_wind_15 : decode cX6_wind 15 = .ok (.aload_n 0, 1) := by decide +kernel
theorem dX6_wind_16 : decode cX6_wind 16 = .ok (.bipush (-2), 2) := by decide +kernel
theorem dX6_wind_18 : decode cX6_wind 18 = .ok (.invokevirtual 70, 3) := by decide +kernel
theorem dX6_wind_21 : decode cX6_wind 21 = .ok (.ireturn, 1) := by decide +kernel
theorem dX6_wind_22 : decode cX6_wind 22 = .ok (.aload_n 0, 1) := by decide +kernel
theorem dX6_wind_23 : decode cX6_wind 23 = .ok (.getfield 7, 3) := by decide +kernel
theorem dX6_wind_26 : decode cX6_wind 26 = .ok (.bipush 19, 2) := by decide +kernel
theorem dX6_wind_28 : decode cX6_wind 28 = .ok (.iaload, 1) := by decide +kernel
theorem dX6_wind_29 : decode cX6_wind 29 = .ok (.bipush 6, 2) := by decide +kernel
theorem dX6_wind_31 : decode cX6_wind 31 = .ok (.if_icmp .ne 8, 3) := by decide +kernel
theorem dX6_wind_34 : decode cX6_wind 34 = .ok (.aload_n 0, 1) := by decide +kernel
theorem dX6_wind_35 : decode cX6_wind 35 = .ok (.invokevirtual 97, 3) := by decide +kernel
theorem dX6_wind_38 : decode cX6_wind 38 = .ok (.ireturn, 1) := by decide +kernel
theorem dX6_wind_39 : decode cX6_wind 39 = .ok (.aload_n 0, 1) := by decide +kernel
theorem dX6_wind_40 : decode cX6_wind 40 = .ok (.getfield 7, 3) := by decide +kernel
theorem dX6_wind_43 : decode cX6_wind 43 = .ok (.iload_n 1, 1) := by decide +kernel
theorem dX6_wind_44 : decode cX6_wind 44 = .ok (.iload_n 2, 1) := by decide +kernel
theorem dX6_wind_45 : decode cX6_wind 45 = .ok (.invokestatic 100, 3) := by decide +kernel
theorem dX6_wind_48 : decode cX6_wind 48 = .ok (.aload_n 0, 1) := by decide +kernel
theorem dX6_wind_49 : decode cX6_wind 49 = .ok (.getfield 7, 3) := by decide +kernel
theorem dX6_wind_52 : decode cX6_wind 52 = .ok (.bipush 19, 2) := by decide +kernel
theorem dX6_wind_54 : decode cX6_wind 54 = .ok (.iaload, 1) := by decide +kernel
theorem dX6_wind_55 : decode cX6_wind 55 = .ok (.iconst 1, 1) := by decide +kernel
theorem dX6_wind_56 : decode cX6_wind 56 = .ok (.isub, 1) := by decide +kernel
theorem dX6_wind_57 : decode cX6_wind 57 = .ok (.ireturn, 1) := by decide +kernel
theorem dX6_calm_0 : decode cX6_calm 0 = .ok (.aload_n 0, 1) := by decide +kernel
theorem dX6_calm_1 : decode cX6_calm 1 = .ok (.getfield 7, 3) := by decide +kernel
theorem dX6_calm_4 : decode cX6_calm 4 = .ok (.bipush 19, 2) := by decide +kernel
theorem dX6_calm_6 : decode cX6_calm 6 = .ok (.iaload, 1) := by decide +kernel
theorem dX6_calm_7 : decode cX6_calm 7 = .ok (.istore_n 1, 1) := by decide +kernel
theorem dX6_calm_8 : decode cX6_calm 8 = .ok (.aload_n 0, 1) := by decide +kernel
theorem dX6_calm_9 : decode cX6_calm 9 = .ok (.getfield 7, 3) := by decide +kernel
theorem dX6_calm_12 : decode cX6_calm 12 = .ok (.bipush 19, 2) := by decide +kernel
theorem dX6_calm_14 : decode cX6_calm 14 = .ok (.iconst 0, 1) := by decide +kernel
theorem dX6_calm_15 : decode cX6_calm 15 = .ok (.iastore, 1) := by decide +kernel
theorem dX6_calm_16 : decode cX6_calm 16 = .ok (.iload_n 1, 1) := by decide +kernel
theorem dX6_calm_17 : decode cX6_calm 17 = .ok (.ireturn, 1) := by decide +kernel
theorem dX6_layPass_0 : decode cX6_layPass 0 = .ok (.bipush 33, 2) := by decide +kernel
theorem dX6_layPass_2 : decode cX6_layPass 2 = .ok (.iconst 3, 1) := by decide +kernel
theorem dX6_layPass_3 : decode cX6_layPass 3 = .ok (.aload_n 0, 1) := by decide +kernel
theorem dX6_layPass_4 : decode cX6_layPass 4 = .ok (.bipush 32, 2) := by decide +kernel
theorem dX6_layPass_6 : decode cX6_layPass 6 = .ok (.iaload, 1) := by decide +kernel
theorem dX6_layPass_7 : decode cX6_layPass 7 = .ok (.imul, 1) := by decide +kernel
theorem dX6_layPass_8 : decode cX6_layPass 8 = .ok (.iadd, 1) := by decide +kernel
theorem dX6_layPass_9 : decode cX6_layPass 9 = .ok (.istore 4, 2) := by decide +kernel
theorem dX6_layPass_11 : decode cX6_layPass 11 = .ok (.aload_n 0, 1) := by decide +kernel
theorem dX6_layPass_12 : decode cX6_layPass 12 = .ok (.iload 4, 2) := by decide +kernel
theorem dX6_layPass_14 : decode cX6_layPass 14 = .ok (.iload_n 1, 1) := by decide +kernel
theorem dX6_layPass_15 : decode cX6_layPass 15 = .ok (.iastore, 1) := by decide +kernel
theorem dX6_layPass_16 : decode cX6_layPass 16 = .ok (.aload_n 0, 1) := by decide +kernel
theorem dX6_layPass_17 : decode cX6_layPass 17 = .ok (.iload 4, 2) := by decide +kernel
theorem dX6_layPass_19 : decode cX6_layPass 19 = .ok (.iconst 1, 1) := by decide +kernel
theorem dX6_layPass_20 : decode cX6_layPass 20 = .ok (.iadd, 1) := by decide +kernel
theorem dX6_layPass_21 : decode cX6_layPass 21 = .ok (.iload_n 2, 1) := by decide +kernel
theorem dX6_layPass_22 : decode cX6_layPass 22 = .ok (.iastore, 1) := by decide +kernel
theorem dX6_layPass_23 : decode cX6_layPass 23 = .ok (.aload_n 0, 1) := by decide +kernel
theorem dX6_layPass_24 : decode cX6_layPass 24 = .ok (.iload 4, 2) := by decide +kernel
theorem dX6_layPass_26 : decode cX6_layPass 26 = .ok (.iconst 2, 1) := by decide +kernel
theorem dX6_layPass_27 : decode cX6_layPass 27 = .ok (.iadd, 1) := by decide +kernel
theorem dX6_layPass_28 : decode cX6_layPass 28 = .ok (.iload_n 3, 1) := by decide +kernel
theorem dX6_layPass_29 : decode cX6_layPass 29 = .ok (.iastore, 1) := by decide +kernel
theorem dX6_layPass_30 : decode cX6_layPass 30 = .ok (.aload_n 0, 1) := by decide +kernel
theorem dX6_layPass_31 : decode cX6_layPass 31 = .ok (.bipush 32, 2) := by decide +kernel
theorem dX6_layPass_33 : decode cX6_layPass 33 = .ok (.dup2, 1) := by decide +kernel
theorem dX6_layPass_34 : decode cX6_layPass 34 = .ok (.iaload, 1) := by decide +kernel
theorem dX6_layPass_35 : decode cX6_layPass 35 = .ok (.iconst 1, 1) := by decide +kernel
theorem dX6_layPass_36 : decode cX6_layPass 36 = .ok (.iadd, 1) := by decide +kernel
theorem dX6_layPass_37 : decode cX6_layPass 37 = .ok (.iastore, 1) := by decide +kernel
theorem dX6_layPass_38 : decode cX6_layPass 38 = .ok (.return_, 1) := by decide +kernel
set_option maxRecDepth 20000 in
theorem ggX6_pass_X6_isMinute : GoodIn wsX6_pass wsX6_isMinute := goodIn_r _ [5, 6, 7, 8, 4, 9] (by decide +kernel) (by decide +kernel)
set_option maxRecDepth 20000 in
theorem gX6_pass_X6_isMinute : GoodIn wsX6_pass (va_wsS RX6 94 yX6_isMinute wsX6_isMinute) := goodIn_app (goodIn_of _ (by decide +kernel)) ggX6_pass_X6_isMinute
set_option maxRecDepth 20000 in
theorem ggX6_pass_X6_isWire : GoodIn wsX6_pass wsX6_isWire := goodIn_r _ [13, 14, 15, 16, 4, 17, 1, 7, 8, 9, 34, 35, 36, 37, 38, 39, 40, 41, 42, 43, 44, 45, 46, 47, 48, 49, 50, 51, 52] (by decide +kernel) (by decide +kernel)
set_option maxRecDepth 20000 in
theorem gX6_pass_X6_isWire : GoodIn wsX6_pass (wsV RX6 78 RX6 yX6_isWire wsX6_isWire) := goodIn_app (goodIn_of _ (by decide +kernel)) ggX6_pass_X6_isWire
set_option maxRecDepth 20000 in
theorem ggX6_pass_X6_isStep : GoodIn wsX6_pass wsX6_isStep := goodIn_r _ [20, 21, 7, 8, 4, 9] (by decide +kernel) (by decide +kernel)
set_option maxRecDepth 20000 in
theorem gX6_pass_X6_isStep : GoodIn wsX6_pass (va_wsS RX6 104 yX6_isStep wsX6_isStep) := goodIn_app (goodIn_of _ (by decide +kernel)) ggX6_pass_X6_isStep
set_option maxRecDepth 20000 in
theorem ggX6_pass_X6_bad : GoodIn wsX6_pass wsX6_bad := goodIn_r _ [25, 26, 34, 35, 36, 37, 38, 39, 40, 41, 42, 43, 44, 45, 46, 47, 48, 49, 50, 51, 52] (by decide +kernel) (by decide +kernel)
set_option maxRecDepth 20000 in
theorem gX6_pass_X6_bad : GoodIn wsX6_pass (wsV RX6 70 RX6 yX6_bad wsX6_bad) := goodIn_app (goodIn_of _ (by decide +kernel)) ggX6_pass_X6_bad
set_option maxRecDepth 20000 in
theorem ggX6_pass_X6_full : GoodIn wsX6_pass wsX6_full := goodIn_r _ [30, 26, 34, 35, 36, 37, 38, 39, 40, 41, 42, 43, 44, 45, 46, 47, 48, 49, 50, 51, 52] (by decide +kernel) (by decide +kernel)
set_option maxRecDepth 20000 in
theorem gX6_pass_X6_full : GoodIn wsX6_pass (wsV RX6 97 RX6 yX6_full wsX6_full) := goodIn_app (goodIn_of _ (by decide +kernel)) ggX6_pass_X6_full
set_option maxRecDepth 20000 in
theorem ggX6_pass_X6_layPass : GoodIn wsX6_pass wsX6_layPass := goodIn_r _ [33] (by decide +kernel) (by decide +kernel)
set_option maxRecDepth 20000 in
theorem gX6_pass_X6_layPass : GoodIn wsX6_pass (va_wsS RX6 107 yX6_layPass wsX6_layPass) := goodIn_app (goodIn_of _ (by decide +kernel)) ggX6_pass_X6_layPass
theorem dX6_pass_0 : decode cX6_pass 0 = .ok (.iload_n 1, 1) := by decide +kernel
theorem dX6_pass_1 : decode cX6_pass 1 = .ok (.invokestatic 94, 3) := by decide +kernel
theorem dX6_pass_4 : decode cX6_pass 4 = .ok (.ifCond .eq 18, 3) := by decide +kernel
theorem dX6_pass_7 : decode cX6_pass 7 = .ok (.aload_n 0, 1) := by decide +kernel
theorem dX6_pass_8 : decode cX6_pass 8 = .ok (.iload_n 2, 1) := by decide +kernel
theorem dX6_pass_9 : decode cX6_pass 9 = .ok (.invokevirtual 78, 3) := by decide +kernel
theorem dX6_pass_12 : decode cX6_pass 12 = .ok (.ifCond .eq 10, 3) := by decide +kernel
theorem dX6_pass_15 : decode cX6_pass 15 = .ok (.iload_n 3, 1) := by decide +kernel
theorem dX6_pass_16 : decode cX6_pass 16 = .ok (.invokestatic 104, 3) := by decide +kernel
theorem dX6_pass_19 : decode cX6_pass 19 = .ok (.ifCond .ne 10, 3) := by decide +kernel
theorem dX6_pass_22 : decode cX6_pass 22 = .ok (.aload_n 0, 1) := by decide +kernel
theorem dX6_pass_23 : decode cX6_pass 23 = .ok (.bipush (-2), 2) := by decide +kernel
theorem dX6_pass_25 : decode cX6_pass 25 = .ok (.invokevirtual 70, 3) := by decide +kernel
theorem dX6_pass_28 : decode cX6_pass 28 = .ok (.ireturn, 1) := by decide +kernel
theorem dX6_pass_29 : decode cX6_pass 29 = .ok (.aload_n 0, 1) := by decide +kernel
theorem dX6_pass_30 : decode cX6_pass 30 = .ok (.getfield 7, 3) := by decide +kernel
theorem dX6_pass_33 : decode cX6_pass 33 = .ok (.bipush 32, 2) := by decide +kernel
theorem dX6_pass_35 : decode cX6_pass 35 = .ok (.iaload, 1) := by decide +kernel
theorem dX6_pass_36 : decode cX6_pass 36 = .ok (.bipush 8, 2) := by decide +kernel
theorem dX6_pass_38 : decode cX6_pass 38 = .ok (.if_icmp .ne 8, 3) := by decide +kernel
theorem dX6_pass_41 : decode cX6_pass 41 = .ok (.aload_n 0, 1) := by decide +kernel
theorem dX6_pass_42 : decode cX6_pass 42 = .ok (.invokevirtual 97, 3) := by decide +kernel
theorem dX6_pass_45 : decode cX6_pass 45 = .ok (.ireturn, 1) := by decide +kernel
theorem dX6_pass_46 : decode cX6_pass 46 = .ok (.aload_n 0, 1) := by decide +kernel
theorem dX6_pass_47 : decode cX6_pass 47 = .ok (.getfield 7, 3) := by decide +kernel
theorem dX6_pass_50 : decode cX6_pass 50 = .ok (.iload_n 1, 1) := by decide +kernel
theorem dX6_pass_51 : decode cX6_pass 51 = .ok (.iload_n 2, 1) := by decide +kernel
theorem dX6_pass_52 : decode cX6_pass 52 = .ok (.iload_n 3, 1) := by decide +kernel
theorem dX6_pass_53 : decode cX6_pass 53 = .ok (.invokestatic 107, 3) := by decide +kernel
theorem dX6_pass_56 : decode cX6_pass 56 = .ok (.aload_n 0, 1) := by decide +kernel
theorem dX6_pass_57 : decode cX6_pass 57 = .ok (.getfield 7, 3) := by decide +kernel
theorem dX6_pass_60 : decode cX6_pass 60 = .ok (.bipush 32, 2) := by decide +kernel
theorem dX6_pass_62 : decode cX6_pass 62 = .ok (.iaload, 1) := by decide +kernel
theorem dX6_pass_63 : decode cX6_pass 63 = .ok (.iconst 1, 1) := by decide +kernel
theorem dX6_pass_64 : decode cX6_pass 64 = .ok (.isub, 1) := by decide +kernel
theorem dX6_pass_65 : decode cX6_pass 65 = .ok (.ireturn, 1) := by decide +kernel
set_option maxRecDepth 20000 in
theorem ggX6_undo_X6_no : GoodIn wsX6_undo wsX6_no := goodIn_r _ [6, 7, 8, 9, 10, 11, 12, 13, 14, 15, 16, 17, 18, 19, 20, 21, 22, 23, 24, 25, 26] (by decide +kernel) (by decide +kernel)
set_option maxRecDepth 20000 in
theorem gX6_undo_X6_no : GoodIn wsX6_undo (wsV RX6 91 RX6 yX6_no wsX6_no) := goodIn_app (goodIn_of _ (by decide +kernel)) ggX6_undo_X6_no
theorem dX6_undo_0 : decode cX6_undo 0 = .ok (.aload_n 0, 1) := by decide +kernel
theorem dX6_undo_1 : decode cX6_undo 1 = .ok (.getfield 7, 3) := by decide +kernel
theorem dX6_undo_4 : decode cX6_undo 4 = .ok (.bipush 32, 2) := by decide +kernel
theorem dX6_undo_6 : decode cX6_undo 6 = .ok (.iaload, 1) := by decide +kernel
theorem dX6_undo_7 : decode cX6_undo 7 = .ok (.ifCond .ne 8, 3) := by decide +kernel
theorem dX6_undo_10 : decode cX6_undo 10 = .ok (.aload_n 0, 1) := by decide +kernel
theorem dX6_undo_11 : decode cX6_undo 11 = .ok (.invokevirtual 91, 3) := by decide +kernel
theorem dX6_undo_14 : decode cX6_undo 14 = .ok (.ireturn, 1) := by decide +kernel
theorem dX6_undo_15 : decode cX6_undo 15 = .ok (.aload_n 0, 1) := by decide +kernel
theorem dX6_undo_16 : decode cX6_undo 16 = .ok (.getfield 7, 3) := by decide +kernel
theorem dX6_undo_19 : decode cX6_undo 19 = .ok (.bipush 32, 2) := by decide +kernel
theorem dX6_undo_21 : decode cX6_undo 21 = .ok (.dup2, 1) := by decide +kernel
theorem dX6_undo_22 : decode cX6_undo 22 = .ok (.iaload, 1) := by decide +kernel
theorem dX6_undo_23 : decode cX6_undo 23 = .ok (.iconst 1, 1) := by decide +kernel
theorem dX6_undo_24 : decode cX6_undo 24 = .ok (.isub, 1) := by decide +kernel
theorem dX6_undo_25 : decode cX6_undo 25 = .ok (.iastore, 1) := by decide +kernel
theorem dX6_undo_26 : decode cX6_undo 26 = .ok (.aload_n 0, 1) := by decide +kernel
theorem dX6_undo_27 : decode cX6_undo 27 = .ok (.getfield 7, 3) := by decide +kernel
theorem dX6_undo_30 : decode cX6_undo 30 = .ok (.bipush 32, 2) := by decide +kernel
theorem dX6_undo_32 : decode cX6_undo 32 = .ok (.iaload, 1) := by decide +kernel
theorem dX6_undo_33 : decode cX6_undo 33 = .ok (.ireturn, 1) := by decide +kernel
theorem dX6_strength_0 : decode cX6_strength 0 = .ok (.iload_n 0, 1) := by decide +kernel
theorem dX6_strength_1 : decode cX6_strength 1 = .ok (.iconst 3, 1) := by decide +kernel
theorem dX6_strength_2 : decode cX6_strength 2 = .ok (.if_icmp .ne 7, 3) := by decide +kernel
theorem dX6_strength_5 : decode cX6_strength 5 = .ok (.iconst 3, 1) := by decide +kernel
theorem dX6_strength_6 : decode cX6_strength 6 = .ok (.goto 6, 3) := by decide +kernel
theorem dX6_strength_9 : decode cX6_strength 9 = .ok (.iload_n 0, 1) := by decide +kernel
theorem dX6_strength_10 : decode cX6_strength 10 = .ok (.iconst 1, 1) := by decide +kernel
theorem dX6_strength_11 : decode cX6_strength 11 = .ok (.iadd, 1) := by decide +kernel
theorem dX6_strength_12 : decode cX6_strength 12 = .ok (.ireturn, 1) := by decide +kernel
theorem dX6_loud_0 : decode cX6_loud 0 = .ok (.aload_n 0, 1) := by decide +kernel
theorem dX6_loud_1 : decode cX6_loud 1 = .ok (.getfield 7, 3) := by decide +kernel
theorem dX6_loud_4 : decode cX6_loud 4 = .ok (.iconst 3, 1) := by decide +kernel
theorem dX6_loud_5 : decode cX6_loud 5 = .ok (.iload_n 1, 1) := by decide +kernel
theorem dX6_loud_6 : decode cX6_loud 6 = .ok (.iadd, 1) := by decide +kernel
theorem dX6_loud_7 : decode cX6_loud 7 = .ok (.iaload, 1) := by decide +kernel
theorem dX6_loud_8 : decode cX6_loud 8 = .ok (.tableswitch 42 1 4 #[32, 36, 36, 40], 32) := by decide +kernel
theorem dX6_loud_40 : decode cX6_loud 40 = .ok (.iload_n 2, 1) := by decide +kernel
theorem dX6_loud_41 : decode cX6_loud 41 = .ok (.iconst 2, 1) := by decide +kernel
theorem dX6_loud_42 : decode cX6_loud 42 = .ok (.iadd, 1) := by decide +kernel
theorem dX6_loud_43 : decode cX6_loud 43 = .ok (.ireturn, 1) := by decide +kernel
theorem dX6_loud_44 : decode cX6_loud 44 = .ok (.iload_n 2, 1) := by decide +kernel
theorem dX6_loud_45 : decode cX6_loud 45 = .ok (.iconst 1, 1) := by decide +kernel
theorem dX6_loud_46 : decode cX6_loud 46 = .ok (.isub, 1) := by decide +kernel
theorem dX6_loud_47 : decode cX6_loud 47 = .ok (.ireturn, 1) := by decide +kernel
theorem dX6_loud_48 : decode cX6_loud 48 = .ok (.iconst 0, 1) := by decide +kernel
theorem dX6_loud_49 : decode cX6_loud 49 = .ok (.ireturn, 1) := by decide +kernel
theorem dX6_loud_50 : decode cX6_loud 50 = .ok (.iload_n 2, 1) := by decide +kernel
theorem dX6_loud_51 : decode cX6_loud 51 = .ok (.ireturn, 1) := by decide +kernel
theorem dX6_noteBy_0 : decode cX6_noteBy 0 = .ok (.iload_n 0, 1) := by decide +kernel
theorem dX6_noteBy_1 : decode cX6_noteBy 1 = .ok (.iconst 3, 1) := by decide +kernel
theorem dX6_noteBy_2 : decode cX6_noteBy 2 = .ok (.if_icmp .ne 10, 3) := by decide +kernel
theorem dX6_noteBy_5 : decode cX6_noteBy 5 = .ok (.iload_n 1, 1) := by decide +kernel
theorem dX6_noteBy_6 : decode cX6_noteBy 6 = .ok (.bipush 11, 2) := by decide +kernel
theorem dX6_noteBy_8 : decode cX6_noteBy 8 = .ok (.iadd, 1) := by decide +kernel
theorem dX6_noteBy_9 : decode cX6_noteBy 9 = .ok (.goto 20, 3) := by decide +kernel
theorem dX6_noteBy_12 : decode cX6_noteBy 12 = .ok (.iload_n 0, 1) := by decide +kernel
theorem dX6_noteBy_13 : decode cX6_noteBy 13 = .ok (.iconst 2, 1) := by decide +kernel
theorem dX6_noteBy_14 : decode cX6_noteBy 14 = .ok (.if_icmp .ne 12, 3) := by decide +kernel
theorem dX6_noteBy_17 : decode cX6_noteBy 17 = .ok (.iload_n 1, 1) := by decide +kernel
theorem dX6_noteBy_18 : decode cX6_noteBy 18 = .ok (.iload_n 2, 1) := by decide +kernel
theorem dX6_noteBy_19 : decode cX6_noteBy 19 = .ok (.iadd, 1) := by decide +kernel
theorem dX6_noteBy_20 : decode cX6_noteBy 20 = .ok (.bipush 11, 2) := by decide +kernel
theorem dX6_noteBy_22 : decode cX6_noteBy 22 = .ok (.iadd, 1) := by decide +kernel
theorem dX6_noteBy_23 : decode cX6_noteBy 23 = .ok (.goto 6, 3) := by decide +kernel
theorem dX6_noteBy_26 : decode cX6_noteBy 26 = .ok (.iload_n 1, 1) := by decide +kernel
theorem dX6_noteBy_27 : decode cX6_noteBy 27 = .ok (.iload_n 2, 1) := by decide +kernel
theorem dX6_noteBy_28 : decode cX6_noteBy 28 = .ok (.iadd, 1) := by decide +kernel
theorem dX6_noteBy_29 : decode cX6_noteBy 29 = .ok (.istore_n 3, 1) := by decide +kernel
theorem dX6_noteBy_30 : decode cX6_noteBy 30 = .ok (.iload_n 3, 1) := by decide +kernel
theorem dX6_noteBy_31 : decode cX6_noteBy 31 = .ok (.bipush 12, 2) := by decide +kernel
theorem dX6_noteBy_33 : decode cX6_noteBy 33 = .ok (.irem, 1) := by decide +kernel
theorem dX6_noteBy_34 : decode cX6_noteBy 34 = .ok (.ireturn, 1) := by decide +kernel
set_option maxRecDepth 20000 in
theorem ggX6_noteOf_X6_noteBy : GoodIn wsX6_noteOf wsX6_noteBy := goodIn_r _ [5] (by decide +kernel) (by decide +kernel)
set_option maxRecDepth 20000 in
theorem gX6_noteOf_X6_noteBy : GoodIn wsX6_noteOf (va_wsS RX6 111 yX6_noteBy wsX6_noteBy) := goodIn_app (goodIn_of _ (by decide +kernel)) ggX6_noteOf_X6_noteBy
theorem dX6_noteOf_0 : decode cX6_noteOf 0 = .ok (.aload_n 0, 1) := by decide +kernel
theorem dX6_noteOf_1 : decode cX6_noteOf 1 = .ok (.getfield 7, 3) := by decide +kernel
theorem dX6_noteOf_4 : decode cX6_noteOf 4 = .ok (.iconst 3, 1) := by decide +kernel
theorem dX6_noteOf_5 : decode cX6_noteOf 5 = .ok (.iload_n 1, 1) := by decide +kernel
theorem dX6_noteOf_6 : decode cX6_noteOf 6 = .ok (.iadd, 1) := by decide +kernel
theorem dX6_noteOf_7 : decode cX6_noteOf 7 = .ok (.iaload, 1) := by decide +kernel
theorem dX6_noteOf_8 : decode cX6_noteOf 8 = .ok (.aload_n 0, 1) := by decide +kernel
theorem dX6_noteOf_9 : decode cX6_noteOf 9 = .ok (.getfield 7, 3) := by decide +kernel
theorem dX6_noteOf_12 : decode cX6_noteOf 12 = .ok (.bipush 11, 2) := by decide +kernel
theorem dX6_noteOf_14 : decode cX6_noteOf 14 = .ok (.iload_n 1, 1) := by decide +kernel
theorem dX6_noteOf_15 : decode cX6_noteOf 15 = .ok (.iadd, 1) := by decide +kernel
theorem dX6_noteOf_16 : decode cX6_noteOf 16 = .ok (.iaload, 1) := by decide +kernel
theorem dX6_noteOf_17 : decode cX6_noteOf 17 = .ok (.aload_n 0, 1) := by decide +kernel
theorem dX6_noteOf_18 : decode cX6_noteOf 18 = .ok (.getfield 7, 3) := by decide +kernel
theorem dX6_noteOf_21 : decode cX6_noteOf 21 = .ok (.iconst 1, 1) := by decide +kernel
theorem dX6_noteOf_22 : decode cX6_noteOf 22 = .ok (.iaload, 1) := by decide +kernel
theorem dX6_noteOf_23 : decode cX6_noteOf 23 = .ok (.invokestatic 111, 3) := by decide +kernel
theorem dX6_noteOf_26 : decode cX6_noteOf 26 = .ok (.ireturn, 1) := by decide +kernel
theorem dX6_far_0 : decode cX6_far 0 = .ok (.iload_n 0, 1) := by decide +kernel
theorem dX6_far_1 : decode cX6_far 1 = .ok (.iload_n 1, 1) := by decide +kernel
theorem dX6_far_2 : decode cX6_far 2 = .ok (.if_icmp .gt 9, 3) := by decide +kernel
theorem dX6_far_5 : decode cX6_far 5 = .ok (.iload_n 1, 1) := by decide +kernel
theorem dX6_far_6 : decode cX6_far 6 = .ok (.iload_n 0, 1) := by decide +kernel
theorem dX6_far_7 : decode cX6_far 7 = .ok (.isub, 1) := by decide +kernel
theorem dX6_far_8 : decode cX6_far 8 = .ok (.goto 8, 3) := by decide +kernel
theorem dX6_far_11 : decode cX6_far 11 = .ok (.iload_n 0, 1) := by decide +kernel
theorem dX6_far_12 : decode cX6_far 12 = .ok (.iload_n 1, 1) := by decide +kernel
theorem dX6_far_13 : decode cX6_far 13 = .ok (.isub, 1) := by decide +kernel
theorem dX6_far_14 : decode cX6_far 14 = .ok (.iconst 1, 1) := by decide +kernel
theorem dX6_far_15 : decode cX6_far 15 = .ok (.isub, 1) := by decide +kernel
theorem dX6_far_16 : decode cX6_far 16 = .ok (.ireturn, 1) := by decide +kernel
set_option maxRecDepth 20000 in
theorem ggX6_hears_X6_loud : GoodIn wsX6_hears wsX6_loud := goodIn_r _ [5, 6, 10, 11, 12, 13, 14, 15, 16, 17, 18, 19, 20, 21, 22, 23, 24, 25, 26, 27, 28] (by decide +kernel) (by decide +kernel)
set_option maxRecDepth 20000 in
theorem gX6_hears_X6_loud : GoodIn wsX6_hears (wsV RX6 115 RX6 yX6_loud wsX6_loud) := goodIn_app (goodIn_of _ (by decide +kernel)) ggX6_hears_X6_loud
set_option maxRecDepth 20000 in
theorem ggX6_hears_X6_far : GoodIn wsX6_hears wsX6_far := goodIn_r _ [9] (by decide +kernel) (by decide +kernel)
set_option maxRecDepth 20000 in
theorem gX6_hears_X6_far : GoodIn wsX6_hears (va_wsS RX6 119 yX6_far wsX6_far) := goodIn_app (goodIn_of _ (by decide +kernel)) ggX6_hears_X6_far
theorem dX6_hears_0 : decode cX6_hears 0 = .ok (.aload_n 0, 1) := by decide +kernel
theorem dX6_hears_1 : decode cX6_hears 1 = .ok (.iload_n 2, 1) := by decide +kernel
theorem dX6_hears_2 : decode cX6_hears 2 = .ok (.iload_n 3, 1) := by decide +kernel
theorem dX6_hears_3 : decode cX6_hears 3 = .ok (.invokevirtual 115, 3) := by decide +kernel
theorem dX6_hears_6 : decode cX6_hears 6 = .ok (.iload_n 1, 1) := by decide +kernel
theorem dX6_hears_7 : decode cX6_hears 7 = .ok (.iload_n 2, 1) := by decide +kernel
theorem dX6_hears_8 : decode cX6_hears 8 = .ok (.invokestatic 119, 3) := by decide +kernel
theorem dX6_hears_11 : decode cX6_hears 11 = .ok (.if_icmp .le 7, 3) := by decide +kernel
theorem dX6_hears_14 : decode cX6_hears 14 = .ok (.iconst 1, 1) := by decide +kernel
theorem dX6_hears_15 : decode cX6_hears 15 = .ok (.goto 4, 3) := by decide +kernel
theorem dX6_hears_18 : decode cX6_hears 18 = .ok (.iconst 0, 1) := by decide +kernel
theorem dX6_hears_19 : decode cX6_hears 19 = .ok (.ireturn, 1) := by decide +kernel
set_option maxRecDepth 20000 in
theorem ggX6_sounds_X6_isWire : GoodIn wsX6_sounds wsX6_isWire := goodIn_r _ [6, 7, 8, 9, 5, 10, 11, 12, 13, 14, 31, 32, 33, 34, 35, 36, 37, 38, 39, 40, 41, 42, 43, 44, 45, 46, 47, 48, 49] (by decide +kernel) (by decide +kernel)
set_option maxRecDepth 20000 in
theorem gX6_sounds_X6_isWire : GoodIn wsX6_sounds (wsV RX6 78 RX6 yX6_isWire wsX6_isWire) := goodIn_app (goodIn_of _ (by decide +kernel)) ggX6_sounds_X6_isWire
set_option maxRecDepth 20000 in
theorem ggX6_sounds_X6_in : GoodIn wsX6_sounds wsX6_in := goodIn_r _ [14] (by decide +kernel) (by decide +kernel)
set_option maxRecDepth 20000 in
theorem gX6_sounds_X6_in : GoodIn wsX6_sounds (va_wsS RX6 55 yX6_in wsX6_in) := goodIn_app (goodIn_of _ (by decide +kernel)) ggX6_sounds_X6_in
set_option maxRecDepth 20000 in
theorem ggX6_sounds_X6_bad : GoodIn wsX6_sounds wsX6_bad := goodIn_r _ [18, 19, 31, 32, 33, 34, 35, 36, 37, 38, 39, 40, 41, 42, 43, 44, 45, 46, 47, 48, 49] (by decide +kernel) (by decide +kernel)
set_option maxRecDepth 20000 in
theorem gX6_sounds_X6_bad : GoodIn wsX6_sounds (wsV RX6 70 RX6 yX6_bad wsX6_bad) := goodIn_app (goodIn_of _ (by decide +kernel)) ggX6_sounds_X6_bad
set_option maxRecDepth 20000 in
theorem ggX6_sounds_X6_loud : GoodIn wsX6_sounds wsX6_loud := goodIn_r _ [23, 11, 31, 32, 33, 34, 35, 36, 37, 38, 39, 40, 41, 42, 43, 44, 45, 46, 47, 48, 49] (by decide +kernel) (by decide +kernel)
set_option maxRecDepth 20000 in
theorem gX6_sounds_X6_loud : GoodIn wsX6_sounds (wsV RX6 115 RX6 yX6_loud wsX6_loud) := goodIn_app (goodIn_of _ (by decide +kernel)) ggX6_sounds_X6_loud
set_option maxRecDepth 20000 in
theorem ggX6_sounds_X6_noteOf : GoodIn wsX6_sounds wsX6_noteOf := goodIn_r _ [27, 11, 28, 29, 5, 30, 31, 32, 33, 34, 35, 36, 37, 38, 39, 40, 41, 42, 43, 44, 45, 46, 47, 48, 49] (by decide +kernel) (by decide +kernel)
set_option maxRecDepth 20000 in
theorem gX6_sounds_X6_noteOf : GoodIn wsX6_sounds (wsV RX6 122 RX6 yX6_noteOf wsX6_noteOf) := goodIn_app (goodIn_of _ (by decide +kernel)) ggX6_sounds_X6_noteOf
theorem dX6_sounds_0 : decode cX6_sounds 0 = .ok (.aload_n 0, 1) := by decide +kernel
theorem dX6_sounds_1 : decode cX6_sounds 1 = .ok (.iload_n 1, 1) := by decide +kernel
theorem dX6_sounds_2 : decode cX6_sounds 2 = .ok (.invokevirtual 78, 3) := by decide +kernel
theorem dX6_sounds_5 : decode cX6_sounds 5 = .ok (.ifCond .eq 25, 3) := by decide +kernel
theorem dX6_sounds_8 : decode cX6_sounds 8 = .ok (.iload_n 2, 1) := by decide +kernel
theorem dX6_sounds_9 : decode cX6_sounds 9 = .ok (.i2l, 1) := by decide +kernel
theorem dX6_sounds_10 : decode cX6_sounds 10 = .ok (.lconst 1, 1) := by decide +kernel
theorem dX6_sounds_11 : decode cX6_sounds 11 = .ok (.ldc2_w 64, 3) := by decide +kernel
theorem dX6_sounds_14 : decode cX6_sounds 14 = .ok (.invokestatic 55, 3) := by decide +kernel
theorem dX6_sounds_17 : decode cX6_sounds 17 = .ok (.ifCond .eq 13, 3) := by decide +kernel
theorem dX6_sounds_20 : decode cX6_sounds 20 = .ok (.iload_n 3, 1) := by decide +kernel
theorem dX6_sounds_21 : decode cX6_sounds 21 = .ok (.i2l, 1) := by decide +kernel
theorem dX6_sounds_22 : decode cX6_sounds 22 = .ok (.lconst 0, 1) := by decide +kernel
theorem dX6_sounds_23 : decode cX6_sounds 23 = .ok (.lconst 1, 1) := by decide +kernel
theorem dX6_sounds_24 : decode cX6_sounds 24 = .ok (.invokestatic 55, 3) := by decide +kernel
theorem dX6_sounds_27 : decode cX6_sounds 27 = .ok (.ifCond .ne 10, 3) := by decide +kernel
theorem dX6_sounds_30 : decode cX6_sounds 30 = .ok (.aload_n 0, 1) := by decide +kernel
theorem dX6_sounds_31 : decode cX6_sounds 31 = .ok (.bipush (-2), 2) := by decide +kernel
theorem dX6_sounds_33 : decode cX6_sounds 33 = .ok (.invokevirtual 70, 3) := by decide +kernel
theorem dX6_sounds_36 : decode cX6_sounds 36 = .ok (.ireturn, 1) := by decide +kernel
theorem dX6_sounds_37 : decode cX6_sounds 37 = .ok (.iload_n 3, 1) := by decide +kernel
theorem dX6_sounds_38 : decode cX6_sounds 38 = .ok (.ifCond .ne 12, 3) := by decide +kernel
theorem dX6_sounds_41 : decode cX6_sounds 41 = .ok (.aload_n 0, 1) := by decide +kernel
theorem dX6_sounds_42 : decode cX6_sounds 42 = .ok (.iload_n 1, 1) := by decide +kernel
theorem dX6_sounds_43 : decode cX6_sounds 43 = .ok (.iload_n 2, 1) := by decide +kernel
theorem dX6_sounds_44 : decode cX6_sounds 44 = .ok (.invokevirtual 115, 3) := by decide +kernel
theorem dX6_sounds_47 : decode cX6_sounds 47 = .ok (.goto 8, 3) := by decide +kernel
theorem dX6_sounds_50 : decode cX6_sounds 50 = .ok (.aload_n 0, 1) := by decide +kernel
theorem dX6_sounds_51 : decode cX6_sounds 51 = .ok (.iload_n 1, 1) := by decide +kernel
theorem dX6_sounds_52 : decode cX6_sounds 52 = .ok (.invokevirtual 122, 3) := by decide +kernel
theorem dX6_sounds_55 : decode cX6_sounds 55 = .ok (.ireturn, 1) := by decide +kernel
set_option maxRecDepth 20000 in
theorem ggX6_away_X6_isPost : GoodIn wsX6_away wsX6_isPost := goodIn_r _ [5, 6, 7, 8, 4, 9, 10, 11, 12, 13, 30, 31, 32, 33, 34, 35, 36, 37, 38, 39, 40, 41, 42, 43, 44, 45, 46, 47, 48] (by decide +kernel) (by decide +kernel)
set_option maxRecDepth 20000 in
theorem gX6_away_X6_isPost : GoodIn wsX6_away (wsV RX6 88 RX6 yX6_isPost wsX6_isPost) := goodIn_app (goodIn_of _ (by decide +kernel)) ggX6_away_X6_isPost
set_option maxRecDepth 20000 in
theorem ggX6_away_X6_isWire : GoodIn wsX6_away wsX6_isWire := goodIn_r _ [17, 18, 19, 20, 4, 21, 10, 11, 12, 13, 30, 31, 32, 33, 34, 35, 36, 37, 38, 39, 40, 41, 42, 43, 44, 45, 46, 47, 48] (by decide +kernel) (by decide +kernel)
set_option maxRecDepth 20000 in
theorem gX6_away_X6_isWire : GoodIn wsX6_away (wsV RX6 78 RX6 yX6_isWire wsX6_isWire) := goodIn_app (goodIn_of _ (by decide +kernel)) ggX6_away_X6_isWire
set_option maxRecDepth 20000 in
theorem ggX6_away_X6_far : GoodIn wsX6_away wsX6_far := goodIn_r _ [24] (by decide +kernel) (by decide +kernel)
set_option maxRecDepth 20000 in
theorem gX6_away_X6_far : GoodIn wsX6_away (va_wsS RX6 119 yX6_far wsX6_far) := goodIn_app (goodIn_of _ (by decide +kernel)) ggX6_away_X6_far
set_option maxRecDepth 20000 in
theorem ggX6_away_X6_bad : GoodIn wsX6_away wsX6_bad := goodIn_r _ [28, 29, 30, 31, 32, 33, 34, 35, 36, 37, 38, 39, 40, 41, 42, 43, 44, 45, 46, 47, 48] (by decide +kernel) (by decide +kernel)
set_option maxRecDepth 20000 in
theorem gX6_away_X6_bad : GoodIn wsX6_away (wsV RX6 70 RX6 yX6_bad wsX6_bad) := goodIn_app (goodIn_of _ (by decide +kernel)) ggX6_away_X6_bad
theorem dX6_away_0 : decode cX6_away 0 = .ok (.aload_n 0, 1) := by decide +kernel
theorem dX6_away_1 : decode cX6_away 1 = .ok (.iload_n 1, 1) := by decide +kernel
theorem dX6_away_2 : decode cX6_away 2 = .ok (.invokevirtual 88, 3) := by decide +kernel
theorem dX6_away_5 : decode cX6_away 5 = .ok (.ifCond .eq 19, 3) := by decide +kernel
theorem dX6_away_8 : decode cX6_away 8 = .ok (.aload_n 0, 1) := by decide +kernel
theorem dX6_away_9 : decode cX6_away 9 = .ok (.iload_n 2, 1) := by decide +kernel
theorem dX6_away_10 : decode cX6_away 10 = .ok (.invokevirtual 78, 3) := by decide +kernel
theorem dX6_away_13 : decode cX6_away 13 = .ok (.ifCond .eq 11, 3) := by decide +kernel
theorem dX6_away_16 : decode cX6_away 16 = .ok (.iload_n 1, 1) := by decide +kernel
theorem dX6_away_17 : decode cX6_away 17 = .ok (.iload_n 2, 1) := by decide +kernel
theorem dX6_away_18 : decode cX6_away 18 = .ok (.invokestatic 119, 3) := by decide +kernel
theorem dX6_away_21 : decode cX6_away 21 = .ok (.goto 9, 3) := by decide +kernel
theorem dX6_away_24 : decode cX6_away 24 = .ok (.aload_n 0, 1) := by decide +kernel
theorem dX6_away_25 : decode cX6_away 25 = .ok (.bipush (-2), 2) := by decide +kernel
theorem dX6_away_27 : decode cX6_away 27 = .ok (.invokevirtual 70, 3) := by decide +kernel
theorem dX6_away_30 : decode cX6_away 30 = .ok (.ireturn, 1) := by decide +kernel
set_option maxRecDepth 20000 in
theorem ggX6_noteAt_X6_hears : GoodIn wsX6_noteAt wsX6_hears := goodIn_r _ [5, 6, 7, 8, 4, 9, 10, 11, 12, 13, 21, 22, 23, 24, 25, 26, 27, 28, 29, 30, 31, 32, 33, 34, 35, 36, 37, 38, 39] (by decide +kernel) (by decide +kernel)
set_option maxRecDepth 20000 in
theorem gX6_noteAt_X6_hears : GoodIn wsX6_noteAt (wsV RX6 125 RX6 yX6_hears wsX6_hears) := goodIn_app (goodIn_of _ (by decide +kernel)) ggX6_noteAt_X6_hears
set_option maxRecDepth 20000 in
theorem ggX6_noteAt_X6_noteOf : GoodIn wsX6_noteAt wsX6_noteOf := goodIn_r _ [17, 10, 18, 19, 4, 20, 21, 22, 23, 24, 25, 26, 27, 28, 29, 30, 31, 32, 33, 34, 35, 36, 37, 38, 39] (by decide +kernel) (by decide +kernel)
set_option maxRecDepth 20000 in
theorem gX6_noteAt_X6_noteOf : GoodIn wsX6_noteAt (wsV RX6 122 RX6 yX6_noteOf wsX6_noteOf) := goodIn_app (goodIn_of _ (by decide +kernel)) ggX6_noteAt_X6_noteOf
theorem dX6_noteAt_0 : decode cX6_noteAt 0 = .ok (.aload_n 0, 1) := by decide +kernel
theorem dX6_noteAt_1 : decode cX6_noteAt 1 = .ok (.iload_n 1, 1) := by decide +kernel
theorem dX6_noteAt_2 : decode cX6_noteAt 2 = .ok (.iload_n 2, 1) := by decide +kernel
theorem dX6_noteAt_3 : decode cX6_noteAt 3 = .ok (.iload_n 3, 1) := by decide +kernel
theorem dX6_noteAt_4 : decode cX6_noteAt 4 = .ok (.invokevirtual 125, 3) := by decide +kernel
theorem dX6_noteAt_7 : decode cX6_noteAt 7 = .ok (.ifCond .eq 13, 3) := by decide +kernel
theorem dX6_noteAt_10 : decode cX6_noteAt 10 = .ok (.iconst 1, 1) := by decide +kernel
theorem dX6_noteAt_11 : decode cX6_noteAt 11 = .ok (.aload_n 0, 1) := by decide +kernel
theorem dX6_noteAt_12 : decode cX6_noteAt 12 = .ok (.iload_n 2, 1) := by decide +kernel
theorem dX6_noteAt_13 : decode cX6_noteAt 13 = .ok (.invokevirtual 122, 3) := by decide +kernel
theorem dX6_noteAt_16 : decode cX6_noteAt 16 = .ok (.ishl, 1) := by decide +kernel
theorem dX6_noteAt_17 : decode cX6_noteAt 17 = .ok (.goto 4, 3) := by decide +kernel
theorem dX6_noteAt_20 : decode cX6_noteAt 20 = .ok (.iconst 0, 1) := by decide +kernel
theorem dX6_noteAt_21 : decode cX6_noteAt 21 = .ok (.ireturn, 1) := by decide +kernel
set_option maxRecDepth 20000 in
theorem ggX6_notesBy_X6_strength : GoodIn wsX6_notesBy wsX6_strength := goodIn_r _ [4] (by decide +kernel) (by decide +kernel)
set_option maxRecDepth 20000 in
theorem gX6_notesBy_X6_strength : GoodIn wsX6_notesBy (va_wsS RX6 129 yX6_strength wsX6_strength) := goodIn_app (goodIn_of _ (by decide +kernel)) ggX6_notesBy_X6_strength
set_option maxRecDepth 20000 in
theorem ggX6_notesBy_X6_noteAt : GoodIn wsX6_notesBy wsX6_noteAt := goodIn_r _ [8, 9, 10, 11, 3, 12, 13, 14, 15, 16, 17, 18, 19, 20, 21, 22, 23, 24, 25, 26, 27, 32, 33, 34, 35, 36, 37, 38, 39, 40, 41, 42, 43, 44, 45, 46, 47, 48, 49, 50] (by decide +kernel) (by decide +kernel)
set_option maxRecDepth 20000 in
theorem gX6_notesBy_X6_noteAt : GoodIn wsX6_notesBy (wsV RX6 132 RX6 yX6_noteAt wsX6_noteAt) := goodIn_app (goodIn_of _ (by decide +kernel)) ggX6_notesBy_X6_noteAt
set_option maxRecDepth 20000 in
theorem ggX6_notesBy_X6_wires : GoodIn wsX6_notesBy wsX6_wires := goodIn_r _ [31, 17, 32, 33, 34, 35, 36, 37, 38, 39, 40, 41, 42, 43, 44, 45, 46, 47, 48, 49, 50] (by decide +kernel) (by decide +kernel)
set_option maxRecDepth 20000 in
theorem gX6_notesBy_X6_wires : GoodIn wsX6_notesBy (wsV RX6 59 RX6 yX6_wires wsX6_wires) := goodIn_app (goodIn_of _ (by decide +kernel)) ggX6_notesBy_X6_wires
theorem dX6_notesBy_0 : decode cX6_notesBy 0 = .ok (.aload_n 0, 1) := by decide +kernel
theorem dX6_notesBy_1 : decode cX6_notesBy 1 = .ok (.iload_n 1, 1) := by decide +kernel
theorem dX6_notesBy_2 : decode cX6_notesBy 2 = .ok (.iload_n 2, 1) := by decide +kernel
theorem dX6_notesBy_3 : decode cX6_notesBy 3 = .ok (.iload_n 3, 1) := by decide +kernel
theorem dX6_notesBy_4 : decode cX6_notesBy 4 = .ok (.invokestatic 129, 3) := by decide +kernel
theorem dX6_notesBy_7 : decode cX6_notesBy 7 = .ok (.invokevirtual 132, 3) := by decide +kernel
theorem dX6_notesBy_10 : decode cX6_notesBy 10 = .ok (.istore 4, 2) := by decide +kernel
theorem dX6_notesBy_12 : decode cX6_notesBy 12 = .ok (.iload_n 3, 1) := by decide +kernel
theorem dX6_notesBy_13 : decode cX6_notesBy 13 = .ok (.iconst 3, 1) := by decide +kernel
theorem dX6_notesBy_14 : decode cX6_notesBy 14 = .ok (.if_icmp .ne 28, 3) := by decide +kernel
theorem dX6_notesBy_17 : decode cX6_notesBy 17 = .ok (.iload_n 2, 1) := by decide +kernel
theorem dX6_notesBy_18 : decode cX6_notesBy 18 = .ok (.iconst 1, 1) := by decide +kernel
theorem dX6_notesBy_19 : decode cX6_notesBy 19 = .ok (.iadd, 1) := by decide +kernel
theorem dX6_notesBy_20 : decode cX6_notesBy 20 = .ok (.aload_n 0, 1) := by decide +kernel
theorem dX6_notesBy_21 : decode cX6_notesBy 21 = .ok (.invokevirtual 59, 3) := by decide +kernel
theorem dX6_notesBy_24 : decode cX6_notesBy 24 = .ok (.if_icmp .ge 18, 3) := by decide +kernel
theorem dX6_notesBy_27 : decode cX6_notesBy 27 = .ok (.iload 4, 2) := by decide +kernel
theorem dX6_notesBy_29 : decode cX6_notesBy 29 = .ok (.aload_n 0, 1) := by decide +kernel
theorem dX6_notesBy_30 : decode cX6_notesBy 30 = .ok (.iload_n 1, 1) := by decide +kernel
theorem dX6_notesBy_31 : decode cX6_notesBy 31 = .ok (.iload_n 2, 1) := by decide +kernel
theorem dX6_notesBy_32 : decode cX6_notesBy 32 = .ok (.iconst 1, 1) := by decide +kernel
theorem dX6_notesBy_33 : decode cX6_notesBy 33 = .ok (.iadd, 1) := by decide +kernel
theorem dX6_notesBy_34 : decode cX6_notesBy 34 = .ok (.iconst 1, 1) := by decide +kernel
theorem dX6_notesBy_35 : decode cX6_notesBy 35 = .ok (.invokevirtual 132, 3) := by decide +kernel
theorem dX6_notesBy_38 : decode cX6_notesBy 38 = .ok (.ior, 1) := by decide +kernel
theorem dX6_notesBy_39 : decode cX6_notesBy 39 = .ok (.goto 5, 3) := by decide +kernel
theorem dX6_notesBy_42 : decode cX6_notesBy 42 = .ok (.iload 4, 2) := by decide +kernel
theorem dX6_notesBy_44 : decode cX6_notesBy 44 = .ok (.ireturn, 1) := by decide +kernel
set_option maxRecDepth 20000 in
theorem ggX6_heardAt_X6_notesBy : GoodIn wsX6_heardAt wsX6_notesBy := goodIn_r _ [6, 7, 8, 5, 9, 10, 11, 12, 13, 14, 15, 16, 17, 18, 19, 20, 21, 1, 22, 23, 24, 25, 26, 27, 28, 29, 30, 31, 32, 33, 34, 35, 36, 37, 38, 39, 40, 41, 42, 43, 44, 45, 46, 47, 48, 49, 50, 51, 52, 53, 54] (by decide +kernel) (by decide +kernel)
set_option maxRecDepth 20000 in
theorem gX6_heardAt_X6_notesBy : GoodIn wsX6_heardAt (wsV RX6 135 RX6 yX6_notesBy wsX6_notesBy) := goodIn_app (goodIn_of _ (by decide +kernel)) ggX6_heardAt_X6_notesBy
set_option maxRecDepth 20000 in
theorem ggX6_heardAt_X6_noteAt : GoodIn wsX6_heardAt wsX6_noteAt := goodIn_r _ [13, 14, 15, 16, 5, 17, 18, 19, 20, 21, 1, 22, 23, 24, 25, 26, 27, 28, 29, 30, 31, 36, 37, 38, 39, 40, 41, 42, 43, 44, 45, 46, 47, 48, 49, 50, 51, 52, 53, 54] (by decide +kernel) (by decide +kernel)
set_option maxRecDepth 20000 in
theorem gX6_heardAt_X6_noteAt : GoodIn wsX6_heardAt (wsV RX6 132 RX6 yX6_noteAt wsX6_noteAt) := goodIn_app (goodIn_of _ (by decide +kernel)) ggX6_heardAt_X6_noteAt
theorem dX6_heardAt_0 : decode cX6_heardAt 0 = .ok (.iconst 0, 1) := by decide +kernel
theorem dX6_heardAt_1 : decode cX6_heardAt 1 = .ok (.istore_n 3, 1) := by decide +kernel
theorem dX6_heardAt_2 : decode cX6_heardAt 2 = .ok (.iconst 0, 1) := by decide +kernel
theorem dX6_heardAt_3 : decode cX6_heardAt 3 = .ok (.istore 4, 2) := by decide +kernel
theorem dX6_heardAt_5 : decode cX6_heardAt 5 = .ok (.iload 4, 2) := by decide +kernel
theorem dX6_heardAt_7 : decode cX6_heardAt 7 = .ok (.aload_n 0, 1) := by decide +kernel
theorem dX6_heardAt_8 : decode cX6_heardAt 8 = .ok (.getfield 7, 3) := by decide +kernel
theorem dX6_heardAt_11 : decode cX6_heardAt 11 = .ok (.bipush 32, 2) := by decide +kernel
theorem dX6_heardAt_13 : decode cX6_heardAt 13 = .ok (.iaload, 1) := by decide +kernel
theorem dX6_heardAt_14 : decode cX6_heardAt 14 = .ok (.if_icmp .ge 59, 3) := by decide +kernel
theorem dX6_heardAt_17 : decode cX6_heardAt 17 = .ok (.bipush 33, 2) := by decide +kernel
theorem dX6_heardAt_19 : decode cX6_heardAt 19 = .ok (.iconst 3, 1) := by decide +kernel
theorem dX6_heardAt_20 : decode cX6_heardAt 20 = .ok (.iload 4, 2) := by decide +kernel
theorem dX6_heardAt_22 : decode cX6_heardAt 22 = .ok (.imul, 1) := by decide +kernel
theorem dX6_heardAt_23 : decode cX6_heardAt 23 = .ok (.iadd, 1) := by decide +kernel
theorem dX6_heardAt_24 : decode cX6_heardAt 24 = .ok (.istore 5, 2) := by decide +kernel
theorem dX6_heardAt_26 : decode cX6_heardAt 26 = .ok (.iload_n 3, 1) := by decide +kernel
theorem dX6_heardAt_27 : decode cX6_heardAt 27 = .ok (.aload_n 0, 1) := by decide +kernel
theorem dX6_heardAt_28 : decode cX6_heardAt 28 = .ok (.getfield 7, 3) := by decide +kernel
theorem dX6_heardAt_31 : decode cX6_heardAt 31 = .ok (.iload 5, 2) := by decide +kernel
theorem dX6_heardAt_33 : decode cX6_heardAt 33 = .ok (.iaload, 1) := by decide +kernel
theorem dX6_heardAt_34 : decode cX6_heardAt 34 = .ok (.iload_n 2, 1) := by decide +kernel
theorem dX6_heardAt_35 : decode cX6_heardAt 35 = .ok (.if_icmp .ne 29, 3) := by decide +kernel
theorem dX6_heardAt_38 : decode cX6_heardAt 38 = .ok (.aload_n 0, 1) := by decide +kernel
theorem dX6_heardAt_39 : decode cX6_heardAt 39 = .ok (.iload_n 1, 1) := by decide +kernel
theorem dX6_heardAt_40 : decode cX6_heardAt 40 = .ok (.aload_n 0, 1) := by decide +kernel
theorem dX6_heardAt_41 : decode cX6_heardAt 41 = .ok (.getfield 7, 3) := by decide +kernel
theorem dX6_heardAt_44 : decode cX6_heardAt 44 = .ok (.iload 5, 2) := by decide +kernel
theorem dX6_heardAt_46 : decode cX6_heardAt 46 = .ok (.iconst 1, 1) := by decide +kernel
theorem dX6_heardAt_47 : decode cX6_heardAt 47 = .ok (.iadd, 1) := by decide +kernel
theorem dX6_heardAt_48 : decode cX6_heardAt 48 = .ok (.iaload, 1) := by decide +kernel
theorem dX6_heardAt_49 : decode cX6_heardAt 49 = .ok (.aload_n 0, 1) := by decide +kernel
theorem dX6_heardAt_50 : decode cX6_heardAt 50 = .ok (.getfield 7, 3) := by decide +kernel
theorem dX6_heardAt_53 : decode cX6_heardAt 53 = .ok (.iload 5, 2) := by decide +kernel
theorem dX6_heardAt_55 : decode cX6_heardAt 55 = .ok (.iconst 2, 1) := by decide +kernel
theorem dX6_heardAt_56 : decode cX6_heardAt 56 = .ok (.iadd, 1) := by decide +kernel
theorem dX6_heardAt_57 : decode cX6_heardAt 57 = .ok (.iaload, 1) := by decide +kernel
theorem dX6_heardAt_58 : decode cX6_heardAt 58 = .ok (.invokevirtual 135, 3) := by decide +kernel
theorem dX6_heardAt_61 : decode cX6_heardAt 61 = .ok (.goto 4, 3) := by decide +kernel
theorem dX6_heardAt_64 : decode cX6_heardAt 64 = .ok (.iconst 0, 1) := by decide +kernel
theorem dX6_heardAt_65 : decode cX6_heardAt 65 = .ok (.ior, 1) := by decide +kernel
theorem dX6_heardAt_66 : decode cX6_heardAt 66 = .ok (.istore_n 3, 1) := by decide +kernel
theorem dX6_heardAt_67 : decode cX6_heardAt 67 = .ok (.iinc 4 1, 3) := by decide +kernel
theorem dX6_heardAt_70 : decode cX6_heardAt 70 = .ok (.goto (-65), 3) := by decide +kernel
theorem dX6_heardAt_73 : decode cX6_heardAt 73 = .ok (.iconst 0, 1) := by decide +kernel
theorem dX6_heardAt_74 : decode cX6_heardAt 74 = .ok (.istore 4, 2) := by decide +kernel
theorem dX6_heardAt_76 : decode cX6_heardAt 76 = .ok (.iload 4, 2) := by decide +kernel
theorem dX6_heardAt_78 : decode cX6_heardAt 78 = .ok (.aload_n 0, 1) := by decide +kernel
theorem dX6_heardAt_79 : decode cX6_heardAt 79 = .ok (.getfield 7, 3) := by decide +kernel
theorem dX6_heardAt_82 : decode cX6_heardAt 82 = .ok (.bipush 19, 2) := by decide +kernel
theorem dX6_heardAt_84 : decode cX6_heardAt 84 = .ok (.iaload, 1) := by decide +kernel
theorem dX6_heardAt_85 : decode cX6_heardAt 85 = .ok (.if_icmp .ge 51, 3) := by decide +kernel
theorem dX6_heardAt_88 : decode cX6_heardAt 88 = .ok (.bipush 20, 2) := by decide +kernel
theorem dX6_heardAt_90 : decode cX6_heardAt 90 = .ok (.iconst 2, 1) := by decide +kernel
theorem dX6_heardAt_91 : decode cX6_heardAt 91 = .ok (.iload 4, 2) := by decide +kernel
theorem dX6_heardAt_93 : decode cX6_heardAt 93 = .ok (.imul, 1) := by decide +kernel
theorem dX6_heardAt_94 : decode cX6_heardAt 94 = .ok (.iadd, 1) := by decide +kernel
theorem dX6_heardAt_95 : decode cX6_heardAt 95 = .ok (.istore 5, 2) := by decide +kernel
theorem dX6_heardAt_97 : decode cX6_heardAt 97 = .ok (.iload_n 3, 1) := by decide +kernel
theorem dX6_heardAt_98 : decode cX6_heardAt 98 = .ok (.aload_n 0, 1) := by decide +kernel
theorem dX6_heardAt_99 : decode cX6_heardAt 99 = .ok (.getfield 7, 3) := by decide +kernel
theorem dX6_heardAt_102 : decode cX6_heardAt 102 = .ok (.iload 5, 2) := by decide +kernel
theorem dX6_heardAt_104 : decode cX6_heardAt 104 = .ok (.iaload, 1) := by decide +kernel
theorem dX6_heardAt_105 : decode cX6_heardAt 105 = .ok (.iload_n 2, 1) := by decide +kernel
theorem dX6_heardAt_106 : decode cX6_heardAt 106 = .ok (.if_icmp .ne 21, 3) := by decide +kernel
theorem dX6_heardAt_109 : decode cX6_heardAt 109 = .ok (.aload_n 0, 1) := by decide +kernel
theorem dX6_heardAt_110 : decode cX6_heardAt 110 = .ok (.iload_n 1, 1) := by decide +kernel
theorem dX6_heardAt_111 : decode cX6_heardAt 111 = .ok (.aload_n 0, 1) := by decide +kernel
theorem dX6_heardAt_112 : decode cX6_heardAt 112 = .ok (.getfield 7, 3) := by decide +kernel
theorem dX6_heardAt_115 : decode cX6_heardAt 115 = .ok (.iload 5, 2) := by decide +kernel
theorem dX6_heardAt_117 : decode cX6_heardAt 117 = .ok (.iconst 1, 1) := by decide +kernel
theorem dX6_heardAt_118 : decode cX6_heardAt 118 = .ok (.iadd, 1) := by decide +kernel
theorem dX6_heardAt_119 : decode cX6_heardAt 119 = .ok (.iaload, 1) := by decide +kernel
theorem dX6_heardAt_120 : decode cX6_heardAt 120 = .ok (.iconst 1, 1) := by decide +kernel
theorem dX6_heardAt_121 : decode cX6_heardAt 121 = .ok (.invokevirtual 132, 3) := by decide +kernel
theorem dX6_heardAt_124 : decode cX6_heardAt 124 = .ok (.goto 4, 3) := by decide +kernel
theorem dX6_heardAt_127 : decode cX6_heardAt 127 = .ok (.iconst 0, 1) := by decide +kernel
theorem dX6_heardAt_128 : decode cX6_heardAt 128 = .ok (.ior, 1) := by decide +kernel
theorem dX6_heardAt_129 : decode cX6_heardAt 129 = .ok (.istore_n 3, 1) := by decide +kernel
theorem dX6_heardAt_130 : decode cX6_heardAt 130 = .ok (.iinc 4 1, 3) := by decide +kernel
theorem dX6_heardAt_133 : decode cX6_heardAt 133 = .ok (.goto (-57), 3) := by decide +kernel
theorem dX6_heardAt_136 : decode cX6_heardAt 136 = .ok (.iload_n 3, 1) := by decide +kernel
theorem dX6_heardAt_137 : decode cX6_heardAt 137 = .ok (.ireturn, 1) := by decide +kernel
set_option maxRecDepth 20000 in
theorem ggX6_heard_X6_isPost : GoodIn wsX6_heard wsX6_isPost := goodIn_r _ [5, 6, 7, 8, 4, 9, 10, 11, 12, 13, 60, 61, 62, 63, 64, 65, 66, 67, 68, 69, 70, 71, 72, 73, 74, 75, 76, 77, 78] (by decide +kernel) (by decide +kernel)
set_option maxRecDepth 20000 in
theorem gX6_heard_X6_isPost : GoodIn wsX6_heard (wsV RX6 88 RX6 yX6_isPost wsX6_isPost) := goodIn_app (goodIn_of _ (by decide +kernel)) ggX6_heard_X6_isPost
set_option maxRecDepth 20000 in
theorem ggX6_heard_X6_isMinute : GoodIn wsX6_heard wsX6_isMinute := goodIn_r _ [16, 17, 11, 12, 4, 13] (by decide +kernel) (by decide +kernel)
set_option maxRecDepth 20000 in
theorem gX6_heard_X6_isMinute : GoodIn wsX6_heard (va_wsS RX6 94 yX6_isMinute wsX6_isMinute) := goodIn_app (goodIn_of _ (by decide +kernel)) ggX6_heard_X6_isMinute
set_option maxRecDepth 20000 in
theorem ggX6_heard_X6_heardAt : GoodIn wsX6_heard wsX6_heardAt := goodIn_r _ [21, 10, 22, 23, 24, 4, 25, 26, 27, 28, 29, 30, 31, 32, 33, 34, 35, 36, 37, 38, 39, 40, 41, 42, 43, 44, 45, 46, 47, 48, 49, 50, 51, 52, 53, 54, 60, 61, 62, 63, 64, 65, 66, 67, 68, 69, 70, 71, 72, 73, 74, 75, 76, 77, 78] (by decide +kernel) (by decide +kernel)
set_option maxRecDepth 20000 in
theorem gX6_heard_X6_heardAt : GoodIn wsX6_heard (wsV RX6 138 RX6 yX6_heardAt wsX6_heardAt) := goodIn_app (goodIn_of _ (by decide +kernel)) ggX6_heard_X6_heardAt
set_option maxRecDepth 20000 in
theorem ggX6_heard_X6_bad : GoodIn wsX6_heard wsX6_bad := goodIn_r _ [58, 59, 60, 61, 62, 63, 64, 65, 66, 67, 68, 69, 70, 71, 72, 73, 74, 75, 76, 77, 78] (by decide +kernel) (by decide +kernel)
set_option maxRecDepth 20000 in
theorem gX6_heard_X6_bad : GoodIn wsX6_heard (wsV RX6 70 RX6 yX6_bad wsX6_bad) := goodIn_app (goodIn_of _ (by decide +kernel)) ggX6_heard_X6_bad
theorem dX6_heard_0 : decode cX6_heard 0 = .ok (.aload_n 0, 1) := by decide +kernel
theorem dX6_heard_1 : decode cX6_heard 1 = .ok (.iload_n 1, 1) := by decide +kernel
theorem dX6_heard_2 : decode cX6_heard 2 = .ok (.invokevirtual 88, 3) := by decide +kernel
theorem dX6_heard_5 : decode cX6_heard 5 = .ok (.ifCond .eq 19, 3) := by decide +kernel
theorem dX6_heard_8 : decode cX6_heard 8 = .ok (.iload_n 2, 1) := by decide +kernel
theorem dX6_heard_9 : decode cX6_heard 9 = .ok (.invokestatic 94, 3) := by decide +kernel
theorem dX6_heard_12 : decode cX6_heard 12 = .ok (.ifCond .eq 12, 3) := by decide +kernel
theorem dX6_heard_15 : decode cX6_heard 15 = .ok (.aload_n 0, 1) := by decide +kernel
theorem dX6_heard_16 : decode cX6_heard 16 = .ok (.iload_n 1, 1) := by decide +kernel
theorem dX6_heard_17 : decode cX6_heard 17 = .ok (.iload_n 2, 1) := by decide +kernel
theorem dX6_heard_18 : decode cX6_heard 18 = .ok (.invokevirtual 138, 3) := by decide +kernel
theorem dX6_heard_21 : decode cX6_heard 21 = .ok (.goto 9, 3) := by decide +kernel
theorem dX6_heard_24 : decode cX6_heard 24 = .ok (.aload_n 0, 1) := by decide +kernel
theorem dX6_heard_25 : decode cX6_heard 25 = .ok (.bipush (-2), 2) := by decide +kernel
theorem dX6_heard_27 : decode cX6_heard 27 = .ok (.invokevirtual 70, 3) := by decide +kernel
theorem dX6_heard_30 : decode cX6_heard 30 = .ok (.ireturn, 1) := by decide +kernel
theorem dX6_isGuarded_0 : decode cX6_isGuarded 0 = .ok (.aload_n 0, 1) := by decide +kernel
theorem dX6_isGuarded_1 : decode cX6_isGuarded 1 = .ok (.getfield 7, 3) := by decide +kernel
theorem dX6_isGuarded_4 : decode cX6_isGuarded 4 = .ok (.iconst 2, 1) := by decide +kernel
theorem dX6_isGuarded_5 : decode cX6_isGuarded 5 = .ok (.iaload, 1) := by decide +kernel
theorem dX6_isGuarded_6 : decode cX6_isGuarded 6 = .ok (.iload_n 1, 1) := by decide +kernel
theorem dX6_isGuarded_7 : decode cX6_isGuarded 7 = .ok (.ishr, 1) := by decide +kernel
theorem dX6_isGuarded_8 : decode cX6_isGuarded 8 = .ok (.iconst 1, 1) := by decide +kernel
theorem dX6_isGuarded_9 : decode cX6_isGuarded 9 = .ok (.iand, 1) := by decide +kernel
theorem dX6_isGuarded_10 : decode cX6_isGuarded 10 = .ok (.iconst 1, 1) := by decide +kernel
theorem dX6_isGuarded_11 : decode cX6_isGuarded 11 = .ok (.if_icmp .ne 7, 3) := by decide +kernel
theorem dX6_isGuarded_14 : decode cX6_isGuarded 14 = .ok (.iconst 1, 1) := by decide +kernel
theorem dX6_isGuarded_15 : decode cX6_isGuarded 15 = .ok (.goto 4, 3) := by decide +kernel
theorem dX6_isGuarded_18 : decode cX6_isGuarded 18 = .ok (.iconst 0, 1) := by decide +kernel
theorem dX6_isGuarded_19 : decode cX6_isGuarded 19 = .ok (.ireturn, 1) := by decide +kernel
set_option maxRecDepth 20000 in
theorem ggX6_alarm_X6_isMinute : GoodIn wsX6_alarm wsX6_isMinute := goodIn_r _ [4, 5, 6, 7, 3, 8] (by decide +kernel) (by decide +kernel)
set_option maxRecDepth 20000 in
theorem gX6_alarm_X6_isMinute : GoodIn wsX6_alarm (va_wsS RX6 94 yX6_isMinute wsX6_isMinute) := goodIn_app (goodIn_of _ (by decide +kernel)) ggX6_alarm_X6_isMinute
set_option maxRecDepth 20000 in
theorem ggX6_alarm_X6_bad : GoodIn wsX6_alarm wsX6_bad := goodIn_r _ [12, 13, 60, 61, 62, 63, 64, 65, 66, 67, 68, 69, 70, 71, 72, 73, 74, 75, 76, 77, 78] (by decide +kernel) (by decide +kernel)
set_option maxRecDepth 20000 in
theorem gX6_alarm_X6_bad : GoodIn wsX6_alarm (wsV RX6 70 RX6 yX6_bad wsX6_bad) := goodIn_app (goodIn_of _ (by decide +kernel)) ggX6_alarm_X6_bad
set_option maxRecDepth 20000 in
theorem ggX6_alarm_X6_line : GoodIn wsX6_alarm wsX6_line := goodIn_r _ [17, 18, 60, 61, 62, 63, 64, 65, 66, 67, 68, 69, 70, 71, 72, 73, 74, 75, 76, 77, 78] (by decide +kernel) (by decide +kernel)
set_option maxRecDepth 20000 in
theorem gX6_alarm_X6_line : GoodIn wsX6_alarm (wsV RX6 51 RX6 yX6_line wsX6_line) := goodIn_app (goodIn_of _ (by decide +kernel)) ggX6_alarm_X6_line
set_option maxRecDepth 20000 in
theorem ggX6_alarm_X6_isGuarded : GoodIn wsX6_alarm wsX6_isGuarded := goodIn_r _ [22, 18, 60, 61, 62, 63, 64, 65, 66, 67, 68, 69, 70, 71, 72, 73, 74, 75, 76, 77, 78] (by decide +kernel) (by decide +kernel)
set_option maxRecDepth 20000 in
theorem gX6_alarm_X6_isGuarded : GoodIn wsX6_alarm (wsV RX6 141 RX6 yX6_isGuarded wsX6_isGuarded) := goodIn_app (goodIn_of _ (by decide +kernel)) ggX6_alarm_X6_isGuarded
set_option maxRecDepth 20000 in
theorem ggX6_alarm_X6_heardAt : GoodIn wsX6_alarm wsX6_heardAt := goodIn_r _ [26, 18, 27, 28, 29, 3, 30, 31, 32, 33, 34, 35, 36, 37, 38, 39, 40, 41, 42, 43, 44, 45, 46, 47, 48, 49, 50, 51, 52, 53, 54, 55, 56, 57, 58, 59, 60, 61, 62, 63, 64, 65, 66, 67, 68, 69, 70, 71, 72, 73, 74, 75, 76, 77, 78] (by decide +kernel) (by decide +kernel)
set_option maxRecDepth 20000 in
theorem gX6_alarm_X6_heardAt : GoodIn wsX6_alarm (wsV RX6 138 RX6 yX6_heardAt wsX6_heardAt) := goodIn_app (goodIn_of _ (by decide +kernel)) ggX6_alarm_X6_heardAt
theorem dX6_alarm_0 : decode cX6_alarm 0 = .ok (.iload_n 1, 1) := by decide +kernel
theorem dX6_alarm_1 : decode cX6_alarm 1 = .ok (.invokestatic 94, 3) := by decide +kernel
theorem dX6_alarm_4 : decode cX6_alarm 4 = .ok (.ifCond .ne 10, 3) := by decide +kernel
theorem dX6_alarm_7 : decode cX6_alarm 7 = .ok (.aload_n 0, 1) := by decide +kernel
theorem dX6_alarm_8 : decode cX6_alarm 8 = .ok (.bipush (-2), 2) := by decide +kernel
theorem dX6_alarm_10 : decode cX6_alarm 10 = .ok (.invokevirtual 70, 3) := by decide +kernel
theorem dX6_alarm_13 : decode cX6_alarm 13 = .ok (.ireturn, 1) := by decide +kernel
theorem dX6_alarm_14 : decode cX6_alarm 14 = .ok (.iconst 0, 1) := by decide +kernel
theorem dX6_alarm_15 : decode cX6_alarm 15 = .ok (.istore_n 2, 1) := by decide +kernel
theorem dX6_alarm_16 : decode cX6_alarm 16 = .ok (.iconst 0, 1) := by decide +kernel
theorem dX6_alarm_17 : decode cX6_alarm 17 = .ok (.istore_n 3, 1) := by decide +kernel
theorem dX6_alarm_18 : decode cX6_alarm 18 = .ok (.iload_n 3, 1) := by decide +kernel
theorem dX6_alarm_19 : decode cX6_alarm 19 = .ok (.aload_n 0, 1) := by decide +kernel
theorem dX6_alarm_20 : decode cX6_alarm 20 = .ok (.invokevirtual 51, 3) := by decide +kernel
theorem dX6_alarm_23 : decode cX6_alarm 23 = .ok (.if_icmp .ge 34, 3) := by decide +kernel
theorem dX6_alarm_26 : decode cX6_alarm 26 = .ok (.iload_n 2, 1) := by decide +kernel
theorem dX6_alarm_27 : decode cX6_alarm 27 = .ok (.aload_n 0, 1) := by decide +kernel
theorem dX6_alarm_28 : decode cX6_alarm 28 = .ok (.iload_n 3, 1) := by decide +kernel
theorem dX6_alarm_29 : decode cX6_alarm 29 = .ok (.invokevirtual 141, 3) := by decide +kernel
theorem dX6_alarm_32 : decode cX6_alarm 32 = .ok (.ifCond .eq 16, 3) := by decide +kernel
theorem dX6_alarm_35 : decode cX6_alarm 35 = .ok (.aload_n 0, 1) := by decide +kernel
theorem dX6_alarm_36 : decode cX6_alarm 36 = .ok (.iload_n 3, 1) := by decide +kernel
theorem dX6_alarm_37 : decode cX6_alarm 37 = .ok (.iload_n 1, 1) := by decide +kernel
theorem dX6_alarm_38 : decode cX6_alarm 38 = .ok (.invokevirtual 138, 3) := by decide +kernel
theorem dX6_alarm_41 : decode cX6_alarm 41 = .ok (.ifCond .eq 7, 3) := by decide +kernel
theorem dX6_alarm_44 : decode cX6_alarm 44 = .ok (.iconst 1, 1) := by decide +kernel
theorem dX6_alarm_45 : decode cX6_alarm 45 = .ok (.goto 4, 3) := by decide +kernel
theorem dX6_alarm_48 : decode cX6_alarm 48 = .ok (.iconst 0, 1) := by decide +kernel
theorem dX6_alarm_49 : decode cX6_alarm 49 = .ok (.iadd, 1) := by decide +kernel
theorem dX6_alarm_50 : decode cX6_alarm 50 = .ok (.istore_n 2, 1) := by decide +kernel
theorem dX6_alarm_51 : decode cX6_alarm 51 = .ok (.iinc 3 1, 3) := by decide +kernel
theorem dX6_alarm_54 : decode cX6_alarm 54 = .ok (.goto (-36), 3) := by decide +kernel
theorem dX6_alarm_57 : decode cX6_alarm 57 = .ok (.iload_n 2, 1) := by decide +kernel
theorem dX6_alarm_58 : decode cX6_alarm 58 = .ok (.ireturn, 1) := by decide +kernel
set_option maxRecDepth 20000 in
theorem ggX6_which_X6_isPost : GoodIn wsX6_which wsX6_isPost := goodIn_r _ [6, 7, 8, 9, 5, 10, 11, 12, 13, 14, 53, 54, 55, 56, 57, 58, 59, 60, 61, 62, 63, 64, 65, 66, 67, 68, 69, 70, 71] (by decide +kernel) (by decide +kernel)
set_option maxRecDepth 20000 in
theorem gX6_which_X6_isPost : GoodIn wsX6_which (wsV RX6 88 RX6 yX6_isPost wsX6_isPost) := goodIn_app (goodIn_of _ (by decide +kernel)) ggX6_which_X6_isPost
set_option maxRecDepth 20000 in
theorem ggX6_which_X6_in : GoodIn wsX6_which wsX6_in := goodIn_r _ [14] (by decide +kernel) (by decide +kernel)
set_option maxRecDepth 20000 in
theorem gX6_which_X6_in : GoodIn wsX6_which (va_wsS RX6 55 yX6_in wsX6_in) := goodIn_app (goodIn_of _ (by decide +kernel)) ggX6_which_X6_in
set_option maxRecDepth 20000 in
theorem ggX6_which_X6_bad : GoodIn wsX6_which wsX6_bad := goodIn_r _ [18, 19, 53, 54, 55, 56, 57, 58, 59, 60, 61, 62, 63, 64, 65, 66, 67, 68, 69, 70, 71] (by decide +kernel) (by decide +kernel)
set_option maxRecDepth 20000 in
theorem gX6_which_X6_bad : GoodIn wsX6_which (wsV RX6 70 RX6 yX6_bad wsX6_bad) := goodIn_app (goodIn_of _ (by decide +kernel)) ggX6_which_X6_bad
set_option maxRecDepth 20000 in
theorem ggX6_which_X6_wires : GoodIn wsX6_which wsX6_wires := goodIn_r _ [23, 11, 53, 54, 55, 56, 57, 58, 59, 60, 61, 62, 63, 64, 65, 66, 67, 68, 69, 70, 71] (by decide +kernel) (by decide +kernel)
set_option maxRecDepth 20000 in
theorem gX6_which_X6_wires : GoodIn wsX6_which (wsV RX6 59 RX6 yX6_wires wsX6_wires) := goodIn_app (goodIn_of _ (by decide +kernel)) ggX6_which_X6_wires
set_option maxRecDepth 20000 in
theorem ggX6_which_X6_notesBy : GoodIn wsX6_which wsX6_notesBy := goodIn_r _ [27, 28, 29, 5, 30, 31, 32, 33, 34, 35, 36, 37, 38, 39, 40, 41, 42, 11, 43, 44, 45, 46, 47, 48, 49, 50, 51, 52, 20, 21, 22, 23, 53, 54, 55, 56, 57, 58, 59, 60, 61, 62, 63, 64, 65, 66, 67, 68, 69, 70, 71] (by decide +kernel) (by decide +kernel)
set_option maxRecDepth 20000 in
theorem gX6_which_X6_notesBy : GoodIn wsX6_which (wsV RX6 135 RX6 yX6_notesBy wsX6_notesBy) := goodIn_app (goodIn_of _ (by decide +kernel)) ggX6_which_X6_notesBy
theorem dX6_which_0 : decode cX6_which 0 = .ok (.aload_n 0, 1) := by decide +kernel
theorem dX6_which_1 : decode cX6_which 1 = .ok (.iload_n 1, 1) := by decide +kernel
theorem dX6_which_2 : decode cX6_which 2 = .ok (.invokevirtual 88, 3) := by decide +kernel
theorem dX6_which_5 : decode cX6_which 5 = .ok (.ifCond .eq 47, 3) := by decide +kernel
theorem dX6_which_8 : decode cX6_which 8 = .ok (.aload_n 0, 1) := by decide +kernel
theorem dX6_which_9 : decode cX6_which 9 = .ok (.iload_n 3, 1) := by decide +kernel
theorem dX6_which_10 : decode cX6_which 10 = .ok (.invokevirtual 88, 3) := by decide +kernel
theorem dX6_which_13 : decode cX6_which 13 = .ok (.ifCond .eq 39, 3) := by decide +kernel
theorem dX6_which_16 : decode cX6_which 16 = .ok (.iload_n 1, 1) := by decide +kernel
theorem dX6_which_17 : decode cX6_which 17 = .ok (.iload_n 3, 1) := by decide +kernel
theorem dX6_which_18 : decode cX6_which 18 = .ok (.if_icmp .eq 34, 3) := by decide +kernel
theorem dX6_which_21 : decode cX6_which 21 = .ok (.iload_n 2, 1) := by decide +kernel
theorem dX6_which_22 : decode cX6_which 22 = .ok (.i2l, 1) := by decide +kernel
theorem dX6_which_23 : decode cX6_which 23 = .ok (.lconst 0, 1) := by decide +kernel
theorem dX6_which_24 : decode cX6_which 24 = .ok (.ldc2_w 144, 3) := by decide +kernel
theorem dX6_which_27 : decode cX6_which 27 = .ok (.invokestatic 55, 3) := by decide +kernel
theorem dX6_which_30 : decode cX6_which 30 = .ok (.ifCond .eq 22, 3) := by decide +kernel
theorem dX6_which_33 : decode cX6_which 33 = .ok (.iload 4, 2) := by decide +kernel
theorem dX6_which_35 : decode cX6_which 35 = .ok (.i2l, 1) := by decide +kernel
theorem dX6_which_36 : decode cX6_which 36 = .ok (.lconst 0, 1) := by decide +kernel
theorem dX6_which_37 : decode cX6_which 37 = .ok (.ldc2_w 144, 3) := by decide +kernel
theorem dX6_which_40 : decode cX6_which 40 = .ok (.invokestatic 55, 3) := by decide +kernel
theorem dX6_which_43 : decode cX6_which 43 = .ok (.ifCond .eq 9, 3) := by decide +kernel
theorem dX6_which_46 : decode cX6_which 46 = .ok (.iload 5, 2) := by decide +kernel
theorem dX6_which_48 : decode cX6_which 48 = .ok (.iconst (-1), 1) := by decide +kernel
theorem dX6_which_49 : decode cX6_which 49 = .ok (.if_icmp .ge 10, 3) := by decide +kernel
theorem dX6_which_52 : decode cX6_which 52 = .ok (.aload_n 0, 1) := by decide +kernel
theorem dX6_which_53 : decode cX6_which 53 = .ok (.bipush (-10), 2) := by decide +kernel
theorem dX6_which_55 : decode cX6_which 55 = .ok (.invokevirtual 70, 3) := by decide +kernel
theorem dX6_which_58 : decode cX6_which 58 = .ok (.ireturn, 1) := by decide +kernel
theorem dX6_which_59 : decode cX6_which 59 = .ok (.iconst 0, 1) := by decide +kernel
theorem dX6_which_60 : decode cX6_which 60 = .ok (.istore 6, 2) := by decide +kernel
theorem dX6_which_62 : decode cX6_which 62 = .ok (.bipush (-5), 2) := by decide +kernel
theorem dX6_which_64 : decode cX6_which 64 = .ok (.istore 7, 2) := by decide +kernel
theorem dX6_which_66 : decode cX6_which 66 = .ok (.iconst 0, 1) := by decide +kernel
theorem dX6_which_67 : decode cX6_which 67 = .ok (.istore 8, 2) := by decide +kernel
theorem dX6_which_69 : decode cX6_which 69 = .ok (.iload 8, 2) := by decide +kernel
theorem dX6_which_71 : decode cX6_which 71 = .ok (.aload_n 0, 1) := by decide +kernel
theorem dX6_which_72 : decode cX6_which 72 = .ok (.invokevirtual 59, 3) := by decide +kernel
theorem dX6_which_75 : decode cX6_which 75 = .ok (.if_icmp .ge 76, 3) := by decide +kernel
theorem dX6_which_78 : decode cX6_which 78 = .ok (.iconst 0, 1) := by decide +kernel
theorem dX6_which_79 : decode cX6_which 79 = .ok (.istore 9, 2) := by decide +kernel
theorem dX6_which_81 : decode cX6_which 81 = .ok (.iload 9, 2) := by decide +kernel
theorem dX6_which_83 : decode cX6_which 83 = .ok (.iconst 3, 1) := by decide +kernel
theorem dX6_which_84 : decode cX6_which 84 = .ok (.if_icmp .gt 61, 3) := by decide +kernel
theorem dX6_which_87 : decode cX6_which 87 = .ok (.aload_n 0, 1) := by decide +kernel
theorem dX6_which_88 : decode cX6_which 88 = .ok (.iload_n 1, 1) := by decide +kernel
theorem dX6_which_89 : decode cX6_which 89 = .ok (.iload 8, 2) := by decide +kernel
theorem dX6_which_91 : decode cX6_which 91 = .ok (.iload 9, 2) := by decide +kernel
theorem dX6_which_93 : decode cX6_which 93 = .ok (.invokevirtual 135, 3) := by decide +kernel
theorem dX6_which_96 : decode cX6_which 96 = .ok (.iload_n 2, 1) := by decide +kernel
theorem dX6_which_97 : decode cX6_which 97 = .ok (.if_icmp .ne 42, 3) := by decide +kernel
theorem dX6_which_100 : decode cX6_which 100 = .ok (.aload_n 0, 1) := by decide +kernel
theorem dX6_which_101 : decode cX6_which 101 = .ok (.iload_n 3, 1) := by decide +kernel
theorem dX6_which_102 : decode cX6_which 102 = .ok (.iload 8, 2) := by decide +kernel
theorem dX6_which_104 : decode cX6_which 104 = .ok (.iload 9, 2) := by decide +kernel
theorem dX6_which_106 : decode cX6_which 106 = .ok (.invokevirtual 135, 3) := by decide +kernel
theorem dX6_which_109 : decode cX6_which 109 = .ok (.iload 4, 2) := by decide +kernel
theorem dX6_which_111 : decode cX6_which 111 = .ok (.if_icmp .ne 28, 3) := by decide +kernel
theorem dX6_which_114 : decode cX6_which 114 = .ok (.iload 6, 2) := by decide +kernel
theorem dX6_which_116 : decode cX6_which 116 = .ok (.iload 5, 2) := by decide +kernel
theorem dX6_which_118 : decode cX6_which 118 = .ok (.if_icmp .ne 14, 3) := by decide +kernel
theorem dX6_which_121 : decode cX6_which 121 = .ok (.bipush 10, 2) := by decide +kernel
theorem dX6_which_123 : decode cX6_which 123 = .ok (.iload 8, 2) := by decide +kernel
theorem dX6_which_125 : decode cX6_which 125 = .ok (.imul, 1) := by decide +kernel
theorem dX6_which_126 : decode cX6_which 126 = .ok (.iload 9, 2) := by decide +kernel
theorem dX6_which_128 : decode cX6_which 128 = .ok (.iadd, 1) := by decide +kernel
theorem dX6_which_129 : decode cX6_which 129 = .ok (.goto 5, 3) := by decide +kernel
theorem dX6_which_132 : decode cX6_which 132 = .ok (.iload 7, 2) := by decide +kernel
theorem dX6_which_134 : decode cX6_which 134 = .ok (.istore 7, 2) := by decide +kernel
theorem dX6_which_136 : decode cX6_which 136 = .ok (.iinc 6 1, 3) := by decide +kernel
theorem dX6_which_139 : decode cX6_which 139 = .ok (.iinc 9 1, 3) := by decide +kernel
theorem dX6_which_142 : decode cX6_which 142 = .ok (.goto (-61), 3) := by decide +kernel
theorem dX6_which_145 : decode cX6_which 145 = .ok (.iinc 8 1, 3) := by decide +kernel
theorem dX6_which_148 : decode cX6_which 148 = .ok (.goto (-79), 3) := by decide +kernel
theorem dX6_which_151 : decode cX6_which 151 = .ok (.iload 5, 2) := by decide +kernel
theorem dX6_which_153 : decode cX6_which 153 = .ok (.iconst (-1), 1) := by decide +kernel
theorem dX6_which_154 : decode cX6_which 154 = .ok (.if_icmp .ne 8, 3) := by decide +kernel
theorem dX6_which_157 : decode cX6_which 157 = .ok (.iload 6, 2) := by decide +kernel
theorem dX6_which_159 : decode cX6_which 159 = .ok (.goto 5, 3) := by decide +kernel
theorem dX6_which_162 : decode cX6_which 162 = .ok (.iload 7, 2) := by decide +kernel
theorem dX6_which_164 : decode cX6_which 164 = .ok (.ireturn, 1) := by decide +kernel
theorem dX6_isCut_0 : decode cX6_isCut 0 = .ok (.aload_n 0, 1) := by decide +kernel
theorem dX6_isCut_1 : decode cX6_isCut 1 = .ok (.getfield 7, 3) := by decide +kernel
theorem dX6_isCut_4 : decode cX6_isCut 4 = .ok (.iconst 3, 1) := by decide +kernel
theorem dX6_isCut_5 : decode cX6_isCut 5 = .ok (.iload_n 1, 1) := by decide +kernel
theorem dX6_isCut_6 : decode cX6_isCut 6 = .ok (.iadd, 1) := by decide +kernel
theorem dX6_isCut_7 : decode cX6_isCut 7 = .ok (.iaload, 1) := by decide +kernel
theorem dX6_isCut_8 : decode cX6_isCut 8 = .ok (.iconst 4, 1) := by decide +kernel
theorem dX6_isCut_9 : decode cX6_isCut 9 = .ok (.if_icmp .ne 7, 3) := by decide +kernel
theorem dX6_isCut_12 : decode cX6_isCut 12 = .ok (.iconst 1, 1) := by decide +kernel
theorem dX6_isCut_13 : decode cX6_isCut 13 = .ok (.goto 4, 3) := by decide +kernel
theorem dX6_isCut_16 : decode cX6_isCut 16 = .ok (.iconst 0, 1) := by decide +kernel
theorem dX6_isCut_17 : decode cX6_isCut 17 = .ok (.ireturn, 1) := by decide +kernel
set_option maxRecDepth 20000 in
theorem ggX6_covers_X6_wires : GoodIn wsX6_covers wsX6_wires := goodIn_r _ [5, 6, 26, 27, 28, 29, 30, 31, 32, 33, 34, 35, 36, 37, 38, 39, 40, 41, 42, 43, 44] (by decide +kernel) (by decide +kernel)
set_option maxRecDepth 20000 in
theorem gX6_covers_X6_wires : GoodIn wsX6_covers (wsV RX6 59 RX6 yX6_wires wsX6_wires) := goodIn_app (goodIn_of _ (by decide +kernel)) ggX6_covers_X6_wires
set_option maxRecDepth 20000 in
theorem ggX6_covers_X6_line : GoodIn wsX6_covers wsX6_line := goodIn_r _ [10, 6, 26, 27, 28, 29, 30, 31, 32, 33, 34, 35, 36, 37, 38, 39, 40, 41, 42, 43, 44] (by decide +kernel) (by decide +kernel)
set_option maxRecDepth 20000 in
theorem gX6_covers_X6_line : GoodIn wsX6_covers (wsV RX6 51 RX6 yX6_line wsX6_line) := goodIn_app (goodIn_of _ (by decide +kernel)) ggX6_covers_X6_line
set_option maxRecDepth 20000 in
theorem ggX6_covers_X6_hears : GoodIn wsX6_covers wsX6_hears := goodIn_r _ [14, 15, 16, 17, 4, 18, 6, 19, 20, 21, 26, 27, 28, 29, 30, 31, 32, 33, 34, 35, 36, 37, 38, 39, 40, 41, 42, 43, 44] (by decide +kernel) (by decide +kernel)
set_option maxRecDepth 20000 in
theorem gX6_covers_X6_hears : GoodIn wsX6_covers (wsV RX6 125 RX6 yX6_hears wsX6_hears) := goodIn_app (goodIn_of _ (by decide +kernel)) ggX6_covers_X6_hears
set_option maxRecDepth 20000 in
theorem ggX6_covers_X6_isCut : GoodIn wsX6_covers wsX6_isCut := goodIn_r _ [25, 6, 26, 27, 28, 29, 30, 31, 32, 33, 34, 35, 36, 37, 38, 39, 40, 41, 42, 43, 44] (by decide +kernel) (by decide +kernel)
set_option maxRecDepth 20000 in
theorem gX6_covers_X6_isCut : GoodIn wsX6_covers (wsV RX6 146 RX6 yX6_isCut wsX6_isCut) := goodIn_app (goodIn_of _ (by decide +kernel)) ggX6_covers_X6_isCut
theorem dX6_covers_0 : decode cX6_covers 0 = .ok (.iconst 1, 1) := by decide +kernel
theorem dX6_covers_1 : decode cX6_covers 1 = .ok (.istore_n 3, 1) := by decide +kernel
theorem dX6_covers_2 : decode cX6_covers 2 = .ok (.iconst 0, 1) := by decide +kernel
theorem dX6_covers_3 : decode cX6_covers 3 = .ok (.istore 4, 2) := by decide +kernel
theorem dX6_covers_5 : decode cX6_covers 5 = .ok (.iload 4, 2) := by decide +kernel
theorem dX6_covers_7 : decode cX6_covers 7 = .ok (.aload_n 0, 1) := by decide +kernel
theorem dX6_covers_8 : decode cX6_covers 8 = .ok (.invokevirtual 59, 3) := by decide +kernel
theorem dX6_covers_11 : decode cX6_covers 11 = .ok (.if_icmp .ge 87, 3) := by decide +kernel
theorem dX6_covers_14 : decode cX6_covers 14 = .ok (.iconst 0, 1) := by decide +kernel
theorem dX6_covers_15 : decode cX6_covers 15 = .ok (.istore 5, 2) := by decide +kernel
theorem dX6_covers_17 : decode cX6_covers 17 = .ok (.iconst 0, 1) := by decide +kernel
theorem dX6_covers_18 : decode cX6_covers 18 = .ok (.istore 6, 2) := by decide +kernel
theorem dX6_covers_20 : decode cX6_covers 20 = .ok (.iload 6, 2) := by decide +kernel
theorem dX6_covers_22 : decode cX6_covers 22 = .ok (.aload_n 0, 1) := by decide +kernel
theorem dX6_covers_23 : decode cX6_covers 23 = .ok (.invokevirtual 51, 3) := by decide +kernel
theorem dX6_covers_26 : decode cX6_covers 26 = .ok (.if_icmp .ge 41, 3) := by decide +kernel
theorem dX6_covers_29 : decode cX6_covers 29 = .ok (.iload 5, 2) := by decide +kernel
theorem dX6_covers_31 : decode cX6_covers 31 = .ok (.iload_n 1, 1) := by decide +kernel
theorem dX6_covers_32 : decode cX6_covers 32 = .ok (.iload 6, 2) := by decide +kernel
theorem dX6_covers_34 : decode cX6_covers 34 = .ok (.ishr, 1) := by decide +kernel
theorem dX6_covers_35 : decode cX6_covers 35 = .ok (.iconst 1, 1) := by decide +kernel
theorem dX6_covers_36 : decode cX6_covers 36 = .ok (.iand, 1) := by decide +kernel
theorem dX6_covers_37 : decode cX6_covers 37 = .ok (.iconst 1, 1) := by decide +kernel
theorem dX6_covers_38 : decode cX6_covers 38 = .ok (.if_icmp .ne 19, 3) := by decide +kernel
theorem dX6_covers_41 : decode cX6_covers 41 = .ok (.aload_n 0, 1) := by decide +kernel
theorem dX6_covers_42 : decode cX6_covers 42 = .ok (.iload 6, 2) := by decide +kernel
theorem dX6_covers_44 : decode cX6_covers 44 = .ok (.iload 4, 2) := by decide +kernel
theorem dX6_covers_46 : decode cX6_covers 46 = .ok (.iconst 1, 1) := by decide +kernel
theorem dX6_covers_47 : decode cX6_covers 47 = .ok (.invokevirtual 125, 3) := by decide +kernel
theorem dX6_covers_50 : decode cX6_covers 50 = .ok (.ifCond .eq 7, 3) := by decide +kernel
theorem dX6_covers_53 : decode cX6_covers 53 = .ok (.iconst 1, 1) := by decide +kernel
theorem dX6_covers_54 : decode cX6_covers 54 = .ok (.goto 4, 3) := by decide +kernel
theorem dX6_covers_57 : decode cX6_covers 57 = .ok (.iconst 0, 1) := by decide +kernel
theorem dX6_covers_58 : decode cX6_covers 58 = .ok (.iadd, 1) := by decide +kernel
theorem dX6_covers_59 : decode cX6_covers 59 = .ok (.istore 5, 2) := by decide +kernel
theorem dX6_covers_61 : decode cX6_covers 61 = .ok (.iinc 6 1, 3) := by decide +kernel
theorem dX6_covers_64 : decode cX6_covers 64 = .ok (.goto (-44), 3) := by decide +kernel
theorem dX6_covers_67 : decode cX6_covers 67 = .ok (.iload_n 3, 1) := by decide +kernel
theorem dX6_covers_68 : decode cX6_covers 68 = .ok (.ifCond .eq 22, 3) := by decide +kernel
theorem dX6_covers_71 : decode cX6_covers 71 = .ok (.aload_n 0, 1) := by decide +kernel
theorem dX6_covers_72 : decode cX6_covers 72 = .ok (.iload 4, 2) := by decide +kernel
theorem dX6_covers_74 : decode cX6_covers 74 = .ok (.invokevirtual 146, 3) := by decide +kernel
theorem dX6_covers_77 : decode cX6_covers 77 = .ok (.ifCond .ne 9, 3) := by decide +kernel
theorem dX6_covers_80 : decode cX6_covers 80 = .ok (.iload 5, 2) := by decide +kernel
theorem dX6_covers_82 : decode cX6_covers 82 = .ok (.iload_n 2, 1) := by decide +kernel
theorem dX6_covers_83 : decode cX6_covers 83 = .ok (.if_icmp .lt 7, 3) := by decide +kernel
theorem dX6_covers_86 : decode cX6_covers 86 = .ok (.iconst 1, 1) := by decide +kernel
theorem dX6_covers_87 : decode cX6_covers 87 = .ok (.goto 4, 3) := by decide +kernel
theorem dX6_covers_90 : decode cX6_covers 90 = .ok (.iconst 0, 1) := by decide +kernel
theorem dX6_covers_91 : decode cX6_covers 91 = .ok (.istore_n 3, 1) := by decide +kernel
theorem dX6_covers_92 : decode cX6_covers 92 = .ok (.iinc 4 1, 3) := by decide +kernel
theorem dX6_covers_95 : decode cX6_covers 95 = .ok (.goto (-90), 3) := by decide +kernel
theorem dX6_covers_98 : decode cX6_covers 98 = .ok (.iload_n 3, 1) := by decide +kernel
theorem dX6_covers_99 : decode cX6_covers 99 = .ok (.ireturn, 1) := by decide +kernel
set_option maxRecDepth 20000 in
theorem ggX6_cover_X6_in : GoodIn wsX6_cover wsX6_in := goodIn_r _ [5] (by decide +kernel) (by decide +kernel)
set_option maxRecDepth 20000 in
theorem gX6_cover_X6_in : GoodIn wsX6_cover (va_wsS RX6 55 yX6_in wsX6_in) := goodIn_app (goodIn_of _ (by decide +kernel)) ggX6_cover_X6_in
set_option maxRecDepth 20000 in
theorem ggX6_cover_X6_bad : GoodIn wsX6_cover wsX6_bad := goodIn_r _ [9, 10, 42, 43, 44, 45, 46, 47, 48, 49, 50, 51, 52, 53, 54, 55, 56, 57, 58, 59, 60] (by decide +kernel) (by decide +kernel)
set_option maxRecDepth 20000 in
theorem gX6_cover_X6_bad : GoodIn wsX6_cover (wsV RX6 70 RX6 yX6_bad wsX6_bad) := goodIn_app (goodIn_of _ (by decide +kernel)) ggX6_cover_X6_bad
set_option maxRecDepth 20000 in
theorem ggX6_cover_X6_line : GoodIn wsX6_cover wsX6_line := goodIn_r _ [14, 15, 42, 43, 44, 45, 46, 47, 48, 49, 50, 51, 52, 53, 54, 55, 56, 57, 58, 59, 60] (by decide +kernel) (by decide +kernel)
set_option maxRecDepth 20000 in
theorem gX6_cover_X6_line : GoodIn wsX6_cover (wsV RX6 51 RX6 yX6_line wsX6_line) := goodIn_app (goodIn_of _ (by decide +kernel)) ggX6_cover_X6_line
set_option maxRecDepth 20000 in
theorem ggX6_cover_X6_bits : GoodIn wsX6_cover wsX6_bits := goodIn_r _ [18] (by decide +kernel) (by decide +kernel)
set_option maxRecDepth 20000 in
theorem gX6_cover_X6_bits : GoodIn wsX6_cover (va_wsS RX6 149 yX6_bits wsX6_bits) := goodIn_app (goodIn_of _ (by decide +kernel)) ggX6_cover_X6_bits
set_option maxRecDepth 20000 in
theorem ggX6_cover_X6_covers : GoodIn wsX6_cover wsX6_covers := goodIn_r _ [22, 23, 24, 25, 4, 26, 15, 11, 12, 13, 14, 27, 28, 29, 30, 31, 32, 33, 34, 35, 36, 37, 38, 39, 40, 41, 42, 43, 44, 45, 46, 47, 48, 49, 50, 51, 52, 53, 54, 55, 56, 57, 58, 59, 60] (by decide +kernel) (by decide +kernel)
set_option maxRecDepth 20000 in
theorem gX6_cover_X6_covers : GoodIn wsX6_cover (wsV RX6 152 RX6 yX6_covers wsX6_covers) := goodIn_app (goodIn_of _ (by decide +kernel)) ggX6_cover_X6_covers
theorem dX6_cover_0 : decode cX6_cover 0 = .ok (.iload_n 1, 1) := by decide +kernel
theorem dX6_cover_1 : decode cX6_cover 1 = .ok (.i2l, 1) := by decide +kernel
theorem dX6_cover_2 : decode cX6_cover 2 = .ok (.lconst 1, 1) := by decide +kernel
theorem dX6_cover_3 : decode cX6_cover 3 = .ok (.ldc2_w 64, 3) := by decide +kernel
theorem dX6_cover_6 : decode cX6_cover 6 = .ok (.invokestatic 55, 3) := by decide +kernel
theorem dX6_cover_9 : decode cX6_cover 9 = .ok (.ifCond .ne 10, 3) := by decide +kernel
theorem dX6_cover_12 : decode cX6_cover 12 = .ok (.aload_n 0, 1) := by decide +kernel
theorem dX6_cover_13 : decode cX6_cover 13 = .ok (.bipush (-2), 2) := by decide +kernel
theorem dX6_cover_15 : decode cX6_cover 15 = .ok (.invokevirtual 70, 3) := by decide +kernel
theorem dX6_cover_18 : decode cX6_cover 18 = .ok (.ireturn, 1) := by decide +kernel
theorem dX6_cover_19 : decode cX6_cover 19 = .ok (.iconst (-1), 1) := by decide +kernel
theorem dX6_cover_20 : decode cX6_cover 20 = .ok (.istore_n 2, 1) := by decide +kernel
theorem dX6_cover_21 : decode cX6_cover 21 = .ok (.iconst 0, 1) := by decide +kernel
theorem dX6_cover_22 : decode cX6_cover 22 = .ok (.istore_n 3, 1) := by decide +kernel
theorem dX6_cover_23 : decode cX6_cover 23 = .ok (.iload_n 3, 1) := by decide +kernel
theorem dX6_cover_24 : decode cX6_cover 24 = .ok (.iconst 1, 1) := by decide +kernel
theorem dX6_cover_25 : decode cX6_cover 25 = .ok (.aload_n 0, 1) := by decide +kernel
theorem dX6_cover_26 : decode cX6_cover 26 = .ok (.invokevirtual 51, 3) := by decide +kernel
theorem dX6_cover_29 : decode cX6_cover 29 = .ok (.ishl, 1) := by decide +kernel
theorem dX6_cover_30 : decode cX6_cover 30 = .ok (.if_icmp .ge 52, 3) := by decide +kernel
theorem dX6_cover_33 : decode cX6_cover 33 = .ok (.iload_n 2, 1) := by decide +kernel
theorem dX6_cover_34 : decode cX6_cover 34 = .ok (.iconst (-1), 1) := by decide +kernel
theorem dX6_cover_35 : decode cX6_cover 35 = .ok (.if_icmp .eq 14, 3) := by decide +kernel
theorem dX6_cover_38 : decode cX6_cover 38 = .ok (.iload_n 3, 1) := by decide +kernel
theorem dX6_cover_39 : decode cX6_cover 39 = .ok (.invokestatic 149, 3) := by decide +kernel
theorem dX6_cover_42 : decode cX6_cover 42 = .ok (.iload_n 2, 1) := by decide +kernel
theorem dX6_cover_43 : decode cX6_cover 43 = .ok (.invokestatic 149, 3) := by decide +kernel
theorem dX6_cover_46 : decode cX6_cover 46 = .ok (.if_icmp .ge 7, 3) := by decide +kernel
theorem dX6_cover_49 : decode cX6_cover 49 = .ok (.iconst 1, 1) := by decide +kernel
theorem dX6_cover_50 : decode cX6_cover 50 = .ok (.goto 4, 3) := by decide +kernel
theorem dX6_cover_53 : decode cX6_cover 53 = .ok (.iconst 0, 1) := by decide +kernel
theorem dX6_cover_54 : decode cX6_cover 54 = .ok (.istore 4, 2) := by decide +kernel
theorem dX6_cover_56 : decode cX6_cover 56 = .ok (.iload 4, 2) := by decide +kernel
theorem dX6_cover_58 : decode cX6_cover 58 = .ok (.ifCond .eq 16, 3) := by decide +kernel
theorem dX6_cover_61 : decode cX6_cover 61 = .ok (.aload_n 0, 1) := by decide +kernel
theorem dX6_cover_62 : decode cX6_cover 62 = .ok (.iload_n 3, 1) := by decide +kernel
theorem dX6_cover_63 : decode cX6_cover 63 = .ok (.iload_n 1, 1) := by decide +kernel
theorem dX6_cover_64 : decode cX6_cover 64 = .ok (.invokevirtual 152, 3) := by decide +kernel
theorem dX6_cover_67 : decode cX6_cover 67 = .ok (.ifCond .eq 7, 3) := by decide +kernel
theorem dX6_cover_70 : decode cX6_cover 70 = .ok (.iload_n 3, 1) := by decide +kernel
theorem dX6_cover_71 : decode cX6_cover 71 = .ok (.goto 4, 3) := by decide +kernel
theorem dX6_cover_74 : decode cX6_cover 74 = .ok (.iload_n 2, 1) := by decide +kernel
theorem dX6_cover_75 : decode cX6_cover 75 = .ok (.istore_n 2, 1) := by decide +kernel
theorem dX6_cover_76 : decode cX6_cover 76 = .ok (.iinc 3 1, 3) := by decide +kernel
theorem dX6_cover_79 : decode cX6_cover 79 = .ok (.goto (-56), 3) := by decide +kernel
theorem dX6_cover_82 : decode cX6_cover 82 = .ok (.iload_n 2, 1) := by decide +kernel
theorem dX6_cover_83 : decode cX6_cover 83 = .ok (.ireturn, 1) := by decide +kernel
set_option maxRecDepth 20000 in
theorem ggX6_together_X6_line : GoodIn wsX6_together wsX6_line := goodIn_r _ [5, 6, 22, 23, 24, 25, 26, 27, 28, 29, 30, 31, 32, 33, 34, 35, 36, 37, 38, 39, 40] (by decide +kernel) (by decide +kernel)
set_option maxRecDepth 20000 in
theorem gX6_together_X6_line : GoodIn wsX6_together (wsV RX6 51 RX6 yX6_line wsX6_line) := goodIn_app (goodIn_of _ (by decide +kernel)) ggX6_together_X6_line
set_option maxRecDepth 20000 in
theorem ggX6_together_X6_hears : GoodIn wsX6_together wsX6_hears := goodIn_r _ [10, 11, 12, 13, 4, 14, 6, 15, 16, 17, 22, 23, 24, 25, 26, 27, 28, 29, 30, 31, 32, 33, 34, 35, 36, 37, 38, 39, 40] (by decide +kernel) (by decide +kernel)
set_option maxRecDepth 20000 in
theorem gX6_together_X6_hears : GoodIn wsX6_together (wsV RX6 125 RX6 yX6_hears wsX6_hears) := goodIn_app (goodIn_of _ (by decide +kernel)) ggX6_together_X6_hears
set_option maxRecDepth 20000 in
theorem ggX6_together_X6_isCut : GoodIn wsX6_together wsX6_isCut := goodIn_r _ [21, 6, 22, 23, 24, 25, 26, 27, 28, 29, 30, 31, 32, 33, 34, 35, 36, 37, 38, 39, 40] (by decide +kernel) (by decide +kernel)
set_option maxRecDepth 20000 in
theorem gX6_together_X6_isCut : GoodIn wsX6_together (wsV RX6 146 RX6 yX6_isCut wsX6_isCut) := goodIn_app (goodIn_of _ (by decide +kernel)) ggX6_together_X6_isCut
theorem dX6_together_0 : decode cX6_together 0 = .ok (.iconst 0, 1) := by decide +kernel
theorem dX6_together_1 : decode cX6_together 1 = .ok (.istore_n 3, 1) := by decide +kernel
theorem dX6_together_2 : decode cX6_together 2 = .ok (.iconst 0, 1) := by decide +kernel
theorem dX6_together_3 : decode cX6_together 3 = .ok (.istore 4, 2) := by decide +kernel
theorem dX6_together_5 : decode cX6_together 5 = .ok (.iload 4, 2) := by decide +kernel
theorem dX6_together_7 : decode cX6_together 7 = .ok (.aload_n 0, 1) := by decide +kernel
theorem dX6_together_8 : decode cX6_together 8 = .ok (.invokevirtual 51, 3) := by decide +kernel
theorem dX6_together_11 : decode cX6_together 11 = .ok (.if_icmp .ge 41, 3) := by decide +kernel
theorem dX6_together_14 : decode cX6_together 14 = .ok (.iload_n 3, 1) := by decide +kernel
theorem dX6_together_15 : decode cX6_together 15 = .ok (.ifCond .ne 25, 3) := by decide +kernel
theorem dX6_together_18 : decode cX6_together 18 = .ok (.aload_n 0, 1) := by decide +kernel
theorem dX6_together_19 : decode cX6_together 19 = .ok (.iload 4, 2) := by decide +kernel
theorem dX6_together_21 : decode cX6_together 21 = .ok (.iload_n 1, 1) := by decide +kernel
theorem dX6_together_22 : decode cX6_together 22 = .ok (.iconst 2, 1) := by decide +kernel
theorem dX6_together_23 : decode cX6_together 23 = .ok (.invokevirtual 125, 3) := by decide +kernel
theorem dX6_together_26 : decode cX6_together 26 = .ok (.ifCond .eq 18, 3) := by decide +kernel
theorem dX6_together_29 : decode cX6_together 29 = .ok (.aload_n 0, 1) := by decide +kernel
theorem dX6_together_30 : decode cX6_together 30 = .ok (.iload 4, 2) := by decide +kernel
theorem dX6_together_32 : decode cX6_together 32 = .ok (.iload_n 2, 1) := by decide +kernel
theorem dX6_together_33 : decode cX6_together 33 = .ok (.iconst 2, 1) := by decide +kernel
theorem dX6_together_34 : decode cX6_together 34 = .ok (.invokevirtual 125, 3) := by decide +kernel
theorem dX6_together_37 : decode cX6_together 37 = .ok (.ifCond .eq 7, 3) := by decide +kernel
theorem dX6_together_40 : decode cX6_together 40 = .ok (.iconst 1, 1) := by decide +kernel
theorem dX6_together_41 : decode cX6_together 41 = .ok (.goto 4, 3) := by decide +kernel
theorem dX6_together_44 : decode cX6_together 44 = .ok (.iconst 0, 1) := by decide +kernel
theorem dX6_together_45 : decode cX6_together 45 = .ok (.istore_n 3, 1) := by decide +kernel
theorem dX6_together_46 : decode cX6_together 46 = .ok (.iinc 4 1, 3) := by decide +kernel
theorem dX6_together_49 : decode cX6_together 49 = .ok (.goto (-44), 3) := by decide +kernel
theorem dX6_together_52 : decode cX6_together 52 = .ok (.iload_n 3, 1) := by decide +kernel
theorem dX6_together_53 : decode cX6_together 53 = .ok (.ifCond .eq 23, 3) := by decide +kernel
theorem dX6_together_56 : decode cX6_together 56 = .ok (.aload_n 0, 1) := by decide +kernel
theorem dX6_together_57 : decode cX6_together 57 = .ok (.iload_n 1, 1) := by decide +kernel
theorem dX6_together_58 : decode cX6_together 58 = .ok (.invokevirtual 146, 3) := by decide +kernel
theorem dX6_together_61 : decode cX6_together 61 = .ok (.ifCond .ne 15, 3) := by decide +kernel
theorem dX6_together_64 : decode cX6_together 64 = .ok (.aload_n 0, 1) := by decide +kernel
theorem dX6_together_65 : decode cX6_together 65 = .ok (.iload_n 2, 1) := by decide +kernel
theorem dX6_together_66 : decode cX6_together 66 = .ok (.invokevirtual 146, 3) := by decide +kernel
theorem dX6_together_69 : decode cX6_together 69 = .ok (.ifCond .ne 7, 3) := by decide +kernel
theorem dX6_together_72 : decode cX6_together 72 = .ok (.iconst 1, 1) := by decide +kernel
theorem dX6_together_73 : decode cX6_together 73 = .ok (.goto 4, 3) := by decide +kernel
theorem dX6_together_76 : decode cX6_together 76 = .ok (.iconst 0, 1) := by decide +kernel
theorem dX6_together_77 : decode cX6_together 77 = .ok (.ireturn, 1) := by decide +kernel
set_option maxRecDepth 20000 in
theorem ggX6_clashes_X6_wires : GoodIn wsX6_clashes wsX6_wires := goodIn_r _ [5, 6, 37, 38, 39, 40, 41, 42, 43, 44, 45, 46, 47, 48, 49, 50, 51, 52, 53, 54, 55] (by decide +kernel) (by decide +kernel)
set_option maxRecDepth 20000 in
theorem gX6_clashes_X6_wires : GoodIn wsX6_clashes (wsV RX6 59 RX6 yX6_wires wsX6_wires) := goodIn_app (goodIn_of _ (by decide +kernel)) ggX6_clashes_X6_wires
set_option maxRecDepth 20000 in
theorem ggX6_clashes_X6_noteOf : GoodIn wsX6_clashes wsX6_noteOf := goodIn_r _ [10, 6, 11, 12, 4, 13, 37, 38, 39, 40, 41, 42, 43, 44, 45, 46, 47, 48, 49, 50, 51, 52, 53, 54, 55] (by decide +kernel) (by decide +kernel)
set_option maxRecDepth 20000 in
theorem gX6_clashes_X6_noteOf : GoodIn wsX6_clashes (wsV RX6 122 RX6 yX6_noteOf wsX6_noteOf) := goodIn_app (goodIn_of _ (by decide +kernel)) ggX6_clashes_X6_noteOf
set_option maxRecDepth 20000 in
theorem ggX6_clashes_X6_together : GoodIn wsX6_clashes wsX6_together := goodIn_r _ [17, 18, 19, 20, 4, 21, 6, 22, 23, 24, 25, 26, 27, 28, 29, 30, 31, 32, 33, 34, 35, 36, 37, 38, 39, 40, 41, 42, 43, 44, 45, 46, 47, 48, 49, 50, 51, 52, 53, 54, 55] (by decide +kernel) (by decide +kernel)
set_option maxRecDepth 20000 in
theorem gX6_clashes_X6_together : GoodIn wsX6_clashes (wsV RX6 156 RX6 yX6_together wsX6_together) := goodIn_app (goodIn_of _ (by decide +kernel)) ggX6_clashes_X6_together
theorem dX6_clashes_0 : decode cX6_clashes 0 = .ok (.iconst 0, 1) := by decide +kernel
theorem dX6_clashes_1 : decode cX6_clashes 1 = .ok (.istore_n 1, 1) := by decide +kernel
theorem dX6_clashes_2 : decode cX6_clashes 2 = .ok (.iconst 0, 1) := by decide +kernel
theorem dX6_clashes_3 : decode cX6_clashes 3 = .ok (.istore_n 2, 1) := by decide +kernel
theorem dX6_clashes_4 : decode cX6_clashes 4 = .ok (.iload_n 2, 1) := by decide +kernel
theorem dX6_clashes_5 : decode cX6_clashes 5 = .ok (.aload_n 0, 1) := by decide +kernel
theorem dX6_clashes_6 : decode cX6_clashes 6 = .ok (.invokevirtual 59, 3) := by decide +kernel
theorem dX6_clashes_9 : decode cX6_clashes 9 = .ok (.if_icmp .ge 57, 3) := by decide +kernel
theorem dX6_clashes_12 : decode cX6_clashes 12 = .ok (.iload_n 2, 1) := by decide +kernel
theorem dX6_clashes_13 : decode cX6_clashes 13 = .ok (.iconst 1, 1) := by decide +kernel
theorem dX6_clashes_14 : decode cX6_clashes 14 = .ok (.iadd, 1) := by decide +kernel
theorem dX6_clashes_15 : decode cX6_clashes 15 = .ok (.istore_n 3, 1) := by decide +kernel
theorem dX6_clashes_16 : decode cX6_clashes 16 = .ok (.iload_n 3, 1) := by decide +kernel
theorem dX6_clashes_17 : decode cX6_clashes 17 = .ok (.aload_n 0, 1) := by decide +kernel
theorem dX6_clashes_18 : decode cX6_clashes 18 = .ok (.invokevirtual 59, 3) := by decide +kernel
theorem dX6_clashes_21 : decode cX6_clashes 21 = .ok (.if_icmp .ge 39, 3) := by decide +kernel
theorem dX6_clashes_24 : decode cX6_clashes 24 = .ok (.iload_n 1, 1) := by decide +kernel
theorem dX6_clashes_25 : decode cX6_clashes 25 = .ok (.aload_n 0, 1) := by decide +kernel
theorem dX6_clashes_26 : decode cX6_clashes 26 = .ok (.iload_n 2, 1) := by decide +kernel
theorem dX6_clashes_27 : decode cX6_clashes 27 = .ok (.invokevirtual 122, 3) := by decide +kernel
theorem dX6_clashes_30 : decode cX6_clashes 30 = .ok (.aload_n 0, 1) := by decide +kernel
theorem dX6_clashes_31 : decode cX6_clashes 31 = .ok (.iload_n 3, 1) := by decide +kernel
theorem dX6_clashes_32 : decode cX6_clashes 32 = .ok (.invokevirtual 122, 3) := by decide +kernel
theorem dX6_clashes_35 : decode cX6_clashes 35 = .ok (.if_icmp .ne 16, 3) := by decide +kernel
theorem dX6_clashes_38 : decode cX6_clashes 38 = .ok (.aload_n 0, 1) := by decide +kernel
theorem dX6_clashes_39 : decode cX6_clashes 39 = .ok (.iload_n 2, 1) := by decide +kernel
theorem dX6_clashes_40 : decode cX6_clashes 40 = .ok (.iload_n 3, 1) := by decide +kernel
theorem dX6_clashes_41 : decode cX6_clashes 41 = .ok (.invokevirtual 156, 3) := by decide +kernel
theorem dX6_clashes_44 : decode cX6_clashes 44 = .ok (.ifCond .eq 7, 3) := by decide +kernel
theorem dX6_clashes_47 : decode cX6_clashes 47 = .ok (.iconst 1, 1) := by decide +kernel
theorem dX6_clashes_48 : decode cX6_clashes 48 = .ok (.goto 4, 3) := by decide +kernel
theorem dX6_clashes_51 : decode cX6_clashes 51 = .ok (.iconst 0, 1) := by decide +kernel
theorem dX6_clashes_52 : decode cX6_clashes 52 = .ok (.iadd, 1) := by decide +kernel
theorem dX6_clashes_53 : decode cX6_clashes 53 = .ok (.istore_n 1, 1) := by decide +kernel
theorem dX6_clashes_54 : decode cX6_clashes 54 = .ok (.iinc 3 1, 3) := by decide +kernel
theorem dX6_clashes_57 : decode cX6_clashes 57 = .ok (.goto (-41), 3) := by decide +kernel
theorem dX6_clashes_60 : decode cX6_clashes 60 = .ok (.iinc 2 1, 3) := by decide +kernel
theorem dX6_clashes_63 : decode cX6_clashes 63 = .ok (.goto (-59), 3) := by decide +kernel
theorem dX6_clashes_66 : decode cX6_clashes 66 = .ok (.iload_n 1, 1) := by decide +kernel
theorem dX6_clashes_67 : decode cX6_clashes 67 = .ok (.ireturn, 1) := by decide +kernel
set_option maxRecDepth 20000 in
theorem ggX6_layAlike_X6_noteBy : GoodIn wsX6_layAlike wsX6_noteBy := goodIn_r _ [7] (by decide +kernel) (by decide +kernel)
set_option maxRecDepth 20000 in
theorem gX6_layAlike_X6_noteBy : GoodIn wsX6_layAlike (va_wsS RX6 111 yX6_noteBy wsX6_noteBy) := goodIn_app (goodIn_of _ (by decide +kernel)) ggX6_layAlike_X6_noteBy
theorem dX6_layAlike_0 : decode cX6_layAlike 0 = .ok (.iconst 0, 1) := by decide +kernel
theorem dX6_layAlike_1 : decode cX6_layAlike 1 = .ok (.istore_n 3, 1) := by decide +kernel
theorem dX6_layAlike_2 : decode cX6_layAlike 2 = .ok (.iload_n 3, 1) := by decide +kernel
theorem dX6_layAlike_3 : decode cX6_layAlike 3 = .ok (.bipush 12, 2) := by decide +kernel
theorem dX6_layAlike_5 : decode cX6_layAlike 5 = .ok (.if_icmp .ge 137, 3) := by decide +kernel
theorem dX6_layAlike_8 : decode cX6_layAlike 8 = .ok (.iconst 0, 1) := by decide +kernel
theorem dX6_layAlike_9 : decode cX6_layAlike 9 = .ok (.istore 4, 2) := by decide +kernel
theorem dX6_layAlike_11 : decode cX6_layAlike 11 = .ok (.iconst 0, 1) := by decide +kernel
theorem dX6_layAlike_12 : decode cX6_layAlike 12 = .ok (.istore 5, 2) := by decide +kernel
theorem dX6_layAlike_14 : decode cX6_layAlike 14 = .ok (.iload 5, 2) := by decide +kernel
theorem dX6_layAlike_16 : decode cX6_layAlike 16 = .ok (.bipush 12, 2) := by decide +kernel
theorem dX6_layAlike_18 : decode cX6_layAlike 18 = .ok (.if_icmp .ge 82, 3) := by decide +kernel
theorem dX6_layAlike_21 : decode cX6_layAlike 21 = .ok (.iconst 0, 1) := by decide +kernel
theorem dX6_layAlike_22 : decode cX6_layAlike 22 = .ok (.istore 6, 2) := by decide +kernel
theorem dX6_layAlike_24 : decode cX6_layAlike 24 = .ok (.iload 6, 2) := by decide +kernel
theorem dX6_layAlike_26 : decode cX6_layAlike 26 = .ok (.bipush 6, 2) := by decide +kernel
theorem dX6_layAlike_28 : decode cX6_layAlike 28 = .ok (.if_icmp .ge 66, 3) := by decide +kernel
theorem dX6_layAlike_31 : decode cX6_layAlike 31 = .ok (.aload_n 0, 1) := by decide +kernel
theorem dX6_layAlike_32 : decode cX6_layAlike 32 = .ok (.getfield 7, 3) := by decide +kernel
theorem dX6_layAlike_35 : decode cX6_layAlike 35 = .ok (.iconst 3, 1) := by decide +kernel
theorem dX6_layAlike_36 : decode cX6_layAlike 36 = .ok (.iload_n 1, 1) := by decide +kernel
theorem dX6_layAlike_37 : decode cX6_layAlike 37 = .ok (.iadd, 1) := by decide +kernel
theorem dX6_layAlike_38 : decode cX6_layAlike 38 = .ok (.iaload, 1) := by decide +kernel
theorem dX6_layAlike_39 : decode cX6_layAlike 39 = .ok (.iload_n 3, 1) := by decide +kernel
theorem dX6_layAlike_40 : decode cX6_layAlike 40 = .ok (.iload 6, 2) := by decide +kernel
theorem dX6_layAlike_42 : decode cX6_layAlike 42 = .ok (.invokestatic 111, 3) := by decide +kernel
theorem dX6_layAlike_45 : decode cX6_layAlike 45 = .ok (.aload_n 0, 1) := by decide +kernel
theorem dX6_layAlike_46 : decode cX6_layAlike 46 = .ok (.getfield 7, 3) := by decide +kernel
theorem dX6_layAlike_49 : decode cX6_layAlike 49 = .ok (.iconst 3, 1) := by decide +kernel
theorem dX6_layAlike_50 : decode cX6_layAlike 50 = .ok (.iload_n 2, 1) := by decide +kernel
theorem dX6_layAlike_51 : decode cX6_layAlike 51 = .ok (.iadd, 1) := by decide +kernel
theorem dX6_layAlike_52 : decode cX6_layAlike 52 = .ok (.iaload, 1) := by decide +kernel
theorem dX6_layAlike_53 : decode cX6_layAlike 53 = .ok (.iload 5, 2) := by decide +kernel
theorem dX6_layAlike_55 : decode cX6_layAlike 55 = .ok (.iload 6, 2) := by decide +kernel
theorem dX6_layAlike_57 : decode cX6_layAlike 57 = .ok (.invokestatic 111, 3) := by decide +kernel
theorem dX6_layAlike_60 : decode cX6_layAlike 60 = .ok (.if_icmp .ne 7, 3) := by decide +kernel
theorem dX6_layAlike_63 : decode cX6_layAlike 63 = .ok (.iconst 1, 1) := by decide +kernel
theorem dX6_layAlike_64 : decode cX6_layAlike 64 = .ok (.goto 4, 3) := by decide +kernel
theorem dX6_layAlike_67 : decode cX6_layAlike 67 = .ok (.iconst 0, 1) := by decide +kernel
theorem dX6_layAlike_68 : decode cX6_layAlike 68 = .ok (.istore 7, 2) := by decide +kernel
theorem dX6_layAlike_70 : decode cX6_layAlike 70 = .ok (.iload 4, 2) := by decide +kernel
theorem dX6_layAlike_72 : decode cX6_layAlike 72 = .ok (.iload 7, 2) := by decide +kernel
theorem dX6_layAlike_74 : decode cX6_layAlike 74 = .ok (.ifCond .eq 10, 3) := by decide +kernel
theorem dX6_layAlike_77 : decode cX6_layAlike 77 = .ok (.iconst 1, 1) := by decide +kernel
theorem dX6_layAlike_78 : decode cX6_layAlike 78 = .ok (.iload 5, 2) := by decide +kernel
theorem dX6_layAlike_80 : decode cX6_layAlike 80 = .ok (.ishl, 1) := by decide +kernel
theorem dX6_layAlike_81 : decode cX6_layAlike 81 = .ok (.goto 4, 3) := by decide +kernel
theorem dX6_layAlike_84 : decode cX6_layAlike 84 = .ok (.iconst 0, 1) := by decide +kernel
theorem dX6_layAlike_85 : decode cX6_layAlike 85 = .ok (.ior, 1) := by decide +kernel
theorem dX6_layAlike_86 : decode cX6_layAlike 86 = .ok (.istore 4, 2) := by decide +kernel
theorem dX6_layAlike_88 : decode cX6_layAlike 88 = .ok (.iinc 6 1, 3) := by decide +kernel
theorem dX6_layAlike_91 : decode cX6_layAlike 91 = .ok (.goto (-67), 3) := by decide +kernel
theorem dX6_layAlike_94 : decode cX6_layAlike 94 = .ok (.iinc 5 1, 3) := by decide +kernel
theorem dX6_layAlike_97 : decode cX6_layAlike 97 = .ok (.goto (-83), 3) := by decide +kernel
theorem dX6_layAlike_100 : decode cX6_layAlike 100 = .ok (.aload_n 0, 1) := by decide +kernel
theorem dX6_layAlike_101 : decode cX6_layAlike 101 = .ok (.getfield 33, 3) := by decide +kernel
theorem dX6_layAlike_104 : decode cX6_layAlike 104 = .ok (.bipush 8, 2) := by decide +kernel
theorem dX6_layAlike_106 : decode cX6_layAlike 106 = .ok (.iload_n 1, 1) := by decide +kernel
theorem dX6_layAlike_107 : decode cX6_layAlike 107 = .ok (.imul, 1) := by decide +kernel
theorem dX6_layAlike_108 : decode cX6_layAlike 108 = .ok (.iload_n 2, 1) := by decide +kernel
theorem dX6_layAlike_109 : decode cX6_layAlike 109 = .ok (.iadd, 1) := by decide +kernel
theorem dX6_layAlike_110 : decode cX6_layAlike 110 = .ok (.bipush 12, 2) := by decide +kernel
theorem dX6_layAlike_112 : decode cX6_layAlike 112 = .ok (.imul, 1) := by decide +kernel
theorem dX6_layAlike_113 : decode cX6_layAlike 113 = .ok (.iload_n 3, 1) := by decide +kernel
theorem dX6_layAlike_114 : decode cX6_layAlike 114 = .ok (.iadd, 1) := by decide +kernel
theorem dX6_layAlike_115 : decode cX6_layAlike 115 = .ok (.aload_n 0, 1) := by decide +kernel
theorem dX6_layAlike_116 : decode cX6_layAlike 116 = .ok (.getfield 27, 3) := by decide +kernel
theorem dX6_layAlike_119 : decode cX6_layAlike 119 = .ok (.iload_n 1, 1) := by decide +kernel
theorem dX6_layAlike_120 : decode cX6_layAlike 120 = .ok (.iaload, 1) := by decide +kernel
theorem dX6_layAlike_121 : decode cX6_layAlike 121 = .ok (.iload_n 2, 1) := by decide +kernel
theorem dX6_layAlike_122 : decode cX6_layAlike 122 = .ok (.ishr, 1) := by decide +kernel
theorem dX6_layAlike_123 : decode cX6_layAlike 123 = .ok (.iconst 1, 1) := by decide +kernel
theorem dX6_layAlike_124 : decode cX6_layAlike 124 = .ok (.iand, 1) := by decide +kernel
theorem dX6_layAlike_125 : decode cX6_layAlike 125 = .ok (.iconst 1, 1) := by decide +kernel
theorem dX6_layAlike_126 : decode cX6_layAlike 126 = .ok (.if_icmp .ne 8, 3) := by decide +kernel
theorem dX6_layAlike_129 : decode cX6_layAlike 129 = .ok (.iload 4, 2) := by decide +kernel
theorem dX6_layAlike_131 : decode cX6_layAlike 131 = .ok (.goto 4, 3) := by decide +kernel
theorem dX6_layAlike_134 : decode cX6_layAlike 134 = .ok (.iconst 0, 1) := by decide +kernel
theorem dX6_layAlike_135 : decode cX6_layAlike 135 = .ok (.iastore, 1) := by decide +kernel
theorem dX6_layAlike_136 : decode cX6_layAlike 136 = .ok (.iinc 3 1, 3) := by decide +kernel
theorem dX6_layAlike_139 : decode cX6_layAlike 139 = .ok (.goto (-137), 3) := by decide +kernel
theorem dX6_layAlike_142 : decode cX6_layAlike 142 = .ok (.return_, 1) := by decide +kernel
set_option maxRecDepth 20000 in
theorem ggX6_mayBe_X6_wires : GoodIn wsX6_mayBe wsX6_wires := goodIn_r _ [7, 8, 9, 10, 11, 12, 13, 14, 15, 16, 17, 18, 19, 20, 21, 22, 23, 24, 25, 26, 27] (by decide +kernel) (by decide +kernel)
set_option maxRecDepth 20000 in
theorem gX6_mayBe_X6_wires : GoodIn wsX6_mayBe (wsV RX6 59 RX6 yX6_wires wsX6_wires) := goodIn_app (goodIn_of _ (by decide +kernel)) ggX6_mayBe_X6_wires
theorem dX6_mayBe_0 : decode cX6_mayBe 0 = .ok (.sipush 4095, 3) := by decide +kernel
theorem dX6_mayBe_3 : decode cX6_mayBe 3 = .ok (.istore_n 3, 1) := by decide +kernel
theorem dX6_mayBe_4 : decode cX6_mayBe 4 = .ok (.iconst 0, 1) := by decide +kernel
theorem dX6_mayBe_5 : decode cX6_mayBe 5 = .ok (.istore 4, 2) := by decide +kernel
theorem dX6_mayBe_7 : decode cX6_mayBe 7 = .ok (.iload 4, 2) := by decide +kernel
theorem dX6_mayBe_9 : decode cX6_mayBe 9 = .ok (.aload_n 0, 1) := by decide +kernel
theorem dX6_mayBe_10 : decode cX6_mayBe 10 = .ok (.invokevirtual 59, 3) := by decide +kernel
theorem dX6_mayBe_13 : decode cX6_mayBe 13 = .ok (.if_icmp .ge 51, 3) := by decide +kernel
theorem dX6_mayBe_16 : decode cX6_mayBe 16 = .ok (.iload_n 3, 1) := by decide +kernel
theorem dX6_mayBe_17 : decode cX6_mayBe 17 = .ok (.iload_n 2, 1) := by decide +kernel
theorem dX6_mayBe_18 : decode cX6_mayBe 18 = .ok (.iload 4, 2) := by decide +kernel
theorem dX6_mayBe_20 : decode cX6_mayBe 20 = .ok (.ishr, 1) := by decide +kernel
theorem dX6_mayBe_21 : decode cX6_mayBe 21 = .ok (.iconst 1, 1) := by decide +kernel
theorem dX6_mayBe_22 : decode cX6_mayBe 22 = .ok (.iand, 1) := by decide +kernel
theorem dX6_mayBe_23 : decode cX6_mayBe 23 = .ok (.iconst 1, 1) := by decide +kernel
theorem dX6_mayBe_24 : decode cX6_mayBe 24 = .ok (.if_icmp .ne 31, 3) := by decide +kernel
theorem dX6_mayBe_27 : decode cX6_mayBe 27 = .ok (.aload_n 0, 1) := by decide +kernel
theorem dX6_mayBe_28 : decode cX6_mayBe 28 = .ok (.getfield 33, 3) := by decide +kernel
theorem dX6_mayBe_31 : decode cX6_mayBe 31 = .ok (.bipush 8, 2) := by decide +kernel
theorem dX6_mayBe_33 : decode cX6_mayBe 33 = .ok (.iload 4, 2) := by decide +kernel
theorem dX6_mayBe_35 : decode cX6_mayBe 35 = .ok (.imul, 1) := by decide +kernel
theorem dX6_mayBe_36 : decode cX6_mayBe 36 = .ok (.iload_n 1, 1) := by decide +kernel
theorem dX6_mayBe_37 : decode cX6_mayBe 37 = .ok (.iadd, 1) := by decide +kernel
theorem dX6_mayBe_38 : decode cX6_mayBe 38 = .ok (.bipush 12, 2) := by decide +kernel
theorem dX6_mayBe_40 : decode cX6_mayBe 40 = .ok (.imul, 1) := by decide +kernel
theorem dX6_mayBe_41 : decode cX6_mayBe 41 = .ok (.aload_n 0, 1) := by decide +kernel
theorem dX6_mayBe_42 : decode cX6_mayBe 42 = .ok (.getfield 30, 3) := by decide +kernel
theorem dX6_mayBe_45 : decode cX6_mayBe 45 = .ok (.iload 4, 2) := by decide +kernel
theorem dX6_mayBe_47 : decode cX6_mayBe 47 = .ok (.iaload, 1) := by decide +kernel
theorem dX6_mayBe_48 : decode cX6_mayBe 48 = .ok (.iadd, 1) := by decide +kernel
theorem dX6_mayBe_49 : decode cX6_mayBe 49 = .ok (.iaload, 1) := by decide +kernel
theorem dX6_mayBe_50 : decode cX6_mayBe 50 = .ok (.iconst (-1), 1) := by decide +kernel
theorem dX6_mayBe_51 : decode cX6_mayBe 51 = .ok (.ixor, 1) := by decide +kernel
theorem dX6_mayBe_52 : decode cX6_mayBe 52 = .ok (.goto 4, 3) := by decide +kernel
theorem dX6_mayBe_55 : decode cX6_mayBe 55 = .ok (.iconst (-1), 1) := by decide +kernel
theorem dX6_mayBe_56 : decode cX6_mayBe 56 = .ok (.iand, 1) := by decide +kernel
theorem dX6_mayBe_57 : decode cX6_mayBe 57 = .ok (.istore_n 3, 1) := by decide +kernel
theorem dX6_mayBe_58 : decode cX6_mayBe 58 = .ok (.iinc 4 1, 3) := by decide +kernel
theorem dX6_mayBe_61 : decode cX6_mayBe 61 = .ok (.goto (-54), 3) := by decide +kernel
theorem dX6_mayBe_64 : decode cX6_mayBe 64 = .ok (.iload_n 3, 1) := by decide +kernel
theorem dX6_mayBe_65 : decode cX6_mayBe 65 = .ok (.ireturn, 1) := by decide +kernel
set_option maxRecDepth 20000 in
theorem ggX6_layOrder_X6_wires : GoodIn wsX6_layOrder wsX6_wires := goodIn_r _ [7, 1, 8, 9, 10, 11, 12, 13, 14, 15, 16, 17, 18, 19, 20, 21, 22, 23, 24, 25, 26] (by decide +kernel) (by decide +kernel)
set_option maxRecDepth 20000 in
theorem gX6_layOrder_X6_wires : GoodIn wsX6_layOrder (wsV RX6 59 RX6 yX6_wires wsX6_wires) := goodIn_app (goodIn_of _ (by decide +kernel)) ggX6_layOrder_X6_wires
theorem dX6_layOrder_0 : decode cX6_layOrder 0 = .ok (.iconst 0, 1) := by decide +kernel
theorem dX6_layOrder_1 : decode cX6_layOrder 1 = .ok (.istore_n 2, 1) := by decide +kernel
theorem dX6_layOrder_2 : decode cX6_layOrder 2 = .ok (.iconst 0, 1) := by decide +kernel
theorem dX6_layOrder_3 : decode cX6_layOrder 3 = .ok (.istore_n 3, 1) := by decide +kernel
theorem dX6_layOrder_4 : decode cX6_layOrder 4 = .ok (.iload_n 3, 1) := by decide +kernel
theorem dX6_layOrder_5 : decode cX6_layOrder 5 = .ok (.iconst 2, 1) := by decide +kernel
theorem dX6_layOrder_6 : decode cX6_layOrder 6 = .ok (.if_icmp .ge 78, 3) := by decide +kernel
theorem dX6_layOrder_9 : decode cX6_layOrder 9 = .ok (.iconst 0, 1) := by decide +kernel
theorem dX6_layOrder_10 : decode cX6_layOrder 10 = .ok (.istore 4, 2) := by decide +kernel
theorem dX6_layOrder_12 : decode cX6_layOrder 12 = .ok (.iload 4, 2) := by decide +kernel
theorem dX6_layOrder_14 : decode cX6_layOrder 14 = .ok (.aload_n 0, 1) := by decide +kernel
theorem dX6_layOrder_15 : decode cX6_layOrder 15 = .ok (.invokevirtual 59, 3) := by decide +kernel
theorem dX6_layOrder_18 : decode cX6_layOrder 18 = .ok (.if_icmp .ge 60, 3) := by decide +kernel
theorem dX6_layOrder_21 : decode cX6_layOrder 21 = .ok (.iload_n 1, 1) := by decide +kernel
theorem dX6_layOrder_22 : decode cX6_layOrder 22 = .ok (.iload 4, 2) := by decide +kernel
theorem dX6_layOrder_24 : decode cX6_layOrder 24 = .ok (.ishr, 1) := by decide +kernel
theorem dX6_layOrder_25 : decode cX6_layOrder 25 = .ok (.iconst 1, 1) := by decide +kernel
theorem dX6_layOrder_26 : decode cX6_layOrder 26 = .ok (.iand, 1) := by decide +kernel
theorem dX6_layOrder_27 : decode cX6_layOrder 27 = .ok (.iconst 1, 1) := by decide +kernel
theorem dX6_layOrder_28 : decode cX6_layOrder 28 = .ok (.if_icmp .ne 44, 3) := by decide +kernel
theorem dX6_layOrder_31 : decode cX6_layOrder 31 = .ok (.aload_n 0, 1) := by decide +kernel
theorem dX6_layOrder_32 : decode cX6_layOrder 32 = .ok (.getfield 7, 3) := by decide +kernel
theorem dX6_layOrder_35 : decode cX6_layOrder 35 = .ok (.iconst 3, 1) := by decide +kernel
theorem dX6_layOrder_36 : decode cX6_layOrder 36 = .ok (.iload 4, 2) := by decide +kernel
theorem dX6_layOrder_38 : decode cX6_layOrder 38 = .ok (.iadd, 1) := by decide +kernel
theorem dX6_layOrder_39 : decode cX6_layOrder 39 = .ok (.iaload, 1) := by decide +kernel
theorem dX6_layOrder_40 : decode cX6_layOrder 40 = .ok (.iconst 3, 1) := by decide +kernel
theorem dX6_layOrder_41 : decode cX6_layOrder 41 = .ok (.if_icmp .ne 7, 3) := by decide +kernel
theorem dX6_layOrder_44 : decode cX6_layOrder 44 = .ok (.iconst 1, 1) := by decide +kernel
theorem dX6_layOrder_45 : decode cX6_layOrder 45 = .ok (.goto 4, 3) := by decide +kernel
theorem dX6_layOrder_48 : decode cX6_layOrder 48 = .ok (.iconst 0, 1) := by decide +kernel
theorem dX6_layOrder_49 : decode cX6_layOrder 49 = .ok (.iload_n 3, 1) := by decide +kernel
theorem dX6_layOrder_50 : decode cX6_layOrder 50 = .ok (.ifCond .ne 7, 3) := by decide +kernel
theorem dX6_layOrder_53 : decode cX6_layOrder 53 = .ok (.iconst 1, 1) := by decide +kernel
theorem dX6_layOrder_54 : decode cX6_layOrder 54 = .ok (.goto 4, 3) := by decide +kernel
theorem dX6_layOrder_57 : decode cX6_layOrder 57 = .ok (.iconst 0, 1) := by decide +kernel
theorem dX6_layOrder_58 : decode cX6_layOrder 58 = .ok (.if_icmp .ne 14, 3) := by decide +kernel
theorem dX6_layOrder_61 : decode cX6_layOrder 61 = .ok (.aload_n 0, 1) := by decide +kernel
theorem dX6_layOrder_62 : decode cX6_layOrder 62 = .ok (.getfield 36, 3) := by decide +kernel
theorem dX6_layOrder_65 : decode cX6_layOrder 65 = .ok (.iload_n 2, 1) := by decide +kernel
theorem dX6_layOrder_66 : decode cX6_layOrder 66 = .ok (.iload 4, 2) := by decide +kernel
theorem dX6_layOrder_68 : decode cX6_layOrder 68 = .ok (.iastore, 1) := by decide +kernel
theorem dX6_layOrder_69 : decode cX6_layOrder 69 = .ok (.iinc 2 1, 3) := by decide +kernel
theorem dX6_layOrder_72 : decode cX6_layOrder 72 = .ok (.iinc 4 1, 3) := by decide +kernel
theorem dX6_layOrder_75 : decode cX6_layOrder 75 = .ok (.goto (-63), 3) := by decide +kernel
theorem dX6_layOrder_78 : decode cX6_layOrder 78 = .ok (.iinc 3 1, 3) := by decide +kernel
theorem dX6_layOrder_81 : decode cX6_layOrder 81 = .ok (.goto (-77), 3) := by decide +kernel
theorem dX6_layOrder_84 : decode cX6_layOrder 84 = .ok (.iload_n 2, 1) := by decide +kernel
theorem dX6_layOrder_85 : decode cX6_layOrder 85 = .ok (.ireturn, 1) := by decide +kernel
theorem dX6_lowest_0 : decode cX6_lowest 0 = .ok (.iconst 0, 1) := by decide +kernel
theorem dX6_lowest_1 : decode cX6_lowest 1 = .ok (.istore_n 1, 1) := by decide +kernel
theorem dX6_lowest_2 : decode cX6_lowest 2 = .ok (.iload_n 0, 1) := by decide +kernel
theorem dX6_lowest_3 : decode cX6_lowest 3 = .ok (.iload_n 1, 1) := by decide +kernel
theorem dX6_lowest_4 : decode cX6_lowest 4 = .ok (.ishr, 1) := by decide +kernel
theorem dX6_lowest_5 : decode cX6_lowest 5 = .ok (.iconst 1, 1) := by decide +kernel
theorem dX6_lowest_6 : decode cX6_lowest 6 = .ok (.iand, 1) := by decide +kernel
theorem dX6_lowest_7 : decode cX6_lowest 7 = .ok (.ifCond .ne 9, 3) := by decide +kernel
theorem dX6_lowest_10 : decode cX6_lowest 10 = .ok (.iinc 1 1, 3) := by decide +kernel
theorem dX6_lowest_13 : decode cX6_lowest 13 = .ok (.goto (-11), 3) := by decide +kernel
theorem dX6_lowest_16 : decode cX6_lowest 16 = .ok (.iload_n 1, 1) := by decide +kernel
theorem dX6_lowest_17 : decode cX6_lowest 17 = .ok (.ireturn, 1) := by decide +kernel
set_option maxRecDepth 20000 in
theorem ggX6_canBe_X6_wires : GoodIn wsX6_canBe wsX6_wires := goodIn_r _ [9, 2, 22, 23, 24, 25, 26, 27, 28, 29, 30, 31, 32, 33, 34, 35, 36, 37, 38, 39, 40] (by decide +kernel) (by decide +kernel)
set_option maxRecDepth 20000 in
theorem gX6_canBe_X6_wires : GoodIn wsX6_canBe (wsV RX6 59 RX6 yX6_wires wsX6_wires) := goodIn_app (goodIn_of _ (by decide +kernel)) ggX6_canBe_X6_wires
set_option maxRecDepth 20000 in
theorem ggX6_canBe_X6_mayBe : GoodIn wsX6_canBe wsX6_mayBe := goodIn_r _ [13, 14, 1, 5, 6, 7, 8, 9, 2, 22, 23, 24, 25, 26, 27, 28, 29, 30, 31, 32, 33, 34, 35, 36, 37, 38, 39, 40] (by decide +kernel) (by decide +kernel)
set_option maxRecDepth 20000 in
theorem gX6_canBe_X6_mayBe : GoodIn wsX6_canBe (wsV RX6 159 RX6 yX6_mayBe wsX6_mayBe) := goodIn_app (goodIn_of _ (by decide +kernel)) ggX6_canBe_X6_mayBe
set_option maxRecDepth 20000 in
theorem ggX6_canBe_X6_layOrder : GoodIn wsX6_canBe wsX6_layOrder := goodIn_r _ [18, 2, 4, 5, 6, 7, 8, 9, 22, 23, 24, 25, 26, 27, 28, 29, 30, 31, 32, 33, 34, 35, 36, 37, 38, 39, 40] (by decide +kernel) (by decide +kernel)
set_option maxRecDepth 20000 in
theorem gX6_canBe_X6_layOrder : GoodIn wsX6_canBe (wsV RX6 162 RX6 yX6_layOrder wsX6_layOrder) := goodIn_app (goodIn_of _ (by decide +kernel)) ggX6_canBe_X6_layOrder
set_option maxRecDepth 20000 in
theorem ggX6_canBe_X6_lowest : GoodIn wsX6_canBe wsX6_lowest := goodIn_r _ [21] (by decide +kernel) (by decide +kernel)
set_option maxRecDepth 20000 in
theorem gX6_canBe_X6_lowest : GoodIn wsX6_canBe (va_wsS RX6 165 yX6_lowest wsX6_lowest) := goodIn_app (goodIn_of _ (by decide +kernel)) ggX6_canBe_X6_lowest
theorem dX6_canBe_0 : decode cX6_canBe 0 = .ok (.iconst 1, 1) := by decide +kernel
theorem dX6_canBe_1 : decode cX6_canBe 1 = .ok (.aload_n 0, 1) := by decide +kernel
theorem dX6_canBe_2 : decode cX6_canBe 2 = .ok (.invokevirtual 59, 3) := by decide +kernel
theorem dX6_canBe_5 : decode cX6_canBe 5 = .ok (.ishl, 1) := by decide +kernel
theorem dX6_canBe_6 : decode cX6_canBe 6 = .ok (.iconst 1, 1) := by decide +kernel
theorem dX6_canBe_7 : decode cX6_canBe 7 = .ok (.isub, 1) := by decide +kernel
theorem dX6_canBe_8 : decode cX6_canBe 8 = .ok (.iload_n 1, 1) := by decide +kernel
theorem dX6_canBe_9 : decode cX6_canBe 9 = .ok (.iconst (-1), 1) := by decide +kernel
theorem dX6_canBe_10 : decode cX6_canBe 10 = .ok (.ixor, 1) := by decide +kernel
theorem dX6_canBe_11 : decode cX6_canBe 11 = .ok (.iand, 1) := by decide +kernel
theorem dX6_canBe_12 : decode cX6_canBe 12 = .ok (.istore_n 2, 1) := by decide +kernel
theorem dX6_canBe_13 : decode cX6_canBe 13 = .ok (.iconst 0, 1) := by decide +kernel
theorem dX6_canBe_14 : decode cX6_canBe 14 = .ok (.istore_n 3, 1) := by decide +kernel
theorem dX6_canBe_15 : decode cX6_canBe 15 = .ok (.iload_n 3, 1) := by decide +kernel
theorem dX6_canBe_16 : decode cX6_canBe 16 = .ok (.aload_n 0, 1) := by decide +kernel
theorem dX6_canBe_17 : decode cX6_canBe 17 = .ok (.invokevirtual 59, 3) := by decide +kernel
theorem dX6_canBe_20 : decode cX6_canBe 20 = .ok (.if_icmp .ge 24, 3) := by decide +kernel
theorem dX6_canBe_23 : decode cX6_canBe 23 = .ok (.aload_n 0, 1) := by decide +kernel
theorem dX6_canBe_24 : decode cX6_canBe 24 = .ok (.getfield 30, 3) := by decide +kernel
theorem dX6_canBe_27 : decode cX6_canBe 27 = .ok (.iload_n 3, 1) := by decide +kernel
theorem dX6_canBe_28 : decode cX6_canBe 28 = .ok (.aload_n 0, 1) := by decide +kernel
theorem dX6_canBe_29 : decode cX6_canBe 29 = .ok (.getfield 7, 3) := by decide +kernel
theorem dX6_canBe_32 : decode cX6_canBe 32 = .ok (.bipush 11, 2) := by decide +kernel
theorem dX6_canBe_34 : decode cX6_canBe 34 = .ok (.iload_n 3, 1) := by decide +kernel
theorem dX6_canBe_35 : decode cX6_canBe 35 = .ok (.iadd, 1) := by decide +kernel
theorem dX6_canBe_36 : decode cX6_canBe 36 = .ok (.iaload, 1) := by decide +kernel
theorem dX6_canBe_37 : decode cX6_canBe 37 = .ok (.iastore, 1) := by decide +kernel
theorem dX6_canBe_38 : decode cX6_canBe 38 = .ok (.iinc 3 1, 3) := by decide +kernel
theorem dX6_canBe_41 : decode cX6_canBe 41 = .ok (.goto (-26), 3) := by decide +kernel
theorem dX6_canBe_44 : decode cX6_canBe 44 = .ok (.iconst 0, 1) := by decide +kernel
theorem dX6_canBe_45 : decode cX6_canBe 45 = .ok (.istore_n 3, 1) := by decide +kernel
theorem dX6_canBe_46 : decode cX6_canBe 46 = .ok (.iload_n 3, 1) := by decide +kernel
theorem dX6_canBe_47 : decode cX6_canBe 47 = .ok (.aload_n 0, 1) := by decide +kernel
theorem dX6_canBe_48 : decode cX6_canBe 48 = .ok (.invokevirtual 59, 3) := by decide +kernel
theorem dX6_canBe_51 : decode cX6_canBe 51 = .ok (.if_icmp .ge 38, 3) := by decide +kernel
theorem dX6_canBe_54 : decode cX6_canBe 54 = .ok (.iload_n 2, 1) := by decide +kernel
theorem dX6_canBe_55 : decode cX6_canBe 55 = .ok (.iload_n 3, 1) := by decide +kernel
theorem dX6_canBe_56 : decode cX6_canBe 56 = .ok (.ishr, 1) := by decide +kernel
theorem dX6_canBe_57 : decode cX6_canBe 57 = .ok (.iconst 1, 1) := by decide +kernel
theorem dX6_canBe_58 : decode cX6_canBe 58 = .ok (.iand, 1) := by decide +kernel
theorem dX6_canBe_59 : decode cX6_canBe 59 = .ok (.iconst 1, 1) := by decide +kernel
theorem dX6_canBe_60 : decode cX6_canBe 60 = .ok (.if_icmp .ne 23, 3) := by decide +kernel
theorem dX6_canBe_63 : decode cX6_canBe 63 = .ok (.aload_n 0, 1) := by decide +kernel
theorem dX6_canBe_64 : decode cX6_canBe 64 = .ok (.iload_n 3, 1) := by decide +kernel
theorem dX6_canBe_65 : decode cX6_canBe 65 = .ok (.iload_n 2, 1) := by decide +kernel
theorem dX6_canBe_66 : decode cX6_canBe 66 = .ok (.invokevirtual 159, 3) := by decide +kernel
theorem dX6_canBe_69 : decode cX6_canBe 69 = .ok (.aload_n 0, 1) := by decide +kernel
theorem dX6_canBe_70 : decode cX6_canBe 70 = .ok (.getfield 30, 3) := by decide +kernel
theorem dX6_canBe_73 : decode cX6_canBe 73 = .ok (.iload_n 3, 1) := by decide +kernel
theorem dX6_canBe_74 : decode cX6_canBe 74 = .ok (.iaload, 1) := by decide +kernel
theorem dX6_canBe_75 : decode cX6_canBe 75 = .ok (.ishr, 1) := by decide +kernel
theorem dX6_canBe_76 : decode cX6_canBe 76 = .ok (.iconst 1, 1) := by decide +kernel
theorem dX6_canBe_77 : decode cX6_canBe 77 = .ok (.iand, 1) := by decide +kernel
theorem dX6_canBe_78 : decode cX6_canBe 78 = .ok (.ifCond .ne 5, 3) := by decide +kernel
theorem dX6_canBe_81 : decode cX6_canBe 81 = .ok (.iconst 0, 1) := by decide +kernel
theorem dX6_canBe_82 : decode cX6_canBe 82 = .ok (.ireturn, 1) := by decide +kernel
theorem dX6_canBe_83 : decode cX6_canBe 83 = .ok (.iinc 3 1, 3) := by decide +kernel
theorem dX6_canBe_86 : decode cX6_canBe 86 = .ok (.goto (-40), 3) := by decide +kernel
theorem dX6_canBe_89 : decode cX6_canBe 89 = .ok (.aload_n 0, 1) := by decide +kernel
theorem dX6_canBe_90 : decode cX6_canBe 90 = .ok (.iload_n 1, 1) := by decide +kernel
theorem dX6_canBe_91 : decode cX6_canBe 91 = .ok (.invokevirtual 162, 3) := by decide +kernel
theorem dX6_canBe_94 : decode cX6_canBe 94 = .ok (.istore_n 3, 1) := by decide +kernel
theorem dX6_canBe_95 : decode cX6_canBe 95 = .ok (.iconst 0, 1) := by decide +kernel
theorem dX6_canBe_96 : decode cX6_canBe 96 = .ok (.istore 4, 2) := by decide +kernel
theorem dX6_canBe_98 : decode cX6_canBe 98 = .ok (.aload_n 0, 1) := by decide +kernel
theorem dX6_canBe_99 : decode cX6_canBe 99 = .ok (.getfield 39, 3) := by decide +kernel
theorem dX6_canBe_102 : decode cX6_canBe 102 = .ok (.iconst 0, 1) := by decide +kernel
theorem dX6_canBe_103 : decode cX6_canBe 103 = .ok (.iload_n 3, 1) := by decide +kernel
theorem dX6_canBe_104 : decode cX6_canBe 104 = .ok (.ifCond .ne 7, 3) := by decide +kernel
theorem dX6_canBe_107 : decode cX6_canBe 107 = .ok (.iconst 0, 1) := by decide +kernel
theorem dX6_canBe_108 : decode cX6_canBe 108 = .ok (.goto 14, 3) := by decide +kernel
theorem dX6_canBe_111 : decode cX6_canBe 111 = .ok (.aload_n 0, 1) := by decide +kernel
theorem dX6_canBe_112 : decode cX6_canBe 112 = .ok (.aload_n 0, 1) := by decide +kernel
theorem dX6_canBe_113 : decode cX6_canBe 113 = .ok (.getfield 36, 3) := by decide +kernel
theorem dX6_canBe_116 : decode cX6_canBe 116 = .ok (.iconst 0, 1) := by decide +kernel
theorem dX6_canBe_117 : decode cX6_canBe 117 = .ok (.iaload, 1) := by decide +kernel
theorem dX6_canBe_118 : decode cX6_canBe 118 = .ok (.iload_n 2, 1) := by decide +kernel
theorem dX6_canBe_119 : decode cX6_canBe 119 = .ok (.invokevirtual 159, 3) := by decide +kernel
theorem dX6_canBe_122 : decode cX6_canBe 122 = .ok (.iastore, 1) := by decide +kernel
theorem dX6_canBe_123 : decode cX6_canBe 123 = .ok (.iload 4, 2) := by decide +kernel
theorem dX6_canBe_125 : decode cX6_canBe 125 = .ok (.iload_n 3, 1) := by decide +kernel
theorem dX6_canBe_126 : decode cX6_canBe 126 = .ok (.if_icmp .ge 123, 3) := by decide +kernel
theorem dX6_canBe_129 : decode cX6_canBe 129 = .ok (.aload_n 0, 1) := by decide +kernel
theorem dX6_canBe_130 : decode cX6_canBe 130 = .ok (.getfield 39, 3) := by decide +kernel
theorem dX6_canBe_133 : decode cX6_canBe 133 = .ok (.iload 4, 2) := by decide +kernel
theorem dX6_canBe_135 : decode cX6_canBe 135 = .ok (.iaload, 1) := by decide +kernel
theorem dX6_canBe_136 : decode cX6_canBe 136 = .ok (.ifCond .ne 30, 3) := by decide +kernel
theorem dX6_canBe_139 : decode cX6_canBe 139 = .ok (.iinc 4 (-1), 3) := by decide +kernel
theorem dX6_canBe_142 : decode cX6_canBe 142 = .ok (.iload 4, 2) := by decide +kernel
theorem dX6_canBe_144 : decode cX6_canBe 144 = .ok (.ifCond .ge 5, 3) := by decide +kernel
theorem dX6_canBe_147 : decode cX6_canBe 147 = .ok (.iconst 0, 1) := by decide +kernel
theorem dX6_canBe_148 : decode cX6_canBe 148 = .ok (.ireturn, 1) := by decide +kernel
theorem dX6_canBe_149 : decode cX6_canBe 149 = .ok (.iload_n 2, 1) := by decide +kernel
theorem dX6_canBe_150 : decode cX6_canBe 150 = .ok (.iconst 1, 1) := by decide +kernel
theorem dX6_canBe_151 : decode cX6_canBe 151 = .ok (.aload_n 0, 1) := by decide +kernel
theorem dX6_canBe_152 : decode cX6_canBe 152 = .ok (.getfield 36, 3) := by decide +kernel
theorem dX6_canBe_155 : decode cX6_canBe 155 = .ok (.iload 4, 2) := by decide +kernel
theorem dX6_canBe_157 : decode cX6_canBe 157 = .ok (.iaload, 1) := by decide +kernel
theorem dX6_canBe_158 : decode cX6_canBe 158 = .ok (.ishl, 1) := by decide +kernel
theorem dX6_canBe_159 : decode cX6_canBe 159 = .ok (.iconst (-1), 1) := by decide +kernel
theorem dX6_canBe_160 : decode cX6_canBe 160 = .ok (.ixor, 1) := by decide +kernel
theorem dX6_canBe_161 : decode cX6_canBe 161 = .ok (.iand, 1) := by decide +kernel
theorem dX6_canBe_162 : decode cX6_canBe 162 = .ok (.istore_n 2, 1) := by decide +kernel
theorem dX6_canBe_163 : decode cX6_canBe 163 = .ok (.goto (-40), 3) := by decide +kernel
theorem dX6_canBe_166 : decode cX6_canBe 166 = .ok (.aload_n 0, 1) := by decide +kernel
theorem dX6_canBe_167 : decode cX6_canBe 167 = .ok (.getfield 36, 3) := by decide +kernel
theorem dX6_canBe_170 : decode cX6_canBe 170 = .ok (.iload 4, 2) := by decide +kernel
theorem dX6_canBe_172 : decode cX6_canBe 172 = .ok (.iaload, 1) := by decide +kernel
theorem dX6_canBe_173 : decode cX6_canBe 173 = .ok (.istore 5, 2) := by decide +kernel
theorem dX6_canBe_175 : decode cX6_canBe 175 = .ok (.aload_n 0, 1) := by decide +kernel
theorem dX6_canBe_176 : decode cX6_canBe 176 = .ok (.getfield 30, 3) := by decide +kernel
theorem dX6_canBe_179 : decode cX6_canBe 179 = .ok (.iload 5, 2) := by decide +kernel
theorem dX6_canBe_181 : decode cX6_canBe 181 = .ok (.aload_n 0, 1) := by decide +kernel
theorem dX6_canBe_182 : decode cX6_canBe 182 = .ok (.getfield 39, 3) := by decide +kernel
theorem dX6_canBe_185 : decode cX6_canBe 185 = .ok (.iload 4, 2) := by decide +kernel
theorem dX6_canBe_187 : decode cX6_canBe 187 = .ok (.iaload, 1) := by decide +kernel
theorem dX6_canBe_188 : decode cX6_canBe 188 = .ok (.invokestatic 165, 3) := by decide +kernel
theorem dX6_canBe_191 : decode cX6_canBe 191 = .ok (.iastore, 1) := by decide +kernel
theorem dX6_canBe_192 : decode cX6_canBe 192 = .ok (.aload_n 0, 1) := by decide +kernel
theorem dX6_canBe_193 : decode cX6_canBe 193 = .ok (.getfield 39, 3) := by decide +kernel
theorem dX6_canBe_196 : decode cX6_canBe 196 = .ok (.iload 4, 2) := by decide +kernel
theorem dX6_canBe_198 : decode cX6_canBe 198 = .ok (.dup2, 1) := by decide +kernel
theorem dX6_canBe_199 : decode cX6_canBe 199 = .ok (.iaload, 1) := by decide +kernel
theorem dX6_canBe_200 : decode cX6_canBe 200 = .ok (.aload_n 0, 1) := by decide +kernel
theorem dX6_canBe_201 : decode cX6_canBe 201 = .ok (.getfield 39, 3) := by decide +kernel
theorem dX6_canBe_204 : decode cX6_canBe 204 = .ok (.iload 4, 2) := by decide +kernel
theorem dX6_canBe_206 : decode cX6_canBe 206 = .ok (.iaload, 1) := by decide +kernel
theorem dX6_canBe_207 : decode cX6_canBe 207 = .ok (.iconst 1, 1) := by decide +kernel
theorem dX6_canBe_208 : decode cX6_canBe 208 = .ok (.isub, 1) := by decide +kernel
theorem dX6_canBe_209 : decode cX6_canBe 209 = .ok (.iand, 1) := by decide +kernel
theorem dX6_canBe_210 : decode cX6_canBe 210 = .ok (.iastore, 1) := by decide +kernel
theorem dX6_canBe_211 : decode cX6_canBe 211 = .ok (.iload_n 2, 1) := by decide +kernel
theorem dX6_canBe_212 : decode cX6_canBe 212 = .ok (.iconst 1, 1) := by decide +kernel
theorem dX6_canBe_213 : decode cX6_canBe 213 = .ok (.iload 5, 2) := by decide +kernel
theorem dX6_canBe_215 : decode cX6_canBe 215 = .ok (.ishl, 1) := by decide +kernel
theorem dX6_canBe_216 : decode cX6_canBe 216 = .ok (.ior, 1) := by decide +kernel
theorem dX6_canBe_217 : decode cX6_canBe 217 = .ok (.istore_n 2, 1) := by decide +kernel
theorem dX6_canBe_218 : decode cX6_canBe 218 = .ok (.iinc 4 1, 3) := by decide +kernel
theorem dX6_canBe_221 : decode cX6_canBe 221 = .ok (.iload 4, 2) := by decide +kernel
theorem dX6_canBe_223 : decode cX6_canBe 223 = .ok (.iload_n 3, 1) := by decide +kernel
theorem dX6_canBe_224 : decode cX6_canBe 224 = .ok (.if_icmp .ge 22, 3) := by decide +kernel
theorem dX6_canBe_227 : decode cX6_canBe 227 = .ok (.aload_n 0, 1) := by decide +kernel
theorem dX6_canBe_228 : decode cX6_canBe 228 = .ok (.getfield 39, 3) := by decide +kernel
theorem dX6_canBe_231 : decode cX6_canBe 231 = .ok (.iload 4, 2) := by decide +kernel
theorem dX6_canBe_233 : decode cX6_canBe 233 = .ok (.aload_n 0, 1) := by decide +kernel
theorem dX6_canBe_234 : decode cX6_canBe 234 = .ok (.aload_n 0, 1) := by decide +kernel
theorem dX6_canBe_235 : decode cX6_canBe 235 = .ok (.getfield 36, 3) := by decide +kernel
theorem dX6_canBe_238 : decode cX6_canBe 238 = .ok (.iload 4, 2) := by decide +kernel
theorem dX6_canBe_240 : decode cX6_canBe 240 = .ok (.iaload, 1) := by decide +kernel
theorem dX6_canBe_241 : decode cX6_canBe 241 = .ok (.iload_n 2, 1) := by decide +kernel
theorem dX6_canBe_242 : decode cX6_canBe 242 = .ok (.invokevirtual 159, 3) := by decide +kernel
theorem dX6_canBe_245 : decode cX6_canBe 245 = .ok (.iastore, 1) := by decide +kernel
theorem dX6_canBe_246 : decode cX6_canBe 246 = .ok (.goto (-123), 3) := by decide +kernel
theorem dX6_canBe_249 : decode cX6_canBe 249 = .ok (.iconst 1, 1) := by decide +kernel
theorem dX6_canBe_250 : decode cX6_canBe 250 = .ok (.ireturn, 1) := by decide +kernel
set_option maxRecDepth 20000 in
theorem ggX6_retune_X6_wires : GoodIn wsX6_retune wsX6_wires := goodIn_r _ [6, 7, 60, 61, 62, 63, 64, 65, 66, 67, 68, 69, 70, 71, 72, 73, 74, 75, 76, 77, 78] (by decide +kernel) (by decide +kernel)
set_option maxRecDepth 20000 in
theorem gX6_retune_X6_wires : GoodIn wsX6_retune (wsV RX6 59 RX6 yX6_wires wsX6_wires) := goodIn_app (goodIn_of _ (by decide +kernel)) ggX6_retune_X6_wires
set_option maxRecDepth 20000 in
theorem ggX6_retune_X6_together : GoodIn wsX6_retune wsX6_together := goodIn_r _ [11, 12, 13, 14, 5, 15, 7, 16, 17, 18, 19, 20, 21, 22, 23, 24, 25, 26, 27, 28, 29, 30, 60, 61, 62, 63, 64, 65, 66, 67, 68, 69, 70, 71, 72, 73, 74, 75, 76, 77, 78] (by decide +kernel) (by decide +kernel)
set_option maxRecDepth 20000 in
theorem gX6_retune_X6_together : GoodIn wsX6_retune (wsV RX6 156 RX6 yX6_together wsX6_together) := goodIn_app (goodIn_of _ (by decide +kernel)) ggX6_retune_X6_together
set_option maxRecDepth 20000 in
theorem ggX6_retune_X6_layAlike : GoodIn wsX6_retune wsX6_layAlike := goodIn_r _ [34, 7, 35, 1, 36, 37, 5, 38, 60, 61, 62, 63, 64, 65, 66, 67, 68, 69, 70, 71, 72, 73, 74, 75, 76, 77, 78] (by decide +kernel) (by decide +kernel)
set_option maxRecDepth 20000 in
theorem gX6_retune_X6_layAlike : GoodIn wsX6_retune (wsV RX6 168 RX6 yX6_layAlike wsX6_layAlike) := goodIn_app (goodIn_of _ (by decide +kernel)) ggX6_retune_X6_layAlike
set_option maxRecDepth 20000 in
theorem ggX6_retune_X6_canBe : GoodIn wsX6_retune wsX6_canBe := goodIn_r _ [42, 43, 7, 44, 45, 2, 3, 4, 5, 6, 46, 47, 48, 49, 35, 50, 51, 52, 53, 54, 55, 56, 60, 61, 62, 63, 64, 65, 66, 67, 68, 69, 70, 71, 72, 73, 74, 75, 76, 77, 78] (by decide +kernel) (by decide +kernel)
set_option maxRecDepth 20000 in
theorem gX6_retune_X6_canBe : GoodIn wsX6_retune (wsV RX6 172 RX6 yX6_canBe wsX6_canBe) := goodIn_app (goodIn_of _ (by decide +kernel)) ggX6_retune_X6_canBe
set_option maxRecDepth 20000 in
theorem ggX6_retune_X6_bits : GoodIn wsX6_retune wsX6_bits := goodIn_r _ [59] (by decide +kernel) (by decide +kernel)
set_option maxRecDepth 20000 in
theorem gX6_retune_X6_bits : GoodIn wsX6_retune (va_wsS RX6 149 yX6_bits wsX6_bits) := goodIn_app (goodIn_of _ (by decide +kernel)) ggX6_retune_X6_bits
theorem dX6_retune_0 : decode cX6_retune 0 = .ok (.iconst 0, 1) := by decide +kernel
theorem dX6_retune_1 : decode cX6_retune 1 = .ok (.istore_n 1, 1) := by decide +kernel
theorem dX6_retune_2 : decode cX6_retune 2 = .ok (.iload_n 1, 1) := by decide +kernel
theorem dX6_retune_3 : decode cX6_retune 3 = .ok (.aload_n 0, 1) := by decide +kernel
theorem dX6_retune_4 : decode cX6_retune 4 = .ok (.invokevirtual 59, 3) := by decide +kernel
theorem dX6_retune_7 : decode cX6_retune 7 = .ok (.if_icmp .ge 62, 3) := by decide +kernel
theorem dX6_retune_10 : decode cX6_retune 10 = .ok (.aload_n 0, 1) := by decide +kernel
theorem dX6_retune_11 : decode cX6_retune 11 = .ok (.getfield 27, 3) := by decide +kernel
theorem dX6_retune_14 : decode cX6_retune 14 = .ok (.iload_n 1, 1) := by decide +kernel
theorem dX6_retune_15 : decode cX6_retune 15 = .ok (.iconst 0, 1) := by decide +kernel
theorem dX6_retune_16 : decode cX6_retune 16 = .ok (.iastore, 1) := by decide +kernel
theorem dX6_retune_17 : decode cX6_retune 17 = .ok (.iconst 0, 1) := by decide +kernel
theorem dX6_retune_18 : decode cX6_retune 18 = .ok (.istore_n 2, 1) := by decide +kernel
theorem dX6_retune_19 : decode cX6_retune 19 = .ok (.iload_n 2, 1) := by decide +kernel
theorem dX6_retune_20 : decode cX6_retune 20 = .ok (.aload_n 0, 1) := by decide +kernel
theorem dX6_retune_21 : decode cX6_retune 21 = .ok (.invokevirtual 59, 3) := by decide +kernel
theorem dX6_retune_24 : decode cX6_retune 24 = .ok (.if_icmp .ge 39, 3) := by decide +kernel
theorem dX6_retune_27 : decode cX6_retune 27 = .ok (.aload_n 0, 1) := by decide +kernel
theorem dX6_retune_28 : decode cX6_retune 28 = .ok (.getfield 27, 3) := by decide +kernel
theorem dX6_retune_31 : decode cX6_retune 31 = .ok (.iload_n 1, 1) := by decide +kernel
theorem dX6_retune_32 : decode cX6_retune 32 = .ok (.dup2, 1) := by decide +kernel
theorem dX6_retune_33 : decode cX6_retune 33 = .ok (.iaload, 1) := by decide +kernel
theorem dX6_retune_34 : decode cX6_retune 34 = .ok (.iload_n 2, 1) := by decide +kernel
theorem dX6_retune_35 : decode cX6_retune 35 = .ok (.iload_n 1, 1) := by decide +kernel
theorem dX6_retune_36 : decode cX6_retune 36 = .ok (.if_icmp .eq 18, 3) := by decide +kernel
theorem dX6_retune_39 : decode cX6_retune 39 = .ok (.aload_n 0, 1) := by decide +kernel
theorem dX6_retune_40 : decode cX6_retune 40 = .ok (.iload_n 1, 1) := by decide +kernel
theorem dX6_retune_41 : decode cX6_retune 41 = .ok (.iload_n 2, 1) := by decide +kernel
theorem dX6_retune_42 : decode cX6_retune 42 = .ok (.invokevirtual 156, 3) := by decide +kernel
theorem dX6_retune_45 : decode cX6_retune 45 = .ok (.ifCond .eq 9, 3) := by decide +kernel
theorem dX6_retune_48 : decode cX6_retune 48 = .ok (.iconst 1, 1) := by decide +kernel
theorem dX6_retune_49 : decode cX6_retune 49 = .ok (.iload_n 2, 1) := by decide +kernel
theorem dX6_retune_50 : decode cX6_retune 50 = .ok (.ishl, 1) := by decide +kernel
theorem dX6_retune_51 : decode cX6_retune 51 = .ok (.goto 4, 3) := by decide +kernel
theorem dX6_retune_54 : decode cX6_retune 54 = .ok (.iconst 0, 1) := by decide +kernel
theorem dX6_retune_55 : decode cX6_retune 55 = .ok (.ior, 1) := by decide +kernel
theorem dX6_retune_56 : decode cX6_retune 56 = .ok (.iastore, 1) := by decide +kernel
theorem dX6_retune_57 : decode cX6_retune 57 = .ok (.iinc 2 1, 3) := by decide +kernel
theorem dX6_retune_60 : decode cX6_retune 60 = .ok (.goto (-41), 3) := by decide +kernel
theorem dX6_retune_63 : decode cX6_retune 63 = .ok (.iinc 1 1, 3) := by decide +kernel
theorem dX6_retune_66 : decode cX6_retune 66 = .ok (.goto (-64), 3) := by decide +kernel
theorem dX6_retune_69 : decode cX6_retune 69 = .ok (.iconst 0, 1) := by decide +kernel
theorem dX6_retune_70 : decode cX6_retune 70 = .ok (.istore_n 1, 1) := by decide +kernel
theorem dX6_retune_71 : decode cX6_retune 71 = .ok (.iload_n 1, 1) := by decide +kernel
theorem dX6_retune_72 : decode cX6_retune 72 = .ok (.aload_n 0, 1) := by decide +kernel
theorem dX6_retune_73 : decode cX6_retune 73 = .ok (.invokevirtual 59, 3) := by decide +kernel
theorem dX6_retune_76 : decode cX6_retune 76 = .ok (.if_icmp .ge 31, 3) := by decide +kernel
theorem dX6_retune_79 : decode cX6_retune 79 = .ok (.iconst 0, 1) := by decide +kernel
theorem dX6_retune_80 : decode cX6_retune 80 = .ok (.istore_n 2, 1) := by decide +kernel
theorem dX6_retune_81 : decode cX6_retune 81 = .ok (.iload_n 2, 1) := by decide +kernel
theorem dX6_retune_82 : decode cX6_retune 82 = .ok (.aload_n 0, 1) := by decide +kernel
theorem dX6_retune_83 : decode cX6_retune 83 = .ok (.invokevirtual 59, 3) := by decide +kernel
theorem dX6_retune_86 : decode cX6_retune 86 = .ok (.if_icmp .ge 15, 3) := by decide +kernel
theorem dX6_retune_89 : decode cX6_retune 89 = .ok (.aload_n 0, 1) := by decide +kernel
theorem dX6_retune_90 : decode cX6_retune 90 = .ok (.iload_n 1, 1) := by decide +kernel
theorem dX6_retune_91 : decode cX6_retune 91 = .ok (.iload_n 2, 1) := by decide +kernel
theorem dX6_retune_92 : decode cX6_retune 92 = .ok (.invokevirtual 168, 3) := by decide +kernel
theorem dX6_retune_95 : decode cX6_retune 95 = .ok (.iinc 2 1, 3) := by decide +kernel
theorem dX6_retune_98 : decode cX6_retune 98 = .ok (.goto (-17), 3) := by decide +kernel
theorem dX6_retune_101 : decode cX6_retune 101 = .ok (.iinc 1 1, 3) := by decide +kernel
theorem dX6_retune_104 : decode cX6_retune 104 = .ok (.goto (-33), 3) := by decide +kernel
theorem dX6_retune_107 : decode cX6_retune 107 = .ok (.iconst 1, 1) := by decide +kernel
theorem dX6_retune_108 : decode cX6_retune 108 = .ok (.aload_n 0, 1) := by decide +kernel
theorem dX6_retune_109 : decode cX6_retune 109 = .ok (.invokevirtual 59, 3) := by decide +kernel
theorem dX6_retune_112 : decode cX6_retune 112 = .ok (.ishl, 1) := by decide +kernel
theorem dX6_retune_113 : decode cX6_retune 113 = .ok (.iconst 1, 1) := by decide +kernel
theorem dX6_retune_114 : decode cX6_retune 114 = .ok (.isub, 1) := by decide +kernel
theorem dX6_retune_115 : decode cX6_retune 115 = .ok (.istore_n 1, 1) := by decide +kernel
theorem dX6_retune_116 : decode cX6_retune 116 = .ok (.aload_n 0, 1) := by decide +kernel
theorem dX6_retune_117 : decode cX6_retune 117 = .ok (.iload_n 1, 1) := by decide +kernel
theorem dX6_retune_118 : decode cX6_retune 118 = .ok (.invokevirtual 172, 3) := by decide +kernel
theorem dX6_retune_121 : decode cX6_retune 121 = .ok (.ifCond .ne 5, 3) := by decide +kernel
theorem dX6_retune_124 : decode cX6_retune 124 = .ok (.iconst (-1), 1) := by decide +kernel
theorem dX6_retune_125 : decode cX6_retune 125 = .ok (.ireturn, 1) := by decide +kernel
theorem dX6_retune_126 : decode cX6_retune 126 = .ok (.iconst 0, 1) := by decide +kernel
theorem dX6_retune_127 : decode cX6_retune 127 = .ok (.istore_n 2, 1) := by decide +kernel
theorem dX6_retune_128 : decode cX6_retune 128 = .ok (.iload_n 2, 1) := by decide +kernel
theorem dX6_retune_129 : decode cX6_retune 129 = .ok (.iconst 1, 1) := by decide +kernel
theorem dX6_retune_130 : decode cX6_retune 130 = .ok (.aload_n 0, 1) := by decide +kernel
theorem dX6_retune_131 : decode cX6_retune 131 = .ok (.invokevirtual 59, 3) := by decide +kernel
theorem dX6_retune_134 : decode cX6_retune 134 = .ok (.ishl, 1) := by decide +kernel
theorem dX6_retune_135 : decode cX6_retune 135 = .ok (.if_icmp .ge 42, 3) := by decide +kernel
theorem dX6_retune_138 : decode cX6_retune 138 = .ok (.iload_n 1, 1) := by decide +kernel
theorem dX6_retune_139 : decode cX6_retune 139 = .ok (.invokestatic 149, 3) := by decide +kernel
theorem dX6_retune_142 : decode cX6_retune 142 = .ok (.iload_n 2, 1) := by decide +kernel
theorem dX6_retune_143 : decode cX6_retune 143 = .ok (.invokestatic 149, 3) := by decide +kernel
theorem dX6_retune_146 : decode cX6_retune 146 = .ok (.isub, 1) := by decide +kernel
theorem dX6_retune_147 : decode cX6_retune 147 = .ok (.istore_n 3, 1) := by decide +kernel
theorem dX6_retune_148 : decode cX6_retune 148 = .ok (.iload_n 3, 1) := by decide +kernel
theorem dX6_retune_149 : decode cX6_retune 149 = .ok (.ifCond .gt 12, 3) := by decide +kernel
theorem dX6_retune_152 : decode cX6_retune 152 = .ok (.iload_n 3, 1) := by decide +kernel
theorem dX6_retune_153 : decode cX6_retune 153 = .ok (.ifCond .ne 18, 3) := by decide +kernel
theorem dX6_retune_156 : decode cX6_retune 156 = .ok (.iload_n 2, 1) := by decide +kernel
theorem dX6_retune_157 : decode cX6_retune 157 = .ok (.iload_n 1, 1) := by decide +kernel
theorem dX6_retune_158 : decode cX6_retune 158 = .ok (.if_icmp .ge 13, 3) := by decide +kernel
theorem dX6_retune_161 : decode cX6_retune 161 = .ok (.aload_n 0, 1) := by decide +kernel
theorem dX6_retune_162 : decode cX6_retune 162 = .ok (.iload_n 2, 1) := by decide +kernel
theorem dX6_retune_163 : decode cX6_retune 163 = .ok (.invokevirtual 172, 3) := by decide +kernel
theorem dX6_retune_166 : decode cX6_retune 166 = .ok (.ifCond .eq 5, 3) := by decide +kernel
theorem dX6_retune_169 : decode cX6_retune 169 = .ok (.iload_n 2, 1) := by decide +kernel
theorem dX6_retune_170 : decode cX6_retune 170 = .ok (.istore_n 1, 1) := by decide +kernel
theorem dX6_retune_171 : decode cX6_retune 171 = .ok (.iinc 2 1, 3) := by decide +kernel
theorem dX6_retune_174 : decode cX6_retune 174 = .ok (.goto (-46), 3) := by decide +kernel
theorem dX6_retune_177 : decode cX6_retune 177 = .ok (.iload_n 1, 1) := by decide +kernel
theorem dX6_retune_178 : decode cX6_retune 178 = .ok (.ireturn, 1) := by decide +kernel
theorem dX6_isWindy_0 : decode cX6_isWindy 0 = .ok (.iconst 0, 1) := by decide +kernel
theorem dX6_isWindy_1 : decode cX6_isWindy 1 = .ok (.istore_n 3, 1) := by decide +kernel
theorem dX6_isWindy_2 : decode cX6_isWindy 2 = .ok (.iconst 0, 1) := by decide +kernel
theorem dX6_isWindy_3 : decode cX6_isWindy 3 = .ok (.istore 4, 2) := by decide +kernel
theorem dX6_isWindy_5 : decode cX6_isWindy 5 = .ok (.iload 4, 2) := by decide +kernel
theorem dX6_isWindy_7 : decode cX6_isWindy 7 = .ok (.aload_n 0, 1) := by decide +kernel
theorem dX6_isWindy_8 : decode cX6_isWindy 8 = .ok (.getfield 7, 3) := by decide +kernel
theorem dX6_isWindy_11 : decode cX6_isWindy 11 = .ok (.bipush 19, 2) := by decide +kernel
theorem dX6_isWindy_13 : decode cX6_isWindy 13 = .ok (.iaload, 1) := by decide +kernel
theorem dX6_isWindy_14 : decode cX6_isWindy 14 = .ok (.if_icmp .ge 53, 3) := by decide +kernel
theorem dX6_isWindy_17 : decode cX6_isWindy 17 = .ok (.iload_n 3, 1) := by decide +kernel
theorem dX6_isWindy_18 : decode cX6_isWindy 18 = .ok (.ifCond .ne 37, 3) := by decide +kernel
theorem dX6_isWindy_21 : decode cX6_isWindy 21 = .ok (.aload_n 0, 1) := by decide +kernel
theorem dX6_isWindy_22 : decode cX6_isWindy 22 = .ok (.getfield 7, 3) := by decide +kernel
theorem dX6_isWindy_25 : decode cX6_isWindy 25 = .ok (.bipush 20, 2) := by decide +kernel
theorem dX6_isWindy_27 : decode cX6_isWindy 27 = .ok (.iconst 2, 1) := by decide +kernel
theorem dX6_isWindy_28 : decode cX6_isWindy 28 = .ok (.iload 4, 2) := by decide +kernel
theorem dX6_isWindy_30 : decode cX6_isWindy 30 = .ok (.imul, 1) := by decide +kernel
theorem dX6_isWindy_31 : decode cX6_isWindy 31 = .ok (.iadd, 1) := by decide +kernel
theorem dX6_isWindy_32 : decode cX6_isWindy 32 = .ok (.iaload, 1) := by decide +kernel
theorem dX6_isWindy_33 : decode cX6_isWindy 33 = .ok (.iload_n 1, 1) := by decide +kernel
theorem dX6_isWindy_34 : decode cX6_isWindy 34 = .ok (.if_icmp .ne 25, 3) := by decide +kernel
theorem dX6_isWindy_37 : decode cX6_isWindy 37 = .ok (.aload_n 0, 1) := by decide +kernel
theorem dX6_isWindy_38 : decode cX6_isWindy 38 = .ok (.getfield 7, 3) := by decide +kernel
theorem dX6_isWindy_41 : decode cX6_isWindy 41 = .ok (.bipush 20, 2) := by decide +kernel
theorem dX6_isWindy_43 : decode cX6_isWindy 43 = .ok (.iconst 2, 1) := by decide +kernel
theorem dX6_isWindy_44 : decode cX6_isWindy 44 = .ok (.iload 4, 2) := by decide +kernel
theorem dX6_isWindy_46 : decode cX6_isWindy 46 = .ok (.imul, 1) := by decide +kernel
theorem dX6_isWindy_47 : decode cX6_isWindy 47 = .ok (.iadd, 1) := by decide +kernel
theorem dX6_isWindy_48 : decode cX6_isWindy 48 = .ok (.iconst 1, 1) := by decide +kernel
theorem dX6_isWindy_49 : decode cX6_isWindy 49 = .ok (.iadd, 1) := by decide +kernel
theorem dX6_isWindy_50 : decode cX6_isWindy 50 = .ok (.iaload, 1) := by decide +kernel
theorem dX6_isWindy_51 : decode cX6_isWindy 51 = .ok (.iload_n 2, 1) := by decide +kernel
theorem dX6_isWindy_52 : decode cX6_isWindy 52 = .ok (.if_icmp .ne 7, 3) := by decide +kernel
theorem dX6_isWindy_55 : decode cX6_isWindy 55 = .ok (.iconst 1, 1) := by decide +kernel
theorem dX6_isWindy_56 : decode cX6_isWindy 56 = .ok (.goto 4, 3) := by decide +kernel
theorem dX6_isWindy_59 : decode cX6_isWindy 59 = .ok (.iconst 0, 1) := by decide +kernel
theorem dX6_isWindy_60 : decode cX6_isWindy 60 = .ok (.istore_n 3, 1) := by decide +kernel
theorem dX6_isWindy_61 : decode cX6_isWindy 61 = .ok (.iinc 4 1, 3) := by decide +kernel
theorem dX6_isWindy_64 : decode cX6_isWindy 64 = .ok (.goto (-59), 3) := by decide +kernel
theorem dX6_isWindy_67 : decode cX6_isWindy 67 = .ok (.iload_n 3, 1) := by decide +kernel
theorem dX6_isWindy_68 : decode cX6_isWindy 68 = .ok (.ireturn, 1) := by decide +kernel
set_option maxRecDepth 20000 in
theorem ggX6_noticed_X6_isWindy : GoodIn wsX6_noticed wsX6_isWindy := goodIn_r _ [5, 6, 26, 27, 28, 29, 30, 31, 32, 33, 34, 35, 36, 37, 38, 39, 40, 41, 42, 43, 44] (by decide +kernel) (by decide +kernel)
set_option maxRecDepth 20000 in
theorem gX6_noticed_X6_isWindy : GoodIn wsX6_noticed (wsV RX6 175 RX6 yX6_isWindy wsX6_isWindy) := goodIn_app (goodIn_of _ (by decide +kernel)) ggX6_noticed_X6_isWindy
set_option maxRecDepth 20000 in
theorem ggX6_noticed_X6_line : GoodIn wsX6_noticed wsX6_line := goodIn_r _ [10, 6, 26, 27, 28, 29, 30, 31, 32, 33, 34, 35, 36, 37, 38, 39, 40, 41, 42, 43, 44] (by decide +kernel) (by decide +kernel)
set_option maxRecDepth 20000 in
theorem gX6_noticed_X6_line : GoodIn wsX6_noticed (wsV RX6 51 RX6 yX6_line wsX6_line) := goodIn_app (goodIn_of _ (by decide +kernel)) ggX6_noticed_X6_line
set_option maxRecDepth 20000 in
theorem ggX6_noticed_X6_isGuarded : GoodIn wsX6_noticed wsX6_isGuarded := goodIn_r _ [14, 6, 26, 27, 28, 29, 30, 31, 32, 33, 34, 35, 36, 37, 38, 39, 40, 41, 42, 43, 44] (by decide +kernel) (by decide +kernel)
set_option maxRecDepth 20000 in
theorem gX6_noticed_X6_isGuarded : GoodIn wsX6_noticed (wsV RX6 141 RX6 yX6_isGuarded wsX6_isGuarded) := goodIn_app (goodIn_of _ (by decide +kernel)) ggX6_noticed_X6_isGuarded
set_option maxRecDepth 20000 in
theorem ggX6_noticed_X6_hears : GoodIn wsX6_noticed wsX6_hears := goodIn_r _ [18, 19, 20, 21, 4, 22, 6, 23, 24, 25, 26, 27, 28, 29, 30, 31, 32, 33, 34, 35, 36, 37, 38, 39, 40, 41, 42, 43, 44] (by decide +kernel) (by decide +kernel)
set_option maxRecDepth 20000 in
theorem gX6_noticed_X6_hears : GoodIn wsX6_noticed (wsV RX6 125 RX6 yX6_hears wsX6_hears) := goodIn_app (goodIn_of _ (by decide +kernel)) ggX6_noticed_X6_hears
theorem dX6_noticed_0 : decode cX6_noticed 0 = .ok (.aload_n 0, 1) := by decide +kernel
theorem dX6_noticed_1 : decode cX6_noticed 1 = .ok (.iload_n 1, 1) := by decide +kernel
theorem dX6_noticed_2 : decode cX6_noticed 2 = .ok (.iload_n 2, 1) := by decide +kernel
theorem dX6_noticed_3 : decode cX6_noticed 3 = .ok (.invokevirtual 175, 3) := by decide +kernel
theorem dX6_noticed_6 : decode cX6_noticed 6 = .ok (.istore_n 3, 1) := by decide +kernel
theorem dX6_noticed_7 : decode cX6_noticed 7 = .ok (.iconst 0, 1) := by decide +kernel
theorem dX6_noticed_8 : decode cX6_noticed 8 = .ok (.istore 4, 2) := by decide +kernel
theorem dX6_noticed_10 : decode cX6_noticed 10 = .ok (.iconst 0, 1) := by decide +kernel
theorem dX6_noticed_11 : decode cX6_noticed 11 = .ok (.istore 5, 2) := by decide +kernel
theorem dX6_noticed_13 : decode cX6_noticed 13 = .ok (.iload 5, 2) := by decide +kernel
theorem dX6_noticed_15 : decode cX6_noticed 15 = .ok (.aload_n 0, 1) := by decide +kernel
theorem dX6_noticed_16 : decode cX6_noticed 16 = .ok (.invokevirtual 51, 3) := by decide +kernel
theorem dX6_noticed_19 : decode cX6_noticed 19 = .ok (.if_icmp .ge 54, 3) := by decide +kernel
theorem dX6_noticed_22 : decode cX6_noticed 22 = .ok (.iload 4, 2) := by decide +kernel
theorem dX6_noticed_24 : decode cX6_noticed 24 = .ok (.aload_n 0, 1) := by decide +kernel
theorem dX6_noticed_25 : decode cX6_noticed 25 = .ok (.iload 5, 2) := by decide +kernel
theorem dX6_noticed_27 : decode cX6_noticed 27 = .ok (.invokevirtual 141, 3) := by decide +kernel
theorem dX6_noticed_30 : decode cX6_noticed 30 = .ok (.ifCond .eq 33, 3) := by decide +kernel
theorem dX6_noticed_33 : decode cX6_noticed 33 = .ok (.aload_n 0, 1) := by decide +kernel
theorem dX6_noticed_34 : decode cX6_noticed 34 = .ok (.iload 5, 2) := by decide +kernel
theorem dX6_noticed_36 : decode cX6_noticed 36 = .ok (.iload_n 2, 1) := by decide +kernel
theorem dX6_noticed_37 : decode cX6_noticed 37 = .ok (.iconst 2, 1) := by decide +kernel
theorem dX6_noticed_38 : decode cX6_noticed 38 = .ok (.invokevirtual 125, 3) := by decide +kernel
theorem dX6_noticed_41 : decode cX6_noticed 41 = .ok (.ifCond .eq 22, 3) := by decide +kernel
theorem dX6_noticed_44 : decode cX6_noticed 44 = .ok (.iload_n 3, 1) := by decide +kernel
theorem dX6_noticed_45 : decode cX6_noticed 45 = .ok (.ifCond .eq 14, 3) := by decide +kernel
theorem dX6_noticed_48 : decode cX6_noticed 48 = .ok (.aload_n 0, 1) := by decide +kernel
theorem dX6_noticed_49 : decode cX6_noticed 49 = .ok (.iload 5, 2) := by decide +kernel
theorem dX6_noticed_51 : decode cX6_noticed 51 = .ok (.iload_n 2, 1) := by decide +kernel
theorem dX6_noticed_52 : decode cX6_noticed 52 = .ok (.iconst 1, 1) := by decide +kernel
theorem dX6_noticed_53 : decode cX6_noticed 53 = .ok (.invokevirtual 125, 3) := by decide +kernel
theorem dX6_noticed_56 : decode cX6_noticed 56 = .ok (.ifCond .ne 7, 3) := by decide +kernel
theorem dX6_noticed_59 : decode cX6_noticed 59 = .ok (.iconst 1, 1) := by decide +kernel
theorem dX6_noticed_60 : decode cX6_noticed 60 = .ok (.goto 4, 3) := by decide +kernel
theorem dX6_noticed_63 : decode cX6_noticed 63 = .ok (.iconst 0, 1) := by decide +kernel
theorem dX6_noticed_64 : decode cX6_noticed 64 = .ok (.iadd, 1) := by decide +kernel
theorem dX6_noticed_65 : decode cX6_noticed 65 = .ok (.istore 4, 2) := by decide +kernel
theorem dX6_noticed_67 : decode cX6_noticed 67 = .ok (.iinc 5 1, 3) := by decide +kernel
theorem dX6_noticed_70 : decode cX6_noticed 70 = .ok (.goto (-57), 3) := by decide +kernel
theorem dX6_noticed_73 : decode cX6_noticed 73 = .ok (.iload 4, 2) := by decide +kernel
theorem dX6_noticed_75 : decode cX6_noticed 75 = .ok (.ireturn, 1) := by decide +kernel
set_option maxRecDepth 20000 in
theorem ggX6_slip_X6_in : GoodIn wsX6_slip wsX6_in := goodIn_r _ [4] (by decide +kernel) (by decide +kernel)
set_option maxRecDepth 20000 in
theorem gX6_slip_X6_in : GoodIn wsX6_slip (va_wsS RX6 55 yX6_in wsX6_in) := goodIn_app (goodIn_of _ (by decide +kernel)) ggX6_slip_X6_in
set_option maxRecDepth 20000 in
theorem ggX6_slip_X6_bad : GoodIn wsX6_slip wsX6_bad := goodIn_r _ [8, 9, 46, 47, 48, 49, 50, 51, 52, 53, 54, 55, 56, 57, 58, 59, 60, 61, 62, 63, 64] (by decide +kernel) (by decide +kernel)
set_option maxRecDepth 20000 in
theorem gX6_slip_X6_bad : GoodIn wsX6_slip (wsV RX6 70 RX6 yX6_bad wsX6_bad) := goodIn_app (goodIn_of _ (by decide +kernel)) ggX6_slip_X6_bad
set_option maxRecDepth 20000 in
theorem ggX6_slip_X6_wires : GoodIn wsX6_slip wsX6_wires := goodIn_r _ [13, 14, 46, 47, 48, 49, 50, 51, 52, 53, 54, 55, 56, 57, 58, 59, 60, 61, 62, 63, 64] (by decide +kernel) (by decide +kernel)
set_option maxRecDepth 20000 in
theorem gX6_slip_X6_wires : GoodIn wsX6_slip (wsV RX6 59 RX6 yX6_wires wsX6_wires) := goodIn_app (goodIn_of _ (by decide +kernel)) ggX6_slip_X6_wires
set_option maxRecDepth 20000 in
theorem ggX6_slip_X6_isCut : GoodIn wsX6_slip wsX6_isCut := goodIn_r _ [18, 14, 46, 47, 48, 49, 50, 51, 52, 53, 54, 55, 56, 57, 58, 59, 60, 61, 62, 63, 64] (by decide +kernel) (by decide +kernel)
set_option maxRecDepth 20000 in
theorem gX6_slip_X6_isCut : GoodIn wsX6_slip (wsV RX6 146 RX6 yX6_isCut wsX6_isCut) := goodIn_app (goodIn_of _ (by decide +kernel)) ggX6_slip_X6_isCut
set_option maxRecDepth 20000 in
theorem ggX6_slip_X6_noticed : GoodIn wsX6_slip wsX6_noticed := goodIn_r _ [22, 23, 24, 25, 3, 26, 14, 27, 28, 29, 30, 31, 32, 33, 34, 35, 36, 37, 38, 39, 40, 41, 42, 43, 44, 45, 46, 47, 48, 49, 50, 51, 52, 53, 54, 55, 56, 57, 58, 59, 60, 61, 62, 63, 64] (by decide +kernel) (by decide +kernel)
set_option maxRecDepth 20000 in
theorem gX6_slip_X6_noticed : GoodIn wsX6_slip (wsV RX6 178 RX6 yX6_noticed wsX6_noticed) := goodIn_app (goodIn_of _ (by decide +kernel)) ggX6_slip_X6_noticed
theorem dX6_slip_0 : decode cX6_slip 0 = .ok (.iload_n 1, 1) := by decide +kernel
theorem dX6_slip_1 : decode cX6_slip 1 = .ok (.i2l, 1) := by decide +kernel
theorem dX6_slip_2 : decode cX6_slip 2 = .ok (.lconst 0, 1) := by decide +kernel
theorem dX6_slip_3 : decode cX6_slip 3 = .ok (.lconst 1, 1) := by decide +kernel
theorem dX6_slip_4 : decode cX6_slip 4 = .ok (.invokestatic 55, 3) := by decide +kernel
theorem dX6_slip_7 : decode cX6_slip 7 = .ok (.ifCond .ne 10, 3) := by decide +kernel
theorem dX6_slip_10 : decode cX6_slip 10 = .ok (.aload_n 0, 1) := by decide +kernel
theorem dX6_slip_11 : decode cX6_slip 11 = .ok (.bipush (-10), 2) := by decide +kernel
theorem dX6_slip_13 : decode cX6_slip 13 = .ok (.invokevirtual 70, 3) := by decide +kernel
theorem dX6_slip_16 : decode cX6_slip 16 = .ok (.ireturn, 1) := by decide +kernel
theorem dX6_slip_17 : decode cX6_slip 17 = .ok (.bipush 100, 2) := by decide +kernel
theorem dX6_slip_19 : decode cX6_slip 19 = .ok (.istore_n 2, 1) := by decide +kernel
theorem dX6_slip_20 : decode cX6_slip 20 = .ok (.iconst (-1), 1) := by decide +kernel
theorem dX6_slip_21 : decode cX6_slip 21 = .ok (.istore_n 3, 1) := by decide +kernel
theorem dX6_slip_22 : decode cX6_slip 22 = .ok (.iconst 0, 1) := by decide +kernel
theorem dX6_slip_23 : decode cX6_slip 23 = .ok (.istore 4, 2) := by decide +kernel
theorem dX6_slip_25 : decode cX6_slip 25 = .ok (.iload 4, 2) := by decide +kernel
theorem dX6_slip_27 : decode cX6_slip 27 = .ok (.bipush 60, 2) := by decide +kernel
theorem dX6_slip_29 : decode cX6_slip 29 = .ok (.if_icmp .ge 83, 3) := by decide +kernel
theorem dX6_slip_32 : decode cX6_slip 32 = .ok (.iconst 0, 1) := by decide +kernel
theorem dX6_slip_33 : decode cX6_slip 33 = .ok (.istore 5, 2) := by decide +kernel
theorem dX6_slip_35 : decode cX6_slip 35 = .ok (.iload 5, 2) := by decide +kernel
theorem dX6_slip_37 : decode cX6_slip 37 = .ok (.aload_n 0, 1) := by decide +kernel
theorem dX6_slip_38 : decode cX6_slip 38 = .ok (.invokevirtual 59, 3) := by decide +kernel
theorem dX6_slip_41 : decode cX6_slip 41 = .ok (.if_icmp .ge 65, 3) := by decide +kernel
theorem dX6_slip_44 : decode cX6_slip 44 = .ok (.aload_n 0, 1) := by decide +kernel
theorem dX6_slip_45 : decode cX6_slip 45 = .ok (.iload 5, 2) := by decide +kernel
theorem dX6_slip_47 : decode cX6_slip 47 = .ok (.invokevirtual 146, 3) := by decide +kernel
theorem dX6_slip_50 : decode cX6_slip 50 = .ok (.ifCond .eq 8, 3) := by decide +kernel
theorem dX6_slip_53 : decode cX6_slip 53 = .ok (.bipush 100, 2) := by decide +kernel
theorem dX6_slip_55 : decode cX6_slip 55 = .ok (.goto 11, 3) := by decide +kernel
theorem dX6_slip_58 : decode cX6_slip 58 = .ok (.aload_n 0, 1) := by decide +kernel
theorem dX6_slip_59 : decode cX6_slip 59 = .ok (.iload 4, 2) := by decide +kernel
theorem dX6_slip_61 : decode cX6_slip 61 = .ok (.iload 5, 2) := by decide +kernel
theorem dX6_slip_63 : decode cX6_slip 63 = .ok (.invokevirtual 178, 3) := by decide +kernel
theorem dX6_slip_66 : decode cX6_slip 66 = .ok (.istore 6, 2) := by decide +kernel
theorem dX6_slip_68 : decode cX6_slip 68 = .ok (.iload 6, 2) := by decide +kernel
theorem dX6_slip_70 : decode cX6_slip 70 = .ok (.iload_n 2, 1) := by decide +kernel
theorem dX6_slip_71 : decode cX6_slip 71 = .ok (.if_icmp .ge 14, 3) := by decide +kernel
theorem dX6_slip_74 : decode cX6_slip 74 = .ok (.bipush 100, 2) := by decide +kernel
theorem dX6_slip_76 : decode cX6_slip 76 = .ok (.iload 4, 2) := by decide +kernel
theorem dX6_slip_78 : decode cX6_slip 78 = .ok (.imul, 1) := by decide +kernel
theorem dX6_slip_79 : decode cX6_slip 79 = .ok (.iload 5, 2) := by decide +kernel
theorem dX6_slip_81 : decode cX6_slip 81 = .ok (.iadd, 1) := by decide +kernel
theorem dX6_slip_82 : decode cX6_slip 82 = .ok (.goto 4, 3) := by decide +kernel
theorem dX6_slip_85 : decode cX6_slip 85 = .ok (.iload_n 3, 1) := by decide +kernel
theorem dX6_slip_86 : decode cX6_slip 86 = .ok (.istore_n 3, 1) := by decide +kernel
theorem dX6_slip_87 : decode cX6_slip 87 = .ok (.iload 6, 2) := by decide +kernel
theorem dX6_slip_89 : decode cX6_slip 89 = .ok (.iload_n 2, 1) := by decide +kernel
theorem dX6_slip_90 : decode cX6_slip 90 = .ok (.if_icmp .ge 8, 3) := by decide +kernel
theorem dX6_slip_93 : decode cX6_slip 93 = .ok (.iload 6, 2) := by decide +kernel
theorem dX6_slip_95 : decode cX6_slip 95 = .ok (.goto 4, 3) := by decide +kernel
theorem dX6_slip_98 : decode cX6_slip 98 = .ok (.iload_n 2, 1) := by decide +kernel
theorem dX6_slip_99 : decode cX6_slip 99 = .ok (.istore_n 2, 1) := by decide +kernel
theorem dX6_slip_100 : decode cX6_slip 100 = .ok (.iinc 5 1, 3) := by decide +kernel
theorem dX6_slip_103 : decode cX6_slip 103 = .ok (.goto (-68), 3) := by decide +kernel
theorem dX6_slip_106 : decode cX6_slip 106 = .ok (.iinc 4 1, 3) := by decide +kernel
theorem dX6_slip_109 : decode cX6_slip 109 = .ok (.goto (-84), 3) := by decide +kernel
theorem dX6_slip_112 : decode cX6_slip 112 = .ok (.iload_n 1, 1) := by decide +kernel
theorem dX6_slip_113 : decode cX6_slip 113 = .ok (.iconst 1, 1) := by decide +kernel
theorem dX6_slip_114 : decode cX6_slip 114 = .ok (.if_icmp .eq 8, 3) := by decide +kernel
theorem dX6_slip_117 : decode cX6_slip 117 = .ok (.iload_n 3, 1) := by decide +kernel
theorem dX6_slip_118 : decode cX6_slip 118 = .ok (.iconst (-1), 1) := by decide +kernel
theorem dX6_slip_119 : decode cX6_slip 119 = .ok (.if_icmp .ne 7, 3) := by decide +kernel
theorem dX6_slip_122 : decode cX6_slip 122 = .ok (.iload_n 3, 1) := by decide +kernel
theorem dX6_slip_123 : decode cX6_slip 123 = .ok (.goto 4, 3) := by decide +kernel
theorem dX6_slip_126 : decode cX6_slip 126 = .ok (.iload_n 2, 1) := by decide +kernel
theorem dX6_slip_127 : decode cX6_slip 127 = .ok (.ireturn, 1) := by decide +kernel
theorem dX6_choose_0 : decode cX6_choose 0 = .ok (.iload_n 1, 1) := by decide +kernel
theorem dX6_choose_1 : decode cX6_choose 1 = .ok (.iload_n 0, 1) := by decide +kernel
theorem dX6_choose_2 : decode cX6_choose 2 = .ok (.if_icmp .le 7, 3) := by decide +kernel
theorem dX6_choose_5 : decode cX6_choose 5 = .ok (.lconst 0, 1) := by decide +kernel
theorem dX6_choose_6 : decode cX6_choose 6 = .ok (.goto 4, 3) := by decide +kernel
theorem dX6_choose_9 : decode cX6_choose 9 = .ok (.lconst 1, 1) := by decide +kernel
theorem dX6_choose_10 : decode cX6_choose 10 = .ok (.lstore_n 2, 1) := by decide +kernel
theorem dX6_choose_11 : decode cX6_choose 11 = .ok (.iconst 0, 1) := by decide +kernel
theorem dX6_choose_12 : decode cX6_choose 12 = .ok (.istore 4, 2) := by decide +kernel
theorem dX6_choose_14 : decode cX6_choose 14 = .ok (.iload 4, 2) := by decide +kernel
theorem dX6_choose_16 : decode cX6_choose 16 = .ok (.iload_n 1, 1) := by decide +kernel
theorem dX6_choose_17 : decode cX6_choose 17 = .ok (.if_icmp .ge 29, 3) := by decide +kernel
theorem dX6_choose_20 : decode cX6_choose 20 = .ok (.lload_n 2, 1) := by decide +kernel
theorem dX6_choose_21 : decode cX6_choose 21 = .ok (.lconst 0, 1) := by decide +kernel
theorem dX6_choose_22 : decode cX6_choose 22 = .ok (.lcmp, 1) := by decide +kernel
theorem dX6_choose_23 : decode cX6_choose 23 = .ok (.ifCond .le 23, 3) := by decide +kernel
theorem dX6_choose_26 : decode cX6_choose 26 = .ok (.lload_n 2, 1) := by decide +kernel
theorem dX6_choose_27 : decode cX6_choose 27 = .ok (.iload_n 0, 1) := by decide +kernel
theorem dX6_choose_28 : decode cX6_choose 28 = .ok (.iload 4, 2) := by decide +kernel
theorem dX6_choose_30 : decode cX6_choose 30 = .ok (.isub, 1) := by decide +kernel
theorem dX6_choose_31 : decode cX6_choose 31 = .ok (.i2l, 1) := by decide +kernel
theorem dX6_choose_32 : decode cX6_choose 32 = .ok (.lmul, 1) := by decide +kernel
theorem dX6_choose_33 : decode cX6_choose 33 = .ok (.iload 4, 2) := by decide +kernel
theorem dX6_choose_35 : decode cX6_choose 35 = .ok (.iconst 1, 1) := by decide +kernel
theorem dX6_choose_36 : decode cX6_choose 36 = .ok (.iadd, 1) := by decide +kernel
theorem dX6_choose_37 : decode cX6_choose 37 = .ok (.i2l, 1) := by decide +kernel
theorem dX6_choose_38 : decode cX6_choose 38 = .ok (.ldiv, 1) := by decide +kernel
theorem dX6_choose_39 : decode cX6_choose 39 = .ok (.lstore_n 2, 1) := by decide +kernel
theorem dX6_choose_40 : decode cX6_choose 40 = .ok (.iinc 4 1, 3) := by decide +kernel
theorem dX6_choose_43 : decode cX6_choose 43 = .ok (.goto (-29), 3) := by decide +kernel
theorem dX6_choose_46 : decode cX6_choose 46 = .ok (.lload_n 2, 1) := by decide +kernel
theorem dX6_choose_47 : decode cX6_choose 47 = .ok (.lreturn, 1) := by decide +kernel
theorem dX6_tell_0 : decode cX6_tell 0 = .ok (.lload_n 1, 1) := by decide +kernel
theorem dX6_tell_1 : decode cX6_tell 1 = .ok (.lstore 5, 2) := by decide +kernel
theorem dX6_tell_3 : decode cX6_tell 3 = .ok (.lload_n 3, 1) := by decide +kernel
theorem dX6_tell_4 : decode cX6_tell 4 = .ok (.lstore 7, 2) := by decide +kernel
theorem dX6_tell_6 : decode cX6_tell 6 = .ok (.lload 7, 2) := by decide +kernel
theorem dX6_tell_8 : decode cX6_tell 8 = .ok (.lconst 0, 1) := by decide +kernel
theorem dX6_tell_9 : decode cX6_tell 9 = .ok (.lcmp, 1) := by decide +kernel
theorem dX6_tell_10 : decode cX6_tell 10 = .ok (.ifCond .eq 21, 3) := by decide +kernel
theorem dX6_tell_13 : decode cX6_tell 13 = .ok (.lload 5, 2) := by decide +kernel
theorem dX6_tell_15 : decode cX6_tell 15 = .ok (.lload 7, 2) := by decide +kernel
theorem dX6_tell_17 : decode cX6_tell 17 = .ok (.lrem, 1) := by decide +kernel
theorem dX6_tell_18 : decode cX6_tell 18 = .ok (.lstore 9, 2) := by decide +kernel
theorem dX6_tell_20 : decode cX6_tell 20 = .ok (.lload 7, 2) := by decide +kernel
theorem dX6_tell_22 : decode cX6_tell 22 = .ok (.lstore 5, 2) := by decide +kernel
theorem dX6_tell_24 : decode cX6_tell 24 = .ok (.lload 9, 2) := by decide +kernel
theorem dX6_tell_26 : decode cX6_tell 26 = .ok (.lstore 7, 2) := by decide +kernel
theorem dX6_tell_28 : decode cX6_tell 28 = .ok (.goto (-22), 3) := by decide +kernel
theorem dX6_tell_31 : decode cX6_tell 31 = .ok (.aload_n 0, 1) := by decide +kernel
theorem dX6_tell_32 : decode cX6_tell 32 = .ok (.lload_n 1, 1) := by decide +kernel
theorem dX6_tell_33 : decode cX6_tell 33 = .ok (.lload 5, 2) := by decide +kernel
theorem dX6_tell_35 : decode cX6_tell 35 = .ok (.ldiv, 1) := by decide +kernel
theorem dX6_tell_36 : decode cX6_tell 36 = .ok (.putfield 181, 3) := by decide +kernel
theorem dX6_tell_39 : decode cX6_tell 39 = .ok (.aload_n 0, 1) := by decide +kernel
theorem dX6_tell_40 : decode cX6_tell 40 = .ok (.lload_n 3, 1) := by decide +kernel
theorem dX6_tell_41 : decode cX6_tell 41 = .ok (.lload 5, 2) := by decide +kernel
theorem dX6_tell_43 : decode cX6_tell 43 = .ok (.ldiv, 1) := by decide +kernel
theorem dX6_tell_44 : decode cX6_tell 44 = .ok (.putfield 23, 3) := by decide +kernel
theorem dX6_tell_47 : decode cX6_tell 47 = .ok (.iconst 1, 1) := by decide +kernel
theorem dX6_tell_48 : decode cX6_tell 48 = .ok (.ireturn, 1) := by decide +kernel
set_option maxRecDepth 20000 in
theorem ggX6_deaf_X6_line : GoodIn wsX6_deaf wsX6_line := goodIn_r _ [5, 6, 24, 25, 26, 27, 28, 29, 30, 31, 32, 33, 34, 35, 36, 37, 38, 39, 40, 41, 42] (by decide +kernel) (by decide +kernel)
set_option maxRecDepth 20000 in
theorem gX6_deaf_X6_line : GoodIn wsX6_deaf (wsV RX6 51 RX6 yX6_line wsX6_line) := goodIn_app (goodIn_of _ (by decide +kernel)) ggX6_deaf_X6_line
set_option maxRecDepth 20000 in
theorem ggX6_deaf_X6_strength : GoodIn wsX6_deaf wsX6_strength := goodIn_r _ [9] (by decide +kernel) (by decide +kernel)
set_option maxRecDepth 20000 in
theorem gX6_deaf_X6_strength : GoodIn wsX6_deaf (va_wsS RX6 129 yX6_strength wsX6_strength) := goodIn_app (goodIn_of _ (by decide +kernel)) ggX6_deaf_X6_strength
set_option maxRecDepth 20000 in
theorem ggX6_deaf_X6_hears : GoodIn wsX6_deaf wsX6_hears := goodIn_r _ [13, 14, 15, 16, 4, 17, 6, 18, 19, 20, 24, 25, 26, 27, 28, 29, 30, 31, 32, 33, 34, 35, 36, 37, 38, 39, 40, 41, 42] (by decide +kernel) (by decide +kernel)
set_option maxRecDepth 20000 in
theorem gX6_deaf_X6_hears : GoodIn wsX6_deaf (wsV RX6 125 RX6 yX6_hears wsX6_hears) := goodIn_app (goodIn_of _ (by decide +kernel)) ggX6_deaf_X6_hears
set_option maxRecDepth 20000 in
theorem ggX6_deaf_X6_choose : GoodIn wsX6_deaf wsX6_choose := goodIn_r _ [23] (by decide +kernel) (by decide +kernel)
set_option maxRecDepth 20000 in
theorem gX6_deaf_X6_choose : GoodIn wsX6_deaf (va_wsS RX6 184 yX6_choose wsX6_choose) := goodIn_app (goodIn_of _ (by decide +kernel)) ggX6_deaf_X6_choose
theorem dX6_deaf_0 : decode cX6_deaf 0 = .ok (.iconst 0, 1) := by decide +kernel
theorem dX6_deaf_1 : decode cX6_deaf 1 = .ok (.istore 4, 2) := by decide +kernel
theorem dX6_deaf_3 : decode cX6_deaf 3 = .ok (.iconst 0, 1) := by decide +kernel
theorem dX6_deaf_4 : decode cX6_deaf 4 = .ok (.istore 5, 2) := by decide +kernel
theorem dX6_deaf_6 : decode cX6_deaf 6 = .ok (.iload 5, 2) := by decide +kernel
theorem dX6_deaf_8 : decode cX6_deaf 8 = .ok (.aload_n 0, 1) := by decide +kernel
theorem dX6_deaf_9 : decode cX6_deaf 9 = .ok (.invokevirtual 51, 3) := by decide +kernel
theorem dX6_deaf_12 : decode cX6_deaf 12 = .ok (.if_icmp .ge 33, 3) := by decide +kernel
theorem dX6_deaf_15 : decode cX6_deaf 15 = .ok (.iload 4, 2) := by decide +kernel
theorem dX6_deaf_17 : decode cX6_deaf 17 = .ok (.aload_n 0, 1) := by decide +kernel
theorem dX6_deaf_18 : decode cX6_deaf 18 = .ok (.iload 5, 2) := by decide +kernel
theorem dX6_deaf_20 : decode cX6_deaf 20 = .ok (.iload_n 2, 1) := by decide +kernel
theorem dX6_deaf_21 : decode cX6_deaf 21 = .ok (.iload_n 3, 1) := by decide +kernel
theorem dX6_deaf_22 : decode cX6_deaf 22 = .ok (.invokestatic 129, 3) := by decide +kernel
theorem dX6_deaf_25 : decode cX6_deaf 25 = .ok (.invokevirtual 125, 3) := by decide +kernel
theorem dX6_deaf_28 : decode cX6_deaf 28 = .ok (.ifCond .eq 7, 3) := by decide +kernel
theorem dX6_deaf_31 : decode cX6_deaf 31 = .ok (.iconst 0, 1) := by decide +kernel
theorem dX6_deaf_32 : decode cX6_deaf 32 = .ok (.goto 4, 3) := by decide +kernel
theorem dX6_deaf_35 : decode cX6_deaf 35 = .ok (.iconst 1, 1) := by decide +kernel
theorem dX6_deaf_36 : decode cX6_deaf 36 = .ok (.iadd, 1) := by decide +kernel
theorem dX6_deaf_37 : decode cX6_deaf 37 = .ok (.istore 4, 2) := by decide +kernel
theorem dX6_deaf_39 : decode cX6_deaf 39 = .ok (.iinc 5 1, 3) := by decide +kernel
theorem dX6_deaf_42 : decode cX6_deaf 42 = .ok (.goto (-36), 3) := by decide +kernel
theorem dX6_deaf_45 : decode cX6_deaf 45 = .ok (.iload 4, 2) := by decide +kernel
theorem dX6_deaf_47 : decode cX6_deaf 47 = .ok (.iload_n 1, 1) := by decide +kernel
theorem dX6_deaf_48 : decode cX6_deaf 48 = .ok (.invokestatic 184, 3) := by decide +kernel
theorem dX6_deaf_51 : decode cX6_deaf 51 = .ok (.lreturn, 1) := by decide +kernel
set_option maxRecDepth 20000 in
theorem ggX6_lot_X6_line : GoodIn wsX6_lot wsX6_line := goodIn_r _ [5, 6, 54, 55, 56, 57, 58, 59, 60, 61, 62, 63, 64, 65, 66, 67, 68, 69, 70, 71, 72] (by decide +kernel) (by decide +kernel)
set_option maxRecDepth 20000 in
theorem gX6_lot_X6_line : GoodIn wsX6_lot (wsV RX6 51 RX6 yX6_line wsX6_line) := goodIn_app (goodIn_of _ (by decide +kernel)) ggX6_lot_X6_line
set_option maxRecDepth 20000 in
theorem ggX6_lot_X6_in : GoodIn wsX6_lot wsX6_in := goodIn_r _ [9] (by decide +kernel) (by decide +kernel)
set_option maxRecDepth 20000 in
theorem gX6_lot_X6_in : GoodIn wsX6_lot (va_wsS RX6 55 yX6_in wsX6_in) := goodIn_app (goodIn_of _ (by decide +kernel)) ggX6_lot_X6_in
set_option maxRecDepth 20000 in
theorem ggX6_lot_X6_isWire : GoodIn wsX6_lot wsX6_isWire := goodIn_r _ [13, 14, 15, 16, 4, 17, 6, 7, 8, 9, 54, 55, 56, 57, 58, 59, 60, 61, 62, 63, 64, 65, 66, 67, 68, 69, 70, 71, 72] (by decide +kernel) (by decide +kernel)
set_option maxRecDepth 20000 in
theorem gX6_lot_X6_isWire : GoodIn wsX6_lot (wsV RX6 78 RX6 yX6_isWire wsX6_isWire) := goodIn_app (goodIn_of _ (by decide +kernel)) ggX6_lot_X6_isWire
set_option maxRecDepth 20000 in
theorem ggX6_lot_X6_isStep : GoodIn wsX6_lot wsX6_isStep := goodIn_r _ [20, 21, 7, 8, 4, 9] (by decide +kernel) (by decide +kernel)
set_option maxRecDepth 20000 in
theorem gX6_lot_X6_isStep : GoodIn wsX6_lot (va_wsS RX6 104 yX6_isStep wsX6_isStep) := goodIn_app (goodIn_of _ (by decide +kernel)) ggX6_lot_X6_isStep
set_option maxRecDepth 20000 in
theorem ggX6_lot_X6_bad : GoodIn wsX6_lot wsX6_bad := goodIn_r _ [25, 26, 54, 55, 56, 57, 58, 59, 60, 61, 62, 63, 64, 65, 66, 67, 68, 69, 70, 71, 72] (by decide +kernel) (by decide +kernel)
set_option maxRecDepth 20000 in
theorem gX6_lot_X6_bad : GoodIn wsX6_lot (wsV RX6 70 RX6 yX6_bad wsX6_bad) := goodIn_app (goodIn_of _ (by decide +kernel)) ggX6_lot_X6_bad
set_option maxRecDepth 20000 in
theorem ggX6_lot_X6_deaf : GoodIn wsX6_lot wsX6_deaf := goodIn_r _ [30, 1, 2, 3, 4, 5, 6, 31, 32, 33, 34, 35, 36, 37, 38, 39, 40, 41, 42, 43, 44, 45, 46, 47, 54, 55, 56, 57, 58, 59, 60, 61, 62, 63, 64, 65, 66, 67, 68, 69, 70, 71, 72] (by decide +kernel) (by decide +kernel)
set_option maxRecDepth 20000 in
theorem gX6_lot_X6_deaf : GoodIn wsX6_lot (wsV RX6 188 RX6 yX6_deaf wsX6_deaf) := goodIn_app (goodIn_of _ (by decide +kernel)) ggX6_lot_X6_deaf
set_option maxRecDepth 20000 in
theorem ggX6_lot_X6_choose : GoodIn wsX6_lot wsX6_choose := goodIn_r _ [47] (by decide +kernel) (by decide +kernel)
set_option maxRecDepth 20000 in
theorem gX6_lot_X6_choose : GoodIn wsX6_lot (va_wsS RX6 184 yX6_choose wsX6_choose) := goodIn_app (goodIn_of _ (by decide +kernel)) ggX6_lot_X6_choose
set_option maxRecDepth 20000 in
theorem ggX6_lot_X6_tell : GoodIn wsX6_lot wsX6_tell := goodIn_r _ [51, 52, 53, 54, 55, 56, 57, 58, 59, 60, 61, 62, 63, 64, 65, 66, 67, 68, 69, 70, 71, 72] (by decide +kernel) (by decide +kernel)
set_option maxRecDepth 20000 in
theorem gX6_lot_X6_tell : GoodIn wsX6_lot (wsV RX6 192 RX6 yX6_tell wsX6_tell) := goodIn_app (goodIn_of _ (by decide +kernel)) ggX6_lot_X6_tell
theorem dX6_lot_0 : decode cX6_lot 0 = .ok (.iload_n 1, 1) := by decide +kernel
theorem dX6_lot_1 : decode cX6_lot 1 = .ok (.i2l, 1) := by decide +kernel
theorem dX6_lot_2 : decode cX6_lot 2 = .ok (.lconst 1, 1) := by decide +kernel
theorem dX6_lot_3 : decode cX6_lot 3 = .ok (.aload_n 0, 1) := by decide +kernel
theorem dX6_lot_4 : decode cX6_lot 4 = .ok (.invokevirtual 51, 3) := by decide +kernel
theorem dX6_lot_7 : decode cX6_lot 7 = .ok (.i2l, 1) := by decide +kernel
theorem dX6_lot_8 : decode cX6_lot 8 = .ok (.invokestatic 55, 3) := by decide +kernel
theorem dX6_lot_11 : decode cX6_lot 11 = .ok (.ifCond .eq 18, 3) := by decide +kernel
theorem dX6_lot_14 : decode cX6_lot 14 = .ok (.aload_n 0, 1) := by decide +kernel
theorem dX6_lot_15 : decode cX6_lot 15 = .ok (.iload_n 2, 1) := by decide +kernel
theorem dX6_lot_16 : decode cX6_lot 16 = .ok (.invokevirtual 78, 3) := by decide +kernel
theorem dX6_lot_19 : decode cX6_lot 19 = .ok (.ifCond .eq 10, 3) := by decide +kernel
theorem dX6_lot_22 : decode cX6_lot 22 = .ok (.iload_n 3, 1) := by decide +kernel
theorem dX6_lot_23 : decode cX6_lot 23 = .ok (.invokestatic 104, 3) := by decide +kernel
theorem dX6_lot_26 : decode cX6_lot 26 = .ok (.ifCond .ne 10, 3) := by decide +kernel
theorem dX6_lot_29 : decode cX6_lot 29 = .ok (.aload_n 0, 1) := by decide +kernel
theorem dX6_lot_30 : decode cX6_lot 30 = .ok (.bipush (-2), 2) := by decide +kernel
theorem dX6_lot_32 : decode cX6_lot 32 = .ok (.invokevirtual 70, 3) := by decide +kernel
theorem dX6_lot_35 : decode cX6_lot 35 = .ok (.ireturn, 1) := by decide +kernel
theorem dX6_lot_36 : decode cX6_lot 36 = .ok (.aload_n 0, 1) := by decide +kernel
theorem dX6_lot_37 : decode cX6_lot 37 = .ok (.aload_n 0, 1) := by decide +kernel
theorem dX6_lot_38 : decode cX6_lot 38 = .ok (.iload_n 1, 1) := by decide +kernel
theorem dX6_lot_39 : decode cX6_lot 39 = .ok (.iload_n 2, 1) := by decide +kernel
theorem dX6_lot_40 : decode cX6_lot 40 = .ok (.iload_n 3, 1) := by decide +kernel
theorem dX6_lot_41 : decode cX6_lot 41 = .ok (.invokevirtual 188, 3) := by decide +kernel
theorem dX6_lot_44 : decode cX6_lot 44 = .ok (.aload_n 0, 1) := by decide +kernel
theorem dX6_lot_45 : decode cX6_lot 45 = .ok (.invokevirtual 51, 3) := by decide +kernel
theorem dX6_lot_48 : decode cX6_lot 48 = .ok (.iload_n 1, 1) := by decide +kernel
theorem dX6_lot_49 : decode cX6_lot 49 = .ok (.invokestatic 184, 3) := by decide +kernel
theorem dX6_lot_52 : decode cX6_lot 52 = .ok (.invokevirtual 192, 3) := by decide +kernel
theorem dX6_lot_55 : decode cX6_lot 55 = .ok (.ireturn, 1) := by decide +kernel
set_option maxRecDepth 20000 in
theorem ggX6_surest_X6_line : GoodIn wsX6_surest wsX6_line := goodIn_r _ [6, 7, 55, 56, 57, 58, 59, 60, 61, 62, 63, 64, 65, 66, 67, 68, 69, 70, 71, 72, 73] (by decide +kernel) (by decide +kernel)
set_option maxRecDepth 20000 in
theorem gX6_surest_X6_line : GoodIn wsX6_surest (wsV RX6 51 RX6 yX6_line wsX6_line) := goodIn_app (goodIn_of _ (by decide +kernel)) ggX6_surest_X6_line
set_option maxRecDepth 20000 in
theorem ggX6_surest_X6_in : GoodIn wsX6_surest wsX6_in := goodIn_r _ [10] (by decide +kernel) (by decide +kernel)
set_option maxRecDepth 20000 in
theorem gX6_surest_X6_in : GoodIn wsX6_surest (va_wsS RX6 55 yX6_in wsX6_in) := goodIn_app (goodIn_of _ (by decide +kernel)) ggX6_surest_X6_in
set_option maxRecDepth 20000 in
theorem ggX6_surest_X6_isStep : GoodIn wsX6_surest wsX6_isStep := goodIn_r _ [13, 14, 8, 9, 5, 10] (by decide +kernel) (by decide +kernel)
set_option maxRecDepth 20000 in
theorem gX6_surest_X6_isStep : GoodIn wsX6_surest (va_wsS RX6 104 yX6_isStep wsX6_isStep) := goodIn_app (goodIn_of _ (by decide +kernel)) ggX6_surest_X6_isStep
set_option maxRecDepth 20000 in
theorem ggX6_surest_X6_bad : GoodIn wsX6_surest wsX6_bad := goodIn_r _ [18, 19, 55, 56, 57, 58, 59, 60, 61, 62, 63, 64, 65, 66, 67, 68, 69, 70, 71, 72, 73] (by decide +kernel) (by decide +kernel)
set_option maxRecDepth 20000 in
theorem gX6_surest_X6_bad : GoodIn wsX6_surest (wsV RX6 70 RX6 yX6_bad wsX6_bad) := goodIn_app (goodIn_of _ (by decide +kernel)) ggX6_surest_X6_bad
set_option maxRecDepth 20000 in
theorem ggX6_surest_X6_wires : GoodIn wsX6_surest wsX6_wires := goodIn_r _ [23, 7, 55, 56, 57, 58, 59, 60, 61, 62, 63, 64, 65, 66, 67, 68, 69, 70, 71, 72, 73] (by decide +kernel) (by decide +kernel)
set_option maxRecDepth 20000 in
theorem gX6_surest_X6_wires : GoodIn wsX6_surest (wsV RX6 59 RX6 yX6_wires wsX6_wires) := goodIn_app (goodIn_of _ (by decide +kernel)) ggX6_surest_X6_wires
set_option maxRecDepth 20000 in
theorem ggX6_surest_X6_isCut : GoodIn wsX6_surest wsX6_isCut := goodIn_r _ [27, 7, 55, 56, 57, 58, 59, 60, 61, 62, 63, 64, 65, 66, 67, 68, 69, 70, 71, 72, 73] (by decide +kernel) (by decide +kernel)
set_option maxRecDepth 20000 in
theorem gX6_surest_X6_isCut : GoodIn wsX6_surest (wsV RX6 146 RX6 yX6_isCut wsX6_isCut) := goodIn_app (goodIn_of _ (by decide +kernel)) ggX6_surest_X6_isCut
set_option maxRecDepth 20000 in
theorem ggX6_surest_X6_deaf : GoodIn wsX6_surest wsX6_deaf := goodIn_r _ [31, 2, 3, 4, 5, 6, 7, 32, 33, 34, 35, 36, 37, 38, 39, 40, 41, 42, 43, 44, 45, 46, 47, 48, 55, 56, 57, 58, 59, 60, 61, 62, 63, 64, 65, 66, 67, 68, 69, 70, 71, 72, 73] (by decide +kernel) (by decide +kernel)
set_option maxRecDepth 20000 in
theorem gX6_surest_X6_deaf : GoodIn wsX6_surest (wsV RX6 188 RX6 yX6_deaf wsX6_deaf) := goodIn_app (goodIn_of _ (by decide +kernel)) ggX6_surest_X6_deaf
set_option maxRecDepth 20000 in
theorem ggX6_surest_X6_choose : GoodIn wsX6_surest wsX6_choose := goodIn_r _ [48] (by decide +kernel) (by decide +kernel)
set_option maxRecDepth 20000 in
theorem gX6_surest_X6_choose : GoodIn wsX6_surest (va_wsS RX6 184 yX6_choose wsX6_choose) := goodIn_app (goodIn_of _ (by decide +kernel)) ggX6_surest_X6_choose
set_option maxRecDepth 20000 in
theorem ggX6_surest_X6_tell : GoodIn wsX6_surest wsX6_tell := goodIn_r _ [52, 53, 54, 55, 56, 57, 58, 59, 60, 61, 62, 63, 64, 65, 66, 67, 68, 69, 70, 71, 72, 73] (by decide +kernel) (by decide +kernel)
set_option maxRecDepth 20000 in
theorem gX6_surest_X6_tell : GoodIn wsX6_surest (wsV RX6 192 RX6 yX6_tell wsX6_tell) := goodIn_app (goodIn_of _ (by decide +kernel)) ggX6_surest_X6_tell
theorem dX6_surest_0 : decode cX6_surest 0 = .ok (.iload_n 1, 1) := by decide +kernel
theorem dX6_surest_1 : decode cX6_surest 1 = .ok (.i2l, 1) := by decide +kernel
theorem dX6_surest_2 : decode cX6_surest 2 = .ok (.lconst 1, 1) := by decide +kernel
theorem dX6_surest_3 : decode cX6_surest 3 = .ok (.aload_n 0, 1) := by decide +kernel
theorem dX6_surest_4 : decode cX6_surest 4 = .ok (.invokevirtual 51, 3) := by decide +kernel
theorem dX6_surest_7 : decode cX6_surest 7 = .ok (.i2l, 1) := by decide +kernel
theorem dX6_surest_8 : decode cX6_surest 8 = .ok (.invokestatic 55, 3) := by decide +kernel
theorem dX6_surest_11 : decode cX6_surest 11 = .ok (.ifCond .eq 10, 3) := by decide +kernel
theorem dX6_surest_14 : decode cX6_surest 14 = .ok (.iload_n 2, 1) := by decide +kernel
theorem dX6_surest_15 : decode cX6_surest 15 = .ok (.invokestatic 104, 3) := by decide +kernel
theorem dX6_surest_18 : decode cX6_surest 18 = .ok (.ifCond .ne 10, 3) := by decide +kernel
theorem dX6_surest_21 : decode cX6_surest 21 = .ok (.aload_n 0, 1) := by decide +kernel
theorem dX6_surest_22 : decode cX6_surest 22 = .ok (.bipush (-2), 2) := by decide +kernel
theorem dX6_surest_24 : decode cX6_surest 24 = .ok (.invokevirtual 70, 3) := by decide +kernel
theorem dX6_surest_27 : decode cX6_surest 27 = .ok (.ireturn, 1) := by decide +kernel
theorem dX6_surest_28 : decode cX6_surest 28 = .ok (.iconst (-1), 1) := by decide +kernel
theorem dX6_surest_29 : decode cX6_surest 29 = .ok (.istore_n 3, 1) := by decide +kernel
theorem dX6_surest_30 : decode cX6_surest 30 = .ok (.ldc2_w 196, 3) := by decide +kernel
theorem dX6_surest_33 : decode cX6_surest 33 = .ok (.lstore 4, 2) := by decide +kernel
theorem dX6_surest_35 : decode cX6_surest 35 = .ok (.iconst 0, 1) := by decide +kernel
theorem dX6_surest_36 : decode cX6_surest 36 = .ok (.istore 6, 2) := by decide +kernel
theorem dX6_surest_38 : decode cX6_surest 38 = .ok (.iload 6, 2) := by decide +kernel
theorem dX6_surest_40 : decode cX6_surest 40 = .ok (.aload_n 0, 1) := by decide +kernel
theorem dX6_surest_41 : decode cX6_surest 41 = .ok (.invokevirtual 59, 3) := by decide +kernel
theorem dX6_surest_44 : decode cX6_surest 44 = .ok (.if_icmp .ge 66, 3) := by decide +kernel
theorem dX6_surest_47 : decode cX6_surest 47 = .ok (.aload_n 0, 1) := by decide +kernel
theorem dX6_surest_48 : decode cX6_surest 48 = .ok (.iload 6, 2) := by decide +kernel
theorem dX6_surest_50 : decode cX6_surest 50 = .ok (.invokevirtual 146, 3) := by decide +kernel
theorem dX6_surest_53 : decode cX6_surest 53 = .ok (.ifCond .eq 9, 3) := by decide +kernel
theorem dX6_surest_56 : decode cX6_surest 56 = .ok (.ldc2_w 196, 3) := by decide +kernel
theorem dX6_surest_59 : decode cX6_surest 59 = .ok (.goto 11, 3) := by decide +kernel
theorem dX6_surest_62 : decode cX6_surest 62 = .ok (.aload_n 0, 1) := by decide +kernel
theorem dX6_surest_63 : decode cX6_surest 63 = .ok (.iload_n 1, 1) := by decide +kernel
theorem dX6_surest_64 : decode cX6_surest 64 = .ok (.iload 6, 2) := by decide +kernel
theorem dX6_surest_66 : decode cX6_surest 66 = .ok (.iload_n 2, 1) := by decide +kernel
theorem dX6_surest_67 : decode cX6_surest 67 = .ok (.invokevirtual 188, 3) := by decide +kernel
theorem dX6_surest_70 : decode cX6_surest 70 = .ok (.lstore 7, 2) := by decide +kernel
theorem dX6_surest_72 : decode cX6_surest 72 = .ok (.lload 7, 2) := by decide +kernel
theorem dX6_surest_74 : decode cX6_surest 74 = .ok (.lload 4, 2) := by decide +kernel
theorem dX6_surest_76 : decode cX6_surest 76 = .ok (.lcmp, 1) := by decide +kernel
theorem dX6_surest_77 : decode cX6_surest 77 = .ok (.ifCond .le 8, 3) := by decide +kernel
theorem dX6_surest_80 : decode cX6_surest 80 = .ok (.iload 6, 2) := by decide +kernel
theorem dX6_surest_82 : decode cX6_surest 82 = .ok (.goto 4, 3) := by decide +kernel
theorem dX6_surest_85 : decode cX6_surest 85 = .ok (.iload_n 3, 1) := by decide +kernel
theorem dX6_surest_86 : decode cX6_surest 86 = .ok (.istore_n 3, 1) := by decide +kernel
theorem dX6_surest_87 : decode cX6_surest 87 = .ok (.lload 7, 2) := by decide +kernel
theorem dX6_surest_89 : decode cX6_surest 89 = .ok (.lload 4, 2) := by decide +kernel
theorem dX6_surest_91 : decode cX6_surest 91 = .ok (.lcmp, 1) := by decide +kernel
theorem dX6_surest_92 : decode cX6_surest 92 = .ok (.ifCond .le 8, 3) := by decide +kernel
theorem dX6_surest_95 : decode cX6_surest 95 = .ok (.lload 7, 2) := by decide +kernel
theorem dX6_surest_97 : decode cX6_surest 97 = .ok (.goto 5, 3) := by decide +kernel
theorem dX6_surest_100 : decode cX6_surest 100 = .ok (.lload 4, 2) := by decide +kernel
theorem dX6_surest_102 : decode cX6_surest 102 = .ok (.lstore 4, 2) := by decide +kernel
theorem dX6_surest_104 : decode cX6_surest 104 = .ok (.iinc 6 1, 3) := by decide +kernel
theorem dX6_surest_107 : decode cX6_surest 107 = .ok (.goto (-69), 3) := by decide +kernel
theorem dX6_surest_110 : decode cX6_surest 110 = .ok (.iload_n 3, 1) := by decide +kernel
theorem dX6_surest_111 : decode cX6_surest 111 = .ok (.iconst (-1), 1) := by decide +kernel
theorem dX6_surest_112 : decode cX6_surest 112 = .ok (.if_icmp .ne 7, 3) := by decide +kernel
theorem dX6_surest_115 : decode cX6_surest 115 = .ok (.iconst 0, 1) := by decide +kernel
theorem dX6_surest_116 : decode cX6_surest 116 = .ok (.goto 17, 3) := by decide +kernel
theorem dX6_surest_119 : decode cX6_surest 119 = .ok (.aload_n 0, 1) := by decide +kernel
theorem dX6_surest_120 : decode cX6_surest 120 = .ok (.lload 4, 2) := by decide +kernel
theorem dX6_surest_122 : decode cX6_surest 122 = .ok (.aload_n 0, 1) := by decide +kernel
theorem dX6_surest_123 : decode cX6_surest 123 = .ok (.invokevirtual 51, 3) := by decide +kernel
theorem dX6_surest_126 : decode cX6_surest 126 = .ok (.iload_n 1, 1) := by decide +kernel
theorem dX6_surest_127 : decode cX6_surest 127 = .ok (.invokestatic 184, 3) := by decide +kernel
theorem dX6_surest_130 : decode cX6_surest 130 = .ok (.invokevirtual 192, 3) := by decide +kernel
theorem dX6_surest_133 : decode cX6_surest 133 = .ok (.istore 6, 2) := by decide +kernel
theorem dX6_surest_135 : decode cX6_surest 135 = .ok (.iload_n 3, 1) := by decide +kernel
theorem dX6_surest_136 : decode cX6_surest 136 = .ok (.ireturn, 1) := by decide +kernel
set_option maxRecDepth 20000 in
theorem ggX6_whence_X6_isPost : GoodIn wsX6_whence wsX6_isPost := goodIn_r _ [7, 8, 9, 10, 6, 11, 12, 13, 14, 15, 43, 44, 45, 46, 47, 48, 49, 50, 51, 52, 53, 54, 55, 56, 57, 58, 59, 60, 61] (by decide +kernel) (by decide +kernel)
set_option maxRecDepth 20000 in
theorem gX6_whence_X6_isPost : GoodIn wsX6_whence (wsV RX6 88 RX6 yX6_isPost wsX6_isPost) := goodIn_app (goodIn_of _ (by decide +kernel)) ggX6_whence_X6_isPost
set_option maxRecDepth 20000 in
theorem ggX6_whence_X6_in : GoodIn wsX6_whence wsX6_in := goodIn_r _ [15] (by decide +kernel) (by decide +kernel)
set_option maxRecDepth 20000 in
theorem gX6_whence_X6_in : GoodIn wsX6_whence (va_wsS RX6 55 yX6_in wsX6_in) := goodIn_app (goodIn_of _ (by decide +kernel)) ggX6_whence_X6_in
set_option maxRecDepth 20000 in
theorem ggX6_whence_X6_bad : GoodIn wsX6_whence wsX6_bad := goodIn_r _ [19, 20, 43, 44, 45, 46, 47, 48, 49, 50, 51, 52, 53, 54, 55, 56, 57, 58, 59, 60, 61] (by decide +kernel) (by decide +kernel)
set_option maxRecDepth 20000 in
theorem gX6_whence_X6_bad : GoodIn wsX6_whence (wsV RX6 70 RX6 yX6_bad wsX6_bad) := goodIn_app (goodIn_of _ (by decide +kernel)) ggX6_whence_X6_bad
set_option maxRecDepth 20000 in
theorem ggX6_whence_X6_wires : GoodIn wsX6_whence wsX6_wires := goodIn_r _ [24, 12, 43, 44, 45, 46, 47, 48, 49, 50, 51, 52, 53, 54, 55, 56, 57, 58, 59, 60, 61] (by decide +kernel) (by decide +kernel)
set_option maxRecDepth 20000 in
theorem gX6_whence_X6_wires : GoodIn wsX6_whence (wsV RX6 59 RX6 yX6_wires wsX6_wires) := goodIn_app (goodIn_of _ (by decide +kernel)) ggX6_whence_X6_wires
set_option maxRecDepth 20000 in
theorem ggX6_whence_X6_noteOf : GoodIn wsX6_whence wsX6_noteOf := goodIn_r _ [28, 12, 29, 30, 6, 31, 43, 44, 45, 46, 47, 48, 49, 50, 51, 52, 53, 54, 55, 56, 57, 58, 59, 60, 61] (by decide +kernel) (by decide +kernel)
set_option maxRecDepth 20000 in
theorem gX6_whence_X6_noteOf : GoodIn wsX6_whence (wsV RX6 122 RX6 yX6_noteOf wsX6_noteOf) := goodIn_app (goodIn_of _ (by decide +kernel)) ggX6_whence_X6_noteOf
set_option maxRecDepth 20000 in
theorem ggX6_whence_X6_hears : GoodIn wsX6_whence wsX6_hears := goodIn_r _ [35, 36, 37, 38, 6, 39, 12, 40, 41, 42, 43, 44, 45, 46, 47, 48, 49, 50, 51, 52, 53, 54, 55, 56, 57, 58, 59, 60, 61] (by decide +kernel) (by decide +kernel)
set_option maxRecDepth 20000 in
theorem gX6_whence_X6_hears : GoodIn wsX6_whence (wsV RX6 125 RX6 yX6_hears wsX6_hears) := goodIn_app (goodIn_of _ (by decide +kernel)) ggX6_whence_X6_hears
theorem dX6_whence_0 : decode cX6_whence 0 = .ok (.aload_n 0, 1) := by decide +kernel
theorem dX6_whence_1 : decode cX6_whence 1 = .ok (.iload_n 1, 1) := by decide +kernel
theorem dX6_whence_2 : decode cX6_whence 2 = .ok (.invokevirtual 88, 3) := by decide +kernel
theorem dX6_whence_5 : decode cX6_whence 5 = .ok (.ifCond .eq 27, 3) := by decide +kernel
theorem dX6_whence_8 : decode cX6_whence 8 = .ok (.iload_n 2, 1) := by decide +kernel
theorem dX6_whence_9 : decode cX6_whence 9 = .ok (.i2l, 1) := by decide +kernel
theorem dX6_whence_10 : decode cX6_whence 10 = .ok (.lconst 0, 1) := by decide +kernel
theorem dX6_whence_11 : decode cX6_whence 11 = .ok (.ldc2_w 84, 3) := by decide +kernel
theorem dX6_whence_14 : decode cX6_whence 14 = .ok (.invokestatic 55, 3) := by decide +kernel
theorem dX6_whence_17 : decode cX6_whence 17 = .ok (.ifCond .eq 15, 3) := by decide +kernel
theorem dX6_whence_20 : decode cX6_whence 20 = .ok (.iload_n 3, 1) := by decide +kernel
theorem dX6_whence_21 : decode cX6_whence 21 = .ok (.i2l, 1) := by decide +kernel
theorem dX6_whence_22 : decode cX6_whence 22 = .ok (.lconst 1, 1) := by decide +kernel
theorem dX6_whence_23 : decode cX6_whence 23 = .ok (.ldc2_w 64, 3) := by decide +kernel
theorem dX6_whence_26 : decode cX6_whence 26 = .ok (.invokestatic 55, 3) := by decide +kernel
theorem dX6_whence_29 : decode cX6_whence 29 = .ok (.ifCond .ne 10, 3) := by decide +kernel
theorem dX6_whence_32 : decode cX6_whence 32 = .ok (.aload_n 0, 1) := by decide +kernel
theorem dX6_whence_33 : decode cX6_whence 33 = .ok (.bipush (-2), 2) := by decide +kernel
theorem dX6_whence_35 : decode cX6_whence 35 = .ok (.invokevirtual 70, 3) := by decide +kernel
theorem dX6_whence_38 : decode cX6_whence 38 = .ok (.ireturn, 1) := by decide +kernel
theorem dX6_whence_39 : decode cX6_whence 39 = .ok (.iconst 0, 1) := by decide +kernel
theorem dX6_whence_40 : decode cX6_whence 40 = .ok (.istore 4, 2) := by decide +kernel
theorem dX6_whence_42 : decode cX6_whence 42 = .ok (.iconst 0, 1) := by decide +kernel
theorem dX6_whence_43 : decode cX6_whence 43 = .ok (.istore 5, 2) := by decide +kernel
theorem dX6_whence_45 : decode cX6_whence 45 = .ok (.iload 5, 2) := by decide +kernel
theorem dX6_whence_47 : decode cX6_whence 47 = .ok (.aload_n 0, 1) := by decide +kernel
theorem dX6_whence_48 : decode cX6_whence 48 = .ok (.invokevirtual 59, 3) := by decide +kernel
theorem dX6_whence_51 : decode cX6_whence 51 = .ok (.if_icmp .ge 43, 3) := by decide +kernel
theorem dX6_whence_54 : decode cX6_whence 54 = .ok (.iload 4, 2) := by decide +kernel
theorem dX6_whence_56 : decode cX6_whence 56 = .ok (.aload_n 0, 1) := by decide +kernel
theorem dX6_whence_57 : decode cX6_whence 57 = .ok (.iload 5, 2) := by decide +kernel
theorem dX6_whence_59 : decode cX6_whence 59 = .ok (.invokevirtual 122, 3) := by decide +kernel
theorem dX6_whence_62 : decode cX6_whence 62 = .ok (.iload_n 2, 1) := by decide +kernel
theorem dX6_whence_63 : decode cX6_whence 63 = .ok (.if_icmp .ne 21, 3) := by decide +kernel
theorem dX6_whence_66 : decode cX6_whence 66 = .ok (.aload_n 0, 1) := by decide +kernel
theorem dX6_whence_67 : decode cX6_whence 67 = .ok (.iload_n 1, 1) := by decide +kernel
theorem dX6_whence_68 : decode cX6_whence 68 = .ok (.iload 5, 2) := by decide +kernel
theorem dX6_whence_70 : decode cX6_whence 70 = .ok (.iload_n 3, 1) := by decide +kernel
theorem dX6_whence_71 : decode cX6_whence 71 = .ok (.invokevirtual 125, 3) := by decide +kernel
theorem dX6_whence_74 : decode cX6_whence 74 = .ok (.ifCond .eq 10, 3) := by decide +kernel
theorem dX6_whence_77 : decode cX6_whence 77 = .ok (.iconst 1, 1) := by decide +kernel
theorem dX6_whence_78 : decode cX6_whence 78 = .ok (.iload 5, 2) := by decide +kernel
theorem dX6_whence_80 : decode cX6_whence 80 = .ok (.ishl, 1) := by decide +kernel
theorem dX6_whence_81 : decode cX6_whence 81 = .ok (.goto 4, 3) := by decide +kernel
theorem dX6_whence_84 : decode cX6_whence 84 = .ok (.iconst 0, 1) := by decide +kernel
theorem dX6_whence_85 : decode cX6_whence 85 = .ok (.ior, 1) := by decide +kernel
theorem dX6_whence_86 : decode cX6_whence 86 = .ok (.istore 4, 2) := by decide +kernel
theorem dX6_whence_88 : decode cX6_whence 88 = .ok (.iinc 5 1, 3) := by decide +kernel
theorem dX6_whence_91 : decode cX6_whence 91 = .ok (.goto (-46), 3) := by decide +kernel
theorem dX6_whence_94 : decode cX6_whence 94 = .ok (.iload 4, 2) := by decide +kernel
theorem dX6_whence_96 : decode cX6_whence 96 = .ok (.ireturn, 1) := by decide +kernel
set_option maxRecDepth 20000 in
theorem ggX6_pairs_X6_wires : GoodIn wsX6_pairs wsX6_wires := goodIn_r _ [5, 6, 22, 23, 24, 25, 26, 27, 28, 29, 30, 31, 32, 33, 34, 35, 36, 37, 38, 39, 40] (by decide +kernel) (by decide +kernel)
set_option maxRecDepth 20000 in
theorem gX6_pairs_X6_wires : GoodIn wsX6_pairs (wsV RX6 59 RX6 yX6_wires wsX6_wires) := goodIn_app (goodIn_of _ (by decide +kernel)) ggX6_pairs_X6_wires
set_option maxRecDepth 20000 in
theorem ggX6_pairs_X6_line : GoodIn wsX6_pairs wsX6_line := goodIn_r _ [10, 6, 22, 23, 24, 25, 26, 27, 28, 29, 30, 31, 32, 33, 34, 35, 36, 37, 38, 39, 40] (by decide +kernel) (by decide +kernel)
set_option maxRecDepth 20000 in
theorem gX6_pairs_X6_line : GoodIn wsX6_pairs (wsV RX6 51 RX6 yX6_line wsX6_line) := goodIn_app (goodIn_of _ (by decide +kernel)) ggX6_pairs_X6_line
set_option maxRecDepth 20000 in
theorem ggX6_pairs_X6_hears : GoodIn wsX6_pairs wsX6_hears := goodIn_r _ [14, 15, 16, 17, 4, 18, 6, 19, 20, 21, 22, 23, 24, 25, 26, 27, 28, 29, 30, 31, 32, 33, 34, 35, 36, 37, 38, 39, 40] (by decide +kernel) (by decide +kernel)
set_option maxRecDepth 20000 in
theorem gX6_pairs_X6_hears : GoodIn wsX6_pairs (wsV RX6 125 RX6 yX6_hears wsX6_hears) := goodIn_app (goodIn_of _ (by decide +kernel)) ggX6_pairs_X6_hears
theorem dX6_pairs_0 : decode cX6_pairs 0 = .ok (.iconst 0, 1) := by decide +kernel
theorem dX6_pairs_1 : decode cX6_pairs 1 = .ok (.istore_n 1, 1) := by decide +kernel
theorem dX6_pairs_2 : decode cX6_pairs 2 = .ok (.iconst 0, 1) := by decide +kernel
theorem dX6_pairs_3 : decode cX6_pairs 3 = .ok (.istore_n 2, 1) := by decide +kernel
theorem dX6_pairs_4 : decode cX6_pairs 4 = .ok (.iload_n 2, 1) := by decide +kernel
theorem dX6_pairs_5 : decode cX6_pairs 5 = .ok (.aload_n 0, 1) := by decide +kernel
theorem dX6_pairs_6 : decode cX6_pairs 6 = .ok (.invokevirtual 59, 3) := by decide +kernel
theorem dX6_pairs_9 : decode cX6_pairs 9 = .ok (.if_icmp .ge 43, 3) := by decide +kernel
theorem dX6_pairs_12 : decode cX6_pairs 12 = .ok (.iconst 0, 1) := by decide +kernel
theorem dX6_pairs_13 : decode cX6_pairs 13 = .ok (.istore_n 3, 1) := by decide +kernel
theorem dX6_pairs_14 : decode cX6_pairs 14 = .ok (.iload_n 3, 1) := by decide +kernel
theorem dX6_pairs_15 : decode cX6_pairs 15 = .ok (.aload_n 0, 1) := by decide +kernel
theorem dX6_pairs_16 : decode cX6_pairs 16 = .ok (.invokevirtual 51, 3) := by decide +kernel
theorem dX6_pairs_19 : decode cX6_pairs 19 = .ok (.if_icmp .ge 27, 3) := by decide +kernel
theorem dX6_pairs_22 : decode cX6_pairs 22 = .ok (.iload_n 1, 1) := by decide +kernel
theorem dX6_pairs_23 : decode cX6_pairs 23 = .ok (.aload_n 0, 1) := by decide +kernel
theorem dX6_pairs_24 : decode cX6_pairs 24 = .ok (.iload_n 3, 1) := by decide +kernel
theorem dX6_pairs_25 : decode cX6_pairs 25 = .ok (.iload_n 2, 1) := by decide +kernel
theorem dX6_pairs_26 : decode cX6_pairs 26 = .ok (.iconst 1, 1) := by decide +kernel
theorem dX6_pairs_27 : decode cX6_pairs 27 = .ok (.invokevirtual 125, 3) := by decide +kernel
theorem dX6_pairs_30 : decode cX6_pairs 30 = .ok (.ifCond .eq 7, 3) := by decide +kernel
theorem dX6_pairs_33 : decode cX6_pairs 33 = .ok (.iconst 1, 1) := by decide +kernel
theorem dX6_pairs_34 : decode cX6_pairs 34 = .ok (.goto 4, 3) := by decide +kernel
theorem dX6_pairs_37 : decode cX6_pairs 37 = .ok (.iconst 0, 1) := by decide +kernel
theorem dX6_pairs_38 : decode cX6_pairs 38 = .ok (.iadd, 1) := by decide +kernel
theorem dX6_pairs_39 : decode cX6_pairs 39 = .ok (.istore_n 1, 1) := by decide +kernel
theorem dX6_pairs_40 : decode cX6_pairs 40 = .ok (.iinc 3 1, 3) := by decide +kernel
theorem dX6_pairs_43 : decode cX6_pairs 43 = .ok (.goto (-29), 3) := by decide +kernel
theorem dX6_pairs_46 : decode cX6_pairs 46 = .ok (.iinc 2 1, 3) := by decide +kernel
theorem dX6_pairs_49 : decode cX6_pairs 49 = .ok (.goto (-45), 3) := by decide +kernel
theorem dX6_pairs_52 : decode cX6_pairs 52 = .ok (.iload_n 1, 1) := by decide +kernel
theorem dX6_pairs_53 : decode cX6_pairs 53 = .ok (.ireturn, 1) := by decide +kernel
set_option maxRecDepth 20000 in
theorem ggX6_doubled_X6_pairs : GoodIn wsX6_doubled wsX6_pairs := goodIn_r _ [6, 7, 8, 9, 5, 10, 1, 11, 12, 13, 14, 15, 16, 17, 18, 19, 20, 21, 22, 23, 24, 25, 26, 27, 28, 29, 30, 31, 32, 33, 34, 35, 36, 37, 38, 39, 40, 41, 42, 43, 44] (by decide +kernel) (by decide +kernel)
set_option maxRecDepth 20000 in
theorem gX6_doubled_X6_pairs : GoodIn wsX6_doubled (wsV RX6 198 RX6 yX6_pairs wsX6_pairs) := goodIn_app (goodIn_of _ (by decide +kernel)) ggX6_doubled_X6_pairs
set_option maxRecDepth 20000 in
theorem ggX6_doubled_X6_wires : GoodIn wsX6_doubled wsX6_wires := goodIn_r _ [10, 1, 26, 27, 28, 29, 30, 31, 32, 33, 34, 35, 36, 37, 38, 39, 40, 41, 42, 43, 44] (by decide +kernel) (by decide +kernel)
set_option maxRecDepth 20000 in
theorem gX6_doubled_X6_wires : GoodIn wsX6_doubled (wsV RX6 59 RX6 yX6_wires wsX6_wires) := goodIn_app (goodIn_of _ (by decide +kernel)) ggX6_doubled_X6_wires
theorem dX6_doubled_0 : decode cX6_doubled 0 = .ok (.aload_n 0, 1) := by decide +kernel
theorem dX6_doubled_1 : decode cX6_doubled 1 = .ok (.invokevirtual 198, 3) := by decide +kernel
theorem dX6_doubled_4 : decode cX6_doubled 4 = .ok (.istore_n 1, 1) := by decide +kernel
theorem dX6_doubled_5 : decode cX6_doubled 5 = .ok (.iconst (-1), 1) := by decide +kernel
theorem dX6_doubled_6 : decode cX6_doubled 6 = .ok (.istore_n 2, 1) := by decide +kernel
theorem dX6_doubled_7 : decode cX6_doubled 7 = .ok (.iconst 0, 1) := by decide +kernel
theorem dX6_doubled_8 : decode cX6_doubled 8 = .ok (.istore_n 3, 1) := by decide +kernel
theorem dX6_doubled_9 : decode cX6_doubled 9 = .ok (.iload_n 3, 1) := by decide +kernel
theorem dX6_doubled_10 : decode cX6_doubled 10 = .ok (.aload_n 0, 1) := by decide +kernel
theorem dX6_doubled_11 : decode cX6_doubled 11 = .ok (.invokevirtual 59, 3) := by decide +kernel
theorem dX6_doubled_14 : decode cX6_doubled 14 = .ok (.if_icmp .ge 69, 3) := by decide +kernel
theorem dX6_doubled_17 : decode cX6_doubled 17 = .ok (.aload_n 0, 1) := by decide +kernel
theorem dX6_doubled_18 : decode cX6_doubled 18 = .ok (.getfield 7, 3) := by decide +kernel
theorem dX6_doubled_21 : decode cX6_doubled 21 = .ok (.iconst 3, 1) := by decide +kernel
theorem dX6_doubled_22 : decode cX6_doubled 22 = .ok (.iload_n 3, 1) := by decide +kernel
theorem dX6_doubled_23 : decode cX6_doubled 23 = .ok (.iadd, 1) := by decide +kernel
theorem dX6_doubled_24 : decode cX6_doubled 24 = .ok (.iaload, 1) := by decide +kernel
theorem dX6_doubled_25 : decode cX6_doubled 25 = .ok (.istore 4, 2) := by decide +kernel
theorem dX6_doubled_27 : decode cX6_doubled 27 = .ok (.aload_n 0, 1) := by decide +kernel
theorem dX6_doubled_28 : decode cX6_doubled 28 = .ok (.getfield 7, 3) := by decide +kernel
theorem dX6_doubled_31 : decode cX6_doubled 31 = .ok (.iconst 3, 1) := by decide +kernel
theorem dX6_doubled_32 : decode cX6_doubled 32 = .ok (.iload_n 3, 1) := by decide +kernel
theorem dX6_doubled_33 : decode cX6_doubled 33 = .ok (.iadd, 1) := by decide +kernel
theorem dX6_doubled_34 : decode cX6_doubled 34 = .ok (.iconst 1, 1) := by decide +kernel
theorem dX6_doubled_35 : decode cX6_doubled 35 = .ok (.iastore, 1) := by decide +kernel
theorem dX6_doubled_36 : decode cX6_doubled 36 = .ok (.aload_n 0, 1) := by decide +kernel
theorem dX6_doubled_37 : decode cX6_doubled 37 = .ok (.invokevirtual 198, 3) := by decide +kernel
theorem dX6_doubled_40 : decode cX6_doubled 40 = .ok (.istore 5, 2) := by decide +kernel
theorem dX6_doubled_42 : decode cX6_doubled 42 = .ok (.aload_n 0, 1) := by decide +kernel
theorem dX6_doubled_43 : decode cX6_doubled 43 = .ok (.getfield 7, 3) := by decide +kernel
theorem dX6_doubled_46 : decode cX6_doubled 46 = .ok (.iconst 3, 1) := by decide +kernel
theorem dX6_doubled_47 : decode cX6_doubled 47 = .ok (.iload_n 3, 1) := by decide +kernel
theorem dX6_doubled_48 : decode cX6_doubled 48 = .ok (.iadd, 1) := by decide +kernel
theorem dX6_doubled_49 : decode cX6_doubled 49 = .ok (.iload 4, 2) := by decide +kernel
theorem dX6_doubled_51 : decode cX6_doubled 51 = .ok (.iastore, 1) := by decide +kernel
theorem dX6_doubled_52 : decode cX6_doubled 52 = .ok (.iload 5, 2) := by decide +kernel
theorem dX6_doubled_54 : decode cX6_doubled 54 = .ok (.iload_n 1, 1) := by decide +kernel
theorem dX6_doubled_55 : decode cX6_doubled 55 = .ok (.if_icmp .le 7, 3) := by decide +kernel
theorem dX6_doubled_58 : decode cX6_doubled 58 = .ok (.iload_n 3, 1) := by decide +kernel
theorem dX6_doubled_59 : decode cX6_doubled 59 = .ok (.goto 4, 3) := by decide +kernel
theorem dX6_doubled_62 : decode cX6_doubled 62 = .ok (.iload_n 2, 1) := by decide +kernel
theorem dX6_doubled_63 : decode cX6_doubled 63 = .ok (.istore_n 2, 1) := by decide +kernel
theorem dX6_doubled_64 : decode cX6_doubled 64 = .ok (.iload 5, 2) := by decide +kernel
theorem dX6_doubled_66 : decode cX6_doubled 66 = .ok (.iload_n 1, 1) := by decide +kernel
theorem dX6_doubled_67 : decode cX6_doubled 67 = .ok (.if_icmp .le 8, 3) := by decide +kernel
theorem dX6_doubled_70 : decode cX6_doubled 70 = .ok (.iload 5, 2) := by decide +kernel
theorem dX6_doubled_72 : decode cX6_doubled 72 = .ok (.goto 4, 3) := by decide +kernel
theorem dX6_doubled_75 : decode cX6_doubled 75 = .ok (.iload_n 1, 1) := by decide +kernel
theorem dX6_doubled_76 : decode cX6_doubled 76 = .ok (.istore_n 1, 1) := by decide +kernel
theorem dX6_doubled_77 : decode cX6_doubled 77 = .ok (.iinc 3 1, 3) := by decide +kernel
theorem dX6_doubled_80 : decode cX6_doubled 80 = .ok (.goto (-71), 3) := by decide +kernel
theorem dX6_doubled_83 : decode cX6_doubled 83 = .ok (.iload_n 2, 1) := by decide +kernel
theorem dX6_doubled_84 : decode cX6_doubled 84 = .ok (.ireturn, 1) := by decide +kernel
set_option maxRecDepth 20000 in
theorem ggX6_doubt_X6_in : GoodIn wsX6_doubt wsX6_in := goodIn_r _ [5] (by decide +kernel) (by decide +kernel)
set_option maxRecDepth 20000 in
theorem gX6_doubt_X6_in : GoodIn wsX6_doubt (va_wsS RX6 55 yX6_in wsX6_in) := goodIn_app (goodIn_of _ (by decide +kernel)) ggX6_doubt_X6_in
set_option maxRecDepth 20000 in
theorem ggX6_doubt_X6_bad : GoodIn wsX6_doubt wsX6_bad := goodIn_r _ [9, 10, 17, 18, 19, 20, 21, 22, 23, 24, 25, 26, 27, 28, 29, 30, 31, 32, 33, 34, 35] (by decide +kernel) (by decide +kernel)
set_option maxRecDepth 20000 in
theorem gX6_doubt_X6_bad : GoodIn wsX6_doubt (wsV RX6 70 RX6 yX6_bad wsX6_bad) := goodIn_app (goodIn_of _ (by decide +kernel)) ggX6_doubt_X6_bad
set_option maxRecDepth 20000 in
theorem ggX6_doubt_X6_tell : GoodIn wsX6_doubt wsX6_tell := goodIn_r _ [14, 15, 16, 17, 18, 19, 20, 21, 22, 23, 24, 25, 26, 27, 28, 29, 30, 31, 32, 33, 34, 35] (by decide +kernel) (by decide +kernel)
set_option maxRecDepth 20000 in
theorem gX6_doubt_X6_tell : GoodIn wsX6_doubt (wsV RX6 192 RX6 yX6_tell wsX6_tell) := goodIn_app (goodIn_of _ (by decide +kernel)) ggX6_doubt_X6_tell
theorem dX6_doubt_0 : decode cX6_doubt 0 = .ok (.iload_n 1, 1) := by decide +kernel
theorem dX6_doubt_1 : decode cX6_doubt 1 = .ok (.i2l, 1) := by decide +kernel
theorem dX6_doubt_2 : decode cX6_doubt 2 = .ok (.lconst 0, 1) := by decide +kernel
theorem dX6_doubt_3 : decode cX6_doubt 3 = .ok (.ldc2_w 201, 3) := by decide +kernel
theorem dX6_doubt_6 : decode cX6_doubt 6 = .ok (.invokestatic 55, 3) := by decide +kernel
theorem dX6_doubt_9 : decode cX6_doubt 9 = .ok (.ifCond .eq 15, 3) := by decide +kernel
theorem dX6_doubt_12 : decode cX6_doubt 12 = .ok (.iload_n 2, 1) := by decide +kernel
theorem dX6_doubt_13 : decode cX6_doubt 13 = .ok (.i2l, 1) := by decide +kernel
theorem dX6_doubt_14 : decode cX6_doubt 14 = .ok (.lconst 0, 1) := by decide +kernel
theorem dX6_doubt_15 : decode cX6_doubt 15 = .ok (.ldc2_w 201, 3) := by decide +kernel
theorem dX6_doubt_18 : decode cX6_doubt 18 = .ok (.invokestatic 55, 3) := by decide +kernel
theorem dX6_doubt_21 : decode cX6_doubt 21 = .ok (.ifCond .ne 10, 3) := by decide +kernel
theorem dX6_doubt_24 : decode cX6_doubt 24 = .ok (.aload_n 0, 1) := by decide +kernel
theorem dX6_doubt_25 : decode cX6_doubt 25 = .ok (.bipush (-2), 2) := by decide +kernel
theorem dX6_doubt_27 : decode cX6_doubt 27 = .ok (.invokevirtual 70, 3) := by decide +kernel
theorem dX6_doubt_30 : decode cX6_doubt 30 = .ok (.ireturn, 1) := by decide +kernel
theorem dX6_doubt_31 : decode cX6_doubt 31 = .ok (.bipush 100, 2) := by decide +kernel
theorem dX6_doubt_33 : decode cX6_doubt 33 = .ok (.iload_n 1, 1) := by decide +kernel
theorem dX6_doubt_34 : decode cX6_doubt 34 = .ok (.imul, 1) := by decide +kernel
theorem dX6_doubt_35 : decode cX6_doubt 35 = .ok (.bipush 100, 2) := by decide +kernel
theorem dX6_doubt_37 : decode cX6_doubt 37 = .ok (.iload_n 2, 1) := by decide +kernel
theorem dX6_doubt_38 : decode cX6_doubt 38 = .ok (.imul, 1) := by decide +kernel
theorem dX6_doubt_39 : decode cX6_doubt 39 = .ok (.iadd, 1) := by decide +kernel
theorem dX6_doubt_40 : decode cX6_doubt 40 = .ok (.iload_n 1, 1) := by decide +kernel
theorem dX6_doubt_41 : decode cX6_doubt 41 = .ok (.iload_n 2, 1) := by decide +kernel
theorem dX6_doubt_42 : decode cX6_doubt 42 = .ok (.imul, 1) := by decide +kernel
theorem dX6_doubt_43 : decode cX6_doubt 43 = .ok (.isub, 1) := by decide +kernel
theorem dX6_doubt_44 : decode cX6_doubt 44 = .ok (.istore_n 3, 1) := by decide +kernel
theorem dX6_doubt_45 : decode cX6_doubt 45 = .ok (.iload_n 3, 1) := by decide +kernel
theorem dX6_doubt_46 : decode cX6_doubt 46 = .ok (.ifCond .ne 12, 3) := by decide +kernel
theorem dX6_doubt_49 : decode cX6_doubt 49 = .ok (.aload_n 0, 1) := by decide +kernel
theorem dX6_doubt_50 : decode cX6_doubt 50 = .ok (.lconst 0, 1) := by decide +kernel
theorem dX6_doubt_51 : decode cX6_doubt 51 = .ok (.lconst 1, 1) := by decide +kernel
theorem dX6_doubt_52 : decode cX6_doubt 52 = .ok (.invokevirtual 192, 3) := by decide +kernel
theorem dX6_doubt_55 : decode cX6_doubt 55 = .ok (.goto 15, 3) := by decide +kernel
theorem dX6_doubt_58 : decode cX6_doubt 58 = .ok (.aload_n 0, 1) := by decide +kernel
theorem dX6_doubt_59 : decode cX6_doubt 59 = .ok (.ldc2_w 201, 3) := by decide +kernel
theorem dX6_doubt_62 : decode cX6_doubt 62 = .ok (.iload_n 1, 1) := by decide +kernel
theorem dX6_doubt_63 : decode cX6_doubt 63 = .ok (.i2l, 1) := by decide +kernel
theorem dX6_doubt_64 : decode cX6_doubt 64 = .ok (.lmul, 1) := by decide +kernel
theorem dX6_doubt_65 : decode cX6_doubt 65 = .ok (.iload_n 3, 1) := by decide +kernel
theorem dX6_doubt_66 : decode cX6_doubt 66 = .ok (.i2l, 1) := by decide +kernel
theorem dX6_doubt_67 : decode cX6_doubt 67 = .ok (.invokevirtual 192, 3) := by decide +kernel
theorem dX6_doubt_70 : decode cX6_doubt 70 = .ok (.ireturn, 1) := by decide +kernel
set_option maxRecDepth 20000 in
theorem ggX6_type_X6_in : GoodIn wsX6_type wsX6_in := goodIn_r _ [8] (by decide +kernel) (by decide +kernel)
set_option maxRecDepth 20000 in
theorem gX6_type_X6_in : GoodIn wsX6_type (va_wsS RX6 55 yX6_in wsX6_in) := goodIn_app (goodIn_of _ (by decide +kernel)) ggX6_type_X6_in
set_option maxRecDepth 20000 in
theorem ggX6_type_X6_bad : GoodIn wsX6_type wsX6_bad := goodIn_r _ [12, 13, 18, 19, 20, 21, 22, 23, 24, 25, 26, 27, 28, 29, 30, 31, 32, 33, 34, 35, 36] (by decide +kernel) (by decide +kernel)
set_option maxRecDepth 20000 in
theorem gX6_type_X6_bad : GoodIn wsX6_type (wsV RX6 70 RX6 yX6_bad wsX6_bad) := goodIn_app (goodIn_of _ (by decide +kernel)) ggX6_type_X6_bad
set_option maxRecDepth 20000 in
theorem ggX6_type_X6_full : GoodIn wsX6_type wsX6_full := goodIn_r _ [17, 13, 18, 19, 20, 21, 22, 23, 24, 25, 26, 27, 28, 29, 30, 31, 32, 33, 34, 35, 36] (by decide +kernel) (by decide +kernel)
set_option maxRecDepth 20000 in
theorem gX6_type_X6_full : GoodIn wsX6_type (wsV RX6 97 RX6 yX6_full wsX6_full) := goodIn_app (goodIn_of _ (by decide +kernel)) ggX6_type_X6_full
theorem dX6_type_0 : decode cX6_type 0 = .ok (.iload_n 3, 1) := by decide +kernel
theorem dX6_type_1 : decode cX6_type 1 = .ok (.i2l, 1) := by decide +kernel
theorem dX6_type_2 : decode cX6_type 2 = .ok (.lconst 1, 1) := by decide +kernel
theorem dX6_type_3 : decode cX6_type 3 = .ok (.ldc2_w 203, 3) := by decide +kernel
theorem dX6_type_6 : decode cX6_type 6 = .ok (.invokestatic 55, 3) := by decide +kernel
theorem dX6_type_9 : decode cX6_type 9 = .ok (.ifCond .ne 10, 3) := by decide +kernel
theorem dX6_type_12 : decode cX6_type 12 = .ok (.aload_n 0, 1) := by decide +kernel
theorem dX6_type_13 : decode cX6_type 13 = .ok (.bipush (-2), 2) := by decide +kernel
theorem dX6_type_15 : decode cX6_type 15 = .ok (.invokevirtual 70, 3) := by decide +kernel
theorem dX6_type_18 : decode cX6_type 18 = .ok (.ireturn, 1) := by decide +kernel
theorem dX6_type_19 : decode cX6_type 19 = .ok (.aload_n 0, 1) := by decide +kernel
theorem dX6_type_20 : decode cX6_type 20 = .ok (.getfield 205, 3) := by decide +kernel
theorem dX6_type_23 : decode cX6_type 23 = .ok (.iload_n 3, 1) := by decide +kernel
theorem dX6_type_24 : decode cX6_type 24 = .ok (.iadd, 1) := by decide +kernel
theorem dX6_type_25 : decode cX6_type 25 = .ok (.sipush 200, 3) := by decide +kernel
theorem dX6_type_28 : decode cX6_type 28 = .ok (.if_icmp .le 8, 3) := by decide +kernel
theorem dX6_type_31 : decode cX6_type 31 = .ok (.aload_n 0, 1) := by decide +kernel
theorem dX6_type_32 : decode cX6_type 32 = .ok (.invokevirtual 97, 3) := by decide +kernel
theorem dX6_type_35 : decode cX6_type 35 = .ok (.ireturn, 1) := by decide +kernel
theorem dX6_type_36 : decode cX6_type 36 = .ok (.iload_n 3, 1) := by decide +kernel
theorem dX6_type_37 : decode cX6_type 37 = .ok (.iconst 1, 1) := by decide +kernel
theorem dX6_type_38 : decode cX6_type 38 = .ok (.isub, 1) := by decide +kernel
theorem dX6_type_39 : decode cX6_type 39 = .ok (.istore 4, 2) := by decide +kernel
theorem dX6_type_41 : decode cX6_type 41 = .ok (.iload 4, 2) := by decide +kernel
theorem dX6_type_43 : decode cX6_type 43 = .ok (.ifCond .lt 40, 3) := by decide +kernel
theorem dX6_type_46 : decode cX6_type 46 = .ok (.aload_n 0, 1) := by decide +kernel
theorem dX6_type_47 : decode cX6_type 47 = .ok (.getfield 42, 3) := by decide +kernel
theorem dX6_type_50 : decode cX6_type 50 = .ok (.aload_n 0, 1) := by decide +kernel
theorem dX6_type_51 : decode cX6_type 51 = .ok (.getfield 205, 3) := by decide +kernel
theorem dX6_type_54 : decode cX6_type 54 = .ok (.lload_n 1, 1) := by decide +kernel
theorem dX6_type_55 : decode cX6_type 55 = .ok (.bipush 8, 2) := by decide +kernel
theorem dX6_type_57 : decode cX6_type 57 = .ok (.iload 4, 2) := by decide +kernel
theorem dX6_type_59 : decode cX6_type 59 = .ok (.imul, 1) := by decide +kernel
theorem dX6_type_60 : decode cX6_type 60 = .ok (.lushr, 1) := by decide +kernel
theorem dX6_type_61 : decode cX6_type 61 = .ok (.ldc2_w 209, 3) := by decide +kernel
theorem dX6_type_64 : decode cX6_type 64 = .ok (.land, 1) := by decide +kernel
theorem dX6_type_65 : decode cX6_type 65 = .ok (.l2i, 1) := by decide +kernel
theorem dX6_type_66 : decode cX6_type 66 = .ok (.iastore, 1) := by decide +kernel
theorem dX6_type_67 : decode cX6_type 67 = .ok (.aload_n 0, 1) := by decide +kernel
theorem dX6_type_68 : decode cX6_type 68 = .ok (.dup, 1) := by decide +kernel
theorem dX6_type_69 : decode cX6_type 69 = .ok (.getfield 205, 3) := by decide +kernel
theorem dX6_type_72 : decode cX6_type 72 = .ok (.iconst 1, 1) := by decide +kernel
theorem dX6_type_73 : decode cX6_type 73 = .ok (.iadd, 1) := by decide +kernel
theorem dX6_type_74 : decode cX6_type 74 = .ok (.putfield 205, 3) := by decide +kernel
theorem dX6_type_77 : decode cX6_type 77 = .ok (.iinc 4 (-1), 3) := by decide +kernel
theorem dX6_type_80 : decode cX6_type 80 = .ok (.goto (-39), 3) := by decide +kernel
theorem dX6_type_83 : decode cX6_type 83 = .ok (.aload_n 0, 1) := by decide +kernel
theorem dX6_type_84 : decode cX6_type 84 = .ok (.getfield 205, 3) := by decide +kernel
theorem dX6_type_87 : decode cX6_type 87 = .ok (.ireturn, 1) := by decide +kernel
theorem dX6_clear_0 : decode cX6_clear 0 = .ok (.aload_n 0, 1) := by decide +kernel
theorem dX6_clear_1 : decode cX6_clear 1 = .ok (.getfield 205, 3) := by decide +kernel
theorem dX6_clear_4 : decode cX6_clear 4 = .ok (.istore_n 1, 1) := by decide +kernel
theorem dX6_clear_5 : decode cX6_clear 5 = .ok (.aload_n 0, 1) := by decide +kernel
theorem dX6_clear_6 : decode cX6_clear 6 = .ok (.iconst 0, 1) := by decide +kernel
theorem dX6_clear_7 : decode cX6_clear 7 = .ok (.putfield 205, 3) := by decide +kernel
theorem dX6_clear_10 : decode cX6_clear 10 = .ok (.iload_n 1, 1) := by decide +kernel
theorem dX6_clear_11 : decode cX6_clear 11 = .ok (.ireturn, 1) := by decide +kernel
set_option maxRecDepth 20000 in
theorem ggX6_isSmall_X6_in : GoodIn wsX6_isSmall wsX6_in := goodIn_r _ [6] (by decide +kernel) (by decide +kernel)
set_option maxRecDepth 20000 in
theorem gX6_isSmall_X6_in : GoodIn wsX6_isSmall (va_wsS RX6 55 yX6_in wsX6_in) := goodIn_app (goodIn_of _ (by decide +kernel)) ggX6_isSmall_X6_in
theorem dX6_isSmall_0 : decode cX6_isSmall 0 = .ok (.iload_n 0, 1) := by decide +kernel
theorem dX6_isSmall_1 : decode cX6_isSmall 1 = .ok (.i2l, 1) := by decide +kernel
theorem dX6_isSmall_2 : decode cX6_isSmall 2 = .ok (.ldc2_w 211, 3) := by decide +kernel
theorem dX6_isSmall_5 : decode cX6_isSmall 5 = .ok (.ldc2_w 213, 3) := by decide +kernel
theorem dX6_isSmall_8 : decode cX6_isSmall 8 = .ok (.invokestatic 55, 3) := by decide +kernel
theorem dX6_isSmall_11 : decode cX6_isSmall 11 = .ok (.ireturn, 1) := by decide +kernel
set_option maxRecDepth 20000 in
theorem ggX6_isFigure_X6_in : GoodIn wsX6_isFigure wsX6_in := goodIn_r _ [6] (by decide +kernel) (by decide +kernel)
set_option maxRecDepth 20000 in
theorem gX6_isFigure_X6_in : GoodIn wsX6_isFigure (va_wsS RX6 55 yX6_in wsX6_in) := goodIn_app (goodIn_of _ (by decide +kernel)) ggX6_isFigure_X6_in
theorem dX6_isFigure_0 : decode cX6_isFigure 0 = .ok (.iload_n 0, 1) := by decide +kernel
theorem dX6_isFigure_1 : decode cX6_isFigure 1 = .ok (.i2l, 1) := by decide +kernel
theorem dX6_isFigure_2 : decode cX6_isFigure 2 = .ok (.ldc2_w 215, 3) := by decide +kernel
theorem dX6_isFigure_5 : decode cX6_isFigure 5 = .ok (.ldc2_w 217, 3) := by decide +kernel
theorem dX6_isFigure_8 : decode cX6_isFigure 8 = .ok (.invokestatic 55, 3) := by decide +kernel
theorem dX6_isFigure_11 : decode cX6_isFigure 11 = .ok (.ireturn, 1) := by decide +kernel
set_option maxRecDepth 20000 in
theorem ggX6_look_X6_isSmall : GoodIn wsX6_look wsX6_isSmall := goodIn_r _ [10, 11, 12, 13, 14, 9, 15] (by decide +kernel) (by decide +kernel)
set_option maxRecDepth 20000 in
theorem gX6_look_X6_isSmall : GoodIn wsX6_look (va_wsS RX6 231 yX6_isSmall wsX6_isSmall) := goodIn_app (goodIn_of _ (by decide +kernel)) ggX6_look_X6_isSmall
set_option maxRecDepth 20000 in
theorem ggX6_look_X6_isFigure : GoodIn wsX6_look wsX6_isFigure := goodIn_r _ [18, 19, 20, 13, 14, 9, 15] (by decide +kernel) (by decide +kernel)
set_option maxRecDepth 20000 in
theorem gX6_look_X6_isFigure : GoodIn wsX6_look (va_wsS RX6 234 yX6_isFigure wsX6_isFigure) := goodIn_app (goodIn_of _ (by decide +kernel)) ggX6_look_X6_isFigure
theorem dX6_look_0 : decode cX6_look 0 = .ok (.aload_n 0, 1) := by decide +kernel
theorem dX6_look_1 : decode cX6_look 1 = .ok (.iload_n 1, 1) := by decide +kernel
theorem dX6_look_2 : decode cX6_look 2 = .ok (.putfield 219, 3) := by decide +kernel
theorem dX6_look_5 : decode cX6_look 5 = .ok (.aload_n 0, 1) := by decide +kernel
theorem dX6_look_6 : decode cX6_look 6 = .ok (.getfield 219, 3) := by decide +kernel
theorem dX6_look_9 : decode cX6_look 9 = .ok (.aload_n 0, 1) := by decide +kernel
theorem dX6_look_10 : decode cX6_look 10 = .ok (.getfield 205, 3) := by decide +kernel
theorem dX6_look_13 : decode cX6_look 13 = .ok (.if_icmp .ge 30, 3) := by decide +kernel
theorem dX6_look_16 : decode cX6_look 16 = .ok (.aload_n 0, 1) := by decide +kernel
theorem dX6_look_17 : decode cX6_look 17 = .ok (.getfield 42, 3) := by decide +kernel
theorem dX6_look_20 : decode cX6_look 20 = .ok (.aload_n 0, 1) := by decide +kernel
theorem dX6_look_21 : decode cX6_look 21 = .ok (.getfield 219, 3) := by decide +kernel
theorem dX6_look_24 : decode cX6_look 24 = .ok (.iaload, 1) := by decide +kernel
theorem dX6_look_25 : decode cX6_look 25 = .ok (.bipush 32, 2) := by decide +kernel
theorem dX6_look_27 : decode cX6_look 27 = .ok (.if_icmp .ne 16, 3) := by decide +kernel
theorem dX6_look_30 : decode cX6_look 30 = .ok (.aload_n 0, 1) := by decide +kernel
theorem dX6_look_31 : decode cX6_look 31 = .ok (.dup, 1) := by decide +kernel
theorem dX6_look_32 : decode cX6_look 32 = .ok (.getfield 219, 3) := by decide +kernel
theorem dX6_look_35 : decode cX6_look 35 = .ok (.iconst 1, 1) := by decide +kernel
theorem dX6_look_36 : decode cX6_look 36 = .ok (.iadd, 1) := by decide +kernel
theorem dX6_look_37 : decode cX6_look 37 = .ok (.putfield 219, 3) := by decide +kernel
theorem dX6_look_40 : decode cX6_look 40 = .ok (.goto (-35), 3) := by decide +kernel
theorem dX6_look_43 : decode cX6_look 43 = .ok (.aload_n 0, 1) := by decide +kernel
theorem dX6_look_44 : decode cX6_look 44 = .ok (.iconst 0, 1) := by decide +kernel
theorem dX6_look_45 : decode cX6_look 45 = .ok (.putfield 222, 3) := by decide +kernel
theorem dX6_look_48 : decode cX6_look 48 = .ok (.aload_n 0, 1) := by decide +kernel
theorem dX6_look_49 : decode cX6_look 49 = .ok (.iconst 0, 1) := by decide +kernel
theorem dX6_look_50 : decode cX6_look 50 = .ok (.putfield 225, 3) := by decide +kernel
theorem dX6_look_53 : decode cX6_look 53 = .ok (.aload_n 0, 1) := by decide +kernel
theorem dX6_look_54 : decode cX6_look 54 = .ok (.iconst 0, 1) := by decide +kernel
theorem dX6_look_55 : decode cX6_look 55 = .ok (.putfield 228, 3) := by decide +kernel
theorem dX6_look_58 : decode cX6_look 58 = .ok (.aload_n 0, 1) := by decide +kernel
theorem dX6_look_59 : decode cX6_look 59 = .ok (.getfield 219, 3) := by decide +kernel
theorem dX6_look_62 : decode cX6_look 62 = .ok (.aload_n 0, 1) := by decide +kernel
theorem dX6_look_63 : decode cX6_look 63 = .ok (.getfield 205, 3) := by decide +kernel
theorem dX6_look_66 : decode cX6_look 66 = .ok (.if_icmp .ne 4, 3) := by decide +kernel
theorem dX6_look_69 : decode cX6_look 69 = .ok (.return_, 1) := by decide +kernel
theorem dX6_look_70 : decode cX6_look 70 = .ok (.aload_n 0, 1) := by decide +kernel
theorem dX6_look_71 : decode cX6_look 71 = .ok (.getfield 42, 3) := by decide +kernel
theorem dX6_look_74 : decode cX6_look 74 = .ok (.aload_n 0, 1) := by decide +kernel
theorem dX6_look_75 : decode cX6_look 75 = .ok (.getfield 219, 3) := by decide +kernel
theorem dX6_look_78 : decode cX6_look 78 = .ok (.iaload, 1) := by decide +kernel
theorem dX6_look_79 : decode cX6_look 79 = .ok (.istore_n 2, 1) := by decide +kernel
theorem dX6_look_80 : decode cX6_look 80 = .ok (.aload_n 0, 1) := by decide +kernel
theorem dX6_look_81 : decode cX6_look 81 = .ok (.iload_n 2, 1) := by decide +kernel
theorem dX6_look_82 : decode cX6_look 82 = .ok (.invokestatic 231, 3) := by decide +kernel
theorem dX6_look_85 : decode cX6_look 85 = .ok (.ifCond .eq 7, 3) := by decide +kernel
theorem dX6_look_88 : decode cX6_look 88 = .ok (.iconst 1, 1) := by decide +kernel
theorem dX6_look_89 : decode cX6_look 89 = .ok (.goto 25, 3) := by decide +kernel
theorem dX6_look_92 : decode cX6_look 92 = .ok (.iload_n 2, 1) := by decide +kernel
theorem dX6_look_93 : decode cX6_look 93 = .ok (.invokestatic 234, 3) := by decide +kernel
theorem dX6_look_96 : decode cX6_look 96 = .ok (.ifCond .eq 7, 3) := by decide +kernel
theorem dX6_look_99 : decode cX6_look 99 = .ok (.iconst 2, 1) := by decide +kernel
theorem dX6_look_100 : decode cX6_look 100 = .ok (.goto 14, 3) := by decide +kernel
theorem dX6_look_103 : decode cX6_look 103 = .ok (.iload_n 2, 1) := by decide +kernel
theorem dX6_look_104 : decode cX6_look 104 = .ok (.bipush 59, 2) := by decide +kernel
theorem dX6_look_106 : decode cX6_look 106 = .ok (.if_icmp .ne 7, 3) := by decide +kernel
theorem dX6_look_109 : decode cX6_look 109 = .ok (.iconst 3, 1) := by decide +kernel
theorem dX6_look_110 : decode cX6_look 110 = .ok (.goto 4, 3) := by decide +kernel
theorem dX6_look_113 : decode cX6_look 113 = .ok (.iconst 4, 1) := by decide +kernel
theorem dX6_look_114 : decode cX6_look 114 = .ok (.putfield 225, 3) := by decide +kernel
theorem dX6_look_117 : decode cX6_look 117 = .ok (.aload_n 0, 1) := by decide +kernel
theorem dX6_look_118 : decode cX6_look 118 = .ok (.iconst 1, 1) := by decide +kernel
theorem dX6_look_119 : decode cX6_look 119 = .ok (.putfield 222, 3) := by decide +kernel
theorem dX6_look_122 : decode cX6_look 122 = .ok (.aload_n 0, 1) := by decide +kernel
theorem dX6_look_123 : decode cX6_look 123 = .ok (.getfield 225, 3) := by decide +kernel
theorem dX6_look_126 : decode cX6_look 126 = .ok (.iconst 3, 1) := by decide +kernel
theorem dX6_look_127 : decode cX6_look 127 = .ok (.if_icmp .ge 7, 3) := by decide +kernel
theorem dX6_look_130 : decode cX6_look 130 = .ok (.iconst 1, 1) := by decide +kernel
theorem dX6_look_131 : decode cX6_look 131 = .ok (.goto 4, 3) := by decide +kernel
theorem dX6_look_134 : decode cX6_look 134 = .ok (.iconst 0, 1) := by decide +kernel
theorem dX6_look_135 : decode cX6_look 135 = .ok (.istore_n 3, 1) := by decide +kernel
theorem dX6_look_136 : decode cX6_look 136 = .ok (.iload_n 3, 1) := by decide +kernel
theorem dX6_look_137 : decode cX6_look 137 = .ok (.ifCond .eq 78, 3) := by decide +kernel
theorem dX6_look_140 : decode cX6_look 140 = .ok (.aload_n 0, 1) := by decide +kernel
theorem dX6_look_141 : decode cX6_look 141 = .ok (.getfield 219, 3) := by decide +kernel
theorem dX6_look_144 : decode cX6_look 144 = .ok (.aload_n 0, 1) := by decide +kernel
theorem dX6_look_145 : decode cX6_look 145 = .ok (.getfield 222, 3) := by decide +kernel
theorem dX6_look_148 : decode cX6_look 148 = .ok (.iadd, 1) := by decide +kernel
theorem dX6_look_149 : decode cX6_look 149 = .ok (.aload_n 0, 1) := by decide +kernel
theorem dX6_look_150 : decode cX6_look 150 = .ok (.getfield 205, 3) := by decide +kernel
theorem dX6_look_153 : decode cX6_look 153 = .ok (.if_icmp .ge 62, 3) := by decide +kernel
theorem dX6_look_156 : decode cX6_look 156 = .ok (.aload_n 0, 1) := by decide +kernel
theorem dX6_look_157 : decode cX6_look 157 = .ok (.getfield 42, 3) := by decide +kernel
theorem dX6_look_160 : decode cX6_look 160 = .ok (.aload_n 0, 1) := by decide +kernel
theorem dX6_look_161 : decode cX6_look 161 = .ok (.getfield 219, 3) := by decide +kernel
theorem dX6_look_164 : decode cX6_look 164 = .ok (.aload_n 0, 1) := by decide +kernel
theorem dX6_look_165 : decode cX6_look 165 = .ok (.getfield 222, 3) := by decide +kernel
theorem dX6_look_168 : decode cX6_look 168 = .ok (.iadd, 1) := by decide +kernel
theorem dX6_look_169 : decode cX6_look 169 = .ok (.iaload, 1) := by decide +kernel
theorem dX6_look_170 : decode cX6_look 170 = .ok (.istore 4, 2) := by decide +kernel
theorem dX6_look_172 : decode cX6_look 172 = .ok (.aload_n 0, 1) := by decide +kernel
theorem dX6_look_173 : decode cX6_look 173 = .ok (.getfield 225, 3) := by decide +kernel
theorem dX6_look_176 : decode cX6_look 176 = .ok (.iconst 1, 1) := by decide +kernel
theorem dX6_look_177 : decode cX6_look 177 = .ok (.if_icmp .ne 11, 3) := by decide +kernel
theorem dX6_look_180 : decode cX6_look 180 = .ok (.iload 4, 2) := by decide +kernel
theorem dX6_look_182 : decode cX6_look 182 = .ok (.invokestatic 231, 3) := by decide +kernel
theorem dX6_look_185 : decode cX6_look 185 = .ok (.goto 8, 3) := by decide +kernel
theorem dX6_look_188 : decode cX6_look 188 = .ok (.iload 4, 2) := by decide +kernel
theorem dX6_look_190 : decode cX6_look 190 = .ok (.invokestatic 234, 3) := by decide +kernel
theorem dX6_look_193 : decode cX6_look 193 = .ok (.istore_n 3, 1) := by decide +kernel
theorem dX6_look_194 : decode cX6_look 194 = .ok (.aload_n 0, 1) := by decide +kernel
theorem dX6_look_195 : decode cX6_look 195 = .ok (.dup, 1) := by decide +kernel
theorem dX6_look_196 : decode cX6_look 196 = .ok (.getfield 222, 3) := by decide +kernel
theorem dX6_look_199 : decode cX6_look 199 = .ok (.iload_n 3, 1) := by decide +kernel
theorem dX6_look_200 : decode cX6_look 200 = .ok (.ifCond .eq 7, 3) := by decide +kernel
theorem dX6_look_203 : decode cX6_look 203 = .ok (.iconst 1, 1) := by decide +kernel
theorem dX6_look_204 : decode cX6_look 204 = .ok (.goto 4, 3) := by decide +kernel
theorem dX6_look_207 : decode cX6_look 207 = .ok (.iconst 0, 1) := by decide +kernel
theorem dX6_look_208 : decode cX6_look 208 = .ok (.iadd, 1) := by decide +kernel
theorem dX6_look_209 : decode cX6_look 209 = .ok (.putfield 222, 3) := by decide +kernel
theorem dX6_look_212 : decode cX6_look 212 = .ok (.goto (-76), 3) := by decide +kernel
theorem dX6_look_215 : decode cX6_look 215 = .ok (.iconst 0, 1) := by decide +kernel
theorem dX6_look_216 : decode cX6_look 216 = .ok (.istore 4, 2) := by decide +kernel
theorem dX6_look_218 : decode cX6_look 218 = .ok (.iload 4, 2) := by decide +kernel
theorem dX6_look_220 : decode cX6_look 220 = .ok (.aload_n 0, 1) := by decide +kernel
theorem dX6_look_221 : decode cX6_look 221 = .ok (.getfield 222, 3) := by decide +kernel
theorem dX6_look_224 : decode cX6_look 224 = .ok (.if_icmp .ge 50, 3) := by decide +kernel
theorem dX6_look_227 : decode cX6_look 227 = .ok (.iload 4, 2) := by decide +kernel
theorem dX6_look_229 : decode cX6_look 229 = .ok (.iconst 2, 1) := by decide +kernel
theorem dX6_look_230 : decode cX6_look 230 = .ok (.if_icmp .ge 44, 3) := by decide +kernel
theorem dX6_look_233 : decode cX6_look 233 = .ok (.aload_n 0, 1) := by decide +kernel
theorem dX6_look_234 : decode cX6_look 234 = .ok (.getfield 225, 3) := by decide +kernel
theorem dX6_look_237 : decode cX6_look 237 = .ok (.iconst 2, 1) := by decide +kernel
theorem dX6_look_238 : decode cX6_look 238 = .ok (.if_icmp .ne 36, 3) := by decide +kernel
theorem dX6_look_241 : decode cX6_look 241 = .ok (.aload_n 0, 1) := by decide +kernel
theorem dX6_look_242 : decode cX6_look 242 = .ok (.bipush 10, 2) := by decide +kernel
theorem dX6_look_244 : decode cX6_look 244 = .ok (.aload_n 0, 1) := by decide +kernel
theorem dX6_look_245 : decode cX6_look 245 = .ok (.getfield 228, 3) := by decide +kernel
theorem dX6_look_248 : decode cX6_look 248 = .ok (.imul, 1) := by decide +kernel
theorem dX6_look_249 : decode cX6_look 249 = .ok (.aload_n 0, 1) := by decide +kernel
theorem dX6_look_250 : decode cX6_look 250 = .ok (.getfield 42, 3) := by decide +kernel
theorem dX6_look_253 : decode cX6_look 253 = .ok (.aload_n 0, 1) := by decide +kernel
theorem dX6_look_254 : decode cX6_look 254 = .ok (.getfield 219, 3) := by decide +kernel
theorem dX6_look_257 : decode cX6_look 257 = .ok (.iload 4, 2) := by decide +kernel
theorem dX6_look_259 : decode cX6_look 259 = .ok (.iadd, 1) := by decide +kernel
theorem dX6_look_260 : decode cX6_look 260 = .ok (.iaload, 1) := by decide +kernel
theorem dX6_look_261 : decode cX6_look 261 = .ok (.iadd, 1) := by decide +kernel
theorem dX6_look_262 : decode cX6_look 262 = .ok (.bipush 48, 2) := by decide +kernel
theorem dX6_look_264 : decode cX6_look 264 = .ok (.isub, 1) := by decide +kernel
theorem dX6_look_265 : decode cX6_look 265 = .ok (.putfield 228, 3) := by decide +kernel
theorem dX6_look_268 : decode cX6_look 268 = .ok (.iinc 4 1, 3) := by decide +kernel
theorem dX6_look_271 : decode cX6_look 271 = .ok (.goto (-53), 3) := by decide +kernel
theorem dX6_look_274 : decode cX6_look 274 = .ok (.aload_n 0, 1) := by decide +kernel
theorem dX6_look_275 : decode cX6_look 275 = .ok (.aload_n 0, 1) := by decide +kernel
theorem dX6_look_276 : decode cX6_look 276 = .ok (.getfield 225, 3) := by decide +kernel
theorem dX6_look_279 : decode cX6_look 279 = .ok (.iconst 2, 1) := by decide +kernel
theorem dX6_look_280 : decode cX6_look 280 = .ok (.if_icmp .ne 15, 3) := by decide +kernel
theorem dX6_look_283 : decode cX6_look 283 = .ok (.aload_n 0, 1) := by decide +kernel
theorem dX6_look_284 : decode cX6_look 284 = .ok (.getfield 222, 3) := by decide +kernel
theorem dX6_look_287 : decode cX6_look 287 = .ok (.iconst 2, 1) := by decide +kernel
theorem dX6_look_288 : decode cX6_look 288 = .ok (.if_icmp .le 7, 3) := by decide +kernel
theorem dX6_look_291 : decode cX6_look 291 = .ok (.iconst 4, 1) := by decide +kernel
theorem dX6_look_292 : decode cX6_look 292 = .ok (.goto 7, 3) := by decide +kernel
theorem dX6_look_295 : decode cX6_look 295 = .ok (.aload_n 0, 1) := by decide +kernel
theorem dX6_look_296 : decode cX6_look 296 = .ok (.getfield 225, 3) := by decide +kernel
theorem dX6_look_299 : decode cX6_look 299 = .ok (.putfield 225, 3) := by decide +kernel
theorem dX6_look_302 : decode cX6_look 302 = .ok (.return_, 1) := by decide +kernel
set_option maxRecDepth 20000 in
theorem ggX6_goOn_X6_look : GoodIn wsX6_goOn wsX6_look := goodIn_r _ [7, 1, 8, 9, 2, 10, 11, 12, 13, 6, 14, 15, 16, 17, 18, 19, 20, 21, 22, 23, 24, 25, 26, 27, 28, 29, 30, 31, 32, 33, 34, 35, 36, 37, 38, 39, 40, 41, 42, 43] (by decide +kernel) (by decide +kernel)
set_option maxRecDepth 20000 in
theorem gX6_goOn_X6_look : GoodIn wsX6_goOn (wsV RX6 237 RX6 yX6_look wsX6_look) := goodIn_app (goodIn_of _ (by decide +kernel)) ggX6_goOn_X6_look
theorem dX6_goOn_0 : decode cX6_goOn 0 = .ok (.aload_n 0, 1) := by decide +kernel
theorem dX6_goOn_1 : decode cX6_goOn 1 = .ok (.aload_n 0, 1) := by decide +kernel
theorem dX6_goOn_2 : decode cX6_goOn 2 = .ok (.getfield 219, 3) := by decide +kernel
theorem dX6_goOn_5 : decode cX6_goOn 5 = .ok (.aload_n 0, 1) := by decide +kernel
theorem dX6_goOn_6 : decode cX6_goOn 6 = .ok (.getfield 222, 3) := by decide +kernel
theorem dX6_goOn_9 : decode cX6_goOn 9 = .ok (.iadd, 1) := by decide +kernel
theorem dX6_goOn_10 : decode cX6_goOn 10 = .ok (.invokevirtual 237, 3) := by decide +kernel
theorem dX6_goOn_13 : decode cX6_goOn 13 = .ok (.return_, 1) := by decide +kernel
theorem dX6_isWord_0 : decode cX6_isWord 0 = .ok (.iload 5, 2) := by decide +kernel
theorem dX6_isWord_2 : decode cX6_isWord 2 = .ok (.ifCond .ne 7, 3) := by decide +kernel
theorem dX6_isWord_5 : decode cX6_isWord 5 = .ok (.iconst 4, 1) := by decide +kernel
theorem dX6_isWord_6 : decode cX6_isWord 6 = .ok (.goto 4, 3) := by decide +kernel
theorem dX6_isWord_9 : decode cX6_isWord 9 = .ok (.iconst 5, 1) := by decide +kernel
theorem dX6_isWord_10 : decode cX6_isWord 10 = .ok (.istore 6, 2) := by decide +kernel
theorem dX6_isWord_12 : decode cX6_isWord 12 = .ok (.aload_n 0, 1) := by decide +kernel
theorem dX6_isWord_13 : decode cX6_isWord 13 = .ok (.getfield 225, 3) := by decide +kernel
theorem dX6_isWord_16 : decode cX6_isWord 16 = .ok (.iconst 1, 1) := by decide +kernel
theorem dX6_isWord_17 : decode cX6_isWord 17 = .ok (.if_icmp .ne 16, 3) := by decide +kernel
theorem dX6_isWord_20 : decode cX6_isWord 20 = .ok (.aload_n 0, 1) := by decide +kernel
theorem dX6_isWord_21 : decode cX6_isWord 21 = .ok (.getfield 222, 3) := by decide +kernel
theorem dX6_isWord_24 : decode cX6_isWord 24 = .ok (.iload 6, 2) := by decide +kernel
theorem dX6_isWord_26 : decode cX6_isWord 26 = .ok (.if_icmp .ne 7, 3) := by decide +kernel
theorem dX6_isWord_29 : decode cX6_isWord 29 = .ok (.iconst 1, 1) := by decide +kernel
theorem dX6_isWord_30 : decode cX6_isWord 30 = .ok (.goto 4, 3) := by decide +kernel
theorem dX6_isWord_33 : decode cX6_isWord 33 = .ok (.iconst 0, 1) := by decide +kernel
theorem dX6_isWord_34 : decode cX6_isWord 34 = .ok (.istore 7, 2) := by decide +kernel
theorem dX6_isWord_36 : decode cX6_isWord 36 = .ok (.iconst 0, 1) := by decide +kernel
theorem dX6_isWord_37 : decode cX6_isWord 37 = .ok (.istore 8, 2) := by decide +kernel
theorem dX6_isWord_39 : decode cX6_isWord 39 = .ok (.iload 8, 2) := by decide +kernel
theorem dX6_isWord_41 : decode cX6_isWord 41 = .ok (.iload 6, 2) := by decide +kernel
theorem dX6_isWord_43 : decode cX6_isWord 43 = .ok (.if_icmp .ge 78, 3) := by decide +kernel
theorem dX6_isWord_46 : decode cX6_isWord 46 = .ok (.iload 7, 2) := by decide +kernel
theorem dX6_isWord_48 : decode cX6_isWord 48 = .ok (.ifCond .eq 73, 3) := by decide +kernel
theorem dX6_isWord_51 : decode cX6_isWord 51 = .ok (.aload_n 0, 1) := by decide +kernel
theorem dX6_isWord_52 : decode cX6_isWord 52 = .ok (.getfield 42, 3) := by decide +kernel
theorem dX6_isWord_55 : decode cX6_isWord 55 = .ok (.aload_n 0, 1) := by decide +kernel
theorem dX6_isWord_56 : decode cX6_isWord 56 = .ok (.getfield 219, 3) := by decide +kernel
theorem dX6_isWord_59 : decode cX6_isWord 59 = .ok (.iload 8, 2) := by decide +kernel
theorem dX6_isWord_61 : decode cX6_isWord 61 = .ok (.iadd, 1) := by decide +kernel
theorem dX6_isWord_62 : decode cX6_isWord 62 = .ok (.iaload, 1) := by decide +kernel
theorem dX6_isWord_63 : decode cX6_isWord 63 = .ok (.iload 8, 2) := by decide +kernel
theorem dX6_isWord_65 : decode cX6_isWord 65 = .ok (.ifCond .ne 7, 3) := by decide +kernel
theorem dX6_isWord_68 : decode cX6_isWord 68 = .ok (.iload_n 1, 1) := by decide +kernel
theorem dX6_isWord_69 : decode cX6_isWord 69 = .ok (.goto 36, 3) := by decide +kernel
theorem dX6_isWord_72 : decode cX6_isWord 72 = .ok (.iload 8, 2) := by decide +kernel
theorem dX6_isWord_74 : decode cX6_isWord 74 = .ok (.iconst 1, 1) := by decide +kernel
theorem dX6_isWord_75 : decode cX6_isWord 75 = .ok (.if_icmp .ne 7, 3) := by decide +kernel
theorem dX6_isWord_78 : decode cX6_isWord 78 = .ok (.iload_n 2, 1) := by decide +kernel
theorem dX6_isWord_79 : decode cX6_isWord 79 = .ok (.goto 26, 3) := by decide +kernel
theorem dX6_isWord_82 : decode cX6_isWord 82 = .ok (.iload 8, 2) := by decide +kernel
theorem dX6_isWord_84 : decode cX6_isWord 84 = .ok (.iconst 2, 1) := by decide +kernel
theorem dX6_isWord_85 : decode cX6_isWord 85 = .ok (.if_icmp .ne 7, 3) := by decide +kernel
theorem dX6_isWord_88 : decode cX6_isWord 88 = .ok (.iload_n 3, 1) := by decide +kernel
theorem dX6_isWord_89 : decode cX6_isWord 89 = .ok (.goto 16, 3) := by decide +kernel
theorem dX6_isWord_92 : decode cX6_isWord 92 = .ok (.iload 8, 2) := by decide +kernel
theorem dX6_isWord_94 : decode cX6_isWord 94 = .ok (.iconst 3, 1) := by decide +kernel
theorem dX6_isWord_95 : decode cX6_isWord 95 = .ok (.if_icmp .ne 8, 3) := by decide +kernel
theorem dX6_isWord_98 : decode cX6_isWord 98 = .ok (.iload 4, 2) := by decide +kernel
theorem dX6_isWord_100 : decode cX6_isWord 100 = .ok (.goto 5, 3) := by decide +kernel
theorem dX6_isWord_103 : decode cX6_isWord 103 = .ok (.iload 5, 2) := by decide +kernel
theorem dX6_isWord_105 : decode cX6_isWord 105 = .ok (.if_icmp .ne 7, 3) := by decide +kernel
theorem dX6_isWord_108 : decode cX6_isWord 108 = .ok (.iconst 1, 1) := by decide +kernel
theorem dX6_isWord_109 : decode cX6_isWord 109 = .ok (.goto 4, 3) := by decide +kernel
theorem dX6_isWord_112 : decode cX6_isWord 112 = .ok (.iconst 0, 1) := by decide +kernel
theorem dX6_isWord_113 : decode cX6_isWord 113 = .ok (.istore 7, 2) := by decide +kernel
theorem dX6_isWord_115 : decode cX6_isWord 115 = .ok (.iinc 8 1, 3) := by decide +kernel
theorem dX6_isWord_118 : decode cX6_isWord 118 = .ok (.goto (-79), 3) := by decide +kernel
theorem dX6_isWord_121 : decode cX6_isWord 121 = .ok (.iload 7, 2) := by decide +kernel
theorem dX6_isWord_123 : decode cX6_isWord 123 = .ok (.ireturn, 1) := by decide +kernel
set_option maxRecDepth 20000 in
theorem ggX6_takes_X6_in : GoodIn wsX6_takes wsX6_in := goodIn_r _ [7] (by decide +kernel) (by decide +kernel)
set_option maxRecDepth 20000 in
theorem gX6_takes_X6_in : GoodIn wsX6_takes (va_wsS RX6 55 yX6_in wsX6_in) := goodIn_app (goodIn_of _ (by decide +kernel)) ggX6_takes_X6_in
set_option maxRecDepth 20000 in
theorem ggX6_takes_X6_goOn : GoodIn wsX6_takes wsX6_goOn := goodIn_r _ [11, 12, 13, 14, 15, 16, 6, 17, 18, 19, 1, 2, 20, 21, 22, 23, 24, 4, 5, 7, 25, 26, 27, 28, 29, 30, 31, 32, 33, 34, 35, 36, 37, 38, 39, 40, 41, 42, 43, 44, 45, 46, 47, 48] (by decide +kernel) (by decide +kernel)
set_option maxRecDepth 20000 in
theorem gX6_takes_X6_goOn : GoodIn wsX6_takes (wsV RX6 241 RX6 yX6_goOn wsX6_goOn) := goodIn_app (goodIn_of _ (by decide +kernel)) ggX6_takes_X6_goOn
theorem dX6_takes_0 : decode cX6_takes 0 = .ok (.aload_n 0, 1) := by decide +kernel
theorem dX6_takes_1 : decode cX6_takes 1 = .ok (.getfield 225, 3) := by decide +kernel
theorem dX6_takes_4 : decode cX6_takes 4 = .ok (.iconst 2, 1) := by decide +kernel
theorem dX6_takes_5 : decode cX6_takes 5 = .ok (.if_icmp .ne 18, 3) := by decide +kernel
theorem dX6_takes_8 : decode cX6_takes 8 = .ok (.aload_n 0, 1) := by decide +kernel
theorem dX6_takes_9 : decode cX6_takes 9 = .ok (.getfield 228, 3) := by decide +kernel
theorem dX6_takes_12 : decode cX6_takes 12 = .ok (.i2l, 1) := by decide +kernel
theorem dX6_takes_13 : decode cX6_takes 13 = .ok (.iload_n 2, 1) := by decide +kernel
theorem dX6_takes_14 : decode cX6_takes 14 = .ok (.i2l, 1) := by decide +kernel
theorem dX6_takes_15 : decode cX6_takes 15 = .ok (.iload_n 3, 1) := by decide +kernel
theorem dX6_takes_16 : decode cX6_takes 16 = .ok (.i2l, 1) := by decide +kernel
theorem dX6_takes_17 : decode cX6_takes 17 = .ok (.invokestatic 55, 3) := by decide +kernel
theorem dX6_takes_20 : decode cX6_takes 20 = .ok (.ifCond .ne 5, 3) := by decide +kernel
theorem dX6_takes_23 : decode cX6_takes 23 = .ok (.iconst 0, 1) := by decide +kernel
theorem dX6_takes_24 : decode cX6_takes 24 = .ok (.ireturn, 1) := by decide +kernel
theorem dX6_takes_25 : decode cX6_takes 25 = .ok (.aload_n 0, 1) := by decide +kernel
theorem dX6_takes_26 : decode cX6_takes 26 = .ok (.getfield 48, 3) := by decide +kernel
theorem dX6_takes_29 : decode cX6_takes 29 = .ok (.iload_n 1, 1) := by decide +kernel
theorem dX6_takes_30 : decode cX6_takes 30 = .ok (.aload_n 0, 1) := by decide +kernel
theorem dX6_takes_31 : decode cX6_takes 31 = .ok (.getfield 228, 3) := by decide +kernel
theorem dX6_takes_34 : decode cX6_takes 34 = .ok (.iastore, 1) := by decide +kernel
theorem dX6_takes_35 : decode cX6_takes 35 = .ok (.aload_n 0, 1) := by decide +kernel
theorem dX6_takes_36 : decode cX6_takes 36 = .ok (.invokevirtual 241, 3) := by decide +kernel
theorem dX6_takes_39 : decode cX6_takes 39 = .ok (.iconst 1, 1) := by decide +kernel
theorem dX6_takes_40 : decode cX6_takes 40 = .ok (.ireturn, 1) := by decide +kernel
set_option maxRecDepth 20000 in
theorem ggX6_readsFirst_X6_isWord : GoodIn wsX6_readsFirst wsX6_isWord := goodIn_r _ [8, 3, 9, 10, 11, 42, 43, 44, 45, 46, 47, 48, 49, 50, 51, 52, 53, 54, 55, 56, 57, 58, 59, 60] (by decide +kernel) (by decide +kernel)
set_option maxRecDepth 20000 in
theorem gX6_readsFirst_X6_isWord : GoodIn wsX6_readsFirst (wsV RX6 244 RX6 yX6_isWord wsX6_isWord) := goodIn_app (goodIn_of _ (by decide +kernel)) ggX6_readsFirst_X6_isWord
set_option maxRecDepth 20000 in
theorem ggX6_readsFirst_X6_goOn : GoodIn wsX6_readsFirst wsX6_goOn := goodIn_r _ [15, 11, 9, 16, 17, 18, 7, 19, 20, 10, 3, 21, 22, 23, 24, 25, 26, 27, 28, 29, 30, 31, 32, 33, 34, 42, 43, 44, 45, 46, 47, 48, 49, 50, 51, 52, 53, 54, 55, 56, 57, 58, 59, 60] (by decide +kernel) (by decide +kernel)
set_option maxRecDepth 20000 in
theorem gX6_readsFirst_X6_goOn : GoodIn wsX6_readsFirst (wsV RX6 241 RX6 yX6_goOn wsX6_goOn) := goodIn_app (goodIn_of _ (by decide +kernel)) ggX6_readsFirst_X6_goOn
set_option maxRecDepth 20000 in
theorem ggX6_readsFirst_X6_takes : GoodIn wsX6_readsFirst wsX6_takes := goodIn_r _ [38, 3, 21, 2, 27, 28, 7, 29, 12, 13, 14, 15, 11, 9, 16, 17, 18, 19, 20, 10, 22, 23, 24, 25, 26, 30, 31, 32, 33, 34, 42, 43, 44, 45, 46, 47, 48, 49, 50, 51, 52, 53, 54, 55, 56, 57, 58, 59, 60] (by decide +kernel) (by decide +kernel)
set_option maxRecDepth 20000 in
theorem gX6_readsFirst_X6_takes : GoodIn wsX6_readsFirst (wsV RX6 248 RX6 yX6_takes wsX6_takes) := goodIn_app (goodIn_of _ (by decide +kernel)) ggX6_readsFirst_X6_takes
set_option maxRecDepth 20000 in
theorem ggX6_readsFirst_X6_begin : GoodIn wsX6_readsFirst wsX6_begin := goodIn_r _ [41] (by decide +kernel) (by decide +kernel)
set_option maxRecDepth 20000 in
theorem gX6_readsFirst_X6_begin : GoodIn wsX6_readsFirst (va_wsS RX6 74 yX6_begin wsX6_begin) := goodIn_app (goodIn_of _ (by decide +kernel)) ggX6_readsFirst_X6_begin
theorem dX6_readsFirst_0 : decode cX6_readsFirst 0 = .ok (.aload_n 0, 1) := by decide +kernel
theorem dX6_readsFirst_1 : decode cX6_readsFirst 1 = .ok (.bipush 112, 2) := by decide +kernel
theorem dX6_readsFirst_3 : decode cX6_readsFirst 3 = .ok (.bipush 111, 2) := by decide +kernel
theorem dX6_readsFirst_5 : decode cX6_readsFirst 5 = .ok (.bipush 115, 2) := by decide +kernel
theorem dX6_readsFirst_7 : decode cX6_readsFirst 7 = .ok (.bipush 116, 2) := by decide +kernel
theorem dX6_readsFirst_9 : decode cX6_readsFirst 9 = .ok (.bipush 115, 2) := by decide +kernel
theorem dX6_readsFirst_11 : decode cX6_readsFirst 11 = .ok (.invokevirtual 244, 3) := by decide +kernel
theorem dX6_readsFirst_14 : decode cX6_readsFirst 14 = .ok (.ifCond .ne 5, 3) := by decide +kernel
theorem dX6_readsFirst_17 : decode cX6_readsFirst 17 = .ok (.iconst 0, 1) := by decide +kernel
theorem dX6_readsFirst_18 : decode cX6_readsFirst 18 = .ok (.ireturn, 1) := by decide +kernel
theorem dX6_readsFirst_19 : decode cX6_readsFirst 19 = .ok (.aload_n 0, 1) := by decide +kernel
theorem dX6_readsFirst_20 : decode cX6_readsFirst 20 = .ok (.invokevirtual 241, 3) := by decide +kernel
theorem dX6_readsFirst_23 : decode cX6_readsFirst 23 = .ok (.aload_n 0, 1) := by decide +kernel
theorem dX6_readsFirst_24 : decode cX6_readsFirst 24 = .ok (.iconst 0, 1) := by decide +kernel
theorem dX6_readsFirst_25 : decode cX6_readsFirst 25 = .ok (.iconst 2, 1) := by decide +kernel
theorem dX6_readsFirst_26 : decode cX6_readsFirst 26 = .ok (.bipush 9, 2) := by decide +kernel
theorem dX6_readsFirst_28 : decode cX6_readsFirst 28 = .ok (.invokevirtual 248, 3) := by decide +kernel
theorem dX6_readsFirst_31 : decode cX6_readsFirst 31 = .ok (.istore_n 1, 1) := by decide +kernel
theorem dX6_readsFirst_32 : decode cX6_readsFirst 32 = .ok (.aload_n 0, 1) := by decide +kernel
theorem dX6_readsFirst_33 : decode cX6_readsFirst 33 = .ok (.getfield 45, 3) := by decide +kernel
theorem dX6_readsFirst_36 : decode cX6_readsFirst 36 = .ok (.aload_n 0, 1) := by decide +kernel
theorem dX6_readsFirst_37 : decode cX6_readsFirst 37 = .ok (.getfield 48, 3) := by decide +kernel
theorem dX6_readsFirst_40 : decode cX6_readsFirst 40 = .ok (.iconst 0, 1) := by decide +kernel
theorem dX6_readsFirst_41 : decode cX6_readsFirst 41 = .ok (.iaload, 1) := by decide +kernel
theorem dX6_readsFirst_42 : decode cX6_readsFirst 42 = .ok (.invokestatic 74, 3) := by decide +kernel
theorem dX6_readsFirst_45 : decode cX6_readsFirst 45 = .ok (.iload_n 1, 1) := by decide +kernel
theorem dX6_readsFirst_46 : decode cX6_readsFirst 46 = .ok (.ifCond .eq 15, 3) := by decide +kernel
theorem dX6_readsFirst_49 : decode cX6_readsFirst 49 = .ok (.aload_n 0, 1) := by decide +kernel
theorem dX6_readsFirst_50 : decode cX6_readsFirst 50 = .ok (.getfield 225, 3) := by decide +kernel
theorem dX6_readsFirst_53 : decode cX6_readsFirst 53 = .ok (.iconst 3, 1) := by decide +kernel
theorem dX6_readsFirst_54 : decode cX6_readsFirst 54 = .ok (.if_icmp .ne 7, 3) := by decide +kernel
theorem dX6_readsFirst_57 : decode cX6_readsFirst 57 = .ok (.iconst 1, 1) := by decide +kernel
theorem dX6_readsFirst_58 : decode cX6_readsFirst 58 = .ok (.goto 4, 3) := by decide +kernel
theorem dX6_readsFirst_61 : decode cX6_readsFirst 61 = .ok (.iconst 0, 1) := by decide +kernel
theorem dX6_readsFirst_62 : decode cX6_readsFirst 62 = .ok (.ireturn, 1) := by decide +kernel
theorem dX6_lastWire_0 : decode cX6_lastWire 0 = .ok (.aload_n 0, 1) := by decide +kernel
theorem dX6_lastWire_1 : decode cX6_lastWire 1 = .ok (.getfield 45, 3) := by decide +kernel
theorem dX6_lastWire_4 : decode cX6_lastWire 4 = .ok (.iconst 0, 1) := by decide +kernel
theorem dX6_lastWire_5 : decode cX6_lastWire 5 = .ok (.iaload, 1) := by decide +kernel
theorem dX6_lastWire_6 : decode cX6_lastWire 6 = .ok (.iconst 2, 1) := by decide +kernel
theorem dX6_lastWire_7 : decode cX6_lastWire 7 = .ok (.isub, 1) := by decide +kernel
theorem dX6_lastWire_8 : decode cX6_lastWire 8 = .ok (.ireturn, 1) := by decide +kernel
set_option maxRecDepth 20000 in
theorem ggX6_readsWire_X6_goOn : GoodIn wsX6_readsWire wsX6_goOn := goodIn_r _ [7, 8, 9, 10, 11, 12, 6, 13, 14, 15, 16, 17, 18, 19, 20, 21, 22, 23, 24, 25, 26, 27, 28, 29, 30, 39, 40, 41, 42, 43, 44, 45, 46, 47, 48, 49, 50, 51, 52, 53, 54, 55, 56, 57] (by decide +kernel) (by decide +kernel)
set_option maxRecDepth 20000 in
theorem gX6_readsWire_X6_goOn : GoodIn wsX6_readsWire (wsV RX6 241 RX6 yX6_goOn wsX6_goOn) := goodIn_app (goodIn_of _ (by decide +kernel)) ggX6_readsWire_X6_goOn
set_option maxRecDepth 20000 in
theorem ggX6_readsWire_X6_lastWire : GoodIn wsX6_readsWire wsX6_lastWire := goodIn_r _ [34, 1, 39, 40, 41, 42, 43, 44, 45, 46, 47, 48, 49, 50, 51, 52, 53, 54, 55, 56, 57] (by decide +kernel) (by decide +kernel)
set_option maxRecDepth 20000 in
theorem gX6_readsWire_X6_lastWire : GoodIn wsX6_readsWire (wsV RX6 251 RX6 yX6_lastWire wsX6_lastWire) := goodIn_app (goodIn_of _ (by decide +kernel)) ggX6_readsWire_X6_lastWire
set_option maxRecDepth 20000 in
theorem ggX6_readsWire_X6_takes : GoodIn wsX6_readsWire wsX6_takes := goodIn_r _ [38, 16, 17, 2, 23, 24, 6, 25, 3, 4, 5, 7, 8, 9, 10, 11, 12, 13, 14, 15, 18, 19, 20, 21, 22, 26, 27, 28, 29, 30, 39, 40, 41, 42, 43, 44, 45, 46, 47, 48, 49, 50, 51, 52, 53, 54, 55, 56, 57] (by decide +kernel) (by decide +kernel)
set_option maxRecDepth 20000 in
theorem gX6_readsWire_X6_takes : GoodIn wsX6_readsWire (wsV RX6 248 RX6 yX6_takes wsX6_takes) := goodIn_app (goodIn_of _ (by decide +kernel)) ggX6_readsWire_X6_takes
theorem dX6_readsWire_0 : decode cX6_readsWire 0 = .ok (.aload_n 0, 1) := by decide +kernel
theorem dX6_readsWire_1 : decode cX6_readsWire 1 = .ok (.invokevirtual 241, 3) := by decide +kernel
theorem dX6_readsWire_4 : decode cX6_readsWire 4 = .ok (.aload_n 0, 1) := by decide +kernel
theorem dX6_readsWire_5 : decode cX6_readsWire 5 = .ok (.iconst 0, 1) := by decide +kernel
theorem dX6_readsWire_6 : decode cX6_readsWire 6 = .ok (.iconst 0, 1) := by decide +kernel
theorem dX6_readsWire_7 : decode cX6_readsWire 7 = .ok (.aload_n 0, 1) := by decide +kernel
theorem dX6_readsWire_8 : decode cX6_readsWire 8 = .ok (.invokevirtual 251, 3) := by decide +kernel
theorem dX6_readsWire_11 : decode cX6_readsWire 11 = .ok (.invokevirtual 248, 3) := by decide +kernel
theorem dX6_readsWire_14 : decode cX6_readsWire 14 = .ok (.ifCond .eq 24, 3) := by decide +kernel
theorem dX6_readsWire_17 : decode cX6_readsWire 17 = .ok (.aload_n 0, 1) := by decide +kernel
theorem dX6_readsWire_18 : decode cX6_readsWire 18 = .ok (.iconst 1, 1) := by decide +kernel
theorem dX6_readsWire_19 : decode cX6_readsWire 19 = .ok (.iconst 0, 1) := by decide +kernel
theorem dX6_readsWire_20 : decode cX6_readsWire 20 = .ok (.iconst 4, 1) := by decide +kernel
theorem dX6_readsWire_21 : decode cX6_readsWire 21 = .ok (.invokevirtual 248, 3) := by decide +kernel
theorem dX6_readsWire_24 : decode cX6_readsWire 24 = .ok (.ifCond .eq 14, 3) := by decide +kernel
theorem dX6_readsWire_27 : decode cX6_readsWire 27 = .ok (.aload_n 0, 1) := by decide +kernel
theorem dX6_readsWire_28 : decode cX6_readsWire 28 = .ok (.iconst 2, 1) := by decide +kernel
theorem dX6_readsWire_29 : decode cX6_readsWire 29 = .ok (.iconst 0, 1) := by decide +kernel
theorem dX6_readsWire_30 : decode cX6_readsWire 30 = .ok (.bipush 11, 2) := by decide +kernel
theorem dX6_readsWire_32 : decode cX6_readsWire 32 = .ok (.invokevirtual 248, 3) := by decide +kernel
theorem dX6_readsWire_35 : decode cX6_readsWire 35 = .ok (.ifCond .ne 5, 3) := by decide +kernel
theorem dX6_readsWire_38 : decode cX6_readsWire 38 = .ok (.iconst 0, 1) := by decide +kernel
theorem dX6_readsWire_39 : decode cX6_readsWire 39 = .ok (.ireturn, 1) := by decide +kernel
theorem dX6_readsWire_40 : decode cX6_readsWire 40 = .ok (.aload_n 0, 1) := by decide +kernel
theorem dX6_readsWire_41 : decode cX6_readsWire 41 = .ok (.getfield 45, 3) := by decide +kernel
theorem dX6_readsWire_44 : decode cX6_readsWire 44 = .ok (.iconst 3, 1) := by decide +kernel
theorem dX6_readsWire_45 : decode cX6_readsWire 45 = .ok (.aload_n 0, 1) := by decide +kernel
theorem dX6_readsWire_46 : decode cX6_readsWire 46 = .ok (.getfield 48, 3) := by decide +kernel
theorem dX6_readsWire_49 : decode cX6_readsWire 49 = .ok (.iconst 0, 1) := by decide +kernel
theorem dX6_readsWire_50 : decode cX6_readsWire 50 = .ok (.iaload, 1) := by decide +kernel
theorem dX6_readsWire_51 : decode cX6_readsWire 51 = .ok (.iadd, 1) := by decide +kernel
theorem dX6_readsWire_52 : decode cX6_readsWire 52 = .ok (.aload_n 0, 1) := by decide +kernel
theorem dX6_readsWire_53 : decode cX6_readsWire 53 = .ok (.getfield 48, 3) := by decide +kernel
theorem dX6_readsWire_56 : decode cX6_readsWire 56 = .ok (.iconst 1, 1) := by decide +kernel
theorem dX6_readsWire_57 : decode cX6_readsWire 57 = .ok (.iaload, 1) := by decide +kernel
theorem dX6_readsWire_58 : decode cX6_readsWire 58 = .ok (.iastore, 1) := by decide +kernel
theorem dX6_readsWire_59 : decode cX6_readsWire 59 = .ok (.aload_n 0, 1) := by decide +kernel
theorem dX6_readsWire_60 : decode cX6_readsWire 60 = .ok (.getfield 45, 3) := by decide +kernel
theorem dX6_readsWire_63 : decode cX6_readsWire 63 = .ok (.bipush 11, 2) := by decide +kernel
theorem dX6_readsWire_65 : decode cX6_readsWire 65 = .ok (.aload_n 0, 1) := by decide +kernel
theorem dX6_readsWire_66 : decode cX6_readsWire 66 = .ok (.getfield 48, 3) := by decide +kernel
theorem dX6_readsWire_69 : decode cX6_readsWire 69 = .ok (.iconst 0, 1) := by decide +kernel
theorem dX6_readsWire_70 : decode cX6_readsWire 70 = .ok (.iaload, 1) := by decide +kernel
theorem dX6_readsWire_71 : decode cX6_readsWire 71 = .ok (.iadd, 1) := by decide +kernel
theorem dX6_readsWire_72 : decode cX6_readsWire 72 = .ok (.aload_n 0, 1) := by decide +kernel
theorem dX6_readsWire_73 : decode cX6_readsWire 73 = .ok (.getfield 48, 3) := by decide +kernel
theorem dX6_readsWire_76 : decode cX6_readsWire 76 = .ok (.iconst 2, 1) := by decide +kernel
theorem dX6_readsWire_77 : decode cX6_readsWire 77 = .ok (.iaload, 1) := by decide +kernel
theorem dX6_readsWire_78 : decode cX6_readsWire 78 = .ok (.iastore, 1) := by decide +kernel
theorem dX6_readsWire_79 : decode cX6_readsWire 79 = .ok (.iconst 1, 1) := by decide +kernel
theorem dX6_readsWire_80 : decode cX6_readsWire 80 = .ok (.ireturn, 1) := by decide +kernel
set_option maxRecDepth 20000 in
theorem ggX6_readsGuard_X6_goOn : GoodIn wsX6_readsGuard wsX6_goOn := goodIn_r _ [8, 9, 10, 11, 12, 13, 7, 14, 15, 16, 1, 2, 17, 18, 19, 20, 21, 22, 23, 24, 25, 26, 27, 28, 29, 30, 31, 32, 33, 34, 35, 36, 37, 38, 39, 40, 41, 42, 43, 44, 45, 46, 47, 48] (by decide +kernel) (by decide +kernel)
set_option maxRecDepth 20000 in
theorem gX6_readsGuard_X6_goOn : GoodIn wsX6_readsGuard (wsV RX6 241 RX6 yX6_goOn wsX6_goOn) := goodIn_app (goodIn_of _ (by decide +kernel)) ggX6_readsGuard_X6_goOn
theorem dX6_readsGuard_0 : decode cX6_readsGuard 0 = .ok (.aload_n 0, 1) := by decide +kernel
theorem dX6_readsGuard_1 : decode cX6_readsGuard 1 = .ok (.invokevirtual 241, 3) := by decide +kernel
theorem dX6_readsGuard_4 : decode cX6_readsGuard 4 = .ok (.aload_n 0, 1) := by decide +kernel
theorem dX6_readsGuard_5 : decode cX6_readsGuard 5 = .ok (.getfield 225, 3) := by decide +kernel
theorem dX6_readsGuard_8 : decode cX6_readsGuard 8 = .ok (.iconst 2, 1) := by decide +kernel
theorem dX6_readsGuard_9 : decode cX6_readsGuard 9 = .ok (.if_icmp .ne 33, 3) := by decide +kernel
theorem dX6_readsGuard_12 : decode cX6_readsGuard 12 = .ok (.aload_n 0, 1) := by decide +kernel
theorem dX6_readsGuard_13 : decode cX6_readsGuard 13 = .ok (.getfield 228, 3) := by decide +kernel
theorem dX6_readsGuard_16 : decode cX6_readsGuard 16 = .ok (.aload_n 0, 1) := by decide +kernel
theorem dX6_readsGuard_17 : decode cX6_readsGuard 17 = .ok (.getfield 45, 3) := by decide +kernel
theorem dX6_readsGuard_20 : decode cX6_readsGuard 20 = .ok (.iconst 0, 1) := by decide +kernel
theorem dX6_readsGuard_21 : decode cX6_readsGuard 21 = .ok (.iaload, 1) := by decide +kernel
theorem dX6_readsGuard_22 : decode cX6_readsGuard 22 = .ok (.if_icmp .ge 20, 3) := by decide +kernel
theorem dX6_readsGuard_25 : decode cX6_readsGuard 25 = .ok (.aload_n 0, 1) := by decide +kernel
theorem dX6_readsGuard_26 : decode cX6_readsGuard 26 = .ok (.getfield 45, 3) := by decide +kernel
theorem dX6_readsGuard_29 : decode cX6_readsGuard 29 = .ok (.iconst 2, 1) := by decide +kernel
theorem dX6_readsGuard_30 : decode cX6_readsGuard 30 = .ok (.iaload, 1) := by decide +kernel
theorem dX6_readsGuard_31 : decode cX6_readsGuard 31 = .ok (.aload_n 0, 1) := by decide +kernel
theorem dX6_readsGuard_32 : decode cX6_readsGuard 32 = .ok (.getfield 228, 3) := by decide +kernel
theorem dX6_readsGuard_35 : decode cX6_readsGuard 35 = .ok (.ishr, 1) := by decide +kernel
theorem dX6_readsGuard_36 : decode cX6_readsGuard 36 = .ok (.iconst 1, 1) := by decide +kernel
theorem dX6_readsGuard_37 : decode cX6_readsGuard 37 = .ok (.iand, 1) := by decide +kernel
theorem dX6_readsGuard_38 : decode cX6_readsGuard 38 = .ok (.iconst 1, 1) := by decide +kernel
theorem dX6_readsGuard_39 : decode cX6_readsGuard 39 = .ok (.if_icmp .ne 5, 3) := by decide +kernel
theorem dX6_readsGuard_42 : decode cX6_readsGuard 42 = .ok (.iconst 0, 1) := by decide +kernel
theorem dX6_readsGuard_43 : decode cX6_readsGuard 43 = .ok (.ireturn, 1) := by decide +kernel
theorem dX6_readsGuard_44 : decode cX6_readsGuard 44 = .ok (.aload_n 0, 1) := by decide +kernel
theorem dX6_readsGuard_45 : decode cX6_readsGuard 45 = .ok (.getfield 45, 3) := by decide +kernel
theorem dX6_readsGuard_48 : decode cX6_readsGuard 48 = .ok (.iconst 2, 1) := by decide +kernel
theorem dX6_readsGuard_49 : decode cX6_readsGuard 49 = .ok (.dup2, 1) := by decide +kernel
theorem dX6_readsGuard_50 : decode cX6_readsGuard 50 = .ok (.iaload, 1) := by decide +kernel
theorem dX6_readsGuard_51 : decode cX6_readsGuard 51 = .ok (.iconst 1, 1) := by decide +kernel
theorem dX6_readsGuard_52 : decode cX6_readsGuard 52 = .ok (.aload_n 0, 1) := by decide +kernel
theorem dX6_readsGuard_53 : decode cX6_readsGuard 53 = .ok (.getfield 228, 3) := by decide +kernel
theorem dX6_readsGuard_56 : decode cX6_readsGuard 56 = .ok (.ishl, 1) := by decide +kernel
theorem dX6_readsGuard_57 : decode cX6_readsGuard 57 = .ok (.ior, 1) := by decide +kernel
theorem dX6_readsGuard_58 : decode cX6_readsGuard 58 = .ok (.iastore, 1) := by decide +kernel
theorem dX6_readsGuard_59 : decode cX6_readsGuard 59 = .ok (.aload_n 0, 1) := by decide +kernel
theorem dX6_readsGuard_60 : decode cX6_readsGuard 60 = .ok (.invokevirtual 241, 3) := by decide +kernel
theorem dX6_readsGuard_63 : decode cX6_readsGuard 63 = .ok (.iconst 1, 1) := by decide +kernel
theorem dX6_readsGuard_64 : decode cX6_readsGuard 64 = .ok (.ireturn, 1) := by decide +kernel
set_option maxRecDepth 20000 in
theorem ggX6_readsWind_X6_goOn : GoodIn wsX6_readsWind wsX6_goOn := goodIn_r _ [7, 8, 9, 10, 11, 12, 6, 13, 14, 15, 16, 17, 18, 19, 20, 21, 22, 23, 24, 25, 26, 27, 28, 29, 30, 42, 43, 44, 45, 46, 47, 48, 49, 50, 51, 52, 53, 54, 55, 56, 57, 58, 59, 60] (by decide +kernel) (by decide +kernel)
set_option maxRecDepth 20000 in
theorem gX6_readsWind_X6_goOn : GoodIn wsX6_readsWind (wsV RX6 241 RX6 yX6_goOn wsX6_goOn) := goodIn_app (goodIn_of _ (by decide +kernel)) ggX6_readsWind_X6_goOn
set_option maxRecDepth 20000 in
theorem ggX6_readsWind_X6_takes : GoodIn wsX6_readsWind wsX6_takes := goodIn_r _ [34, 16, 17, 2, 23, 24, 6, 25, 3, 4, 5, 7, 8, 9, 10, 11, 12, 13, 14, 15, 18, 19, 20, 21, 22, 26, 27, 28, 29, 30, 42, 43, 44, 45, 46, 47, 48, 49, 50, 51, 52, 53, 54, 55, 56, 57, 58, 59, 60] (by decide +kernel) (by decide +kernel)
set_option maxRecDepth 20000 in
theorem gX6_readsWind_X6_takes : GoodIn wsX6_readsWind (wsV RX6 248 RX6 yX6_takes wsX6_takes) := goodIn_app (goodIn_of _ (by decide +kernel)) ggX6_readsWind_X6_takes
set_option maxRecDepth 20000 in
theorem ggX6_readsWind_X6_lastWire : GoodIn wsX6_readsWind wsX6_lastWire := goodIn_r _ [38, 1, 42, 43, 44, 45, 46, 47, 48, 49, 50, 51, 52, 53, 54, 55, 56, 57, 58, 59, 60] (by decide +kernel) (by decide +kernel)
set_option maxRecDepth 20000 in
theorem gX6_readsWind_X6_lastWire : GoodIn wsX6_readsWind (wsV RX6 251 RX6 yX6_lastWire wsX6_lastWire) := goodIn_app (goodIn_of _ (by decide +kernel)) ggX6_readsWind_X6_lastWire
set_option maxRecDepth 20000 in
theorem ggX6_readsWind_X6_layWind : GoodIn wsX6_readsWind wsX6_layWind := goodIn_r _ [41] (by decide +kernel) (by decide +kernel)
set_option maxRecDepth 20000 in
theorem gX6_readsWind_X6_layWind : GoodIn wsX6_readsWind (va_wsS RX6 100 yX6_layWind wsX6_layWind) := goodIn_app (goodIn_of _ (by decide +kernel)) ggX6_readsWind_X6_layWind
theorem dX6_readsWind_0 : decode cX6_readsWind 0 = .ok (.aload_n 0, 1) := by decide +kernel
theorem dX6_readsWind_1 : decode cX6_readsWind 1 = .ok (.getfield 45, 3) := by decide +kernel
theorem dX6_readsWind_4 : decode cX6_readsWind 4 = .ok (.bipush 19, 2) := by decide +kernel
theorem dX6_readsWind_6 : decode cX6_readsWind 6 = .ok (.iaload, 1) := by decide +kernel
theorem dX6_readsWind_7 : decode cX6_readsWind 7 = .ok (.bipush 6, 2) := by decide +kernel
theorem dX6_readsWind_9 : decode cX6_readsWind 9 = .ok (.if_icmp .ne 5, 3) := by decide +kernel
theorem dX6_readsWind_12 : decode cX6_readsWind 12 = .ok (.iconst 0, 1) := by decide +kernel
theorem dX6_readsWind_13 : decode cX6_readsWind 13 = .ok (.ireturn, 1) := by decide +kernel
theorem dX6_readsWind_14 : decode cX6_readsWind 14 = .ok (.aload_n 0, 1) := by decide +kernel
theorem dX6_readsWind_15 : decode cX6_readsWind 15 = .ok (.invokevirtual 241, 3) := by decide +kernel
theorem dX6_readsWind_18 : decode cX6_readsWind 18 = .ok (.aload_n 0, 1) := by decide +kernel
theorem dX6_readsWind_19 : decode cX6_readsWind 19 = .ok (.iconst 0, 1) := by decide +kernel
theorem dX6_readsWind_20 : decode cX6_readsWind 20 = .ok (.iconst 0, 1) := by decide +kernel
theorem dX6_readsWind_21 : decode cX6_readsWind 21 = .ok (.bipush 59, 2) := by decide +kernel
theorem dX6_readsWind_23 : decode cX6_readsWind 23 = .ok (.invokevirtual 248, 3) := by decide +kernel
theorem dX6_readsWind_26 : decode cX6_readsWind 26 = .ok (.ifCond .eq 16, 3) := by decide +kernel
theorem dX6_readsWind_29 : decode cX6_readsWind 29 = .ok (.aload_n 0, 1) := by decide +kernel
theorem dX6_readsWind_30 : decode cX6_readsWind 30 = .ok (.iconst 1, 1) := by decide +kernel
theorem dX6_readsWind_31 : decode cX6_readsWind 31 = .ok (.iconst 0, 1) := by decide +kernel
theorem dX6_readsWind_32 : decode cX6_readsWind 32 = .ok (.aload_n 0, 1) := by decide +kernel
theorem dX6_readsWind_33 : decode cX6_readsWind 33 = .ok (.invokevirtual 251, 3) := by decide +kernel
theorem dX6_readsWind_36 : decode cX6_readsWind 36 = .ok (.invokevirtual 248, 3) := by decide +kernel
theorem dX6_readsWind_39 : decode cX6_readsWind 39 = .ok (.ifCond .ne 5, 3) := by decide +kernel
theorem dX6_readsWind_42 : decode cX6_readsWind 42 = .ok (.iconst 0, 1) := by decide +kernel
theorem dX6_readsWind_43 : decode cX6_readsWind 43 = .ok (.ireturn, 1) := by decide +kernel
theorem dX6_readsWind_44 : decode cX6_readsWind 44 = .ok (.aload_n 0, 1) := by decide +kernel
theorem dX6_readsWind_45 : decode cX6_readsWind 45 = .ok (.getfield 45, 3) := by decide +kernel
theorem dX6_readsWind_48 : decode cX6_readsWind 48 = .ok (.aload_n 0, 1) := by decide +kernel
theorem dX6_readsWind_49 : decode cX6_readsWind 49 = .ok (.getfield 48, 3) := by decide +kernel
theorem dX6_readsWind_52 : decode cX6_readsWind 52 = .ok (.iconst 0, 1) := by decide +kernel
theorem dX6_readsWind_53 : decode cX6_readsWind 53 = .ok (.iaload, 1) := by decide +kernel
theorem dX6_readsWind_54 : decode cX6_readsWind 54 = .ok (.aload_n 0, 1) := by decide +kernel
theorem dX6_readsWind_55 : decode cX6_readsWind 55 = .ok (.getfield 48, 3) := by decide +kernel
theorem dX6_readsWind_58 : decode cX6_readsWind 58 = .ok (.iconst 1, 1) := by decide +kernel
theorem dX6_readsWind_59 : decode cX6_readsWind 59 = .ok (.iaload, 1) := by decide +kernel
theorem dX6_readsWind_60 : decode cX6_readsWind 60 = .ok (.invokestatic 100, 3) := by decide +kernel
theorem dX6_readsWind_63 : decode cX6_readsWind 63 = .ok (.iconst 1, 1) := by decide +kernel
theorem dX6_readsWind_64 : decode cX6_readsWind 64 = .ok (.ireturn, 1) := by decide +kernel
set_option maxRecDepth 20000 in
theorem ggX6_readsPass_X6_goOn : GoodIn wsX6_readsPass wsX6_goOn := goodIn_r _ [7, 8, 9, 10, 11, 12, 6, 13, 14, 15, 16, 17, 18, 19, 20, 21, 22, 23, 24, 25, 26, 27, 28, 29, 30, 42, 43, 44, 45, 46, 47, 48, 49, 50, 51, 52, 53, 54, 55, 56, 57, 58, 59, 60] (by decide +kernel) (by decide +kernel)
set_option maxRecDepth 20000 in
theorem gX6_readsPass_X6_goOn : GoodIn wsX6_readsPass (wsV RX6 241 RX6 yX6_goOn wsX6_goOn) := goodIn_app (goodIn_of _ (by decide +kernel)) ggX6_readsPass_X6_goOn
set_option maxRecDepth 20000 in
theorem ggX6_readsPass_X6_takes : GoodIn wsX6_readsPass wsX6_takes := goodIn_r _ [34, 16, 17, 2, 23, 24, 6, 25, 3, 4, 5, 7, 8, 9, 10, 11, 12, 13, 14, 15, 18, 19, 20, 21, 22, 26, 27, 28, 29, 30, 42, 43, 44, 45, 46, 47, 48, 49, 50, 51, 52, 53, 54, 55, 56, 57, 58, 59, 60] (by decide +kernel) (by decide +kernel)
set_option maxRecDepth 20000 in
theorem gX6_readsPass_X6_takes : GoodIn wsX6_readsPass (wsV RX6 248 RX6 yX6_takes wsX6_takes) := goodIn_app (goodIn_of _ (by decide +kernel)) ggX6_readsPass_X6_takes
set_option maxRecDepth 20000 in
theorem ggX6_readsPass_X6_lastWire : GoodIn wsX6_readsPass wsX6_lastWire := goodIn_r _ [38, 1, 42, 43, 44, 45, 46, 47, 48, 49, 50, 51, 52, 53, 54, 55, 56, 57, 58, 59, 60] (by decide +kernel) (by decide +kernel)
set_option maxRecDepth 20000 in
theorem gX6_readsPass_X6_lastWire : GoodIn wsX6_readsPass (wsV RX6 251 RX6 yX6_lastWire wsX6_lastWire) := goodIn_app (goodIn_of _ (by decide +kernel)) ggX6_readsPass_X6_lastWire
set_option maxRecDepth 20000 in
theorem ggX6_readsPass_X6_layPass : GoodIn wsX6_readsPass wsX6_layPass := goodIn_r _ [41] (by decide +kernel) (by decide +kernel)
set_option maxRecDepth 20000 in
theorem gX6_readsPass_X6_layPass : GoodIn wsX6_readsPass (va_wsS RX6 107 yX6_layPass wsX6_layPass) := goodIn_app (goodIn_of _ (by decide +kernel)) ggX6_readsPass_X6_layPass
theorem dX6_readsPass_0 : decode cX6_readsPass 0 = .ok (.aload_n 0, 1) := by decide +kernel
theorem dX6_readsPass_1 : decode cX6_readsPass 1 = .ok (.getfield 45, 3) := by decide +kernel
theorem dX6_readsPass_4 : decode cX6_readsPass 4 = .ok (.bipush 32, 2) := by decide +kernel
theorem dX6_readsPass_6 : decode cX6_readsPass 6 = .ok (.iaload, 1) := by decide +kernel
theorem dX6_readsPass_7 : decode cX6_readsPass 7 = .ok (.bipush 8, 2) := by decide +kernel
theorem dX6_readsPass_9 : decode cX6_readsPass 9 = .ok (.if_icmp .ne 5, 3) := by decide +kernel
theorem dX6_readsPass_12 : decode cX6_readsPass 12 = .ok (.iconst 0, 1) := by decide +kernel
theorem dX6_readsPass_13 : decode cX6_readsPass 13 = .ok (.ireturn, 1) := by decide +kernel
theorem dX6_readsPass_14 : decode cX6_readsPass 14 = .ok (.aload_n 0, 1) := by decide +kernel
theorem dX6_readsPass_15 : decode cX6_readsPass 15 = .ok (.invokevirtual 241, 3) := by decide +kernel
theorem dX6_readsPass_18 : decode cX6_readsPass 18 = .ok (.aload_n 0, 1) := by decide +kernel
theorem dX6_readsPass_19 : decode cX6_readsPass 19 = .ok (.iconst 0, 1) := by decide +kernel
theorem dX6_readsPass_20 : decode cX6_readsPass 20 = .ok (.iconst 0, 1) := by decide +kernel
theorem dX6_readsPass_21 : decode cX6_readsPass 21 = .ok (.bipush 59, 2) := by decide +kernel
theorem dX6_readsPass_23 : decode cX6_readsPass 23 = .ok (.invokevirtual 248, 3) := by decide +kernel
theorem dX6_readsPass_26 : decode cX6_readsPass 26 = .ok (.ifCond .eq 26, 3) := by decide +kernel
theorem dX6_readsPass_29 : decode cX6_readsPass 29 = .ok (.aload_n 0, 1) := by decide +kernel
theorem dX6_readsPass_30 : decode cX6_readsPass 30 = .ok (.iconst 1, 1) := by decide +kernel
theorem dX6_readsPass_31 : decode cX6_readsPass 31 = .ok (.iconst 0, 1) := by decide +kernel
theorem dX6_readsPass_32 : decode cX6_readsPass 32 = .ok (.aload_n 0, 1) := by decide +kernel
theorem dX6_readsPass_33 : decode cX6_readsPass 33 = .ok (.invokevirtual 251, 3) := by decide +kernel
theorem dX6_readsPass_36 : decode cX6_readsPass 36 = .ok (.invokevirtual 248, 3) := by decide +kernel
theorem dX6_readsPass_39 : decode cX6_readsPass 39 = .ok (.ifCond .eq 13, 3) := by decide +kernel
theorem dX6_readsPass_42 : decode cX6_readsPass 42 = .ok (.aload_n 0, 1) := by decide +kernel
theorem dX6_readsPass_43 : decode cX6_readsPass 43 = .ok (.iconst 2, 1) := by decide +kernel
theorem dX6_readsPass_44 : decode cX6_readsPass 44 = .ok (.iconst 0, 1) := by decide +kernel
theorem dX6_readsPass_45 : decode cX6_readsPass 45 = .ok (.iconst 3, 1) := by decide +kernel
theorem dX6_readsPass_46 : decode cX6_readsPass 46 = .ok (.invokevirtual 248, 3) := by decide +kernel
theorem dX6_readsPass_49 : decode cX6_readsPass 49 = .ok (.ifCond .ne 5, 3) := by decide +kernel
theorem dX6_readsPass_52 : decode cX6_readsPass 52 = .ok (.iconst 0, 1) := by decide +kernel
theorem dX6_readsPass_53 : decode cX6_readsPass 53 = .ok (.ireturn, 1) := by decide +kernel
theorem dX6_readsPass_54 : decode cX6_readsPass 54 = .ok (.aload_n 0, 1) := by decide +kernel
theorem dX6_readsPass_55 : decode cX6_readsPass 55 = .ok (.getfield 45, 3) := by decide +kernel
theorem dX6_readsPass_58 : decode cX6_readsPass 58 = .ok (.aload_n 0, 1) := by decide +kernel
theorem dX6_readsPass_59 : decode cX6_readsPass 59 = .ok (.getfield 48, 3) := by decide +kernel
theorem dX6_readsPass_62 : decode cX6_readsPass 62 = .ok (.iconst 0, 1) := by decide +kernel
theorem dX6_readsPass_63 : decode cX6_readsPass 63 = .ok (.iaload, 1) := by decide +kernel
theorem dX6_readsPass_64 : decode cX6_readsPass 64 = .ok (.aload_n 0, 1) := by decide +kernel
theorem dX6_readsPass_65 : decode cX6_readsPass 65 = .ok (.getfield 48, 3) := by decide +kernel
theorem dX6_readsPass_68 : decode cX6_readsPass 68 = .ok (.iconst 1, 1) := by decide +kernel
theorem dX6_readsPass_69 : decode cX6_readsPass 69 = .ok (.iaload, 1) := by decide +kernel
theorem dX6_readsPass_70 : decode cX6_readsPass 70 = .ok (.aload_n 0, 1) := by decide +kernel
theorem dX6_readsPass_71 : decode cX6_readsPass 71 = .ok (.getfield 48, 3) := by decide +kernel
theorem dX6_readsPass_74 : decode cX6_readsPass 74 = .ok (.iconst 2, 1) := by decide +kernel
theorem dX6_readsPass_75 : decode cX6_readsPass 75 = .ok (.iaload, 1) := by decide +kernel
theorem dX6_readsPass_76 : decode cX6_readsPass 76 = .ok (.invokestatic 107, 3) := by decide +kernel
theorem dX6_readsPass_79 : decode cX6_readsPass 79 = .ok (.iconst 1, 1) := by decide +kernel
theorem dX6_readsPass_80 : decode cX6_readsPass 80 = .ok (.ireturn, 1) := by decide +kernel
set_option maxRecDepth 20000 in
theorem ggX6_readsItem_X6_isWord : GoodIn wsX6_readsItem wsX6_isWord := goodIn_r _ [7, 8, 9, 10, 11, 65, 66, 67, 68, 69, 70, 71, 72, 73, 74, 75, 76, 77, 78, 79, 80, 81, 82, 83] (by decide +kernel) (by decide +kernel)
set_option maxRecDepth 20000 in
theorem gX6_readsItem_X6_isWord : GoodIn wsX6_readsItem (wsV RX6 244 RX6 yX6_isWord wsX6_isWord) := goodIn_app (goodIn_of _ (by decide +kernel)) ggX6_readsItem_X6_isWord
set_option maxRecDepth 20000 in
theorem ggX6_readsItem_X6_readsWire : GoodIn wsX6_readsItem wsX6_readsWire := goodIn_r _ [15, 1, 2, 16, 17, 18, 6, 19, 11, 9, 20, 21, 22, 23, 24, 10, 8, 25, 26, 27, 28, 29, 30, 31, 32, 33, 34, 35, 36, 37, 38, 39, 40, 41, 42, 43, 44, 45, 46, 65, 66, 67, 68, 69, 70, 71, 72, 73, 74, 75, 76, 77, 78, 79, 80, 81, 82, 83] (by decide +kernel) (by decide +kernel)
set_option maxRecDepth 20000 in
theorem gX6_readsItem_X6_readsWire : GoodIn wsX6_readsItem (wsV RX6 254 RX6 yX6_readsWire wsX6_readsWire) := goodIn_app (goodIn_of _ (by decide +kernel)) ggX6_readsItem_X6_readsWire
set_option maxRecDepth 20000 in
theorem ggX6_readsItem_X6_goOn : GoodIn wsX6_readsItem wsX6_goOn := goodIn_r _ [19, 11, 9, 20, 21, 22, 6, 23, 24, 10, 8, 25, 26, 27, 28, 29, 30, 31, 32, 33, 34, 35, 36, 37, 38, 65, 66, 67, 68, 69, 70, 71, 72, 73, 74, 75, 76, 77, 78, 79, 80, 81, 82, 83] (by decide +kernel) (by decide +kernel)
set_option maxRecDepth 20000 in
theorem gX6_readsItem_X6_goOn : GoodIn wsX6_readsItem (wsV RX6 241 RX6 yX6_goOn wsX6_goOn) := goodIn_app (goodIn_of _ (by decide +kernel)) ggX6_readsItem_X6_goOn
set_option maxRecDepth 20000 in
theorem ggX6_readsItem_X6_takes : GoodIn wsX6_readsItem wsX6_takes := goodIn_r _ [46, 8, 25, 2, 31, 32, 6, 33, 16, 17, 18, 19, 11, 9, 20, 21, 22, 23, 24, 10, 26, 27, 28, 29, 30, 34, 35, 36, 37, 38, 65, 66, 67, 68, 69, 70, 71, 72, 73, 74, 75, 76, 77, 78, 79, 80, 81, 82, 83] (by decide +kernel) (by decide +kernel)
set_option maxRecDepth 20000 in
theorem gX6_readsItem_X6_takes : GoodIn wsX6_readsItem (wsV RX6 248 RX6 yX6_takes wsX6_takes) := goodIn_app (goodIn_of _ (by decide +kernel)) ggX6_readsItem_X6_takes
set_option maxRecDepth 20000 in
theorem ggX6_readsItem_X6_readsGuard : GoodIn wsX6_readsItem wsX6_readsGuard := goodIn_r _ [50, 8, 25, 1, 16, 17, 18, 6, 19, 11, 9, 20, 21, 22, 23, 24, 10, 26, 27, 28, 29, 30, 31, 32, 33, 34, 35, 36, 37, 38, 65, 66, 67, 68, 69, 70, 71, 72, 73, 74, 75, 76, 77, 78, 79, 80, 81, 82, 83] (by decide +kernel) (by decide +kernel)
set_option maxRecDepth 20000 in
theorem gX6_readsItem_X6_readsGuard : GoodIn wsX6_readsItem (wsV RX6 258 RX6 yX6_readsGuard wsX6_readsGuard) := goodIn_app (goodIn_of _ (by decide +kernel)) ggX6_readsItem_X6_readsGuard
set_option maxRecDepth 20000 in
theorem ggX6_readsItem_X6_readsWind : GoodIn wsX6_readsItem wsX6_readsWind := goodIn_r _ [54, 1, 2, 16, 17, 18, 6, 19, 11, 9, 20, 21, 22, 23, 24, 10, 8, 25, 26, 27, 28, 29, 30, 31, 32, 33, 34, 35, 36, 37, 38, 43, 44, 45, 46, 39, 40, 41, 42, 55, 56, 57, 65, 66, 67, 68, 69, 70, 71, 72, 73, 74, 75, 76, 77, 78, 79, 80, 81, 82, 83] (by decide +kernel) (by decide +kernel)
set_option maxRecDepth 20000 in
theorem gX6_readsItem_X6_readsWind : GoodIn wsX6_readsItem (wsV RX6 261 RX6 yX6_readsWind wsX6_readsWind) := goodIn_app (goodIn_of _ (by decide +kernel)) ggX6_readsItem_X6_readsWind
set_option maxRecDepth 20000 in
theorem ggX6_readsItem_X6_readsPass : GoodIn wsX6_readsItem wsX6_readsPass := goodIn_r _ [61, 1, 2, 16, 17, 18, 6, 19, 11, 9, 20, 21, 22, 23, 24, 10, 8, 25, 26, 27, 28, 29, 30, 31, 32, 33, 34, 35, 36, 37, 38, 43, 44, 45, 46, 39, 40, 41, 42, 62, 63, 64, 65, 66, 67, 68, 69, 70, 71, 72, 73, 74, 75, 76, 77, 78, 79, 80, 81, 82, 83] (by decide +kernel) (by decide +kernel)
set_option maxRecDepth 20000 in
theorem gX6_readsItem_X6_readsPass : GoodIn wsX6_readsItem (wsV RX6 264 RX6 yX6_readsPass wsX6_readsPass) := goodIn_app (goodIn_of _ (by decide +kernel)) ggX6_readsItem_X6_readsPass
theorem dX6_readsItem_0 : decode cX6_readsItem 0 = .ok (.aload_n 0, 1) := by decide +kernel
theorem dX6_readsItem_1 : decode cX6_readsItem 1 = .ok (.bipush 119, 2) := by decide +kernel
theorem dX6_readsItem_3 : decode cX6_readsItem 3 = .ok (.bipush 105, 2) := by decide +kernel
theorem dX6_readsItem_5 : decode cX6_readsItem 5 = .ok (.bipush 114, 2) := by decide +kernel
theorem dX6_readsItem_7 : decode cX6_readsItem 7 = .ok (.bipush 101, 2) := by decide +kernel
theorem dX6_readsItem_9 : decode cX6_readsItem 9 = .ok (.iconst 0, 1) := by decide +kernel
theorem dX6_readsItem_10 : decode cX6_readsItem 10 = .ok (.invokevirtual 244, 3) := by decide +kernel
theorem dX6_readsItem_13 : decode cX6_readsItem 13 = .ok (.ifCond .eq 8, 3) := by decide +kernel
theorem dX6_readsItem_16 : decode cX6_readsItem 16 = .ok (.aload_n 0, 1) := by decide +kernel
theorem dX6_readsItem_17 : decode cX6_readsItem 17 = .ok (.invokevirtual 254, 3) := by decide +kernel
theorem dX6_readsItem_20 : decode cX6_readsItem 20 = .ok (.ireturn, 1) := by decide +kernel
theorem dX6_readsItem_21 : decode cX6_readsItem 21 = .ok (.aload_n 0, 1) := by decide +kernel
theorem dX6_readsItem_22 : decode cX6_readsItem 22 = .ok (.bipush 102, 2) := by decide +kernel
theorem dX6_readsItem_24 : decode cX6_readsItem 24 = .ok (.bipush 114, 2) := by decide +kernel
theorem dX6_readsItem_26 : decode cX6_readsItem 26 = .ok (.bipush 111, 2) := by decide +kernel
theorem dX6_readsItem_28 : decode cX6_readsItem 28 = .ok (.bipush 115, 2) := by decide +kernel
theorem dX6_readsItem_30 : decode cX6_readsItem 30 = .ok (.bipush 116, 2) := by decide +kernel
theorem dX6_readsItem_32 : decode cX6_readsItem 32 = .ok (.invokevirtual 244, 3) := by decide +kernel
theorem dX6_readsItem_35 : decode cX6_readsItem 35 = .ok (.ifCond .eq 29, 3) := by decide +kernel
theorem dX6_readsItem_38 : decode cX6_readsItem 38 = .ok (.aload_n 0, 1) := by decide +kernel
theorem dX6_readsItem_39 : decode cX6_readsItem 39 = .ok (.invokevirtual 241, 3) := by decide +kernel
theorem dX6_readsItem_42 : decode cX6_readsItem 42 = .ok (.aload_n 0, 1) := by decide +kernel
theorem dX6_readsItem_43 : decode cX6_readsItem 43 = .ok (.iconst 0, 1) := by decide +kernel
theorem dX6_readsItem_44 : decode cX6_readsItem 44 = .ok (.iconst 0, 1) := by decide +kernel
theorem dX6_readsItem_45 : decode cX6_readsItem 45 = .ok (.iconst 5, 1) := by decide +kernel
theorem dX6_readsItem_46 : decode cX6_readsItem 46 = .ok (.invokevirtual 248, 3) := by decide +kernel
theorem dX6_readsItem_49 : decode cX6_readsItem 49 = .ok (.istore_n 1, 1) := by decide +kernel
theorem dX6_readsItem_50 : decode cX6_readsItem 50 = .ok (.aload_n 0, 1) := by decide +kernel
theorem dX6_readsItem_51 : decode cX6_readsItem 51 = .ok (.getfield 45, 3) := by decide +kernel
theorem dX6_readsItem_54 : decode cX6_readsItem 54 = .ok (.iconst 1, 1) := by decide +kernel
theorem dX6_readsItem_55 : decode cX6_readsItem 55 = .ok (.aload_n 0, 1) := by decide +kernel
theorem dX6_readsItem_56 : decode cX6_readsItem 56 = .ok (.getfield 48, 3) := by decide +kernel
theorem dX6_readsItem_59 : decode cX6_readsItem 59 = .ok (.iconst 0, 1) := by decide +kernel
theorem dX6_readsItem_60 : decode cX6_readsItem 60 = .ok (.iaload, 1) := by decide +kernel
theorem dX6_readsItem_61 : decode cX6_readsItem 61 = .ok (.iastore, 1) := by decide +kernel
theorem dX6_readsItem_62 : decode cX6_readsItem 62 = .ok (.iload_n 1, 1) := by decide +kernel
theorem dX6_readsItem_63 : decode cX6_readsItem 63 = .ok (.ireturn, 1) := by decide +kernel
theorem dX6_readsItem_64 : decode cX6_readsItem 64 = .ok (.aload_n 0, 1) := by decide +kernel
theorem dX6_readsItem_65 : decode cX6_readsItem 65 = .ok (.bipush 103, 2) := by decide +kernel
theorem dX6_readsItem_67 : decode cX6_readsItem 67 = .ok (.bipush 117, 2) := by decide +kernel
theorem dX6_readsItem_69 : decode cX6_readsItem 69 = .ok (.bipush 97, 2) := by decide +kernel
theorem dX6_readsItem_71 : decode cX6_readsItem 71 = .ok (.bipush 114, 2) := by decide +kernel
theorem dX6_readsItem_73 : decode cX6_readsItem 73 = .ok (.bipush 100, 2) := by decide +kernel
theorem dX6_readsItem_75 : decode cX6_readsItem 75 = .ok (.invokevirtual 244, 3) := by decide +kernel
theorem dX6_readsItem_78 : decode cX6_readsItem 78 = .ok (.ifCond .eq 8, 3) := by decide +kernel
theorem dX6_readsItem_81 : decode cX6_readsItem 81 = .ok (.aload_n 0, 1) := by decide +kernel
theorem dX6_readsItem_82 : decode cX6_readsItem 82 = .ok (.invokevirtual 258, 3) := by decide +kernel
theorem dX6_readsItem_85 : decode cX6_readsItem 85 = .ok (.ireturn, 1) := by decide +kernel
theorem dX6_readsItem_86 : decode cX6_readsItem 86 = .ok (.aload_n 0, 1) := by decide +kernel
theorem dX6_readsItem_87 : decode cX6_readsItem 87 = .ok (.bipush 119, 2) := by decide +kernel
theorem dX6_readsItem_89 : decode cX6_readsItem 89 = .ok (.bipush 105, 2) := by decide +kernel
theorem dX6_readsItem_91 : decode cX6_readsItem 91 = .ok (.bipush 110, 2) := by decide +kernel
theorem dX6_readsItem_93 : decode cX6_readsItem 93 = .ok (.bipush 100, 2) := by decide +kernel
theorem dX6_readsItem_95 : decode cX6_readsItem 95 = .ok (.iconst 0, 1) := by decide +kernel
theorem dX6_readsItem_96 : decode cX6_readsItem 96 = .ok (.invokevirtual 244, 3) := by decide +kernel
theorem dX6_readsItem_99 : decode cX6_readsItem 99 = .ok (.ifCond .eq 8, 3) := by decide +kernel
theorem dX6_readsItem_102 : decode cX6_readsItem 102 = .ok (.aload_n 0, 1) := by decide +kernel
theorem dX6_readsItem_103 : decode cX6_readsItem 103 = .ok (.invokevirtual 261, 3) := by decide +kernel
theorem dX6_readsItem_106 : decode cX6_readsItem 106 = .ok (.ireturn, 1) := by decide +kernel
theorem dX6_readsItem_107 : decode cX6_readsItem 107 = .ok (.aload_n 0, 1) := by decide +kernel
theorem dX6_readsItem_108 : decode cX6_readsItem 108 = .ok (.bipush 112, 2) := by decide +kernel
theorem dX6_readsItem_110 : decode cX6_readsItem 110 = .ok (.bipush 97, 2) := by decide +kernel
theorem dX6_readsItem_112 : decode cX6_readsItem 112 = .ok (.bipush 115, 2) := by decide +kernel
theorem dX6_readsItem_114 : decode cX6_readsItem 114 = .ok (.bipush 115, 2) := by decide +kernel
theorem dX6_readsItem_116 : decode cX6_readsItem 116 = .ok (.iconst 0, 1) := by decide +kernel
theorem dX6_readsItem_117 : decode cX6_readsItem 117 = .ok (.invokevirtual 244, 3) := by decide +kernel
theorem dX6_readsItem_120 : decode cX6_readsItem 120 = .ok (.ifCond .eq 14, 3) := by decide +kernel
theorem dX6_readsItem_123 : decode cX6_readsItem 123 = .ok (.aload_n 0, 1) := by decide +kernel
theorem dX6_readsItem_124 : decode cX6_readsItem 124 = .ok (.invokevirtual 264, 3) := by decide +kernel
theorem dX6_readsItem_127 : decode cX6_readsItem 127 = .ok (.ifCond .eq 7, 3) := by decide +kernel
theorem dX6_readsItem_130 : decode cX6_readsItem 130 = .ok (.iconst 1, 1) := by decide +kernel
theorem dX6_readsItem_131 : decode cX6_readsItem 131 = .ok (.goto 4, 3) := by decide +kernel
theorem dX6_readsItem_134 : decode cX6_readsItem 134 = .ok (.iconst 0, 1) := by decide +kernel
theorem dX6_readsItem_135 : decode cX6_readsItem 135 = .ok (.ireturn, 1) := by decide +kernel
set_option maxRecDepth 20000 in
theorem ggX6_read_X6_look : GoodIn wsX6_read wsX6_look := goodIn_r _ [10, 2, 11, 12, 13, 3, 14, 15, 16, 9, 17, 18, 19, 20, 21, 22, 23, 24, 25, 26, 27, 77, 78, 79, 80, 81, 82, 83, 84, 85, 86, 87, 88, 89, 90, 91, 92, 93, 94, 95] (by decide +kernel) (by decide +kernel)
set_option maxRecDepth 20000 in
theorem gX6_read_X6_look : GoodIn wsX6_read (wsV RX6 237 RX6 yX6_look wsX6_look) := goodIn_app (goodIn_of _ (by decide +kernel)) ggX6_read_X6_look
set_option maxRecDepth 20000 in
theorem ggX6_read_X6_readsFirst : GoodIn wsX6_read wsX6_readsFirst := goodIn_r _ [31, 5, 1, 3, 32, 33, 34, 9, 35, 13, 12, 2, 36, 37, 38, 39, 6, 7, 8, 10, 11, 14, 15, 16, 17, 18, 19, 20, 21, 22, 23, 24, 25, 26, 27, 40, 41, 42, 43, 44, 45, 46, 77, 78, 79, 80, 81, 82, 83, 84, 85, 86, 87, 88, 89, 90, 91, 92, 93, 94, 95] (by decide +kernel) (by decide +kernel)
set_option maxRecDepth 20000 in
theorem gX6_read_X6_readsFirst : GoodIn wsX6_read (wsV RX6 267 RX6 yX6_readsFirst wsX6_readsFirst) := goodIn_app (goodIn_of _ (by decide +kernel)) ggX6_read_X6_readsFirst
set_option maxRecDepth 20000 in
theorem ggX6_read_X6_goOn : GoodIn wsX6_read wsX6_goOn := goodIn_r _ [39, 2, 13, 6, 7, 8, 9, 10, 11, 12, 3, 14, 15, 16, 17, 18, 19, 20, 21, 22, 23, 24, 25, 26, 27, 77, 78, 79, 80, 81, 82, 83, 84, 85, 86, 87, 88, 89, 90, 91, 92, 93, 94, 95] (by decide +kernel) (by decide +kernel)
set_option maxRecDepth 20000 in
theorem gX6_read_X6_goOn : GoodIn wsX6_read (wsV RX6 241 RX6 yX6_goOn wsX6_goOn) := goodIn_app (goodIn_of _ (by decide +kernel)) ggX6_read_X6_goOn
set_option maxRecDepth 20000 in
theorem ggX6_read_X6_readsItem : GoodIn wsX6_read wsX6_readsItem := goodIn_r _ [50, 5, 1, 32, 33, 34, 9, 35, 3, 13, 12, 2, 51, 52, 53, 54, 36, 37, 38, 39, 6, 7, 8, 10, 11, 14, 15, 16, 17, 18, 19, 20, 21, 22, 23, 24, 25, 26, 27, 55, 56, 57, 58, 40, 41, 42, 43, 59, 60, 61, 62, 63, 64, 65, 66, 67, 68, 69, 70, 71, 72, 73, 74, 75, 76, 77, 78, 79, 80, 81, 82, 83, 84, 85, 86, 87, 88, 89, 90, 91, 92, 93, 94, 95] (by decide +kernel) (by decide +kernel)
set_option maxRecDepth 20000 in
theorem gX6_read_X6_readsItem : GoodIn wsX6_read (wsV RX6 270 RX6 yX6_readsItem wsX6_readsItem) := goodIn_app (goodIn_of _ (by decide +kernel)) ggX6_read_X6_readsItem
theorem dX6_read_0 : decode cX6_read 0 = .ok (.aload_n 0, 1) := by decide +kernel
theorem dX6_read_1 : decode cX6_read 1 = .ok (.getfield 48, 3) := by decide +kernel
theorem dX6_read_4 : decode cX6_read 4 = .ok (.iconst 0, 1) := by decide +kernel
theorem dX6_read_5 : decode cX6_read 5 = .ok (.iconst 2, 1) := by decide +kernel
theorem dX6_read_6 : decode cX6_read 6 = .ok (.iastore, 1) := by decide +kernel
theorem dX6_read_7 : decode cX6_read 7 = .ok (.aload_n 0, 1) := by decide +kernel
theorem dX6_read_8 : decode cX6_read 8 = .ok (.iconst 0, 1) := by decide +kernel
theorem dX6_read_9 : decode cX6_read 9 = .ok (.invokevirtual 237, 3) := by decide +kernel
theorem dX6_read_12 : decode cX6_read 12 = .ok (.aload_n 0, 1) := by decide +kernel
theorem dX6_read_13 : decode cX6_read 13 = .ok (.invokevirtual 267, 3) := by decide +kernel
theorem dX6_read_16 : decode cX6_read 16 = .ok (.ifCond .ne 11, 3) := by decide +kernel
theorem dX6_read_19 : decode cX6_read 19 = .ok (.bipush (-10), 2) := by decide +kernel
theorem dX6_read_21 : decode cX6_read 21 = .ok (.aload_n 0, 1) := by decide +kernel
theorem dX6_read_22 : decode cX6_read 22 = .ok (.getfield 219, 3) := by decide +kernel
theorem dX6_read_25 : decode cX6_read 25 = .ok (.isub, 1) := by decide +kernel
theorem dX6_read_26 : decode cX6_read 26 = .ok (.ireturn, 1) := by decide +kernel
theorem dX6_read_27 : decode cX6_read 27 = .ok (.aload_n 0, 1) := by decide +kernel
theorem dX6_read_28 : decode cX6_read 28 = .ok (.invokevirtual 241, 3) := by decide +kernel
theorem dX6_read_31 : decode cX6_read 31 = .ok (.iconst 1, 1) := by decide +kernel
theorem dX6_read_32 : decode cX6_read 32 = .ok (.istore_n 1, 1) := by decide +kernel
theorem dX6_read_33 : decode cX6_read 33 = .ok (.aload_n 0, 1) := by decide +kernel
theorem dX6_read_34 : decode cX6_read 34 = .ok (.getfield 225, 3) := by decide +kernel
theorem dX6_read_37 : decode cX6_read 37 = .ok (.ifCond .eq 36, 3) := by decide +kernel
theorem dX6_read_40 : decode cX6_read 40 = .ok (.aload_n 0, 1) := by decide +kernel
theorem dX6_read_41 : decode cX6_read 41 = .ok (.invokevirtual 270, 3) := by decide +kernel
theorem dX6_read_44 : decode cX6_read 44 = .ok (.ifCond .eq 11, 3) := by decide +kernel
theorem dX6_read_47 : decode cX6_read 47 = .ok (.aload_n 0, 1) := by decide +kernel
theorem dX6_read_48 : decode cX6_read 48 = .ok (.getfield 225, 3) := by decide +kernel
theorem dX6_read_51 : decode cX6_read 51 = .ok (.iconst 3, 1) := by decide +kernel
theorem dX6_read_52 : decode cX6_read 52 = .ok (.if_icmp .eq 11, 3) := by decide +kernel
theorem dX6_read_55 : decode cX6_read 55 = .ok (.bipush (-10), 2) := by decide +kernel
theorem dX6_read_57 : decode cX6_read 57 = .ok (.aload_n 0, 1) := by decide +kernel
theorem dX6_read_58 : decode cX6_read 58 = .ok (.getfield 219, 3) := by decide +kernel
theorem dX6_read_61 : decode cX6_read 61 = .ok (.isub, 1) := by decide +kernel
theorem dX6_read_62 : decode cX6_read 62 = .ok (.ireturn, 1) := by decide +kernel
theorem dX6_read_63 : decode cX6_read 63 = .ok (.aload_n 0, 1) := by decide +kernel
theorem dX6_read_64 : decode cX6_read 64 = .ok (.invokevirtual 241, 3) := by decide +kernel
theorem dX6_read_67 : decode cX6_read 67 = .ok (.iinc 1 1, 3) := by decide +kernel
theorem dX6_read_70 : decode cX6_read 70 = .ok (.goto (-37), 3) := by decide +kernel
theorem dX6_read_73 : decode cX6_read 73 = .ok (.iconst 0, 1) := by decide +kernel
theorem dX6_read_74 : decode cX6_read 74 = .ok (.istore_n 2, 1) := by decide +kernel
theorem dX6_read_75 : decode cX6_read 75 = .ok (.iload_n 2, 1) := by decide +kernel
theorem dX6_read_76 : decode cX6_read 76 = .ok (.bipush 57, 2) := by decide +kernel
theorem dX6_read_78 : decode cX6_read 78 = .ok (.if_icmp .ge 21, 3) := by decide +kernel
theorem dX6_read_81 : decode cX6_read 81 = .ok (.aload_n 0, 1) := by decide +kernel
theorem dX6_read_82 : decode cX6_read 82 = .ok (.getfield 7, 3) := by decide +kernel
theorem dX6_read_85 : decode cX6_read 85 = .ok (.iload_n 2, 1) := by decide +kernel
theorem dX6_read_86 : decode cX6_read 86 = .ok (.aload_n 0, 1) := by decide +kernel
theorem dX6_read_87 : decode cX6_read 87 = .ok (.getfield 45, 3) := by decide +kernel
theorem dX6_read_90 : decode cX6_read 90 = .ok (.iload_n 2, 1) := by decide +kernel
theorem dX6_read_91 : decode cX6_read 91 = .ok (.iaload, 1) := by decide +kernel
theorem dX6_read_92 : decode cX6_read 92 = .ok (.iastore, 1) := by decide +kernel
theorem dX6_read_93 : decode cX6_read 93 = .ok (.iinc 2 1, 3) := by decide +kernel
theorem dX6_read_96 : decode cX6_read 96 = .ok (.goto (-21), 3) := by decide +kernel
theorem dX6_read_99 : decode cX6_read 99 = .ok (.iload_n 1, 1) := by decide +kernel
theorem dX6_read_100 : decode cX6_read 100 = .ok (.ireturn, 1) := by decide +kernel
set_option maxRecDepth 20000 in
theorem ggX6_part_X6_bad : GoodIn wsX6_part wsX6_bad := goodIn_r _ [7, 8, 9, 10, 11, 12, 13, 14, 15, 16, 17, 18, 19, 20, 21, 22, 23, 24, 25, 26, 27] (by decide +kernel) (by decide +kernel)
set_option maxRecDepth 20000 in
theorem gX6_part_X6_bad : GoodIn wsX6_part (wsV RX6 70 RX6 yX6_bad wsX6_bad) := goodIn_app (goodIn_of _ (by decide +kernel)) ggX6_part_X6_bad
theorem dX6_part_0 : decode cX6_part 0 = .ok (.iload_n 1, 1) := by decide +kernel
theorem dX6_part_1 : decode cX6_part 1 = .ok (.ifCond .ne 10, 3) := by decide +kernel
theorem dX6_part_4 : decode cX6_part 4 = .ok (.aload_n 0, 1) := by decide +kernel
theorem dX6_part_5 : decode cX6_part 5 = .ok (.getfield 181, 3) := by decide +kernel
theorem dX6_part_8 : decode cX6_part 8 = .ok (.goto 22, 3) := by decide +kernel
theorem dX6_part_11 : decode cX6_part 11 = .ok (.iload_n 1, 1) := by decide +kernel
theorem dX6_part_12 : decode cX6_part 12 = .ok (.iconst 1, 1) := by decide +kernel
theorem dX6_part_13 : decode cX6_part 13 = .ok (.if_icmp .ne 10, 3) := by decide +kernel
theorem dX6_part_16 : decode cX6_part 16 = .ok (.aload_n 0, 1) := by decide +kernel
theorem dX6_part_17 : decode cX6_part 17 = .ok (.getfield 23, 3) := by decide +kernel
theorem dX6_part_20 : decode cX6_part 20 = .ok (.goto 10, 3) := by decide +kernel
theorem dX6_part_23 : decode cX6_part 23 = .ok (.aload_n 0, 1) := by decide +kernel
theorem dX6_part_24 : decode cX6_part 24 = .ok (.bipush (-2), 2) := by decide +kernel
theorem dX6_part_26 : decode cX6_part 26 = .ok (.invokevirtual 70, 3) := by decide +kernel
theorem dX6_part_29 : decode cX6_part 29 = .ok (.i2l, 1) := by decide +kernel
theorem dX6_part_30 : decode cX6_part 30 = .ok (.lreturn, 1) := by decide +kernel
set_option maxRecDepth 20000 in
theorem ggX6_image_X6_in : GoodIn wsX6_image wsX6_in := goodIn_r _ [7] (by decide +kernel) (by decide +kernel)
set_option maxRecDepth 20000 in
theorem gX6_image_X6_in : GoodIn wsX6_image (va_wsS RX6 55 yX6_in wsX6_in) := goodIn_app (goodIn_of _ (by decide +kernel)) ggX6_image_X6_in
set_option maxRecDepth 20000 in
theorem ggX6_image_X6_bad : GoodIn wsX6_image wsX6_bad := goodIn_r _ [11, 12, 13, 14, 15, 16, 17, 18, 19, 20, 21, 22, 23, 24, 25, 26, 27, 28, 29, 30, 31] (by decide +kernel) (by decide +kernel)
set_option maxRecDepth 20000 in
theorem gX6_image_X6_bad : GoodIn wsX6_image (wsV RX6 70 RX6 yX6_bad wsX6_bad) := goodIn_app (goodIn_of _ (by decide +kernel)) ggX6_image_X6_bad
theorem dX6_image_0 : decode cX6_image 0 = .ok (.iload_n 1, 1) := by decide +kernel
theorem dX6_image_1 : decode cX6_image 1 = .ok (.i2l, 1) := by decide +kernel
theorem dX6_image_2 : decode cX6_image 2 = .ok (.lconst 0, 1) := by decide +kernel
theorem dX6_image_3 : decode cX6_image 3 = .ok (.lconst 1, 1) := by decide +kernel
theorem dX6_image_4 : decode cX6_image 4 = .ok (.invokestatic 55, 3) := by decide +kernel
theorem dX6_image_7 : decode cX6_image 7 = .ok (.ifCond .ne 10, 3) := by decide +kernel
theorem dX6_image_10 : decode cX6_image 10 = .ok (.aload_n 0, 1) := by decide +kernel
theorem dX6_image_11 : decode cX6_image 11 = .ok (.bipush (-2), 2) := by decide +kernel
theorem dX6_image_13 : decode cX6_image 13 = .ok (.invokevirtual 70, 3) := by decide +kernel
theorem dX6_image_16 : decode cX6_image 16 = .ok (.ireturn, 1) := by decide +kernel
theorem dX6_image_17 : decode cX6_image 17 = .ok (.iconst 0, 1) := by decide +kernel
theorem dX6_image_18 : decode cX6_image 18 = .ok (.istore_n 2, 1) := by decide +kernel
theorem dX6_image_19 : decode cX6_image 19 = .ok (.iload_n 2, 1) := by decide +kernel
theorem dX6_image_20 : decode cX6_image 20 = .ok (.bipush 57, 2) := by decide +kernel
theorem dX6_image_22 : decode cX6_image 22 = .ok (.if_icmp .ge 26, 3) := by decide +kernel
theorem dX6_image_25 : decode cX6_image 25 = .ok (.aload_n 0, 1) := by decide +kernel
theorem dX6_image_26 : decode cX6_image 26 = .ok (.getfield 13, 3) := by decide +kernel
theorem dX6_image_29 : decode cX6_image 29 = .ok (.bipush 57, 2) := by decide +kernel
theorem dX6_image_31 : decode cX6_image 31 = .ok (.iload_n 1, 1) := by decide +kernel
theorem dX6_image_32 : decode cX6_image 32 = .ok (.imul, 1) := by decide +kernel
theorem dX6_image_33 : decode cX6_image 33 = .ok (.iload_n 2, 1) := by decide +kernel
theorem dX6_image_34 : decode cX6_image 34 = .ok (.iadd, 1) := by decide +kernel
theorem dX6_image_35 : decode cX6_image 35 = .ok (.aload_n 0, 1) := by decide +kernel
theorem dX6_image_36 : decode cX6_image 36 = .ok (.getfield 7, 3) := by decide +kernel
theorem dX6_image_39 : decode cX6_image 39 = .ok (.iload_n 2, 1) := by decide +kernel
theorem dX6_image_40 : decode cX6_image 40 = .ok (.iaload, 1) := by decide +kernel
theorem dX6_image_41 : decode cX6_image 41 = .ok (.iastore, 1) := by decide +kernel
theorem dX6_image_42 : decode cX6_image 42 = .ok (.iinc 2 1, 3) := by decide +kernel
theorem dX6_image_45 : decode cX6_image 45 = .ok (.goto (-26), 3) := by decide +kernel
theorem dX6_image_48 : decode cX6_image 48 = .ok (.aload_n 0, 1) := by decide +kernel
theorem dX6_image_49 : decode cX6_image 49 = .ok (.getfield 16, 3) := by decide +kernel
theorem dX6_image_52 : decode cX6_image 52 = .ok (.iload_n 1, 1) := by decide +kernel
theorem dX6_image_53 : decode cX6_image 53 = .ok (.iconst 1, 1) := by decide +kernel
theorem dX6_image_54 : decode cX6_image 54 = .ok (.bastore, 1) := by decide +kernel
theorem dX6_image_55 : decode cX6_image 55 = .ok (.iconst 1, 1) := by decide +kernel
theorem dX6_image_56 : decode cX6_image 56 = .ok (.ireturn, 1) := by decide +kernel
set_option maxRecDepth 20000 in
theorem ggX6_from_X6_in : GoodIn wsX6_from wsX6_in := goodIn_r _ [7] (by decide +kernel) (by decide +kernel)
set_option maxRecDepth 20000 in
theorem gX6_from_X6_in : GoodIn wsX6_from (va_wsS RX6 55 yX6_in wsX6_in) := goodIn_app (goodIn_of _ (by decide +kernel)) ggX6_from_X6_in
set_option maxRecDepth 20000 in
theorem ggX6_from_X6_bad : GoodIn wsX6_from wsX6_bad := goodIn_r _ [11, 12, 17, 18, 19, 20, 21, 22, 23, 24, 25, 26, 27, 28, 29, 30, 31, 32, 33, 34, 35] (by decide +kernel) (by decide +kernel)
set_option maxRecDepth 20000 in
theorem gX6_from_X6_bad : GoodIn wsX6_from (wsV RX6 70 RX6 yX6_bad wsX6_bad) := goodIn_app (goodIn_of _ (by decide +kernel)) ggX6_from_X6_bad
set_option maxRecDepth 20000 in
theorem ggX6_from_X6_no : GoodIn wsX6_from wsX6_no := goodIn_r _ [16, 12, 17, 18, 19, 20, 21, 22, 23, 24, 25, 26, 27, 28, 29, 30, 31, 32, 33, 34, 35] (by decide +kernel) (by decide +kernel)
set_option maxRecDepth 20000 in
theorem gX6_from_X6_no : GoodIn wsX6_from (wsV RX6 91 RX6 yX6_no wsX6_no) := goodIn_app (goodIn_of _ (by decide +kernel)) ggX6_from_X6_no
theorem dX6_from_0 : decode cX6_from 0 = .ok (.iload_n 1, 1) := by decide +kernel
theorem dX6_from_1 : decode cX6_from 1 = .ok (.i2l, 1) := by decide +kernel
theorem dX6_from_2 : decode cX6_from 2 = .ok (.lconst 0, 1) := by decide +kernel
theorem dX6_from_3 : decode cX6_from 3 = .ok (.lconst 1, 1) := by decide +kernel
theorem dX6_from_4 : decode cX6_from 4 = .ok (.invokestatic 55, 3) := by decide +kernel
theorem dX6_from_7 : decode cX6_from 7 = .ok (.ifCond .ne 10, 3) := by decide +kernel
theorem dX6_from_10 : decode cX6_from 10 = .ok (.aload_n 0, 1) := by decide +kernel
theorem dX6_from_11 : decode cX6_from 11 = .ok (.bipush (-2), 2) := by decide +kernel
theorem dX6_from_13 : decode cX6_from 13 = .ok (.invokevirtual 70, 3) := by decide +kernel
theorem dX6_from_16 : decode cX6_from 16 = .ok (.ireturn, 1) := by decide +kernel
theorem dX6_from_17 : decode cX6_from 17 = .ok (.aload_n 0, 1) := by decide +kernel
theorem dX6_from_18 : decode cX6_from 18 = .ok (.getfield 16, 3) := by decide +kernel
theorem dX6_from_21 : decode cX6_from 21 = .ok (.iload_n 1, 1) := by decide +kernel
theorem dX6_from_22 : decode cX6_from 22 = .ok (.baload, 1) := by decide +kernel
theorem dX6_from_23 : decode cX6_from 23 = .ok (.ifCond .ne 8, 3) := by decide +kernel
theorem dX6_from_26 : decode cX6_from 26 = .ok (.aload_n 0, 1) := by decide +kernel
theorem dX6_from_27 : decode cX6_from 27 = .ok (.invokevirtual 91, 3) := by decide +kernel
theorem dX6_from_30 : decode cX6_from 30 = .ok (.ireturn, 1) := by decide +kernel
theorem dX6_from_31 : decode cX6_from 31 = .ok (.iconst 0, 1) := by decide +kernel
theorem dX6_from_32 : decode cX6_from 32 = .ok (.istore_n 2, 1) := by decide +kernel
theorem dX6_from_33 : decode cX6_from 33 = .ok (.iload_n 2, 1) := by decide +kernel
theorem dX6_from_34 : decode cX6_from 34 = .ok (.bipush 57, 2) := by decide +kernel
theorem dX6_from_36 : decode cX6_from 36 = .ok (.if_icmp .ge 26, 3) := by decide +kernel
theorem dX6_from_39 : decode cX6_from 39 = .ok (.aload_n 0, 1) := by decide +kernel
theorem dX6_from_40 : decode cX6_from 40 = .ok (.getfield 7, 3) := by decide +kernel
theorem dX6_from_43 : decode cX6_from 43 = .ok (.iload_n 2, 1) := by decide +kernel
theorem dX6_from_44 : decode cX6_from 44 = .ok (.aload_n 0, 1) := by decide +kernel
theorem dX6_from_45 : decode cX6_from 45 = .ok (.getfield 13, 3) := by decide +kernel
theorem dX6_from_48 : decode cX6_from 48 = .ok (.bipush 57, 2) := by decide +kernel
theorem dX6_from_50 : decode cX6_from 50 = .ok (.iload_n 1, 1) := by decide +kernel
theorem dX6_from_51 : decode cX6_from 51 = .ok (.imul, 1) := by decide +kernel
theorem dX6_from_52 : decode cX6_from 52 = .ok (.iload_n 2, 1) := by decide +kernel
theorem dX6_from_53 : decode cX6_from 53 = .ok (.iadd, 1) := by decide +kernel
theorem dX6_from_54 : decode cX6_from 54 = .ok (.iaload, 1) := by decide +kernel
theorem dX6_from_55 : decode cX6_from 55 = .ok (.iastore, 1) := by decide +kernel
theorem dX6_from_56 : decode cX6_from 56 = .ok (.iinc 2 1, 3) := by decide +kernel
theorem dX6_from_59 : decode cX6_from 59 = .ok (.goto (-26), 3) := by decide +kernel
theorem dX6_from_62 : decode cX6_from 62 = .ok (.iconst 1, 1) := by decide +kernel
theorem dX6_from_63 : decode cX6_from 63 = .ok (.ireturn, 1) := by decide +kernel
set_option maxRecDepth 20000 in
theorem ggX6_status_X6_in : GoodIn wsX6_status wsX6_in := goodIn_r _ [6] (by decide +kernel) (by decide +kernel)
set_option maxRecDepth 20000 in
theorem gX6_status_X6_in : GoodIn wsX6_status (va_wsS RX6 55 yX6_in wsX6_in) := goodIn_app (goodIn_of _ (by decide +kernel)) ggX6_status_X6_in
set_option maxRecDepth 20000 in
theorem ggX6_status_X6_bad : GoodIn wsX6_status wsX6_bad := goodIn_r _ [10, 2, 11, 12, 13, 14, 15, 16, 17, 18, 19, 20, 21, 22, 23, 24, 25, 26, 27, 28, 29] (by decide +kernel) (by decide +kernel)
set_option maxRecDepth 20000 in
theorem gX6_status_X6_bad : GoodIn wsX6_status (wsV RX6 70 RX6 yX6_bad wsX6_bad) := goodIn_app (goodIn_of _ (by decide +kernel)) ggX6_status_X6_bad
theorem dX6_status_0 : decode cX6_status 0 = .ok (.iload_n 1, 1) := by decide +kernel
theorem dX6_status_1 : decode cX6_status 1 = .ok (.i2l, 1) := by decide +kernel
theorem dX6_status_2 : decode cX6_status 2 = .ok (.lconst 0, 1) := by decide +kernel
theorem dX6_status_3 : decode cX6_status 3 = .ok (.ldc2_w 66, 3) := by decide +kernel
theorem dX6_status_6 : decode cX6_status 6 = .ok (.invokestatic 55, 3) := by decide +kernel
theorem dX6_status_9 : decode cX6_status 9 = .ok (.ifCond .eq 12, 3) := by decide +kernel
theorem dX6_status_12 : decode cX6_status 12 = .ok (.aload_n 0, 1) := by decide +kernel
theorem dX6_status_13 : decode cX6_status 13 = .ok (.getfield 20, 3) := by decide +kernel
theorem dX6_status_16 : decode cX6_status 16 = .ok (.iload_n 1, 1) := by decide +kernel
theorem dX6_status_17 : decode cX6_status 17 = .ok (.iaload, 1) := by decide +kernel
theorem dX6_status_18 : decode cX6_status 18 = .ok (.goto 8, 3) := by decide +kernel
theorem dX6_status_21 : decode cX6_status 21 = .ok (.aload_n 0, 1) := by decide +kernel
theorem dX6_status_22 : decode cX6_status 22 = .ok (.iconst (-1), 1) := by decide +kernel
theorem dX6_status_23 : decode cX6_status 23 = .ok (.invokevirtual 70, 3) := by decide +kernel
theorem dX6_status_26 : decode cX6_status 26 = .ok (.ireturn, 1) := by decide +kernel
set_option maxRecDepth 20000 in
theorem ggX6_counted_X6_line : GoodIn wsX6_counted wsX6_line := goodIn_r _ [7, 1, 11, 12, 13, 14, 15, 16, 17, 18, 19, 20, 21, 22, 23, 24, 25, 26, 27, 28, 29] (by decide +kernel) (by decide +kernel)
set_option maxRecDepth 20000 in
theorem gX6_counted_X6_line : GoodIn wsX6_counted (wsV RX6 51 RX6 yX6_line wsX6_line) := goodIn_app (goodIn_of _ (by decide +kernel)) ggX6_counted_X6_line
set_option maxRecDepth 20000 in
theorem ggX6_counted_X6_bits : GoodIn wsX6_counted wsX6_bits := goodIn_r _ [10] (by decide +kernel) (by decide +kernel)
set_option maxRecDepth 20000 in
theorem gX6_counted_X6_bits : GoodIn wsX6_counted (va_wsS RX6 149 yX6_bits wsX6_bits) := goodIn_app (goodIn_of _ (by decide +kernel)) ggX6_counted_X6_bits
theorem dX6_counted_0 : decode cX6_counted 0 = .ok (.iload_n 1, 1) := by decide +kernel
theorem dX6_counted_1 : decode cX6_counted 1 = .ok (.tableswitch 71 0 4 #[35, 40, 50, 58, 66], 35) := by decide +kernel
theorem dX6_counted_36 : decode cX6_counted 36 = .ok (.aload_n 0, 1) := by decide +kernel
theorem dX6_counted_37 : decode cX6_counted 37 = .ok (.invokevirtual 51, 3) := by decide +kernel
theorem dX6_counted_40 : decode cX6_counted 40 = .ok (.ireturn, 1) := by decide +kernel
theorem dX6_counted_41 : decode cX6_counted 41 = .ok (.aload_n 0, 1) := by decide +kernel
theorem dX6_counted_42 : decode cX6_counted 42 = .ok (.getfield 7, 3) := by decide +kernel
theorem dX6_counted_45 : decode cX6_counted 45 = .ok (.iconst 2, 1) := by decide +kernel
theorem dX6_counted_46 : decode cX6_counted 46 = .ok (.iaload, 1) := by decide +kernel
theorem dX6_counted_47 : decode cX6_counted 47 = .ok (.invokestatic 149, 3) := by decide +kernel
theorem dX6_counted_50 : decode cX6_counted 50 = .ok (.ireturn, 1) := by decide +kernel
theorem dX6_counted_51 : decode cX6_counted 51 = .ok (.aload_n 0, 1) := by decide +kernel
theorem dX6_counted_52 : decode cX6_counted 52 = .ok (.getfield 7, 3) := by decide +kernel
theorem dX6_counted_55 : decode cX6_counted 55 = .ok (.bipush 19, 2) := by decide +kernel
theorem dX6_counted_57 : decode cX6_counted 57 = .ok (.iaload, 1) := by decide +kernel
theorem dX6_counted_58 : decode cX6_counted 58 = .ok (.ireturn, 1) := by decide +kernel
theorem dX6_counted_59 : decode cX6_counted 59 = .ok (.aload_n 0, 1) := by decide +kernel
theorem dX6_counted_60 : decode cX6_counted 60 = .ok (.getfield 7, 3) := by decide +kernel
theorem dX6_counted_63 : decode cX6_counted 63 = .ok (.bipush 32, 2) := by decide +kernel
theorem dX6_counted_65 : decode cX6_counted 65 = .ok (.iaload, 1) := by decide +kernel
theorem dX6_counted_66 : decode cX6_counted 66 = .ok (.ireturn, 1) := by decide +kernel
theorem dX6_counted_67 : decode cX6_counted 67 = .ok (.aload_n 0, 1) := by decide +kernel
theorem dX6_counted_68 : decode cX6_counted 68 = .ok (.getfield 205, 3) := by decide +kernel
theorem dX6_counted_71 : decode cX6_counted 71 = .ok (.ireturn, 1) := by decide +kernel
theorem dX6_counted_72 : decode cX6_counted 72 = .ok (.aload_n 0, 1) := by decide +kernel
theorem dX6_counted_73 : decode cX6_counted 73 = .ok (.getfield 7, 3) := by decide +kernel
theorem dX6_counted_76 : decode cX6_counted 76 = .ok (.iconst 1, 1) := by decide +kernel
theorem dX6_counted_77 : decode cX6_counted 77 = .ok (.iaload, 1) := by decide +kernel
theorem dX6_counted_78 : decode cX6_counted 78 = .ok (.ireturn, 1) := by decide +kernel
set_option maxRecDepth 20000 in
theorem ggX6_count_X6_in : GoodIn wsX6_count wsX6_in := goodIn_r _ [5] (by decide +kernel) (by decide +kernel)
set_option maxRecDepth 20000 in
theorem gX6_count_X6_in : GoodIn wsX6_count (va_wsS RX6 55 yX6_in wsX6_in) := goodIn_app (goodIn_of _ (by decide +kernel)) ggX6_count_X6_in
set_option maxRecDepth 20000 in
theorem ggX6_count_X6_counted : GoodIn wsX6_count wsX6_counted := goodIn_r _ [9, 10, 11, 12, 13, 14, 4, 15, 16, 17, 18, 24, 25, 26, 27, 28, 29, 30, 31, 32, 33, 34, 35, 36, 37, 38, 39, 40, 41, 42] (by decide +kernel) (by decide +kernel)
set_option maxRecDepth 20000 in
theorem gX6_count_X6_counted : GoodIn wsX6_count (wsV RX6 273 RX6 yX6_counted wsX6_counted) := goodIn_app (goodIn_of _ (by decide +kernel)) ggX6_count_X6_counted
set_option maxRecDepth 20000 in
theorem ggX6_count_X6_bad : GoodIn wsX6_count wsX6_bad := goodIn_r _ [22, 23, 24, 25, 26, 27, 28, 29, 30, 31, 32, 33, 34, 35, 36, 37, 38, 39, 40, 41, 42] (by decide +kernel) (by decide +kernel)
set_option maxRecDepth 20000 in
theorem gX6_count_X6_bad : GoodIn wsX6_count (wsV RX6 70 RX6 yX6_bad wsX6_bad) := goodIn_app (goodIn_of _ (by decide +kernel)) ggX6_count_X6_bad
theorem dX6_count_0 : decode cX6_count 0 = .ok (.iload_n 1, 1) := by decide +kernel
theorem dX6_count_1 : decode cX6_count 1 = .ok (.i2l, 1) := by decide +kernel
theorem dX6_count_2 : decode cX6_count 2 = .ok (.lconst 0, 1) := by decide +kernel
theorem dX6_count_3 : decode cX6_count 3 = .ok (.ldc2_w 86, 3) := by decide +kernel
theorem dX6_count_6 : decode cX6_count 6 = .ok (.invokestatic 55, 3) := by decide +kernel
theorem dX6_count_9 : decode cX6_count 9 = .ok (.ifCond .eq 11, 3) := by decide +kernel
theorem dX6_count_12 : decode cX6_count 12 = .ok (.aload_n 0, 1) := by decide +kernel
theorem dX6_count_13 : decode cX6_count 13 = .ok (.iload_n 1, 1) := by decide +kernel
theorem dX6_count_14 : decode cX6_count 14 = .ok (.invokevirtual 273, 3) := by decide +kernel
theorem dX6_count_17 : decode cX6_count 17 = .ok (.goto 9, 3) := by decide +kernel
theorem dX6_count_20 : decode cX6_count 20 = .ok (.aload_n 0, 1) := by decide +kernel
theorem dX6_count_21 : decode cX6_count 21 = .ok (.bipush (-2), 2) := by decide +kernel
theorem dX6_count_23 : decode cX6_count 23 = .ok (.invokevirtual 70, 3) := by decide +kernel
theorem dX6_count_26 : decode cX6_count 26 = .ok (.ireturn, 1) := by decide +kernel
theorem dX6_sums_0 : decode cX6_sums 0 = .ok (.lload_n 1, 1) := by decide +kernel
theorem dX6_sums_1 : decode cX6_sums 1 = .ok (.lstore 5, 2) := by decide +kernel
theorem dX6_sums_3 : decode cX6_sums 3 = .ok (.iconst 0, 1) := by decide +kernel
theorem dX6_sums_4 : decode cX6_sums 4 = .ok (.istore 7, 2) := by decide +kernel
theorem dX6_sums_6 : decode cX6_sums 6 = .ok (.iload 7, 2) := by decide +kernel
theorem dX6_sums_8 : decode cX6_sums 8 = .ok (.iload 4, 2) := by decide +kernel
theorem dX6_sums_10 : decode cX6_sums 10 = .ok (.if_icmp .ge 28, 3) := by decide +kernel
theorem dX6_sums_13 : decode cX6_sums 13 = .ok (.ldc2_w 276, 3) := by decide +kernel
theorem dX6_sums_16 : decode cX6_sums 16 = .ok (.lload 5, 2) := by decide +kernel
theorem dX6_sums_18 : decode cX6_sums 18 = .ok (.lmul, 1) := by decide +kernel
theorem dX6_sums_19 : decode cX6_sums 19 = .ok (.aload_n 0, 1) := by decide +kernel
theorem dX6_sums_20 : decode cX6_sums 20 = .ok (.getfield 7, 3) := by decide +kernel
theorem dX6_sums_23 : decode cX6_sums 23 = .ok (.iload_n 3, 1) := by decide +kernel
theorem dX6_sums_24 : decode cX6_sums 24 = .ok (.iload 7, 2) := by decide +kernel
theorem dX6_sums_26 : decode cX6_sums 26 = .ok (.iadd, 1) := by decide +kernel
theorem dX6_sums_27 : decode cX6_sums 27 = .ok (.iaload, 1) := by decide +kernel
theorem dX6_sums_28 : decode cX6_sums 28 = .ok (.i2l, 1) := by decide +kernel
theorem dX6_sums_29 : decode cX6_sums 29 = .ok (.ladd, 1) := by decide +kernel
theorem dX6_sums_30 : decode cX6_sums 30 = .ok (.lstore 5, 2) := by decide +kernel
theorem dX6_sums_32 : decode cX6_sums 32 = .ok (.iinc 7 1, 3) := by decide +kernel
theorem dX6_sums_35 : decode cX6_sums 35 = .ok (.goto (-29), 3) := by decide +kernel
theorem dX6_sums_38 : decode cX6_sums 38 = .ok (.lload 5, 2) := by decide +kernel
theorem dX6_sums_40 : decode cX6_sums 40 = .ok (.lreturn, 1) := by decide +kernel
set_option maxRecDepth 20000 in
theorem ggX6_digest_X6_counted : GoodIn wsX6_digest wsX6_counted := goodIn_r _ [10, 3, 11, 12, 13, 14, 9, 15, 16, 17, 18, 27, 28, 29, 30, 31, 32, 33, 34, 35, 36, 37, 38, 39, 40, 41, 42, 43, 44, 45] (by decide +kernel) (by decide +kernel)
set_option maxRecDepth 20000 in
theorem gX6_digest_X6_counted : GoodIn wsX6_digest (wsV RX6 273 RX6 yX6_counted wsX6_counted) := goodIn_app (goodIn_of _ (by decide +kernel)) ggX6_digest_X6_counted
set_option maxRecDepth 20000 in
theorem ggX6_digest_X6_wires : GoodIn wsX6_digest wsX6_wires := goodIn_r _ [22, 3, 27, 28, 29, 30, 31, 32, 33, 34, 35, 36, 37, 38, 39, 40, 41, 42, 43, 44, 45] (by decide +kernel) (by decide +kernel)
set_option maxRecDepth 20000 in
theorem gX6_digest_X6_wires : GoodIn wsX6_digest (wsV RX6 59 RX6 yX6_wires wsX6_wires) := goodIn_app (goodIn_of _ (by decide +kernel)) ggX6_digest_X6_wires
set_option maxRecDepth 20000 in
theorem ggX6_digest_X6_sums : GoodIn wsX6_digest wsX6_sums := goodIn_r _ [26, 2, 3, 27, 28, 29, 30, 31, 32, 33, 34, 35, 36, 37, 38, 39, 40, 41, 42, 43, 44, 45] (by decide +kernel) (by decide +kernel)
set_option maxRecDepth 20000 in
theorem gX6_digest_X6_sums : GoodIn wsX6_digest (wsV RX6 280 RX6 yX6_sums wsX6_sums) := goodIn_app (goodIn_of _ (by decide +kernel)) ggX6_digest_X6_sums
theorem dX6_digest_0 : decode cX6_digest 0 = .ok (.ldc2_w 278, 3) := by decide +kernel
theorem dX6_digest_3 : decode cX6_digest 3 = .ok (.lstore_n 1, 1) := by decide +kernel
theorem dX6_digest_4 : decode cX6_digest 4 = .ok (.iconst 0, 1) := by decide +kernel
theorem dX6_digest_5 : decode cX6_digest 5 = .ok (.istore_n 3, 1) := by decide +kernel
theorem dX6_digest_6 : decode cX6_digest 6 = .ok (.iload_n 3, 1) := by decide +kernel
theorem dX6_digest_7 : decode cX6_digest 7 = .ok (.bipush 6, 2) := by decide +kernel
theorem dX6_digest_9 : decode cX6_digest 9 = .ok (.if_icmp .ge 22, 3) := by decide +kernel
theorem dX6_digest_12 : decode cX6_digest 12 = .ok (.ldc2_w 276, 3) := by decide +kernel
theorem dX6_digest_15 : decode cX6_digest 15 = .ok (.lload_n 1, 1) := by decide +kernel
theorem dX6_digest_16 : decode cX6_digest 16 = .ok (.lmul, 1) := by decide +kernel
theorem dX6_digest_17 : decode cX6_digest 17 = .ok (.aload_n 0, 1) := by decide +kernel
theorem dX6_digest_18 : decode cX6_digest 18 = .ok (.iload_n 3, 1) := by decide +kernel
theorem dX6_digest_19 : decode cX6_digest 19 = .ok (.invokevirtual 273, 3) := by decide +kernel
theorem dX6_digest_22 : decode cX6_digest 22 = .ok (.i2l, 1) := by decide +kernel
theorem dX6_digest_23 : decode cX6_digest 23 = .ok (.ladd, 1) := by decide +kernel
theorem dX6_digest_24 : decode cX6_digest 24 = .ok (.lstore_n 1, 1) := by decide +kernel
theorem dX6_digest_25 : decode cX6_digest 25 = .ok (.iinc 3 1, 3) := by decide +kernel
theorem dX6_digest_28 : decode cX6_digest 28 = .ok (.goto (-22), 3) := by decide +kernel
theorem dX6_digest_31 : decode cX6_digest 31 = .ok (.ldc2_w 276, 3) := by decide +kernel
theorem dX6_digest_34 : decode cX6_digest 34 = .ok (.lload_n 1, 1) := by decide +kernel
theorem dX6_digest_35 : decode cX6_digest 35 = .ok (.lmul, 1) := by decide +kernel
theorem dX6_digest_36 : decode cX6_digest 36 = .ok (.aload_n 0, 1) := by decide +kernel
theorem dX6_digest_37 : decode cX6_digest 37 = .ok (.getfield 7, 3) := by decide +kernel
theorem dX6_digest_40 : decode cX6_digest 40 = .ok (.iconst 2, 1) := by decide +kernel
theorem dX6_digest_41 : decode cX6_digest 41 = .ok (.iaload, 1) := by decide +kernel
theorem dX6_digest_42 : decode cX6_digest 42 = .ok (.i2l, 1) := by decide +kernel
theorem dX6_digest_43 : decode cX6_digest 43 = .ok (.ladd, 1) := by decide +kernel
theorem dX6_digest_44 : decode cX6_digest 44 = .ok (.lstore_n 1, 1) := by decide +kernel
theorem dX6_digest_45 : decode cX6_digest 45 = .ok (.iconst 0, 1) := by decide +kernel
theorem dX6_digest_46 : decode cX6_digest 46 = .ok (.istore_n 3, 1) := by decide +kernel
theorem dX6_digest_47 : decode cX6_digest 47 = .ok (.iload_n 3, 1) := by decide +kernel
theorem dX6_digest_48 : decode cX6_digest 48 = .ok (.aload_n 0, 1) := by decide +kernel
theorem dX6_digest_49 : decode cX6_digest 49 = .ok (.invokevirtual 59, 3) := by decide +kernel
theorem dX6_digest_52 : decode cX6_digest 52 = .ok (.if_icmp .ge 40, 3) := by decide +kernel
theorem dX6_digest_55 : decode cX6_digest 55 = .ok (.ldc2_w 276, 3) := by decide +kernel
theorem dX6_digest_58 : decode cX6_digest 58 = .ok (.ldc2_w 276, 3) := by decide +kernel
theorem dX6_digest_61 : decode cX6_digest 61 = .ok (.lload_n 1, 1) := by decide +kernel
theorem dX6_digest_62 : decode cX6_digest 62 = .ok (.lmul, 1) := by decide +kernel
theorem dX6_digest_63 : decode cX6_digest 63 = .ok (.aload_n 0, 1) := by decide +kernel
theorem dX6_digest_64 : decode cX6_digest 64 = .ok (.getfield 7, 3) := by decide +kernel
theorem dX6_digest_67 : decode cX6_digest 67 = .ok (.iconst 3, 1) := by decide +kernel
theorem dX6_digest_68 : decode cX6_digest 68 = .ok (.iload_n 3, 1) := by decide +kernel
theorem dX6_digest_69 : decode cX6_digest 69 = .ok (.iadd, 1) := by decide +kernel
theorem dX6_digest_70 : decode cX6_digest 70 = .ok (.iaload, 1) := by decide +kernel
theorem dX6_digest_71 : decode cX6_digest 71 = .ok (.i2l, 1) := by decide +kernel
theorem dX6_digest_72 : decode cX6_digest 72 = .ok (.ladd, 1) := by decide +kernel
theorem dX6_digest_73 : decode cX6_digest 73 = .ok (.lmul, 1) := by decide +kernel
theorem dX6_digest_74 : decode cX6_digest 74 = .ok (.aload_n 0, 1) := by decide +kernel
theorem dX6_digest_75 : decode cX6_digest 75 = .ok (.getfield 7, 3) := by decide +kernel
theorem dX6_digest_78 : decode cX6_digest 78 = .ok (.bipush 11, 2) := by decide +kernel
theorem dX6_digest_80 : decode cX6_digest 80 = .ok (.iload_n 3, 1) := by decide +kernel
theorem dX6_digest_81 : decode cX6_digest 81 = .ok (.iadd, 1) := by decide +kernel
theorem dX6_digest_82 : decode cX6_digest 82 = .ok (.iaload, 1) := by decide +kernel
theorem dX6_digest_83 : decode cX6_digest 83 = .ok (.i2l, 1) := by decide +kernel
theorem dX6_digest_84 : decode cX6_digest 84 = .ok (.ladd, 1) := by decide +kernel
theorem dX6_digest_85 : decode cX6_digest 85 = .ok (.lstore_n 1, 1) := by decide +kernel
theorem dX6_digest_86 : decode cX6_digest 86 = .ok (.iinc 3 1, 3) := by decide +kernel
theorem dX6_digest_89 : decode cX6_digest 89 = .ok (.goto (-42), 3) := by decide +kernel
theorem dX6_digest_92 : decode cX6_digest 92 = .ok (.aload_n 0, 1) := by decide +kernel
theorem dX6_digest_93 : decode cX6_digest 93 = .ok (.lload_n 1, 1) := by decide +kernel
theorem dX6_digest_94 : decode cX6_digest 94 = .ok (.bipush 20, 2) := by decide +kernel
theorem dX6_digest_96 : decode cX6_digest 96 = .ok (.iconst 2, 1) := by decide +kernel
theorem dX6_digest_97 : decode cX6_digest 97 = .ok (.aload_n 0, 1) := by decide +kernel
theorem dX6_digest_98 : decode cX6_digest 98 = .ok (.getfield 7, 3) := by decide +kernel
theorem dX6_digest_101 : decode cX6_digest 101 = .ok (.bipush 19, 2) := by decide +kernel
theorem dX6_digest_103 : decode cX6_digest 103 = .ok (.iaload, 1) := by decide +kernel
theorem dX6_digest_104 : decode cX6_digest 104 = .ok (.imul, 1) := by decide +kernel
theorem dX6_digest_105 : decode cX6_digest 105 = .ok (.invokevirtual 280, 3) := by decide +kernel
theorem dX6_digest_108 : decode cX6_digest 108 = .ok (.lstore_n 1, 1) := by decide +kernel
theorem dX6_digest_109 : decode cX6_digest 109 = .ok (.aload_n 0, 1) := by decide +kernel
theorem dX6_digest_110 : decode cX6_digest 110 = .ok (.lload_n 1, 1) := by decide +kernel
theorem dX6_digest_111 : decode cX6_digest 111 = .ok (.bipush 33, 2) := by decide +kernel
theorem dX6_digest_113 : decode cX6_digest 113 = .ok (.iconst 3, 1) := by decide +kernel
theorem dX6_digest_114 : decode cX6_digest 114 = .ok (.aload_n 0, 1) := by decide +kernel
theorem dX6_digest_115 : decode cX6_digest 115 = .ok (.getfield 7, 3) := by decide +kernel
theorem dX6_digest_118 : decode cX6_digest 118 = .ok (.bipush 32, 2) := by decide +kernel
theorem dX6_digest_120 : decode cX6_digest 120 = .ok (.iaload, 1) := by decide +kernel
theorem dX6_digest_121 : decode cX6_digest 121 = .ok (.imul, 1) := by decide +kernel
theorem dX6_digest_122 : decode cX6_digest 122 = .ok (.invokevirtual 280, 3) := by decide +kernel
theorem dX6_digest_125 : decode cX6_digest 125 = .ok (.lstore_n 1, 1) := by decide +kernel
theorem dX6_digest_126 : decode cX6_digest 126 = .ok (.ldc2_w 276, 3) := by decide +kernel
theorem dX6_digest_129 : decode cX6_digest 129 = .ok (.ldc2_w 276, 3) := by decide +kernel
theorem dX6_digest_132 : decode cX6_digest 132 = .ok (.lload_n 1, 1) := by decide +kernel
theorem dX6_digest_133 : decode cX6_digest 133 = .ok (.lmul, 1) := by decide +kernel
theorem dX6_digest_134 : decode cX6_digest 134 = .ok (.aload_n 0, 1) := by decide +kernel
theorem dX6_digest_135 : decode cX6_digest 135 = .ok (.getfield 181, 3) := by decide +kernel
theorem dX6_digest_138 : decode cX6_digest 138 = .ok (.ladd, 1) := by decide +kernel
theorem dX6_digest_139 : decode cX6_digest 139 = .ok (.lmul, 1) := by decide +kernel
theorem dX6_digest_140 : decode cX6_digest 140 = .ok (.aload_n 0, 1) := by decide +kernel
theorem dX6_digest_141 : decode cX6_digest 141 = .ok (.getfield 23, 3) := by decide +kernel
theorem dX6_digest_144 : decode cX6_digest 144 = .ok (.ladd, 1) := by decide +kernel
theorem dX6_digest_145 : decode cX6_digest 145 = .ok (.lreturn, 1) := by decide +kernel
