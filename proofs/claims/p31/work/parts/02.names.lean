/-! names: classes, fields, methods, words (by program) -/
def WT : List Cond := lw_tbl.filter goodWord
def memW (p : Nat) (w : Cond) : Bool := decide (lw_tbl[p]? = some w) && goodWord w
theorem memW_ok {p : Nat} {w : Cond} (h : memW p w = true) : w ∈ WT := by
  simp only [memW, Bool.and_eq_true, decide_eq_true_eq] at h
  exact List.mem_filter.mpr ⟨List.mem_of_getElem? h.1, h.2⟩
theorem WT_in {w : Cond} (h : w ∈ WT) : w ∈ lw_tbl := (List.mem_filter.mp h).1
theorem WT_good {w : Cond} (h : w ∈ WT) : (w.onTables && w.keeps) = true ∨ ∃ ty, w = .arrayClass ty := good_of_word (List.mem_filter.mp h).2
def cn0 : String := "LostZeros$Groups"
def cn1 : String := "LostZeros$History"
def cn2 : String := "LostZeros$Table"
def cn3 : String := "LostZeros$Text"
def cn4 : String := "LostZeros$Walk"
def cn5 : String := "LostZeros"
def cn6 : String := "LostZeros$Grammar"
def cn7 : String := "LostZerosLaw"
def cn (c : Nat) : String := match c with
  | 0 => cn0
  | 1 => cn1
  | 2 => cn2
  | 3 => cn3
  | 4 => cn4
  | 5 => cn5
  | 6 => cn6
  | 7 => cn7
  | _ => ""
def cT0 : u_T := fun k => match k with
  | 0 => ("LostZeros$Groups", "first", "[I", true)
  | _ => ("LostZeros$Groups", "distance", "[I", true)
def cY0 : Nat → FieldType := fun k => match k with
  | 0 => .array .int
  | _ => .array .int
def cT1 : u_T := fun k => match k with
  | 0 => ("LostZeros$History", "rows", "[[I", true)
  | _ => ("LostZeros$History", "states", "I", false)
def cY1 : Nat → FieldType := fun k => match k with
  | 0 => .array (.array .int)
  | _ => .int
def cT2 : u_T := fun k => match k with
  | _ => ("LostZeros$Table", "row", "[I", true)
def cY2 : Nat → FieldType := fun k => match k with
  | _ => .array .int
def cT3 : u_T := fun k => match k with
  | 0 => ("LostZeros$Text", "signs", "[I", true)
  | _ => ("LostZeros$Text", "length", "I", false)
def cY3 : Nat → FieldType := fun k => match k with
  | 0 => .array .int
  | _ => .int
def cT4 : u_T := fun k => match k with
  | 0 => ("LostZeros$Walk", "met", "[Z", true)
  | 1 => ("LostZeros$Walk", "place", "[I", true)
  | 2 => ("LostZeros$Walk", "line", "[I", true)
  | _ => ("LostZeros$Walk", "waiting", "I", false)
def cY4 : Nat → FieldType := fun k => match k with
  | 0 => .array .boolean
  | 1 => .array .int
  | 2 => .array .int
  | _ => .int
def cT5 : u_T := fun k => match k with
  | 0 => ("LostZeros", "table", "LLostZeros$Table;", true)
  | 1 => ("LostZeros", "history", "LLostZeros$History;", true)
  | 2 => ("LostZeros", "snapshot", "[I", true)
  | 3 => ("LostZeros", "saved", "Z", false)
  | 4 => ("LostZeros", "pad", "LLostZeros$Text;", true)
  | 5 => ("LostZeros", "stop", "[I", true)
  | 6 => ("LostZeros", "stopped", "Z", false)
  | 7 => ("LostZeros", "groups", "LLostZeros$Groups;", true)
  | 8 => ("LostZeros", "walk", "LLostZeros$Walk;", true)
  | 9 => ("LostZeros", "rest", "LLostZeros$Table;", true)
  | _ => ("LostZeros", "written", "LLostZeros$Text;", true)
def cY5 : Nat → FieldType := fun k => match k with
  | 0 => .object "LostZeros$Table"
  | 1 => .object "LostZeros$History"
  | 2 => .array .int
  | 3 => .boolean
  | 4 => .object "LostZeros$Text"
  | 5 => .array .int
  | 6 => .boolean
  | 7 => .object "LostZeros$Groups"
  | 8 => .object "LostZeros$Walk"
  | 9 => .object "LostZeros$Table"
  | _ => .object "LostZeros$Text"
def cN (c : Nat) : Nat := match c with
  | 0 => 2
  | 1 => 2
  | 2 => 1
  | 3 => 2
  | 4 => 4
  | 5 => 11
  | _ => 0
abbrev cls : List vw_C := [(cn0, cT0, 2), (cn1, cT1, 2), (cn2, cT2, 1), (cn3, cT3, 2), (cn4, cT4, 4), (cn5, cT5, 11)]
def cT (c : Nat) : u_T := match c with
  | 0 => cT0
  | 1 => cT1
  | 2 => cT2
  | 3 => cT3
  | 4 => cT4
  | 5 => cT5
  | _ => cT0
def cY (c : Nat) : Nat → FieldType := match c with
  | 0 => cY0
  | 1 => cY1
  | 2 => cY2
  | 3 => cY3
  | 4 => cY4
  | 5 => cY5
  | _ => cY0
/-- is field k of class c a reference -/
def cR (c k : Nat) : Bool := match c with
  | 0 => match k with
    | 0 => true
    | 1 => true
    | _ => false
  | 1 => match k with
    | 0 => true
    | 1 => false
    | _ => false
  | 2 => match k with
    | 0 => true
    | _ => false
  | 3 => match k with
    | 0 => true
    | 1 => false
    | _ => false
  | 4 => match k with
    | 0 => true
    | 1 => true
    | 2 => true
    | 3 => false
    | _ => false
  | 5 => match k with
    | 0 => true
    | 1 => true
    | 2 => true
    | 3 => false
    | 4 => true
    | 5 => true
    | 6 => false
    | 7 => true
    | 8 => true
    | 9 => true
    | 10 => true
    | _ => false
  | _ => false
def lpos (c k : Nat) : Nat := match c with
  | 0 => match k with
    | 0 => 86
    | 1 => 88
    | _ => 0
  | 1 => match k with
    | 0 => 60
    | 1 => 62
    | _ => 0
  | 2 => match k with
    | 0 => 46
    | _ => 0
  | 3 => match k with
    | 0 => 73
    | 1 => 75
    | _ => 0
  | 4 => match k with
    | 0 => 101
    | 1 => 103
    | 2 => 105
    | 3 => 107
    | _ => 0
  | 5 => match k with
    | 0 => 122
    | 1 => 124
    | 2 => 126
    | 3 => 128
    | 4 => 130
    | 5 => 132
    | 6 => 134
    | 7 => 136
    | 8 => 138
    | 9 => 140
    | 10 => 142
    | _ => 0
  | _ => 0
def cchk (c : Nat) : Bool := (List.range (cN c)).all fun k => memW (lpos c k) (u_lay (cn c) (cT c) k) && decide (parseFieldDescriptor (cT c k).2.2.1 = some (cY c k)) && decide ((cT c k).1 = cn c) && (List.range (cN c)).all fun j => Nat.beq j k || decide ((cT c j).2.1 ≠ (cT c k).2.1)
set_option maxRecDepth 100000 in
theorem cchk_all : (List.range 6).all cchk = true := by decide +kernel
theorem cls_at : ∀ c, c < 6 → cls[c]? = some (cn c, cT c, cN c) := fun c h => match c, h with
  | 0, _ => rfl
  | 1, _ => rfl
  | 2, _ => rfl
  | 3, _ => rfl
  | 4, _ => rfl
  | 5, _ => rfl
  | _ + 6, h => absurd h (by omega)
/-! methods: name, code, locals, answer, class, parameters, kind (0 instance, 1 static, 2 init), frames, locals room, places of its words -/
abbrev kLaw_law : Nat := 0
abbrev kLaw_lot : Nat := 1
abbrev kLaw_low : Nat := 2
abbrev kLaw_look : Nat := 3
abbrev kLaw_many : Nat := 4
abbrev kLaw_holds : Nat := 5
abbrev kLaw_would : Nat := 6
abbrev kLaw_digits : Nat := 7
abbrev kLaw_types : Nat := 8
abbrev kLaw_takes : Nat := 9
abbrev kLaw_deeds : Nat := 10
abbrev kLaw_acts : Nat := 11
abbrev kGrammar_firstFault : Nat := 12
abbrev kGrammar_stateAfter : Nat := 13
abbrev kGrammar_firstDigit : Nat := 14
abbrev kGrammar_nextPart : Nat := 15
abbrev kGrammar_isDigit : Nat := 16
abbrev kGrammar_parts : Nat := 17
abbrev kGrammar_startOf : Nat := 18
abbrev kGrammar_numberAt : Nat := 19
abbrev kGroups_init : Nat := 20
abbrev kGroups_join : Nat := 21
abbrev kGroups_joinTwo : Nat := 22
abbrev kGroups_together : Nat := 23
abbrev kGroups_way : Nat := 24
abbrev kGroups_pointsWith : Nat := 25
abbrev kGroups_tapesWith : Nat := 26
abbrev kGroups_newPairs : Nat := 27
abbrev kGroups_pointsAheadOf : Nat := 28
abbrev kGroups_farFromFirst : Nat := 29
abbrev kGroups_greatestWay : Nat := 30
abbrev kGroups_clusters : Nat := 31
abbrev kGroups_clustersRead : Nat := 32
abbrev kGroups_isLowest : Nat := 33
abbrev kHistory_init : Nat := 34
abbrev kHistory_states : Nat := 35
abbrev kHistory_record : Nat := 36
abbrev kHistory_dropOldest : Nat := 37
abbrev kHistory_bringBack : Nat := 38
abbrev kTable_init : Nat := 39
abbrev kTable_tapes : Nat := 40
abbrev kTable_isTape : Nat := 41
abbrev kTable_at : Nat := 42
abbrev kTable_has : Nat := 43
abbrev kTable_put : Nat := 44
abbrev kTable_bring : Nat := 45
abbrev kTable_remove : Nat := 46
abbrev kTable_readings : Nat := 47
abbrev kTable_readingsOf : Nat := 48
abbrev kTable_readingsAt : Nat := 49
abbrev kTable_barePoints : Nat := 50
abbrev kTable_bareTapes : Nat := 51
abbrev kTable_pointOfLeast : Nat := 52
abbrev kTable_pointOfGreatest : Nat := 53
abbrev kTable_spread : Nat := 54
abbrev kTable_tally : Nat := 55
abbrev kTable_tallied : Nat := 56
abbrev kTable_copyTo : Nat := 57
abbrev kTable_copyFrom : Nat := 58
abbrev kText_init : Nat := 59
abbrev kText_length : Nat := 60
abbrev kText_at : Nat := 61
abbrev kText_empty : Nat := 62
abbrev kText_add : Nat := 63
abbrev kText_addNumber : Nat := 64
abbrev kWalk_init : Nat := 65
abbrev kWalk_meets : Nat := 66
abbrev kWalk_placeOf : Nat := 67
abbrev kWalk_goFromPoint : Nat := 68
abbrev kWalk_goFromTape : Nat := 69
abbrev kWalk_meet : Nat := 70
abbrev kX_init : Nat := 71
abbrev kX_tape : Nat := 72
abbrev kX_drop : Nat := 73
abbrev kX_shift : Nat := 74
abbrev kX_cut : Nat := 75
abbrev kX_glue : Nat := 76
abbrev kX_read : Nat := 77
abbrev kX_lose : Nat := 78
abbrev kX_append : Nat := 79
abbrev kX_clear : Nat := 80
abbrev kX_fault : Nat := 81
abbrev kX_take : Nat := 82
abbrev kX_why : Nat := 83
abbrev kX_sign : Nat := 84
abbrev kX_reading : Nat := 85
abbrev kX_difference : Nat := 86
abbrev kX_follows : Nat := 87
abbrev kX_zeros : Nat := 88
abbrev kX_whyNot : Nat := 89
abbrev kX_holding : Nat := 90
abbrev kX_point : Nat := 91
abbrev kX_tapeOf : Nat := 92
abbrev kX_count : Nat := 93
abbrev kX_known : Nat := 94
abbrev kX_ifRead : Nat := 95
abbrev kX_bestReading : Nat := 96
abbrev kX_undo : Nat := 97
abbrev kX_save : Nat := 98
abbrev kX_restore : Nat := 99
abbrev kX_isPoint : Nat := 100
abbrev kX_isNode : Nat := 101
abbrev kX_isNumber : Nat := 102
abbrev kX_refuse : Nat := 103
abbrev kX_staysInRange : Nat := 104
abbrev kX_moveFrom : Nat := 105
abbrev kX_copyMissing : Nat := 106
abbrev kX_errorOf : Nat := 107
abbrev kX_reasonAgainst : Nat := 108
abbrev kX_enter : Nat := 109
abbrev kX_takePart : Nat := 110
abbrev kX_stopAt : Nat := 111
abbrev kX_write : Nat := 112
abbrev kX_tell : Nat := 113
abbrev kX_numberOfGroups : Nat := 114
abbrev kX_takeEndsAway : Nat := 115
abbrev kX_takeEndsOnce : Nat := 116
abbrev kX_holdingOfRest : Nat := 117
abbrev MI : Type := MethodName × ByteArray × Nat × Option FieldType × Nat × Nat × Nat × Nat × Nat × Nat × Nat × Nat × Nat
def mi0 : MI := (x, code, 13, some .boolean, 7, 1, 0, 9, 237, 0, 21, 0, 0)
def mi1 : MI := (⟨cn7, "lot", "([II)I"⟩, method_2_code, 2, some .int, 7, 2, 1, 0, 0, 277, 21, 276, 0)
def mi2 : MI := (⟨cn7, "low", "(II)I"⟩, method_3_code, 2, some .int, 7, 2, 1, 0, 0, 281, 21, 280, 0)
def mi3 : MI := (⟨cn7, "look", "(LLostZeros;)J"⟩, method_4_code, 4, some .long, 7, 1, 1, 6, 134, 285, 21, 284, 0)
def mi4 : MI := (⟨cn7, "many", "(LLostZeros;I)I"⟩, method_5_code, 4, some .int, 7, 2, 1, 3, 67, 418, 21, 417, 0)
def mi5 : MI := (⟨cn7, "holds", "(LLostZeros;)Z"⟩, method_6_code, 17, some .boolean, 7, 1, 1, 6, 138, 304, 21, 303, 0)
def mi6 : MI := (⟨cn7, "would", "(LLostZeros;I)Z"⟩, method_7_code, 16, some .boolean, 7, 2, 1, 6, 134, 442, 21, 441, 0)
def mi7 : MI := (⟨cn7, "digits", "(LLostZeros;I)Z"⟩, method_8_code, 3, some .boolean, 7, 2, 1, 2, 42, 560, 21, 559, 0)
def mi8 : MI := (⟨cn7, "types", "(LLostZeros;I)Z"⟩, method_9_code, 6, some .boolean, 7, 2, 1, 6, 134, 549, 21, 548, 0)
def mi9 : MI := (⟨cn7, "takes", "(LLostZeros;I)Z"⟩, method_10_code, 16, some .boolean, 7, 2, 1, 7, 168, 546, 21, 545, 0)
def mi10 : MI := (⟨cn7, "deeds", "(LLostZeros;II)Z"⟩, method_11_code, 19, some .boolean, 7, 3, 1, 6, 134, 510, 21, 509, 0)
def mi11 : MI := (⟨cn7, "acts", "(LLostZeros;II)Z"⟩, method_12_code, 15, some .boolean, 7, 3, 1, 8, 203, 473, 21, 472, 0)
def mi12 : MI := (⟨cn6, "firstFault", "(LLostZeros$Text;)I"⟩, prog_2_method_2_code, 3, some .int, 6, 1, 1, 3, 61, 567, 28, 566, 0)
def mi13 : MI := (⟨cn6, "stateAfter", "(II)I"⟩, prog_2_method_3_code, 2, some .int, 6, 2, 1, 2, 40, 572, 28, 571, 0)
def mi14 : MI := (⟨cn6, "firstDigit", "(I)I"⟩, prog_2_method_4_code, 1, some .int, 6, 1, 1, 1, 20, 575, 28, 574, 0)
def mi15 : MI := (⟨cn6, "nextPart", "(I)I"⟩, prog_2_method_5_code, 1, some .int, 6, 1, 1, 0, 0, 581, 28, 580, 0)
def mi16 : MI := (⟨cn6, "isDigit", "(I)Z"⟩, prog_2_method_6_code, 1, some .boolean, 6, 1, 1, 0, 0, 578, 28, 577, 0)
def mi17 : MI := (⟨cn6, "parts", "(LLostZeros$Text;)I"⟩, prog_2_method_7_code, 3, some .int, 6, 1, 1, 1, 21, 588, 28, 587, 0)
def mi18 : MI := (⟨cn6, "startOf", "(LLostZeros$Text;I)I"⟩, prog_2_method_8_code, 5, some .int, 6, 2, 1, 1, 21, 591, 28, 590, 0)
def mi19 : MI := (⟨cn6, "numberAt", "(LLostZeros$Text;I)I"⟩, prog_2_method_9_code, 5, some .int, 6, 2, 1, 1, 21, 598, 28, 597, 0)
def mi20 : MI := (⟨cn0, "<init>", "()V"⟩, prog_3_method_1_code, 1, none, 0, 0, 2, 1, 20, 82, 26, 81, 0)
def mi21 : MI := (⟨cn0, "join", "(LLostZeros$Table;)V"⟩, prog_3_method_2_code, 4, none, 0, 1, 0, 2, 46, 156, 26, 154, 155)
def mi22 : MI := (⟨cn0, "joinTwo", "(III)V"⟩, prog_3_method_3_code, 7, none, 0, 3, 0, 1, 20, 173, 26, 172, 1)
def mi23 : MI := (⟨cn0, "together", "(II)Z"⟩, prog_3_method_4_code, 3, some .boolean, 0, 2, 0, 1, 20, 188, 26, 186, 187)
def mi24 : MI := (⟨cn0, "way", "(II)I"⟩, prog_3_method_5_code, 3, some .int, 0, 2, 0, 1, 20, 210, 26, 208, 209)
def mi25 : MI := (⟨cn0, "pointsWith", "(I)I"⟩, prog_3_method_6_code, 4, some .int, 0, 1, 0, 2, 42, 428, 26, 426, 427)
def mi26 : MI := (⟨cn0, "tapesWith", "(II)I"⟩, prog_3_method_7_code, 5, some .int, 0, 2, 0, 2, 42, 410, 26, 408, 409)
def mi27 : MI := (⟨cn0, "newPairs", "(II)I"⟩, prog_3_method_8_code, 4, some .int, 0, 2, 0, 3, 65, 461, 26, 459, 460)
def mi28 : MI := (⟨cn0, "pointsAheadOf", "(I)I"⟩, prog_3_method_9_code, 5, some .int, 0, 1, 0, 2, 42, 432, 26, 430, 431)
def mi29 : MI := (⟨cn0, "farFromFirst", "(I)I"⟩, prog_3_method_10_code, 4, some .int, 0, 1, 0, 2, 42, 206, 26, 204, 205)
def mi30 : MI := (⟨cn0, "greatestWay", "()I"⟩, prog_3_method_11_code, 4, some .int, 0, 0, 0, 3, 65, 202, 26, 200, 201)
def mi31 : MI := (⟨cn0, "clusters", "()I"⟩, prog_3_method_12_code, 3, some .int, 0, 0, 0, 3, 64, 180, 26, 178, 179)
def mi32 : MI := (⟨cn0, "clustersRead", "(LLostZeros$Table;)I"⟩, prog_3_method_13_code, 4, some .int, 0, 1, 0, 3, 68, 192, 26, 190, 191)
def mi33 : MI := (⟨cn0, "isLowest", "(I)Z"⟩, prog_3_method_14_code, 3, some .boolean, 0, 1, 0, 2, 42, 184, 26, 183, 2)
def mi34 : MI := (⟨cn1, "<init>", "()V"⟩, prog_4_method_1_code, 1, none, 1, 0, 2, 1, 20, 54, 24, 53, 0)
def mi35 : MI := (⟨cn1, "states", "()I"⟩, prog_4_method_2_code, 1, some .int, 1, 0, 0, 0, 0, 240, 24, 238, 239)
def mi36 : MI := (⟨cn1, "record", "(LLostZeros$Table;)V"⟩, prog_4_method_3_code, 2, none, 1, 1, 0, 1, 22, 268, 24, 266, 267)
def mi37 : MI := (⟨cn1, "dropOldest", "()V"⟩, prog_4_method_4_code, 3, none, 1, 0, 0, 0, 0, 272, 24, 271, 3)
def mi38 : MI := (⟨cn1, "bringBack", "(LLostZeros$Table;)V"⟩, prog_4_method_5_code, 2, none, 1, 1, 0, 1, 22, 248, 24, 246, 247)
def mi39 : MI := (⟨cn2, "<init>", "()V"⟩, prog_5_method_1_code, 2, none, 2, 0, 2, 1, 20, 41, 23, 40, 0)
def mi40 : MI := (⟨cn2, "tapes", "()I"⟩, prog_5_method_2_code, 1, some .int, 2, 0, 0, 0, 0, 160, 23, 158, 159)
def mi41 : MI := (⟨cn2, "isTape", "(I)Z"⟩, prog_5_method_3_code, 2, some .boolean, 2, 1, 0, 0, 0, 295, 23, 293, 294)
def mi42 : MI := (⟨cn2, "at", "(II)I"⟩, prog_5_method_4_code, 4, some .int, 2, 2, 0, 0, 0, 168, 23, 166, 167)
def mi43 : MI := (⟨cn2, "has", "(II)Z"⟩, prog_5_method_5_code, 3, some .boolean, 2, 2, 0, 1, 23, 164, 23, 162, 163)
def mi44 : MI := (⟨cn2, "put", "(III)V"⟩, prog_5_method_6_code, 4, none, 2, 3, 0, 0, 0, 348, 23, 346, 347)
def mi45 : MI := (⟨cn2, "bring", "()I"⟩, prog_5_method_7_code, 1, some .int, 2, 0, 0, 0, 0, 481, 23, 479, 480)
def mi46 : MI := (⟨cn2, "remove", "(I)V"⟩, prog_5_method_8_code, 4, none, 2, 1, 0, 1, 23, 538, 23, 536, 537)
def mi47 : MI := (⟨cn2, "readings", "()I"⟩, prog_5_method_9_code, 3, some .int, 2, 0, 0, 3, 68, 215, 23, 213, 214)
def mi48 : MI := (⟨cn2, "readingsOf", "(I)I"⟩, prog_5_method_10_code, 4, some .int, 2, 1, 0, 2, 45, 219, 23, 217, 218)
def mi49 : MI := (⟨cn2, "readingsAt", "(I)I"⟩, prog_5_method_11_code, 4, some .int, 2, 1, 0, 2, 45, 196, 23, 194, 195)
def mi50 : MI := (⟨cn2, "barePoints", "()I"⟩, prog_5_method_12_code, 3, some .int, 2, 0, 0, 3, 68, 223, 23, 221, 222)
def mi51 : MI := (⟨cn2, "bareTapes", "()I"⟩, prog_5_method_13_code, 3, some .int, 2, 0, 0, 3, 68, 228, 23, 226, 227)
def mi52 : MI := (⟨cn2, "pointOfLeast", "(I)I"⟩, prog_5_method_14_code, 4, some .int, 2, 1, 0, 2, 45, 396, 23, 394, 395)
def mi53 : MI := (⟨cn2, "pointOfGreatest", "(I)I"⟩, prog_5_method_15_code, 4, some .int, 2, 1, 0, 2, 45, 400, 23, 398, 399)
def mi54 : MI := (⟨cn2, "spread", "(I)I"⟩, prog_5_method_16_code, 2, some .int, 2, 1, 0, 3, 68, 404, 23, 402, 403)
def mi55 : MI := (⟨cn2, "tally", "(I)V"⟩, prog_5_method_17_code, 2, none, 2, 1, 0, 0, 0, 503, 23, 501, 502)
def mi56 : MI := (⟨cn2, "tallied", "(I)I"⟩, prog_5_method_18_code, 2, some .int, 2, 1, 0, 0, 0, 232, 23, 230, 231)
def mi57 : MI := (⟨cn2, "copyTo", "([I)V"⟩, prog_5_method_19_code, 3, none, 2, 1, 0, 0, 0, 260, 23, 258, 259)
def mi58 : MI := (⟨cn2, "copyFrom", "([I)V"⟩, prog_5_method_20_code, 3, none, 2, 1, 0, 0, 0, 252, 23, 250, 251)
def mi59 : MI := (⟨cn3, "<init>", "(I)V"⟩, prog_6_method_1_code, 2, none, 3, 1, 2, 1, 20, 69, 25, 68, 0)
def mi60 : MI := (⟨cn3, "length", "()I"⟩, prog_6_method_2_code, 1, some .int, 3, 0, 0, 0, 0, 236, 25, 234, 235)
def mi61 : MI := (⟨cn3, "at", "(I)I"⟩, prog_6_method_3_code, 2, some .int, 3, 1, 0, 0, 0, 329, 25, 327, 328)
def mi62 : MI := (⟨cn3, "empty", "()V"⟩, prog_6_method_4_code, 1, none, 3, 0, 0, 0, 0, 316, 25, 314, 315)
def mi63 : MI := (⟨cn3, "add", "(I)V"⟩, prog_6_method_5_code, 2, none, 3, 1, 0, 0, 0, 320, 25, 318, 319)
def mi64 : MI := (⟨cn3, "addNumber", "(I)V"⟩, prog_6_method_6_code, 3, none, 3, 1, 0, 1, 21, 324, 25, 322, 323)
def mi65 : MI := (⟨cn4, "<init>", "()V"⟩, prog_7_method_1_code, 1, none, 4, 0, 2, 1, 20, 95, 27, 94, 0)
def mi66 : MI := (⟨cn4, "meets", "(LLostZeros$Table;II)Z"⟩, prog_7_method_2_code, 5, some .boolean, 4, 3, 0, 3, 68, 356, 27, 354, 355)
def mi67 : MI := (⟨cn4, "placeOf", "(I)I"⟩, prog_7_method_3_code, 2, some .int, 4, 1, 0, 1, 20, 371, 27, 369, 370)
def mi68 : MI := (⟨cn4, "goFromPoint", "(LLostZeros$Table;I)V"⟩, prog_7_method_4_code, 4, none, 4, 2, 0, 2, 45, 365, 27, 364, 9)
def mi69 : MI := (⟨cn4, "goFromTape", "(LLostZeros$Table;I)V"⟩, prog_7_method_5_code, 4, none, 4, 2, 0, 2, 45, 376, 27, 375, 10)
def mi70 : MI := (⟨cn4, "meet", "(II)V"⟩, prog_7_method_6_code, 3, none, 4, 2, 0, 1, 20, 361, 27, 360, 8)
def mi71 : MI := (⟨cn5, "<init>", "()V"⟩, prog_1_method_1_code, 1, none, 5, 0, 2, 2, 41, 33, 22, 32, 0)
def mi72 : MI := (⟨cn5, "tape", "()I"⟩, prog_1_method_2_code, 1, some .int, 5, 0, 0, 2, 43, 477, 22, 475, 476)
def mi73 : MI := (⟨cn5, "drop", "(I)I"⟩, prog_1_method_3_code, 3, some .int, 5, 1, 0, 3, 68, 543, 22, 541, 542)
def mi74 : MI := (⟨cn5, "shift", "(II)I"⟩, prog_1_method_4_code, 4, some .int, 5, 2, 0, 3, 68, 514, 22, 512, 513)
def mi75 : MI := (⟨cn5, "cut", "(II)I"⟩, prog_1_method_5_code, 4, some .int, 5, 2, 0, 3, 68, 522, 22, 520, 521)
def mi76 : MI := (⟨cn5, "glue", "(II)I"⟩, prog_1_method_6_code, 5, some .int, 5, 2, 0, 3, 70, 530, 22, 528, 529)
def mi77 : MI := (⟨cn5, "read", "(III)I"⟩, prog_1_method_7_code, 5, some .int, 5, 3, 0, 5, 118, 487, 22, 485, 486)
def mi78 : MI := (⟨cn5, "lose", "(II)I"⟩, prog_1_method_8_code, 3, some .int, 5, 2, 0, 4, 90, 507, 22, 505, 506)
def mi79 : MI := (⟨cn5, "append", "(I)I"⟩, prog_1_method_9_code, 2, some .int, 5, 1, 0, 1, 21, 557, 22, 555, 556)
def mi80 : MI := (⟨cn5, "clear", "()I"⟩, prog_1_method_10_code, 2, some .int, 5, 0, 0, 1, 20, 553, 22, 551, 552)
def mi81 : MI := (⟨cn5, "fault", "()I"⟩, prog_1_method_11_code, 1, some .int, 5, 0, 0, 4, 83, 564, 22, 562, 563)
def mi82 : MI := (⟨cn5, "take", "()I"⟩, prog_1_method_12_code, 6, some .int, 5, 0, 0, 6, 143, 585, 22, 583, 584)
def mi83 : MI := (⟨cn5, "why", "(I)I"⟩, prog_1_method_13_code, 2, some .int, 5, 1, 0, 0, 0, 606, 22, 604, 605)
def mi84 : MI := (⟨cn5, "sign", "(II)I"⟩, prog_1_method_14_code, 3, some .int, 5, 2, 0, 3, 67, 308, 22, 306, 307)
def mi85 : MI := (⟨cn5, "reading", "(II)I"⟩, prog_1_method_15_code, 3, some .int, 5, 2, 0, 2, 45, 291, 22, 289, 290)
def mi86 : MI := (⟨cn5, "difference", "(III)I"⟩, prog_1_method_16_code, 4, some .int, 5, 3, 0, 4, 92, 414, 22, 412, 413)
def mi87 : MI := (⟨cn5, "follows", "(II)I"⟩, prog_1_method_17_code, 3, some .int, 5, 2, 0, 3, 69, 380, 22, 378, 379)
def mi88 : MI := (⟨cn5, "zeros", "(II)I"⟩, prog_1_method_18_code, 3, some .int, 5, 2, 0, 3, 69, 470, 22, 468, 469)
def mi89 : MI := (⟨cn5, "whyNot", "(III)I"⟩, prog_1_method_19_code, 4, some .int, 5, 3, 0, 4, 94, 446, 22, 444, 445)
def mi90 : MI := (⟨cn5, "holding", "(I)I"⟩, prog_1_method_20_code, 3, some .int, 5, 1, 0, 5, 116, 333, 22, 331, 332)
def mi91 : MI := (⟨cn5, "point", "(II)I"⟩, prog_1_method_21_code, 3, some .int, 5, 2, 0, 3, 69, 424, 22, 422, 423)
def mi92 : MI := (⟨cn5, "tapeOf", "(II)I"⟩, prog_1_method_22_code, 3, some .int, 5, 2, 0, 4, 89, 392, 22, 390, 391)
def mi93 : MI := (⟨cn5, "count", "(I)I"⟩, prog_1_method_23_code, 2, some .int, 5, 1, 0, 5, 113, 148, 22, 146, 147)
def mi94 : MI := (⟨cn5, "known", "()D"⟩, prog_1_method_24_code, 3, some .double, 5, 0, 0, 3, 69, 437, 22, 435, 436)
def mi95 : MI := (⟨cn5, "ifRead", "(II)I"⟩, prog_1_method_25_code, 3, some .int, 5, 2, 0, 4, 88, 457, 22, 455, 456)
def mi96 : MI := (⟨cn5, "bestReading", "()I"⟩, prog_1_method_26_code, 6, some .int, 5, 0, 0, 4, 88, 466, 22, 464, 465)
def mi97 : MI := (⟨cn5, "undo", "()I"⟩, prog_1_method_27_code, 1, some .int, 5, 0, 0, 2, 43, 244, 22, 242, 243)
def mi98 : MI := (⟨cn5, "save", "()I"⟩, prog_1_method_28_code, 1, some .int, 5, 0, 0, 4, 90, 256, 22, 254, 255)
def mi99 : MI := (⟨cn5, "restore", "()I"⟩, prog_1_method_29_code, 1, some .int, 5, 0, 0, 4, 90, 264, 22, 262, 263)
def mi100 : MI := (⟨cn5, "isPoint", "(I)Z"⟩, prog_1_method_30_code, 1, some .boolean, 5, 1, 1, 0, 0, 298, 22, 297, 0)
def mi101 : MI := (⟨cn5, "isNode", "(I)Z"⟩, prog_1_method_31_code, 1, some .boolean, 5, 1, 1, 0, 0, 176, 22, 175, 0)
def mi102 : MI := (⟨cn5, "isNumber", "(I)Z"⟩, prog_1_method_32_code, 1, some .boolean, 5, 1, 1, 0, 0, 449, 22, 448, 0)
def mi103 : MI := (⟨cn5, "refuse", "(I)I"⟩, prog_1_method_33_code, 2, some .int, 5, 1, 0, 1, 21, 499, 22, 498, 15)
def mi104 : MI := (⟨cn5, "staysInRange", "(II)Z"⟩, prog_1_method_34_code, 4, some .boolean, 5, 2, 0, 2, 45, 518, 22, 517, 16)
def mi105 : MI := (⟨cn5, "moveFrom", "(III)I"⟩, prog_1_method_35_code, 7, some .int, 5, 3, 0, 1, 23, 526, 22, 525, 17)
def mi106 : MI := (⟨cn5, "copyMissing", "(III)I"⟩, prog_1_method_36_code, 6, some .int, 5, 3, 0, 2, 45, 534, 22, 533, 18)
def mi107 : MI := (⟨cn5, "errorOf", "(III)I"⟩, prog_1_method_37_code, 4, some .int, 5, 3, 0, 4, 90, 491, 22, 490, 13)
def mi108 : MI := (⟨cn5, "reasonAgainst", "(III)I"⟩, prog_1_method_38_code, 6, some .int, 5, 3, 0, 3, 69, 453, 22, 452, 12)
def mi109 : MI := (⟨cn5, "enter", "(III)I"⟩, prog_1_method_39_code, 5, some .int, 5, 3, 0, 4, 94, 495, 22, 494, 14)
def mi110 : MI := (⟨cn5, "takePart", "(I)I"⟩, prog_1_method_40_code, 6, some .int, 5, 1, 0, 5, 118, 595, 22, 594, 19)
def mi111 : MI := (⟨cn5, "stopAt", "(III)V"⟩, prog_1_method_41_code, 4, none, 5, 3, 0, 0, 0, 602, 22, 601, 20)
def mi112 : MI := (⟨cn5, "write", "(I)V"⟩, prog_1_method_42_code, 3, none, 5, 1, 0, 2, 45, 312, 22, 311, 4)
def mi113 : MI := (⟨cn5, "tell", "(II)I"⟩, prog_1_method_43_code, 3, some .int, 5, 2, 0, 2, 42, 384, 22, 383, 11)
def mi114 : MI := (⟨cn5, "numberOfGroups", "(I)I"⟩, prog_1_method_44_code, 3, some .int, 5, 1, 0, 4, 91, 152, 22, 151, 0)
def mi115 : MI := (⟨cn5, "takeEndsAway", "()I"⟩, prog_1_method_45_code, 4, some .int, 5, 0, 0, 4, 91, 337, 22, 336, 5)
def mi116 : MI := (⟨cn5, "takeEndsOnce", "()I"⟩, prog_1_method_46_code, 4, some .int, 5, 0, 0, 3, 68, 341, 22, 340, 6)
def mi117 : MI := (⟨cn5, "holdingOfRest", "()I"⟩, prog_1_method_47_code, 5, some .int, 5, 0, 0, 4, 92, 352, 22, 351, 7)
def minf (k : Nat) : MI := bif Nat.ble k 58 then (bif Nat.ble k 28 then (bif Nat.ble k 13 then (bif Nat.ble k 6 then (bif Nat.ble k 2 then (bif Nat.ble k 0 then (bif Nat.beq k 0 then mi0 else mi0) else (bif Nat.ble k 1 then (bif Nat.beq k 1 then mi1 else mi0) else (bif Nat.beq k 2 then mi2 else mi0))) else (bif Nat.ble k 4 then (bif Nat.ble k 3 then (bif Nat.beq k 3 then mi3 else mi0) else (bif Nat.beq k 4 then mi4 else mi0)) else (bif Nat.ble k 5 then (bif Nat.beq k 5 then mi5 else mi0) else (bif Nat.beq k 6 then mi6 else mi0)))) else (bif Nat.ble k 9 then (bif Nat.ble k 7 then (bif Nat.beq k 7 then mi7 else mi0) else (bif Nat.ble k 8 then (bif Nat.beq k 8 then mi8 else mi0) else (bif Nat.beq k 9 then mi9 else mi0))) else (bif Nat.ble k 11 then (bif Nat.ble k 10 then (bif Nat.beq k 10 then mi10 else mi0) else (bif Nat.beq k 11 then mi11 else mi0)) else (bif Nat.ble k 12 then (bif Nat.beq k 12 then mi12 else mi0) else (bif Nat.beq k 13 then mi13 else mi0))))) else (bif Nat.ble k 20 then (bif Nat.ble k 16 then (bif Nat.ble k 14 then (bif Nat.beq k 14 then mi14 else mi0) else (bif Nat.ble k 15 then (bif Nat.beq k 15 then mi15 else mi0) else (bif Nat.beq k 16 then mi16 else mi0))) else (bif Nat.ble k 18 then (bif Nat.ble k 17 then (bif Nat.beq k 17 then mi17 else mi0) else (bif Nat.beq k 18 then mi18 else mi0)) else (bif Nat.ble k 19 then (bif Nat.beq k 19 then mi19 else mi0) else (bif Nat.beq k 20 then mi20 else mi0)))) else (bif Nat.ble k 24 then (bif Nat.ble k 22 then (bif Nat.ble k 21 then (bif Nat.beq k 21 then mi21 else mi0) else (bif Nat.beq k 22 then mi22 else mi0)) else (bif Nat.ble k 23 then (bif Nat.beq k 23 then mi23 else mi0) else (bif Nat.beq k 24 then mi24 else mi0))) else (bif Nat.ble k 26 then (bif Nat.ble k 25 then (bif Nat.beq k 25 then mi25 else mi0) else (bif Nat.beq k 26 then mi26 else mi0)) else (bif Nat.ble k 27 then (bif Nat.beq k 27 then mi27 else mi0) else (bif Nat.beq k 28 then mi28 else mi0)))))) else (bif Nat.ble k 43 then (bif Nat.ble k 35 then (bif Nat.ble k 31 then (bif Nat.ble k 29 then (bif Nat.beq k 29 then mi29 else mi0) else (bif Nat.ble k 30 then (bif Nat.beq k 30 then mi30 else mi0) else (bif Nat.beq k 31 then mi31 else mi0))) else (bif Nat.ble k 33 then (bif Nat.ble k 32 then (bif Nat.beq k 32 then mi32 else mi0) else (bif Nat.beq k 33 then mi33 else mi0)) else (bif Nat.ble k 34 then (bif Nat.beq k 34 then mi34 else mi0) else (bif Nat.beq k 35 then mi35 else mi0)))) else (bif Nat.ble k 39 then (bif Nat.ble k 37 then (bif Nat.ble k 36 then (bif Nat.beq k 36 then mi36 else mi0) else (bif Nat.beq k 37 then mi37 else mi0)) else (bif Nat.ble k 38 then (bif Nat.beq k 38 then mi38 else mi0) else (bif Nat.beq k 39 then mi39 else mi0))) else (bif Nat.ble k 41 then (bif Nat.ble k 40 then (bif Nat.beq k 40 then mi40 else mi0) else (bif Nat.beq k 41 then mi41 else mi0)) else (bif Nat.ble k 42 then (bif Nat.beq k 42 then mi42 else mi0) else (bif Nat.beq k 43 then mi43 else mi0))))) else (bif Nat.ble k 50 then (bif Nat.ble k 46 then (bif Nat.ble k 44 then (bif Nat.beq k 44 then mi44 else mi0) else (bif Nat.ble k 45 then (bif Nat.beq k 45 then mi45 else mi0) else (bif Nat.beq k 46 then mi46 else mi0))) else (bif Nat.ble k 48 then (bif Nat.ble k 47 then (bif Nat.beq k 47 then mi47 else mi0) else (bif Nat.beq k 48 then mi48 else mi0)) else (bif Nat.ble k 49 then (bif Nat.beq k 49 then mi49 else mi0) else (bif Nat.beq k 50 then mi50 else mi0)))) else (bif Nat.ble k 54 then (bif Nat.ble k 52 then (bif Nat.ble k 51 then (bif Nat.beq k 51 then mi51 else mi0) else (bif Nat.beq k 52 then mi52 else mi0)) else (bif Nat.ble k 53 then (bif Nat.beq k 53 then mi53 else mi0) else (bif Nat.beq k 54 then mi54 else mi0))) else (bif Nat.ble k 56 then (bif Nat.ble k 55 then (bif Nat.beq k 55 then mi55 else mi0) else (bif Nat.beq k 56 then mi56 else mi0)) else (bif Nat.ble k 57 then (bif Nat.beq k 57 then mi57 else mi0) else (bif Nat.beq k 58 then mi58 else mi0))))))) else (bif Nat.ble k 87 then (bif Nat.ble k 72 then (bif Nat.ble k 65 then (bif Nat.ble k 61 then (bif Nat.ble k 59 then (bif Nat.beq k 59 then mi59 else mi0) else (bif Nat.ble k 60 then (bif Nat.beq k 60 then mi60 else mi0) else (bif Nat.beq k 61 then mi61 else mi0))) else (bif Nat.ble k 63 then (bif Nat.ble k 62 then (bif Nat.beq k 62 then mi62 else mi0) else (bif Nat.beq k 63 then mi63 else mi0)) else (bif Nat.ble k 64 then (bif Nat.beq k 64 then mi64 else mi0) else (bif Nat.beq k 65 then mi65 else mi0)))) else (bif Nat.ble k 68 then (bif Nat.ble k 66 then (bif Nat.beq k 66 then mi66 else mi0) else (bif Nat.ble k 67 then (bif Nat.beq k 67 then mi67 else mi0) else (bif Nat.beq k 68 then mi68 else mi0))) else (bif Nat.ble k 70 then (bif Nat.ble k 69 then (bif Nat.beq k 69 then mi69 else mi0) else (bif Nat.beq k 70 then mi70 else mi0)) else (bif Nat.ble k 71 then (bif Nat.beq k 71 then mi71 else mi0) else (bif Nat.beq k 72 then mi72 else mi0))))) else (bif Nat.ble k 79 then (bif Nat.ble k 75 then (bif Nat.ble k 73 then (bif Nat.beq k 73 then mi73 else mi0) else (bif Nat.ble k 74 then (bif Nat.beq k 74 then mi74 else mi0) else (bif Nat.beq k 75 then mi75 else mi0))) else (bif Nat.ble k 77 then (bif Nat.ble k 76 then (bif Nat.beq k 76 then mi76 else mi0) else (bif Nat.beq k 77 then mi77 else mi0)) else (bif Nat.ble k 78 then (bif Nat.beq k 78 then mi78 else mi0) else (bif Nat.beq k 79 then mi79 else mi0)))) else (bif Nat.ble k 83 then (bif Nat.ble k 81 then (bif Nat.ble k 80 then (bif Nat.beq k 80 then mi80 else mi0) else (bif Nat.beq k 81 then mi81 else mi0)) else (bif Nat.ble k 82 then (bif Nat.beq k 82 then mi82 else mi0) else (bif Nat.beq k 83 then mi83 else mi0))) else (bif Nat.ble k 85 then (bif Nat.ble k 84 then (bif Nat.beq k 84 then mi84 else mi0) else (bif Nat.beq k 85 then mi85 else mi0)) else (bif Nat.ble k 86 then (bif Nat.beq k 86 then mi86 else mi0) else (bif Nat.beq k 87 then mi87 else mi0)))))) else (bif Nat.ble k 102 then (bif Nat.ble k 94 then (bif Nat.ble k 90 then (bif Nat.ble k 88 then (bif Nat.beq k 88 then mi88 else mi0) else (bif Nat.ble k 89 then (bif Nat.beq k 89 then mi89 else mi0) else (bif Nat.beq k 90 then mi90 else mi0))) else (bif Nat.ble k 92 then (bif Nat.ble k 91 then (bif Nat.beq k 91 then mi91 else mi0) else (bif Nat.beq k 92 then mi92 else mi0)) else (bif Nat.ble k 93 then (bif Nat.beq k 93 then mi93 else mi0) else (bif Nat.beq k 94 then mi94 else mi0)))) else (bif Nat.ble k 98 then (bif Nat.ble k 96 then (bif Nat.ble k 95 then (bif Nat.beq k 95 then mi95 else mi0) else (bif Nat.beq k 96 then mi96 else mi0)) else (bif Nat.ble k 97 then (bif Nat.beq k 97 then mi97 else mi0) else (bif Nat.beq k 98 then mi98 else mi0))) else (bif Nat.ble k 100 then (bif Nat.ble k 99 then (bif Nat.beq k 99 then mi99 else mi0) else (bif Nat.beq k 100 then mi100 else mi0)) else (bif Nat.ble k 101 then (bif Nat.beq k 101 then mi101 else mi0) else (bif Nat.beq k 102 then mi102 else mi0))))) else (bif Nat.ble k 109 then (bif Nat.ble k 105 then (bif Nat.ble k 103 then (bif Nat.beq k 103 then mi103 else mi0) else (bif Nat.ble k 104 then (bif Nat.beq k 104 then mi104 else mi0) else (bif Nat.beq k 105 then mi105 else mi0))) else (bif Nat.ble k 107 then (bif Nat.ble k 106 then (bif Nat.beq k 106 then mi106 else mi0) else (bif Nat.beq k 107 then mi107 else mi0)) else (bif Nat.ble k 108 then (bif Nat.beq k 108 then mi108 else mi0) else (bif Nat.beq k 109 then mi109 else mi0)))) else (bif Nat.ble k 113 then (bif Nat.ble k 111 then (bif Nat.ble k 110 then (bif Nat.beq k 110 then mi110 else mi0) else (bif Nat.beq k 111 then mi111 else mi0)) else (bif Nat.ble k 112 then (bif Nat.beq k 112 then mi112 else mi0) else (bif Nat.beq k 113 then mi113 else mi0))) else (bif Nat.ble k 115 then (bif Nat.ble k 114 then (bif Nat.beq k 114 then mi114 else mi0) else (bif Nat.beq k 115 then mi115 else mi0)) else (bif Nat.ble k 116 then (bif Nat.beq k 116 then mi116 else mi0) else (bif Nat.beq k 117 then mi117 else mi0)))))))
def my (k : Nat) := (minf k).1
def mb (k : Nat) := (minf k).2.1
def mL (k : Nat) := (minf k).2.2.1
def mr (k : Nat) := (minf k).2.2.2.1
def mcl (k : Nat) := (minf k).2.2.2.2.1
def mnp (k : Nat) := (minf k).2.2.2.2.2.1
def mkd (k : Nat) := (minf k).2.2.2.2.2.2.1
def mfr (k : Nat) := (minf k).2.2.2.2.2.2.2.1
def mlo (k : Nat) := (minf k).2.2.2.2.2.2.2.2.1
def mp1 (k : Nat) := (minf k).2.2.2.2.2.2.2.2.2.1
def mp2 (k : Nat) := (minf k).2.2.2.2.2.2.2.2.2.2.1
def mp3 (k : Nat) := (minf k).2.2.2.2.2.2.2.2.2.2.2.1
def mp4 (k : Nat) := (minf k).2.2.2.2.2.2.2.2.2.2.2.2
set_option maxRecDepth 100000 in
theorem mcw_1 : Cond.code (my 1) (mb 1) (mL 1) (mr 1) ∈ WT := List.mem_filter.mpr ⟨List.mem_of_getElem? (i := 277) (show lw_tbl[277]? = some (Cond.code (my 1) (mb 1) (mL 1) (mr 1)) from rfl), rfl⟩
set_option maxRecDepth 100000 in
theorem mcw_2 : Cond.code (my 2) (mb 2) (mL 2) (mr 2) ∈ WT := List.mem_filter.mpr ⟨List.mem_of_getElem? (i := 281) (show lw_tbl[281]? = some (Cond.code (my 2) (mb 2) (mL 2) (mr 2)) from rfl), rfl⟩
set_option maxRecDepth 100000 in
theorem mcw_3 : Cond.code (my 3) (mb 3) (mL 3) (mr 3) ∈ WT := List.mem_filter.mpr ⟨List.mem_of_getElem? (i := 285) (show lw_tbl[285]? = some (Cond.code (my 3) (mb 3) (mL 3) (mr 3)) from rfl), rfl⟩
set_option maxRecDepth 100000 in
theorem mcw_4 : Cond.code (my 4) (mb 4) (mL 4) (mr 4) ∈ WT := List.mem_filter.mpr ⟨List.mem_of_getElem? (i := 418) (show lw_tbl[418]? = some (Cond.code (my 4) (mb 4) (mL 4) (mr 4)) from rfl), rfl⟩
set_option maxRecDepth 100000 in
theorem mcw_5 : Cond.code (my 5) (mb 5) (mL 5) (mr 5) ∈ WT := List.mem_filter.mpr ⟨List.mem_of_getElem? (i := 304) (show lw_tbl[304]? = some (Cond.code (my 5) (mb 5) (mL 5) (mr 5)) from rfl), rfl⟩
set_option maxRecDepth 100000 in
theorem mcw_6 : Cond.code (my 6) (mb 6) (mL 6) (mr 6) ∈ WT := List.mem_filter.mpr ⟨List.mem_of_getElem? (i := 442) (show lw_tbl[442]? = some (Cond.code (my 6) (mb 6) (mL 6) (mr 6)) from rfl), rfl⟩
set_option maxRecDepth 100000 in
theorem mcw_7 : Cond.code (my 7) (mb 7) (mL 7) (mr 7) ∈ WT := List.mem_filter.mpr ⟨List.mem_of_getElem? (i := 560) (show lw_tbl[560]? = some (Cond.code (my 7) (mb 7) (mL 7) (mr 7)) from rfl), rfl⟩
set_option maxRecDepth 100000 in
theorem mcw_8 : Cond.code (my 8) (mb 8) (mL 8) (mr 8) ∈ WT := List.mem_filter.mpr ⟨List.mem_of_getElem? (i := 549) (show lw_tbl[549]? = some (Cond.code (my 8) (mb 8) (mL 8) (mr 8)) from rfl), rfl⟩
set_option maxRecDepth 100000 in
theorem mcw_9 : Cond.code (my 9) (mb 9) (mL 9) (mr 9) ∈ WT := List.mem_filter.mpr ⟨List.mem_of_getElem? (i := 546) (show lw_tbl[546]? = some (Cond.code (my 9) (mb 9) (mL 9) (mr 9)) from rfl), rfl⟩
set_option maxRecDepth 100000 in
theorem mcw_10 : Cond.code (my 10) (mb 10) (mL 10) (mr 10) ∈ WT := List.mem_filter.mpr ⟨List.mem_of_getElem? (i := 510) (show lw_tbl[510]? = some (Cond.code (my 10) (mb 10) (mL 10) (mr 10)) from rfl), rfl⟩
set_option maxRecDepth 100000 in
theorem mcw_11 : Cond.code (my 11) (mb 11) (mL 11) (mr 11) ∈ WT := List.mem_filter.mpr ⟨List.mem_of_getElem? (i := 473) (show lw_tbl[473]? = some (Cond.code (my 11) (mb 11) (mL 11) (mr 11)) from rfl), rfl⟩
theorem mcw : ∀ k, 0 < k → k < 12 → Cond.code (my k) (mb k) (mL k) (mr k) ∈ WT := fun k h0 h => match k, h0, h with
  | 1, _, _ => mcw_1
  | 2, _, _ => mcw_2
  | 3, _, _ => mcw_3
  | 4, _, _ => mcw_4
  | 5, _, _ => mcw_5
  | 6, _, _ => mcw_6
  | 7, _, _ => mcw_7
  | 8, _, _ => mcw_8
  | 9, _, _ => mcw_9
  | 10, _, _ => mcw_10
  | 11, _, _ => mcw_11
  | 0, h0, _ => absurd h0 (by omega)
  | k + 12, _, h => absurd h (by omega)
def mchk (k : Nat) : Bool := (bif Nat.blt k 12 then true else memW (mp1 k) (.code (my k) (mb k) (mL k) (mr k))) && memW (mp2 k) (.initialized (my k).cls) && decide ((my k).cls = cn (mcl k)) && decide ((my k).cls ≠ "java/lang/invoke/MethodHandle" ∧ (my k).cls ≠ "java/lang/invoke/VarHandle") && plainName (my k).cls && decide ((parseMethodDescriptor (my k).desc).map (fun d => d.parameters.length) = some (mnp k)) &&
  (bif Nat.beq (mkd k) 1 then memW (mp3 k) (.static (my k)) else memW (mp3 k) (.instanceMethod (my k)) && (bif Nat.beq (mkd k) 0 then memW (mp4 k) (.selects (my k).cls (my k) (my k)) else decide ((my k).name = "<init>")))
set_option maxRecDepth 100000 in
theorem mchk_0 : (List.range 20).all (fun i => mchk (i + 1)) = true := by decide +kernel
set_option maxRecDepth 100000 in
theorem mchk_20 : (List.range 20).all (fun i => mchk (i + 21)) = true := by decide +kernel
set_option maxRecDepth 100000 in
theorem mchk_40 : (List.range 20).all (fun i => mchk (i + 41)) = true := by decide +kernel
set_option maxRecDepth 100000 in
theorem mchk_60 : (List.range 20).all (fun i => mchk (i + 61)) = true := by decide +kernel
set_option maxRecDepth 100000 in
theorem mchk_80 : (List.range 20).all (fun i => mchk (i + 81)) = true := by decide +kernel
set_option maxRecDepth 100000 in
theorem mchk_100 : (List.range 17).all (fun i => mchk (i + 101)) = true := by decide +kernel
theorem mchk_all (k : Nat) (h : k < 117) : mchk (k + 1) = true := by
  by_cases h0 : k < 20
  · have := List.all_eq_true.mp mchk_0 (k - 0) (List.mem_range.mpr (by omega))
    rwa [show k - 0 + 1 = k + 1 by omega] at this
  by_cases h20 : k < 40
  · have := List.all_eq_true.mp mchk_20 (k - 20) (List.mem_range.mpr (by omega))
    rwa [show k - 20 + 21 = k + 1 by omega] at this
  by_cases h40 : k < 60
  · have := List.all_eq_true.mp mchk_40 (k - 40) (List.mem_range.mpr (by omega))
    rwa [show k - 40 + 41 = k + 1 by omega] at this
  by_cases h60 : k < 80
  · have := List.all_eq_true.mp mchk_60 (k - 60) (List.mem_range.mpr (by omega))
    rwa [show k - 60 + 61 = k + 1 by omega] at this
  by_cases h80 : k < 100
  · have := List.all_eq_true.mp mchk_80 (k - 80) (List.mem_range.mpr (by omega))
    rwa [show k - 80 + 81 = k + 1 by omega] at this
  by_cases h100 : k < 117
  · have := List.all_eq_true.mp mchk_100 (k - 100) (List.mem_range.mpr (by omega))
    rwa [show k - 100 + 101 = k + 1 by omega] at this
  · omega
