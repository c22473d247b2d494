/-! ===== BEGIN words of one list among another's, by their places ===== -/
theorem goodIn_r {big : List Cond} (ws : List Cond) (ps : List Nat) (hp : ws = ps.filterMap (fun i => big[i]?)) (h : ws.all goodWord = true) : GoodIn big ws := by
  intro w hw
  have h1 := List.all_eq_true.mp h w hw
  rw [hp] at hw
  obtain ⟨i, -, hi⟩ := List.mem_filterMap.mp hw
  have hm : w ∈ big := by first | exact List.mem_of_getElem? hi | exact List.getElem?_mem hi
  exact ⟨hm, good_of_word h1⟩
theorem goodIn_app {big a b : List Cond} (ha : GoodIn big a) (hb : GoodIn big b) : GoodIn big (a ++ b) := fun w h => (List.mem_append.mp h).elim (ha w) (hb w)
theorem goodIn_ca {big a b : List Cond} {c : Cond} (ha : GoodIn big (c :: a)) (hb : GoodIn big b) : GoodIn big (c :: (a ++ b)) := fun w h => (List.mem_cons.mp h).elim (fun e => ha w (List.mem_cons.mpr (Or.inl e))) (fun h => (List.mem_append.mp h).elim (fun h => ha w (List.mem_cons.mpr (Or.inr h))) (hb w))
theorem goodIn_sub {big ws : List Cond} (hm : ∀ w ∈ ws, w ∈ big) (h : ws.all goodWord = true) : GoodIn big ws := fun w hw => ⟨hm w hw, good_of_word (List.all_eq_true.mp h w hw)⟩
/-! ===== END ===== -/

/-! ===== BEGIN new T[n][m]: the outer array a place, the inner ones among the pooled ===== -/
/-- f, but v at every address of l -/
def vr_up {α : Type} (f : Nat → α) (l : List Nat) (v : α) : Nat → α := fun a => if a ∈ l then v else f a
theorem vr_up_in {α : Type} {f : Nat → α} {l : List Nat} {v : α} {a : Nat} (h : a ∈ l) : vr_up f l v a = v := if_pos h
theorem vr_up_ne {α : Type} {f : Nat → α} {l : List Nat} {v : α} {a : Nat} (h : a ∉ l) : vr_up f l v a = f a := if_neg h
theorem vr_rows {L l : List Nat} {f : Nat → va_E} {e : va_E} (h : ∀ a, a ∈ l → a ∉ L) : va_pl L f ++ l.map (fun a => (a, e)) = va_pl (L ++ l) (vr_up f l e) := by
  unfold va_pl
  rw [List.map_append]
  congr 1
  · apply List.map_congr_left
    intro a ha
    rw [vr_up_ne (fun q => h a q ha)]
  · apply List.map_congr_left
    intro a ha
    rw [vr_up_in ha]
theorem vr_lay {X rows : va_W} {x : Nat × va_E} {pl : va_W} {D : va_G} {cl : List vw_C} {H : Heap} (hP : va_P D cl (((X ++ pl) ++ [x]) ++ rows) H) : va_P D cl ((X ++ [x]) ++ (pl ++ rows)) H := by
  rw [List.append_assoc (X ++ pl)] at hP
  have h := va_P.swap hP
  rw [← List.append_assoc X] at h
  have h2 := va_P.swap h
  rw [List.append_assoc (X ++ [x])] at h2
  exact h2
theorem vr_layD {X rows : va_W} {x : Nat × va_E} {pl : va_W} {A : Nat → Prop} (hD : va_D A (((X ++ pl) ++ [x]) ++ rows)) : va_D A ((X ++ [x]) ++ (pl ++ rows)) := by
  rw [List.append_assoc (X ++ pl)] at hD
  have h := va_D.swap hD
  rw [← List.append_assoc X] at h
  have h2 := va_D.swap h
  rw [List.append_assoc (X ++ [x])] at h2
  exact h2
def RX0 : String := "DartMind$Board"
def TX0 : u_T := fun k => match k with
  | _ => ("", "", "", false)
def tyX0 : Nat → FieldType := fun k => match k with
  | _ => .int
abbrev wsX00 : List Cond := u_ws RX0 TX0 0
theorem nmX0 : ∀ a, a < 0 → ∀ b, b < 0 → a ≠ b → (TX0 a).2.1 ≠ (TX0 b).2.1 := by decide +kernel
theorem tyX0_ok : ∀ k, k < 0 → parseFieldDescriptor (TX0 k).2.2.1 = some (tyX0 k) := by decide +kernel
abbrev cX0_kindOf : ByteArray := prog_2_method_2_code
def yX0_kindOf : MethodName := ⟨RX0, "kindOf", "(I)I"⟩
abbrev cX0_numberOf : ByteArray := prog_2_method_3_code
def yX0_numberOf : MethodName := ⟨RX0, "numberOf", "(I)I"⟩
abbrev cX0_scoreOf : ByteArray := prog_2_method_4_code
def yX0_scoreOf : MethodName := ⟨RX0, "scoreOf", "(I)I"⟩
abbrev cX0_isOfKind : ByteArray := prog_2_method_5_code
def yX0_isOfKind : MethodName := ⟨RX0, "isOfKind", "(II)Z"⟩
abbrev cX0_kindAbove : ByteArray := prog_2_method_6_code
def yX0_kindAbove : MethodName := ⟨RX0, "kindAbove", "(I)I"⟩
abbrev cX0_numberBeside : ByteArray := prog_2_method_7_code
def yX0_numberBeside : MethodName := ⟨RX0, "numberBeside", "(II)I"⟩
def RX1 : String := "DartMind$Falls"
def TX1 : u_T := fun k => match k with
  | 0 => ("DartMind$Falls", "counts", "[I", true)
  | 1 => ("DartMind$Falls", "spots", "[I", true)
  | 2 => ("DartMind$Falls", "sides", "[I", true)
  | _ => ("DartMind$Falls", "rings", "[I", true)
def tyX1 : Nat → FieldType := fun k => match k with
  | 0 => .array .int
  | 1 => .array .int
  | 2 => .array .int
  | _ => .array .int
abbrev wsX10 : List Cond := u_ws RX1 TX1 4
theorem nmX1 : ∀ a, a < 4 → ∀ b, b < 4 → a ≠ b → (TX1 a).2.1 ≠ (TX1 b).2.1 := by decide +kernel
theorem tyX1_ok : ∀ k, k < 4 → parseFieldDescriptor (TX1 k).2.2.1 = some (tyX1 k) := by decide +kernel
abbrev cX1_init : ByteArray := prog_3_method_1_code
def yX1_init : MethodName := ⟨RX1, "<init>", "()V"⟩
abbrev cX1_addBesides : ByteArray := prog_3_method_2_code
def yX1_addBesides : MethodName := ⟨RX1, "addBesides", "(II)V"⟩
abbrev cX1_add : ByteArray := prog_3_method_3_code
def yX1_add : MethodName := ⟨RX1, "add", "(IIII)V"⟩
abbrev cX1_fillWeights : ByteArray := prog_3_method_4_code
def yX1_fillWeights : MethodName := ⟨RX1, "fillWeights", "(II[I)V"⟩
def RX2 : String := "DartMind$Finishes"
def TX2 : u_T := fun k => match k with
  | 0 => ("DartMind$Finishes", "rules", "LDartMind$Rules;", true)
  | 1 => ("DartMind$Finishes", "counts", "[[I", true)
  | 2 => ("DartMind$Finishes", "known", "Z", false)
  | 3 => ("DartMind$Finishes", "row", "[I", true)
  | _ => ("DartMind$Finishes", "size", "I", false)
def tyX2 : Nat → FieldType := fun k => match k with
  | 0 => .object "DartMind$Rules"
  | 1 => .array (.array .int)
  | 2 => .boolean
  | 3 => .array .int
  | _ => .int
abbrev wsX20 : List Cond := u_ws RX2 TX2 5
theorem nmX2 : ∀ a, a < 5 → ∀ b, b < 5 → a ≠ b → (TX2 a).2.1 ≠ (TX2 b).2.1 := by decide +kernel
theorem tyX2_ok : ∀ k, k < 5 → parseFieldDescriptor (TX2 k).2.2.1 = some (tyX2 k) := by decide +kernel
abbrev cX2_init : ByteArray := prog_4_method_1_code
def yX2_init : MethodName := ⟨RX2, "<init>", "(LDartMind$Rules;)V"⟩
abbrev cX2_forget : ByteArray := prog_4_method_2_code
def yX2_forget : MethodName := ⟨RX2, "forget", "()V"⟩
abbrev cX2_countBy : ByteArray := prog_4_method_3_code
def yX2_countBy : MethodName := ⟨RX2, "countBy", "(II)I"⟩
abbrev cX2_countOfAll : ByteArray := prog_4_method_4_code
def yX2_countOfAll : MethodName := ⟨RX2, "countOfAll", "(I)I"⟩
abbrev cX2_learn : ByteArray := prog_4_method_5_code
def yX2_learn : MethodName := ⟨RX2, "learn", "()V"⟩
abbrev cX2_countFrom : ByteArray := prog_4_method_6_code
def yX2_countFrom : MethodName := ⟨RX2, "countFrom", "(II)I"⟩
abbrev cX2_countThrough : ByteArray := prog_4_method_7_code
def yX2_countThrough : MethodName := ⟨RX2, "countThrough", "(III)I"⟩
abbrev cX2_find : ByteArray := prog_4_method_8_code
def yX2_find : MethodName := ⟨RX2, "find", "(II)Z"⟩
abbrev cX2_fillRow : ByteArray := prog_4_method_9_code
def yX2_fillRow : MethodName := ⟨RX2, "fillRow", "(II)V"⟩
def RX3 : String := "DartMind$Leg"
def TX3 : u_T := fun k => match k with
  | 0 => ("DartMind$Leg", "players", "[LDartMind$Player;", true)
  | 1 => ("DartMind$Leg", "out", "I", false)
  | 2 => ("DartMind$Leg", "start", "I", false)
  | 3 => ("DartMind$Leg", "began", "I", false)
  | 4 => ("DartMind$Leg", "turn", "I", false)
  | 5 => ("DartMind$Leg", "left", "I", false)
  | 6 => ("DartMind$Leg", "restAtVisit", "I", false)
  | _ => ("DartMind$Leg", "seed", "I", false)
def tyX3 : Nat → FieldType := fun k => match k with
  | 0 => .array (.object "DartMind$Player")
  | 1 => .int
  | 2 => .int
  | 3 => .int
  | 4 => .int
  | 5 => .int
  | 6 => .int
  | _ => .int
abbrev wsX30 : List Cond := u_ws RX3 TX3 8
theorem nmX3 : ∀ a, a < 8 → ∀ b, b < 8 → a ≠ b → (TX3 a).2.1 ≠ (TX3 b).2.1 := by decide +kernel
theorem tyX3_ok : ∀ k, k < 8 → parseFieldDescriptor (TX3 k).2.2.1 = some (tyX3 k) := by decide +kernel
abbrev cX3_init : ByteArray := prog_5_method_1_code
def yX3_init : MethodName := ⟨RX3, "<init>", "()V"⟩
abbrev cX3_become : ByteArray := prog_5_method_2_code
def yX3_become : MethodName := ⟨RX3, "become", "(LDartMind$Leg;)V"⟩
abbrev cX3_begin : ByteArray := prog_5_method_3_code
def yX3_begin : MethodName := ⟨RX3, "begin", "()V"⟩
abbrev cX3_beginVisit : ByteArray := prog_5_method_4_code
def yX3_beginVisit : MethodName := ⟨RX3, "beginVisit", "(I)V"⟩
abbrev cX3_restOfThrower : ByteArray := prog_5_method_5_code
def yX3_restOfThrower : MethodName := ⟨RX3, "restOfThrower", "()I"⟩
abbrev cX3_legsOfBoth : ByteArray := prog_5_method_6_code
def yX3_legsOfBoth : MethodName := ⟨RX3, "legsOfBoth", "()I"⟩
abbrev cX3_hasRestOfOne : ByteArray := prog_5_method_7_code
def yX3_hasRestOfOne : MethodName := ⟨RX3, "hasRestOfOne", "()Z"⟩
abbrev cX3_land : ByteArray := prog_5_method_8_code
def yX3_land : MethodName := ⟨RX3, "land", "(I)I"⟩
abbrev cX3_draw : ByteArray := prog_5_method_9_code
def yX3_draw : MethodName := ⟨RX3, "draw", "()I"⟩
def RX4 : String := "DartMind$Mind"
def TX4 : u_T := fun k => match k with
  | 0 => ("DartMind$Mind", "rules", "LDartMind$Rules;", true)
  | 1 => ("DartMind$Mind", "falls", "LDartMind$Falls;", true)
  | 2 => ("DartMind$Mind", "side", "I", false)
  | 3 => ("DartMind$Mind", "ring", "I", false)
  | 4 => ("DartMind$Mind", "weights", "[I", true)
  | 5 => ("DartMind$Mind", "odds", "[D", true)
  | 6 => ("DartMind$Mind", "nexts", "[I", true)
  | 7 => ("DartMind$Mind", "darts", "[D", true)
  | 8 => ("DartMind$Mind", "aims", "[I", true)
  | 9 => ("DartMind$Mind", "dartsKnown", "I", false)
  | 10 => ("DartMind$Mind", "chances", "[[D", true)
  | 11 => ("DartMind$Mind", "chanceAims", "[[I", true)
  | _ => ("DartMind$Mind", "chancesKnown", "I", false)
def tyX4 : Nat → FieldType := fun k => match k with
  | 0 => .object "DartMind$Rules"
  | 1 => .object "DartMind$Falls"
  | 2 => .int
  | 3 => .int
  | 4 => .array .int
  | 5 => .array .double
  | 6 => .array .int
  | 7 => .array .double
  | 8 => .array .int
  | 9 => .int
  | 10 => .array (.array .double)
  | 11 => .array (.array .int)
  | _ => .int
abbrev wsX40 : List Cond := u_ws RX4 TX4 13
theorem nmX4 : ∀ a, a < 13 → ∀ b, b < 13 → a ≠ b → (TX4 a).2.1 ≠ (TX4 b).2.1 := by decide +kernel
theorem tyX4_ok : ∀ k, k < 13 → parseFieldDescriptor (TX4 k).2.2.1 = some (tyX4 k) := by decide +kernel
abbrev cX4_init : ByteArray := prog_6_method_1_code
def yX4_init : MethodName := ⟨RX4, "<init>", "(LDartMind$Rules;LDartMind$Falls;)V"⟩
abbrev cX4_become : ByteArray := prog_6_method_2_code
def yX4_become : MethodName := ⟨RX4, "become", "(II)Z"⟩
abbrev cX4_fillOdds : ByteArray := prog_6_method_3_code
def yX4_fillOdds : MethodName := ⟨RX4, "fillOdds", "()V"⟩
abbrev cX4_forget : ByteArray := prog_6_method_4_code
def yX4_forget : MethodName := ⟨RX4, "forget", "()V"⟩
abbrev cX4_dartsAt : ByteArray := prog_6_method_5_code
def yX4_dartsAt : MethodName := ⟨RX4, "dartsAt", "(I)D"⟩
abbrev cX4_aimAt : ByteArray := prog_6_method_6_code
def yX4_aimAt : MethodName := ⟨RX4, "aimAt", "(I)I"⟩
abbrev cX4_learnDarts : ByteArray := prog_6_method_7_code
def yX4_learnDarts : MethodName := ⟨RX4, "learnDarts", "(I)V"⟩
abbrev cX4_chooseAim : ByteArray := prog_6_method_8_code
def yX4_chooseAim : MethodName := ⟨RX4, "chooseAim", "(I)V"⟩
abbrev cX4_dartsBy : ByteArray := prog_6_method_9_code
def yX4_dartsBy : MethodName := ⟨RX4, "dartsBy", "(I)D"⟩
abbrev cX4_chanceAt : ByteArray := prog_6_method_10_code
def yX4_chanceAt : MethodName := ⟨RX4, "chanceAt", "(II)D"⟩
abbrev cX4_chanceAimAt : ByteArray := prog_6_method_11_code
def yX4_chanceAimAt : MethodName := ⟨RX4, "chanceAimAt", "(II)I"⟩
abbrev cX4_learnChances : ByteArray := prog_6_method_12_code
def yX4_learnChances : MethodName := ⟨RX4, "learnChances", "(I)V"⟩
abbrev cX4_chooseChance : ByteArray := prog_6_method_13_code
def yX4_chooseChance : MethodName := ⟨RX4, "chooseChance", "(II)V"⟩
abbrev cX4_chanceBy : ByteArray := prog_6_method_14_code
def yX4_chanceBy : MethodName := ⟨RX4, "chanceBy", "(II)D"⟩
abbrev cX4_fallenUpon : ByteArray := prog_6_method_15_code
def yX4_fallenUpon : MethodName := ⟨RX4, "fallenUpon", "(II)I"⟩
def RX5 : String := "DartMind$Paper"
def TX5 : u_T := fun k => match k with
  | 0 => ("DartMind$Paper", "bytes", "[I", true)
  | _ => ("DartMind$Paper", "length", "I", false)
def tyX5 : Nat → FieldType := fun k => match k with
  | 0 => .array .int
  | _ => .int
abbrev wsX50 : List Cond := u_ws RX5 TX5 2
theorem nmX5 : ∀ a, a < 2 → ∀ b, b < 2 → a ≠ b → (TX5 a).2.1 ≠ (TX5 b).2.1 := by decide +kernel
theorem tyX5_ok : ∀ k, k < 2 → parseFieldDescriptor (TX5 k).2.2.1 = some (tyX5 k) := by decide +kernel
abbrev cX5_init : ByteArray := prog_7_method_1_code
def yX5_init : MethodName := ⟨RX5, "<init>", "()V"⟩
abbrev cX5_spellRow : ByteArray := prog_7_method_2_code
def yX5_spellRow : MethodName := ⟨RX5, "spellRow", "([II)V"⟩
abbrev cX5_spellSpot : ByteArray := prog_7_method_3_code
def yX5_spellSpot : MethodName := ⟨RX5, "spellSpot", "(I)V"⟩
abbrev cX5_putPair : ByteArray := prog_7_method_4_code
def yX5_putPair : MethodName := ⟨RX5, "putPair", "(II)V"⟩
abbrev cX5_putNumber : ByteArray := prog_7_method_5_code
def yX5_putNumber : MethodName := ⟨RX5, "putNumber", "(II)V"⟩
abbrev cX5_put : ByteArray := prog_7_method_6_code
def yX5_put : MethodName := ⟨RX5, "put", "(I)V"⟩
def RX6 : String := "DartMind$Player"
def TX6 : u_T := fun k => match k with
  | 0 => ("DartMind$Player", "side", "I", false)
  | 1 => ("DartMind$Player", "ring", "I", false)
  | 2 => ("DartMind$Player", "rest", "I", false)
  | 3 => ("DartMind$Player", "legs", "I", false)
  | 4 => ("DartMind$Player", "thrown", "I", false)
  | _ => ("DartMind$Player", "points", "I", false)
def tyX6 : Nat → FieldType := fun k => match k with
  | 0 => .int
  | 1 => .int
  | 2 => .int
  | 3 => .int
  | 4 => .int
  | _ => .int
abbrev wsX60 : List Cond := u_ws RX6 TX6 6
theorem nmX6 : ∀ a, a < 6 → ∀ b, b < 6 → a ≠ b → (TX6 a).2.1 ≠ (TX6 b).2.1 := by decide +kernel
theorem tyX6_ok : ∀ k, k < 6 → parseFieldDescriptor (TX6 k).2.2.1 = some (tyX6 k) := by decide +kernel
abbrev cX6_init : ByteArray := prog_8_method_1_code
def yX6_init : MethodName := ⟨RX6, "<init>", "()V"⟩
abbrev cX6_become : ByteArray := prog_8_method_2_code
def yX6_become : MethodName := ⟨RX6, "become", "(LDartMind$Player;)V"⟩
abbrev cX6_tell : ByteArray := prog_8_method_3_code
def yX6_tell : MethodName := ⟨RX6, "tell", "(I)I"⟩
def RX7 : String := "DartMind$Race"
def TX7 : u_T := fun k => match k with
  | 0 => ("DartMind$Race", "rules", "LDartMind$Rules;", true)
  | 1 => ("DartMind$Race", "falls", "LDartMind$Falls;", true)
  | 2 => ("DartMind$Race", "minds", "[LDartMind$Mind;", true)
  | 3 => ("DartMind$Race", "won", "[[D", true)
  | 4 => ("DartMind$Race", "aims", "[[I", true)
  | 5 => ("DartMind$Race", "states", "[I", true)
  | 6 => ("DartMind$Race", "sums", "[[D", true)
  | 7 => ("DartMind$Race", "stays", "[[D", true)
  | _ => ("DartMind$Race", "nexts", "[I", true)
def tyX7 : Nat → FieldType := fun k => match k with
  | 0 => .object "DartMind$Rules"
  | 1 => .object "DartMind$Falls"
  | 2 => .array (.object "DartMind$Mind")
  | 3 => .array (.array .double)
  | 4 => .array (.array .int)
  | 5 => .array .int
  | 6 => .array (.array .double)
  | 7 => .array (.array .double)
  | _ => .array .int
abbrev wsX70 : List Cond := u_ws RX7 TX7 9
theorem nmX7 : ∀ a, a < 9 → ∀ b, b < 9 → a ≠ b → (TX7 a).2.1 ≠ (TX7 b).2.1 := by decide +kernel
theorem tyX7_ok : ∀ k, k < 9 → parseFieldDescriptor (TX7 k).2.2.1 = some (tyX7 k) := by decide +kernel
abbrev cX7_init : ByteArray := prog_9_method_1_code
def yX7_init : MethodName := ⟨RX7, "<init>", "(LDartMind$Rules;LDartMind$Falls;[LDartMind$Mind;)V"⟩
abbrev cX7_forget : ByteArray := prog_9_method_2_code
def yX7_forget : MethodName := ⟨RX7, "forget", "()V"⟩
abbrev cX7_wonBy : ByteArray := prog_9_method_3_code
def yX7_wonBy : MethodName := ⟨RX7, "wonBy", "(III)D"⟩
abbrev cX7_aimOf : ByteArray := prog_9_method_4_code
def yX7_aimOf : MethodName := ⟨RX7, "aimOf", "(III)I"⟩
abbrev cX7_isStill : ByteArray := prog_9_method_5_code
def yX7_isStill : MethodName := ⟨RX7, "isStill", "(II)Z"⟩
abbrev cX7_learn : ByteArray := prog_9_method_6_code
def yX7_learn : MethodName := ⟨RX7, "learn", "(II)V"⟩
abbrev cX7_sweep : ByteArray := prog_9_method_7_code
def yX7_sweep : MethodName := ⟨RX7, "sweep", "(II)V"⟩
abbrev cX7_weigh : ByteArray := prog_9_method_8_code
def yX7_weigh : MethodName := ⟨RX7, "weigh", "(III)V"⟩
abbrev cX7_weighAim : ByteArray := prog_9_method_9_code
def yX7_weighAim : MethodName := ⟨RX7, "weighAim", "(IIII)V"⟩
abbrev cX7_valueOf : ByteArray := prog_9_method_10_code
def yX7_valueOf : MethodName := ⟨RX7, "valueOf", "(IID)D"⟩
abbrev cX7_bestAim : ByteArray := prog_9_method_11_code
def yX7_bestAim : MethodName := ⟨RX7, "bestAim", "(ID)I"⟩
def RX8 : String := "DartMind$Rack"
def TX8 : u_T := fun k => match k with
  | 0 => ("DartMind$Rack", "places", "[I", true)
  | 1 => ("DartMind$Rack", "kind", "I", false)
  | _ => ("DartMind$Rack", "size", "I", false)
def tyX8 : Nat → FieldType := fun k => match k with
  | 0 => .array .int
  | 1 => .int
  | _ => .int
abbrev wsX80 : List Cond := u_ws RX8 TX8 3
theorem nmX8 : ∀ a, a < 3 → ∀ b, b < 3 → a ≠ b → (TX8 a).2.1 ≠ (TX8 b).2.1 := by decide +kernel
theorem tyX8_ok : ∀ k, k < 3 → parseFieldDescriptor (TX8 k).2.2.1 = some (tyX8 k) := by decide +kernel
abbrev cX8_init : ByteArray := prog_10_method_1_code
def yX8_init : MethodName := ⟨RX8, "<init>", "()V"⟩
abbrev cX8_isMissing : ByteArray := prog_10_method_2_code
def yX8_isMissing : MethodName := ⟨RX8, "isMissing", "()Z"⟩
abbrev cX8_make : ByteArray := prog_10_method_3_code
def yX8_make : MethodName := ⟨RX8, "make", "(II)V"⟩
abbrev cX8_become : ByteArray := prog_10_method_4_code
def yX8_become : MethodName := ⟨RX8, "become", "(LDartMind$Rack;)V"⟩
abbrev cX8_gather : ByteArray := prog_10_method_5_code
def yX8_gather : MethodName := ⟨RX8, "gather", "(I[I)I"⟩
def RX9 : String := "DartMind$Rules"
def TX9 : u_T := fun k => match k with
  | 0 => ("DartMind$Rules", "scores", "[I", true)
  | 1 => ("DartMind$Rules", "ending", "[Z", true)
  | _ => ("DartMind$Rules", "out", "I", false)
def tyX9 : Nat → FieldType := fun k => match k with
  | 0 => .array .int
  | 1 => .array .boolean
  | _ => .int
abbrev wsX90 : List Cond := u_ws RX9 TX9 3
theorem nmX9 : ∀ a, a < 3 → ∀ b, b < 3 → a ≠ b → (TX9 a).2.1 ≠ (TX9 b).2.1 := by decide +kernel
theorem tyX9_ok : ∀ k, k < 3 → parseFieldDescriptor (TX9 k).2.2.1 = some (tyX9 k) := by decide +kernel
abbrev cX9_init : ByteArray := prog_11_method_1_code
def yX9_init : MethodName := ⟨RX9, "<init>", "()V"⟩
abbrev cX9_become : ByteArray := prog_11_method_2_code
def yX9_become : MethodName := ⟨RX9, "become", "(I)Z"⟩
abbrev cX9_markEnding : ByteArray := prog_11_method_3_code
def yX9_markEnding : MethodName := ⟨RX9, "markEnding", "()V"⟩
abbrev cX9_leastRest : ByteArray := prog_11_method_4_code
def yX9_leastRest : MethodName := ⟨RX9, "leastRest", "()I"⟩
abbrev cX9_restBehind : ByteArray := prog_11_method_5_code
def yX9_restBehind : MethodName := ⟨RX9, "restBehind", "(II)I"⟩
abbrev cX9_restsBehind : ByteArray := prog_11_method_6_code
def yX9_restsBehind : MethodName := ⟨RX9, "restsBehind", "(I[I)V"⟩
abbrev cX9_verdict : ByteArray := prog_11_method_7_code
def yX9_verdict : MethodName := ⟨RX9, "verdict", "([III)I"⟩
def RX10 : String := "DartMind$Tape"
def TX10 : u_T := fun k => match k with
  | 0 => ("DartMind$Tape", "bytes", "[I", true)
  | 1 => ("DartMind$Tape", "length", "I", false)
  | 2 => ("DartMind$Tape", "spots", "[I", true)
  | 3 => ("DartMind$Tape", "count", "I", false)
  | _ => ("DartMind$Tape", "at", "I", false)
def tyX10 : Nat → FieldType := fun k => match k with
  | 0 => .array .int
  | 1 => .int
  | 2 => .array .int
  | 3 => .int
  | _ => .int
abbrev wsX100 : List Cond := u_ws RX10 TX10 5
theorem nmX10 : ∀ a, a < 5 → ∀ b, b < 5 → a ≠ b → (TX10 a).2.1 ≠ (TX10 b).2.1 := by decide +kernel
theorem tyX10_ok : ∀ k, k < 5 → parseFieldDescriptor (TX10 k).2.2.1 = some (tyX10 k) := by decide +kernel
abbrev cX10_init : ByteArray := prog_12_method_1_code
def yX10_init : MethodName := ⟨RX10, "<init>", "()V"⟩
abbrev cX10_append : ByteArray := prog_12_method_2_code
def yX10_append : MethodName := ⟨RX10, "append", "(I)Z"⟩
abbrev cX10_read : ByteArray := prog_12_method_3_code
def yX10_read : MethodName := ⟨RX10, "read", "()I"⟩
abbrev cX10_faultOfPath : ByteArray := prog_12_method_4_code
def yX10_faultOfPath : MethodName := ⟨RX10, "faultOfPath", "()I"⟩
abbrev cX10_faultOfSpot : ByteArray := prog_12_method_5_code
def yX10_faultOfSpot : MethodName := ⟨RX10, "faultOfSpot", "()I"⟩
abbrev cX10_faultOfPair : ByteArray := prog_12_method_6_code
def yX10_faultOfPair : MethodName := ⟨RX10, "faultOfPair", "(II)I"⟩
abbrev cX10_faultOfNumber : ByteArray := prog_12_method_7_code
def yX10_faultOfNumber : MethodName := ⟨RX10, "faultOfNumber", "(I)I"⟩
abbrev cX10_isFigure : ByteArray := prog_12_method_8_code
def yX10_isFigure : MethodName := ⟨RX10, "isFigure", "(I)Z"⟩
abbrev cX10_take : ByteArray := prog_12_method_9_code
def yX10_take : MethodName := ⟨RX10, "take", "(II)I"⟩
def RX11 : String := "DartMind"
def TX11 : u_T := fun k => match k with
  | 0 => ("DartMind", "rules", "LDartMind$Rules;", true)
  | 1 => ("DartMind", "falls", "LDartMind$Falls;", true)
  | 2 => ("DartMind", "minds", "[LDartMind$Mind;", true)
  | 3 => ("DartMind", "race", "LDartMind$Race;", true)
  | 4 => ("DartMind", "finishes", "LDartMind$Finishes;", true)
  | 5 => ("DartMind", "leg", "LDartMind$Leg;", true)
  | 6 => ("DartMind", "picture", "LDartMind$Leg;", true)
  | 7 => ("DartMind", "pictured", "Z", false)
  | 8 => ("DartMind", "tape", "LDartMind$Tape;", true)
  | 9 => ("DartMind", "paper", "LDartMind$Paper;", true)
  | 10 => ("DartMind", "racks", "[LDartMind$Rack;", true)
  | _ => ("DartMind", "row", "[I", true)
def tyX11 : Nat → FieldType := fun k => match k with
  | 0 => .object "DartMind$Rules"
  | 1 => .object "DartMind$Falls"
  | 2 => .array (.object "DartMind$Mind")
  | 3 => .object "DartMind$Race"
  | 4 => .object "DartMind$Finishes"
  | 5 => .object "DartMind$Leg"
  | 6 => .object "DartMind$Leg"
  | 7 => .boolean
  | 8 => .object "DartMind$Tape"
  | 9 => .object "DartMind$Paper"
  | 10 => .array (.object "DartMind$Rack")
  | _ => .array .int
abbrev wsX110 : List Cond := u_ws RX11 TX11 12
theorem nmX11 : ∀ a, a < 12 → ∀ b, b < 12 → a ≠ b → (TX11 a).2.1 ≠ (TX11 b).2.1 := by decide +kernel
theorem tyX11_ok : ∀ k, k < 12 → parseFieldDescriptor (TX11 k).2.2.1 = some (tyX11 k) := by decide +kernel
abbrev cX11_init : ByteArray := prog_1_method_1_code
def yX11_init : MethodName := ⟨RX11, "<init>", "()V"⟩
abbrev cX11_spot : ByteArray := prog_1_method_2_code
def yX11_spot : MethodName := ⟨RX11, "spot", "(II)I"⟩
abbrev cX11_under : ByteArray := prog_1_method_3_code
def yX11_under : MethodName := ⟨RX11, "under", "(II)I"⟩
abbrev cX11_hand : ByteArray := prog_1_method_4_code
def yX11_hand : MethodName := ⟨RX11, "hand", "(III)I"⟩
abbrev cX11_fall : ByteArray := prog_1_method_5_code
def yX11_fall : MethodName := ⟨RX11, "fall", "(IIII)I"⟩
abbrev cX11_out : ByteArray := prog_1_method_6_code
def yX11_out : MethodName := ⟨RX11, "out", "(I)I"⟩
abbrev cX11_falls : ByteArray := prog_1_method_7_code
def yX11_falls : MethodName := ⟨RX11, "falls", "(II)I"⟩
abbrev cX11_darts : ByteArray := prog_1_method_8_code
def yX11_darts : MethodName := ⟨RX11, "darts", "(II)J"⟩
abbrev cX11_dartsCut : ByteArray := prog_1_method_9_code
def yX11_dartsCut : MethodName := ⟨RX11, "dartsCut", "(II)I"⟩
abbrev cX11_thousandths : ByteArray := prog_1_method_10_code
def yX11_thousandths : MethodName := ⟨RX11, "thousandths", "(II)I"⟩
abbrev cX11_aim : ByteArray := prog_1_method_11_code
def yX11_aim : MethodName := ⟨RX11, "aim", "(II)I"⟩
abbrev cX11_chance : ByteArray := prog_1_method_12_code
def yX11_chance : MethodName := ⟨RX11, "chance", "(III)J"⟩
abbrev cX11_chanceAim : ByteArray := prog_1_method_13_code
def yX11_chanceAim : MethodName := ⟨RX11, "chanceAim", "(III)I"⟩
abbrev cX11_race : ByteArray := prog_1_method_14_code
def yX11_race : MethodName := ⟨RX11, "race", "(III)J"⟩
abbrev cX11_raceAim : ByteArray := prog_1_method_15_code
def yX11_raceAim : MethodName := ⟨RX11, "raceAim", "(III)I"⟩
abbrev cX11_settled : ByteArray := prog_1_method_16_code
def yX11_settled : MethodName := ⟨RX11, "settled", "(II)I"⟩
abbrev cX11_percent : ByteArray := prog_1_method_17_code
def yX11_percent : MethodName := ⟨RX11, "percent", "(II)I"⟩
abbrev cX11_ways : ByteArray := prog_1_method_18_code
def yX11_ways : MethodName := ⟨RX11, "ways", "(II)I"⟩
abbrev cX11_way : ByteArray := prog_1_method_19_code
def yX11_way : MethodName := ⟨RX11, "way", "(III)I"⟩
abbrev cX11_spell : ByteArray := prog_1_method_20_code
def yX11_spell : MethodName := ⟨RX11, "spell", "(II)I"⟩
abbrev cX11_start : ByteArray := prog_1_method_21_code
def yX11_start : MethodName := ⟨RX11, "start", "(I)I"⟩
abbrev cX11_thrown : ByteArray := prog_1_method_22_code
def yX11_thrown : MethodName := ⟨RX11, "thrown", "(I)I"⟩
abbrev cX11_throwsAt : ByteArray := prog_1_method_23_code
def yX11_throwsAt : MethodName := ⟨RX11, "throwsAt", "(I)I"⟩
abbrev cX11_minds : ByteArray := prog_1_method_24_code
def yX11_minds : MethodName := ⟨RX11, "minds", "(I)I"⟩
abbrev cX11_seed : ByteArray := prog_1_method_25_code
def yX11_seed : MethodName := ⟨RX11, "seed", "(I)I"⟩
abbrev cX11_average : ByteArray := prog_1_method_26_code
def yX11_average : MethodName := ⟨RX11, "average", "(I)I"⟩
abbrev cX11_told : ByteArray := prog_1_method_27_code
def yX11_told : MethodName := ⟨RX11, "told", "(I)I"⟩
abbrev cX11_feed : ByteArray := prog_1_method_28_code
def yX11_feed : MethodName := ⟨RX11, "feed", "(I)I"⟩
abbrev cX11_clear : ByteArray := prog_1_method_29_code
def yX11_clear : MethodName := ⟨RX11, "clear", "()I"⟩
abbrev cX11_judge : ByteArray := prog_1_method_30_code
def yX11_judge : MethodName := ⟨RX11, "judge", "(I)I"⟩
abbrev cX11_play : ByteArray := prog_1_method_31_code
def yX11_play : MethodName := ⟨RX11, "play", "()I"⟩
abbrev cX11_paper : ByteArray := prog_1_method_32_code
def yX11_paper : MethodName := ⟨RX11, "paper", "(I)I"⟩
abbrev cX11_rack : ByteArray := prog_1_method_33_code
def yX11_rack : MethodName := ⟨RX11, "rack", "(III)I"⟩
abbrev cX11_lays : ByteArray := prog_1_method_34_code
def yX11_lays : MethodName := ⟨RX11, "lays", "(III)I"⟩
abbrev cX11_laid : ByteArray := prog_1_method_35_code
def yX11_laid : MethodName := ⟨RX11, "laid", "(II)I"⟩
abbrev cX11_like : ByteArray := prog_1_method_36_code
def yX11_like : MethodName := ⟨RX11, "like", "(II)I"⟩
abbrev cX11_judged : ByteArray := prog_1_method_37_code
def yX11_judged : MethodName := ⟨RX11, "judged", "(III)I"⟩
abbrev cX11_image : ByteArray := prog_1_method_38_code
def yX11_image : MethodName := ⟨RX11, "image", "()I"⟩
abbrev cX11_undo : ByteArray := prog_1_method_39_code
def yX11_undo : MethodName := ⟨RX11, "undo", "()I"⟩
abbrev cX11_isSpot : ByteArray := prog_1_method_40_code
def yX11_isSpot : MethodName := ⟨RX11, "isSpot", "(I)Z"⟩
abbrev cX11_isAim : ByteArray := prog_1_method_41_code
def yX11_isAim : MethodName := ⟨RX11, "isAim", "(I)Z"⟩
abbrev cX11_isKind : ByteArray := prog_1_method_42_code
def yX11_isKind : MethodName := ⟨RX11, "isKind", "(I)Z"⟩
abbrev cX11_isPlayer : ByteArray := prog_1_method_43_code
def yX11_isPlayer : MethodName := ⟨RX11, "isPlayer", "(I)Z"⟩
abbrev cX11_isRack : ByteArray := prog_1_method_44_code
def yX11_isRack : MethodName := ⟨RX11, "isRack", "(I)Z"⟩
abbrev cX11_isRestUpTo : ByteArray := prog_1_method_45_code
def yX11_isRestUpTo : MethodName := ⟨RX11, "isRestUpTo", "(II)Z"⟩
abbrev cX11_isDartsRest : ByteArray := prog_1_method_46_code
def yX11_isDartsRest : MethodName := ⟨RX11, "isDartsRest", "(I)Z"⟩
abbrev cX11_isRace : ByteArray := prog_1_method_47_code
def yX11_isRace : MethodName := ⟨RX11, "isRace", "(II)Z"⟩
abbrev cX11_renewMinds : ByteArray := prog_1_method_48_code
def yX11_renewMinds : MethodName := ⟨RX11, "renewMinds", "()V"⟩
abbrev cX11_throwUpon : ByteArray := prog_1_method_49_code
def yX11_throwUpon : MethodName := ⟨RX11, "throwUpon", "(I)I"⟩
abbrev cX11_throwByDraw : ByteArray := prog_1_method_50_code
def yX11_throwByDraw : MethodName := ⟨RX11, "throwByDraw", "(I)I"⟩
abbrev cX11_bitsOfDouble : ByteArray := prog_1_method_51_code
def yX11_bitsOfDouble : MethodName := ⟨RX11, "bitsOfDouble", "(D)J"⟩
abbrev cX11_bitsOfFloat : ByteArray := prog_1_method_52_code
def yX11_bitsOfFloat : MethodName := ⟨RX11, "bitsOfFloat", "(F)I"⟩
abbrev cX11_bitsOfSize : ByteArray := prog_1_method_53_code
def yX11_bitsOfSize : MethodName := ⟨RX11, "bitsOfSize", "(DII)J"⟩
def RX12 : String := "DartMindModel"
def TX12 : u_T := fun k => match k with
  | 0 => ("DartMindModel", "ring", "[I", true)
  | 1 => ("DartMindModel", "now", "[I", true)
  | 2 => ("DartMindModel", "imaged", "[I", true)
  | 3 => ("DartMindModel", "hasImage", "Z", false)
  | 4 => ("DartMindModel", "fallMany", "I", false)
  | 5 => ("DartMindModel", "fallSpots", "[I", true)
  | 6 => ("DartMindModel", "fallWeights", "[I", true)
  | 7 => ("DartMindModel", "dartsOf", "[D", true)
  | 8 => ("DartMindModel", "aimOf", "[I", true)
  | 9 => ("DartMindModel", "laidSide", "[I", true)
  | 10 => ("DartMindModel", "laidRound", "[I", true)
  | 11 => ("DartMindModel", "laidOut", "[I", true)
  | 12 => ("DartMindModel", "allMany", "[I", true)
  | 13 => ("DartMindModel", "allSpots", "[I", true)
  | 14 => ("DartMindModel", "allWeights", "[I", true)
  | 15 => ("DartMindModel", "chances", "[D", true)
  | 16 => ("DartMindModel", "chanceAim0", "I", false)
  | 17 => ("DartMindModel", "first", "[D", true)
  | 18 => ("DartMindModel", "second", "[D", true)
  | 19 => ("DartMindModel", "settles", "[Z", true)
  | 20 => ("DartMindModel", "raceFor", "[I", true)
  | 21 => ("DartMindModel", "bothMany", "[I", true)
  | 22 => ("DartMindModel", "bothSpots", "[I", true)
  | 23 => ("DartMindModel", "bothWeights", "[I", true)
  | 24 => ("DartMindModel", "raceAim0", "I", false)
  | 25 => ("DartMindModel", "path", "[I", true)
  | 26 => ("DartMindModel", "pathMany", "I", false)
  | 27 => ("DartMindModel", "ends", "[I", true)
  | 28 => ("DartMindModel", "paper0", "[I", true)
  | 29 => ("DartMindModel", "paperSize", "I", false)
  | 30 => ("DartMindModel", "tape", "[I", true)
  | 31 => ("DartMindModel", "size", "I", false)
  | 32 => ("DartMindModel", "place", "I", false)
  | 33 => ("DartMindModel", "isBad", "Z", false)
  | 34 => ("DartMindModel", "told0", "[I", true)
  | 35 => ("DartMindModel", "toldMany", "I", false)
  | 36 => ("DartMindModel", "isThere", "[Z", true)
  | 37 => ("DartMindModel", "rackKind", "[I", true)
  | 38 => ("DartMindModel", "rackMany", "[I", true)
  | _ => ("DartMindModel", "racked", "[I", true)
def tyX12 : Nat → FieldType := fun k => match k with
  | 0 => .array .int
  | 1 => .array .int
  | 2 => .array .int
  | 3 => .boolean
  | 4 => .int
  | 5 => .array .int
  | 6 => .array .int
  | 7 => .array .double
  | 8 => .array .int
  | 9 => .array .int
  | 10 => .array .int
  | 11 => .array .int
  | 12 => .array .int
  | 13 => .array .int
  | 14 => .array .int
  | 15 => .array .double
  | 16 => .int
  | 17 => .array .double
  | 18 => .array .double
  | 19 => .array .boolean
  | 20 => .array .int
  | 21 => .array .int
  | 22 => .array .int
  | 23 => .array .int
  | 24 => .int
  | 25 => .array .int
  | 26 => .int
  | 27 => .array .int
  | 28 => .array .int
  | 29 => .int
  | 30 => .array .int
  | 31 => .int
  | 32 => .int
  | 33 => .boolean
  | 34 => .array .int
  | 35 => .int
  | 36 => .array .boolean
  | 37 => .array .int
  | 38 => .array .int
  | _ => .array .int
abbrev wsX120 : List Cond := u_ws RX12 TX12 40
theorem nmX12 : ∀ a, a < 40 → ∀ b, b < 40 → a ≠ b → (TX12 a).2.1 ≠ (TX12 b).2.1 := by decide +kernel
theorem tyX12_ok : ∀ k, k < 40 → parseFieldDescriptor (TX12 k).2.2.1 = some (tyX12 k) := by decide +kernel
abbrev cX12_init : ByteArray := prog_14_method_1_code
def yX12_init : MethodName := ⟨RX12, "<init>", "()V"⟩
abbrev cX12_in : ByteArray := prog_14_method_2_code
def yX12_in : MethodName := ⟨RX12, "in", "(JJJ)Z"⟩
abbrev cX12_scoreOf : ByteArray := prog_14_method_3_code
def yX12_scoreOf : MethodName := ⟨RX12, "scoreOf", "(I)I"⟩
abbrev cX12_kindOf : ByteArray := prog_14_method_4_code
def yX12_kindOf : MethodName := ⟨RX12, "kindOf", "(I)I"⟩
abbrev cX12_isUnder : ByteArray := prog_14_method_5_code
def yX12_isUnder : MethodName := ⟨RX12, "isUnder", "(II)Z"⟩
abbrev cX12_numberOf : ByteArray := prog_14_method_6_code
def yX12_numberOf : MethodName := ⟨RX12, "numberOf", "(I)I"⟩
abbrev cX12_besides : ByteArray := prog_14_method_7_code
def yX12_besides : MethodName := ⟨RX12, "besides", "(II)I"⟩
abbrev cX12_spot : ByteArray := prog_14_method_8_code
def yX12_spot : MethodName := ⟨RX12, "spot", "(II)I"⟩
abbrev cX12_under : ByteArray := prog_14_method_9_code
def yX12_under : MethodName := ⟨RX12, "under", "(II)I"⟩
abbrev cX12_putFall : ByteArray := prog_14_method_10_code
def yX12_putFall : MethodName := ⟨RX12, "putFall", "(II)V"⟩
abbrev cX12_layFalls : ByteArray := prog_14_method_11_code
def yX12_layFalls : MethodName := ⟨RX12, "layFalls", "(II)V"⟩
abbrev cX12_isPlayer : ByteArray := prog_14_method_12_code
def yX12_isPlayer : MethodName := ⟨RX12, "isPlayer", "(I)Z"⟩
abbrev cX12_hand : ByteArray := prog_14_method_13_code
def yX12_hand : MethodName := ⟨RX12, "hand", "(III)I"⟩
abbrev cX12_fall : ByteArray := prog_14_method_14_code
def yX12_fall : MethodName := ⟨RX12, "fall", "(IIII)I"⟩
abbrev cX12_out : ByteArray := prog_14_method_15_code
def yX12_out : MethodName := ⟨RX12, "out", "(I)I"⟩
abbrev cX12_leastRest : ByteArray := prog_14_method_16_code
def yX12_leastRest : MethodName := ⟨RX12, "leastRest", "()I"⟩
abbrev cX12_nextRest : ByteArray := prog_14_method_17_code
def yX12_nextRest : MethodName := ⟨RX12, "nextRest", "(II)I"⟩
abbrev cX12_falls : ByteArray := prog_14_method_18_code
def yX12_falls : MethodName := ⟨RX12, "falls", "(II)I"⟩
abbrev cX12_isLaid : ByteArray := prog_14_method_19_code
def yX12_isLaid : MethodName := ⟨RX12, "isLaid", "(I)Z"⟩
abbrev cX12_dartsValue : ByteArray := prog_14_method_20_code
def yX12_dartsValue : MethodName := ⟨RX12, "dartsValue", "(II)D"⟩
abbrev cX12_keepFalls : ByteArray := prog_14_method_21_code
def yX12_keepFalls : MethodName := ⟨RX12, "keepFalls", "(I)V"⟩
abbrev cX12_takeFalls : ByteArray := prog_14_method_22_code
def yX12_takeFalls : MethodName := ⟨RX12, "takeFalls", "(I)V"⟩
abbrev cX12_layDarts : ByteArray := prog_14_method_23_code
def yX12_layDarts : MethodName := ⟨RX12, "layDarts", "(I)V"⟩
abbrev cX12_isRest : ByteArray := prog_14_method_24_code
def yX12_isRest : MethodName := ⟨RX12, "isRest", "(II)Z"⟩
abbrev cX12_dartsAt : ByteArray := prog_14_method_25_code
def yX12_dartsAt : MethodName := ⟨RX12, "dartsAt", "(II)D"⟩
abbrev cX12_mayAsk : ByteArray := prog_14_method_26_code
def yX12_mayAsk : MethodName := ⟨RX12, "mayAsk", "(II)Z"⟩
abbrev cX12_darts : ByteArray := prog_14_method_27_code
def yX12_darts : MethodName := ⟨RX12, "darts", "(II)J"⟩
abbrev cX12_dartsCut : ByteArray := prog_14_method_28_code
def yX12_dartsCut : MethodName := ⟨RX12, "dartsCut", "(II)I"⟩
abbrev cX12_thousandths : ByteArray := prog_14_method_29_code
def yX12_thousandths : MethodName := ⟨RX12, "thousandths", "(II)I"⟩
abbrev cX12_aim : ByteArray := prog_14_method_30_code
def yX12_aim : MethodName := ⟨RX12, "aim", "(II)I"⟩
abbrev cX12_chanceValue : ByteArray := prog_14_method_31_code
def yX12_chanceValue : MethodName := ⟨RX12, "chanceValue", "(II)D"⟩
abbrev cX12_layChance : ByteArray := prog_14_method_32_code
def yX12_layChance : MethodName := ⟨RX12, "layChance", "(II)V"⟩
abbrev cX12_chanceAt : ByteArray := prog_14_method_33_code
def yX12_chanceAt : MethodName := ⟨RX12, "chanceAt", "(III)D"⟩
abbrev cX12_chance : ByteArray := prog_14_method_34_code
def yX12_chance : MethodName := ⟨RX12, "chance", "(III)J"⟩
abbrev cX12_chanceAim : ByteArray := prog_14_method_35_code
def yX12_chanceAim : MethodName := ⟨RX12, "chanceAim", "(III)I"⟩
abbrev cX12_keepBoth : ByteArray := prog_14_method_36_code
def yX12_keepBoth : MethodName := ⟨RX12, "keepBoth", "()V"⟩
abbrev cX12_lostBy : ByteArray := prog_14_method_37_code
def yX12_lostBy : MethodName := ⟨RX12, "lostBy", "(III)D"⟩
abbrev cX12_raceValue : ByteArray := prog_14_method_38_code
def yX12_raceValue : MethodName := ⟨RX12, "raceValue", "(IIII)D"⟩
abbrev cX12_bestRace : ByteArray := prog_14_method_39_code
def yX12_bestRace : MethodName := ⟨RX12, "bestRace", "(III)D"⟩
abbrev cX12_layPair : ByteArray := prog_14_method_40_code
def yX12_layPair : MethodName := ⟨RX12, "layPair", "(II)V"⟩
abbrev cX12_layRace : ByteArray := prog_14_method_41_code
def yX12_layRace : MethodName := ⟨RX12, "layRace", "()V"⟩
abbrev cX12_isRace : ByteArray := prog_14_method_42_code
def yX12_isRace : MethodName := ⟨RX12, "isRace", "(III)Z"⟩
abbrev cX12_race : ByteArray := prog_14_method_43_code
def yX12_race : MethodName := ⟨RX12, "race", "(III)J"⟩
abbrev cX12_raceAim : ByteArray := prog_14_method_44_code
def yX12_raceAim : MethodName := ⟨RX12, "raceAim", "(III)I"⟩
abbrev cX12_settled : ByteArray := prog_14_method_45_code
def yX12_settled : MethodName := ⟨RX12, "settled", "(II)I"⟩
abbrev cX12_percent : ByteArray := prog_14_method_46_code
def yX12_percent : MethodName := ⟨RX12, "percent", "(II)I"⟩
abbrev cX12_endsOf : ByteArray := prog_14_method_47_code
def yX12_endsOf : MethodName := ⟨RX12, "endsOf", "(I)I"⟩
abbrev cX12_layEnds : ByteArray := prog_14_method_48_code
def yX12_layEnds : MethodName := ⟨RX12, "layEnds", "()V"⟩
abbrev cX12_endsAt : ByteArray := prog_14_method_49_code
def yX12_endsAt : MethodName := ⟨RX12, "endsAt", "(I)I"⟩
abbrev cX12_waysByTwo : ByteArray := prog_14_method_50_code
def yX12_waysByTwo : MethodName := ⟨RX12, "waysByTwo", "(I)I"⟩
abbrev cX12_waysByThree : ByteArray := prog_14_method_51_code
def yX12_waysByThree : MethodName := ⟨RX12, "waysByThree", "(I)I"⟩
abbrev cX12_waysBy : ByteArray := prog_14_method_52_code
def yX12_waysBy : MethodName := ⟨RX12, "waysBy", "(II)I"⟩
abbrev cX12_ways : ByteArray := prog_14_method_53_code
def yX12_ways : MethodName := ⟨RX12, "ways", "(II)I"⟩
abbrev cX12_waysBehind : ByteArray := prog_14_method_54_code
def yX12_waysBehind : MethodName := ⟨RX12, "waysBehind", "(II)I"⟩
abbrev cX12_layWay : ByteArray := prog_14_method_55_code
def yX12_layWay : MethodName := ⟨RX12, "layWay", "(II)Z"⟩
abbrev cX12_way : ByteArray := prog_14_method_56_code
def yX12_way : MethodName := ⟨RX12, "way", "(III)I"⟩
abbrev cX12_writes : ByteArray := prog_14_method_57_code
def yX12_writes : MethodName := ⟨RX12, "writes", "(I)V"⟩
abbrev cX12_writesSpot : ByteArray := prog_14_method_58_code
def yX12_writesSpot : MethodName := ⟨RX12, "writesSpot", "(I)V"⟩
abbrev cX12_spell : ByteArray := prog_14_method_59_code
def yX12_spell : MethodName := ⟨RX12, "spell", "(II)I"⟩
abbrev cX12_paper : ByteArray := prog_14_method_60_code
def yX12_paper : MethodName := ⟨RX12, "paper", "(I)I"⟩
abbrev cX12_beginsLeg : ByteArray := prog_14_method_61_code
def yX12_beginsLeg : MethodName := ⟨RX12, "beginsLeg", "(I)V"⟩
abbrev cX12_beginsVisit : ByteArray := prog_14_method_62_code
def yX12_beginsVisit : MethodName := ⟨RX12, "beginsVisit", "(I)V"⟩
abbrev cX12_start : ByteArray := prog_14_method_63_code
def yX12_start : MethodName := ⟨RX12, "start", "(I)I"⟩
abbrev cX12_fallsUpon : ByteArray := prog_14_method_64_code
def yX12_fallsUpon : MethodName := ⟨RX12, "fallsUpon", "(I)I"⟩
abbrev cX12_thrown : ByteArray := prog_14_method_65_code
def yX12_thrown : MethodName := ⟨RX12, "thrown", "(I)I"⟩
abbrev cX12_drawn : ByteArray := prog_14_method_66_code
def yX12_drawn : MethodName := ⟨RX12, "drawn", "(I)I"⟩
abbrev cX12_throwsAt : ByteArray := prog_14_method_67_code
def yX12_throwsAt : MethodName := ⟨RX12, "throwsAt", "(I)I"⟩
abbrev cX12_minds : ByteArray := prog_14_method_68_code
def yX12_minds : MethodName := ⟨RX12, "minds", "(I)I"⟩
abbrev cX12_seed : ByteArray := prog_14_method_69_code
def yX12_seed : MethodName := ⟨RX12, "seed", "(I)I"⟩
abbrev cX12_average : ByteArray := prog_14_method_70_code
def yX12_average : MethodName := ⟨RX12, "average", "(I)I"⟩
abbrev cX12_told : ByteArray := prog_14_method_71_code
def yX12_told : MethodName := ⟨RX12, "told", "(I)I"⟩
abbrev cX12_toldOf : ByteArray := prog_14_method_72_code
def yX12_toldOf : MethodName := ⟨RX12, "toldOf", "(III)I"⟩
abbrev cX12_feed : ByteArray := prog_14_method_73_code
def yX12_feed : MethodName := ⟨RX12, "feed", "(I)I"⟩
abbrev cX12_clear : ByteArray := prog_14_method_74_code
def yX12_clear : MethodName := ⟨RX12, "clear", "()I"⟩
abbrev cX12_here : ByteArray := prog_14_method_75_code
def yX12_here : MethodName := ⟨RX12, "here", "()I"⟩
abbrev cX12_wants : ByteArray := prog_14_method_76_code
def yX12_wants : MethodName := ⟨RX12, "wants", "(I)V"⟩
abbrev cX12_readNumber : ByteArray := prog_14_method_77_code
def yX12_readNumber : MethodName := ⟨RX12, "readNumber", "()I"⟩
abbrev cX12_readSpot : ByteArray := prog_14_method_78_code
def yX12_readSpot : MethodName := ⟨RX12, "readSpot", "()I"⟩
abbrev cX12_readPath : ByteArray := prog_14_method_79_code
def yX12_readPath : MethodName := ⟨RX12, "readPath", "()Z"⟩
abbrev cX12_judgedFrom : ByteArray := prog_14_method_80_code
def yX12_judgedFrom : MethodName := ⟨RX12, "judgedFrom", "(I)I"⟩
abbrev cX12_judge : ByteArray := prog_14_method_81_code
def yX12_judge : MethodName := ⟨RX12, "judge", "(I)I"⟩
abbrev cX12_play : ByteArray := prog_14_method_82_code
def yX12_play : MethodName := ⟨RX12, "play", "()I"⟩
abbrev cX12_isRack : ByteArray := prog_14_method_83_code
def yX12_isRack : MethodName := ⟨RX12, "isRack", "(I)Z"⟩
abbrev cX12_rack : ByteArray := prog_14_method_84_code
def yX12_rack : MethodName := ⟨RX12, "rack", "(III)I"⟩
abbrev cX12_lays : ByteArray := prog_14_method_85_code
def yX12_lays : MethodName := ⟨RX12, "lays", "(III)I"⟩
abbrev cX12_laid : ByteArray := prog_14_method_86_code
def yX12_laid : MethodName := ⟨RX12, "laid", "(II)I"⟩
abbrev cX12_like : ByteArray := prog_14_method_87_code
def yX12_like : MethodName := ⟨RX12, "like", "(II)I"⟩
abbrev cX12_judged : ByteArray := prog_14_method_88_code
def yX12_judged : MethodName := ⟨RX12, "judged", "(III)I"⟩
abbrev cX12_image : ByteArray := prog_14_method_89_code
def yX12_image : MethodName := ⟨RX12, "image", "()I"⟩
abbrev cX12_undo : ByteArray := prog_14_method_90_code
def yX12_undo : MethodName := ⟨RX12, "undo", "()I"⟩
def RJx145de : String := "java/io/Serializable"
def TJx145de : u_T := fun k => match k with
  | _ => ("", "", "", false)
def tyJx145de : Nat → FieldType := fun k => match k with
  | _ => .int
abbrev wsJx145de0 : List Cond := u_ws RJx145de TJx145de 0
theorem nmJx145de : ∀ a, a < 0 → ∀ b, b < 0 → a ≠ b → (TJx145de a).2.1 ≠ (TJx145de b).2.1 := by decide +kernel
theorem tyJx145de_ok : ∀ k, k < 0 → parseFieldDescriptor (TJx145de k).2.2.1 = some (tyJx145de k) := by decide +kernel
def RJxb160c : String := "java/lang/Comparable"
def TJxb160c : u_T := fun k => match k with
  | _ => ("", "", "", false)
def tyJxb160c : Nat → FieldType := fun k => match k with
  | _ => .int
abbrev wsJxb160c0 : List Cond := u_ws RJxb160c TJxb160c 0
theorem nmJxb160c : ∀ a, a < 0 → ∀ b, b < 0 → a ≠ b → (TJxb160c a).2.1 ≠ (TJxb160c b).2.1 := by decide +kernel
theorem tyJxb160c_ok : ∀ k, k < 0 → parseFieldDescriptor (TJxb160c k).2.2.1 = some (tyJxb160c k) := by decide +kernel
def RJxe99ae : String := "java/lang/Double"
def TJxe99ae : u_T := fun k => match k with
  | _ => ("", "", "", false)
def tyJxe99ae : Nat → FieldType := fun k => match k with
  | _ => .int
abbrev wsJxe99ae0 : List Cond := u_ws RJxe99ae TJxe99ae 0
theorem nmJxe99ae : ∀ a, a < 0 → ∀ b, b < 0 → a ≠ b → (TJxe99ae a).2.1 ≠ (TJxe99ae b).2.1 := by decide +kernel
theorem tyJxe99ae_ok : ∀ k, k < 0 → parseFieldDescriptor (TJxe99ae k).2.2.1 = some (tyJxe99ae k) := by decide +kernel
abbrev cJxe99ae_isNaN_b9ae7 : ByteArray := prog_15_method_6_code
def yJxe99ae_isNaN_b9ae7 : MethodName := ⟨RJxe99ae, "isNaN", "(D)Z"⟩
abbrev cJxe99ae_doubleToLongBits_ccdee : ByteArray := prog_15_method_23_code
def yJxe99ae_doubleToLongBits_ccdee : MethodName := ⟨RJxe99ae, "doubleToLongBits", "(D)J"⟩
def RJxf58ca : String := "java/lang/Float"
def TJxf58ca : u_T := fun k => match k with
  | _ => ("", "", "", false)
def tyJxf58ca : Nat → FieldType := fun k => match k with
  | _ => .int
abbrev wsJxf58ca0 : List Cond := u_ws RJxf58ca TJxf58ca 0
theorem nmJxf58ca : ∀ a, a < 0 → ∀ b, b < 0 → a ≠ b → (TJxf58ca a).2.1 ≠ (TJxf58ca b).2.1 := by decide +kernel
theorem tyJxf58ca_ok : ∀ k, k < 0 → parseFieldDescriptor (TJxf58ca k).2.2.1 = some (tyJxf58ca k) := by decide +kernel
abbrev cJxf58ca_isNaN_12338 : ByteArray := prog_16_method_6_code
def yJxf58ca_isNaN_12338 : MethodName := ⟨RJxf58ca, "isNaN", "(F)Z"⟩
abbrev cJxf58ca_floatToIntBits_5c35a : ByteArray := prog_16_method_24_code
def yJxf58ca_floatToIntBits_5c35a : MethodName := ⟨RJxf58ca, "floatToIntBits", "(F)I"⟩
def RJ9 : String := "java/lang/Math"
def TJ9 : u_T := fun k => match k with
  | _ => ("", "", "", false)
def tyJ9 : Nat → FieldType := fun k => match k with
  | _ => .int
abbrev wsJ90 : List Cond := u_ws RJ9 TJ9 0
theorem nmJ9 : ∀ a, a < 0 → ∀ b, b < 0 → a ≠ b → (TJ9 a).2.1 ≠ (TJ9 b).2.1 := by decide +kernel
theorem tyJ9_ok : ∀ k, k < 0 → parseFieldDescriptor (TJ9 k).2.2.1 = some (tyJ9 k) := by decide +kernel
abbrev cJ9_floorMod_7cf53 : ByteArray := prog_17_method_50_code
def yJ9_floorMod_7cf53 : MethodName := ⟨RJ9, "floorMod", "(II)I"⟩
def RJxd2413 : String := "java/lang/Number"
def TJxd2413 : u_T := fun k => match k with
  | _ => ("", "", "", false)
def tyJxd2413 : Nat → FieldType := fun k => match k with
  | _ => .int
abbrev wsJxd24130 : List Cond := u_ws RJxd2413 TJxd2413 0
theorem nmJxd2413 : ∀ a, a < 0 → ∀ b, b < 0 → a ≠ b → (TJxd2413 a).2.1 ≠ (TJxd2413 b).2.1 := by decide +kernel
theorem tyJxd2413_ok : ∀ k, k < 0 → parseFieldDescriptor (TJxd2413 k).2.2.1 = some (tyJxd2413 k) := by decide +kernel
def RJ10 : String := "java/lang/System"
def TJ10 : u_T := fun k => match k with
  | _ => ("", "", "", false)
def tyJ10 : Nat → FieldType := fun k => match k with
  | _ => .int
abbrev wsJ100 : List Cond := u_ws RJ10 TJ10 0
theorem nmJ10 : ∀ a, a < 0 → ∀ b, b < 0 → a ≠ b → (TJ10 a).2.1 ≠ (TJ10 b).2.1 := by decide +kernel
theorem tyJ10_ok : ∀ k, k < 0 → parseFieldDescriptor (TJ10 k).2.2.1 = some (tyJ10 k) := by decide +kernel
def RJxfd54e : String := "java/lang/constant/Constable"
def TJxfd54e : u_T := fun k => match k with
  | _ => ("", "", "", false)
def tyJxfd54e : Nat → FieldType := fun k => match k with
  | _ => .int
abbrev wsJxfd54e0 : List Cond := u_ws RJxfd54e TJxfd54e 0
theorem nmJxfd54e : ∀ a, a < 0 → ∀ b, b < 0 → a ≠ b → (TJxfd54e a).2.1 ≠ (TJxfd54e b).2.1 := by decide +kernel
theorem tyJxfd54e_ok : ∀ k, k < 0 → parseFieldDescriptor (TJxfd54e k).2.2.1 = some (tyJxfd54e k) := by decide +kernel
def RJx3cf43 : String := "java/lang/constant/ConstantDesc"
def TJx3cf43 : u_T := fun k => match k with
  | _ => ("", "", "", false)
def tyJx3cf43 : Nat → FieldType := fun k => match k with
  | _ => .int
abbrev wsJx3cf430 : List Cond := u_ws RJx3cf43 TJx3cf43 0
theorem nmJx3cf43 : ∀ a, a < 0 → ∀ b, b < 0 → a ≠ b → (TJx3cf43 a).2.1 ≠ (TJx3cf43 b).2.1 := by decide +kernel
theorem tyJx3cf43_ok : ∀ k, k < 0 → parseFieldDescriptor (TJx3cf43 k).2.2.1 = some (tyJx3cf43 k) := by decide +kernel
def RJ7 : String := "java/util/Arrays"
def TJ7 : u_T := fun k => match k with
  | _ => ("", "", "", false)
def tyJ7 : Nat → FieldType := fun k => match k with
  | _ => .int
abbrev wsJ70 : List Cond := u_ws RJ7 TJ7 0
theorem nmJ7 : ∀ a, a < 0 → ∀ b, b < 0 → a ≠ b → (TJ7 a).2.1 ≠ (TJ7 b).2.1 := by decide +kernel
theorem tyJ7_ok : ∀ k, k < 0 → parseFieldDescriptor (TJ7 k).2.2.1 = some (tyJ7 k) := by decide +kernel
abbrev cJ7_fill_53178 : ByteArray := prog_20_method_103_code
def yJ7_fill_53178 : MethodName := ⟨RJ7, "fill", "([II)V"⟩
def RL : String := "DartMindLaw"
abbrev cL_law : ByteArray := code
def yL_law : MethodName := ⟨RL, "law", "([I)Z"⟩
abbrev vwCl : List vw_C := [(RX1, TX1, 4), (RX2, TX2, 5), (RX3, TX3, 8), (RX4, TX4, 13), (RX5, TX5, 2), (RX6, TX6, 6), (RX7, TX7, 9), (RX8, TX8, 3), (RX9, TX9, 3), (RX10, TX10, 5), (RX11, TX11, 12), (RX12, TX12, 40)]
