theorem goodIn_r {big : List Cond} (ws : List Cond) (ps : List Nat) (hp : ws = ps.filterMap (fun i => big[i]?)) (h : ws.all goodWord = true) : GoodIn big ws := by
  intro w hw
  have h1 := List.all_eq_true.mp h w hw
  rw [hp] at hw
  obtain ⟨i, -, hi⟩ := List.mem_filterMap.mp hw
  have hm : w ∈ big := by first | exact List.mem_of_getElem? hi | exact List.getElem?_mem hi
  exact ⟨hm, good_of_word h1⟩
theorem goodIn_app {big a b : List Cond} (ha : GoodIn big a) (hb : GoodIn big b) : GoodIn big (a ++ b) := fun w h => (List.mem_append.mp h).elim (ha w) (hb w)
theorem goodIn_ca {big a b : List Cond} {c : Cond} (ha : GoodIn big (c :: a)) (hb : GoodIn big b) : GoodIn big (c :: (a ++ b)) := fun w h => (List.mem_cons.mp h).elim (fun e => ha w (List.mem_cons.mpr (Or.inl e))) (fun h => (List.mem_append.mp h).elim (fun h => ha w (List.mem_cons.mpr (Or.inr h))) (hb w))
theorem goodIn_sub {big ws : List Cond} (hm : ∀ w ∈ ws, w ∈ big) (h : ws.all goodWord = true) : GoodIn big ws := fun w hw => ⟨hm w hw, good_of_word (List.all_eq_true.mp h w hw)⟩
def RX0 : String := "SunMirrors$Advice"
def TX0 : u_T := fun k => match k with
  | 0 => ("SunMirrors$Advice", "field", "LSunMirrors$Field;", true)
  | 1 => ("SunMirrors$Advice", "trial", "LSunMirrors$Field;", true)
  | 2 => ("SunMirrors$Advice", "light", "LSunMirrors$Light;", true)
  | 3 => ("SunMirrors$Advice", "best", "I", false)
  | _ => ("SunMirrors$Advice", "bestBrings", "I", false)
def tyX0 : Nat → FieldType := fun k => match k with
  | 0 => .object "SunMirrors$Field"
  | 1 => .object "SunMirrors$Field"
  | 2 => .object "SunMirrors$Light"
  | 3 => .int
  | _ => .int
abbrev wsX00 : List Cond := u_ws RX0 TX0 5
theorem nmX0 : ∀ a, a < 5 → ∀ b, b < 5 → a ≠ b → (TX0 a).2.1 ≠ (TX0 b).2.1 := by decide +kernel
theorem tyX0_ok : ∀ k, k < 5 → parseFieldDescriptor (TX0 k).2.2.1 = some (tyX0 k) := by decide +kernel
abbrev cX0_init : ByteArray := prog_2_method_1_code
def yX0_init : MethodName := ⟨RX0, "<init>", "(LSunMirrors$Field;)V"⟩
abbrev cX0_leastWorth : ByteArray := prog_2_method_2_code
def yX0_leastWorth : MethodName := ⟨RX0, "leastWorth", "(I)I"⟩
abbrev cX0_columnForOneMore : ByteArray := prog_2_method_3_code
def yX0_columnForOneMore : MethodName := ⟨RX0, "columnForOneMore", "(III)I"⟩
abbrev cX0_mirrorToWash : ByteArray := prog_2_method_4_code
def yX0_mirrorToWash : MethodName := ⟨RX0, "mirrorToWash", "()I"⟩
abbrev cX0_limitForAll : ByteArray := prog_2_method_5_code
def yX0_limitForAll : MethodName := ⟨RX0, "limitForAll", "()I"⟩
abbrev cX0_forgetBest : ByteArray := prog_2_method_6_code
def yX0_forgetBest : MethodName := ⟨RX0, "forgetBest", "()V"⟩
abbrev cX0_weigh : ByteArray := prog_2_method_7_code
def yX0_weigh : MethodName := ⟨RX0, "weigh", "(I)V"⟩
abbrev cX0_answer : ByteArray := prog_2_method_8_code
def yX0_answer : MethodName := ⟨RX0, "answer", "(I)I"⟩
def RX1 : String := "SunMirrors$Cells"
def TX1 : u_T := fun k => match k with
  | _ => ("SunMirrors$Cells", "numbers", "[I", true)
def tyX1 : Nat → FieldType := fun k => match k with
  | _ => .array .int
abbrev wsX10 : List Cond := u_ws RX1 TX1 1
theorem nmX1 : ∀ a, a < 1 → ∀ b, b < 1 → a ≠ b → (TX1 a).2.1 ≠ (TX1 b).2.1 := by decide +kernel
theorem tyX1_ok : ∀ k, k < 1 → parseFieldDescriptor (TX1 k).2.2.1 = some (tyX1 k) := by decide +kernel
abbrev cX1_init : ByteArray := prog_3_method_1_code
def yX1_init : MethodName := ⟨RX1, "<init>", "(I)V"⟩
abbrev cX1_read : ByteArray := prog_3_method_2_code
def yX1_read : MethodName := ⟨RX1, "read", "(I)I"⟩
abbrev cX1_write : ByteArray := prog_3_method_3_code
def yX1_write : MethodName := ⟨RX1, "write", "(II)V"⟩
abbrev cX1_fill : ByteArray := prog_3_method_4_code
def yX1_fill : MethodName := ⟨RX1, "fill", "(I)V"⟩
abbrev cX1_copy : ByteArray := prog_3_method_5_code
def yX1_copy : MethodName := ⟨RX1, "copy", "(LSunMirrors$Cells;)V"⟩
abbrev cX1_leaveOut : ByteArray := prog_3_method_6_code
def yX1_leaveOut : MethodName := ⟨RX1, "leaveOut", "(I)V"⟩
def RX2 : String := "SunMirrors$Field"
def TX2 : u_T := fun k => match k with
  | 0 => ("SunMirrors$Field", "settings", "LSunMirrors$Cells;", true)
  | 1 => ("SunMirrors$Field", "rows", "LSunMirrors$Cells;", true)
  | 2 => ("SunMirrors$Field", "columns", "LSunMirrors$Cells;", true)
  | 3 => ("SunMirrors$Field", "aims", "LSunMirrors$Cells;", true)
  | 4 => ("SunMirrors$Field", "dusts", "LSunMirrors$Cells;", true)
  | 5 => ("SunMirrors$Field", "brought", "LSunMirrors$Cells;", true)
  | 6 => ("SunMirrors$Field", "mirrors", "I", false)
  | 7 => ("SunMirrors$Field", "wind", "I", false)
  | 8 => ("SunMirrors$Field", "days", "I", false)
  | _ => ("SunMirrors$Field", "broughtByAll", "I", false)
def tyX2 : Nat → FieldType := fun k => match k with
  | 0 => .object "SunMirrors$Cells"
  | 1 => .object "SunMirrors$Cells"
  | 2 => .object "SunMirrors$Cells"
  | 3 => .object "SunMirrors$Cells"
  | 4 => .object "SunMirrors$Cells"
  | 5 => .object "SunMirrors$Cells"
  | 6 => .int
  | 7 => .int
  | 8 => .int
  | _ => .int
abbrev wsX20 : List Cond := u_ws RX2 TX2 10
theorem nmX2 : ∀ a, a < 10 → ∀ b, b < 10 → a ≠ b → (TX2 a).2.1 ≠ (TX2 b).2.1 := by decide +kernel
theorem tyX2_ok : ∀ k, k < 10 → parseFieldDescriptor (TX2 k).2.2.1 = some (tyX2 k) := by decide +kernel
abbrev cX2_init : ByteArray := prog_4_method_1_code
def yX2_init : MethodName := ⟨RX2, "<init>", "()V"⟩
abbrev cX2_copy : ByteArray := prog_4_method_2_code
def yX2_copy : MethodName := ⟨RX2, "copy", "(LSunMirrors$Field;)V"⟩
abbrev cX2_changeSetting : ByteArray := prog_4_method_3_code
def yX2_changeSetting : MethodName := ⟨RX2, "changeSetting", "(II)I"⟩
abbrev cX2_isSettingValue : ByteArray := prog_4_method_4_code
def yX2_isSettingValue : MethodName := ⟨RX2, "isSettingValue", "(II)Z"⟩
abbrev cX2_place : ByteArray := prog_4_method_5_code
def yX2_place : MethodName := ⟨RX2, "place", "(III)I"⟩
abbrev cX2_add : ByteArray := prog_4_method_6_code
def yX2_add : MethodName := ⟨RX2, "add", "(III)I"⟩
abbrev cX2_remove : ByteArray := prog_4_method_7_code
def yX2_remove : MethodName := ⟨RX2, "remove", "(I)I"⟩
abbrev cX2_turn : ByteArray := prog_4_method_8_code
def yX2_turn : MethodName := ⟨RX2, "turn", "(II)I"⟩
abbrev cX2_clean : ByteArray := prog_4_method_9_code
def yX2_clean : MethodName := ⟨RX2, "clean", "(I)I"⟩
abbrev cX2_blow : ByteArray := prog_4_method_10_code
def yX2_blow : MethodName := ⟨RX2, "blow", "(I)I"⟩
abbrev cX2_credit : ByteArray := prog_4_method_11_code
def yX2_credit : MethodName := ⟨RX2, "credit", "(II)V"⟩
abbrev cX2_endDay : ByteArray := prog_4_method_12_code
def yX2_endDay : MethodName := ⟨RX2, "endDay", "(I)V"⟩
abbrev cX2_isMirror : ByteArray := prog_4_method_13_code
def yX2_isMirror : MethodName := ⟨RX2, "isMirror", "(I)Z"⟩
abbrev cX2_mirrorIn : ByteArray := prog_4_method_14_code
def yX2_mirrorIn : MethodName := ⟨RX2, "mirrorIn", "(II)I"⟩
abbrev cX2_mirrorsOf : ByteArray := prog_4_method_15_code
def yX2_mirrorsOf : MethodName := ⟨RX2, "mirrorsOf", "(I)I"⟩
abbrev cX2_allDust : ByteArray := prog_4_method_16_code
def yX2_allDust : MethodName := ⟨RX2, "allDust", "()I"⟩
abbrev cX2_liesFlat : ByteArray := prog_4_method_17_code
def yX2_liesFlat : MethodName := ⟨RX2, "liesFlat", "()Z"⟩
def RX3 : String := "SunMirrors$History"
def TX3 : u_T := fun k => match k with
  | 0 => ("SunMirrors$History", "states", "LSunMirrors$Shelf;", true)
  | 1 => ("SunMirrors$History", "next", "I", false)
  | _ => ("SunMirrors$History", "size", "I", false)
def tyX3 : Nat → FieldType := fun k => match k with
  | 0 => .object "SunMirrors$Shelf"
  | 1 => .int
  | _ => .int
abbrev wsX30 : List Cond := u_ws RX3 TX3 3
theorem nmX3 : ∀ a, a < 3 → ∀ b, b < 3 → a ≠ b → (TX3 a).2.1 ≠ (TX3 b).2.1 := by decide +kernel
theorem tyX3_ok : ∀ k, k < 3 → parseFieldDescriptor (TX3 k).2.2.1 = some (tyX3 k) := by decide +kernel
abbrev cX3_init : ByteArray := prog_5_method_1_code
def yX3_init : MethodName := ⟨RX3, "<init>", "()V"⟩
abbrev cX3_note : ByteArray := prog_5_method_2_code
def yX3_note : MethodName := ⟨RX3, "note", "(LSunMirrors$Field;)V"⟩
abbrev cX3_keepNote : ByteArray := prog_5_method_3_code
def yX3_keepNote : MethodName := ⟨RX3, "keepNote", "()V"⟩
abbrev cX3_stepBack : ByteArray := prog_5_method_4_code
def yX3_stepBack : MethodName := ⟨RX3, "stepBack", "(LSunMirrors$Field;)Z"⟩
abbrev cX3_size : ByteArray := prog_5_method_5_code
def yX3_size : MethodName := ⟨RX3, "size", "()I"⟩
def RX4 : String := "SunMirrors$Light"
def TX4 : u_T := fun k => match k with
  | 0 => ("SunMirrors$Light", "field", "LSunMirrors$Field;", true)
  | 1 => ("SunMirrors$Light", "places", "LSunMirrors$Cells;", true)
  | 2 => ("SunMirrors$Light", "shaders", "LSunMirrors$Cells;", true)
  | 3 => ("SunMirrors$Light", "gives", "LSunMirrors$Cells;", true)
  | 4 => ("SunMirrors$Light", "order", "LSunMirrors$Cells;", true)
  | 5 => ("SunMirrors$Light", "held", "LSunMirrors$Cells;", true)
  | 6 => ("SunMirrors$Light", "blocked", "I", false)
  | _ => ("SunMirrors$Light", "used", "I", false)
def tyX4 : Nat → FieldType := fun k => match k with
  | 0 => .object "SunMirrors$Field"
  | 1 => .object "SunMirrors$Cells"
  | 2 => .object "SunMirrors$Cells"
  | 3 => .object "SunMirrors$Cells"
  | 4 => .object "SunMirrors$Cells"
  | 5 => .object "SunMirrors$Cells"
  | 6 => .int
  | _ => .int
abbrev wsX40 : List Cond := u_ws RX4 TX4 8
theorem nmX4 : ∀ a, a < 8 → ∀ b, b < 8 → a ≠ b → (TX4 a).2.1 ≠ (TX4 b).2.1 := by decide +kernel
theorem tyX4_ok : ∀ k, k < 8 → parseFieldDescriptor (TX4 k).2.2.1 = some (tyX4 k) := by decide +kernel
abbrev cX4_init : ByteArray := prog_6_method_1_code
def yX4_init : MethodName := ⟨RX4, "<init>", "(LSunMirrors$Field;)V"⟩
abbrev cX4_look : ByteArray := prog_6_method_2_code
def yX4_look : MethodName := ⟨RX4, "look", "()V"⟩
abbrev cX4_hasBlocker : ByteArray := prog_6_method_3_code
def yX4_hasBlocker : MethodName := ⟨RX4, "hasBlocker", "(I)Z"⟩
abbrev cX4_nearestShader : ByteArray := prog_6_method_4_code
def yX4_nearestShader : MethodName := ⟨RX4, "nearestShader", "(II)I"⟩
abbrev cX4_inPlace : ByteArray := prog_6_method_5_code
def yX4_inPlace : MethodName := ⟨RX4, "inPlace", "(II)I"⟩
abbrev cX4_work : ByteArray := prog_6_method_6_code
def yX4_work : MethodName := ⟨RX4, "work", "(I)I"⟩
abbrev cX4_gift : ByteArray := prog_6_method_7_code
def yX4_gift : MethodName := ⟨RX4, "gift", "(II)I"⟩
abbrev cX4_putInOrder : ByteArray := prog_6_method_8_code
def yX4_putInOrder : MethodName := ⟨RX4, "putInOrder", "(I)V"⟩
abbrev cX4_useIfBearable : ByteArray := prog_6_method_9_code
def yX4_useIfBearable : MethodName := ⟨RX4, "useIfBearable", "(I)I"⟩
abbrev cX4_day : ByteArray := prog_6_method_10_code
def yX4_day : MethodName := ⟨RX4, "day", "()I"⟩
abbrev cX4_spend : ByteArray := prog_6_method_11_code
def yX4_spend : MethodName := ⟨RX4, "spend", "(I)I"⟩
abbrev cX4_creditUsed : ByteArray := prog_6_method_12_code
def yX4_creditUsed : MethodName := ⟨RX4, "creditUsed", "()V"⟩
abbrev cX4_isBlocked : ByteArray := prog_6_method_13_code
def yX4_isBlocked : MethodName := ⟨RX4, "isBlocked", "(I)Z"⟩
abbrev cX4_blocked : ByteArray := prog_6_method_14_code
def yX4_blocked : MethodName := ⟨RX4, "blocked", "()I"⟩
abbrev cX4_shader : ByteArray := prog_6_method_15_code
def yX4_shader : MethodName := ⟨RX4, "shader", "(II)I"⟩
abbrev cX4_given : ByteArray := prog_6_method_16_code
def yX4_given : MethodName := ⟨RX4, "given", "(I)I"⟩
abbrev cX4_isUsed : ByteArray := prog_6_method_17_code
def yX4_isUsed : MethodName := ⟨RX4, "isUsed", "(I)Z"⟩
abbrev cX4_used : ByteArray := prog_6_method_18_code
def yX4_used : MethodName := ⟨RX4, "used", "()I"⟩
abbrev cX4_held : ByteArray := prog_6_method_19_code
def yX4_held : MethodName := ⟨RX4, "held", "(I)I"⟩
def RX5 : String := "SunMirrors$Pad"
def TX5 : u_T := fun k => match k with
  | 0 => ("SunMirrors$Pad", "signs", "LSunMirrors$Cells;", true)
  | _ => ("SunMirrors$Pad", "length", "I", false)
def tyX5 : Nat → FieldType := fun k => match k with
  | 0 => .object "SunMirrors$Cells"
  | _ => .int
abbrev wsX50 : List Cond := u_ws RX5 TX5 2
theorem nmX5 : ∀ a, a < 2 → ∀ b, b < 2 → a ≠ b → (TX5 a).2.1 ≠ (TX5 b).2.1 := by decide +kernel
theorem tyX5_ok : ∀ k, k < 2 → parseFieldDescriptor (TX5 k).2.2.1 = some (tyX5 k) := by decide +kernel
abbrev cX5_init : ByteArray := prog_7_method_1_code
def yX5_init : MethodName := ⟨RX5, "<init>", "()V"⟩
abbrev cX5_length : ByteArray := prog_7_method_6_code
def yX5_length : MethodName := ⟨RX5, "length", "()I"⟩
def RX6 : String := "SunMirrors$Reader"
def TX6 : u_T := fun k => match k with
  | 0 => ("SunMirrors$Reader", "pad", "LSunMirrors$Pad;", true)
  | 1 => ("SunMirrors$Reader", "kinds", "LSunMirrors$Cells;", true)
  | 2 => ("SunMirrors$Reader", "firsts", "LSunMirrors$Cells;", true)
  | 3 => ("SunMirrors$Reader", "seconds", "LSunMirrors$Cells;", true)
  | 4 => ("SunMirrors$Reader", "thirds", "LSunMirrors$Cells;", true)
  | 5 => ("SunMirrors$Reader", "orders", "I", false)
  | 6 => ("SunMirrors$Reader", "position", "I", false)
  | _ => ("SunMirrors$Reader", "broken", "Z", false)
def tyX6 : Nat → FieldType := fun k => match k with
  | 0 => .object "SunMirrors$Pad"
  | 1 => .object "SunMirrors$Cells"
  | 2 => .object "SunMirrors$Cells"
  | 3 => .object "SunMirrors$Cells"
  | 4 => .object "SunMirrors$Cells"
  | 5 => .int
  | 6 => .int
  | _ => .boolean
abbrev wsX60 : List Cond := u_ws RX6 TX6 8
theorem nmX6 : ∀ a, a < 8 → ∀ b, b < 8 → a ≠ b → (TX6 a).2.1 ≠ (TX6 b).2.1 := by decide +kernel
theorem tyX6_ok : ∀ k, k < 8 → parseFieldDescriptor (TX6 k).2.2.1 = some (tyX6 k) := by decide +kernel
abbrev cX6_init : ByteArray := prog_8_method_1_code
def yX6_init : MethodName := ⟨RX6, "<init>", "(LSunMirrors$Pad;)V"⟩
def RX7 : String := "SunMirrors$Shelf"
def TX7 : u_T := fun k => match k with
  | _ => ("SunMirrors$Shelf", "states", "[LSunMirrors$Field;", true)
def tyX7 : Nat → FieldType := fun k => match k with
  | _ => .array (.object "SunMirrors$Field")
abbrev wsX70 : List Cond := u_ws RX7 TX7 1
theorem nmX7 : ∀ a, a < 1 → ∀ b, b < 1 → a ≠ b → (TX7 a).2.1 ≠ (TX7 b).2.1 := by decide +kernel
theorem tyX7_ok : ∀ k, k < 1 → parseFieldDescriptor (TX7 k).2.2.1 = some (tyX7 k) := by decide +kernel
abbrev cX7_init : ByteArray := prog_9_method_1_code
def yX7_init : MethodName := ⟨RX7, "<init>", "(I)V"⟩
abbrev cX7_keep : ByteArray := prog_9_method_2_code
def yX7_keep : MethodName := ⟨RX7, "keep", "(ILSunMirrors$Field;)V"⟩
abbrev cX7_bringBack : ByteArray := prog_9_method_3_code
def yX7_bringBack : MethodName := ⟨RX7, "bringBack", "(ILSunMirrors$Field;)V"⟩
abbrev cX7_state : ByteArray := prog_9_method_4_code
def yX7_state : MethodName := ⟨RX7, "state", "(I)LSunMirrors$Field;"⟩
def RX8 : String := "SunMirrors$Sun"
def TX8 : u_T := fun k => match k with
  | _ => ("", "", "", false)
def tyX8 : Nat → FieldType := fun k => match k with
  | _ => .int
abbrev wsX80 : List Cond := u_ws RX8 TX8 0
theorem nmX8 : ∀ a, a < 0 → ∀ b, b < 0 → a ≠ b → (TX8 a).2.1 ≠ (TX8 b).2.1 := by decide +kernel
theorem tyX8_ok : ∀ k, k < 0 → parseFieldDescriptor (TX8 k).2.2.1 = some (tyX8 k) := by decide +kernel
abbrev cX8_isHour : ByteArray := prog_10_method_2_code
def yX8_isHour : MethodName := ⟨RX8, "isHour", "(I)Z"⟩
abbrev cX8_height : ByteArray := prog_10_method_3_code
def yX8_height : MethodName := ⟨RX8, "height", "(I)I"⟩
abbrev cX8_columns : ByteArray := prog_10_method_4_code
def yX8_columns : MethodName := ⟨RX8, "columns", "(I)I"⟩
def RX9 : String := "SunMirrors"
def TX9 : u_T := fun k => match k with
  | 0 => ("SunMirrors", "field", "LSunMirrors$Field;", true)
  | 1 => ("SunMirrors", "light", "LSunMirrors$Light;", true)
  | 2 => ("SunMirrors", "advice", "LSunMirrors$Advice;", true)
  | 3 => ("SunMirrors", "pad", "LSunMirrors$Pad;", true)
  | 4 => ("SunMirrors", "reader", "LSunMirrors$Reader;", true)
  | 5 => ("SunMirrors", "history", "LSunMirrors$History;", true)
  | 6 => ("SunMirrors", "slots", "LSunMirrors$Shelf;", true)
  | _ => ("SunMirrors", "savedSlots", "I", false)
def tyX9 : Nat → FieldType := fun k => match k with
  | 0 => .object "SunMirrors$Field"
  | 1 => .object "SunMirrors$Light"
  | 2 => .object "SunMirrors$Advice"
  | 3 => .object "SunMirrors$Pad"
  | 4 => .object "SunMirrors$Reader"
  | 5 => .object "SunMirrors$History"
  | 6 => .object "SunMirrors$Shelf"
  | _ => .int
abbrev wsX90 : List Cond := u_ws RX9 TX9 8
theorem nmX9 : ∀ a, a < 8 → ∀ b, b < 8 → a ≠ b → (TX9 a).2.1 ≠ (TX9 b).2.1 := by decide +kernel
theorem tyX9_ok : ∀ k, k < 8 → parseFieldDescriptor (TX9 k).2.2.1 = some (tyX9 k) := by decide +kernel
abbrev cX9_init : ByteArray := prog_1_method_1_code
def yX9_init : MethodName := ⟨RX9, "<init>", "()V"⟩
abbrev cX9_set : ByteArray := prog_1_method_2_code
def yX9_set : MethodName := ⟨RX9, "set", "(II)I"⟩
abbrev cX9_mirror : ByteArray := prog_1_method_3_code
def yX9_mirror : MethodName := ⟨RX9, "mirror", "(III)I"⟩
abbrev cX9_take : ByteArray := prog_1_method_4_code
def yX9_take : MethodName := ⟨RX9, "take", "(I)I"⟩
abbrev cX9_aim : ByteArray := prog_1_method_5_code
def yX9_aim : MethodName := ⟨RX9, "aim", "(II)I"⟩
abbrev cX9_wash : ByteArray := prog_1_method_6_code
def yX9_wash : MethodName := ⟨RX9, "wash", "(I)I"⟩
abbrev cX9_wind : ByteArray := prog_1_method_7_code
def yX9_wind : MethodName := ⟨RX9, "wind", "(I)I"⟩
abbrev cX9_pass : ByteArray := prog_1_method_8_code
def yX9_pass : MethodName := ⟨RX9, "pass", "(I)I"⟩
abbrev cX9_of : ByteArray := prog_1_method_9_code
def yX9_of : MethodName := ⟨RX9, "of", "(II)I"⟩
abbrev cX9_at : ByteArray := prog_1_method_10_code
def yX9_at : MethodName := ⟨RX9, "at", "(III)I"⟩
abbrev cX9_point : ByteArray := prog_1_method_11_code
def yX9_point : MethodName := ⟨RX9, "point", "(III)I"⟩
abbrev cX9_count : ByteArray := prog_1_method_12_code
def yX9_count : MethodName := ⟨RX9, "count", "(I)I"⟩
abbrev cX9_in : ByteArray := prog_1_method_13_code
def yX9_in : MethodName := ⟨RX9, "in", "(II)I"⟩
abbrev cX9_worthLeast : ByteArray := prog_1_method_14_code
def yX9_worthLeast : MethodName := ⟨RX9, "worthLeast", "(I)I"⟩
abbrev cX9_bestColumn : ByteArray := prog_1_method_15_code
def yX9_bestColumn : MethodName := ⟨RX9, "bestColumn", "(III)I"⟩
abbrev cX9_toWash : ByteArray := prog_1_method_16_code
def yX9_toWash : MethodName := ⟨RX9, "toWash", "()I"⟩
abbrev cX9_leastLimit : ByteArray := prog_1_method_17_code
def yX9_leastLimit : MethodName := ⟨RX9, "leastLimit", "()I"⟩
abbrev cX9_undo : ByteArray := prog_1_method_22_code
def yX9_undo : MethodName := ⟨RX9, "undo", "()I"⟩
abbrev cX9_recorded : ByteArray := prog_1_method_25_code
def yX9_recorded : MethodName := ⟨RX9, "recorded", "(I)I"⟩
abbrev cX9_isPlace : ByteArray := prog_1_method_27_code
def yX9_isPlace : MethodName := ⟨RX9, "isPlace", "(II)Z"⟩
abbrev cX9_isAimPoint : ByteArray := prog_1_method_28_code
def yX9_isAimPoint : MethodName := ⟨RX9, "isAimPoint", "(I)Z"⟩
abbrev cX9_isChoice : ByteArray := prog_1_method_29_code
def yX9_isChoice : MethodName := ⟨RX9, "isChoice", "(I)Z"⟩
def RX10 : String := "SunMirrorsModel"
def TX10 : u_T := fun k => match k with
  | _ => ("", "", "", false)
def tyX10 : Nat → FieldType := fun k => match k with
  | _ => .int
abbrev wsX100 : List Cond := u_ws RX10 TX10 0
theorem nmX10 : ∀ a, a < 0 → ∀ b, b < 0 → a ≠ b → (TX10 a).2.1 ≠ (TX10 b).2.1 := by decide +kernel
theorem tyX10_ok : ∀ k, k < 0 → parseFieldDescriptor (TX10 k).2.2.1 = some (tyX10 k) := by decide +kernel
def RJ9 : String := "java/lang/Math"
def TJ9 : u_T := fun k => match k with
  | _ => ("", "", "", false)
def tyJ9 : Nat → FieldType := fun k => match k with
  | _ => .int
abbrev wsJ90 : List Cond := u_ws RJ9 TJ9 0
theorem nmJ9 : ∀ a, a < 0 → ∀ b, b < 0 → a ≠ b → (TJ9 a).2.1 ≠ (TJ9 b).2.1 := by decide +kernel
theorem tyJ9_ok : ∀ k, k < 0 → parseFieldDescriptor (TJ9 k).2.2.1 = some (tyJ9 k) := by decide +kernel
abbrev cJ9_abs_0f7a4 : ByteArray := prog_13_method_59_code
def yJ9_abs_0f7a4 : MethodName := ⟨RJ9, "abs", "(I)I"⟩
abbrev cJ9_max_7cf53 : ByteArray := prog_13_method_65_code
def yJ9_max_7cf53 : MethodName := ⟨RJ9, "max", "(II)I"⟩
abbrev cJ9_min_7cf53 : ByteArray := prog_13_method_69_code
def yJ9_min_7cf53 : MethodName := ⟨RJ9, "min", "(II)I"⟩
def RJ10 : String := "java/lang/System"
def TJ10 : u_T := fun k => match k with
  | _ => ("", "", "", false)
def tyJ10 : Nat → FieldType := fun k => match k with
  | _ => .int
abbrev wsJ100 : List Cond := u_ws RJ10 TJ10 0
theorem nmJ10 : ∀ a, a < 0 → ∀ b, b < 0 → a ≠ b → (TJ10 a).2.1 ≠ (TJ10 b).2.1 := by decide +kernel
theorem tyJ10_ok : ∀ k, k < 0 → parseFieldDescriptor (TJ10 k).2.2.1 = some (tyJ10 k) := by decide +kernel
def RJ7 : String := "java/util/Arrays"
def TJ7 : u_T := fun k => match k with
  | _ => ("", "", "", false)
def tyJ7 : Nat → FieldType := fun k => match k with
  | _ => .int
abbrev wsJ70 : List Cond := u_ws RJ7 TJ7 0
theorem nmJ7 : ∀ a, a < 0 → ∀ b, b < 0 → a ≠ b → (TJ7 a).2.1 ≠ (TJ7 b).2.1 := by decide +kernel
theorem tyJ7_ok : ∀ k, k < 0 → parseFieldDescriptor (TJ7 k).2.2.1 = some (tyJ7 k) := by decide +kernel
abbrev cJ7_fill_53178 : ByteArray := prog_15_method_103_code
def yJ7_fill_53178 : MethodName := ⟨RJ7, "fill", "([II)V"⟩
def RL : String := "SunMirrorsLaw"
abbrev cL_cell : ByteArray := method_2_code
def yL_cell : MethodName := ⟨RL, "cell", "([II)I"⟩
abbrev cL_up : ByteArray := method_3_code
def yL_up : MethodName := ⟨RL, "up", "(II)I"⟩
abbrev cL_isStep : ByteArray := method_4_code
def yL_isStep : MethodName := ⟨RL, "isStep", "(LSunMirrors;LSunMirrors;II)Z"⟩
abbrev cL_isFound : ByteArray := method_5_code
def yL_isFound : MethodName := ⟨RL, "isFound", "(LSunMirrors;LSunMirrors;II)Z"⟩
abbrev cL_areAlike : ByteArray := method_6_code
def yL_areAlike : MethodName := ⟨RL, "areAlike", "(LSunMirrors;LSunMirrors;)Z"⟩
abbrev cL_isWell : ByteArray := method_7_code
def yL_isWell : MethodName := ⟨RL, "isWell", "(LSunMirrors;)Z"⟩
abbrev cL_law : ByteArray := code
def yL_law : MethodName := ⟨RL, "law", "([I)Z"⟩
def wsL_law_r1 : List Cond := [Cond.classLink RL 10 RX9, Cond.instantiable RX9 8, Cond.initialized RX9, Cond.methodLink RL 75 yX9_init, Cond.instanceMethod yX9_init, Cond.code yX9_init cX9_init 1 none, Cond.methodLink RX9 3 objectInit, Cond.instanceMethod objectInit, Cond.code objectInit ⟨#[0xb1]⟩ 1 none, Cond.classLink RX9 9 RX2, Cond.instantiable RX2 10, Cond.initialized RX2, Cond.fieldLink RX9 12 "SunMirrors" "field" "LSunMirrors$Field;", Cond.classLink RX9 16 RX4, Cond.instantiable RX4 8, Cond.initialized RX4, Cond.fieldLink RX9 21 "SunMirrors" "light" "LSunMirrors$Light;", Cond.classLink RX9 25 RX0, Cond.instantiable RX0 5, Cond.initialized RX0, Cond.fieldLink RX9 28 "SunMirrors" "advice" "LSunMirrors$Advice;", Cond.classLink RX9 32 RX5, Cond.instantiable RX5 2, Cond.initialized RX5]
def wsL_law_r2 : List Cond := [Cond.fieldLink RX9 35 "SunMirrors" "pad" "LSunMirrors$Pad;", Cond.classLink RX9 39 RX6, Cond.instantiable RX6 8, Cond.initialized RX6, Cond.fieldLink RX9 44 "SunMirrors" "reader" "LSunMirrors$Reader;", Cond.classLink RX9 48 RX3, Cond.instantiable RX3 3, Cond.initialized RX3, Cond.fieldLink RX9 51 "SunMirrors" "history" "LSunMirrors$History;", Cond.classLink RX9 55 RX7, Cond.instantiable RX7 1, Cond.initialized RX7, Cond.fieldLink RX9 60 "SunMirrors" "slots" "LSunMirrors$Shelf;", Cond.fieldLink RX9 64 "SunMirrors" "savedSlots" "I", Cond.methodLink RX9 11 yX2_init, Cond.instanceMethod yX2_init, Cond.code yX2_init cX2_init 1 none, Cond.methodLink RX2 3 objectInit, Cond.classLink RX2 9 RX1, Cond.instantiable RX1 1, Cond.initialized RX1, Cond.fieldLink RX2 14 "SunMirrors$Field" "settings" "LSunMirrors$Cells;", Cond.fieldLink RX2 20 "SunMirrors$Field" "rows" "LSunMirrors$Cells;", Cond.fieldLink RX2 23 "SunMirrors$Field" "columns" "LSunMirrors$Cells;"]
def wsL_law_r3 : List Cond := [Cond.fieldLink RX2 26 "SunMirrors$Field" "aims" "LSunMirrors$Cells;", Cond.fieldLink RX2 29 "SunMirrors$Field" "dusts" "LSunMirrors$Cells;", Cond.fieldLink RX2 32 "SunMirrors$Field" "brought" "LSunMirrors$Cells;", Cond.fieldLink RX2 35 "SunMirrors$Field" "mirrors" "I", Cond.fieldLink RX2 39 "SunMirrors$Field" "wind" "I", Cond.fieldLink RX2 42 "SunMirrors$Field" "days" "I", Cond.fieldLink RX2 45 "SunMirrors$Field" "broughtByAll" "I", Cond.methodLink RX2 11 yX1_init, Cond.instanceMethod yX1_init, Cond.code yX1_init cX1_init 2 none, Cond.methodLink RX1 1 objectInit, Cond.methodLink RX1 7 Lib.Math.max.name, Cond.static Lib.Math.max.name, Cond.initialized "java/lang/Math", Cond.code Lib.Math.max.name Lib.Math.max.code 2 (some .int), Cond.arrayClass .int, Cond.fieldLink RX1 13 "SunMirrors$Cells" "numbers" "[I", Cond.methodLink RX2 48 yX1_write, Cond.instanceMethod yX1_write, Cond.selects RX1 yX1_write yX1_write, Cond.code yX1_write cX1_write 3 none, Cond.methodLink RX9 18 yX4_init, Cond.instanceMethod yX4_init, Cond.code yX4_init cX4_init 2 none]
def wsL_law_r4 : List Cond := [Cond.methodLink RX4 3 objectInit, Cond.classLink RX4 9 RX1, Cond.fieldLink RX4 14 "SunMirrors$Light" "places" "LSunMirrors$Cells;", Cond.fieldLink RX4 20 "SunMirrors$Light" "shaders" "LSunMirrors$Cells;", Cond.fieldLink RX4 23 "SunMirrors$Light" "gives" "LSunMirrors$Cells;", Cond.fieldLink RX4 26 "SunMirrors$Light" "order" "LSunMirrors$Cells;", Cond.fieldLink RX4 29 "SunMirrors$Light" "held" "LSunMirrors$Cells;", Cond.fieldLink RX4 32 "SunMirrors$Light" "blocked" "I", Cond.fieldLink RX4 36 "SunMirrors$Light" "used" "I", Cond.fieldLink RX4 39 "SunMirrors$Light" "field" "LSunMirrors$Field;", Cond.methodLink RX4 11 yX1_init, Cond.methodLink RX9 27 yX0_init, Cond.instanceMethod yX0_init, Cond.code yX0_init cX0_init 2 none, Cond.methodLink RX0 3 objectInit, Cond.classLink RX0 9 RX2, Cond.fieldLink RX0 12 "SunMirrors$Advice" "trial" "LSunMirrors$Field;", Cond.classLink RX0 18 RX4, Cond.fieldLink RX0 23 "SunMirrors$Advice" "light" "LSunMirrors$Light;", Cond.fieldLink RX0 27 "SunMirrors$Advice" "best" "I", Cond.fieldLink RX0 31 "SunMirrors$Advice" "bestBrings" "I", Cond.fieldLink RX0 34 "SunMirrors$Advice" "field" "LSunMirrors$Field;", Cond.methodLink RX0 11 yX2_init, Cond.methodLink RX0 20 yX4_init]
def wsL_law_r5 : List Cond := [Cond.instanceMethod yX5_init, Cond.code yX5_init cX5_init 1 none, Cond.methodLink RX5 3 objectInit, Cond.classLink RX5 9 RX1, Cond.fieldLink RX5 14 "SunMirrors$Pad" "signs" "LSunMirrors$Cells;", Cond.fieldLink RX5 20 "SunMirrors$Pad" "length" "I", Cond.methodLink RX5 11 yX1_init, Cond.methodLink RX9 41 yX6_init, Cond.instanceMethod yX6_init, Cond.code yX6_init cX6_init 2 none, Cond.methodLink RX6 3 objectInit, Cond.classLink RX6 9 RX1, Cond.fieldLink RX6 14 "SunMirrors$Reader" "kinds" "LSunMirrors$Cells;", Cond.fieldLink RX6 20 "SunMirrors$Reader" "firsts" "LSunMirrors$Cells;", Cond.fieldLink RX6 23 "SunMirrors$Reader" "seconds" "LSunMirrors$Cells;", Cond.fieldLink RX6 26 "SunMirrors$Reader" "thirds" "LSunMirrors$Cells;", Cond.fieldLink RX6 29 "SunMirrors$Reader" "orders" "I", Cond.fieldLink RX6 33 "SunMirrors$Reader" "position" "I", Cond.fieldLink RX6 36 "SunMirrors$Reader" "broken" "Z", Cond.fieldLink RX6 40 "SunMirrors$Reader" "pad" "LSunMirrors$Pad;", Cond.methodLink RX6 11 yX1_init, Cond.instanceMethod yX3_init, Cond.code yX3_init cX3_init 1 none, Cond.methodLink RX3 3 objectInit]
def wsL_law_r6 : List Cond := [Cond.classLink RX3 9 RX7, Cond.fieldLink RX3 16 "SunMirrors$History" "states" "LSunMirrors$Shelf;", Cond.fieldLink RX3 20 "SunMirrors$History" "next" "I", Cond.fieldLink RX3 24 "SunMirrors$History" "size" "I", Cond.methodLink RX3 13 yX7_init, Cond.instanceMethod yX7_init, Cond.code yX7_init cX7_init 3 none, Cond.methodLink RX7 1 objectInit, Cond.methodLink RX7 7 Lib.Math.max.name, Cond.classLink RX7 13 RX2, Cond.fieldLink RX7 15 "SunMirrors$Shelf" "states" "[LSunMirrors$Field;", Cond.methodLink RX7 21 yX2_init, Cond.methodLink RX9 57 yX7_init, Cond.methodLink RL 76 yL_cell, Cond.static yL_cell, Cond.initialized RL, Cond.code yL_cell cL_cell 2 (some .int), Cond.constant RL 7 (2132589013), Cond.methodLink RL 80 yL_isStep, Cond.static yL_isStep, Cond.code yL_isStep cL_isStep 13 (some .boolean), Cond.methodLink RL 9 yX9_count, Cond.instanceMethod yX9_count, Cond.selects RX9 yX9_count yX9_count]
def wsL_law_r7 : List Cond := [Cond.code yX9_count cX9_count 2 (some .int), Cond.fieldLink RX9 159 "SunMirrors$Field" "days" "I", Cond.fieldLink RX9 162 "SunMirrors$Field" "mirrors" "I", Cond.fieldLink RX9 165 "SunMirrors$Field" "wind" "I", Cond.fieldLink RX9 172 "SunMirrors$Field" "broughtByAll" "I", Cond.fieldLink RX9 184 "SunMirrors$Field" "settings" "LSunMirrors$Cells;", Cond.methodLink RX9 168 yX2_liesFlat, Cond.instanceMethod yX2_liesFlat, Cond.selects RX2 yX2_liesFlat yX2_liesFlat, Cond.code yX2_liesFlat cX2_liesFlat 1 (some .boolean), Cond.methodLink RX2 60 yX1_read, Cond.instanceMethod yX1_read, Cond.selects RX1 yX1_read yX1_read, Cond.code yX1_read cX1_read 2 (some .int), Cond.methodLink RX9 120 yX4_look, Cond.instanceMethod yX4_look, Cond.selects RX4 yX4_look yX4_look, Cond.code yX4_look cX4_look 3 none, Cond.fieldLink RX4 46 "SunMirrors$Field" "mirrors" "I", Cond.fieldLink RX4 51 "SunMirrors$Field" "rows" "LSunMirrors$Cells;", Cond.fieldLink RX4 58 "SunMirrors$Field" "columns" "LSunMirrors$Cells;", Cond.methodLink RX4 43 yX1_fill, Cond.instanceMethod yX1_fill, Cond.selects RX1 yX1_fill yX1_fill]
def wsL_law_r8 : List Cond := [Cond.code yX1_fill cX1_fill 2 none, Cond.methodLink RX1 19 yJ7_fill_53178, Cond.static yJ7_fill_53178, Cond.initialized RJ7, Cond.code yJ7_fill_53178 cJ7_fill_53178 4 none, Cond.methodLink RX4 54 yX1_read, Cond.methodLink RX4 61 yX1_write, Cond.methodLink RX4 65 yX4_hasBlocker, Cond.instanceMethod yX4_hasBlocker, Cond.selects RX4 yX4_hasBlocker yX4_hasBlocker, Cond.code yX4_hasBlocker cX4_hasBlocker 7 (some .boolean), Cond.methodLink RX4 73 yX4_inPlace, Cond.instanceMethod yX4_inPlace, Cond.selects RX4 yX4_inPlace yX4_inPlace, Cond.code yX4_inPlace cX4_inPlace 3 (some .int), Cond.static yX9_isPlace, Cond.code yX9_isPlace cX9_isPlace 2 (some .boolean), Cond.methodLink RX4 69 yX4_nearestShader, Cond.instanceMethod yX4_nearestShader, Cond.selects RX4 yX4_nearestShader yX4_nearestShader, Cond.code yX4_nearestShader cX4_nearestShader 8 (some .int), Cond.methodLink RX4 76 yX8_height, Cond.static yX8_height, Cond.initialized RX8]
def wsL_law_r9 : List Cond := [Cond.code yX8_height cX8_height 1 (some .int), Cond.methodLink RX8 9 Lib.Math.abs.name, Cond.static Lib.Math.abs.name, Cond.code Lib.Math.abs.name Lib.Math.abs.code 1 (some .int), Cond.methodLink RX4 81 yX8_columns, Cond.static yX8_columns, Cond.code yX8_columns cX8_columns 1 (some .int), Cond.methodLink RX9 175 yX4_day, Cond.instanceMethod yX4_day, Cond.selects RX4 yX4_day yX4_day, Cond.code yX4_day cX4_day 3 (some .int), Cond.methodLink RX4 115 yX4_work, Cond.instanceMethod yX4_work, Cond.selects RX4 yX4_work yX4_work, Cond.code yX4_work cX4_work 6 (some .int), Cond.methodLink RX4 87 yX2_liesFlat, Cond.methodLink RX4 91 yX4_gift, Cond.instanceMethod yX4_gift, Cond.selects RX4 yX4_gift yX4_gift, Cond.code yX4_gift cX4_gift 4 (some .int), Cond.fieldLink RX4 106 "SunMirrors$Field" "dusts" "LSunMirrors$Cells;", Cond.methodLink RX4 100 yX4_isBlocked, Cond.instanceMethod yX4_isBlocked, Cond.selects RX4 yX4_isBlocked yX4_isBlocked]
def wsL_law_r10 : List Cond := [Cond.code yX4_isBlocked cX4_isBlocked 2 (some .boolean), Cond.methodLink RX4 103 yX4_shader, Cond.instanceMethod yX4_shader, Cond.selects RX4 yX4_shader yX4_shader, Cond.code yX4_shader cX4_shader 3 (some .int), Cond.methodLink RX4 94 yX4_putInOrder, Cond.instanceMethod yX4_putInOrder, Cond.selects RX4 yX4_putInOrder yX4_putInOrder, Cond.code yX4_putInOrder cX4_putInOrder 3 none, Cond.methodLink RX4 97 yX4_useIfBearable, Cond.instanceMethod yX4_useIfBearable, Cond.selects RX4 yX4_useIfBearable yX4_useIfBearable, Cond.code yX4_useIfBearable cX4_useIfBearable 4 (some .int), Cond.fieldLink RX4 109 "SunMirrors$Field" "aims" "LSunMirrors$Cells;", Cond.fieldLink RX4 112 "SunMirrors$Field" "settings" "LSunMirrors$Cells;", Cond.methodLink RX9 178 yX4_blocked, Cond.instanceMethod yX4_blocked, Cond.selects RX4 yX4_blocked yX4_blocked, Cond.code yX4_blocked cX4_blocked 1 (some .int), Cond.methodLink RX9 181 yX2_allDust, Cond.instanceMethod yX2_allDust, Cond.selects RX2 yX2_allDust yX2_allDust, Cond.code yX2_allDust cX2_allDust 3 (some .int), Cond.methodLink RX9 106 yX1_read]
def wsL_law_r11 : List Cond := [Cond.methodLink RX9 187 yX5_length, Cond.instanceMethod yX5_length, Cond.selects RX5 yX5_length yX5_length, Cond.code yX5_length cX5_length 1 (some .int), Cond.methodLink RX9 190 yX3_size, Cond.instanceMethod yX3_size, Cond.selects RX3 yX3_size yX3_size, Cond.code yX3_size cX3_size 1 (some .int), Cond.methodLink RL 15 yL_up, Cond.static yL_up, Cond.code yL_up cL_up 2 (some .int), Cond.constant RL 8 (2147483647), Cond.methodLink RL 21 yX9_in, Cond.instanceMethod yX9_in, Cond.selects RX9 yX9_in yX9_in, Cond.code yX9_in cX9_in 3 (some .int), Cond.methodLink RX9 193 yX9_isPlace, Cond.methodLink RX9 197 yX2_mirrorIn, Cond.instanceMethod yX2_mirrorIn, Cond.selects RX2 yX2_mirrorIn yX2_mirrorIn, Cond.code yX2_mirrorIn cX2_mirrorIn 4 (some .int), Cond.methodLink RL 24 yX9_mirror, Cond.instanceMethod yX9_mirror, Cond.selects RX9 yX9_mirror yX9_mirror]
def wsL_law_r12 : List Cond := [Cond.code yX9_mirror cX9_mirror 4 (some .int), Cond.methodLink RX9 68 yX3_note, Cond.instanceMethod yX3_note, Cond.selects RX3 yX3_note yX3_note, Cond.code yX3_note cX3_note 2 none, Cond.methodLink RX3 27 yX7_keep, Cond.instanceMethod yX7_keep, Cond.selects RX7 yX7_keep yX7_keep, Cond.code yX7_keep cX7_keep 4 none, Cond.methodLink RX7 22 yX7_state, Cond.instanceMethod yX7_state, Cond.selects RX7 yX7_state yX7_state, Cond.code yX7_state cX7_state 2 (some (.object "SunMirrors$Field")), Cond.methodLink RX7 26 yX2_copy, Cond.instanceMethod yX2_copy, Cond.selects RX2 yX2_copy yX2_copy, Cond.code yX2_copy cX2_copy 2 none, Cond.methodLink RX2 52 yX1_copy, Cond.instanceMethod yX1_copy, Cond.selects RX1 yX1_copy yX1_copy, Cond.code yX1_copy cX1_copy 2 none, Cond.methodLink RX1 25 Lib.Math.min.name, Cond.static Lib.Math.min.name, Cond.code Lib.Math.min.name Lib.Math.min.code 2 (some .int)]
def wsL_law_r13 : List Cond := [Cond.methodLink RX1 28 arraycopyName, Cond.native arraycopyName, Cond.static arraycopyName, Cond.initialized "java/lang/System", Cond.methodLink RX9 79 yX2_place, Cond.instanceMethod yX2_place, Cond.selects RX2 yX2_place yX2_place, Cond.code yX2_place cX2_place 4 (some .int), Cond.static yX9_isAimPoint, Cond.code yX9_isAimPoint cX9_isAimPoint 1 (some .boolean), Cond.methodLink RX2 71 yX2_mirrorIn, Cond.methodLink RX2 75 yX2_add, Cond.instanceMethod yX2_add, Cond.selects RX2 yX2_add yX2_add, Cond.code yX2_add cX2_add 5 (some .int), Cond.methodLink RX9 75 yX9_recorded, Cond.instanceMethod yX9_recorded, Cond.selects RX9 yX9_recorded yX9_recorded, Cond.code yX9_recorded cX9_recorded 2 (some .int), Cond.methodLink RX9 244 yX3_keepNote, Cond.instanceMethod yX3_keepNote, Cond.selects RX3 yX3_keepNote yX3_keepNote, Cond.code yX3_keepNote cX3_keepNote 1 none, Cond.methodLink RX3 31 Lib.Math.min.name]
def wsL_law_r14 : List Cond := [Cond.methodLink RL 28 yX9_of, Cond.instanceMethod yX9_of, Cond.selects RX9 yX9_of yX9_of, Cond.code yX9_of cX9_of 3 (some .int), Cond.fieldLink RX9 102 "SunMirrors$Field" "rows" "LSunMirrors$Cells;", Cond.fieldLink RX9 111 "SunMirrors$Field" "columns" "LSunMirrors$Cells;", Cond.fieldLink RX9 114 "SunMirrors$Field" "aims" "LSunMirrors$Cells;", Cond.fieldLink RX9 117 "SunMirrors$Field" "dusts" "LSunMirrors$Cells;", Cond.fieldLink RX9 126 "SunMirrors$Field" "brought" "LSunMirrors$Cells;", Cond.methodLink RX9 98 yX2_isMirror, Cond.instanceMethod yX2_isMirror, Cond.selects RX2 yX2_isMirror yX2_isMirror, Cond.code yX2_isMirror cX2_isMirror 2 (some .boolean), Cond.methodLink RX9 123 yX4_isBlocked, Cond.methodLink RL 31 yX9_take, Cond.instanceMethod yX9_take, Cond.selects RX9 yX9_take yX9_take, Cond.code yX9_take cX9_take 2 (some .int), Cond.methodLink RX9 83 yX2_remove, Cond.instanceMethod yX2_remove, Cond.selects RX2 yX2_remove yX2_remove, Cond.code yX2_remove cX2_remove 2 (some .int), Cond.methodLink RX2 79 yX2_isMirror, Cond.methodLink RX2 82 yX1_leaveOut]
def wsL_law_r15 : List Cond := [Cond.instanceMethod yX1_leaveOut, Cond.selects RX1 yX1_leaveOut yX1_leaveOut, Cond.code yX1_leaveOut cX1_leaveOut 2 none, Cond.methodLink RL 34 yX9_aim, Cond.instanceMethod yX9_aim, Cond.selects RX9 yX9_aim yX9_aim, Cond.code yX9_aim cX9_aim 3 (some .int), Cond.methodLink RX9 86 yX2_turn, Cond.instanceMethod yX2_turn, Cond.selects RX2 yX2_turn yX2_turn, Cond.code yX2_turn cX2_turn 4 (some .int), Cond.methodLink RL 37 yX9_wash, Cond.instanceMethod yX9_wash, Cond.selects RX9 yX9_wash yX9_wash, Cond.code yX9_wash cX9_wash 2 (some .int), Cond.methodLink RX9 89 yX2_clean, Cond.instanceMethod yX2_clean, Cond.selects RX2 yX2_clean yX2_clean, Cond.code yX2_clean cX2_clean 3 (some .int), Cond.methodLink RL 40 yX9_wind, Cond.instanceMethod yX9_wind, Cond.selects RX9 yX9_wind yX9_wind, Cond.code yX9_wind cX9_wind 2 (some .int), Cond.methodLink RX9 92 yX2_blow]
def wsL_law_r16 : List Cond := [Cond.instanceMethod yX2_blow, Cond.selects RX2 yX2_blow yX2_blow, Cond.code yX2_blow cX2_blow 2 (some .int), Cond.methodLink RX2 85 yX2_liesFlat, Cond.methodLink RL 43 yX9_set, Cond.instanceMethod yX9_set, Cond.selects RX9 yX9_set yX9_set, Cond.code yX9_set cX9_set 3 (some .int), Cond.methodLink RX9 71 yX2_changeSetting, Cond.instanceMethod yX2_changeSetting, Cond.selects RX2 yX2_changeSetting yX2_changeSetting, Cond.code yX2_changeSetting cX2_changeSetting 4 (some .int), Cond.methodLink RX2 56 yX2_isSettingValue, Cond.static yX2_isSettingValue, Cond.code yX2_isSettingValue cX2_isSettingValue 2 (some .boolean), Cond.methodLink RL 46 yX9_pass, Cond.instanceMethod yX9_pass, Cond.selects RX9 yX9_pass yX9_pass, Cond.code yX9_pass cX9_pass 2 (some .int), Cond.methodLink RX9 95 yX4_spend, Cond.instanceMethod yX4_spend, Cond.selects RX4 yX4_spend yX4_spend, Cond.code yX4_spend cX4_spend 6 (some .int), Cond.fieldLink RX4 118 "SunMirrors$Field" "days" "I"]
def wsL_law_r17 : List Cond := [Cond.methodLink RX4 121 yX4_look, Cond.methodLink RX4 124 yX4_creditUsed, Cond.instanceMethod yX4_creditUsed, Cond.selects RX4 yX4_creditUsed yX4_creditUsed, Cond.code yX4_creditUsed cX4_creditUsed 2 none, Cond.methodLink RX4 130 yX4_isUsed, Cond.instanceMethod yX4_isUsed, Cond.selects RX4 yX4_isUsed yX4_isUsed, Cond.code yX4_isUsed cX4_isUsed 2 (some .boolean), Cond.methodLink RX4 133 yX2_credit, Cond.instanceMethod yX2_credit, Cond.selects RX2 yX2_credit yX2_credit, Cond.code yX2_credit cX2_credit 3 none, Cond.methodLink RX4 127 yX2_endDay, Cond.instanceMethod yX2_endDay, Cond.selects RX2 yX2_endDay yX2_endDay, Cond.code yX2_endDay cX2_endDay 3 none, Cond.methodLink RX2 89 Lib.Math.min.name, Cond.methodLink RL 49 yX9_undo, Cond.instanceMethod yX9_undo, Cond.selects RX9 yX9_undo yX9_undo, Cond.code yX9_undo cX9_undo 1 (some .int), Cond.methodLink RX9 230 yX3_stepBack, Cond.instanceMethod yX3_stepBack]
def wsL_law_r18 : List Cond := [Cond.selects RX3 yX3_stepBack yX3_stepBack, Cond.code yX3_stepBack cX3_stepBack 2 (some .boolean), Cond.methodLink RX3 37 yX7_bringBack, Cond.instanceMethod yX7_bringBack, Cond.selects RX7 yX7_bringBack yX7_bringBack, Cond.code yX7_bringBack cX7_bringBack 4 none, Cond.methodLink RL 53 yL_isFound, Cond.static yL_isFound, Cond.code yL_isFound cL_isFound 8 (some .boolean), Cond.methodLink RL 57 yX9_bestColumn, Cond.instanceMethod yX9_bestColumn, Cond.selects RX9 yX9_bestColumn yX9_bestColumn, Cond.code yX9_bestColumn cX9_bestColumn 4 (some .int), Cond.methodLink RX9 146 yX9_isAimPoint, Cond.methodLink RX9 200 yX9_isChoice, Cond.static yX9_isChoice, Cond.code yX9_isChoice cX9_isChoice 1 (some .boolean), Cond.methodLink RX9 206 yX0_columnForOneMore, Cond.instanceMethod yX0_columnForOneMore, Cond.selects RX0 yX0_columnForOneMore yX0_columnForOneMore, Cond.code yX0_columnForOneMore cX0_columnForOneMore 5 (some .int), Cond.methodLink RX0 37 yX0_forgetBest, Cond.instanceMethod yX0_forgetBest, Cond.selects RX0 yX0_forgetBest yX0_forgetBest]
def wsL_law_r19 : List Cond := [Cond.code yX0_forgetBest cX0_forgetBest 1 none, Cond.methodLink RX0 57 yX2_mirrorIn, Cond.methodLink RX0 43 yX2_copy, Cond.methodLink RX0 61 yX2_add, Cond.methodLink RX0 50 yX0_weigh, Cond.instanceMethod yX0_weigh, Cond.selects RX0 yX0_weigh yX0_weigh, Cond.code yX0_weigh cX0_weigh 3 none, Cond.methodLink RX0 71 yX4_look, Cond.methodLink RX0 89 yX4_day, Cond.methodLink RX0 54 yX0_answer, Cond.instanceMethod yX0_answer, Cond.selects RX0 yX0_answer yX0_answer, Cond.code yX0_answer cX0_answer 2 (some .int), Cond.methodLink RL 60 yX9_worthLeast, Cond.instanceMethod yX9_worthLeast, Cond.selects RX9 yX9_worthLeast yX9_worthLeast, Cond.code yX9_worthLeast cX9_worthLeast 2 (some .int), Cond.methodLink RX9 203 yX0_leastWorth, Cond.instanceMethod yX0_leastWorth, Cond.selects RX0 yX0_leastWorth yX0_leastWorth, Cond.code yX0_leastWorth cX0_leastWorth 3 (some .int), Cond.fieldLink RX0 40 "SunMirrors$Field" "mirrors" "I", Cond.methodLink RX0 46 yX2_remove]
def wsL_law_r20 : List Cond := [Cond.methodLink RL 63 yX9_toWash, Cond.instanceMethod yX9_toWash, Cond.selects RX9 yX9_toWash yX9_toWash, Cond.code yX9_toWash cX9_toWash 1 (some .int), Cond.methodLink RX9 209 yX0_mirrorToWash, Cond.instanceMethod yX0_mirrorToWash, Cond.selects RX0 yX0_mirrorToWash yX0_mirrorToWash, Cond.code yX0_mirrorToWash cX0_mirrorToWash 2 (some .int), Cond.methodLink RX0 65 yX2_clean, Cond.methodLink RL 66 yX9_leastLimit, Cond.instanceMethod yX9_leastLimit, Cond.selects RX9 yX9_leastLimit yX9_leastLimit, Cond.code yX9_leastLimit cX9_leastLimit 1 (some .int), Cond.methodLink RX9 212 yX0_limitForAll, Cond.instanceMethod yX0_limitForAll, Cond.selects RX0 yX0_limitForAll yX0_limitForAll, Cond.code yX0_limitForAll cX0_limitForAll 5 (some .int), Cond.methodLink RX0 84 Lib.Math.max.name, Cond.methodLink RX0 68 yX2_changeSetting, Cond.methodLink RX0 74 yX4_work, Cond.methodLink RX0 77 yX4_used, Cond.instanceMethod yX4_used, Cond.selects RX4 yX4_used yX4_used, Cond.code yX4_used cX4_used 1 (some .int)]
def wsL_law_r21 : List Cond := [Cond.methodLink RX0 81 yX4_held, Cond.instanceMethod yX4_held, Cond.selects RX4 yX4_held yX4_held, Cond.code yX4_held cX4_held 2 (some .int), Cond.methodLink RL 83 yL_isWell, Cond.static yL_isWell, Cond.code yL_isWell cL_isWell 20 (some .boolean), Cond.methodLink RL 72 yX9_point, Cond.instanceMethod yX9_point, Cond.selects RX9 yX9_point yX9_point, Cond.code yX9_point cX9_point 4 (some .int), Cond.methodLink RX9 129 yX8_isHour, Cond.static yX8_isHour, Cond.code yX8_isHour cX8_isHour 1 (some .boolean), Cond.methodLink RX9 134 yX4_work, Cond.methodLink RX9 149 yX4_held, Cond.methodLink RX9 152 yX2_mirrorsOf, Cond.instanceMethod yX2_mirrorsOf, Cond.selects RX2 yX2_mirrorsOf yX2_mirrorsOf, Cond.code yX2_mirrorsOf cX2_mirrorsOf 4 (some .int), Cond.methodLink RX9 155 yX4_used, Cond.methodLink RL 69 yX9_at, Cond.instanceMethod yX9_at, Cond.selects RX9 yX9_at yX9_at]
def wsL_law_r22 : List Cond := [Cond.code yX9_at cX9_at 4 (some .int), Cond.methodLink RX9 137 yX4_shader, Cond.methodLink RX9 140 yX4_given, Cond.instanceMethod yX4_given, Cond.selects RX4 yX4_given yX4_given, Cond.code yX4_given cX4_given 2 (some .int), Cond.methodLink RX9 143 yX4_isUsed, Cond.methodLink RL 87 yL_areAlike, Cond.static yL_areAlike, Cond.code yL_areAlike cL_areAlike 5 (some .boolean)]
def wsL_law : List Cond := (wsL_law_r1 ++ (wsL_law_r2 ++ (wsL_law_r3 ++ (wsL_law_r4 ++ (wsL_law_r5 ++ (wsL_law_r6 ++ (wsL_law_r7 ++ (wsL_law_r8 ++ (wsL_law_r9 ++ (wsL_law_r10 ++ (wsL_law_r11 ++ (wsL_law_r12 ++ (wsL_law_r13 ++ (wsL_law_r14 ++ (wsL_law_r15 ++ (wsL_law_r16 ++ (wsL_law_r17 ++ (wsL_law_r18 ++ (wsL_law_r19 ++ (wsL_law_r20 ++ (wsL_law_r21 ++ wsL_law_r22))))))))))))))))))))) ++ wsX90 ++ wsX20 ++ wsX40 ++ wsX00 ++ wsX50 ++ wsX60 ++ wsX30 ++ wsX70 ++ wsX10 ++ ([] : List Cond)
abbrev vwCl : List vw_C := [(RX0, TX0, 5), (RX1, TX1, 1), (RX2, TX2, 10), (RX3, TX3, 3), (RX4, TX4, 8), (RX5, TX5, 2), (RX6, TX6, 8), (RX7, TX7, 1), (RX9, TX9, 8)]
