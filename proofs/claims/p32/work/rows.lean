section
-- ===== PART A: goes FIRST, ahead of the names: the tables' words, and 'selects' of the private methods out of them =====
/-- a private method of a class that the tables say can be made, by its rows of tables_1 -/
def lw_okq (q : MethodName × Nat) : Prop := (q.1.cls ≠ "java/lang/invoke/MethodHandle" ∧ q.1.cls ≠ "java/lang/invoke/VarHandle") ∧ Cond.instantiable q.1.cls q.2 ∈ tables_1 ∧ Cond.privateMethod q.1 ∈ tables_1 ∧ Cond.instanceMethod q.1 ∈ tables_1
theorem lw_p0 : lw_okq (⟨"DryIceLane$Hold", "keepToMode", "()V"⟩, 7) := ⟨⟨by decide +kernel, by decide +kernel⟩, List.mem_of_getElem? (i := 88) (by decide +kernel), List.mem_of_getElem? (i := 328) (by decide +kernel), List.mem_of_getElem? (i := 329) (by decide +kernel)⟩
theorem lw_p1 : lw_okq (⟨"DryIceLane$Hold", "shutVent", "()V"⟩, 7) := ⟨⟨by decide +kernel, by decide +kernel⟩, List.mem_of_getElem? (i := 88) (by decide +kernel), List.mem_of_getElem? (i := 336) (by decide +kernel), List.mem_of_getElem? (i := 337) (by decide +kernel)⟩
theorem lw_p2 : lw_okq (⟨"DryIceLane$Hold", "changeTemperature", "(IILDryIceLane$Settings;)V"⟩, 7) := ⟨⟨by decide +kernel, by decide +kernel⟩, List.mem_of_getElem? (i := 88) (by decide +kernel), List.mem_of_getElem? (i := 467) (by decide +kernel), List.mem_of_getElem? (i := 468) (by decide +kernel)⟩
theorem lw_p3 : lw_okq (⟨"DryIceLane$Hold", "loseGas", "(LDryIceLane$Settings;)V"⟩, 7) := ⟨⟨by decide +kernel, by decide +kernel⟩, List.mem_of_getElem? (i := 88) (by decide +kernel), List.mem_of_getElem? (i := 473) (by decide +kernel), List.mem_of_getElem? (i := 474) (by decide +kernel)⟩
theorem lw_p4 : lw_okq (⟨"DryIceLane$Hold", "moveVent", "(JLDryIceLane$Settings;)V"⟩, 7) := ⟨⟨by decide +kernel, by decide +kernel⟩, List.mem_of_getElem? (i := 88) (by decide +kernel), List.mem_of_getElem? (i := 479) (by decide +kernel), List.mem_of_getElem? (i := 480) (by decide +kernel)⟩
def lw_privs_1 : List (MethodName × Nat) := [(⟨"DryIceLane$Hold", "keepToMode", "()V"⟩, 7), (⟨"DryIceLane$Hold", "shutVent", "()V"⟩, 7), (⟨"DryIceLane$Hold", "changeTemperature", "(IILDryIceLane$Settings;)V"⟩, 7), (⟨"DryIceLane$Hold", "loseGas", "(LDryIceLane$Settings;)V"⟩, 7), (⟨"DryIceLane$Hold", "moveVent", "(JLDryIceLane$Settings;)V"⟩, 7)]
theorem lw_r1 : ∀ q ∈ lw_privs_1, lw_okq q := List.forall_mem_cons.mpr ⟨lw_p0, List.forall_mem_cons.mpr ⟨lw_p1, List.forall_mem_cons.mpr ⟨lw_p2, List.forall_mem_cons.mpr ⟨lw_p3, List.forall_mem_cons.mpr ⟨lw_p4, fun _ h => absurd h List.not_mem_nil⟩⟩⟩⟩⟩
def lw_privs : List (MethodName × Nat) := lw_privs_1
def lw_tbl : List Cond := k2_sels lw_privs ++ tables_1
theorem lw_privs_ok : ∀ q ∈ lw_privs, lw_okq q := lw_r1
end
section
/-! ===== BEGIN words of one list among another's, by their places ===== -/
theorem goodIn_r {big : List Cond} (ws : List Cond) (ps : List Nat) (hp : ws = ps.filterMap (fun i => big[i]?)) (h : ws.all goodWord = true) : GoodIn big ws := by
  intro w hw
  have h1 := List.all_eq_true.mp h w hw
  rw [hp] at hw
  obtain ⟨i, -, hi⟩ := List.mem_filterMap.mp hw
  have hm : w ∈ big := by first | exact List.mem_of_getElem? hi | exact List.getElem?_mem hi
  exact ⟨hm, good_of_word h1⟩
theorem goodIn_app {big a b : List Cond} (ha : GoodIn big a) (hb : GoodIn big b) : GoodIn big (a ++ b) := fun w h => (List.mem_append.mp h).elim (ha w) (hb w)
theorem goodIn_ca {big a b : List Cond} {c : Cond} (ha : GoodIn big (c :: a)) (hb : GoodIn big b) : GoodIn big (c :: (a ++ b)) := fun w h => (List.mem_cons.mp h).elim (fun e => ha w (List.mem_cons.mpr (Or.inl e))) (fun h => (List.mem_append.mp h).elim (fun h => ha w (List.mem_cons.mpr (Or.inr h))) (hb w))
theorem goodIn_sub {big ws : List Cond} (hm : ∀ w ∈ ws, w ∈ big) (h : ws.all goodWord = true) : GoodIn big ws := fun w hw => ⟨hm w hw, good_of_word (List.all_eq_true.mp h w hw)⟩
/-! ===== END ===== -/

/-! ===== BEGIN printed: names, fields, word lists, decode rows ===== -/
def RX0 : String := "DryIceLane$Box"
def TX0 : u_T := fun k => match k with
  | 0 => ("DryIceLane$Box", "insulation", "I", false)
  | 1 => ("DryIceLane$Box", "tare", "I", false)
  | 2 => ("DryIceLane$Box", "ice", "I", false)
  | _ => ("DryIceLane$Box", "paper", "I", false)
def tyX0 : Nat → FieldType := fun k => match k with
  | 0 => .int
  | 1 => .int
  | 2 => .int
  | _ => .int
abbrev wsX00 : List Cond := u_ws RX0 TX0 4
theorem nmX0 : ∀ a, a < 4 → ∀ b, b < 4 → a ≠ b → (TX0 a).2.1 ≠ (TX0 b).2.1 := by decide +kernel
theorem tyX0_ok : ∀ k, k < 4 → parseFieldDescriptor (TX0 k).2.2.1 = some (tyX0 k) := by decide +kernel
abbrev cX0_init : ByteArray := prog_2_method_1_code
def yX0_init : MethodName := ⟨RX0, "<init>", "()V"⟩
abbrev cX0_goingOff : ByteArray := prog_2_method_3_code
def yX0_goingOff : MethodName := ⟨RX0, "goingOff", "(II)I"⟩
abbrev cX0_take : ByteArray := prog_2_method_4_code
def yX0_take : MethodName := ⟨RX0, "take", "(I)V"⟩
def RX1 : String := "DryIceLane$Hold"
def TX1 : u_T := fun k => match k with
  | 0 => ("DryIceLane$Hold", "temperature", "I", false)
  | 1 => ("DryIceLane$Hold", "gas", "J", false)
  | 2 => ("DryIceLane$Hold", "ventMode", "I", false)
  | 3 => ("DryIceLane$Hold", "ventOpen", "Z", false)
  | 4 => ("DryIceLane$Hold", "ventMinutes", "I", false)
  | 5 => ("DryIceLane$Hold", "doorOpen", "Z", false)
  | _ => ("DryIceLane$Hold", "alarms", "I", false)
def tyX1 : Nat → FieldType := fun k => match k with
  | 0 => .int
  | 1 => .long
  | 2 => .int
  | 3 => .boolean
  | 4 => .int
  | 5 => .boolean
  | _ => .int
abbrev wsX10 : List Cond := u_ws RX1 TX1 7
theorem nmX1 : ∀ a, a < 7 → ∀ b, b < 7 → a ≠ b → (TX1 a).2.1 ≠ (TX1 b).2.1 := by decide +kernel
theorem tyX1_ok : ∀ k, k < 7 → parseFieldDescriptor (TX1 k).2.2.1 = some (tyX1 k) := by decide +kernel
abbrev cX1_init : ByteArray := prog_3_method_1_code
def yX1_init : MethodName := ⟨RX1, "<init>", "()V"⟩
abbrev cX1_concentration : ByteArray := prog_3_method_3_code
def yX1_concentration : MethodName := ⟨RX1, "concentration", "(LDryIceLane$Settings;)J"⟩
abbrev cX1_setVentMode : ByteArray := prog_3_method_4_code
def yX1_setVentMode : MethodName := ⟨RX1, "setVentMode", "(I)V"⟩
abbrev cX1_keepToMode : ByteArray := prog_3_method_5_code
def yX1_keepToMode : MethodName := ⟨RX1, "keepToMode", "()V"⟩
abbrev cX1_openVent : ByteArray := prog_3_method_6_code
def yX1_openVent : MethodName := ⟨RX1, "openVent", "()V"⟩
abbrev cX1_shutVent : ByteArray := prog_3_method_7_code
def yX1_shutVent : MethodName := ⟨RX1, "shutVent", "()V"⟩
abbrev cX1_letMinutePass : ByteArray := prog_3_method_8_code
def yX1_letMinutePass : MethodName := ⟨RX1, "letMinutePass", "(IILDryIceLane$Settings;)V"⟩
abbrev cX1_changeTemperature : ByteArray := prog_3_method_9_code
def yX1_changeTemperature : MethodName := ⟨RX1, "changeTemperature", "(IILDryIceLane$Settings;)V"⟩
abbrev cX1_loseGas : ByteArray := prog_3_method_10_code
def yX1_loseGas : MethodName := ⟨RX1, "loseGas", "(LDryIceLane$Settings;)V"⟩
abbrev cX1_moveVent : ByteArray := prog_3_method_11_code
def yX1_moveVent : MethodName := ⟨RX1, "moveVent", "(JLDryIceLane$Settings;)V"⟩
def RX2 : String := "DryIceLane$Lane"
def TX2 : u_T := fun k => match k with
  | 0 => ("DryIceLane$Lane", "boxes", "[LDryIceLane$Box;", true)
  | _ => ("DryIceLane$Lane", "count", "I", false)
def tyX2 : Nat → FieldType := fun k => match k with
  | 0 => .array (.object "DryIceLane$Box")
  | _ => .int
abbrev wsX20 : List Cond := u_ws RX2 TX2 2
theorem nmX2 : ∀ a, a < 2 → ∀ b, b < 2 → a ≠ b → (TX2 a).2.1 ≠ (TX2 b).2.1 := by decide +kernel
theorem tyX2_ok : ∀ k, k < 2 → parseFieldDescriptor (TX2 k).2.2.1 = some (tyX2 k) := by decide +kernel
abbrev cX2_init : ByteArray := prog_4_method_1_code
def yX2_init : MethodName := ⟨RX2, "<init>", "()V"⟩
abbrev cX2_boxAt : ByteArray := prog_4_method_3_code
def yX2_boxAt : MethodName := ⟨RX2, "boxAt", "(I)LDryIceLane$Box;"⟩
abbrev cX2_append : ByteArray := prog_4_method_4_code
def yX2_append : MethodName := ⟨RX2, "append", "(III)V"⟩
abbrev cX2_takeOut : ByteArray := prog_4_method_5_code
def yX2_takeOut : MethodName := ⟨RX2, "takeOut", "(I)V"⟩
abbrev cX2_move : ByteArray := prog_4_method_6_code
def yX2_move : MethodName := ⟨RX2, "move", "(II)V"⟩
abbrev cX2_iceOfAll : ByteArray := prog_4_method_7_code
def yX2_iceOfAll : MethodName := ⟨RX2, "iceOfAll", "()I"⟩
abbrev cX2_takeFromFront : ByteArray := prog_4_method_8_code
def yX2_takeFromFront : MethodName := ⟨RX2, "takeFromFront", "(I)I"⟩
abbrev cX2_letGoOff : ByteArray := prog_4_method_9_code
def yX2_letGoOff : MethodName := ⟨RX2, "letGoOff", "(II)I"⟩
def RX3 : String := "DryIceLane$Pad"
def TX3 : u_T := fun k => match k with
  | 0 => ("DryIceLane$Pad", "codes", "[I", true)
  | _ => ("DryIceLane$Pad", "length", "I", false)
def tyX3 : Nat → FieldType := fun k => match k with
  | 0 => .array .int
  | _ => .int
abbrev wsX30 : List Cond := u_ws RX3 TX3 2
theorem nmX3 : ∀ a, a < 2 → ∀ b, b < 2 → a ≠ b → (TX3 a).2.1 ≠ (TX3 b).2.1 := by decide +kernel
theorem tyX3_ok : ∀ k, k < 2 → parseFieldDescriptor (TX3 k).2.2.1 = some (tyX3 k) := by decide +kernel
abbrev cX3_init : ByteArray := prog_5_method_1_code
def yX3_init : MethodName := ⟨RX3, "<init>", "()V"⟩
def RX4 : String := "DryIceLane$Route"
def TX4 : u_T := fun k => match k with
  | 0 => ("DryIceLane$Route", "durations", "[I", true)
  | 1 => ("DryIceLane$Route", "outsides", "[I", true)
  | 2 => ("DryIceLane$Route", "count", "I", false)
  | 3 => ("DryIceLane$Route", "latest", "I", false)
  | _ => ("DryIceLane$Route", "minutesLeft", "I", false)
def tyX4 : Nat → FieldType := fun k => match k with
  | 0 => .array .int
  | 1 => .array .int
  | 2 => .int
  | 3 => .int
  | _ => .int
abbrev wsX40 : List Cond := u_ws RX4 TX4 5
theorem nmX4 : ∀ a, a < 5 → ∀ b, b < 5 → a ≠ b → (TX4 a).2.1 ≠ (TX4 b).2.1 := by decide +kernel
theorem tyX4_ok : ∀ k, k < 5 → parseFieldDescriptor (TX4 k).2.2.1 = some (tyX4 k) := by decide +kernel
abbrev cX4_init : ByteArray := prog_6_method_1_code
def yX4_init : MethodName := ⟨RX4, "<init>", "()V"⟩
abbrev cX4_hasLeg : ByteArray := prog_6_method_3_code
def yX4_hasLeg : MethodName := ⟨RX4, "hasLeg", "(I)Z"⟩
abbrev cX4_hasNextLeg : ByteArray := prog_6_method_4_code
def yX4_hasNextLeg : MethodName := ⟨RX4, "hasNextLeg", "()Z"⟩
abbrev cX4_isOnTheWay : ByteArray := prog_6_method_5_code
def yX4_isOnTheWay : MethodName := ⟨RX4, "isOnTheWay", "()Z"⟩
abbrev cX4_durationOf : ByteArray := prog_6_method_6_code
def yX4_durationOf : MethodName := ⟨RX4, "durationOf", "(I)I"⟩
abbrev cX4_outsideOf : ByteArray := prog_6_method_7_code
def yX4_outsideOf : MethodName := ⟨RX4, "outsideOf", "(I)I"⟩
abbrev cX4_outsideNow : ByteArray := prog_6_method_8_code
def yX4_outsideNow : MethodName := ⟨RX4, "outsideNow", "()I"⟩
abbrev cX4_append : ByteArray := prog_6_method_9_code
def yX4_append : MethodName := ⟨RX4, "append", "(II)V"⟩
abbrev cX4_beginNextLeg : ByteArray := prog_6_method_10_code
def yX4_beginNextLeg : MethodName := ⟨RX4, "beginNextLeg", "()V"⟩
abbrev cX4_letMinutePass : ByteArray := prog_6_method_11_code
def yX4_letMinutePass : MethodName := ⟨RX4, "letMinutePass", "()V"⟩
def RX5 : String := "DryIceLane$RouteReader"
def TX5 : u_T := fun k => match k with
  | 0 => ("DryIceLane$RouteReader", "durations", "[I", true)
  | 1 => ("DryIceLane$RouteReader", "outsides", "[I", true)
  | 2 => ("DryIceLane$RouteReader", "legs", "I", false)
  | 3 => ("DryIceLane$RouteReader", "state", "I", false)
  | 4 => ("DryIceLane$RouteReader", "number", "I", false)
  | 5 => ("DryIceLane$RouteReader", "duration", "I", false)
  | _ => ("DryIceLane$RouteReader", "below", "Z", false)
def tyX5 : Nat → FieldType := fun k => match k with
  | 0 => .array .int
  | 1 => .array .int
  | 2 => .int
  | 3 => .int
  | 4 => .int
  | 5 => .int
  | _ => .boolean
abbrev wsX50 : List Cond := u_ws RX5 TX5 7
theorem nmX5 : ∀ a, a < 7 → ∀ b, b < 7 → a ≠ b → (TX5 a).2.1 ≠ (TX5 b).2.1 := by decide +kernel
theorem tyX5_ok : ∀ k, k < 7 → parseFieldDescriptor (TX5 k).2.2.1 = some (tyX5 k) := by decide +kernel
abbrev cX5_init : ByteArray := prog_7_method_1_code
def yX5_init : MethodName := ⟨RX5, "<init>", "()V"⟩
def RX6 : String := "DryIceLane$Settings"
def TX6 : u_T := fun k => match k with
  | _ => ("DryIceLane$Settings", "values", "[I", true)
def tyX6 : Nat → FieldType := fun k => match k with
  | _ => .array .int
abbrev wsX60 : List Cond := u_ws RX6 TX6 1
theorem nmX6 : ∀ a, a < 1 → ∀ b, b < 1 → a ≠ b → (TX6 a).2.1 ≠ (TX6 b).2.1 := by decide +kernel
theorem tyX6_ok : ∀ k, k < 1 → parseFieldDescriptor (TX6 k).2.2.1 = some (tyX6 k) := by decide +kernel
abbrev cX6_init : ByteArray := prog_8_method_1_code
def yX6_init : MethodName := ⟨RX6, "<init>", "()V"⟩
abbrev cX6_allows : ByteArray := prog_8_method_3_code
def yX6_allows : MethodName := ⟨RX6, "allows", "(II)Z"⟩
abbrev cX6_value : ByteArray := prog_8_method_4_code
def yX6_value : MethodName := ⟨RX6, "value", "(I)I"⟩
abbrev cX6_change : ByteArray := prog_8_method_5_code
def yX6_change : MethodName := ⟨RX6, "change", "(II)I"⟩
def RX7 : String := "DryIceLane$Slot"
def TX7 : u_T := fun k => match k with
  | 0 => ("DryIceLane$Slot", "kept", "LDryIceLane$Van;", true)
  | _ => ("DryIceLane$Slot", "filled", "Z", false)
def tyX7 : Nat → FieldType := fun k => match k with
  | 0 => .object "DryIceLane$Van"
  | _ => .boolean
abbrev wsX70 : List Cond := u_ws RX7 TX7 2
theorem nmX7 : ∀ a, a < 2 → ∀ b, b < 2 → a ≠ b → (TX7 a).2.1 ≠ (TX7 b).2.1 := by decide +kernel
theorem tyX7_ok : ∀ k, k < 2 → parseFieldDescriptor (TX7 k).2.2.1 = some (tyX7 k) := by decide +kernel
abbrev cX7_init : ByteArray := prog_9_method_1_code
def yX7_init : MethodName := ⟨RX7, "<init>", "()V"⟩
def RX8 : String := "DryIceLane$Van"
def TX8 : u_T := fun k => match k with
  | 0 => ("DryIceLane$Van", "settings", "LDryIceLane$Settings;", true)
  | 1 => ("DryIceLane$Van", "lane", "LDryIceLane$Lane;", true)
  | 2 => ("DryIceLane$Van", "hold", "LDryIceLane$Hold;", true)
  | 3 => ("DryIceLane$Van", "route", "LDryIceLane$Route;", true)
  | 4 => ("DryIceLane$Van", "time", "I", false)
  | 5 => ("DryIceLane$Van", "putIn", "J", false)
  | 6 => ("DryIceLane$Van", "takenOut", "J", false)
  | 7 => ("DryIceLane$Van", "wentOff", "J", false)
  | 8 => ("DryIceLane$Van", "sold", "J", false)
  | _ => ("DryIceLane$Van", "spilled", "J", false)
def tyX8 : Nat → FieldType := fun k => match k with
  | 0 => .object "DryIceLane$Settings"
  | 1 => .object "DryIceLane$Lane"
  | 2 => .object "DryIceLane$Hold"
  | 3 => .object "DryIceLane$Route"
  | 4 => .int
  | 5 => .long
  | 6 => .long
  | 7 => .long
  | 8 => .long
  | _ => .long
abbrev wsX80 : List Cond := u_ws RX8 TX8 10
theorem nmX8 : ∀ a, a < 10 → ∀ b, b < 10 → a ≠ b → (TX8 a).2.1 ≠ (TX8 b).2.1 := by decide +kernel
theorem tyX8_ok : ∀ k, k < 10 → parseFieldDescriptor (TX8 k).2.2.1 = some (tyX8 k) := by decide +kernel
abbrev cX8_init : ByteArray := prog_10_method_1_code
def yX8_init : MethodName := ⟨RX8, "<init>", "()V"⟩
abbrev cX8_concentration : ByteArray := prog_10_method_3_code
def yX8_concentration : MethodName := ⟨RX8, "concentration", "()J"⟩
abbrev cX8_isSafe : ByteArray := prog_10_method_4_code
def yX8_isSafe : MethodName := ⟨RX8, "isSafe", "()Z"⟩
abbrev cX8_letPass : ByteArray := prog_10_method_5_code
def yX8_letPass : MethodName := ⟨RX8, "letPass", "(I)V"⟩
abbrev cX8_letMinutePass : ByteArray := prog_10_method_6_code
def yX8_letMinutePass : MethodName := ⟨RX8, "letMinutePass", "()V"⟩
def RX9 : String := "DryIceLane"
def TX9 : u_T := fun k => match k with
  | 0 => ("DryIceLane", "now", "LDryIceLane$Van;", true)
  | 1 => ("DryIceLane", "copy", "LDryIceLane$Van;", true)
  | 2 => ("DryIceLane", "slot0", "LDryIceLane$Slot;", true)
  | 3 => ("DryIceLane", "slot1", "LDryIceLane$Slot;", true)
  | 4 => ("DryIceLane", "pad", "LDryIceLane$Pad;", true)
  | _ => ("DryIceLane", "reader", "LDryIceLane$RouteReader;", true)
def tyX9 : Nat → FieldType := fun k => match k with
  | 0 => .object "DryIceLane$Van"
  | 1 => .object "DryIceLane$Van"
  | 2 => .object "DryIceLane$Slot"
  | 3 => .object "DryIceLane$Slot"
  | 4 => .object "DryIceLane$Pad"
  | _ => .object "DryIceLane$RouteReader"
abbrev wsX90 : List Cond := u_ws RX9 TX9 6
theorem nmX9 : ∀ a, a < 6 → ∀ b, b < 6 → a ≠ b → (TX9 a).2.1 ≠ (TX9 b).2.1 := by decide +kernel
theorem tyX9_ok : ∀ k, k < 6 → parseFieldDescriptor (TX9 k).2.2.1 = some (tyX9 k) := by decide +kernel
abbrev cX9_init : ByteArray := prog_1_method_1_code
def yX9_init : MethodName := ⟨RX9, "<init>", "()V"⟩
abbrev cX9_load : ByteArray := prog_1_method_2_code
def yX9_load : MethodName := ⟨RX9, "load", "(III)I"⟩
abbrev cX9_unload : ByteArray := prog_1_method_3_code
def yX9_unload : MethodName := ⟨RX9, "unload", "(I)I"⟩
abbrev cX9_shift : ByteArray := prog_1_method_4_code
def yX9_shift : MethodName := ⟨RX9, "shift", "(II)I"⟩
abbrev cX9_set : ByteArray := prog_1_method_5_code
def yX9_set : MethodName := ⟨RX9, "set", "(II)I"⟩
abbrev cX9_leg : ByteArray := prog_1_method_6_code
def yX9_leg : MethodName := ⟨RX9, "leg", "(II)I"⟩
abbrev cX9_depart : ByteArray := prog_1_method_8_code
def yX9_depart : MethodName := ⟨RX9, "depart", "()I"⟩
abbrev cX9_pass : ByteArray := prog_1_method_9_code
def yX9_pass : MethodName := ⟨RX9, "pass", "(I)I"⟩
abbrev cX9_vent : ByteArray := prog_1_method_10_code
def yX9_vent : MethodName := ⟨RX9, "vent", "(I)I"⟩
abbrev cX9_open : ByteArray := prog_1_method_11_code
def yX9_open : MethodName := ⟨RX9, "open", "()I"⟩
abbrev cX9_shut : ByteArray := prog_1_method_12_code
def yX9_shut : MethodName := ⟨RX9, "shut", "()I"⟩
abbrev cX9_sell : ByteArray := prog_1_method_13_code
def yX9_sell : MethodName := ⟨RX9, "sell", "(I)I"⟩
abbrev cX9_spill : ByteArray := prog_1_method_14_code
def yX9_spill : MethodName := ⟨RX9, "spill", "(II)I"⟩
abbrev cX9_weigh : ByteArray := prog_1_method_15_code
def yX9_weigh : MethodName := ⟨RX9, "weigh", "(I)I"⟩
abbrev cX9_check : ByteArray := prog_1_method_16_code
def yX9_check : MethodName := ⟨RX9, "check", "(I)I"⟩
abbrev cX9_box : ByteArray := prog_1_method_17_code
def yX9_box : MethodName := ⟨RX9, "box", "(II)I"⟩
abbrev cX9_van : ByteArray := prog_1_method_18_code
def yX9_van : MethodName := ⟨RX9, "van", "(I)I"⟩
abbrev cX9_way : ByteArray := prog_1_method_19_code
def yX9_way : MethodName := ⟨RX9, "way", "(II)I"⟩
abbrev cX9_account : ByteArray := prog_1_method_20_code
def yX9_account : MethodName := ⟨RX9, "account", "(I)J"⟩
abbrev cX9_within : ByteArray := prog_1_method_33_code
def yX9_within : MethodName := ⟨RX9, "within", "(III)Z"⟩
abbrev cX9_quotient : ByteArray := prog_1_method_34_code
def yX9_quotient : MethodName := ⟨RX9, "quotient", "(JJ)J"⟩
def RX10 : String := "DryIceLaneModel"
def TX10 : u_T := fun k => match k with
  | _ => ("", "", "", false)
def tyX10 : Nat → FieldType := fun k => match k with
  | _ => .int
abbrev wsX100 : List Cond := u_ws RX10 TX10 0
theorem nmX10 : ∀ a, a < 0 → ∀ b, b < 0 → a ≠ b → (TX10 a).2.1 ≠ (TX10 b).2.1 := by decide +kernel
theorem tyX10_ok : ∀ k, k < 0 → parseFieldDescriptor (TX10 k).2.2.1 = some (tyX10 k) := by decide +kernel
def RJx8e188 : String := "java/lang/Cloneable"
def TJx8e188 : u_T := fun k => match k with
  | _ => ("", "", "", false)
def tyJx8e188 : Nat → FieldType := fun k => match k with
  | _ => .int
abbrev wsJx8e1880 : List Cond := u_ws RJx8e188 TJx8e188 0
theorem nmJx8e188 : ∀ a, a < 0 → ∀ b, b < 0 → a ≠ b → (TJx8e188 a).2.1 ≠ (TJx8e188 b).2.1 := by decide +kernel
theorem tyJx8e188_ok : ∀ k, k < 0 → parseFieldDescriptor (TJx8e188 k).2.2.1 = some (tyJx8e188 k) := by decide +kernel
def RJ9 : String := "java/lang/Math"
def TJ9 : u_T := fun k => match k with
  | _ => ("", "", "", false)
def tyJ9 : Nat → FieldType := fun k => match k with
  | _ => .int
abbrev wsJ90 : List Cond := u_ws RJ9 TJ9 0
theorem nmJ9 : ∀ a, a < 0 → ∀ b, b < 0 → a ≠ b → (TJ9 a).2.1 ≠ (TJ9 b).2.1 := by decide +kernel
theorem tyJ9_ok : ∀ k, k < 0 → parseFieldDescriptor (TJ9 k).2.2.1 = some (tyJ9 k) := by decide +kernel
abbrev cJ9_max_7cf53 : ByteArray := prog_14_method_65_code
def yJ9_max_7cf53 : MethodName := ⟨RJ9, "max", "(II)I"⟩
abbrev cJ9_max_f86c9 : ByteArray := prog_14_method_66_code
def yJ9_max_f86c9 : MethodName := ⟨RJ9, "max", "(JJ)J"⟩
abbrev cJ9_min_7cf53 : ByteArray := prog_14_method_69_code
def yJ9_min_7cf53 : MethodName := ⟨RJ9, "min", "(II)I"⟩
abbrev cJ9_min_f86c9 : ByteArray := prog_14_method_70_code
def yJ9_min_f86c9 : MethodName := ⟨RJ9, "min", "(JJ)J"⟩
def RL : String := "DryIceLaneLaw"
abbrev cL_cell : ByteArray := method_2_code
def yL_cell : MethodName := ⟨RL, "cell", "([III)I"⟩
abbrev cL_goesOff : ByteArray := method_3_code
def yL_goesOff : MethodName := ⟨RL, "goesOff", "(LDryIceLane;I)J"⟩
abbrev cL_isMinute : ByteArray := method_4_code
def yL_isMinute : MethodName := ⟨RL, "isMinute", "(LDryIceLane;)Z"⟩
abbrev cL_addsUp : ByteArray := method_5_code
def yL_addsUp : MethodName := ⟨RL, "addsUp", "(LDryIceLane;)Z"⟩
abbrev cL_isSold : ByteArray := method_6_code
def yL_isSold : MethodName := ⟨RL, "isSold", "(LDryIceLane;I)Z"⟩
abbrev cL_isDoor : ByteArray := method_7_code
def yL_isDoor : MethodName := ⟨RL, "isDoor", "(LDryIceLane;)Z"⟩
abbrev cL_isBox : ByteArray := method_8_code
def yL_isBox : MethodName := ⟨RL, "isBox", "(LDryIceLane;[II)Z"⟩
abbrev cL_law : ByteArray := code
def yL_law : MethodName := ⟨RL, "law", "([I)Z"⟩
def wsX0_init : List Cond := .code yX0_init cX0_init 1 none :: ([.methodLink RX0 3 objectInit, .instanceMethod objectInit, .code objectInit ⟨#[0xb1]⟩ 1 none])
def wsX9_quotient : List Cond := .code yX9_quotient cX9_quotient 4 (some .long) :: ([])
def wsX0_goingOff : List Cond := .code yX0_goingOff cX0_goingOff 5 (some .int) :: ([.constantLong RX0 24 (100), .fieldLink RX0 9 "DryIceLane$Box" "insulation" "I", .methodLink RX0 30 Lib.MathLoose.max_long.x, .static Lib.MathLoose.max_long.x, .initialized "java/lang/Math", .code Lib.MathLoose.max_long.x Lib.MathLoose.max_long.code 4 (some .long), .fieldLink RX0 18 "DryIceLane$Box" "ice" "I", .methodLink RX0 35 Lib.MathLoose.min_long.x, .static Lib.MathLoose.min_long.x, .code Lib.MathLoose.min_long.x Lib.MathLoose.min_long.code 4 (some .long), .static yX9_quotient, .initialized RX9, .code yX9_quotient cX9_quotient 4 (some .long)] ++ wsX00)
def wsX0_take : List Cond := .code yX0_take cX0_take 2 none :: ([.fieldLink RX0 18 "DryIceLane$Box" "ice" "I", .fieldLink RX0 21 "DryIceLane$Box" "paper" "I", .methodLink RX0 38 Lib.Math.max.name, .static Lib.Math.max.name, .initialized "java/lang/Math", .code Lib.Math.max.name Lib.Math.max.code 2 (some .int)] ++ wsX00)
def wsX1_init : List Cond := .code yX1_init cX1_init 1 none :: ([.methodLink RX1 3 objectInit, .instanceMethod objectInit, .code objectInit ⟨#[0xb1]⟩ 1 none, .fieldLink RX1 9 "DryIceLane$Hold" "temperature" "I", .fieldLink RX1 15 "DryIceLane$Hold" "ventMode" "I"] ++ wsX10)
def wsX9_within : List Cond := .code yX9_within cX9_within 3 (some .boolean) :: ([])
def wsX6_value : List Cond := .code yX6_value cX6_value 2 (some .int) :: ([.fieldLink RX6 18 "DryIceLane$Settings" "values" "[I", .static yX9_within, .initialized RX9, .code yX9_within cX9_within 3 (some .boolean)] ++ wsX60)
def wsX1_concentration : List Cond := .code yX1_concentration cX1_concentration 2 (some .long) :: ([.fieldLink RX1 18 "DryIceLane$Hold" "gas" "J", .constantLong RX1 35 (2), .methodLink RX1 37 yX6_value, .instanceMethod yX6_value, .selects RX6 yX6_value yX6_value, .initialized RX6, .code yX6_value cX6_value 2 (some .int), .fieldLink RX6 18 "DryIceLane$Settings" "values" "[I", .static yX9_within, .initialized RX9, .code yX9_within cX9_within 3 (some .boolean), .static yX9_quotient, .code yX9_quotient cX9_quotient 4 (some .long)] ++ wsX10 ++ wsX60)
def wsX1_openVent : List Cond := .code yX1_openVent cX1_openVent 1 none :: ([.fieldLink RX1 22 "DryIceLane$Hold" "ventOpen" "Z"] ++ wsX10)
def wsX1_shutVent : List Cond := .code yX1_shutVent cX1_shutVent 1 none :: ([.fieldLink RX1 22 "DryIceLane$Hold" "ventOpen" "Z", .fieldLink RX1 26 "DryIceLane$Hold" "ventMinutes" "I"] ++ wsX10)
def wsX1_keepToMode : List Cond := .code yX1_keepToMode cX1_keepToMode 1 none :: ([.fieldLink RX1 15 "DryIceLane$Hold" "ventMode" "I", .methodLink RX1 50 yX1_openVent, .instanceMethod yX1_openVent, .selects RX1 yX1_openVent yX1_openVent, .initialized RX1, .code yX1_openVent cX1_openVent 1 none, .fieldLink RX1 22 "DryIceLane$Hold" "ventOpen" "Z", .methodLink RX1 53 yX1_shutVent, .instanceMethod yX1_shutVent, .selects RX1 yX1_shutVent yX1_shutVent, .code yX1_shutVent cX1_shutVent 1 none, .fieldLink RX1 26 "DryIceLane$Hold" "ventMinutes" "I"] ++ wsX10)
def wsX1_setVentMode : List Cond := .code yX1_setVentMode cX1_setVentMode 2 none :: ([.fieldLink RX1 15 "DryIceLane$Hold" "ventMode" "I", .methodLink RX1 47 yX1_keepToMode, .instanceMethod yX1_keepToMode, .selects RX1 yX1_keepToMode yX1_keepToMode, .initialized RX1, .code yX1_keepToMode cX1_keepToMode 1 none, .methodLink RX1 50 yX1_openVent, .instanceMethod yX1_openVent, .selects RX1 yX1_openVent yX1_openVent, .code yX1_openVent cX1_openVent 1 none, .fieldLink RX1 22 "DryIceLane$Hold" "ventOpen" "Z", .methodLink RX1 53 yX1_shutVent, .instanceMethod yX1_shutVent, .selects RX1 yX1_shutVent yX1_shutVent, .code yX1_shutVent cX1_shutVent 1 none, .fieldLink RX1 26 "DryIceLane$Hold" "ventMinutes" "I"] ++ wsX10)
def wsX1_changeTemperature : List Cond := .code yX1_changeTemperature cX1_changeTemperature 6 none :: ([.fieldLink RX1 9 "DryIceLane$Hold" "temperature" "I", .fieldLink RX1 22 "DryIceLane$Hold" "ventOpen" "Z", .fieldLink RX1 29 "DryIceLane$Hold" "doorOpen" "Z", .methodLink RX1 72 Lib.Math.min.name, .static Lib.Math.min.name, .initialized "java/lang/Math", .code Lib.Math.min.name Lib.Math.min.code 2 (some .int), .methodLink RX1 78 Lib.Math.max.name, .static Lib.Math.max.name, .code Lib.Math.max.name Lib.Math.max.code 2 (some .int), .methodLink RX1 37 yX6_value, .instanceMethod yX6_value, .selects RX6 yX6_value yX6_value, .initialized RX6, .code yX6_value cX6_value 2 (some .int), .fieldLink RX6 18 "DryIceLane$Settings" "values" "[I", .static yX9_within, .initialized RX9, .code yX9_within cX9_within 3 (some .boolean), .static yX9_quotient, .code yX9_quotient cX9_quotient 4 (some .long)] ++ wsX10 ++ wsX60)
def wsX1_loseGas : List Cond := .code yX1_loseGas cX1_loseGas 2 none :: ([.fieldLink RX1 18 "DryIceLane$Hold" "gas" "J", .constantLong RX1 81 (1000), .fieldLink RX1 22 "DryIceLane$Hold" "ventOpen" "Z", .fieldLink RX1 29 "DryIceLane$Hold" "doorOpen" "Z", .methodLink RX1 37 yX6_value, .instanceMethod yX6_value, .selects RX6 yX6_value yX6_value, .initialized RX6, .code yX6_value cX6_value 2 (some .int), .fieldLink RX6 18 "DryIceLane$Settings" "values" "[I", .static yX9_within, .initialized RX9, .code yX9_within cX9_within 3 (some .boolean)] ++ wsX10 ++ wsX60)
def wsX1_moveVent_r1 : List Cond := [Cond.fieldLink RX1 15 "DryIceLane$Hold" "ventMode" "I", Cond.fieldLink RX1 22 "DryIceLane$Hold" "ventOpen" "Z", Cond.fieldLink RX1 26 "DryIceLane$Hold" "ventMinutes" "I", Cond.methodLink RX1 47 yX1_keepToMode, Cond.instanceMethod yX1_keepToMode, Cond.selects RX1 yX1_keepToMode yX1_keepToMode, Cond.initialized RX1, Cond.code yX1_keepToMode cX1_keepToMode 1 none, Cond.methodLink RX1 50 yX1_openVent, Cond.instanceMethod yX1_openVent, Cond.selects RX1 yX1_openVent yX1_openVent, Cond.code yX1_openVent cX1_openVent 1 none, Cond.methodLink RX1 53 yX1_shutVent, Cond.instanceMethod yX1_shutVent, Cond.selects RX1 yX1_shutVent yX1_shutVent, Cond.code yX1_shutVent cX1_shutVent 1 none, Cond.methodLink RX1 37 yX6_value, Cond.instanceMethod yX6_value, Cond.selects RX6 yX6_value yX6_value, Cond.initialized RX6, Cond.code yX6_value cX6_value 2 (some .int), Cond.fieldLink RX6 18 "DryIceLane$Settings" "values" "[I", Cond.static yX9_within, Cond.initialized RX9]
def wsX1_moveVent_r2 : List Cond := [Cond.code yX9_within cX9_within 3 (some .boolean)]
def wsX1_moveVent : List Cond := .code yX1_moveVent cX1_moveVent 4 none :: ((wsX1_moveVent_r1 ++ wsX1_moveVent_r2) ++ wsX10 ++ wsX60)
def wsX1_letMinutePass_r1 : List Cond := [Cond.fieldLink RX1 18 "DryIceLane$Hold" "gas" "J", Cond.fieldLink RX1 29 "DryIceLane$Hold" "doorOpen" "Z", Cond.fieldLink RX1 32 "DryIceLane$Hold" "alarms" "I", Cond.methodLink RX1 56 yX1_changeTemperature, Cond.instanceMethod yX1_changeTemperature, Cond.selects RX1 yX1_changeTemperature yX1_changeTemperature, Cond.initialized RX1, Cond.code yX1_changeTemperature cX1_changeTemperature 6 none, Cond.fieldLink RX1 9 "DryIceLane$Hold" "temperature" "I", Cond.fieldLink RX1 22 "DryIceLane$Hold" "ventOpen" "Z", Cond.methodLink RX1 72 Lib.Math.min.name, Cond.static Lib.Math.min.name, Cond.initialized "java/lang/Math", Cond.code Lib.Math.min.name Lib.Math.min.code 2 (some .int), Cond.methodLink RX1 78 Lib.Math.max.name, Cond.static Lib.Math.max.name, Cond.code Lib.Math.max.name Lib.Math.max.code 2 (some .int), Cond.methodLink RX1 37 yX6_value, Cond.instanceMethod yX6_value, Cond.selects RX6 yX6_value yX6_value, Cond.initialized RX6, Cond.code yX6_value cX6_value 2 (some .int), Cond.fieldLink RX6 18 "DryIceLane$Settings" "values" "[I", Cond.static yX9_within]
def wsX1_letMinutePass_r2 : List Cond := [Cond.initialized RX9, Cond.code yX9_within cX9_within 3 (some .boolean), Cond.static yX9_quotient, Cond.code yX9_quotient cX9_quotient 4 (some .long), Cond.methodLink RX1 60 yX1_loseGas, Cond.instanceMethod yX1_loseGas, Cond.selects RX1 yX1_loseGas yX1_loseGas, Cond.code yX1_loseGas cX1_loseGas 2 none, Cond.constantLong RX1 81 (1000), Cond.methodLink RX1 64 yX1_concentration, Cond.instanceMethod yX1_concentration, Cond.selects RX1 yX1_concentration yX1_concentration, Cond.code yX1_concentration cX1_concentration 2 (some .long), Cond.constantLong RX1 35 (2), Cond.methodLink RX1 68 yX1_moveVent, Cond.instanceMethod yX1_moveVent, Cond.selects RX1 yX1_moveVent yX1_moveVent, Cond.code yX1_moveVent cX1_moveVent 4 none, Cond.fieldLink RX1 15 "DryIceLane$Hold" "ventMode" "I", Cond.fieldLink RX1 26 "DryIceLane$Hold" "ventMinutes" "I", Cond.methodLink RX1 47 yX1_keepToMode, Cond.instanceMethod yX1_keepToMode, Cond.selects RX1 yX1_keepToMode yX1_keepToMode, Cond.code yX1_keepToMode cX1_keepToMode 1 none]
def wsX1_letMinutePass_r3 : List Cond := [Cond.methodLink RX1 50 yX1_openVent, Cond.instanceMethod yX1_openVent, Cond.selects RX1 yX1_openVent yX1_openVent, Cond.code yX1_openVent cX1_openVent 1 none, Cond.methodLink RX1 53 yX1_shutVent, Cond.instanceMethod yX1_shutVent, Cond.selects RX1 yX1_shutVent yX1_shutVent, Cond.code yX1_shutVent cX1_shutVent 1 none]
def wsX1_letMinutePass : List Cond := .code yX1_letMinutePass cX1_letMinutePass 6 none :: ((wsX1_letMinutePass_r1 ++ (wsX1_letMinutePass_r2 ++ wsX1_letMinutePass_r3)) ++ wsX10 ++ wsX60)
def wsX2_init : List Cond := .code yX2_init cX2_init 2 none :: ([.methodLink RX2 3 objectInit, .instanceMethod objectInit, .code objectInit ⟨#[0xb1]⟩ 1 none, .classLink RX2 9 RX0, .fieldLink RX2 11 "DryIceLane$Lane" "boxes" "[LDryIceLane$Box;", .instantiable RX0 4, .initialized RX0, .instanceMethod yX0_init, .code yX0_init cX0_init 1 none, .methodLink RX0 3 objectInit] ++ wsX20 ++ wsX00)
def wsX2_boxAt : List Cond := .code yX2_boxAt cX2_boxAt 2 (some (.object "DryIceLane$Box")) :: ([.fieldLink RX2 18 "DryIceLane$Lane" "count" "I", .fieldLink RX2 11 "DryIceLane$Lane" "boxes" "[LDryIceLane$Box;", .static yX9_within, .initialized RX9, .code yX9_within cX9_within 3 (some .boolean)] ++ wsX20)
def wsX2_append : List Cond := .code yX2_append cX2_append 5 none :: ([.fieldLink RX2 18 "DryIceLane$Lane" "count" "I", .fieldLink RX2 11 "DryIceLane$Lane" "boxes" "[LDryIceLane$Box;", .fieldLink RX2 30 "DryIceLane$Box" "insulation" "I", .fieldLink RX2 33 "DryIceLane$Box" "tare" "I", .fieldLink RX2 36 "DryIceLane$Box" "ice" "I", .fieldLink RX2 39 "DryIceLane$Box" "paper" "I"] ++ wsX20 ++ wsX00)
def wsX2_move : List Cond := .code yX2_move cX2_move 5 none :: ([.fieldLink RX2 18 "DryIceLane$Lane" "count" "I", .fieldLink RX2 11 "DryIceLane$Lane" "boxes" "[LDryIceLane$Box;", .static yX9_within, .initialized RX9, .code yX9_within cX9_within 3 (some .boolean)] ++ wsX20)
def wsX2_takeOut : List Cond := .code yX2_takeOut cX2_takeOut 2 none :: ([.fieldLink RX2 18 "DryIceLane$Lane" "count" "I", .static yX9_within, .initialized RX9, .code yX9_within cX9_within 3 (some .boolean), .methodLink RX2 42 yX2_move, .instanceMethod yX2_move, .selects RX2 yX2_move yX2_move, .initialized RX2, .code yX2_move cX2_move 5 none, .fieldLink RX2 11 "DryIceLane$Lane" "boxes" "[LDryIceLane$Box;"] ++ wsX20)
def wsX2_iceOfAll : List Cond := .code yX2_iceOfAll cX2_iceOfAll 3 (some .int) :: ([.fieldLink RX2 18 "DryIceLane$Lane" "count" "I", .fieldLink RX2 11 "DryIceLane$Lane" "boxes" "[LDryIceLane$Box;", .fieldLink RX2 36 "DryIceLane$Box" "ice" "I"] ++ wsX20 ++ wsX00)
def wsX2_takeFromFront : List Cond := .code yX2_takeFromFront cX2_takeFromFront 6 (some .int) :: ([.fieldLink RX2 18 "DryIceLane$Lane" "count" "I", .fieldLink RX2 11 "DryIceLane$Lane" "boxes" "[LDryIceLane$Box;", .fieldLink RX2 36 "DryIceLane$Box" "ice" "I", .methodLink RX2 46 Lib.Math.min.name, .static Lib.Math.min.name, .initialized "java/lang/Math", .code Lib.Math.min.name Lib.Math.min.code 2 (some .int), .methodLink RX2 52 yX0_take, .instanceMethod yX0_take, .selects RX0 yX0_take yX0_take, .initialized RX0, .code yX0_take cX0_take 2 none, .fieldLink RX0 18 "DryIceLane$Box" "ice" "I", .fieldLink RX0 21 "DryIceLane$Box" "paper" "I", .methodLink RX0 38 Lib.Math.max.name, .static Lib.Math.max.name, .code Lib.Math.max.name Lib.Math.max.code 2 (some .int)] ++ wsX20 ++ wsX00)
def wsX2_letGoOff_r1 : List Cond := [Cond.fieldLink RX2 18 "DryIceLane$Lane" "count" "I", Cond.fieldLink RX2 11 "DryIceLane$Lane" "boxes" "[LDryIceLane$Box;", Cond.methodLink RX2 56 yX0_goingOff, Cond.instanceMethod yX0_goingOff, Cond.selects RX0 yX0_goingOff yX0_goingOff, Cond.initialized RX0, Cond.code yX0_goingOff cX0_goingOff 5 (some .int), Cond.constantLong RX0 24 (100), Cond.fieldLink RX0 9 "DryIceLane$Box" "insulation" "I", Cond.methodLink RX0 30 Lib.MathLoose.max_long.x, Cond.static Lib.MathLoose.max_long.x, Cond.initialized "java/lang/Math", Cond.code Lib.MathLoose.max_long.x Lib.MathLoose.max_long.code 4 (some .long), Cond.fieldLink RX0 18 "DryIceLane$Box" "ice" "I", Cond.methodLink RX0 35 Lib.MathLoose.min_long.x, Cond.static Lib.MathLoose.min_long.x, Cond.code Lib.MathLoose.min_long.x Lib.MathLoose.min_long.code 4 (some .long), Cond.static yX9_quotient, Cond.initialized RX9, Cond.code yX9_quotient cX9_quotient 4 (some .long), Cond.methodLink RX2 52 yX0_take, Cond.instanceMethod yX0_take, Cond.selects RX0 yX0_take yX0_take, Cond.code yX0_take cX0_take 2 none]
def wsX2_letGoOff_r2 : List Cond := [Cond.fieldLink RX0 21 "DryIceLane$Box" "paper" "I", Cond.methodLink RX0 38 Lib.Math.max.name, Cond.static Lib.Math.max.name, Cond.code Lib.Math.max.name Lib.Math.max.code 2 (some .int)]
def wsX2_letGoOff : List Cond := .code yX2_letGoOff cX2_letGoOff 6 (some .int) :: ((wsX2_letGoOff_r1 ++ wsX2_letGoOff_r2) ++ wsX20 ++ wsX00)
def wsX3_init : List Cond := .code yX3_init cX3_init 1 none :: ([.methodLink RX3 3 objectInit, .instanceMethod objectInit, .code objectInit ⟨#[0xb1]⟩ 1 none, .arrayClass .int, .fieldLink RX3 9 "DryIceLane$Pad" "codes" "[I"] ++ wsX30)
def wsX4_init : List Cond := .code yX4_init cX4_init 1 none :: ([.methodLink RX4 3 objectInit, .instanceMethod objectInit, .code objectInit ⟨#[0xb1]⟩ 1 none, .arrayClass .int, .fieldLink RX4 9 "DryIceLane$Route" "durations" "[I", .fieldLink RX4 15 "DryIceLane$Route" "outsides" "[I", .fieldLink RX4 18 "DryIceLane$Route" "latest" "I"] ++ wsX40)
def wsX4_hasLeg : List Cond := .code yX4_hasLeg cX4_hasLeg 2 (some .boolean) :: ([.fieldLink RX4 28 "DryIceLane$Route" "count" "I", .static yX9_within, .initialized RX9, .code yX9_within cX9_within 3 (some .boolean)] ++ wsX40)
def wsX4_hasNextLeg : List Cond := .code yX4_hasNextLeg cX4_hasNextLeg 1 (some .boolean) :: ([.fieldLink RX4 18 "DryIceLane$Route" "latest" "I", .methodLink RX4 38 yX4_hasLeg, .instanceMethod yX4_hasLeg, .selects RX4 yX4_hasLeg yX4_hasLeg, .initialized RX4, .code yX4_hasLeg cX4_hasLeg 2 (some .boolean), .fieldLink RX4 28 "DryIceLane$Route" "count" "I", .static yX9_within, .initialized RX9, .code yX9_within cX9_within 3 (some .boolean)] ++ wsX40)
def wsX4_isOnTheWay : List Cond := .code yX4_isOnTheWay cX4_isOnTheWay 1 (some .boolean) :: ([.fieldLink RX4 31 "DryIceLane$Route" "minutesLeft" "I"] ++ wsX40)
def wsX4_durationOf : List Cond := .code yX4_durationOf cX4_durationOf 2 (some .int) :: ([.fieldLink RX4 9 "DryIceLane$Route" "durations" "[I", .methodLink RX4 38 yX4_hasLeg, .instanceMethod yX4_hasLeg, .selects RX4 yX4_hasLeg yX4_hasLeg, .initialized RX4, .code yX4_hasLeg cX4_hasLeg 2 (some .boolean), .fieldLink RX4 28 "DryIceLane$Route" "count" "I", .static yX9_within, .initialized RX9, .code yX9_within cX9_within 3 (some .boolean)] ++ wsX40)
def wsX4_outsideOf : List Cond := .code yX4_outsideOf cX4_outsideOf 2 (some .int) :: ([.fieldLink RX4 15 "DryIceLane$Route" "outsides" "[I", .methodLink RX4 38 yX4_hasLeg, .instanceMethod yX4_hasLeg, .selects RX4 yX4_hasLeg yX4_hasLeg, .initialized RX4, .code yX4_hasLeg cX4_hasLeg 2 (some .boolean), .fieldLink RX4 28 "DryIceLane$Route" "count" "I", .static yX9_within, .initialized RX9, .code yX9_within cX9_within 3 (some .boolean)] ++ wsX40)
def wsX4_outsideNow : List Cond := .code yX4_outsideNow cX4_outsideNow 1 (some .int) :: ([.fieldLink RX4 18 "DryIceLane$Route" "latest" "I", .fieldLink RX4 15 "DryIceLane$Route" "outsides" "[I", .methodLink RX4 38 yX4_hasLeg, .instanceMethod yX4_hasLeg, .selects RX4 yX4_hasLeg yX4_hasLeg, .initialized RX4, .code yX4_hasLeg cX4_hasLeg 2 (some .boolean), .fieldLink RX4 28 "DryIceLane$Route" "count" "I", .static yX9_within, .initialized RX9, .code yX9_within cX9_within 3 (some .boolean)] ++ wsX40)
def wsX4_append : List Cond := .code yX4_append cX4_append 3 none :: ([.fieldLink RX4 28 "DryIceLane$Route" "count" "I", .fieldLink RX4 9 "DryIceLane$Route" "durations" "[I", .fieldLink RX4 15 "DryIceLane$Route" "outsides" "[I"] ++ wsX40)
def wsX4_beginNextLeg : List Cond := .code yX4_beginNextLeg cX4_beginNextLeg 1 none :: ([.fieldLink RX4 18 "DryIceLane$Route" "latest" "I", .fieldLink RX4 9 "DryIceLane$Route" "durations" "[I", .fieldLink RX4 31 "DryIceLane$Route" "minutesLeft" "I", .methodLink RX4 42 yX4_hasNextLeg, .instanceMethod yX4_hasNextLeg, .selects RX4 yX4_hasNextLeg yX4_hasNextLeg, .initialized RX4, .code yX4_hasNextLeg cX4_hasNextLeg 1 (some .boolean), .methodLink RX4 38 yX4_hasLeg, .instanceMethod yX4_hasLeg, .selects RX4 yX4_hasLeg yX4_hasLeg, .code yX4_hasLeg cX4_hasLeg 2 (some .boolean), .fieldLink RX4 28 "DryIceLane$Route" "count" "I", .static yX9_within, .initialized RX9, .code yX9_within cX9_within 3 (some .boolean)] ++ wsX40)
def wsX4_letMinutePass : List Cond := .code yX4_letMinutePass cX4_letMinutePass 1 none :: ([.fieldLink RX4 31 "DryIceLane$Route" "minutesLeft" "I", .methodLink RX4 46 yX4_isOnTheWay, .instanceMethod yX4_isOnTheWay, .selects RX4 yX4_isOnTheWay yX4_isOnTheWay, .initialized RX4, .code yX4_isOnTheWay cX4_isOnTheWay 1 (some .boolean)] ++ wsX40)
def wsX5_init : List Cond := .code yX5_init cX5_init 1 none :: ([.methodLink RX5 3 objectInit, .instanceMethod objectInit, .code objectInit ⟨#[0xb1]⟩ 1 none, .arrayClass .int, .fieldLink RX5 11 "DryIceLane$RouteReader" "durations" "[I", .fieldLink RX5 15 "DryIceLane$RouteReader" "outsides" "[I"] ++ wsX50)
def wsX6_init : List Cond := .code yX6_init cX6_init 1 none :: ([.methodLink RX6 3 objectInit, .instanceMethod objectInit, .code objectInit ⟨#[0xb1]⟩ 1 none, .methodLink RX6 13 ⟨"[I", "clone", "()Ljava/lang/Object;"⟩, .sameMethod "[I" "java/lang/Object" "clone" "()Ljava/lang/Object;", .native ⟨"java/lang/Object", "clone", "()Ljava/lang/Object;"⟩, .instanceMethod ⟨"java/lang/Object", "clone", "()Ljava/lang/Object;"⟩, .selects "[I" ⟨"[I", "clone", "()Ljava/lang/Object;"⟩ ⟨"java/lang/Object", "clone", "()Ljava/lang/Object;"⟩, .classLink RX6 14 "[I", .fieldLink RX6 18 "DryIceLane$Settings" "values" "[I"] ++ wsX60)
def wsX6_allows : List Cond := .code yX6_allows cX6_allows 3 (some .boolean) :: ([.static yX9_within, .initialized RX9, .code yX9_within cX9_within 3 (some .boolean)])
def wsX6_change : List Cond := .code yX6_change cX6_change 4 (some .int) :: ([.fieldLink RX6 18 "DryIceLane$Settings" "values" "[I", .methodLink RX6 39 yX6_value, .instanceMethod yX6_value, .selects RX6 yX6_value yX6_value, .initialized RX6, .code yX6_value cX6_value 2 (some .int), .static yX9_within, .initialized RX9, .code yX9_within cX9_within 3 (some .boolean), .methodLink RX6 43 yX6_allows, .instanceMethod yX6_allows, .selects RX6 yX6_allows yX6_allows, .code yX6_allows cX6_allows 3 (some .boolean)] ++ wsX60)
def wsX8_init_r1 : List Cond := [Cond.methodLink RX8 3 objectInit, Cond.instanceMethod objectInit, Cond.code objectInit ⟨#[0xb1]⟩ 1 none, Cond.classLink RX8 9 RX6, Cond.instantiable RX6 1, Cond.initialized RX6, Cond.fieldLink RX8 12 "DryIceLane$Van" "settings" "LDryIceLane$Settings;", Cond.classLink RX8 18 RX2, Cond.instantiable RX2 2, Cond.initialized RX2, Cond.fieldLink RX8 21 "DryIceLane$Van" "lane" "LDryIceLane$Lane;", Cond.classLink RX8 25 RX1, Cond.instantiable RX1 7, Cond.initialized RX1, Cond.fieldLink RX8 28 "DryIceLane$Van" "hold" "LDryIceLane$Hold;", Cond.classLink RX8 32 RX4, Cond.instantiable RX4 5, Cond.initialized RX4, Cond.fieldLink RX8 35 "DryIceLane$Van" "route" "LDryIceLane$Route;", Cond.instanceMethod yX6_init, Cond.code yX6_init cX6_init 1 none, Cond.methodLink RX6 3 objectInit, Cond.methodLink RX6 13 ⟨"[I", "clone", "()Ljava/lang/Object;"⟩, Cond.sameMethod "[I" "java/lang/Object" "clone" "()Ljava/lang/Object;"]
def wsX8_init_r2 : List Cond := [Cond.native ⟨"java/lang/Object", "clone", "()Ljava/lang/Object;"⟩, Cond.instanceMethod ⟨"java/lang/Object", "clone", "()Ljava/lang/Object;"⟩, Cond.selects "[I" ⟨"[I", "clone", "()Ljava/lang/Object;"⟩ ⟨"java/lang/Object", "clone", "()Ljava/lang/Object;"⟩, Cond.classLink RX6 14 "[I", Cond.fieldLink RX6 18 "DryIceLane$Settings" "values" "[I", Cond.methodLink RX8 20 yX2_init, Cond.instanceMethod yX2_init, Cond.code yX2_init cX2_init 2 none, Cond.methodLink RX2 3 objectInit, Cond.classLink RX2 9 RX0, Cond.fieldLink RX2 11 "DryIceLane$Lane" "boxes" "[LDryIceLane$Box;", Cond.instantiable RX0 4, Cond.initialized RX0, Cond.instanceMethod yX0_init, Cond.code yX0_init cX0_init 1 none, Cond.methodLink RX0 3 objectInit, Cond.instanceMethod yX1_init, Cond.code yX1_init cX1_init 1 none, Cond.methodLink RX1 3 objectInit, Cond.fieldLink RX1 9 "DryIceLane$Hold" "temperature" "I", Cond.fieldLink RX1 15 "DryIceLane$Hold" "ventMode" "I", Cond.instanceMethod yX4_init, Cond.code yX4_init cX4_init 1 none, Cond.methodLink RX4 3 objectInit]
def wsX8_init_r3 : List Cond := [Cond.arrayClass .int, Cond.fieldLink RX4 9 "DryIceLane$Route" "durations" "[I", Cond.fieldLink RX4 15 "DryIceLane$Route" "outsides" "[I", Cond.fieldLink RX4 18 "DryIceLane$Route" "latest" "I"]
def wsX8_init : List Cond := .code yX8_init cX8_init 1 none :: ((wsX8_init_r1 ++ (wsX8_init_r2 ++ wsX8_init_r3)) ++ wsX60 ++ wsX80 ++ wsX20 ++ wsX10 ++ wsX40 ++ wsX00)
def wsX7_init_r1 : List Cond := [Cond.methodLink RX7 1 objectInit, Cond.instanceMethod objectInit, Cond.code objectInit ⟨#[0xb1]⟩ 1 none, Cond.classLink RX7 7 RX8, Cond.instantiable RX8 10, Cond.initialized RX8, Cond.fieldLink RX7 10 "DryIceLane$Slot" "kept" "LDryIceLane$Van;", Cond.instanceMethod yX8_init, Cond.code yX8_init cX8_init 1 none, Cond.methodLink RX8 3 objectInit, Cond.classLink RX8 9 RX6, Cond.instantiable RX6 1, Cond.initialized RX6, Cond.fieldLink RX8 12 "DryIceLane$Van" "settings" "LDryIceLane$Settings;", Cond.classLink RX8 18 RX2, Cond.instantiable RX2 2, Cond.initialized RX2, Cond.fieldLink RX8 21 "DryIceLane$Van" "lane" "LDryIceLane$Lane;", Cond.classLink RX8 25 RX1, Cond.instantiable RX1 7, Cond.initialized RX1, Cond.fieldLink RX8 28 "DryIceLane$Van" "hold" "LDryIceLane$Hold;", Cond.classLink RX8 32 RX4, Cond.instantiable RX4 5]
def wsX7_init_r2 : List Cond := [Cond.initialized RX4, Cond.fieldLink RX8 35 "DryIceLane$Van" "route" "LDryIceLane$Route;", Cond.instanceMethod yX6_init, Cond.code yX6_init cX6_init 1 none, Cond.methodLink RX6 3 objectInit, Cond.methodLink RX6 13 ⟨"[I", "clone", "()Ljava/lang/Object;"⟩, Cond.sameMethod "[I" "java/lang/Object" "clone" "()Ljava/lang/Object;", Cond.native ⟨"java/lang/Object", "clone", "()Ljava/lang/Object;"⟩, Cond.instanceMethod ⟨"java/lang/Object", "clone", "()Ljava/lang/Object;"⟩, Cond.selects "[I" ⟨"[I", "clone", "()Ljava/lang/Object;"⟩ ⟨"java/lang/Object", "clone", "()Ljava/lang/Object;"⟩, Cond.classLink RX6 14 "[I", Cond.fieldLink RX6 18 "DryIceLane$Settings" "values" "[I", Cond.methodLink RX8 20 yX2_init, Cond.instanceMethod yX2_init, Cond.code yX2_init cX2_init 2 none, Cond.methodLink RX2 3 objectInit, Cond.classLink RX2 9 RX0, Cond.fieldLink RX2 11 "DryIceLane$Lane" "boxes" "[LDryIceLane$Box;", Cond.instantiable RX0 4, Cond.initialized RX0, Cond.instanceMethod yX0_init, Cond.code yX0_init cX0_init 1 none, Cond.methodLink RX0 3 objectInit, Cond.instanceMethod yX1_init]
def wsX7_init_r3 : List Cond := [Cond.code yX1_init cX1_init 1 none, Cond.methodLink RX1 3 objectInit, Cond.fieldLink RX1 9 "DryIceLane$Hold" "temperature" "I", Cond.fieldLink RX1 15 "DryIceLane$Hold" "ventMode" "I", Cond.instanceMethod yX4_init, Cond.code yX4_init cX4_init 1 none, Cond.methodLink RX4 3 objectInit, Cond.arrayClass .int, Cond.fieldLink RX4 9 "DryIceLane$Route" "durations" "[I", Cond.fieldLink RX4 15 "DryIceLane$Route" "outsides" "[I", Cond.fieldLink RX4 18 "DryIceLane$Route" "latest" "I"]
def wsX7_init : List Cond := .code yX7_init cX7_init 1 none :: ((wsX7_init_r1 ++ (wsX7_init_r2 ++ wsX7_init_r3)) ++ wsX80 ++ wsX70 ++ wsX60 ++ wsX20 ++ wsX10 ++ wsX40 ++ wsX00)
def wsX8_concentration : List Cond := .code yX8_concentration cX8_concentration 1 (some .long) :: ([.fieldLink RX8 28 "DryIceLane$Van" "hold" "LDryIceLane$Hold;", .fieldLink RX8 12 "DryIceLane$Van" "settings" "LDryIceLane$Settings;", .methodLink RX8 72 yX1_concentration, .instanceMethod yX1_concentration, .selects RX1 yX1_concentration yX1_concentration, .initialized RX1, .code yX1_concentration cX1_concentration 2 (some .long), .fieldLink RX1 18 "DryIceLane$Hold" "gas" "J", .constantLong RX1 35 (2), .methodLink RX1 37 yX6_value, .instanceMethod yX6_value, .selects RX6 yX6_value yX6_value, .initialized RX6, .code yX6_value cX6_value 2 (some .int), .fieldLink RX6 18 "DryIceLane$Settings" "values" "[I", .static yX9_within, .initialized RX9, .code yX9_within cX9_within 3 (some .boolean), .static yX9_quotient, .code yX9_quotient cX9_quotient 4 (some .long)] ++ wsX80 ++ wsX10 ++ wsX60)
def wsX8_isSafe_r1 : List Cond := [Cond.fieldLink RX8 12 "DryIceLane$Van" "settings" "LDryIceLane$Settings;", Cond.methodLink RX8 76 yX8_concentration, Cond.instanceMethod yX8_concentration, Cond.selects RX8 yX8_concentration yX8_concentration, Cond.initialized RX8, Cond.code yX8_concentration cX8_concentration 1 (some .long), Cond.fieldLink RX8 28 "DryIceLane$Van" "hold" "LDryIceLane$Hold;", Cond.methodLink RX8 72 yX1_concentration, Cond.instanceMethod yX1_concentration, Cond.selects RX1 yX1_concentration yX1_concentration, Cond.initialized RX1, Cond.code yX1_concentration cX1_concentration 2 (some .long), Cond.fieldLink RX1 18 "DryIceLane$Hold" "gas" "J", Cond.constantLong RX1 35 (2), Cond.methodLink RX1 37 yX6_value, Cond.instanceMethod yX6_value, Cond.selects RX6 yX6_value yX6_value, Cond.initialized RX6, Cond.code yX6_value cX6_value 2 (some .int), Cond.fieldLink RX6 18 "DryIceLane$Settings" "values" "[I", Cond.static yX9_within, Cond.initialized RX9, Cond.code yX9_within cX9_within 3 (some .boolean), Cond.static yX9_quotient]
def wsX8_isSafe_r2 : List Cond := [Cond.code yX9_quotient cX9_quotient 4 (some .long), Cond.methodLink RX8 79 yX6_value]
def wsX8_isSafe : List Cond := .code yX8_isSafe cX8_isSafe 1 (some .boolean) :: ((wsX8_isSafe_r1 ++ wsX8_isSafe_r2) ++ wsX80 ++ wsX10 ++ wsX60)
def wsX8_letMinutePass_r1 : List Cond := [Cond.fieldLink RX8 21 "DryIceLane$Van" "lane" "LDryIceLane$Lane;", Cond.fieldLink RX8 28 "DryIceLane$Van" "hold" "LDryIceLane$Hold;", Cond.fieldLink RX8 86 "DryIceLane$Hold" "temperature" "I", Cond.fieldLink RX8 12 "DryIceLane$Van" "settings" "LDryIceLane$Settings;", Cond.fieldLink RX8 63 "DryIceLane$Van" "wentOff" "J", Cond.fieldLink RX8 35 "DryIceLane$Van" "route" "LDryIceLane$Route;", Cond.fieldLink RX8 52 "DryIceLane$Van" "time" "I", Cond.methodLink RX8 79 yX6_value, Cond.instanceMethod yX6_value, Cond.selects RX6 yX6_value yX6_value, Cond.initialized RX6, Cond.code yX6_value cX6_value 2 (some .int), Cond.fieldLink RX6 18 "DryIceLane$Settings" "values" "[I", Cond.static yX9_within, Cond.initialized RX9, Cond.code yX9_within cX9_within 3 (some .boolean), Cond.methodLink RX8 89 yX2_letGoOff, Cond.instanceMethod yX2_letGoOff, Cond.selects RX2 yX2_letGoOff yX2_letGoOff, Cond.initialized RX2, Cond.code yX2_letGoOff cX2_letGoOff 6 (some .int), Cond.fieldLink RX2 18 "DryIceLane$Lane" "count" "I", Cond.fieldLink RX2 11 "DryIceLane$Lane" "boxes" "[LDryIceLane$Box;", Cond.methodLink RX2 56 yX0_goingOff]
def wsX8_letMinutePass_r2 : List Cond := [Cond.instanceMethod yX0_goingOff, Cond.selects RX0 yX0_goingOff yX0_goingOff, Cond.initialized RX0, Cond.code yX0_goingOff cX0_goingOff 5 (some .int), Cond.constantLong RX0 24 (100), Cond.fieldLink RX0 9 "DryIceLane$Box" "insulation" "I", Cond.methodLink RX0 30 Lib.MathLoose.max_long.x, Cond.static Lib.MathLoose.max_long.x, Cond.initialized "java/lang/Math", Cond.code Lib.MathLoose.max_long.x Lib.MathLoose.max_long.code 4 (some .long), Cond.fieldLink RX0 18 "DryIceLane$Box" "ice" "I", Cond.methodLink RX0 35 Lib.MathLoose.min_long.x, Cond.static Lib.MathLoose.min_long.x, Cond.code Lib.MathLoose.min_long.x Lib.MathLoose.min_long.code 4 (some .long), Cond.static yX9_quotient, Cond.code yX9_quotient cX9_quotient 4 (some .long), Cond.methodLink RX2 52 yX0_take, Cond.instanceMethod yX0_take, Cond.selects RX0 yX0_take yX0_take, Cond.code yX0_take cX0_take 2 none, Cond.fieldLink RX0 21 "DryIceLane$Box" "paper" "I", Cond.methodLink RX0 38 Lib.Math.max.name, Cond.static Lib.Math.max.name, Cond.code Lib.Math.max.name Lib.Math.max.code 2 (some .int)]
def wsX8_letMinutePass_r3 : List Cond := [Cond.methodLink RX8 93 yX4_outsideNow, Cond.instanceMethod yX4_outsideNow, Cond.selects RX4 yX4_outsideNow yX4_outsideNow, Cond.initialized RX4, Cond.code yX4_outsideNow cX4_outsideNow 1 (some .int), Cond.fieldLink RX4 18 "DryIceLane$Route" "latest" "I", Cond.fieldLink RX4 15 "DryIceLane$Route" "outsides" "[I", Cond.methodLink RX4 38 yX4_hasLeg, Cond.instanceMethod yX4_hasLeg, Cond.selects RX4 yX4_hasLeg yX4_hasLeg, Cond.code yX4_hasLeg cX4_hasLeg 2 (some .boolean), Cond.fieldLink RX4 28 "DryIceLane$Route" "count" "I", Cond.methodLink RX8 97 yX1_letMinutePass, Cond.instanceMethod yX1_letMinutePass, Cond.selects RX1 yX1_letMinutePass yX1_letMinutePass, Cond.initialized RX1, Cond.code yX1_letMinutePass cX1_letMinutePass 6 none, Cond.fieldLink RX1 18 "DryIceLane$Hold" "gas" "J", Cond.fieldLink RX1 29 "DryIceLane$Hold" "doorOpen" "Z", Cond.fieldLink RX1 32 "DryIceLane$Hold" "alarms" "I", Cond.methodLink RX1 56 yX1_changeTemperature, Cond.instanceMethod yX1_changeTemperature, Cond.selects RX1 yX1_changeTemperature yX1_changeTemperature, Cond.code yX1_changeTemperature cX1_changeTemperature 6 none]
def wsX8_letMinutePass_r4 : List Cond := [Cond.fieldLink RX1 9 "DryIceLane$Hold" "temperature" "I", Cond.fieldLink RX1 22 "DryIceLane$Hold" "ventOpen" "Z", Cond.methodLink RX1 72 Lib.Math.min.name, Cond.static Lib.Math.min.name, Cond.code Lib.Math.min.name Lib.Math.min.code 2 (some .int), Cond.methodLink RX1 78 Lib.Math.max.name, Cond.methodLink RX1 37 yX6_value, Cond.methodLink RX1 60 yX1_loseGas, Cond.instanceMethod yX1_loseGas, Cond.selects RX1 yX1_loseGas yX1_loseGas, Cond.code yX1_loseGas cX1_loseGas 2 none, Cond.constantLong RX1 81 (1000), Cond.methodLink RX1 64 yX1_concentration, Cond.instanceMethod yX1_concentration, Cond.selects RX1 yX1_concentration yX1_concentration, Cond.code yX1_concentration cX1_concentration 2 (some .long), Cond.constantLong RX1 35 (2), Cond.methodLink RX1 68 yX1_moveVent, Cond.instanceMethod yX1_moveVent, Cond.selects RX1 yX1_moveVent yX1_moveVent, Cond.code yX1_moveVent cX1_moveVent 4 none, Cond.fieldLink RX1 15 "DryIceLane$Hold" "ventMode" "I", Cond.fieldLink RX1 26 "DryIceLane$Hold" "ventMinutes" "I", Cond.methodLink RX1 47 yX1_keepToMode]
def wsX8_letMinutePass_r5 : List Cond := [Cond.instanceMethod yX1_keepToMode, Cond.selects RX1 yX1_keepToMode yX1_keepToMode, Cond.code yX1_keepToMode cX1_keepToMode 1 none, Cond.methodLink RX1 50 yX1_openVent, Cond.instanceMethod yX1_openVent, Cond.selects RX1 yX1_openVent yX1_openVent, Cond.code yX1_openVent cX1_openVent 1 none, Cond.methodLink RX1 53 yX1_shutVent, Cond.instanceMethod yX1_shutVent, Cond.selects RX1 yX1_shutVent yX1_shutVent, Cond.code yX1_shutVent cX1_shutVent 1 none, Cond.methodLink RX8 100 yX4_letMinutePass, Cond.instanceMethod yX4_letMinutePass, Cond.selects RX4 yX4_letMinutePass yX4_letMinutePass, Cond.code yX4_letMinutePass cX4_letMinutePass 1 none, Cond.fieldLink RX4 31 "DryIceLane$Route" "minutesLeft" "I", Cond.methodLink RX4 46 yX4_isOnTheWay, Cond.instanceMethod yX4_isOnTheWay, Cond.selects RX4 yX4_isOnTheWay yX4_isOnTheWay, Cond.code yX4_isOnTheWay cX4_isOnTheWay 1 (some .boolean)]
def wsX8_letMinutePass : List Cond := .code yX8_letMinutePass cX8_letMinutePass 2 none :: ((wsX8_letMinutePass_r1 ++ (wsX8_letMinutePass_r2 ++ (wsX8_letMinutePass_r3 ++ (wsX8_letMinutePass_r4 ++ wsX8_letMinutePass_r5)))) ++ wsX80 ++ wsX10 ++ wsX60 ++ wsX20 ++ wsX00 ++ wsX40)
def wsX8_letPass_r1 : List Cond := [Cond.methodLink RX8 83 yX8_letMinutePass, Cond.instanceMethod yX8_letMinutePass, Cond.selects RX8 yX8_letMinutePass yX8_letMinutePass, Cond.initialized RX8, Cond.code yX8_letMinutePass cX8_letMinutePass 2 none, Cond.fieldLink RX8 21 "DryIceLane$Van" "lane" "LDryIceLane$Lane;", Cond.fieldLink RX8 28 "DryIceLane$Van" "hold" "LDryIceLane$Hold;", Cond.fieldLink RX8 86 "DryIceLane$Hold" "temperature" "I", Cond.fieldLink RX8 12 "DryIceLane$Van" "settings" "LDryIceLane$Settings;", Cond.fieldLink RX8 63 "DryIceLane$Van" "wentOff" "J", Cond.fieldLink RX8 35 "DryIceLane$Van" "route" "LDryIceLane$Route;", Cond.fieldLink RX8 52 "DryIceLane$Van" "time" "I", Cond.methodLink RX8 79 yX6_value, Cond.instanceMethod yX6_value, Cond.selects RX6 yX6_value yX6_value, Cond.initialized RX6, Cond.code yX6_value cX6_value 2 (some .int), Cond.fieldLink RX6 18 "DryIceLane$Settings" "values" "[I", Cond.static yX9_within, Cond.initialized RX9, Cond.code yX9_within cX9_within 3 (some .boolean), Cond.methodLink RX8 89 yX2_letGoOff, Cond.instanceMethod yX2_letGoOff, Cond.selects RX2 yX2_letGoOff yX2_letGoOff]
def wsX8_letPass_r2 : List Cond := [Cond.initialized RX2, Cond.code yX2_letGoOff cX2_letGoOff 6 (some .int), Cond.fieldLink RX2 18 "DryIceLane$Lane" "count" "I", Cond.fieldLink RX2 11 "DryIceLane$Lane" "boxes" "[LDryIceLane$Box;", Cond.methodLink RX2 56 yX0_goingOff, Cond.instanceMethod yX0_goingOff, Cond.selects RX0 yX0_goingOff yX0_goingOff, Cond.initialized RX0, Cond.code yX0_goingOff cX0_goingOff 5 (some .int), Cond.constantLong RX0 24 (100), Cond.fieldLink RX0 9 "DryIceLane$Box" "insulation" "I", Cond.methodLink RX0 30 Lib.MathLoose.max_long.x, Cond.static Lib.MathLoose.max_long.x, Cond.initialized "java/lang/Math", Cond.code Lib.MathLoose.max_long.x Lib.MathLoose.max_long.code 4 (some .long), Cond.fieldLink RX0 18 "DryIceLane$Box" "ice" "I", Cond.methodLink RX0 35 Lib.MathLoose.min_long.x, Cond.static Lib.MathLoose.min_long.x, Cond.code Lib.MathLoose.min_long.x Lib.MathLoose.min_long.code 4 (some .long), Cond.static yX9_quotient, Cond.code yX9_quotient cX9_quotient 4 (some .long), Cond.methodLink RX2 52 yX0_take, Cond.instanceMethod yX0_take, Cond.selects RX0 yX0_take yX0_take]
def wsX8_letPass_r3 : List Cond := [Cond.code yX0_take cX0_take 2 none, Cond.fieldLink RX0 21 "DryIceLane$Box" "paper" "I", Cond.methodLink RX0 38 Lib.Math.max.name, Cond.static Lib.Math.max.name, Cond.code Lib.Math.max.name Lib.Math.max.code 2 (some .int), Cond.methodLink RX8 93 yX4_outsideNow, Cond.instanceMethod yX4_outsideNow, Cond.selects RX4 yX4_outsideNow yX4_outsideNow, Cond.initialized RX4, Cond.code yX4_outsideNow cX4_outsideNow 1 (some .int), Cond.fieldLink RX4 18 "DryIceLane$Route" "latest" "I", Cond.fieldLink RX4 15 "DryIceLane$Route" "outsides" "[I", Cond.methodLink RX4 38 yX4_hasLeg, Cond.instanceMethod yX4_hasLeg, Cond.selects RX4 yX4_hasLeg yX4_hasLeg, Cond.code yX4_hasLeg cX4_hasLeg 2 (some .boolean), Cond.fieldLink RX4 28 "DryIceLane$Route" "count" "I", Cond.methodLink RX8 97 yX1_letMinutePass, Cond.instanceMethod yX1_letMinutePass, Cond.selects RX1 yX1_letMinutePass yX1_letMinutePass, Cond.initialized RX1, Cond.code yX1_letMinutePass cX1_letMinutePass 6 none, Cond.fieldLink RX1 18 "DryIceLane$Hold" "gas" "J", Cond.fieldLink RX1 29 "DryIceLane$Hold" "doorOpen" "Z"]
def wsX8_letPass_r4 : List Cond := [Cond.fieldLink RX1 32 "DryIceLane$Hold" "alarms" "I", Cond.methodLink RX1 56 yX1_changeTemperature, Cond.instanceMethod yX1_changeTemperature, Cond.selects RX1 yX1_changeTemperature yX1_changeTemperature, Cond.code yX1_changeTemperature cX1_changeTemperature 6 none, Cond.fieldLink RX1 9 "DryIceLane$Hold" "temperature" "I", Cond.fieldLink RX1 22 "DryIceLane$Hold" "ventOpen" "Z", Cond.methodLink RX1 72 Lib.Math.min.name, Cond.static Lib.Math.min.name, Cond.code Lib.Math.min.name Lib.Math.min.code 2 (some .int), Cond.methodLink RX1 78 Lib.Math.max.name, Cond.methodLink RX1 37 yX6_value, Cond.methodLink RX1 60 yX1_loseGas, Cond.instanceMethod yX1_loseGas, Cond.selects RX1 yX1_loseGas yX1_loseGas, Cond.code yX1_loseGas cX1_loseGas 2 none, Cond.constantLong RX1 81 (1000), Cond.methodLink RX1 64 yX1_concentration, Cond.instanceMethod yX1_concentration, Cond.selects RX1 yX1_concentration yX1_concentration, Cond.code yX1_concentration cX1_concentration 2 (some .long), Cond.constantLong RX1 35 (2), Cond.methodLink RX1 68 yX1_moveVent, Cond.instanceMethod yX1_moveVent]
def wsX8_letPass_r5 : List Cond := [Cond.selects RX1 yX1_moveVent yX1_moveVent, Cond.code yX1_moveVent cX1_moveVent 4 none, Cond.fieldLink RX1 15 "DryIceLane$Hold" "ventMode" "I", Cond.fieldLink RX1 26 "DryIceLane$Hold" "ventMinutes" "I", Cond.methodLink RX1 47 yX1_keepToMode, Cond.instanceMethod yX1_keepToMode, Cond.selects RX1 yX1_keepToMode yX1_keepToMode, Cond.code yX1_keepToMode cX1_keepToMode 1 none, Cond.methodLink RX1 50 yX1_openVent, Cond.instanceMethod yX1_openVent, Cond.selects RX1 yX1_openVent yX1_openVent, Cond.code yX1_openVent cX1_openVent 1 none, Cond.methodLink RX1 53 yX1_shutVent, Cond.instanceMethod yX1_shutVent, Cond.selects RX1 yX1_shutVent yX1_shutVent, Cond.code yX1_shutVent cX1_shutVent 1 none, Cond.methodLink RX8 100 yX4_letMinutePass, Cond.instanceMethod yX4_letMinutePass, Cond.selects RX4 yX4_letMinutePass yX4_letMinutePass, Cond.code yX4_letMinutePass cX4_letMinutePass 1 none, Cond.fieldLink RX4 31 "DryIceLane$Route" "minutesLeft" "I", Cond.methodLink RX4 46 yX4_isOnTheWay, Cond.instanceMethod yX4_isOnTheWay, Cond.selects RX4 yX4_isOnTheWay yX4_isOnTheWay]
def wsX8_letPass_r6 : List Cond := [Cond.code yX4_isOnTheWay cX4_isOnTheWay 1 (some .boolean)]
def wsX8_letPass : List Cond := .code yX8_letPass cX8_letPass 3 none :: ((wsX8_letPass_r1 ++ (wsX8_letPass_r2 ++ (wsX8_letPass_r3 ++ (wsX8_letPass_r4 ++ (wsX8_letPass_r5 ++ wsX8_letPass_r6))))) ++ wsX80 ++ wsX10 ++ wsX60 ++ wsX20 ++ wsX00 ++ wsX40)
def wsX9_init_r1 : List Cond := [Cond.methodLink RX9 1 objectInit, Cond.instanceMethod objectInit, Cond.code objectInit ⟨#[0xb1]⟩ 1 none, Cond.classLink RX9 7 RX8, Cond.instantiable RX8 10, Cond.initialized RX8, Cond.fieldLink RX9 10 "DryIceLane" "now" "LDryIceLane$Van;", Cond.fieldLink RX9 16 "DryIceLane" "copy" "LDryIceLane$Van;", Cond.classLink RX9 19 RX7, Cond.instantiable RX7 2, Cond.initialized RX7, Cond.fieldLink RX9 22 "DryIceLane" "slot0" "LDryIceLane$Slot;", Cond.fieldLink RX9 26 "DryIceLane" "slot1" "LDryIceLane$Slot;", Cond.classLink RX9 29 RX3, Cond.instantiable RX3 2, Cond.initialized RX3, Cond.fieldLink RX9 32 "DryIceLane" "pad" "LDryIceLane$Pad;", Cond.classLink RX9 36 RX5, Cond.instantiable RX5 7, Cond.initialized RX5, Cond.fieldLink RX9 39 "DryIceLane" "reader" "LDryIceLane$RouteReader;", Cond.instanceMethod yX8_init, Cond.code yX8_init cX8_init 1 none, Cond.methodLink RX8 3 objectInit]
def wsX9_init_r2 : List Cond := [Cond.classLink RX8 9 RX6, Cond.instantiable RX6 1, Cond.initialized RX6, Cond.fieldLink RX8 12 "DryIceLane$Van" "settings" "LDryIceLane$Settings;", Cond.classLink RX8 18 RX2, Cond.instantiable RX2 2, Cond.initialized RX2, Cond.fieldLink RX8 21 "DryIceLane$Van" "lane" "LDryIceLane$Lane;", Cond.classLink RX8 25 RX1, Cond.instantiable RX1 7, Cond.initialized RX1, Cond.fieldLink RX8 28 "DryIceLane$Van" "hold" "LDryIceLane$Hold;", Cond.classLink RX8 32 RX4, Cond.instantiable RX4 5, Cond.initialized RX4, Cond.fieldLink RX8 35 "DryIceLane$Van" "route" "LDryIceLane$Route;", Cond.instanceMethod yX6_init, Cond.code yX6_init cX6_init 1 none, Cond.methodLink RX6 3 objectInit, Cond.methodLink RX6 13 ⟨"[I", "clone", "()Ljava/lang/Object;"⟩, Cond.sameMethod "[I" "java/lang/Object" "clone" "()Ljava/lang/Object;", Cond.native ⟨"java/lang/Object", "clone", "()Ljava/lang/Object;"⟩, Cond.instanceMethod ⟨"java/lang/Object", "clone", "()Ljava/lang/Object;"⟩, Cond.selects "[I" ⟨"[I", "clone", "()Ljava/lang/Object;"⟩ ⟨"java/lang/Object", "clone", "()Ljava/lang/Object;"⟩]
def wsX9_init_r3 : List Cond := [Cond.classLink RX6 14 "[I", Cond.fieldLink RX6 18 "DryIceLane$Settings" "values" "[I", Cond.methodLink RX8 20 yX2_init, Cond.instanceMethod yX2_init, Cond.code yX2_init cX2_init 2 none, Cond.methodLink RX2 3 objectInit, Cond.classLink RX2 9 RX0, Cond.fieldLink RX2 11 "DryIceLane$Lane" "boxes" "[LDryIceLane$Box;", Cond.instantiable RX0 4, Cond.initialized RX0, Cond.instanceMethod yX0_init, Cond.code yX0_init cX0_init 1 none, Cond.methodLink RX0 3 objectInit, Cond.instanceMethod yX1_init, Cond.code yX1_init cX1_init 1 none, Cond.methodLink RX1 3 objectInit, Cond.fieldLink RX1 9 "DryIceLane$Hold" "temperature" "I", Cond.fieldLink RX1 15 "DryIceLane$Hold" "ventMode" "I", Cond.instanceMethod yX4_init, Cond.code yX4_init cX4_init 1 none, Cond.methodLink RX4 3 objectInit, Cond.arrayClass .int, Cond.fieldLink RX4 9 "DryIceLane$Route" "durations" "[I", Cond.fieldLink RX4 15 "DryIceLane$Route" "outsides" "[I"]
def wsX9_init_r4 : List Cond := [Cond.fieldLink RX4 18 "DryIceLane$Route" "latest" "I", Cond.instanceMethod yX7_init, Cond.code yX7_init cX7_init 1 none, Cond.methodLink RX7 1 objectInit, Cond.classLink RX7 7 RX8, Cond.fieldLink RX7 10 "DryIceLane$Slot" "kept" "LDryIceLane$Van;", Cond.instanceMethod yX3_init, Cond.code yX3_init cX3_init 1 none, Cond.methodLink RX3 3 objectInit, Cond.fieldLink RX3 9 "DryIceLane$Pad" "codes" "[I", Cond.instanceMethod yX5_init, Cond.code yX5_init cX5_init 1 none, Cond.methodLink RX5 3 objectInit, Cond.fieldLink RX5 11 "DryIceLane$RouteReader" "durations" "[I", Cond.fieldLink RX5 15 "DryIceLane$RouteReader" "outsides" "[I"]
def wsX9_init : List Cond := .code yX9_init cX9_init 1 none :: ((wsX9_init_r1 ++ (wsX9_init_r2 ++ (wsX9_init_r3 ++ wsX9_init_r4))) ++ wsX80 ++ wsX90 ++ wsX70 ++ wsX30 ++ wsX50 ++ wsX60 ++ wsX20 ++ wsX10 ++ wsX40 ++ wsX00)
def wsX9_load : List Cond := .code yX9_load cX9_load 4 (some .int) :: ([.constant RX9 47 (5000000), .constant RX9 48 (20000000), .fieldLink RX9 10 "DryIceLane" "now" "LDryIceLane$Van;", .fieldLink RX9 49 "DryIceLane$Van" "lane" "LDryIceLane$Lane;", .fieldLink RX9 53 "DryIceLane$Lane" "count" "I", .fieldLink RX9 59 "DryIceLane$Van" "hold" "LDryIceLane$Hold;", .fieldLink RX9 63 "DryIceLane$Hold" "doorOpen" "Z", .fieldLink RX9 73 "DryIceLane$Van" "putIn" "J", .methodLink RX9 43 yX9_within, .static yX9_within, .initialized RX9, .code yX9_within cX9_within 3 (some .boolean), .methodLink RX9 69 yX2_append, .instanceMethod yX2_append, .selects RX2 yX2_append yX2_append, .initialized RX2, .code yX2_append cX2_append 5 none, .fieldLink RX2 18 "DryIceLane$Lane" "count" "I", .fieldLink RX2 11 "DryIceLane$Lane" "boxes" "[LDryIceLane$Box;", .fieldLink RX2 30 "DryIceLane$Box" "insulation" "I", .fieldLink RX2 33 "DryIceLane$Box" "tare" "I", .fieldLink RX2 36 "DryIceLane$Box" "ice" "I", .fieldLink RX2 39 "DryIceLane$Box" "paper" "I"] ++ wsX90 ++ wsX80 ++ wsX20 ++ wsX10 ++ wsX00)
def wsX9_unload : List Cond := .code yX9_unload cX9_unload 4 (some .int) :: ([.fieldLink RX9 10 "DryIceLane" "now" "LDryIceLane$Van;", .fieldLink RX9 49 "DryIceLane$Van" "lane" "LDryIceLane$Lane;", .fieldLink RX9 59 "DryIceLane$Van" "hold" "LDryIceLane$Hold;", .fieldLink RX9 63 "DryIceLane$Hold" "doorOpen" "Z", .fieldLink RX9 81 "DryIceLane$Box" "ice" "I", .fieldLink RX9 90 "DryIceLane$Van" "takenOut" "J", .methodLink RX9 77 yX2_boxAt, .instanceMethod yX2_boxAt, .selects RX2 yX2_boxAt yX2_boxAt, .initialized RX2, .code yX2_boxAt cX2_boxAt 2 (some (.object "DryIceLane$Box")), .fieldLink RX2 18 "DryIceLane$Lane" "count" "I", .fieldLink RX2 11 "DryIceLane$Lane" "boxes" "[LDryIceLane$Box;", .static yX9_within, .initialized RX9, .code yX9_within cX9_within 3 (some .boolean), .methodLink RX9 86 yX2_takeOut, .instanceMethod yX2_takeOut, .selects RX2 yX2_takeOut yX2_takeOut, .code yX2_takeOut cX2_takeOut 2 none, .methodLink RX2 42 yX2_move, .instanceMethod yX2_move, .selects RX2 yX2_move yX2_move, .code yX2_move cX2_move 5 none] ++ wsX90 ++ wsX80 ++ wsX10 ++ wsX00 ++ wsX20)
def wsX9_shift : List Cond := .code yX9_shift cX9_shift 4 (some .int) :: ([.fieldLink RX9 10 "DryIceLane" "now" "LDryIceLane$Van;", .fieldLink RX9 49 "DryIceLane$Van" "lane" "LDryIceLane$Lane;", .fieldLink RX9 81 "DryIceLane$Box" "ice" "I", .methodLink RX9 77 yX2_boxAt, .instanceMethod yX2_boxAt, .selects RX2 yX2_boxAt yX2_boxAt, .initialized RX2, .code yX2_boxAt cX2_boxAt 2 (some (.object "DryIceLane$Box")), .fieldLink RX2 18 "DryIceLane$Lane" "count" "I", .fieldLink RX2 11 "DryIceLane$Lane" "boxes" "[LDryIceLane$Box;", .static yX9_within, .initialized RX9, .code yX9_within cX9_within 3 (some .boolean), .methodLink RX9 93 yX2_move, .instanceMethod yX2_move, .selects RX2 yX2_move yX2_move, .code yX2_move cX2_move 5 none] ++ wsX90 ++ wsX80 ++ wsX00 ++ wsX20)
def wsX9_set : List Cond := .code yX9_set cX9_set 3 (some .int) :: ([.fieldLink RX9 10 "DryIceLane" "now" "LDryIceLane$Van;", .fieldLink RX9 97 "DryIceLane$Van" "settings" "LDryIceLane$Settings;", .methodLink RX9 101 yX6_allows, .instanceMethod yX6_allows, .selects RX6 yX6_allows yX6_allows, .initialized RX6, .code yX6_allows cX6_allows 3 (some .boolean), .static yX9_within, .initialized RX9, .code yX9_within cX9_within 3 (some .boolean), .methodLink RX9 107 yX6_change, .instanceMethod yX6_change, .selects RX6 yX6_change yX6_change, .code yX6_change cX6_change 4 (some .int), .fieldLink RX6 18 "DryIceLane$Settings" "values" "[I", .methodLink RX6 39 yX6_value, .instanceMethod yX6_value, .selects RX6 yX6_value yX6_value, .code yX6_value cX6_value 2 (some .int), .methodLink RX6 43 yX6_allows] ++ wsX90 ++ wsX80 ++ wsX60)
def wsX9_leg : List Cond := .code yX9_leg cX9_leg 3 (some .int) :: ([.fieldLink RX9 10 "DryIceLane" "now" "LDryIceLane$Van;", .fieldLink RX9 111 "DryIceLane$Van" "route" "LDryIceLane$Route;", .fieldLink RX9 115 "DryIceLane$Route" "count" "I", .methodLink RX9 43 yX9_within, .static yX9_within, .initialized RX9, .code yX9_within cX9_within 3 (some .boolean), .methodLink RX9 118 yX4_append, .instanceMethod yX4_append, .selects RX4 yX4_append yX4_append, .initialized RX4, .code yX4_append cX4_append 3 none, .fieldLink RX4 28 "DryIceLane$Route" "count" "I", .fieldLink RX4 9 "DryIceLane$Route" "durations" "[I", .fieldLink RX4 15 "DryIceLane$Route" "outsides" "[I"] ++ wsX90 ++ wsX80 ++ wsX40)
def wsX9_depart_r1 : List Cond := [Cond.fieldLink RX9 10 "DryIceLane" "now" "LDryIceLane$Van;", Cond.fieldLink RX9 111 "DryIceLane$Van" "route" "LDryIceLane$Route;", Cond.fieldLink RX9 59 "DryIceLane$Van" "hold" "LDryIceLane$Hold;", Cond.fieldLink RX9 63 "DryIceLane$Hold" "doorOpen" "Z", Cond.fieldLink RX9 130 "DryIceLane$Route" "latest" "I", Cond.methodLink RX9 124 yX4_isOnTheWay, Cond.instanceMethod yX4_isOnTheWay, Cond.selects RX4 yX4_isOnTheWay yX4_isOnTheWay, Cond.initialized RX4, Cond.code yX4_isOnTheWay cX4_isOnTheWay 1 (some .boolean), Cond.fieldLink RX4 31 "DryIceLane$Route" "minutesLeft" "I", Cond.methodLink RX9 120 yX4_hasNextLeg, Cond.instanceMethod yX4_hasNextLeg, Cond.selects RX4 yX4_hasNextLeg yX4_hasNextLeg, Cond.code yX4_hasNextLeg cX4_hasNextLeg 1 (some .boolean), Cond.fieldLink RX4 18 "DryIceLane$Route" "latest" "I", Cond.methodLink RX4 38 yX4_hasLeg, Cond.instanceMethod yX4_hasLeg, Cond.selects RX4 yX4_hasLeg yX4_hasLeg, Cond.code yX4_hasLeg cX4_hasLeg 2 (some .boolean), Cond.fieldLink RX4 28 "DryIceLane$Route" "count" "I", Cond.static yX9_within, Cond.initialized RX9, Cond.code yX9_within cX9_within 3 (some .boolean)]
def wsX9_depart_r2 : List Cond := [Cond.methodLink RX9 127 yX4_beginNextLeg, Cond.instanceMethod yX4_beginNextLeg, Cond.selects RX4 yX4_beginNextLeg yX4_beginNextLeg, Cond.code yX4_beginNextLeg cX4_beginNextLeg 1 none, Cond.fieldLink RX4 9 "DryIceLane$Route" "durations" "[I", Cond.methodLink RX4 42 yX4_hasNextLeg]
def wsX9_depart : List Cond := .code yX9_depart cX9_depart 1 (some .int) :: ((wsX9_depart_r1 ++ wsX9_depart_r2) ++ wsX90 ++ wsX80 ++ wsX10 ++ wsX40)
def wsX9_pass_r1 : List Cond := [Cond.fieldLink RX9 10 "DryIceLane" "now" "LDryIceLane$Van;", Cond.fieldLink RX9 133 "DryIceLane$Van" "time" "I", Cond.constant RX9 136 (100000), Cond.fieldLink RX9 111 "DryIceLane$Van" "route" "LDryIceLane$Route;", Cond.fieldLink RX9 137 "DryIceLane$Route" "minutesLeft" "I", Cond.methodLink RX9 140 Lib.Math.min.name, Cond.static Lib.Math.min.name, Cond.initialized "java/lang/Math", Cond.code Lib.Math.min.name Lib.Math.min.code 2 (some .int), Cond.methodLink RX9 43 yX9_within, Cond.static yX9_within, Cond.initialized RX9, Cond.code yX9_within cX9_within 3 (some .boolean), Cond.methodLink RX9 145 yX8_letPass, Cond.instanceMethod yX8_letPass, Cond.selects RX8 yX8_letPass yX8_letPass, Cond.initialized RX8, Cond.code yX8_letPass cX8_letPass 3 none, Cond.methodLink RX8 83 yX8_letMinutePass, Cond.instanceMethod yX8_letMinutePass, Cond.selects RX8 yX8_letMinutePass yX8_letMinutePass, Cond.code yX8_letMinutePass cX8_letMinutePass 2 none, Cond.fieldLink RX8 21 "DryIceLane$Van" "lane" "LDryIceLane$Lane;", Cond.fieldLink RX8 28 "DryIceLane$Van" "hold" "LDryIceLane$Hold;"]
def wsX9_pass_r2 : List Cond := [Cond.fieldLink RX8 86 "DryIceLane$Hold" "temperature" "I", Cond.fieldLink RX8 12 "DryIceLane$Van" "settings" "LDryIceLane$Settings;", Cond.fieldLink RX8 63 "DryIceLane$Van" "wentOff" "J", Cond.fieldLink RX8 35 "DryIceLane$Van" "route" "LDryIceLane$Route;", Cond.fieldLink RX8 52 "DryIceLane$Van" "time" "I", Cond.methodLink RX8 79 yX6_value, Cond.instanceMethod yX6_value, Cond.selects RX6 yX6_value yX6_value, Cond.initialized RX6, Cond.code yX6_value cX6_value 2 (some .int), Cond.fieldLink RX6 18 "DryIceLane$Settings" "values" "[I", Cond.methodLink RX8 89 yX2_letGoOff, Cond.instanceMethod yX2_letGoOff, Cond.selects RX2 yX2_letGoOff yX2_letGoOff, Cond.initialized RX2, Cond.code yX2_letGoOff cX2_letGoOff 6 (some .int), Cond.fieldLink RX2 18 "DryIceLane$Lane" "count" "I", Cond.fieldLink RX2 11 "DryIceLane$Lane" "boxes" "[LDryIceLane$Box;", Cond.methodLink RX2 56 yX0_goingOff, Cond.instanceMethod yX0_goingOff, Cond.selects RX0 yX0_goingOff yX0_goingOff, Cond.initialized RX0, Cond.code yX0_goingOff cX0_goingOff 5 (some .int), Cond.constantLong RX0 24 (100)]
def wsX9_pass_r3 : List Cond := [Cond.fieldLink RX0 9 "DryIceLane$Box" "insulation" "I", Cond.methodLink RX0 30 Lib.MathLoose.max_long.x, Cond.static Lib.MathLoose.max_long.x, Cond.code Lib.MathLoose.max_long.x Lib.MathLoose.max_long.code 4 (some .long), Cond.fieldLink RX0 18 "DryIceLane$Box" "ice" "I", Cond.methodLink RX0 35 Lib.MathLoose.min_long.x, Cond.static Lib.MathLoose.min_long.x, Cond.code Lib.MathLoose.min_long.x Lib.MathLoose.min_long.code 4 (some .long), Cond.static yX9_quotient, Cond.code yX9_quotient cX9_quotient 4 (some .long), Cond.methodLink RX2 52 yX0_take, Cond.instanceMethod yX0_take, Cond.selects RX0 yX0_take yX0_take, Cond.code yX0_take cX0_take 2 none, Cond.fieldLink RX0 21 "DryIceLane$Box" "paper" "I", Cond.methodLink RX0 38 Lib.Math.max.name, Cond.static Lib.Math.max.name, Cond.code Lib.Math.max.name Lib.Math.max.code 2 (some .int), Cond.methodLink RX8 93 yX4_outsideNow, Cond.instanceMethod yX4_outsideNow, Cond.selects RX4 yX4_outsideNow yX4_outsideNow, Cond.initialized RX4, Cond.code yX4_outsideNow cX4_outsideNow 1 (some .int), Cond.fieldLink RX4 18 "DryIceLane$Route" "latest" "I"]
def wsX9_pass_r4 : List Cond := [Cond.fieldLink RX4 15 "DryIceLane$Route" "outsides" "[I", Cond.methodLink RX4 38 yX4_hasLeg, Cond.instanceMethod yX4_hasLeg, Cond.selects RX4 yX4_hasLeg yX4_hasLeg, Cond.code yX4_hasLeg cX4_hasLeg 2 (some .boolean), Cond.fieldLink RX4 28 "DryIceLane$Route" "count" "I", Cond.methodLink RX8 97 yX1_letMinutePass, Cond.instanceMethod yX1_letMinutePass, Cond.selects RX1 yX1_letMinutePass yX1_letMinutePass, Cond.initialized RX1, Cond.code yX1_letMinutePass cX1_letMinutePass 6 none, Cond.fieldLink RX1 18 "DryIceLane$Hold" "gas" "J", Cond.fieldLink RX1 29 "DryIceLane$Hold" "doorOpen" "Z", Cond.fieldLink RX1 32 "DryIceLane$Hold" "alarms" "I", Cond.methodLink RX1 56 yX1_changeTemperature, Cond.instanceMethod yX1_changeTemperature, Cond.selects RX1 yX1_changeTemperature yX1_changeTemperature, Cond.code yX1_changeTemperature cX1_changeTemperature 6 none, Cond.fieldLink RX1 9 "DryIceLane$Hold" "temperature" "I", Cond.fieldLink RX1 22 "DryIceLane$Hold" "ventOpen" "Z", Cond.methodLink RX1 72 Lib.Math.min.name, Cond.methodLink RX1 78 Lib.Math.max.name, Cond.methodLink RX1 37 yX6_value, Cond.methodLink RX1 60 yX1_loseGas]
def wsX9_pass_r5 : List Cond := [Cond.instanceMethod yX1_loseGas, Cond.selects RX1 yX1_loseGas yX1_loseGas, Cond.code yX1_loseGas cX1_loseGas 2 none, Cond.constantLong RX1 81 (1000), Cond.methodLink RX1 64 yX1_concentration, Cond.instanceMethod yX1_concentration, Cond.selects RX1 yX1_concentration yX1_concentration, Cond.code yX1_concentration cX1_concentration 2 (some .long), Cond.constantLong RX1 35 (2), Cond.methodLink RX1 68 yX1_moveVent, Cond.instanceMethod yX1_moveVent, Cond.selects RX1 yX1_moveVent yX1_moveVent, Cond.code yX1_moveVent cX1_moveVent 4 none, Cond.fieldLink RX1 15 "DryIceLane$Hold" "ventMode" "I", Cond.fieldLink RX1 26 "DryIceLane$Hold" "ventMinutes" "I", Cond.methodLink RX1 47 yX1_keepToMode, Cond.instanceMethod yX1_keepToMode, Cond.selects RX1 yX1_keepToMode yX1_keepToMode, Cond.code yX1_keepToMode cX1_keepToMode 1 none, Cond.methodLink RX1 50 yX1_openVent, Cond.instanceMethod yX1_openVent, Cond.selects RX1 yX1_openVent yX1_openVent, Cond.code yX1_openVent cX1_openVent 1 none, Cond.methodLink RX1 53 yX1_shutVent]
def wsX9_pass_r6 : List Cond := [Cond.instanceMethod yX1_shutVent, Cond.selects RX1 yX1_shutVent yX1_shutVent, Cond.code yX1_shutVent cX1_shutVent 1 none, Cond.methodLink RX8 100 yX4_letMinutePass, Cond.instanceMethod yX4_letMinutePass, Cond.selects RX4 yX4_letMinutePass yX4_letMinutePass, Cond.code yX4_letMinutePass cX4_letMinutePass 1 none, Cond.fieldLink RX4 31 "DryIceLane$Route" "minutesLeft" "I", Cond.methodLink RX4 46 yX4_isOnTheWay, Cond.instanceMethod yX4_isOnTheWay, Cond.selects RX4 yX4_isOnTheWay yX4_isOnTheWay, Cond.code yX4_isOnTheWay cX4_isOnTheWay 1 (some .boolean)]
def wsX9_pass : List Cond := .code yX9_pass cX9_pass 3 (some .int) :: ((wsX9_pass_r1 ++ (wsX9_pass_r2 ++ (wsX9_pass_r3 ++ (wsX9_pass_r4 ++ (wsX9_pass_r5 ++ wsX9_pass_r6))))) ++ wsX90 ++ wsX80 ++ wsX40 ++ wsX10 ++ wsX60 ++ wsX20 ++ wsX00)
def wsX9_vent_r1 : List Cond := [Cond.fieldLink RX9 10 "DryIceLane" "now" "LDryIceLane$Van;", Cond.fieldLink RX9 59 "DryIceLane$Van" "hold" "LDryIceLane$Hold;", Cond.fieldLink RX9 148 "DryIceLane$Hold" "ventMode" "I", Cond.methodLink RX9 43 yX9_within, Cond.static yX9_within, Cond.initialized RX9, Cond.code yX9_within cX9_within 3 (some .boolean), Cond.methodLink RX9 151 yX1_setVentMode, Cond.instanceMethod yX1_setVentMode, Cond.selects RX1 yX1_setVentMode yX1_setVentMode, Cond.initialized RX1, Cond.code yX1_setVentMode cX1_setVentMode 2 none, Cond.fieldLink RX1 15 "DryIceLane$Hold" "ventMode" "I", Cond.methodLink RX1 47 yX1_keepToMode, Cond.instanceMethod yX1_keepToMode, Cond.selects RX1 yX1_keepToMode yX1_keepToMode, Cond.code yX1_keepToMode cX1_keepToMode 1 none, Cond.methodLink RX1 50 yX1_openVent, Cond.instanceMethod yX1_openVent, Cond.selects RX1 yX1_openVent yX1_openVent, Cond.code yX1_openVent cX1_openVent 1 none, Cond.fieldLink RX1 22 "DryIceLane$Hold" "ventOpen" "Z", Cond.methodLink RX1 53 yX1_shutVent, Cond.instanceMethod yX1_shutVent]
def wsX9_vent_r2 : List Cond := [Cond.selects RX1 yX1_shutVent yX1_shutVent, Cond.code yX1_shutVent cX1_shutVent 1 none, Cond.fieldLink RX1 26 "DryIceLane$Hold" "ventMinutes" "I"]
def wsX9_vent : List Cond := .code yX9_vent cX9_vent 3 (some .int) :: ((wsX9_vent_r1 ++ wsX9_vent_r2) ++ wsX90 ++ wsX80 ++ wsX10)
def wsX9_open_r1 : List Cond := [Cond.fieldLink RX9 10 "DryIceLane" "now" "LDryIceLane$Van;", Cond.fieldLink RX9 111 "DryIceLane$Van" "route" "LDryIceLane$Route;", Cond.fieldLink RX9 59 "DryIceLane$Van" "hold" "LDryIceLane$Hold;", Cond.fieldLink RX9 63 "DryIceLane$Hold" "doorOpen" "Z", Cond.methodLink RX9 124 yX4_isOnTheWay, Cond.instanceMethod yX4_isOnTheWay, Cond.selects RX4 yX4_isOnTheWay yX4_isOnTheWay, Cond.initialized RX4, Cond.code yX4_isOnTheWay cX4_isOnTheWay 1 (some .boolean), Cond.fieldLink RX4 31 "DryIceLane$Route" "minutesLeft" "I", Cond.methodLink RX9 154 yX8_isSafe, Cond.instanceMethod yX8_isSafe, Cond.selects RX8 yX8_isSafe yX8_isSafe, Cond.initialized RX8, Cond.code yX8_isSafe cX8_isSafe 1 (some .boolean), Cond.fieldLink RX8 12 "DryIceLane$Van" "settings" "LDryIceLane$Settings;", Cond.methodLink RX8 76 yX8_concentration, Cond.instanceMethod yX8_concentration, Cond.selects RX8 yX8_concentration yX8_concentration, Cond.code yX8_concentration cX8_concentration 1 (some .long), Cond.fieldLink RX8 28 "DryIceLane$Van" "hold" "LDryIceLane$Hold;", Cond.methodLink RX8 72 yX1_concentration, Cond.instanceMethod yX1_concentration, Cond.selects RX1 yX1_concentration yX1_concentration]
def wsX9_open_r2 : List Cond := [Cond.initialized RX1, Cond.code yX1_concentration cX1_concentration 2 (some .long), Cond.fieldLink RX1 18 "DryIceLane$Hold" "gas" "J", Cond.constantLong RX1 35 (2), Cond.methodLink RX1 37 yX6_value, Cond.instanceMethod yX6_value, Cond.selects RX6 yX6_value yX6_value, Cond.initialized RX6, Cond.code yX6_value cX6_value 2 (some .int), Cond.fieldLink RX6 18 "DryIceLane$Settings" "values" "[I", Cond.static yX9_within, Cond.initialized RX9, Cond.code yX9_within cX9_within 3 (some .boolean), Cond.static yX9_quotient, Cond.code yX9_quotient cX9_quotient 4 (some .long), Cond.methodLink RX8 79 yX6_value, Cond.methodLink RX9 157 yX1_openVent, Cond.instanceMethod yX1_openVent, Cond.selects RX1 yX1_openVent yX1_openVent, Cond.code yX1_openVent cX1_openVent 1 none, Cond.fieldLink RX1 22 "DryIceLane$Hold" "ventOpen" "Z", Cond.methodLink RX9 160 yX8_concentration]
def wsX9_open : List Cond := .code yX9_open cX9_open 1 (some .int) :: ((wsX9_open_r1 ++ wsX9_open_r2) ++ wsX90 ++ wsX80 ++ wsX10 ++ wsX40 ++ wsX60)
def wsX9_shut_r1 : List Cond := [Cond.fieldLink RX9 10 "DryIceLane" "now" "LDryIceLane$Van;", Cond.fieldLink RX9 59 "DryIceLane$Van" "hold" "LDryIceLane$Hold;", Cond.fieldLink RX9 63 "DryIceLane$Hold" "doorOpen" "Z", Cond.methodLink RX9 160 yX8_concentration, Cond.instanceMethod yX8_concentration, Cond.selects RX8 yX8_concentration yX8_concentration, Cond.initialized RX8, Cond.code yX8_concentration cX8_concentration 1 (some .long), Cond.fieldLink RX8 28 "DryIceLane$Van" "hold" "LDryIceLane$Hold;", Cond.fieldLink RX8 12 "DryIceLane$Van" "settings" "LDryIceLane$Settings;", Cond.methodLink RX8 72 yX1_concentration, Cond.instanceMethod yX1_concentration, Cond.selects RX1 yX1_concentration yX1_concentration, Cond.initialized RX1, Cond.code yX1_concentration cX1_concentration 2 (some .long), Cond.fieldLink RX1 18 "DryIceLane$Hold" "gas" "J", Cond.constantLong RX1 35 (2), Cond.methodLink RX1 37 yX6_value, Cond.instanceMethod yX6_value, Cond.selects RX6 yX6_value yX6_value, Cond.initialized RX6, Cond.code yX6_value cX6_value 2 (some .int), Cond.fieldLink RX6 18 "DryIceLane$Settings" "values" "[I", Cond.static yX9_within]
def wsX9_shut_r2 : List Cond := [Cond.initialized RX9, Cond.code yX9_within cX9_within 3 (some .boolean), Cond.static yX9_quotient, Cond.code yX9_quotient cX9_quotient 4 (some .long)]
def wsX9_shut : List Cond := .code yX9_shut cX9_shut 1 (some .int) :: ((wsX9_shut_r1 ++ wsX9_shut_r2) ++ wsX90 ++ wsX80 ++ wsX10 ++ wsX60)
def wsX9_sell_r1 : List Cond := [Cond.constant RX9 164 (50000000), Cond.fieldLink RX9 10 "DryIceLane" "now" "LDryIceLane$Van;", Cond.fieldLink RX9 59 "DryIceLane$Van" "hold" "LDryIceLane$Hold;", Cond.fieldLink RX9 63 "DryIceLane$Hold" "doorOpen" "Z", Cond.fieldLink RX9 49 "DryIceLane$Van" "lane" "LDryIceLane$Lane;", Cond.fieldLink RX9 169 "DryIceLane$Van" "sold" "J", Cond.methodLink RX9 43 yX9_within, Cond.static yX9_within, Cond.initialized RX9, Cond.code yX9_within cX9_within 3 (some .boolean), Cond.methodLink RX9 165 yX2_iceOfAll, Cond.instanceMethod yX2_iceOfAll, Cond.selects RX2 yX2_iceOfAll yX2_iceOfAll, Cond.initialized RX2, Cond.code yX2_iceOfAll cX2_iceOfAll 3 (some .int), Cond.fieldLink RX2 18 "DryIceLane$Lane" "count" "I", Cond.fieldLink RX2 11 "DryIceLane$Lane" "boxes" "[LDryIceLane$Box;", Cond.fieldLink RX2 36 "DryIceLane$Box" "ice" "I", Cond.methodLink RX9 172 yX2_takeFromFront, Cond.instanceMethod yX2_takeFromFront, Cond.selects RX2 yX2_takeFromFront yX2_takeFromFront, Cond.code yX2_takeFromFront cX2_takeFromFront 6 (some .int), Cond.methodLink RX2 46 Lib.Math.min.name, Cond.static Lib.Math.min.name]
def wsX9_sell_r2 : List Cond := [Cond.initialized "java/lang/Math", Cond.code Lib.Math.min.name Lib.Math.min.code 2 (some .int), Cond.methodLink RX2 52 yX0_take, Cond.instanceMethod yX0_take, Cond.selects RX0 yX0_take yX0_take, Cond.initialized RX0, Cond.code yX0_take cX0_take 2 none, Cond.fieldLink RX0 18 "DryIceLane$Box" "ice" "I", Cond.fieldLink RX0 21 "DryIceLane$Box" "paper" "I", Cond.methodLink RX0 38 Lib.Math.max.name, Cond.static Lib.Math.max.name, Cond.code Lib.Math.max.name Lib.Math.max.code 2 (some .int)]
def wsX9_sell : List Cond := .code yX9_sell cX9_sell 2 (some .int) :: ((wsX9_sell_r1 ++ wsX9_sell_r2) ++ wsX90 ++ wsX80 ++ wsX10 ++ wsX20 ++ wsX00)
def wsX9_spill : List Cond := .code yX9_spill cX9_spill 4 (some .int) :: ([.fieldLink RX9 10 "DryIceLane" "now" "LDryIceLane$Van;", .fieldLink RX9 49 "DryIceLane$Van" "lane" "LDryIceLane$Lane;", .constant RX9 48 (20000000), .fieldLink RX9 81 "DryIceLane$Box" "ice" "I", .fieldLink RX9 176 "DryIceLane$Van" "spilled" "J", .methodLink RX9 77 yX2_boxAt, .instanceMethod yX2_boxAt, .selects RX2 yX2_boxAt yX2_boxAt, .initialized RX2, .code yX2_boxAt cX2_boxAt 2 (some (.object "DryIceLane$Box")), .fieldLink RX2 18 "DryIceLane$Lane" "count" "I", .fieldLink RX2 11 "DryIceLane$Lane" "boxes" "[LDryIceLane$Box;", .static yX9_within, .initialized RX9, .code yX9_within cX9_within 3 (some .boolean), .methodLink RX9 43 yX9_within] ++ wsX90 ++ wsX80 ++ wsX00 ++ wsX20)
def wsX9_weigh : List Cond := .code yX9_weigh cX9_weigh 3 (some .int) :: ([.fieldLink RX9 10 "DryIceLane" "now" "LDryIceLane$Van;", .fieldLink RX9 49 "DryIceLane$Van" "lane" "LDryIceLane$Lane;", .fieldLink RX9 111 "DryIceLane$Van" "route" "LDryIceLane$Route;", .fieldLink RX9 179 "DryIceLane$Box" "tare" "I", .fieldLink RX9 81 "DryIceLane$Box" "ice" "I", .methodLink RX9 77 yX2_boxAt, .instanceMethod yX2_boxAt, .selects RX2 yX2_boxAt yX2_boxAt, .initialized RX2, .code yX2_boxAt cX2_boxAt 2 (some (.object "DryIceLane$Box")), .fieldLink RX2 18 "DryIceLane$Lane" "count" "I", .fieldLink RX2 11 "DryIceLane$Lane" "boxes" "[LDryIceLane$Box;", .static yX9_within, .initialized RX9, .code yX9_within cX9_within 3 (some .boolean), .methodLink RX9 124 yX4_isOnTheWay, .instanceMethod yX4_isOnTheWay, .selects RX4 yX4_isOnTheWay yX4_isOnTheWay, .initialized RX4, .code yX4_isOnTheWay cX4_isOnTheWay 1 (some .boolean), .fieldLink RX4 31 "DryIceLane$Route" "minutesLeft" "I"] ++ wsX90 ++ wsX80 ++ wsX00 ++ wsX20 ++ wsX40)
def wsX9_check : List Cond := .code yX9_check cX9_check 4 (some .int) :: ([.fieldLink RX9 10 "DryIceLane" "now" "LDryIceLane$Van;", .fieldLink RX9 49 "DryIceLane$Van" "lane" "LDryIceLane$Lane;", .constant RX9 182 (-1000000001), .fieldLink RX9 111 "DryIceLane$Van" "route" "LDryIceLane$Route;", .constant RX9 183 (-1000000005), .fieldLink RX9 184 "DryIceLane$Box" "paper" "I", .fieldLink RX9 81 "DryIceLane$Box" "ice" "I", .methodLink RX9 77 yX2_boxAt, .instanceMethod yX2_boxAt, .selects RX2 yX2_boxAt yX2_boxAt, .initialized RX2, .code yX2_boxAt cX2_boxAt 2 (some (.object "DryIceLane$Box")), .fieldLink RX2 18 "DryIceLane$Lane" "count" "I", .fieldLink RX2 11 "DryIceLane$Lane" "boxes" "[LDryIceLane$Box;", .static yX9_within, .initialized RX9, .code yX9_within cX9_within 3 (some .boolean), .methodLink RX9 124 yX4_isOnTheWay, .instanceMethod yX4_isOnTheWay, .selects RX4 yX4_isOnTheWay yX4_isOnTheWay, .initialized RX4, .code yX4_isOnTheWay cX4_isOnTheWay 1 (some .boolean), .fieldLink RX4 31 "DryIceLane$Route" "minutesLeft" "I"] ++ wsX90 ++ wsX80 ++ wsX00 ++ wsX20 ++ wsX40)
def wsX9_box_r1 : List Cond := [Cond.fieldLink RX9 10 "DryIceLane" "now" "LDryIceLane$Van;", Cond.fieldLink RX9 49 "DryIceLane$Van" "lane" "LDryIceLane$Lane;", Cond.fieldLink RX9 187 "DryIceLane$Box" "insulation" "I", Cond.fieldLink RX9 179 "DryIceLane$Box" "tare" "I", Cond.fieldLink RX9 81 "DryIceLane$Box" "ice" "I", Cond.fieldLink RX9 184 "DryIceLane$Box" "paper" "I", Cond.fieldLink RX9 59 "DryIceLane$Van" "hold" "LDryIceLane$Hold;", Cond.fieldLink RX9 190 "DryIceLane$Hold" "temperature" "I", Cond.fieldLink RX9 97 "DryIceLane$Van" "settings" "LDryIceLane$Settings;", Cond.methodLink RX9 77 yX2_boxAt, Cond.instanceMethod yX2_boxAt, Cond.selects RX2 yX2_boxAt yX2_boxAt, Cond.initialized RX2, Cond.code yX2_boxAt cX2_boxAt 2 (some (.object "DryIceLane$Box")), Cond.fieldLink RX2 18 "DryIceLane$Lane" "count" "I", Cond.fieldLink RX2 11 "DryIceLane$Lane" "boxes" "[LDryIceLane$Box;", Cond.static yX9_within, Cond.initialized RX9, Cond.code yX9_within cX9_within 3 (some .boolean), Cond.methodLink RX9 193 yX6_value, Cond.instanceMethod yX6_value, Cond.selects RX6 yX6_value yX6_value, Cond.initialized RX6, Cond.code yX6_value cX6_value 2 (some .int)]
def wsX9_box_r2 : List Cond := [Cond.fieldLink RX6 18 "DryIceLane$Settings" "values" "[I", Cond.methodLink RX9 196 yX0_goingOff, Cond.instanceMethod yX0_goingOff, Cond.selects RX0 yX0_goingOff yX0_goingOff, Cond.initialized RX0, Cond.code yX0_goingOff cX0_goingOff 5 (some .int), Cond.constantLong RX0 24 (100), Cond.fieldLink RX0 9 "DryIceLane$Box" "insulation" "I", Cond.methodLink RX0 30 Lib.MathLoose.max_long.x, Cond.static Lib.MathLoose.max_long.x, Cond.initialized "java/lang/Math", Cond.code Lib.MathLoose.max_long.x Lib.MathLoose.max_long.code 4 (some .long), Cond.fieldLink RX0 18 "DryIceLane$Box" "ice" "I", Cond.methodLink RX0 35 Lib.MathLoose.min_long.x, Cond.static Lib.MathLoose.min_long.x, Cond.code Lib.MathLoose.min_long.x Lib.MathLoose.min_long.code 4 (some .long), Cond.static yX9_quotient, Cond.code yX9_quotient cX9_quotient 4 (some .long)]
def wsX9_box : List Cond := .code yX9_box cX9_box 4 (some .int) :: ((wsX9_box_r1 ++ wsX9_box_r2) ++ wsX90 ++ wsX80 ++ wsX00 ++ wsX10 ++ wsX20 ++ wsX60)
def wsX9_van_r1 : List Cond := [Cond.constant RX9 199 (-1000000002), Cond.fieldLink RX9 10 "DryIceLane" "now" "LDryIceLane$Van;", Cond.fieldLink RX9 97 "DryIceLane$Van" "settings" "LDryIceLane$Settings;", Cond.fieldLink RX9 133 "DryIceLane$Van" "time" "I", Cond.fieldLink RX9 59 "DryIceLane$Van" "hold" "LDryIceLane$Hold;", Cond.fieldLink RX9 190 "DryIceLane$Hold" "temperature" "I", Cond.fieldLink RX9 111 "DryIceLane$Van" "route" "LDryIceLane$Route;", Cond.fieldLink RX9 203 "DryIceLane$Hold" "gas" "J", Cond.fieldLink RX9 148 "DryIceLane$Hold" "ventMode" "I", Cond.fieldLink RX9 206 "DryIceLane$Hold" "ventOpen" "Z", Cond.fieldLink RX9 209 "DryIceLane$Hold" "ventMinutes" "I", Cond.fieldLink RX9 63 "DryIceLane$Hold" "doorOpen" "Z", Cond.fieldLink RX9 130 "DryIceLane$Route" "latest" "I", Cond.constant RX9 212 (-1000000006), Cond.fieldLink RX9 137 "DryIceLane$Route" "minutesLeft" "I", Cond.fieldLink RX9 213 "DryIceLane$Hold" "alarms" "I", Cond.fieldLink RX9 49 "DryIceLane$Van" "lane" "LDryIceLane$Lane;", Cond.fieldLink RX9 53 "DryIceLane$Lane" "count" "I", Cond.fieldLink RX9 115 "DryIceLane$Route" "count" "I", Cond.fieldLink RX9 32 "DryIceLane" "pad" "LDryIceLane$Pad;", Cond.fieldLink RX9 216 "DryIceLane$Pad" "length" "I", Cond.methodLink RX9 43 yX9_within, Cond.static yX9_within, Cond.initialized RX9]
def wsX9_van_r2 : List Cond := [Cond.code yX9_within cX9_within 3 (some .boolean), Cond.methodLink RX9 193 yX6_value, Cond.instanceMethod yX6_value, Cond.selects RX6 yX6_value yX6_value, Cond.initialized RX6, Cond.code yX6_value cX6_value 2 (some .int), Cond.fieldLink RX6 18 "DryIceLane$Settings" "values" "[I", Cond.methodLink RX9 200 yX4_outsideNow, Cond.instanceMethod yX4_outsideNow, Cond.selects RX4 yX4_outsideNow yX4_outsideNow, Cond.initialized RX4, Cond.code yX4_outsideNow cX4_outsideNow 1 (some .int), Cond.fieldLink RX4 18 "DryIceLane$Route" "latest" "I", Cond.fieldLink RX4 15 "DryIceLane$Route" "outsides" "[I", Cond.methodLink RX4 38 yX4_hasLeg, Cond.instanceMethod yX4_hasLeg, Cond.selects RX4 yX4_hasLeg yX4_hasLeg, Cond.code yX4_hasLeg cX4_hasLeg 2 (some .boolean), Cond.fieldLink RX4 28 "DryIceLane$Route" "count" "I", Cond.methodLink RX9 160 yX8_concentration, Cond.instanceMethod yX8_concentration, Cond.selects RX8 yX8_concentration yX8_concentration, Cond.initialized RX8, Cond.code yX8_concentration cX8_concentration 1 (some .long)]
def wsX9_van_r3 : List Cond := [Cond.fieldLink RX8 28 "DryIceLane$Van" "hold" "LDryIceLane$Hold;", Cond.fieldLink RX8 12 "DryIceLane$Van" "settings" "LDryIceLane$Settings;", Cond.methodLink RX8 72 yX1_concentration, Cond.instanceMethod yX1_concentration, Cond.selects RX1 yX1_concentration yX1_concentration, Cond.initialized RX1, Cond.code yX1_concentration cX1_concentration 2 (some .long), Cond.fieldLink RX1 18 "DryIceLane$Hold" "gas" "J", Cond.constantLong RX1 35 (2), Cond.methodLink RX1 37 yX6_value, Cond.static yX9_quotient, Cond.code yX9_quotient cX9_quotient 4 (some .long)]
def wsX9_van : List Cond := .code yX9_van cX9_van 2 (some .int) :: ((wsX9_van_r1 ++ (wsX9_van_r2 ++ wsX9_van_r3)) ++ wsX90 ++ wsX80 ++ wsX10 ++ wsX40 ++ wsX20 ++ wsX30 ++ wsX60)
def wsX9_way : List Cond := .code yX9_way cX9_way 3 (some .int) :: ([.fieldLink RX9 10 "DryIceLane" "now" "LDryIceLane$Van;", .fieldLink RX9 111 "DryIceLane$Van" "route" "LDryIceLane$Route;", .constant RX9 182 (-1000000001), .constant RX9 199 (-1000000002), .methodLink RX9 219 yX4_hasLeg, .instanceMethod yX4_hasLeg, .selects RX4 yX4_hasLeg yX4_hasLeg, .initialized RX4, .code yX4_hasLeg cX4_hasLeg 2 (some .boolean), .fieldLink RX4 28 "DryIceLane$Route" "count" "I", .static yX9_within, .initialized RX9, .code yX9_within cX9_within 3 (some .boolean), .methodLink RX9 223 yX4_durationOf, .instanceMethod yX4_durationOf, .selects RX4 yX4_durationOf yX4_durationOf, .code yX4_durationOf cX4_durationOf 2 (some .int), .fieldLink RX4 9 "DryIceLane$Route" "durations" "[I", .methodLink RX4 38 yX4_hasLeg, .methodLink RX9 226 yX4_outsideOf, .instanceMethod yX4_outsideOf, .selects RX4 yX4_outsideOf yX4_outsideOf, .code yX4_outsideOf cX4_outsideOf 2 (some .int), .fieldLink RX4 15 "DryIceLane$Route" "outsides" "[I"] ++ wsX90 ++ wsX80 ++ wsX40)
def wsX9_account : List Cond := .code yX9_account cX9_account 2 (some .long) :: ([.fieldLink RX9 10 "DryIceLane" "now" "LDryIceLane$Van;", .fieldLink RX9 49 "DryIceLane$Van" "lane" "LDryIceLane$Lane;", .fieldLink RX9 73 "DryIceLane$Van" "putIn" "J", .fieldLink RX9 90 "DryIceLane$Van" "takenOut" "J", .fieldLink RX9 229 "DryIceLane$Van" "wentOff" "J", .fieldLink RX9 169 "DryIceLane$Van" "sold" "J", .fieldLink RX9 176 "DryIceLane$Van" "spilled" "J", .constantLong RX9 232 (-2), .methodLink RX9 165 yX2_iceOfAll, .instanceMethod yX2_iceOfAll, .selects RX2 yX2_iceOfAll yX2_iceOfAll, .initialized RX2, .code yX2_iceOfAll cX2_iceOfAll 3 (some .int), .fieldLink RX2 18 "DryIceLane$Lane" "count" "I", .fieldLink RX2 11 "DryIceLane$Lane" "boxes" "[LDryIceLane$Box;", .fieldLink RX2 36 "DryIceLane$Box" "ice" "I"] ++ wsX90 ++ wsX80 ++ wsX20 ++ wsX00)
def wsJ9_max_7cf53 : List Cond := .code yJ9_max_7cf53 cJ9_max_7cf53 2 (some .int) :: ([])
def wsJ9_max_f86c9 : List Cond := .code yJ9_max_f86c9 cJ9_max_f86c9 4 (some .long) :: ([])
def wsJ9_min_7cf53 : List Cond := .code yJ9_min_7cf53 cJ9_min_7cf53 2 (some .int) :: ([])
def wsJ9_min_f86c9 : List Cond := .code yJ9_min_f86c9 cJ9_min_f86c9 4 (some .long) :: ([])
def wsL_cell : List Cond := .code yL_cell cL_cell 3 (some .int) :: ([.constant RL 7 (4194303)])
def wsL_goesOff_r1 : List Cond := [Cond.constantLong RL 14 (8000), Cond.constantLong RL 16 (100), Cond.methodLink RL 8 yX9_van, Cond.instanceMethod yX9_van, Cond.selects RX9 yX9_van yX9_van, Cond.initialized RX9, Cond.code yX9_van cX9_van 2 (some .int), Cond.constant RX9 199 (-1000000002), Cond.fieldLink RX9 10 "DryIceLane" "now" "LDryIceLane$Van;", Cond.fieldLink RX9 97 "DryIceLane$Van" "settings" "LDryIceLane$Settings;", Cond.fieldLink RX9 133 "DryIceLane$Van" "time" "I", Cond.fieldLink RX9 59 "DryIceLane$Van" "hold" "LDryIceLane$Hold;", Cond.fieldLink RX9 190 "DryIceLane$Hold" "temperature" "I", Cond.fieldLink RX9 111 "DryIceLane$Van" "route" "LDryIceLane$Route;", Cond.fieldLink RX9 203 "DryIceLane$Hold" "gas" "J", Cond.fieldLink RX9 148 "DryIceLane$Hold" "ventMode" "I", Cond.fieldLink RX9 206 "DryIceLane$Hold" "ventOpen" "Z", Cond.fieldLink RX9 209 "DryIceLane$Hold" "ventMinutes" "I", Cond.fieldLink RX9 63 "DryIceLane$Hold" "doorOpen" "Z", Cond.fieldLink RX9 130 "DryIceLane$Route" "latest" "I", Cond.constant RX9 212 (-1000000006), Cond.fieldLink RX9 137 "DryIceLane$Route" "minutesLeft" "I", Cond.fieldLink RX9 213 "DryIceLane$Hold" "alarms" "I", Cond.fieldLink RX9 49 "DryIceLane$Van" "lane" "LDryIceLane$Lane;"]
def wsL_goesOff_r2 : List Cond := [Cond.fieldLink RX9 53 "DryIceLane$Lane" "count" "I", Cond.fieldLink RX9 115 "DryIceLane$Route" "count" "I", Cond.fieldLink RX9 32 "DryIceLane" "pad" "LDryIceLane$Pad;", Cond.fieldLink RX9 216 "DryIceLane$Pad" "length" "I", Cond.methodLink RX9 43 yX9_within, Cond.static yX9_within, Cond.code yX9_within cX9_within 3 (some .boolean), Cond.methodLink RX9 193 yX6_value, Cond.instanceMethod yX6_value, Cond.selects RX6 yX6_value yX6_value, Cond.initialized RX6, Cond.code yX6_value cX6_value 2 (some .int), Cond.fieldLink RX6 18 "DryIceLane$Settings" "values" "[I", Cond.methodLink RX9 200 yX4_outsideNow, Cond.instanceMethod yX4_outsideNow, Cond.selects RX4 yX4_outsideNow yX4_outsideNow, Cond.initialized RX4, Cond.code yX4_outsideNow cX4_outsideNow 1 (some .int), Cond.fieldLink RX4 18 "DryIceLane$Route" "latest" "I", Cond.fieldLink RX4 15 "DryIceLane$Route" "outsides" "[I", Cond.methodLink RX4 38 yX4_hasLeg, Cond.instanceMethod yX4_hasLeg, Cond.selects RX4 yX4_hasLeg yX4_hasLeg, Cond.code yX4_hasLeg cX4_hasLeg 2 (some .boolean)]
def wsL_goesOff_r3 : List Cond := [Cond.fieldLink RX4 28 "DryIceLane$Route" "count" "I", Cond.methodLink RX9 160 yX8_concentration, Cond.instanceMethod yX8_concentration, Cond.selects RX8 yX8_concentration yX8_concentration, Cond.initialized RX8, Cond.code yX8_concentration cX8_concentration 1 (some .long), Cond.fieldLink RX8 28 "DryIceLane$Van" "hold" "LDryIceLane$Hold;", Cond.fieldLink RX8 12 "DryIceLane$Van" "settings" "LDryIceLane$Settings;", Cond.methodLink RX8 72 yX1_concentration, Cond.instanceMethod yX1_concentration, Cond.selects RX1 yX1_concentration yX1_concentration, Cond.initialized RX1, Cond.code yX1_concentration cX1_concentration 2 (some .long), Cond.fieldLink RX1 18 "DryIceLane$Hold" "gas" "J", Cond.constantLong RX1 35 (2), Cond.methodLink RX1 37 yX6_value, Cond.static yX9_quotient, Cond.code yX9_quotient cX9_quotient 4 (some .long), Cond.methodLink RL 18 yX9_box, Cond.instanceMethod yX9_box, Cond.selects RX9 yX9_box yX9_box, Cond.code yX9_box cX9_box 4 (some .int), Cond.fieldLink RX9 187 "DryIceLane$Box" "insulation" "I", Cond.fieldLink RX9 179 "DryIceLane$Box" "tare" "I"]
def wsL_goesOff_r4 : List Cond := [Cond.fieldLink RX9 81 "DryIceLane$Box" "ice" "I", Cond.fieldLink RX9 184 "DryIceLane$Box" "paper" "I", Cond.methodLink RX9 77 yX2_boxAt, Cond.instanceMethod yX2_boxAt, Cond.selects RX2 yX2_boxAt yX2_boxAt, Cond.initialized RX2, Cond.code yX2_boxAt cX2_boxAt 2 (some (.object "DryIceLane$Box")), Cond.fieldLink RX2 18 "DryIceLane$Lane" "count" "I", Cond.fieldLink RX2 11 "DryIceLane$Lane" "boxes" "[LDryIceLane$Box;", Cond.methodLink RX9 196 yX0_goingOff, Cond.instanceMethod yX0_goingOff, Cond.selects RX0 yX0_goingOff yX0_goingOff, Cond.initialized RX0, Cond.code yX0_goingOff cX0_goingOff 5 (some .int), Cond.constantLong RX0 24 (100), Cond.fieldLink RX0 9 "DryIceLane$Box" "insulation" "I", Cond.methodLink RX0 30 Lib.MathLoose.max_long.x, Cond.static Lib.MathLoose.max_long.x, Cond.initialized "java/lang/Math", Cond.code Lib.MathLoose.max_long.x Lib.MathLoose.max_long.code 4 (some .long), Cond.fieldLink RX0 18 "DryIceLane$Box" "ice" "I", Cond.methodLink RX0 35 Lib.MathLoose.min_long.x, Cond.static Lib.MathLoose.min_long.x, Cond.code Lib.MathLoose.min_long.x Lib.MathLoose.min_long.code 4 (some .long)]
def wsL_goesOff : List Cond := .code yL_goesOff cL_goesOff 4 (some .long) :: ((wsL_goesOff_r1 ++ (wsL_goesOff_r2 ++ (wsL_goesOff_r3 ++ wsL_goesOff_r4))) ++ wsX90 ++ wsX80 ++ wsX10 ++ wsX40 ++ wsX20 ++ wsX30 ++ wsX60 ++ wsX00)
def wsL_isMinute_r1 : List Cond := [Cond.arrayClass .int, Cond.constantLong RL 28 (-7900), Cond.constantLong RL 30 (1000), Cond.constantLong RL 32 (2), Cond.methodLink RL 8 yX9_van, Cond.instanceMethod yX9_van, Cond.selects RX9 yX9_van yX9_van, Cond.initialized RX9, Cond.code yX9_van cX9_van 2 (some .int), Cond.constant RX9 199 (-1000000002), Cond.fieldLink RX9 10 "DryIceLane" "now" "LDryIceLane$Van;", Cond.fieldLink RX9 97 "DryIceLane$Van" "settings" "LDryIceLane$Settings;", Cond.fieldLink RX9 133 "DryIceLane$Van" "time" "I", Cond.fieldLink RX9 59 "DryIceLane$Van" "hold" "LDryIceLane$Hold;", Cond.fieldLink RX9 190 "DryIceLane$Hold" "temperature" "I", Cond.fieldLink RX9 111 "DryIceLane$Van" "route" "LDryIceLane$Route;", Cond.fieldLink RX9 203 "DryIceLane$Hold" "gas" "J", Cond.fieldLink RX9 148 "DryIceLane$Hold" "ventMode" "I", Cond.fieldLink RX9 206 "DryIceLane$Hold" "ventOpen" "Z", Cond.fieldLink RX9 209 "DryIceLane$Hold" "ventMinutes" "I", Cond.fieldLink RX9 63 "DryIceLane$Hold" "doorOpen" "Z", Cond.fieldLink RX9 130 "DryIceLane$Route" "latest" "I", Cond.constant RX9 212 (-1000000006), Cond.fieldLink RX9 137 "DryIceLane$Route" "minutesLeft" "I"]
def wsL_isMinute_r2 : List Cond := [Cond.fieldLink RX9 213 "DryIceLane$Hold" "alarms" "I", Cond.fieldLink RX9 49 "DryIceLane$Van" "lane" "LDryIceLane$Lane;", Cond.fieldLink RX9 53 "DryIceLane$Lane" "count" "I", Cond.fieldLink RX9 115 "DryIceLane$Route" "count" "I", Cond.fieldLink RX9 32 "DryIceLane" "pad" "LDryIceLane$Pad;", Cond.fieldLink RX9 216 "DryIceLane$Pad" "length" "I", Cond.methodLink RX9 43 yX9_within, Cond.static yX9_within, Cond.code yX9_within cX9_within 3 (some .boolean), Cond.methodLink RX9 193 yX6_value, Cond.instanceMethod yX6_value, Cond.selects RX6 yX6_value yX6_value, Cond.initialized RX6, Cond.code yX6_value cX6_value 2 (some .int), Cond.fieldLink RX6 18 "DryIceLane$Settings" "values" "[I", Cond.methodLink RX9 200 yX4_outsideNow, Cond.instanceMethod yX4_outsideNow, Cond.selects RX4 yX4_outsideNow yX4_outsideNow, Cond.initialized RX4, Cond.code yX4_outsideNow cX4_outsideNow 1 (some .int), Cond.fieldLink RX4 18 "DryIceLane$Route" "latest" "I", Cond.fieldLink RX4 15 "DryIceLane$Route" "outsides" "[I", Cond.methodLink RX4 38 yX4_hasLeg, Cond.instanceMethod yX4_hasLeg]
def wsL_isMinute_r3 : List Cond := [Cond.selects RX4 yX4_hasLeg yX4_hasLeg, Cond.code yX4_hasLeg cX4_hasLeg 2 (some .boolean), Cond.fieldLink RX4 28 "DryIceLane$Route" "count" "I", Cond.methodLink RX9 160 yX8_concentration, Cond.instanceMethod yX8_concentration, Cond.selects RX8 yX8_concentration yX8_concentration, Cond.initialized RX8, Cond.code yX8_concentration cX8_concentration 1 (some .long), Cond.fieldLink RX8 28 "DryIceLane$Van" "hold" "LDryIceLane$Hold;", Cond.fieldLink RX8 12 "DryIceLane$Van" "settings" "LDryIceLane$Settings;", Cond.methodLink RX8 72 yX1_concentration, Cond.instanceMethod yX1_concentration, Cond.selects RX1 yX1_concentration yX1_concentration, Cond.initialized RX1, Cond.code yX1_concentration cX1_concentration 2 (some .long), Cond.fieldLink RX1 18 "DryIceLane$Hold" "gas" "J", Cond.constantLong RX1 35 (2), Cond.methodLink RX1 37 yX6_value, Cond.static yX9_quotient, Cond.code yX9_quotient cX9_quotient 4 (some .long), Cond.methodLink RL 22 yL_goesOff, Cond.static yL_goesOff, Cond.initialized RL, Cond.code yL_goesOff cL_goesOff 4 (some .long)]
def wsL_isMinute_r4 : List Cond := [Cond.constantLong RL 14 (8000), Cond.constantLong RL 16 (100), Cond.methodLink RL 18 yX9_box, Cond.instanceMethod yX9_box, Cond.selects RX9 yX9_box yX9_box, Cond.code yX9_box cX9_box 4 (some .int), Cond.fieldLink RX9 187 "DryIceLane$Box" "insulation" "I", Cond.fieldLink RX9 179 "DryIceLane$Box" "tare" "I", Cond.fieldLink RX9 81 "DryIceLane$Box" "ice" "I", Cond.fieldLink RX9 184 "DryIceLane$Box" "paper" "I", Cond.methodLink RX9 77 yX2_boxAt, Cond.instanceMethod yX2_boxAt, Cond.selects RX2 yX2_boxAt yX2_boxAt, Cond.initialized RX2, Cond.code yX2_boxAt cX2_boxAt 2 (some (.object "DryIceLane$Box")), Cond.fieldLink RX2 18 "DryIceLane$Lane" "count" "I", Cond.fieldLink RX2 11 "DryIceLane$Lane" "boxes" "[LDryIceLane$Box;", Cond.methodLink RX9 196 yX0_goingOff, Cond.instanceMethod yX0_goingOff, Cond.selects RX0 yX0_goingOff yX0_goingOff, Cond.initialized RX0, Cond.code yX0_goingOff cX0_goingOff 5 (some .int), Cond.constantLong RX0 24 (100), Cond.fieldLink RX0 9 "DryIceLane$Box" "insulation" "I"]
def wsL_isMinute_r5 : List Cond := [Cond.methodLink RX0 30 Lib.MathLoose.max_long.x, Cond.static Lib.MathLoose.max_long.x, Cond.initialized "java/lang/Math", Cond.code Lib.MathLoose.max_long.x Lib.MathLoose.max_long.code 4 (some .long), Cond.fieldLink RX0 18 "DryIceLane$Box" "ice" "I", Cond.methodLink RX0 35 Lib.MathLoose.min_long.x, Cond.static Lib.MathLoose.min_long.x, Cond.code Lib.MathLoose.min_long.x Lib.MathLoose.min_long.code 4 (some .long), Cond.methodLink RL 34 yX9_account, Cond.instanceMethod yX9_account, Cond.selects RX9 yX9_account yX9_account, Cond.code yX9_account cX9_account 2 (some .long), Cond.fieldLink RX9 73 "DryIceLane$Van" "putIn" "J", Cond.fieldLink RX9 90 "DryIceLane$Van" "takenOut" "J", Cond.fieldLink RX9 229 "DryIceLane$Van" "wentOff" "J", Cond.fieldLink RX9 169 "DryIceLane$Van" "sold" "J", Cond.fieldLink RX9 176 "DryIceLane$Van" "spilled" "J", Cond.constantLong RX9 232 (-2), Cond.methodLink RX9 165 yX2_iceOfAll, Cond.instanceMethod yX2_iceOfAll, Cond.selects RX2 yX2_iceOfAll yX2_iceOfAll, Cond.code yX2_iceOfAll cX2_iceOfAll 3 (some .int), Cond.fieldLink RX2 36 "DryIceLane$Box" "ice" "I", Cond.methodLink RL 38 yX9_pass]
def wsL_isMinute_r6 : List Cond := [Cond.instanceMethod yX9_pass, Cond.selects RX9 yX9_pass yX9_pass, Cond.code yX9_pass cX9_pass 3 (some .int), Cond.constant RX9 136 (100000), Cond.methodLink RX9 140 Lib.Math.min.name, Cond.static Lib.Math.min.name, Cond.code Lib.Math.min.name Lib.Math.min.code 2 (some .int), Cond.methodLink RX9 145 yX8_letPass, Cond.instanceMethod yX8_letPass, Cond.selects RX8 yX8_letPass yX8_letPass, Cond.code yX8_letPass cX8_letPass 3 none, Cond.methodLink RX8 83 yX8_letMinutePass, Cond.instanceMethod yX8_letMinutePass, Cond.selects RX8 yX8_letMinutePass yX8_letMinutePass, Cond.code yX8_letMinutePass cX8_letMinutePass 2 none, Cond.fieldLink RX8 21 "DryIceLane$Van" "lane" "LDryIceLane$Lane;", Cond.fieldLink RX8 86 "DryIceLane$Hold" "temperature" "I", Cond.fieldLink RX8 63 "DryIceLane$Van" "wentOff" "J", Cond.fieldLink RX8 35 "DryIceLane$Van" "route" "LDryIceLane$Route;", Cond.fieldLink RX8 52 "DryIceLane$Van" "time" "I", Cond.methodLink RX8 79 yX6_value, Cond.methodLink RX8 89 yX2_letGoOff, Cond.instanceMethod yX2_letGoOff, Cond.selects RX2 yX2_letGoOff yX2_letGoOff]
def wsL_isMinute_r7 : List Cond := [Cond.code yX2_letGoOff cX2_letGoOff 6 (some .int), Cond.methodLink RX2 56 yX0_goingOff, Cond.methodLink RX2 52 yX0_take, Cond.instanceMethod yX0_take, Cond.selects RX0 yX0_take yX0_take, Cond.code yX0_take cX0_take 2 none, Cond.fieldLink RX0 21 "DryIceLane$Box" "paper" "I", Cond.methodLink RX0 38 Lib.Math.max.name, Cond.static Lib.Math.max.name, Cond.code Lib.Math.max.name Lib.Math.max.code 2 (some .int), Cond.methodLink RX8 93 yX4_outsideNow, Cond.methodLink RX8 97 yX1_letMinutePass, Cond.instanceMethod yX1_letMinutePass, Cond.selects RX1 yX1_letMinutePass yX1_letMinutePass, Cond.code yX1_letMinutePass cX1_letMinutePass 6 none, Cond.fieldLink RX1 29 "DryIceLane$Hold" "doorOpen" "Z", Cond.fieldLink RX1 32 "DryIceLane$Hold" "alarms" "I", Cond.methodLink RX1 56 yX1_changeTemperature, Cond.instanceMethod yX1_changeTemperature, Cond.selects RX1 yX1_changeTemperature yX1_changeTemperature, Cond.code yX1_changeTemperature cX1_changeTemperature 6 none, Cond.fieldLink RX1 9 "DryIceLane$Hold" "temperature" "I", Cond.fieldLink RX1 22 "DryIceLane$Hold" "ventOpen" "Z", Cond.methodLink RX1 72 Lib.Math.min.name]
def wsL_isMinute_r8 : List Cond := [Cond.methodLink RX1 78 Lib.Math.max.name, Cond.methodLink RX1 60 yX1_loseGas, Cond.instanceMethod yX1_loseGas, Cond.selects RX1 yX1_loseGas yX1_loseGas, Cond.code yX1_loseGas cX1_loseGas 2 none, Cond.constantLong RX1 81 (1000), Cond.methodLink RX1 64 yX1_concentration, Cond.methodLink RX1 68 yX1_moveVent, Cond.instanceMethod yX1_moveVent, Cond.selects RX1 yX1_moveVent yX1_moveVent, Cond.code yX1_moveVent cX1_moveVent 4 none, Cond.fieldLink RX1 15 "DryIceLane$Hold" "ventMode" "I", Cond.fieldLink RX1 26 "DryIceLane$Hold" "ventMinutes" "I", Cond.methodLink RX1 47 yX1_keepToMode, Cond.instanceMethod yX1_keepToMode, Cond.selects RX1 yX1_keepToMode yX1_keepToMode, Cond.code yX1_keepToMode cX1_keepToMode 1 none, Cond.methodLink RX1 50 yX1_openVent, Cond.instanceMethod yX1_openVent, Cond.selects RX1 yX1_openVent yX1_openVent, Cond.code yX1_openVent cX1_openVent 1 none, Cond.methodLink RX1 53 yX1_shutVent, Cond.instanceMethod yX1_shutVent, Cond.selects RX1 yX1_shutVent yX1_shutVent]
def wsL_isMinute_r9 : List Cond := [Cond.code yX1_shutVent cX1_shutVent 1 none, Cond.methodLink RX8 100 yX4_letMinutePass, Cond.instanceMethod yX4_letMinutePass, Cond.selects RX4 yX4_letMinutePass yX4_letMinutePass, Cond.code yX4_letMinutePass cX4_letMinutePass 1 none, Cond.fieldLink RX4 31 "DryIceLane$Route" "minutesLeft" "I", Cond.methodLink RX4 46 yX4_isOnTheWay, Cond.instanceMethod yX4_isOnTheWay, Cond.selects RX4 yX4_isOnTheWay yX4_isOnTheWay, Cond.code yX4_isOnTheWay cX4_isOnTheWay 1 (some .boolean)]
def wsL_isMinute : List Cond := .code yL_isMinute cL_isMinute 27 (some .boolean) :: ((wsL_isMinute_r1 ++ (wsL_isMinute_r2 ++ (wsL_isMinute_r3 ++ (wsL_isMinute_r4 ++ (wsL_isMinute_r5 ++ (wsL_isMinute_r6 ++ (wsL_isMinute_r7 ++ (wsL_isMinute_r8 ++ wsL_isMinute_r9)))))))) ++ wsX90 ++ wsX80 ++ wsX10 ++ wsX40 ++ wsX20 ++ wsX30 ++ wsX60 ++ wsX00)
def wsL_addsUp_r1 : List Cond := [Cond.methodLink RL 8 yX9_van, Cond.instanceMethod yX9_van, Cond.selects RX9 yX9_van yX9_van, Cond.initialized RX9, Cond.code yX9_van cX9_van 2 (some .int), Cond.constant RX9 199 (-1000000002), Cond.fieldLink RX9 10 "DryIceLane" "now" "LDryIceLane$Van;", Cond.fieldLink RX9 97 "DryIceLane$Van" "settings" "LDryIceLane$Settings;", Cond.fieldLink RX9 133 "DryIceLane$Van" "time" "I", Cond.fieldLink RX9 59 "DryIceLane$Van" "hold" "LDryIceLane$Hold;", Cond.fieldLink RX9 190 "DryIceLane$Hold" "temperature" "I", Cond.fieldLink RX9 111 "DryIceLane$Van" "route" "LDryIceLane$Route;", Cond.fieldLink RX9 203 "DryIceLane$Hold" "gas" "J", Cond.fieldLink RX9 148 "DryIceLane$Hold" "ventMode" "I", Cond.fieldLink RX9 206 "DryIceLane$Hold" "ventOpen" "Z", Cond.fieldLink RX9 209 "DryIceLane$Hold" "ventMinutes" "I", Cond.fieldLink RX9 63 "DryIceLane$Hold" "doorOpen" "Z", Cond.fieldLink RX9 130 "DryIceLane$Route" "latest" "I", Cond.constant RX9 212 (-1000000006), Cond.fieldLink RX9 137 "DryIceLane$Route" "minutesLeft" "I", Cond.fieldLink RX9 213 "DryIceLane$Hold" "alarms" "I", Cond.fieldLink RX9 49 "DryIceLane$Van" "lane" "LDryIceLane$Lane;", Cond.fieldLink RX9 53 "DryIceLane$Lane" "count" "I", Cond.fieldLink RX9 115 "DryIceLane$Route" "count" "I"]
def wsL_addsUp_r2 : List Cond := [Cond.fieldLink RX9 32 "DryIceLane" "pad" "LDryIceLane$Pad;", Cond.fieldLink RX9 216 "DryIceLane$Pad" "length" "I", Cond.methodLink RX9 43 yX9_within, Cond.static yX9_within, Cond.code yX9_within cX9_within 3 (some .boolean), Cond.methodLink RX9 193 yX6_value, Cond.instanceMethod yX6_value, Cond.selects RX6 yX6_value yX6_value, Cond.initialized RX6, Cond.code yX6_value cX6_value 2 (some .int), Cond.fieldLink RX6 18 "DryIceLane$Settings" "values" "[I", Cond.methodLink RX9 200 yX4_outsideNow, Cond.instanceMethod yX4_outsideNow, Cond.selects RX4 yX4_outsideNow yX4_outsideNow, Cond.initialized RX4, Cond.code yX4_outsideNow cX4_outsideNow 1 (some .int), Cond.fieldLink RX4 18 "DryIceLane$Route" "latest" "I", Cond.fieldLink RX4 15 "DryIceLane$Route" "outsides" "[I", Cond.methodLink RX4 38 yX4_hasLeg, Cond.instanceMethod yX4_hasLeg, Cond.selects RX4 yX4_hasLeg yX4_hasLeg, Cond.code yX4_hasLeg cX4_hasLeg 2 (some .boolean), Cond.fieldLink RX4 28 "DryIceLane$Route" "count" "I", Cond.methodLink RX9 160 yX8_concentration]
def wsL_addsUp_r3 : List Cond := [Cond.instanceMethod yX8_concentration, Cond.selects RX8 yX8_concentration yX8_concentration, Cond.initialized RX8, Cond.code yX8_concentration cX8_concentration 1 (some .long), Cond.fieldLink RX8 28 "DryIceLane$Van" "hold" "LDryIceLane$Hold;", Cond.fieldLink RX8 12 "DryIceLane$Van" "settings" "LDryIceLane$Settings;", Cond.methodLink RX8 72 yX1_concentration, Cond.instanceMethod yX1_concentration, Cond.selects RX1 yX1_concentration yX1_concentration, Cond.initialized RX1, Cond.code yX1_concentration cX1_concentration 2 (some .long), Cond.fieldLink RX1 18 "DryIceLane$Hold" "gas" "J", Cond.constantLong RX1 35 (2), Cond.methodLink RX1 37 yX6_value, Cond.static yX9_quotient, Cond.code yX9_quotient cX9_quotient 4 (some .long), Cond.methodLink RL 18 yX9_box, Cond.instanceMethod yX9_box, Cond.selects RX9 yX9_box yX9_box, Cond.code yX9_box cX9_box 4 (some .int), Cond.fieldLink RX9 187 "DryIceLane$Box" "insulation" "I", Cond.fieldLink RX9 179 "DryIceLane$Box" "tare" "I", Cond.fieldLink RX9 81 "DryIceLane$Box" "ice" "I", Cond.fieldLink RX9 184 "DryIceLane$Box" "paper" "I"]
def wsL_addsUp_r4 : List Cond := [Cond.methodLink RX9 77 yX2_boxAt, Cond.instanceMethod yX2_boxAt, Cond.selects RX2 yX2_boxAt yX2_boxAt, Cond.initialized RX2, Cond.code yX2_boxAt cX2_boxAt 2 (some (.object "DryIceLane$Box")), Cond.fieldLink RX2 18 "DryIceLane$Lane" "count" "I", Cond.fieldLink RX2 11 "DryIceLane$Lane" "boxes" "[LDryIceLane$Box;", Cond.methodLink RX9 196 yX0_goingOff, Cond.instanceMethod yX0_goingOff, Cond.selects RX0 yX0_goingOff yX0_goingOff, Cond.initialized RX0, Cond.code yX0_goingOff cX0_goingOff 5 (some .int), Cond.constantLong RX0 24 (100), Cond.fieldLink RX0 9 "DryIceLane$Box" "insulation" "I", Cond.methodLink RX0 30 Lib.MathLoose.max_long.x, Cond.static Lib.MathLoose.max_long.x, Cond.initialized "java/lang/Math", Cond.code Lib.MathLoose.max_long.x Lib.MathLoose.max_long.code 4 (some .long), Cond.fieldLink RX0 18 "DryIceLane$Box" "ice" "I", Cond.methodLink RX0 35 Lib.MathLoose.min_long.x, Cond.static Lib.MathLoose.min_long.x, Cond.code Lib.MathLoose.min_long.x Lib.MathLoose.min_long.code 4 (some .long), Cond.methodLink RL 34 yX9_account, Cond.instanceMethod yX9_account]
def wsL_addsUp_r5 : List Cond := [Cond.selects RX9 yX9_account yX9_account, Cond.code yX9_account cX9_account 2 (some .long), Cond.fieldLink RX9 73 "DryIceLane$Van" "putIn" "J", Cond.fieldLink RX9 90 "DryIceLane$Van" "takenOut" "J", Cond.fieldLink RX9 229 "DryIceLane$Van" "wentOff" "J", Cond.fieldLink RX9 169 "DryIceLane$Van" "sold" "J", Cond.fieldLink RX9 176 "DryIceLane$Van" "spilled" "J", Cond.constantLong RX9 232 (-2), Cond.methodLink RX9 165 yX2_iceOfAll, Cond.instanceMethod yX2_iceOfAll, Cond.selects RX2 yX2_iceOfAll yX2_iceOfAll, Cond.code yX2_iceOfAll cX2_iceOfAll 3 (some .int), Cond.fieldLink RX2 36 "DryIceLane$Box" "ice" "I"]
def wsL_addsUp : List Cond := .code yL_addsUp cL_addsUp 4 (some .boolean) :: ((wsL_addsUp_r1 ++ (wsL_addsUp_r2 ++ (wsL_addsUp_r3 ++ (wsL_addsUp_r4 ++ wsL_addsUp_r5)))) ++ wsX90 ++ wsX80 ++ wsX10 ++ wsX40 ++ wsX20 ++ wsX30 ++ wsX60 ++ wsX00)
def wsL_isSold_r1 : List Cond := [Cond.arrayClass .int, Cond.methodLink RL 8 yX9_van, Cond.instanceMethod yX9_van, Cond.selects RX9 yX9_van yX9_van, Cond.initialized RX9, Cond.code yX9_van cX9_van 2 (some .int), Cond.constant RX9 199 (-1000000002), Cond.fieldLink RX9 10 "DryIceLane" "now" "LDryIceLane$Van;", Cond.fieldLink RX9 97 "DryIceLane$Van" "settings" "LDryIceLane$Settings;", Cond.fieldLink RX9 133 "DryIceLane$Van" "time" "I", Cond.fieldLink RX9 59 "DryIceLane$Van" "hold" "LDryIceLane$Hold;", Cond.fieldLink RX9 190 "DryIceLane$Hold" "temperature" "I", Cond.fieldLink RX9 111 "DryIceLane$Van" "route" "LDryIceLane$Route;", Cond.fieldLink RX9 203 "DryIceLane$Hold" "gas" "J", Cond.fieldLink RX9 148 "DryIceLane$Hold" "ventMode" "I", Cond.fieldLink RX9 206 "DryIceLane$Hold" "ventOpen" "Z", Cond.fieldLink RX9 209 "DryIceLane$Hold" "ventMinutes" "I", Cond.fieldLink RX9 63 "DryIceLane$Hold" "doorOpen" "Z", Cond.fieldLink RX9 130 "DryIceLane$Route" "latest" "I", Cond.constant RX9 212 (-1000000006), Cond.fieldLink RX9 137 "DryIceLane$Route" "minutesLeft" "I", Cond.fieldLink RX9 213 "DryIceLane$Hold" "alarms" "I", Cond.fieldLink RX9 49 "DryIceLane$Van" "lane" "LDryIceLane$Lane;", Cond.fieldLink RX9 53 "DryIceLane$Lane" "count" "I"]
def wsL_isSold_r2 : List Cond := [Cond.fieldLink RX9 115 "DryIceLane$Route" "count" "I", Cond.fieldLink RX9 32 "DryIceLane" "pad" "LDryIceLane$Pad;", Cond.fieldLink RX9 216 "DryIceLane$Pad" "length" "I", Cond.methodLink RX9 43 yX9_within, Cond.static yX9_within, Cond.code yX9_within cX9_within 3 (some .boolean), Cond.methodLink RX9 193 yX6_value, Cond.instanceMethod yX6_value, Cond.selects RX6 yX6_value yX6_value, Cond.initialized RX6, Cond.code yX6_value cX6_value 2 (some .int), Cond.fieldLink RX6 18 "DryIceLane$Settings" "values" "[I", Cond.methodLink RX9 200 yX4_outsideNow, Cond.instanceMethod yX4_outsideNow, Cond.selects RX4 yX4_outsideNow yX4_outsideNow, Cond.initialized RX4, Cond.code yX4_outsideNow cX4_outsideNow 1 (some .int), Cond.fieldLink RX4 18 "DryIceLane$Route" "latest" "I", Cond.fieldLink RX4 15 "DryIceLane$Route" "outsides" "[I", Cond.methodLink RX4 38 yX4_hasLeg, Cond.instanceMethod yX4_hasLeg, Cond.selects RX4 yX4_hasLeg yX4_hasLeg, Cond.code yX4_hasLeg cX4_hasLeg 2 (some .boolean), Cond.fieldLink RX4 28 "DryIceLane$Route" "count" "I"]
def wsL_isSold_r3 : List Cond := [Cond.methodLink RX9 160 yX8_concentration, Cond.instanceMethod yX8_concentration, Cond.selects RX8 yX8_concentration yX8_concentration, Cond.initialized RX8, Cond.code yX8_concentration cX8_concentration 1 (some .long), Cond.fieldLink RX8 28 "DryIceLane$Van" "hold" "LDryIceLane$Hold;", Cond.fieldLink RX8 12 "DryIceLane$Van" "settings" "LDryIceLane$Settings;", Cond.methodLink RX8 72 yX1_concentration, Cond.instanceMethod yX1_concentration, Cond.selects RX1 yX1_concentration yX1_concentration, Cond.initialized RX1, Cond.code yX1_concentration cX1_concentration 2 (some .long), Cond.fieldLink RX1 18 "DryIceLane$Hold" "gas" "J", Cond.constantLong RX1 35 (2), Cond.methodLink RX1 37 yX6_value, Cond.static yX9_quotient, Cond.code yX9_quotient cX9_quotient 4 (some .long), Cond.methodLink RL 34 yX9_account, Cond.instanceMethod yX9_account, Cond.selects RX9 yX9_account yX9_account, Cond.code yX9_account cX9_account 2 (some .long), Cond.fieldLink RX9 73 "DryIceLane$Van" "putIn" "J", Cond.fieldLink RX9 90 "DryIceLane$Van" "takenOut" "J", Cond.fieldLink RX9 229 "DryIceLane$Van" "wentOff" "J"]
def wsL_isSold_r4 : List Cond := [Cond.fieldLink RX9 169 "DryIceLane$Van" "sold" "J", Cond.fieldLink RX9 176 "DryIceLane$Van" "spilled" "J", Cond.constantLong RX9 232 (-2), Cond.methodLink RX9 165 yX2_iceOfAll, Cond.instanceMethod yX2_iceOfAll, Cond.selects RX2 yX2_iceOfAll yX2_iceOfAll, Cond.initialized RX2, Cond.code yX2_iceOfAll cX2_iceOfAll 3 (some .int), Cond.fieldLink RX2 18 "DryIceLane$Lane" "count" "I", Cond.fieldLink RX2 11 "DryIceLane$Lane" "boxes" "[LDryIceLane$Box;", Cond.fieldLink RX2 36 "DryIceLane$Box" "ice" "I", Cond.methodLink RL 18 yX9_box, Cond.instanceMethod yX9_box, Cond.selects RX9 yX9_box yX9_box, Cond.code yX9_box cX9_box 4 (some .int), Cond.fieldLink RX9 187 "DryIceLane$Box" "insulation" "I", Cond.fieldLink RX9 179 "DryIceLane$Box" "tare" "I", Cond.fieldLink RX9 81 "DryIceLane$Box" "ice" "I", Cond.fieldLink RX9 184 "DryIceLane$Box" "paper" "I", Cond.methodLink RX9 77 yX2_boxAt, Cond.instanceMethod yX2_boxAt, Cond.selects RX2 yX2_boxAt yX2_boxAt, Cond.code yX2_boxAt cX2_boxAt 2 (some (.object "DryIceLane$Box")), Cond.methodLink RX9 196 yX0_goingOff]
def wsL_isSold_r5 : List Cond := [Cond.instanceMethod yX0_goingOff, Cond.selects RX0 yX0_goingOff yX0_goingOff, Cond.initialized RX0, Cond.code yX0_goingOff cX0_goingOff 5 (some .int), Cond.constantLong RX0 24 (100), Cond.fieldLink RX0 9 "DryIceLane$Box" "insulation" "I", Cond.methodLink RX0 30 Lib.MathLoose.max_long.x, Cond.static Lib.MathLoose.max_long.x, Cond.initialized "java/lang/Math", Cond.code Lib.MathLoose.max_long.x Lib.MathLoose.max_long.code 4 (some .long), Cond.fieldLink RX0 18 "DryIceLane$Box" "ice" "I", Cond.methodLink RX0 35 Lib.MathLoose.min_long.x, Cond.static Lib.MathLoose.min_long.x, Cond.code Lib.MathLoose.min_long.x Lib.MathLoose.min_long.code 4 (some .long), Cond.methodLink RL 41 yX9_sell, Cond.instanceMethod yX9_sell, Cond.selects RX9 yX9_sell yX9_sell, Cond.code yX9_sell cX9_sell 2 (some .int), Cond.constant RX9 164 (50000000), Cond.methodLink RX9 172 yX2_takeFromFront, Cond.instanceMethod yX2_takeFromFront, Cond.selects RX2 yX2_takeFromFront yX2_takeFromFront, Cond.code yX2_takeFromFront cX2_takeFromFront 6 (some .int), Cond.methodLink RX2 46 Lib.Math.min.name]
def wsL_isSold_r6 : List Cond := [Cond.static Lib.Math.min.name, Cond.code Lib.Math.min.name Lib.Math.min.code 2 (some .int), Cond.methodLink RX2 52 yX0_take, Cond.instanceMethod yX0_take, Cond.selects RX0 yX0_take yX0_take, Cond.code yX0_take cX0_take 2 none, Cond.fieldLink RX0 21 "DryIceLane$Box" "paper" "I", Cond.methodLink RX0 38 Lib.Math.max.name, Cond.static Lib.Math.max.name, Cond.code Lib.Math.max.name Lib.Math.max.code 2 (some .int)]
def wsL_isSold : List Cond := .code yL_isSold cL_isSold 13 (some .boolean) :: ((wsL_isSold_r1 ++ (wsL_isSold_r2 ++ (wsL_isSold_r3 ++ (wsL_isSold_r4 ++ (wsL_isSold_r5 ++ wsL_isSold_r6))))) ++ wsX90 ++ wsX80 ++ wsX10 ++ wsX40 ++ wsX20 ++ wsX30 ++ wsX60 ++ wsX00)
def wsL_isDoor_r1 : List Cond := [Cond.methodLink RL 8 yX9_van, Cond.instanceMethod yX9_van, Cond.selects RX9 yX9_van yX9_van, Cond.initialized RX9, Cond.code yX9_van cX9_van 2 (some .int), Cond.constant RX9 199 (-1000000002), Cond.fieldLink RX9 10 "DryIceLane" "now" "LDryIceLane$Van;", Cond.fieldLink RX9 97 "DryIceLane$Van" "settings" "LDryIceLane$Settings;", Cond.fieldLink RX9 133 "DryIceLane$Van" "time" "I", Cond.fieldLink RX9 59 "DryIceLane$Van" "hold" "LDryIceLane$Hold;", Cond.fieldLink RX9 190 "DryIceLane$Hold" "temperature" "I", Cond.fieldLink RX9 111 "DryIceLane$Van" "route" "LDryIceLane$Route;", Cond.fieldLink RX9 203 "DryIceLane$Hold" "gas" "J", Cond.fieldLink RX9 148 "DryIceLane$Hold" "ventMode" "I", Cond.fieldLink RX9 206 "DryIceLane$Hold" "ventOpen" "Z", Cond.fieldLink RX9 209 "DryIceLane$Hold" "ventMinutes" "I", Cond.fieldLink RX9 63 "DryIceLane$Hold" "doorOpen" "Z", Cond.fieldLink RX9 130 "DryIceLane$Route" "latest" "I", Cond.constant RX9 212 (-1000000006), Cond.fieldLink RX9 137 "DryIceLane$Route" "minutesLeft" "I", Cond.fieldLink RX9 213 "DryIceLane$Hold" "alarms" "I", Cond.fieldLink RX9 49 "DryIceLane$Van" "lane" "LDryIceLane$Lane;", Cond.fieldLink RX9 53 "DryIceLane$Lane" "count" "I", Cond.fieldLink RX9 115 "DryIceLane$Route" "count" "I"]
def wsL_isDoor_r2 : List Cond := [Cond.fieldLink RX9 32 "DryIceLane" "pad" "LDryIceLane$Pad;", Cond.fieldLink RX9 216 "DryIceLane$Pad" "length" "I", Cond.methodLink RX9 43 yX9_within, Cond.static yX9_within, Cond.code yX9_within cX9_within 3 (some .boolean), Cond.methodLink RX9 193 yX6_value, Cond.instanceMethod yX6_value, Cond.selects RX6 yX6_value yX6_value, Cond.initialized RX6, Cond.code yX6_value cX6_value 2 (some .int), Cond.fieldLink RX6 18 "DryIceLane$Settings" "values" "[I", Cond.methodLink RX9 200 yX4_outsideNow, Cond.instanceMethod yX4_outsideNow, Cond.selects RX4 yX4_outsideNow yX4_outsideNow, Cond.initialized RX4, Cond.code yX4_outsideNow cX4_outsideNow 1 (some .int), Cond.fieldLink RX4 18 "DryIceLane$Route" "latest" "I", Cond.fieldLink RX4 15 "DryIceLane$Route" "outsides" "[I", Cond.methodLink RX4 38 yX4_hasLeg, Cond.instanceMethod yX4_hasLeg, Cond.selects RX4 yX4_hasLeg yX4_hasLeg, Cond.code yX4_hasLeg cX4_hasLeg 2 (some .boolean), Cond.fieldLink RX4 28 "DryIceLane$Route" "count" "I", Cond.methodLink RX9 160 yX8_concentration]
def wsL_isDoor_r3 : List Cond := [Cond.instanceMethod yX8_concentration, Cond.selects RX8 yX8_concentration yX8_concentration, Cond.initialized RX8, Cond.code yX8_concentration cX8_concentration 1 (some .long), Cond.fieldLink RX8 28 "DryIceLane$Van" "hold" "LDryIceLane$Hold;", Cond.fieldLink RX8 12 "DryIceLane$Van" "settings" "LDryIceLane$Settings;", Cond.methodLink RX8 72 yX1_concentration, Cond.instanceMethod yX1_concentration, Cond.selects RX1 yX1_concentration yX1_concentration, Cond.initialized RX1, Cond.code yX1_concentration cX1_concentration 2 (some .long), Cond.fieldLink RX1 18 "DryIceLane$Hold" "gas" "J", Cond.constantLong RX1 35 (2), Cond.methodLink RX1 37 yX6_value, Cond.static yX9_quotient, Cond.code yX9_quotient cX9_quotient 4 (some .long), Cond.methodLink RL 44 yX9_open, Cond.instanceMethod yX9_open, Cond.selects RX9 yX9_open yX9_open, Cond.code yX9_open cX9_open 1 (some .int), Cond.methodLink RX9 124 yX4_isOnTheWay, Cond.instanceMethod yX4_isOnTheWay, Cond.selects RX4 yX4_isOnTheWay yX4_isOnTheWay, Cond.code yX4_isOnTheWay cX4_isOnTheWay 1 (some .boolean)]
def wsL_isDoor_r4 : List Cond := [Cond.fieldLink RX4 31 "DryIceLane$Route" "minutesLeft" "I", Cond.methodLink RX9 154 yX8_isSafe, Cond.instanceMethod yX8_isSafe, Cond.selects RX8 yX8_isSafe yX8_isSafe, Cond.code yX8_isSafe cX8_isSafe 1 (some .boolean), Cond.methodLink RX8 76 yX8_concentration, Cond.methodLink RX8 79 yX6_value, Cond.methodLink RX9 157 yX1_openVent, Cond.instanceMethod yX1_openVent, Cond.selects RX1 yX1_openVent yX1_openVent, Cond.code yX1_openVent cX1_openVent 1 none, Cond.fieldLink RX1 22 "DryIceLane$Hold" "ventOpen" "Z", Cond.methodLink RL 48 yX9_shut, Cond.instanceMethod yX9_shut, Cond.selects RX9 yX9_shut yX9_shut, Cond.code yX9_shut cX9_shut 1 (some .int)]
def wsL_isDoor : List Cond := .code yL_isDoor cL_isDoor 8 (some .boolean) :: ((wsL_isDoor_r1 ++ (wsL_isDoor_r2 ++ (wsL_isDoor_r3 ++ wsL_isDoor_r4))) ++ wsX90 ++ wsX80 ++ wsX10 ++ wsX40 ++ wsX20 ++ wsX30 ++ wsX60)
def wsL_isBox_r1 : List Cond := [Cond.constant RL 55 (2000000), Cond.constant RL 63 (300000), Cond.constant RL 73 (-1000000001), Cond.constant RL 74 (-1000000005), Cond.methodLink RL 8 yX9_van, Cond.instanceMethod yX9_van, Cond.selects RX9 yX9_van yX9_van, Cond.initialized RX9, Cond.code yX9_van cX9_van 2 (some .int), Cond.constant RX9 199 (-1000000002), Cond.fieldLink RX9 10 "DryIceLane" "now" "LDryIceLane$Van;", Cond.fieldLink RX9 97 "DryIceLane$Van" "settings" "LDryIceLane$Settings;", Cond.fieldLink RX9 133 "DryIceLane$Van" "time" "I", Cond.fieldLink RX9 59 "DryIceLane$Van" "hold" "LDryIceLane$Hold;", Cond.fieldLink RX9 190 "DryIceLane$Hold" "temperature" "I", Cond.fieldLink RX9 111 "DryIceLane$Van" "route" "LDryIceLane$Route;", Cond.fieldLink RX9 203 "DryIceLane$Hold" "gas" "J", Cond.fieldLink RX9 148 "DryIceLane$Hold" "ventMode" "I", Cond.fieldLink RX9 206 "DryIceLane$Hold" "ventOpen" "Z", Cond.fieldLink RX9 209 "DryIceLane$Hold" "ventMinutes" "I", Cond.fieldLink RX9 63 "DryIceLane$Hold" "doorOpen" "Z", Cond.fieldLink RX9 130 "DryIceLane$Route" "latest" "I", Cond.constant RX9 212 (-1000000006), Cond.fieldLink RX9 137 "DryIceLane$Route" "minutesLeft" "I"]
def wsL_isBox_r2 : List Cond := [Cond.fieldLink RX9 213 "DryIceLane$Hold" "alarms" "I", Cond.fieldLink RX9 49 "DryIceLane$Van" "lane" "LDryIceLane$Lane;", Cond.fieldLink RX9 53 "DryIceLane$Lane" "count" "I", Cond.fieldLink RX9 115 "DryIceLane$Route" "count" "I", Cond.fieldLink RX9 32 "DryIceLane" "pad" "LDryIceLane$Pad;", Cond.fieldLink RX9 216 "DryIceLane$Pad" "length" "I", Cond.methodLink RX9 43 yX9_within, Cond.static yX9_within, Cond.code yX9_within cX9_within 3 (some .boolean), Cond.methodLink RX9 193 yX6_value, Cond.instanceMethod yX6_value, Cond.selects RX6 yX6_value yX6_value, Cond.initialized RX6, Cond.code yX6_value cX6_value 2 (some .int), Cond.fieldLink RX6 18 "DryIceLane$Settings" "values" "[I", Cond.methodLink RX9 200 yX4_outsideNow, Cond.instanceMethod yX4_outsideNow, Cond.selects RX4 yX4_outsideNow yX4_outsideNow, Cond.initialized RX4, Cond.code yX4_outsideNow cX4_outsideNow 1 (some .int), Cond.fieldLink RX4 18 "DryIceLane$Route" "latest" "I", Cond.fieldLink RX4 15 "DryIceLane$Route" "outsides" "[I", Cond.methodLink RX4 38 yX4_hasLeg, Cond.instanceMethod yX4_hasLeg]
def wsL_isBox_r3 : List Cond := [Cond.selects RX4 yX4_hasLeg yX4_hasLeg, Cond.code yX4_hasLeg cX4_hasLeg 2 (some .boolean), Cond.fieldLink RX4 28 "DryIceLane$Route" "count" "I", Cond.methodLink RX9 160 yX8_concentration, Cond.instanceMethod yX8_concentration, Cond.selects RX8 yX8_concentration yX8_concentration, Cond.initialized RX8, Cond.code yX8_concentration cX8_concentration 1 (some .long), Cond.fieldLink RX8 28 "DryIceLane$Van" "hold" "LDryIceLane$Hold;", Cond.fieldLink RX8 12 "DryIceLane$Van" "settings" "LDryIceLane$Settings;", Cond.methodLink RX8 72 yX1_concentration, Cond.instanceMethod yX1_concentration, Cond.selects RX1 yX1_concentration yX1_concentration, Cond.initialized RX1, Cond.code yX1_concentration cX1_concentration 2 (some .long), Cond.fieldLink RX1 18 "DryIceLane$Hold" "gas" "J", Cond.constantLong RX1 35 (2), Cond.methodLink RX1 37 yX6_value, Cond.static yX9_quotient, Cond.code yX9_quotient cX9_quotient 4 (some .long), Cond.methodLink RL 51 yL_cell, Cond.static yL_cell, Cond.initialized RL, Cond.code yL_cell cL_cell 3 (some .int)]
def wsL_isBox_r4 : List Cond := [Cond.constant RL 7 (4194303), Cond.methodLink RL 18 yX9_box, Cond.instanceMethod yX9_box, Cond.selects RX9 yX9_box yX9_box, Cond.code yX9_box cX9_box 4 (some .int), Cond.fieldLink RX9 187 "DryIceLane$Box" "insulation" "I", Cond.fieldLink RX9 179 "DryIceLane$Box" "tare" "I", Cond.fieldLink RX9 81 "DryIceLane$Box" "ice" "I", Cond.fieldLink RX9 184 "DryIceLane$Box" "paper" "I", Cond.methodLink RX9 77 yX2_boxAt, Cond.instanceMethod yX2_boxAt, Cond.selects RX2 yX2_boxAt yX2_boxAt, Cond.initialized RX2, Cond.code yX2_boxAt cX2_boxAt 2 (some (.object "DryIceLane$Box")), Cond.fieldLink RX2 18 "DryIceLane$Lane" "count" "I", Cond.fieldLink RX2 11 "DryIceLane$Lane" "boxes" "[LDryIceLane$Box;", Cond.methodLink RX9 196 yX0_goingOff, Cond.instanceMethod yX0_goingOff, Cond.selects RX0 yX0_goingOff yX0_goingOff, Cond.initialized RX0, Cond.code yX0_goingOff cX0_goingOff 5 (some .int), Cond.constantLong RX0 24 (100), Cond.fieldLink RX0 9 "DryIceLane$Box" "insulation" "I", Cond.methodLink RX0 30 Lib.MathLoose.max_long.x]
def wsL_isBox_r5 : List Cond := [Cond.static Lib.MathLoose.max_long.x, Cond.initialized "java/lang/Math", Cond.code Lib.MathLoose.max_long.x Lib.MathLoose.max_long.code 4 (some .long), Cond.fieldLink RX0 18 "DryIceLane$Box" "ice" "I", Cond.methodLink RX0 35 Lib.MathLoose.min_long.x, Cond.static Lib.MathLoose.min_long.x, Cond.code Lib.MathLoose.min_long.x Lib.MathLoose.min_long.code 4 (some .long), Cond.methodLink RL 34 yX9_account, Cond.instanceMethod yX9_account, Cond.selects RX9 yX9_account yX9_account, Cond.code yX9_account cX9_account 2 (some .long), Cond.fieldLink RX9 73 "DryIceLane$Van" "putIn" "J", Cond.fieldLink RX9 90 "DryIceLane$Van" "takenOut" "J", Cond.fieldLink RX9 229 "DryIceLane$Van" "wentOff" "J", Cond.fieldLink RX9 169 "DryIceLane$Van" "sold" "J", Cond.fieldLink RX9 176 "DryIceLane$Van" "spilled" "J", Cond.constantLong RX9 232 (-2), Cond.methodLink RX9 165 yX2_iceOfAll, Cond.instanceMethod yX2_iceOfAll, Cond.selects RX2 yX2_iceOfAll yX2_iceOfAll, Cond.code yX2_iceOfAll cX2_iceOfAll 3 (some .int), Cond.fieldLink RX2 36 "DryIceLane$Box" "ice" "I", Cond.methodLink RL 56 yX9_load, Cond.instanceMethod yX9_load]
def wsL_isBox_r6 : List Cond := [Cond.selects RX9 yX9_load yX9_load, Cond.code yX9_load cX9_load 4 (some .int), Cond.constant RX9 47 (5000000), Cond.constant RX9 48 (20000000), Cond.methodLink RX9 69 yX2_append, Cond.instanceMethod yX2_append, Cond.selects RX2 yX2_append yX2_append, Cond.code yX2_append cX2_append 5 none, Cond.fieldLink RX2 30 "DryIceLane$Box" "insulation" "I", Cond.fieldLink RX2 33 "DryIceLane$Box" "tare" "I", Cond.fieldLink RX2 39 "DryIceLane$Box" "paper" "I", Cond.methodLink RL 60 yX9_unload, Cond.instanceMethod yX9_unload, Cond.selects RX9 yX9_unload yX9_unload, Cond.code yX9_unload cX9_unload 4 (some .int), Cond.methodLink RX9 86 yX2_takeOut, Cond.instanceMethod yX2_takeOut, Cond.selects RX2 yX2_takeOut yX2_takeOut, Cond.code yX2_takeOut cX2_takeOut 2 none, Cond.methodLink RX2 42 yX2_move, Cond.instanceMethod yX2_move, Cond.selects RX2 yX2_move yX2_move, Cond.code yX2_move cX2_move 5 none, Cond.methodLink RL 64 yX9_spill]
def wsL_isBox_r7 : List Cond := [Cond.instanceMethod yX9_spill, Cond.selects RX9 yX9_spill yX9_spill, Cond.code yX9_spill cX9_spill 4 (some .int), Cond.methodLink RL 67 yX9_weigh, Cond.instanceMethod yX9_weigh, Cond.selects RX9 yX9_weigh yX9_weigh, Cond.code yX9_weigh cX9_weigh 3 (some .int), Cond.methodLink RX9 124 yX4_isOnTheWay, Cond.instanceMethod yX4_isOnTheWay, Cond.selects RX4 yX4_isOnTheWay yX4_isOnTheWay, Cond.code yX4_isOnTheWay cX4_isOnTheWay 1 (some .boolean), Cond.fieldLink RX4 31 "DryIceLane$Route" "minutesLeft" "I", Cond.methodLink RL 70 yX9_check, Cond.instanceMethod yX9_check, Cond.selects RX9 yX9_check yX9_check, Cond.code yX9_check cX9_check 4 (some .int), Cond.constant RX9 182 (-1000000001), Cond.constant RX9 183 (-1000000005), Cond.methodLink RL 75 yX9_shift, Cond.instanceMethod yX9_shift, Cond.selects RX9 yX9_shift yX9_shift, Cond.code yX9_shift cX9_shift 4 (some .int), Cond.methodLink RX9 93 yX2_move]
def wsL_isBox : List Cond := .code yL_isBox cL_isBox 15 (some .boolean) :: ((wsL_isBox_r1 ++ (wsL_isBox_r2 ++ (wsL_isBox_r3 ++ (wsL_isBox_r4 ++ (wsL_isBox_r5 ++ (wsL_isBox_r6 ++ wsL_isBox_r7)))))) ++ wsX90 ++ wsX80 ++ wsX10 ++ wsX40 ++ wsX20 ++ wsX30 ++ wsX60 ++ wsX00)
def wsL_law_r1 : List Cond := [Cond.classLink RL 9 RX9, Cond.instantiable RX9 6, Cond.initialized RX9, Cond.constant RL 85 (3000000), Cond.constant RL 86 (2500000), Cond.methodLink RL 78 yX9_init, Cond.instanceMethod yX9_init, Cond.code yX9_init cX9_init 1 none, Cond.methodLink RX9 1 objectInit, Cond.instanceMethod objectInit, Cond.code objectInit ⟨#[0xb1]⟩ 1 none, Cond.classLink RX9 7 RX8, Cond.instantiable RX8 10, Cond.initialized RX8, Cond.fieldLink RX9 10 "DryIceLane" "now" "LDryIceLane$Van;", Cond.fieldLink RX9 16 "DryIceLane" "copy" "LDryIceLane$Van;", Cond.classLink RX9 19 RX7, Cond.instantiable RX7 2, Cond.initialized RX7, Cond.fieldLink RX9 22 "DryIceLane" "slot0" "LDryIceLane$Slot;", Cond.fieldLink RX9 26 "DryIceLane" "slot1" "LDryIceLane$Slot;", Cond.classLink RX9 29 RX3, Cond.instantiable RX3 2, Cond.initialized RX3]
def wsL_law_r2 : List Cond := [Cond.fieldLink RX9 32 "DryIceLane" "pad" "LDryIceLane$Pad;", Cond.classLink RX9 36 RX5, Cond.instantiable RX5 7, Cond.initialized RX5, Cond.fieldLink RX9 39 "DryIceLane" "reader" "LDryIceLane$RouteReader;", Cond.instanceMethod yX8_init, Cond.code yX8_init cX8_init 1 none, Cond.methodLink RX8 3 objectInit, Cond.classLink RX8 9 RX6, Cond.instantiable RX6 1, Cond.initialized RX6, Cond.fieldLink RX8 12 "DryIceLane$Van" "settings" "LDryIceLane$Settings;", Cond.classLink RX8 18 RX2, Cond.instantiable RX2 2, Cond.initialized RX2, Cond.fieldLink RX8 21 "DryIceLane$Van" "lane" "LDryIceLane$Lane;", Cond.classLink RX8 25 RX1, Cond.instantiable RX1 7, Cond.initialized RX1, Cond.fieldLink RX8 28 "DryIceLane$Van" "hold" "LDryIceLane$Hold;", Cond.classLink RX8 32 RX4, Cond.instantiable RX4 5, Cond.initialized RX4, Cond.fieldLink RX8 35 "DryIceLane$Van" "route" "LDryIceLane$Route;"]
def wsL_law_r3 : List Cond := [Cond.instanceMethod yX6_init, Cond.code yX6_init cX6_init 1 none, Cond.methodLink RX6 3 objectInit, Cond.methodLink RX6 13 ⟨"[I", "clone", "()Ljava/lang/Object;"⟩, Cond.sameMethod "[I" "java/lang/Object" "clone" "()Ljava/lang/Object;", Cond.native ⟨"java/lang/Object", "clone", "()Ljava/lang/Object;"⟩, Cond.instanceMethod ⟨"java/lang/Object", "clone", "()Ljava/lang/Object;"⟩, Cond.selects "[I" ⟨"[I", "clone", "()Ljava/lang/Object;"⟩ ⟨"java/lang/Object", "clone", "()Ljava/lang/Object;"⟩, Cond.classLink RX6 14 "[I", Cond.fieldLink RX6 18 "DryIceLane$Settings" "values" "[I", Cond.methodLink RX8 20 yX2_init, Cond.instanceMethod yX2_init, Cond.code yX2_init cX2_init 2 none, Cond.methodLink RX2 3 objectInit, Cond.classLink RX2 9 RX0, Cond.fieldLink RX2 11 "DryIceLane$Lane" "boxes" "[LDryIceLane$Box;", Cond.instantiable RX0 4, Cond.initialized RX0, Cond.instanceMethod yX0_init, Cond.code yX0_init cX0_init 1 none, Cond.methodLink RX0 3 objectInit, Cond.instanceMethod yX1_init, Cond.code yX1_init cX1_init 1 none, Cond.methodLink RX1 3 objectInit]
def wsL_law_r4 : List Cond := [Cond.fieldLink RX1 9 "DryIceLane$Hold" "temperature" "I", Cond.fieldLink RX1 15 "DryIceLane$Hold" "ventMode" "I", Cond.instanceMethod yX4_init, Cond.code yX4_init cX4_init 1 none, Cond.methodLink RX4 3 objectInit, Cond.arrayClass .int, Cond.fieldLink RX4 9 "DryIceLane$Route" "durations" "[I", Cond.fieldLink RX4 15 "DryIceLane$Route" "outsides" "[I", Cond.fieldLink RX4 18 "DryIceLane$Route" "latest" "I", Cond.instanceMethod yX7_init, Cond.code yX7_init cX7_init 1 none, Cond.methodLink RX7 1 objectInit, Cond.classLink RX7 7 RX8, Cond.fieldLink RX7 10 "DryIceLane$Slot" "kept" "LDryIceLane$Van;", Cond.instanceMethod yX3_init, Cond.code yX3_init cX3_init 1 none, Cond.methodLink RX3 3 objectInit, Cond.fieldLink RX3 9 "DryIceLane$Pad" "codes" "[I", Cond.instanceMethod yX5_init, Cond.code yX5_init cX5_init 1 none, Cond.methodLink RX5 3 objectInit, Cond.fieldLink RX5 11 "DryIceLane$RouteReader" "durations" "[I", Cond.fieldLink RX5 15 "DryIceLane$RouteReader" "outsides" "[I", Cond.methodLink RL 51 yL_cell]
def wsL_law_r5 : List Cond := [Cond.static yL_cell, Cond.initialized RL, Cond.code yL_cell cL_cell 3 (some .int), Cond.constant RL 7 (4194303), Cond.methodLink RL 79 yX9_set, Cond.instanceMethod yX9_set, Cond.selects RX9 yX9_set yX9_set, Cond.code yX9_set cX9_set 3 (some .int), Cond.fieldLink RX9 97 "DryIceLane$Van" "settings" "LDryIceLane$Settings;", Cond.methodLink RX9 101 yX6_allows, Cond.instanceMethod yX6_allows, Cond.selects RX6 yX6_allows yX6_allows, Cond.code yX6_allows cX6_allows 3 (some .boolean), Cond.static yX9_within, Cond.code yX9_within cX9_within 3 (some .boolean), Cond.methodLink RX9 107 yX6_change, Cond.instanceMethod yX6_change, Cond.selects RX6 yX6_change yX6_change, Cond.code yX6_change cX6_change 4 (some .int), Cond.methodLink RX6 39 yX6_value, Cond.instanceMethod yX6_value, Cond.selects RX6 yX6_value yX6_value, Cond.code yX6_value cX6_value 2 (some .int), Cond.methodLink RX6 43 yX6_allows]
def wsL_law_r6 : List Cond := [Cond.methodLink RL 82 yX9_leg, Cond.instanceMethod yX9_leg, Cond.selects RX9 yX9_leg yX9_leg, Cond.code yX9_leg cX9_leg 3 (some .int), Cond.fieldLink RX9 111 "DryIceLane$Van" "route" "LDryIceLane$Route;", Cond.fieldLink RX9 115 "DryIceLane$Route" "count" "I", Cond.methodLink RX9 43 yX9_within, Cond.methodLink RX9 118 yX4_append, Cond.instanceMethod yX4_append, Cond.selects RX4 yX4_append yX4_append, Cond.code yX4_append cX4_append 3 none, Cond.fieldLink RX4 28 "DryIceLane$Route" "count" "I", Cond.methodLink RL 44 yX9_open, Cond.instanceMethod yX9_open, Cond.selects RX9 yX9_open yX9_open, Cond.code yX9_open cX9_open 1 (some .int), Cond.fieldLink RX9 59 "DryIceLane$Van" "hold" "LDryIceLane$Hold;", Cond.fieldLink RX9 63 "DryIceLane$Hold" "doorOpen" "Z", Cond.methodLink RX9 124 yX4_isOnTheWay, Cond.instanceMethod yX4_isOnTheWay, Cond.selects RX4 yX4_isOnTheWay yX4_isOnTheWay, Cond.code yX4_isOnTheWay cX4_isOnTheWay 1 (some .boolean), Cond.fieldLink RX4 31 "DryIceLane$Route" "minutesLeft" "I", Cond.methodLink RX9 154 yX8_isSafe]
def wsL_law_r7 : List Cond := [Cond.instanceMethod yX8_isSafe, Cond.selects RX8 yX8_isSafe yX8_isSafe, Cond.code yX8_isSafe cX8_isSafe 1 (some .boolean), Cond.methodLink RX8 76 yX8_concentration, Cond.instanceMethod yX8_concentration, Cond.selects RX8 yX8_concentration yX8_concentration, Cond.code yX8_concentration cX8_concentration 1 (some .long), Cond.methodLink RX8 72 yX1_concentration, Cond.instanceMethod yX1_concentration, Cond.selects RX1 yX1_concentration yX1_concentration, Cond.code yX1_concentration cX1_concentration 2 (some .long), Cond.fieldLink RX1 18 "DryIceLane$Hold" "gas" "J", Cond.constantLong RX1 35 (2), Cond.methodLink RX1 37 yX6_value, Cond.static yX9_quotient, Cond.code yX9_quotient cX9_quotient 4 (some .long), Cond.methodLink RX8 79 yX6_value, Cond.methodLink RX9 157 yX1_openVent, Cond.instanceMethod yX1_openVent, Cond.selects RX1 yX1_openVent yX1_openVent, Cond.code yX1_openVent cX1_openVent 1 none, Cond.fieldLink RX1 22 "DryIceLane$Hold" "ventOpen" "Z", Cond.methodLink RX9 160 yX8_concentration, Cond.methodLink RL 56 yX9_load]
def wsL_law_r8 : List Cond := [Cond.instanceMethod yX9_load, Cond.selects RX9 yX9_load yX9_load, Cond.code yX9_load cX9_load 4 (some .int), Cond.constant RX9 47 (5000000), Cond.constant RX9 48 (20000000), Cond.fieldLink RX9 49 "DryIceLane$Van" "lane" "LDryIceLane$Lane;", Cond.fieldLink RX9 53 "DryIceLane$Lane" "count" "I", Cond.fieldLink RX9 73 "DryIceLane$Van" "putIn" "J", Cond.methodLink RX9 69 yX2_append, Cond.instanceMethod yX2_append, Cond.selects RX2 yX2_append yX2_append, Cond.code yX2_append cX2_append 5 none, Cond.fieldLink RX2 18 "DryIceLane$Lane" "count" "I", Cond.fieldLink RX2 30 "DryIceLane$Box" "insulation" "I", Cond.fieldLink RX2 33 "DryIceLane$Box" "tare" "I", Cond.fieldLink RX2 36 "DryIceLane$Box" "ice" "I", Cond.fieldLink RX2 39 "DryIceLane$Box" "paper" "I", Cond.methodLink RL 87 yL_isSold, Cond.static yL_isSold, Cond.code yL_isSold cL_isSold 13 (some .boolean), Cond.methodLink RL 8 yX9_van, Cond.instanceMethod yX9_van, Cond.selects RX9 yX9_van yX9_van, Cond.code yX9_van cX9_van 2 (some .int)]
def wsL_law_r9 : List Cond := [Cond.constant RX9 199 (-1000000002), Cond.fieldLink RX9 133 "DryIceLane$Van" "time" "I", Cond.fieldLink RX9 190 "DryIceLane$Hold" "temperature" "I", Cond.fieldLink RX9 203 "DryIceLane$Hold" "gas" "J", Cond.fieldLink RX9 148 "DryIceLane$Hold" "ventMode" "I", Cond.fieldLink RX9 206 "DryIceLane$Hold" "ventOpen" "Z", Cond.fieldLink RX9 209 "DryIceLane$Hold" "ventMinutes" "I", Cond.fieldLink RX9 130 "DryIceLane$Route" "latest" "I", Cond.constant RX9 212 (-1000000006), Cond.fieldLink RX9 137 "DryIceLane$Route" "minutesLeft" "I", Cond.fieldLink RX9 213 "DryIceLane$Hold" "alarms" "I", Cond.fieldLink RX9 216 "DryIceLane$Pad" "length" "I", Cond.methodLink RX9 193 yX6_value, Cond.methodLink RX9 200 yX4_outsideNow, Cond.instanceMethod yX4_outsideNow, Cond.selects RX4 yX4_outsideNow yX4_outsideNow, Cond.code yX4_outsideNow cX4_outsideNow 1 (some .int), Cond.methodLink RX4 38 yX4_hasLeg, Cond.instanceMethod yX4_hasLeg, Cond.selects RX4 yX4_hasLeg yX4_hasLeg, Cond.code yX4_hasLeg cX4_hasLeg 2 (some .boolean), Cond.methodLink RL 34 yX9_account, Cond.instanceMethod yX9_account, Cond.selects RX9 yX9_account yX9_account]
def wsL_law_r10 : List Cond := [Cond.code yX9_account cX9_account 2 (some .long), Cond.fieldLink RX9 90 "DryIceLane$Van" "takenOut" "J", Cond.fieldLink RX9 229 "DryIceLane$Van" "wentOff" "J", Cond.fieldLink RX9 169 "DryIceLane$Van" "sold" "J", Cond.fieldLink RX9 176 "DryIceLane$Van" "spilled" "J", Cond.constantLong RX9 232 (-2), Cond.methodLink RX9 165 yX2_iceOfAll, Cond.instanceMethod yX2_iceOfAll, Cond.selects RX2 yX2_iceOfAll yX2_iceOfAll, Cond.code yX2_iceOfAll cX2_iceOfAll 3 (some .int), Cond.methodLink RL 18 yX9_box, Cond.instanceMethod yX9_box, Cond.selects RX9 yX9_box yX9_box, Cond.code yX9_box cX9_box 4 (some .int), Cond.fieldLink RX9 187 "DryIceLane$Box" "insulation" "I", Cond.fieldLink RX9 179 "DryIceLane$Box" "tare" "I", Cond.fieldLink RX9 81 "DryIceLane$Box" "ice" "I", Cond.fieldLink RX9 184 "DryIceLane$Box" "paper" "I", Cond.methodLink RX9 77 yX2_boxAt, Cond.instanceMethod yX2_boxAt, Cond.selects RX2 yX2_boxAt yX2_boxAt, Cond.code yX2_boxAt cX2_boxAt 2 (some (.object "DryIceLane$Box")), Cond.methodLink RX9 196 yX0_goingOff, Cond.instanceMethod yX0_goingOff]
def wsL_law_r11 : List Cond := [Cond.selects RX0 yX0_goingOff yX0_goingOff, Cond.code yX0_goingOff cX0_goingOff 5 (some .int), Cond.constantLong RX0 24 (100), Cond.fieldLink RX0 9 "DryIceLane$Box" "insulation" "I", Cond.methodLink RX0 30 Lib.MathLoose.max_long.x, Cond.static Lib.MathLoose.max_long.x, Cond.initialized "java/lang/Math", Cond.code Lib.MathLoose.max_long.x Lib.MathLoose.max_long.code 4 (some .long), Cond.fieldLink RX0 18 "DryIceLane$Box" "ice" "I", Cond.methodLink RX0 35 Lib.MathLoose.min_long.x, Cond.static Lib.MathLoose.min_long.x, Cond.code Lib.MathLoose.min_long.x Lib.MathLoose.min_long.code 4 (some .long), Cond.methodLink RL 41 yX9_sell, Cond.instanceMethod yX9_sell, Cond.selects RX9 yX9_sell yX9_sell, Cond.code yX9_sell cX9_sell 2 (some .int), Cond.constant RX9 164 (50000000), Cond.methodLink RX9 172 yX2_takeFromFront, Cond.instanceMethod yX2_takeFromFront, Cond.selects RX2 yX2_takeFromFront yX2_takeFromFront, Cond.code yX2_takeFromFront cX2_takeFromFront 6 (some .int), Cond.methodLink RX2 46 Lib.Math.min.name, Cond.static Lib.Math.min.name, Cond.code Lib.Math.min.name Lib.Math.min.code 2 (some .int)]
def wsL_law_r12 : List Cond := [Cond.methodLink RX2 52 yX0_take, Cond.instanceMethod yX0_take, Cond.selects RX0 yX0_take yX0_take, Cond.code yX0_take cX0_take 2 none, Cond.fieldLink RX0 21 "DryIceLane$Box" "paper" "I", Cond.methodLink RX0 38 Lib.Math.max.name, Cond.static Lib.Math.max.name, Cond.code Lib.Math.max.name Lib.Math.max.code 2 (some .int), Cond.methodLink RL 91 yL_isDoor, Cond.static yL_isDoor, Cond.code yL_isDoor cL_isDoor 8 (some .boolean), Cond.methodLink RL 48 yX9_shut, Cond.instanceMethod yX9_shut, Cond.selects RX9 yX9_shut yX9_shut, Cond.code yX9_shut cX9_shut 1 (some .int), Cond.methodLink RL 95 yL_isBox, Cond.static yL_isBox, Cond.code yL_isBox cL_isBox 15 (some .boolean), Cond.constant RL 55 (2000000), Cond.constant RL 63 (300000), Cond.constant RL 73 (-1000000001), Cond.constant RL 74 (-1000000005), Cond.methodLink RL 60 yX9_unload, Cond.instanceMethod yX9_unload]
def wsL_law_r13 : List Cond := [Cond.selects RX9 yX9_unload yX9_unload, Cond.code yX9_unload cX9_unload 4 (some .int), Cond.methodLink RX9 86 yX2_takeOut, Cond.instanceMethod yX2_takeOut, Cond.selects RX2 yX2_takeOut yX2_takeOut, Cond.code yX2_takeOut cX2_takeOut 2 none, Cond.methodLink RX2 42 yX2_move, Cond.instanceMethod yX2_move, Cond.selects RX2 yX2_move yX2_move, Cond.code yX2_move cX2_move 5 none, Cond.methodLink RL 64 yX9_spill, Cond.instanceMethod yX9_spill, Cond.selects RX9 yX9_spill yX9_spill, Cond.code yX9_spill cX9_spill 4 (some .int), Cond.methodLink RL 67 yX9_weigh, Cond.instanceMethod yX9_weigh, Cond.selects RX9 yX9_weigh yX9_weigh, Cond.code yX9_weigh cX9_weigh 3 (some .int), Cond.methodLink RL 70 yX9_check, Cond.instanceMethod yX9_check, Cond.selects RX9 yX9_check yX9_check, Cond.code yX9_check cX9_check 4 (some .int), Cond.constant RX9 182 (-1000000001), Cond.constant RX9 183 (-1000000005)]
def wsL_law_r14 : List Cond := [Cond.methodLink RL 75 yX9_shift, Cond.instanceMethod yX9_shift, Cond.selects RX9 yX9_shift yX9_shift, Cond.code yX9_shift cX9_shift 4 (some .int), Cond.methodLink RX9 93 yX2_move, Cond.methodLink RL 99 yX9_depart, Cond.instanceMethod yX9_depart, Cond.selects RX9 yX9_depart yX9_depart, Cond.code yX9_depart cX9_depart 1 (some .int), Cond.methodLink RX9 120 yX4_hasNextLeg, Cond.instanceMethod yX4_hasNextLeg, Cond.selects RX4 yX4_hasNextLeg yX4_hasNextLeg, Cond.code yX4_hasNextLeg cX4_hasNextLeg 1 (some .boolean), Cond.methodLink RX9 127 yX4_beginNextLeg, Cond.instanceMethod yX4_beginNextLeg, Cond.selects RX4 yX4_beginNextLeg yX4_beginNextLeg, Cond.code yX4_beginNextLeg cX4_beginNextLeg 1 none, Cond.methodLink RX4 42 yX4_hasNextLeg, Cond.methodLink RL 102 yX9_way, Cond.instanceMethod yX9_way, Cond.selects RX9 yX9_way yX9_way, Cond.code yX9_way cX9_way 3 (some .int), Cond.methodLink RX9 219 yX4_hasLeg, Cond.methodLink RX9 223 yX4_durationOf]
def wsL_law_r15 : List Cond := [Cond.instanceMethod yX4_durationOf, Cond.selects RX4 yX4_durationOf yX4_durationOf, Cond.code yX4_durationOf cX4_durationOf 2 (some .int), Cond.methodLink RX9 226 yX4_outsideOf, Cond.instanceMethod yX4_outsideOf, Cond.selects RX4 yX4_outsideOf yX4_outsideOf, Cond.code yX4_outsideOf cX4_outsideOf 2 (some .int), Cond.methodLink RL 105 yX9_vent, Cond.instanceMethod yX9_vent, Cond.selects RX9 yX9_vent yX9_vent, Cond.code yX9_vent cX9_vent 3 (some .int), Cond.methodLink RX9 151 yX1_setVentMode, Cond.instanceMethod yX1_setVentMode, Cond.selects RX1 yX1_setVentMode yX1_setVentMode, Cond.code yX1_setVentMode cX1_setVentMode 2 none, Cond.methodLink RX1 47 yX1_keepToMode, Cond.instanceMethod yX1_keepToMode, Cond.selects RX1 yX1_keepToMode yX1_keepToMode, Cond.code yX1_keepToMode cX1_keepToMode 1 none, Cond.methodLink RX1 50 yX1_openVent, Cond.methodLink RX1 53 yX1_shutVent, Cond.instanceMethod yX1_shutVent, Cond.selects RX1 yX1_shutVent yX1_shutVent, Cond.code yX1_shutVent cX1_shutVent 1 none]
def wsL_law_r16 : List Cond := [Cond.fieldLink RX1 26 "DryIceLane$Hold" "ventMinutes" "I", Cond.methodLink RL 108 yL_isMinute, Cond.static yL_isMinute, Cond.code yL_isMinute cL_isMinute 27 (some .boolean), Cond.constantLong RL 28 (-7900), Cond.constantLong RL 30 (1000), Cond.constantLong RL 32 (2), Cond.methodLink RL 22 yL_goesOff, Cond.static yL_goesOff, Cond.code yL_goesOff cL_goesOff 4 (some .long), Cond.constantLong RL 14 (8000), Cond.constantLong RL 16 (100), Cond.methodLink RL 38 yX9_pass, Cond.instanceMethod yX9_pass, Cond.selects RX9 yX9_pass yX9_pass, Cond.code yX9_pass cX9_pass 3 (some .int), Cond.constant RX9 136 (100000), Cond.methodLink RX9 140 Lib.Math.min.name, Cond.methodLink RX9 145 yX8_letPass, Cond.instanceMethod yX8_letPass, Cond.selects RX8 yX8_letPass yX8_letPass, Cond.code yX8_letPass cX8_letPass 3 none, Cond.methodLink RX8 83 yX8_letMinutePass, Cond.instanceMethod yX8_letMinutePass]
def wsL_law_r17 : List Cond := [Cond.selects RX8 yX8_letMinutePass yX8_letMinutePass, Cond.code yX8_letMinutePass cX8_letMinutePass 2 none, Cond.fieldLink RX8 86 "DryIceLane$Hold" "temperature" "I", Cond.fieldLink RX8 63 "DryIceLane$Van" "wentOff" "J", Cond.fieldLink RX8 52 "DryIceLane$Van" "time" "I", Cond.methodLink RX8 89 yX2_letGoOff, Cond.instanceMethod yX2_letGoOff, Cond.selects RX2 yX2_letGoOff yX2_letGoOff, Cond.code yX2_letGoOff cX2_letGoOff 6 (some .int), Cond.methodLink RX2 56 yX0_goingOff, Cond.methodLink RX8 93 yX4_outsideNow, Cond.methodLink RX8 97 yX1_letMinutePass, Cond.instanceMethod yX1_letMinutePass, Cond.selects RX1 yX1_letMinutePass yX1_letMinutePass, Cond.code yX1_letMinutePass cX1_letMinutePass 6 none, Cond.fieldLink RX1 29 "DryIceLane$Hold" "doorOpen" "Z", Cond.fieldLink RX1 32 "DryIceLane$Hold" "alarms" "I", Cond.methodLink RX1 56 yX1_changeTemperature, Cond.instanceMethod yX1_changeTemperature, Cond.selects RX1 yX1_changeTemperature yX1_changeTemperature, Cond.code yX1_changeTemperature cX1_changeTemperature 6 none, Cond.methodLink RX1 72 Lib.Math.min.name, Cond.methodLink RX1 78 Lib.Math.max.name, Cond.methodLink RX1 60 yX1_loseGas]
def wsL_law_r18 : List Cond := [Cond.instanceMethod yX1_loseGas, Cond.selects RX1 yX1_loseGas yX1_loseGas, Cond.code yX1_loseGas cX1_loseGas 2 none, Cond.constantLong RX1 81 (1000), Cond.methodLink RX1 64 yX1_concentration, Cond.methodLink RX1 68 yX1_moveVent, Cond.instanceMethod yX1_moveVent, Cond.selects RX1 yX1_moveVent yX1_moveVent, Cond.code yX1_moveVent cX1_moveVent 4 none, Cond.methodLink RX8 100 yX4_letMinutePass, Cond.instanceMethod yX4_letMinutePass, Cond.selects RX4 yX4_letMinutePass yX4_letMinutePass, Cond.code yX4_letMinutePass cX4_letMinutePass 1 none, Cond.methodLink RX4 46 yX4_isOnTheWay, Cond.methodLink RL 111 yL_addsUp, Cond.static yL_addsUp, Cond.code yL_addsUp cL_addsUp 4 (some .boolean)]
def wsL_law : List Cond := (wsL_law_r1 ++ (wsL_law_r2 ++ (wsL_law_r3 ++ (wsL_law_r4 ++ (wsL_law_r5 ++ (wsL_law_r6 ++ (wsL_law_r7 ++ (wsL_law_r8 ++ (wsL_law_r9 ++ (wsL_law_r10 ++ (wsL_law_r11 ++ (wsL_law_r12 ++ (wsL_law_r13 ++ (wsL_law_r14 ++ (wsL_law_r15 ++ (wsL_law_r16 ++ (wsL_law_r17 ++ wsL_law_r18))))))))))))))))) ++ wsX90 ++ wsX80 ++ wsX70 ++ wsX30 ++ wsX50 ++ wsX60 ++ wsX20 ++ wsX10 ++ wsX40 ++ wsX00 ++ ([] : List Cond)
end
section
set_option maxRecDepth 20000 in
theorem in_wsL_law_r1 : ∀ w ∈ wsL_law_r1, w ∈ lw_tbl := fun w h => (goodIn_p wsL_law_r1 [21, 24] (by decide +kernel) (by decide +kernel) w h).1
set_option maxRecDepth 20000 in
theorem in_wsL_law_r2 : ∀ w ∈ wsL_law_r2, w ∈ lw_tbl := fun w h => (goodIn_p wsL_law_r2 [29] (by decide +kernel) (by decide +kernel) w h).1
set_option maxRecDepth 20000 in
theorem in_wsL_law_r3 : ∀ w ∈ wsL_law_r3, w ∈ lw_tbl := fun w h => (goodIn_p wsL_law_r3 [35, 55, 62, 96] (by decide +kernel) (by decide +kernel) w h).1
set_option maxRecDepth 20000 in
theorem in_wsL_law_r4 : ∀ w ∈ wsL_law_r4, w ∈ lw_tbl := fun w h => (goodIn_p wsL_law_r4 [132, 194, 208, 221] (by decide +kernel) (by decide +kernel) w h).1
set_option maxRecDepth 20000 in
theorem in_wsL_law_r5 : ∀ w ∈ wsL_law_r5, w ∈ lw_tbl := fun w h => (goodIn_p wsL_law_r5 [395, 275, 279, 265, 288, 292] (by decide +kernel) (by decide +kernel) w h).1
set_option maxRecDepth 20000 in
theorem in_wsL_law_r6 : ∀ w ∈ wsL_law_r6, w ∈ lw_tbl := fun w h => (goodIn_p wsL_law_r6 [297, 301, 347, 309] (by decide +kernel) (by decide +kernel) w h).1
set_option maxRecDepth 20000 in
theorem in_wsL_law_r7 : ∀ w ∈ wsL_law_r7, w ∈ lw_tbl := fun w h => (goodIn_p wsL_law_r7 [351, 355, 359, 364, 339] (by decide +kernel) (by decide +kernel) w h).1
set_option maxRecDepth 20000 in
theorem in_wsL_law_r8 : ∀ w ∈ wsL_law_r8, w ∈ lw_tbl := fun w h => (goodIn_p wsL_law_r8 [262, 271, 497, 371] (by decide +kernel) (by decide +kernel) w h).1
set_option maxRecDepth 20000 in
theorem in_wsL_law_r9 : ∀ w ∈ wsL_law_r9, w ∈ lw_tbl := fun w h => (goodIn_p wsL_law_r9 [377, 317] (by decide +kernel) (by decide +kernel) w h).1
set_option maxRecDepth 20000 in
theorem in_wsL_law_r10 : ∀ w ∈ wsL_law_r10, w ∈ lw_tbl := fun w h => (goodIn_p wsL_law_r10 [432, 436, 408, 412] (by decide +kernel) (by decide +kernel) w h).1
set_option maxRecDepth 20000 in
theorem in_wsL_law_r11 : ∀ w ∈ wsL_law_r11, w ∈ lw_tbl := fun w h => (goodIn_p wsL_law_r11 [417, 422, 425, 501, 506, 445] (by decide +kernel) (by decide +kernel) w h).1
set_option maxRecDepth 20000 in
theorem in_wsL_law_r12 : ∀ w ∈ wsL_law_r12, w ∈ lw_tbl := fun w h => (goodIn_p wsL_law_r12 [462, 465, 510, 514, 517] (by first | rfl | decide +kernel) (by decide +kernel) w h).1
set_option maxRecDepth 20000 in
theorem in_wsL_law_r13 : ∀ w ∈ wsL_law_r13, w ∈ lw_tbl := fun w h => (goodIn_p wsL_law_r13 [522, 526, 530, 535, 539, 543] (by decide +kernel) (by decide +kernel) w h).1
set_option maxRecDepth 20000 in
theorem in_wsL_law_r14 : ∀ w ∈ wsL_law_r14, w ∈ lw_tbl := fun w h => (goodIn_p wsL_law_r14 [550, 305, 313, 322, 382] (by decide +kernel) (by decide +kernel) w h).1
set_option maxRecDepth 20000 in
theorem in_wsL_law_r15 : ∀ w ∈ wsL_law_r15, w ∈ lw_tbl := fun w h => (goodIn_p wsL_law_r15 [388, 392, 327, 331, 335, 343] (by decide +kernel) (by decide +kernel) w h).1
set_option maxRecDepth 20000 in
theorem in_wsL_law_r16 : ∀ w ∈ wsL_law_r16, w ∈ lw_tbl := fun w h => (goodIn_p wsL_law_r16 [399, 402, 441, 449] (by first | rfl | decide +kernel) (by decide +kernel) w h).1
set_option maxRecDepth 20000 in
theorem in_wsL_law_r17 : ∀ w ∈ wsL_law_r17, w ∈ lw_tbl := fun w h => (goodIn_p wsL_law_r17 [453, 457, 470, 474] (by decide +kernel) (by decide +kernel) w h).1
set_option maxRecDepth 20000 in
theorem in_wsL_law_r18 : ∀ w ∈ wsL_law_r18, w ∈ lw_tbl := fun w h => (goodIn_p wsL_law_r18 [480, 486, 490, 494] (by decide +kernel) (by decide +kernel) w h).1
set_option maxRecDepth 20000 in
theorem in_wsX90 : ∀ w ∈ wsX90, w ∈ lw_tbl := fun w h => (goodIn_p wsX90 [] (by decide +kernel) (by decide +kernel) w h).1
set_option maxRecDepth 20000 in
theorem in_wsX80 : ∀ w ∈ wsX80, w ∈ lw_tbl := fun w h => (goodIn_p wsX80 [] (by decide +kernel) (by decide +kernel) w h).1
set_option maxRecDepth 20000 in
theorem in_wsX70 : ∀ w ∈ wsX70, w ∈ lw_tbl := fun w h => (goodIn_p wsX70 [] (by decide +kernel) (by decide +kernel) w h).1
set_option maxRecDepth 20000 in
theorem in_wsX30 : ∀ w ∈ wsX30, w ∈ lw_tbl := fun w h => (goodIn_p wsX30 [] (by decide +kernel) (by decide +kernel) w h).1
set_option maxRecDepth 20000 in
theorem in_wsX50 : ∀ w ∈ wsX50, w ∈ lw_tbl := fun w h => (goodIn_p wsX50 [] (by decide +kernel) (by decide +kernel) w h).1
set_option maxRecDepth 20000 in
theorem in_wsX60 : ∀ w ∈ wsX60, w ∈ lw_tbl := fun w h => (goodIn_p wsX60 [] (by decide +kernel) (by decide +kernel) w h).1
set_option maxRecDepth 20000 in
theorem in_wsX20 : ∀ w ∈ wsX20, w ∈ lw_tbl := fun w h => (goodIn_p wsX20 [] (by decide +kernel) (by decide +kernel) w h).1
set_option maxRecDepth 20000 in
theorem in_wsX10 : ∀ w ∈ wsX10, w ∈ lw_tbl := fun w h => (goodIn_p wsX10 [] (by decide +kernel) (by decide +kernel) w h).1
set_option maxRecDepth 20000 in
theorem in_wsX40 : ∀ w ∈ wsX40, w ∈ lw_tbl := fun w h => (goodIn_p wsX40 [] (by decide +kernel) (by decide +kernel) w h).1
set_option maxRecDepth 20000 in
theorem in_wsX00 : ∀ w ∈ wsX00, w ∈ lw_tbl := fun w h => (goodIn_p wsX00 [] (by decide +kernel) (by decide +kernel) w h).1
theorem wsL_law_in : ∀ w ∈ wsL_law, w ∈ lw_tbl := (List.forall_mem_append.mpr ⟨(List.forall_mem_append.mpr ⟨(List.forall_mem_append.mpr ⟨(List.forall_mem_append.mpr ⟨(List.forall_mem_append.mpr ⟨(List.forall_mem_append.mpr ⟨(List.forall_mem_append.mpr ⟨(List.forall_mem_append.mpr ⟨(List.forall_mem_append.mpr ⟨(List.forall_mem_append.mpr ⟨(List.forall_mem_append.mpr ⟨(List.forall_mem_append.mpr ⟨in_wsL_law_r1, (List.forall_mem_append.mpr ⟨in_wsL_law_r2, (List.forall_mem_append.mpr ⟨in_wsL_law_r3, (List.forall_mem_append.mpr ⟨in_wsL_law_r4, (List.forall_mem_append.mpr ⟨in_wsL_law_r5, (List.forall_mem_append.mpr ⟨in_wsL_law_r6, (List.forall_mem_append.mpr ⟨in_wsL_law_r7, (List.forall_mem_append.mpr ⟨in_wsL_law_r8, (List.forall_mem_append.mpr ⟨in_wsL_law_r9, (List.forall_mem_append.mpr ⟨in_wsL_law_r10, (List.forall_mem_append.mpr ⟨in_wsL_law_r11, (List.forall_mem_append.mpr ⟨in_wsL_law_r12, (List.forall_mem_append.mpr ⟨in_wsL_law_r13, (List.forall_mem_append.mpr ⟨in_wsL_law_r14, (List.forall_mem_append.mpr ⟨in_wsL_law_r15, (List.forall_mem_append.mpr ⟨in_wsL_law_r16, (List.forall_mem_append.mpr ⟨in_wsL_law_r17, in_wsL_law_r18⟩)⟩)⟩)⟩)⟩)⟩)⟩)⟩)⟩)⟩)⟩)⟩)⟩)⟩)⟩)⟩)⟩), in_wsX90⟩), in_wsX80⟩), in_wsX70⟩), in_wsX30⟩), in_wsX50⟩), in_wsX60⟩), in_wsX20⟩), in_wsX10⟩), in_wsX40⟩), in_wsX00⟩), fun _ h => absurd h List.not_mem_nil⟩)
theorem inlX0 : ∀ w ∈ wsX00, w ∈ wsL_law := fun _ h => List.mem_append_left _ (List.mem_append_right _ h)
theorem inX0 : ∀ w ∈ wsX00, w ∈ lw_tbl := fun w h => wsL_law_in w (inlX0 w h)
theorem inlX1 : ∀ w ∈ wsX10, w ∈ wsL_law := fun _ h => List.mem_append_left _ (List.mem_append_left _ (List.mem_append_left _ (List.mem_append_right _ h)))
theorem inX1 : ∀ w ∈ wsX10, w ∈ lw_tbl := fun w h => wsL_law_in w (inlX1 w h)
theorem inlX2 : ∀ w ∈ wsX20, w ∈ wsL_law := fun _ h => List.mem_append_left _ (List.mem_append_left _ (List.mem_append_left _ (List.mem_append_left _ (List.mem_append_right _ h))))
theorem inX2 : ∀ w ∈ wsX20, w ∈ lw_tbl := fun w h => wsL_law_in w (inlX2 w h)
theorem inlX3 : ∀ w ∈ wsX30, w ∈ wsL_law := fun _ h => List.mem_append_left _ (List.mem_append_left _ (List.mem_append_left _ (List.mem_append_left _ (List.mem_append_left _ (List.mem_append_left _ (List.mem_append_left _ (List.mem_append_right _ h)))))))
theorem inX3 : ∀ w ∈ wsX30, w ∈ lw_tbl := fun w h => wsL_law_in w (inlX3 w h)
theorem inlX4 : ∀ w ∈ wsX40, w ∈ wsL_law := fun _ h => List.mem_append_left _ (List.mem_append_left _ (List.mem_append_right _ h))
theorem inX4 : ∀ w ∈ wsX40, w ∈ lw_tbl := fun w h => wsL_law_in w (inlX4 w h)
theorem inlX5 : ∀ w ∈ wsX50, w ∈ wsL_law := fun _ h => List.mem_append_left _ (List.mem_append_left _ (List.mem_append_left _ (List.mem_append_left _ (List.mem_append_left _ (List.mem_append_left _ (List.mem_append_right _ h))))))
theorem inX5 : ∀ w ∈ wsX50, w ∈ lw_tbl := fun w h => wsL_law_in w (inlX5 w h)
theorem inlX6 : ∀ w ∈ wsX60, w ∈ wsL_law := fun _ h => List.mem_append_left _ (List.mem_append_left _ (List.mem_append_left _ (List.mem_append_left _ (List.mem_append_left _ (List.mem_append_right _ h)))))
theorem inX6 : ∀ w ∈ wsX60, w ∈ lw_tbl := fun w h => wsL_law_in w (inlX6 w h)
theorem inlX7 : ∀ w ∈ wsX70, w ∈ wsL_law := fun _ h => List.mem_append_left _ (List.mem_append_left _ (List.mem_append_left _ (List.mem_append_left _ (List.mem_append_left _ (List.mem_append_left _ (List.mem_append_left _ (List.mem_append_left _ (List.mem_append_right _ h))))))))
theorem inX7 : ∀ w ∈ wsX70, w ∈ lw_tbl := fun w h => wsL_law_in w (inlX7 w h)
theorem inlX8 : ∀ w ∈ wsX80, w ∈ wsL_law := fun _ h => List.mem_append_left _ (List.mem_append_left _ (List.mem_append_left _ (List.mem_append_left _ (List.mem_append_left _ (List.mem_append_left _ (List.mem_append_left _ (List.mem_append_left _ (List.mem_append_left _ (List.mem_append_right _ h)))))))))
theorem inX8 : ∀ w ∈ wsX80, w ∈ lw_tbl := fun w h => wsL_law_in w (inlX8 w h)
theorem inlX9 : ∀ w ∈ wsX90, w ∈ wsL_law := fun _ h => List.mem_append_left _ (List.mem_append_left _ (List.mem_append_left _ (List.mem_append_left _ (List.mem_append_left _ (List.mem_append_left _ (List.mem_append_left _ (List.mem_append_left _ (List.mem_append_left _ (List.mem_append_left _ (List.mem_append_right _ h))))))))))
theorem inX9 : ∀ w ∈ wsX90, w ∈ lw_tbl := fun w h => wsL_law_in w (inlX9 w h)
theorem inX10 : ∀ w ∈ wsX100, w ∈ lw_tbl := by decide +kernel
theorem inJx8e188 : ∀ w ∈ wsJx8e1880, w ∈ lw_tbl := by decide +kernel
theorem inJ9 : ∀ w ∈ wsJ90, w ∈ lw_tbl := by decide +kernel
end
section
theorem dX0_init_0 : decode cX0_init 0 = .ok (.aload_n 0, 1) := by decide +kernel
theorem dX0_init_1 : decode cX0_init 1 = .ok (.invokespecial 3, 3) := by decide +kernel
theorem dX0_init_4 : decode cX0_init 4 = .ok (.return_, 1) := by decide +kernel
set_option maxRecDepth 20000 in
theorem ggX0_goingOff_X9_quotient : GoodIn wsX0_goingOff wsX9_quotient := goodIn_r _ [13] (by decide +kernel) (by decide +kernel)
set_option maxRecDepth 20000 in
theorem gX0_goingOff_X9_quotient_n26 : GoodIn wsX0_goingOff (wsX9_quotient) := ggX0_goingOff_X9_quotient
theorem dX0_goingOff_0 : decode cX0_goingOff 0 = .ok (.iload_n 1, 1) := by decide +kernel
theorem dX0_goingOff_1 : decode cX0_goingOff 1 = .ok (.sipush (-8000), 3) := by decide +kernel
theorem dX0_goingOff_4 : decode cX0_goingOff 4 = .ok (.isub, 1) := by decide +kernel
theorem dX0_goingOff_5 : decode cX0_goingOff 5 = .ok (.i2l, 1) := by decide +kernel
theorem dX0_goingOff_6 : decode cX0_goingOff 6 = .ok (.iload_n 2, 1) := by decide +kernel
theorem dX0_goingOff_7 : decode cX0_goingOff 7 = .ok (.i2l, 1) := by decide +kernel
theorem dX0_goingOff_8 : decode cX0_goingOff 8 = .ok (.lmul, 1) := by decide +kernel
theorem dX0_goingOff_9 : decode cX0_goingOff 9 = .ok (.ldc2_w 24, 3) := by decide +kernel
theorem dX0_goingOff_12 : decode cX0_goingOff 12 = .ok (.aload_n 0, 1) := by decide +kernel
theorem dX0_goingOff_13 : decode cX0_goingOff 13 = .ok (.getfield 9, 3) := by decide +kernel
theorem dX0_goingOff_16 : decode cX0_goingOff 16 = .ok (.i2l, 1) := by decide +kernel
theorem dX0_goingOff_17 : decode cX0_goingOff 17 = .ok (.lmul, 1) := by decide +kernel
theorem dX0_goingOff_18 : decode cX0_goingOff 18 = .ok (.invokestatic 26, 3) := by decide +kernel
theorem dX0_goingOff_21 : decode cX0_goingOff 21 = .ok (.lstore_n 3, 1) := by decide +kernel
theorem dX0_goingOff_22 : decode cX0_goingOff 22 = .ok (.lload_n 3, 1) := by decide +kernel
theorem dX0_goingOff_23 : decode cX0_goingOff 23 = .ok (.lconst 0, 1) := by decide +kernel
theorem dX0_goingOff_24 : decode cX0_goingOff 24 = .ok (.invokestatic 30, 3) := by decide +kernel
theorem dX0_goingOff_27 : decode cX0_goingOff 27 = .ok (.aload_n 0, 1) := by decide +kernel
theorem dX0_goingOff_28 : decode cX0_goingOff 28 = .ok (.getfield 18, 3) := by decide +kernel
theorem dX0_goingOff_31 : decode cX0_goingOff 31 = .ok (.i2l, 1) := by decide +kernel
theorem dX0_goingOff_32 : decode cX0_goingOff 32 = .ok (.invokestatic 35, 3) := by decide +kernel
theorem dX0_goingOff_35 : decode cX0_goingOff 35 = .ok (.l2i, 1) := by decide +kernel
theorem dX0_goingOff_36 : decode cX0_goingOff 36 = .ok (.ireturn, 1) := by decide +kernel
theorem dX0_take_0 : decode cX0_take 0 = .ok (.aload_n 0, 1) := by decide +kernel
theorem dX0_take_1 : decode cX0_take 1 = .ok (.dup, 1) := by decide +kernel
theorem dX0_take_2 : decode cX0_take 2 = .ok (.getfield 18, 3) := by decide +kernel
theorem dX0_take_5 : decode cX0_take 5 = .ok (.iload_n 1, 1) := by decide +kernel
theorem dX0_take_6 : decode cX0_take 6 = .ok (.isub, 1) := by decide +kernel
theorem dX0_take_7 : decode cX0_take 7 = .ok (.putfield 18, 3) := by decide +kernel
theorem dX0_take_10 : decode cX0_take 10 = .ok (.aload_n 0, 1) := by decide +kernel
theorem dX0_take_11 : decode cX0_take 11 = .ok (.aload_n 0, 1) := by decide +kernel
theorem dX0_take_12 : decode cX0_take 12 = .ok (.getfield 21, 3) := by decide +kernel
theorem dX0_take_15 : decode cX0_take 15 = .ok (.iload_n 1, 1) := by decide +kernel
theorem dX0_take_16 : decode cX0_take 16 = .ok (.isub, 1) := by decide +kernel
theorem dX0_take_17 : decode cX0_take 17 = .ok (.iconst 0, 1) := by decide +kernel
theorem dX0_take_18 : decode cX0_take 18 = .ok (.invokestatic 38, 3) := by decide +kernel
theorem dX0_take_21 : decode cX0_take 21 = .ok (.putfield 21, 3) := by decide +kernel
theorem dX0_take_24 : decode cX0_take 24 = .ok (.return_, 1) := by decide +kernel
theorem dX1_init_0 : decode cX1_init 0 = .ok (.aload_n 0, 1) := by decide +kernel
theorem dX1_init_1 : decode cX1_init 1 = .ok (.invokespecial 3, 3) := by decide +kernel
theorem dX1_init_4 : decode cX1_init 4 = .ok (.aload_n 0, 1) := by decide +kernel
theorem dX1_init_5 : decode cX1_init 5 = .ok (.sipush 2000, 3) := by decide +kernel
theorem dX1_init_8 : decode cX1_init 8 = .ok (.putfield 9, 3) := by decide +kernel
theorem dX1_init_11 : decode cX1_init 11 = .ok (.aload_n 0, 1) := by decide +kernel
theorem dX1_init_12 : decode cX1_init 12 = .ok (.iconst 0, 1) := by decide +kernel
theorem dX1_init_13 : decode cX1_init 13 = .ok (.putfield 15, 3) := by decide +kernel
theorem dX1_init_16 : decode cX1_init 16 = .ok (.return_, 1) := by decide +kernel
set_option maxRecDepth 20000 in
theorem ggX1_concentration_X6_value : GoodIn wsX1_concentration wsX6_value := goodIn_r _ [7, 8, 9, 10, 11, 21] (by decide +kernel) (by decide +kernel)
set_option maxRecDepth 20000 in
theorem gX1_concentration_X6_value : GoodIn wsX1_concentration (wsV RX1 37 RX6 yX6_value wsX6_value) := goodIn_app (goodIn_of _ (by decide +kernel)) ggX1_concentration_X6_value
set_option maxRecDepth 20000 in
theorem ggX1_concentration_X9_quotient : GoodIn wsX1_concentration wsX9_quotient := goodIn_r _ [13] (by decide +kernel) (by decide +kernel)
set_option maxRecDepth 20000 in
theorem gX1_concentration_X9_quotient_n43 : GoodIn wsX1_concentration (wsX9_quotient) := ggX1_concentration_X9_quotient
theorem dX1_concentration_0 : decode cX1_concentration 0 = .ok (.aload_n 0, 1) := by decide +kernel
theorem dX1_concentration_1 : decode cX1_concentration 1 = .ok (.getfield 18, 3) := by decide +kernel
theorem dX1_concentration_4 : decode cX1_concentration 4 = .ok (.ldc2_w 35, 3) := by decide +kernel
theorem dX1_concentration_7 : decode cX1_concentration 7 = .ok (.aload_n 1, 1) := by decide +kernel
theorem dX1_concentration_8 : decode cX1_concentration 8 = .ok (.iconst 1, 1) := by decide +kernel
theorem dX1_concentration_9 : decode cX1_concentration 9 = .ok (.invokevirtual 37, 3) := by decide +kernel
theorem dX1_concentration_12 : decode cX1_concentration 12 = .ok (.i2l, 1) := by decide +kernel
theorem dX1_concentration_13 : decode cX1_concentration 13 = .ok (.lmul, 1) := by decide +kernel
theorem dX1_concentration_14 : decode cX1_concentration 14 = .ok (.invokestatic 43, 3) := by decide +kernel
theorem dX1_concentration_17 : decode cX1_concentration 17 = .ok (.lreturn, 1) := by decide +kernel
set_option maxRecDepth 20000 in
theorem ggX1_setVentMode_X1_keepToMode : GoodIn wsX1_setVentMode wsX1_keepToMode := goodIn_r _ [6, 1, 7, 8, 9, 5, 10, 11, 12, 13, 14, 15, 16, 17, 18, 19, 20, 21, 22, 23] (by decide +kernel) (by decide +kernel)
set_option maxRecDepth 20000 in
theorem gX1_setVentMode_X1_keepToMode : GoodIn wsX1_setVentMode (wsV RX1 47 RX1 yX1_keepToMode wsX1_keepToMode) := goodIn_app (goodIn_of _ (by decide +kernel)) ggX1_setVentMode_X1_keepToMode
theorem dX1_setVentMode_0 : decode cX1_setVentMode 0 = .ok (.aload_n 0, 1) := by decide +kernel
theorem dX1_setVentMode_1 : decode cX1_setVentMode 1 = .ok (.iload_n 1, 1) := by decide +kernel
theorem dX1_setVentMode_2 : decode cX1_setVentMode 2 = .ok (.putfield 15, 3) := by decide +kernel
theorem dX1_setVentMode_5 : decode cX1_setVentMode 5 = .ok (.aload_n 0, 1) := by decide +kernel
theorem dX1_setVentMode_6 : decode cX1_setVentMode 6 = .ok (.invokevirtual 47, 3) := by decide +kernel
theorem dX1_setVentMode_9 : decode cX1_setVentMode 9 = .ok (.return_, 1) := by decide +kernel
set_option maxRecDepth 20000 in
theorem ggX1_keepToMode_X1_openVent : GoodIn wsX1_keepToMode wsX1_openVent := goodIn_r _ [6, 7, 13, 14, 15, 16, 17, 18, 19] (by decide +kernel) (by decide +kernel)
set_option maxRecDepth 20000 in
theorem gX1_keepToMode_X1_openVent : GoodIn wsX1_keepToMode (wsV RX1 50 RX1 yX1_openVent wsX1_openVent) := goodIn_app (goodIn_of _ (by decide +kernel)) ggX1_keepToMode_X1_openVent
set_option maxRecDepth 20000 in
theorem ggX1_keepToMode_X1_shutVent : GoodIn wsX1_keepToMode wsX1_shutVent := goodIn_r _ [11, 7, 12, 13, 14, 15, 16, 17, 18, 19] (by decide +kernel) (by decide +kernel)
set_option maxRecDepth 20000 in
theorem gX1_keepToMode_X1_shutVent : GoodIn wsX1_keepToMode (wsV RX1 53 RX1 yX1_shutVent wsX1_shutVent) := goodIn_app (goodIn_of _ (by decide +kernel)) ggX1_keepToMode_X1_shutVent
theorem dX1_keepToMode_0 : decode cX1_keepToMode 0 = .ok (.aload_n 0, 1) := by decide +kernel
theorem dX1_keepToMode_1 : decode cX1_keepToMode 1 = .ok (.getfield 15, 3) := by decide +kernel
theorem dX1_keepToMode_4 : decode cX1_keepToMode 4 = .ok (.iconst 2, 1) := by decide +kernel
theorem dX1_keepToMode_5 : decode cX1_keepToMode 5 = .ok (.if_icmp .ne 10, 3) := by decide +kernel
theorem dX1_keepToMode_8 : decode cX1_keepToMode 8 = .ok (.aload_n 0, 1) := by decide +kernel
theorem dX1_keepToMode_9 : decode cX1_keepToMode 9 = .ok (.invokevirtual 50, 3) := by decide +kernel
theorem dX1_keepToMode_12 : decode cX1_keepToMode 12 = .ok (.goto 15, 3) := by decide +kernel
theorem dX1_keepToMode_15 : decode cX1_keepToMode 15 = .ok (.aload_n 0, 1) := by decide +kernel
theorem dX1_keepToMode_16 : decode cX1_keepToMode 16 = .ok (.getfield 15, 3) := by decide +kernel
theorem dX1_keepToMode_19 : decode cX1_keepToMode 19 = .ok (.iconst 1, 1) := by decide +kernel
theorem dX1_keepToMode_20 : decode cX1_keepToMode 20 = .ok (.if_icmp .ne 7, 3) := by decide +kernel
theorem dX1_keepToMode_23 : decode cX1_keepToMode 23 = .ok (.aload_n 0, 1) := by decide +kernel
theorem dX1_keepToMode_24 : decode cX1_keepToMode 24 = .ok (.invokevirtual 53, 3) := by decide +kernel
theorem dX1_keepToMode_27 : decode cX1_keepToMode 27 = .ok (.return_, 1) := by decide +kernel
end
section
theorem dX1_openVent_0 : decode cX1_openVent 0 = .ok (.aload_n 0, 1) := by decide +kernel
theorem dX1_openVent_1 : decode cX1_openVent 1 = .ok (.iconst 1, 1) := by decide +kernel
theorem dX1_openVent_2 : decode cX1_openVent 2 = .ok (.putfield 22, 3) := by decide +kernel
theorem dX1_openVent_5 : decode cX1_openVent 5 = .ok (.return_, 1) := by decide +kernel
theorem dX1_shutVent_0 : decode cX1_shutVent 0 = .ok (.aload_n 0, 1) := by decide +kernel
theorem dX1_shutVent_1 : decode cX1_shutVent 1 = .ok (.iconst 0, 1) := by decide +kernel
theorem dX1_shutVent_2 : decode cX1_shutVent 2 = .ok (.putfield 22, 3) := by decide +kernel
theorem dX1_shutVent_5 : decode cX1_shutVent 5 = .ok (.aload_n 0, 1) := by decide +kernel
theorem dX1_shutVent_6 : decode cX1_shutVent 6 = .ok (.iconst 0, 1) := by decide +kernel
theorem dX1_shutVent_7 : decode cX1_shutVent 7 = .ok (.putfield 26, 3) := by decide +kernel
theorem dX1_shutVent_10 : decode cX1_shutVent 10 = .ok (.return_, 1) := by decide +kernel
set_option maxRecDepth 20000 in
theorem ggX1_letMinutePass_X1_changeTemperature : GoodIn wsX1_letMinutePass wsX1_changeTemperature := goodIn_r _ [8, 9, 10, 2, 11, 12, 13, 14, 15, 16, 17, 18, 19, 20, 21, 22, 23, 24, 25, 26, 27, 28, 57, 58, 59, 60, 61, 62, 63, 64] (by decide +kernel) (by decide +kernel)
set_option maxRecDepth 20000 in
theorem gX1_letMinutePass_X1_changeTemperature : GoodIn wsX1_letMinutePass (wsV RX1 56 RX1 yX1_changeTemperature wsX1_changeTemperature) := goodIn_app (goodIn_of _ (by decide +kernel)) ggX1_letMinutePass_X1_changeTemperature
set_option maxRecDepth 20000 in
theorem ggX1_letMinutePass_X1_loseGas : GoodIn wsX1_letMinutePass wsX1_loseGas := goodIn_r _ [32, 1, 33, 10, 2, 18, 19, 20, 21, 22, 23, 24, 25, 26, 57, 58, 59, 60, 61, 62, 63, 64] (by decide +kernel) (by decide +kernel)
set_option maxRecDepth 20000 in
theorem gX1_letMinutePass_X1_loseGas : GoodIn wsX1_letMinutePass (wsV RX1 60 RX1 yX1_loseGas wsX1_loseGas) := goodIn_app (goodIn_of _ (by decide +kernel)) ggX1_letMinutePass_X1_loseGas
set_option maxRecDepth 20000 in
theorem ggX1_letMinutePass_X1_concentration : GoodIn wsX1_letMinutePass wsX1_concentration := goodIn_r _ [37, 1, 38, 18, 19, 20, 21, 22, 23, 24, 25, 26, 27, 28, 57, 58, 59, 60, 61, 62, 63, 64] (by decide +kernel) (by decide +kernel)
set_option maxRecDepth 20000 in
theorem gX1_letMinutePass_X1_concentration : GoodIn wsX1_letMinutePass (wsV RX1 64 RX1 yX1_concentration wsX1_concentration) := goodIn_app (goodIn_of _ (by decide +kernel)) ggX1_letMinutePass_X1_concentration
set_option maxRecDepth 20000 in
theorem ggX1_letMinutePass_X1_moveVent : GoodIn wsX1_letMinutePass wsX1_moveVent := goodIn_r _ [42, 43, 10, 44, 45, 46, 47, 7, 48, 49, 50, 51, 52, 53, 54, 55, 56, 18, 19, 20, 21, 22, 23, 24, 25, 26, 57, 58, 59, 60, 61, 62, 63, 64] (by decide +kernel) (by decide +kernel)
set_option maxRecDepth 20000 in
theorem gX1_letMinutePass_X1_moveVent : GoodIn wsX1_letMinutePass (wsV RX1 68 RX1 yX1_moveVent wsX1_moveVent) := goodIn_app (goodIn_of _ (by decide +kernel)) ggX1_letMinutePass_X1_moveVent
set_option maxRecDepth 20000 in
theorem ggX1_letMinutePass_X6_value : GoodIn wsX1_letMinutePass wsX6_value := goodIn_r _ [22, 23, 24, 25, 26, 64] (by decide +kernel) (by decide +kernel)
set_option maxRecDepth 20000 in
theorem gX1_letMinutePass_X6_value : GoodIn wsX1_letMinutePass (wsV RX1 37 RX6 yX6_value wsX6_value) := goodIn_app (goodIn_of _ (by decide +kernel)) ggX1_letMinutePass_X6_value
theorem dX1_letMinutePass_0 : decode cX1_letMinutePass 0 = .ok (.aload_n 0, 1) := by decide +kernel
theorem dX1_letMinutePass_1 : decode cX1_letMinutePass 1 = .ok (.dup, 1) := by decide +kernel
theorem dX1_letMinutePass_2 : decode cX1_letMinutePass 2 = .ok (.getfield 18, 3) := by decide +kernel
theorem dX1_letMinutePass_5 : decode cX1_letMinutePass 5 = .ok (.iload_n 1, 1) := by decide +kernel
theorem dX1_letMinutePass_6 : decode cX1_letMinutePass 6 = .ok (.i2l, 1) := by decide +kernel
theorem dX1_letMinutePass_7 : decode cX1_letMinutePass 7 = .ok (.ladd, 1) := by decide +kernel
theorem dX1_letMinutePass_8 : decode cX1_letMinutePass 8 = .ok (.putfield 18, 3) := by decide +kernel
theorem dX1_letMinutePass_11 : decode cX1_letMinutePass 11 = .ok (.aload_n 0, 1) := by decide +kernel
theorem dX1_letMinutePass_12 : decode cX1_letMinutePass 12 = .ok (.iload_n 1, 1) := by decide +kernel
theorem dX1_letMinutePass_13 : decode cX1_letMinutePass 13 = .ok (.iload_n 2, 1) := by decide +kernel
theorem dX1_letMinutePass_14 : decode cX1_letMinutePass 14 = .ok (.aload_n 3, 1) := by decide +kernel
theorem dX1_letMinutePass_15 : decode cX1_letMinutePass 15 = .ok (.invokevirtual 56, 3) := by decide +kernel
theorem dX1_letMinutePass_18 : decode cX1_letMinutePass 18 = .ok (.aload_n 0, 1) := by decide +kernel
theorem dX1_letMinutePass_19 : decode cX1_letMinutePass 19 = .ok (.aload_n 3, 1) := by decide +kernel
theorem dX1_letMinutePass_20 : decode cX1_letMinutePass 20 = .ok (.invokevirtual 60, 3) := by decide +kernel
theorem dX1_letMinutePass_23 : decode cX1_letMinutePass 23 = .ok (.aload_n 0, 1) := by decide +kernel
theorem dX1_letMinutePass_24 : decode cX1_letMinutePass 24 = .ok (.aload_n 3, 1) := by decide +kernel
theorem dX1_letMinutePass_25 : decode cX1_letMinutePass 25 = .ok (.invokevirtual 64, 3) := by decide +kernel
theorem dX1_letMinutePass_28 : decode cX1_letMinutePass 28 = .ok (.lstore 4, 2) := by decide +kernel
theorem dX1_letMinutePass_30 : decode cX1_letMinutePass 30 = .ok (.aload_n 0, 1) := by decide +kernel
theorem dX1_letMinutePass_31 : decode cX1_letMinutePass 31 = .ok (.lload 4, 2) := by decide +kernel
theorem dX1_letMinutePass_33 : decode cX1_letMinutePass 33 = .ok (.aload_n 3, 1) := by decide +kernel
theorem dX1_letMinutePass_34 : decode cX1_letMinutePass 34 = .ok (.invokevirtual 68, 3) := by decide +kernel
theorem dX1_letMinutePass_37 : decode cX1_letMinutePass 37 = .ok (.aload_n 0, 1) := by decide +kernel
theorem dX1_letMinutePass_38 : decode cX1_letMinutePass 38 = .ok (.getfield 29, 3) := by decide +kernel
theorem dX1_letMinutePass_41 : decode cX1_letMinutePass 41 = .ok (.ifCond .eq 26, 3) := by decide +kernel
theorem dX1_letMinutePass_44 : decode cX1_letMinutePass 44 = .ok (.lload 4, 2) := by decide +kernel
theorem dX1_letMinutePass_46 : decode cX1_letMinutePass 46 = .ok (.aload_n 3, 1) := by decide +kernel
theorem dX1_letMinutePass_47 : decode cX1_letMinutePass 47 = .ok (.bipush 8, 2) := by decide +kernel
theorem dX1_letMinutePass_49 : decode cX1_letMinutePass 49 = .ok (.invokevirtual 37, 3) := by decide +kernel
theorem dX1_letMinutePass_52 : decode cX1_letMinutePass 52 = .ok (.i2l, 1) := by decide +kernel
theorem dX1_letMinutePass_53 : decode cX1_letMinutePass 53 = .ok (.lcmp, 1) := by decide +kernel
theorem dX1_letMinutePass_54 : decode cX1_letMinutePass 54 = .ok (.ifCond .lt 13, 3) := by decide +kernel
theorem dX1_letMinutePass_57 : decode cX1_letMinutePass 57 = .ok (.aload_n 0, 1) := by decide +kernel
theorem dX1_letMinutePass_58 : decode cX1_letMinutePass 58 = .ok (.dup, 1) := by decide +kernel
theorem dX1_letMinutePass_59 : decode cX1_letMinutePass 59 = .ok (.getfield 32, 3) := by decide +kernel
theorem dX1_letMinutePass_62 : decode cX1_letMinutePass 62 = .ok (.iconst 1, 1) := by decide +kernel
theorem dX1_letMinutePass_63 : decode cX1_letMinutePass 63 = .ok (.iadd, 1) := by decide +kernel
theorem dX1_letMinutePass_64 : decode cX1_letMinutePass 64 = .ok (.putfield 32, 3) := by decide +kernel
theorem dX1_letMinutePass_67 : decode cX1_letMinutePass 67 = .ok (.return_, 1) := by decide +kernel
set_option maxRecDepth 20000 in
theorem ggX1_changeTemperature_X6_value : GoodIn wsX1_changeTemperature wsX6_value := goodIn_r _ [15, 16, 17, 18, 19, 29] (by decide +kernel) (by decide +kernel)
set_option maxRecDepth 20000 in
theorem gX1_changeTemperature_X6_value : GoodIn wsX1_changeTemperature (wsV RX1 37 RX6 yX6_value wsX6_value) := goodIn_app (goodIn_of _ (by decide +kernel)) ggX1_changeTemperature_X6_value
set_option maxRecDepth 20000 in
theorem ggX1_changeTemperature_X9_quotient : GoodIn wsX1_changeTemperature wsX9_quotient := goodIn_r _ [21] (by decide +kernel) (by decide +kernel)
set_option maxRecDepth 20000 in
theorem gX1_changeTemperature_X9_quotient_n43 : GoodIn wsX1_changeTemperature (wsX9_quotient) := ggX1_changeTemperature_X9_quotient
theorem dX1_changeTemperature_0 : decode cX1_changeTemperature 0 = .ok (.aload_n 3, 1) := by decide +kernel
theorem dX1_changeTemperature_1 : decode cX1_changeTemperature 1 = .ok (.bipush 9, 2) := by decide +kernel
theorem dX1_changeTemperature_3 : decode cX1_changeTemperature 3 = .ok (.invokevirtual 37, 3) := by decide +kernel
theorem dX1_changeTemperature_6 : decode cX1_changeTemperature 6 = .ok (.istore 4, 2) := by decide +kernel
theorem dX1_changeTemperature_8 : decode cX1_changeTemperature 8 = .ok (.aload_n 0, 1) := by decide +kernel
theorem dX1_changeTemperature_9 : decode cX1_changeTemperature 9 = .ok (.dup, 1) := by decide +kernel
theorem dX1_changeTemperature_10 : decode cX1_changeTemperature 10 = .ok (.getfield 9, 3) := by decide +kernel
theorem dX1_changeTemperature_13 : decode cX1_changeTemperature 13 = .ok (.iload_n 2, 1) := by decide +kernel
theorem dX1_changeTemperature_14 : decode cX1_changeTemperature 14 = .ok (.aload_n 0, 1) := by decide +kernel
theorem dX1_changeTemperature_15 : decode cX1_changeTemperature 15 = .ok (.getfield 9, 3) := by decide +kernel
theorem dX1_changeTemperature_18 : decode cX1_changeTemperature 18 = .ok (.isub, 1) := by decide +kernel
theorem dX1_changeTemperature_19 : decode cX1_changeTemperature 19 = .ok (.i2l, 1) := by decide +kernel
theorem dX1_changeTemperature_20 : decode cX1_changeTemperature 20 = .ok (.iload 4, 2) := by decide +kernel
theorem dX1_changeTemperature_22 : decode cX1_changeTemperature 22 = .ok (.i2l, 1) := by decide +kernel
theorem dX1_changeTemperature_23 : decode cX1_changeTemperature 23 = .ok (.invokestatic 43, 3) := by decide +kernel
theorem dX1_changeTemperature_26 : decode cX1_changeTemperature 26 = .ok (.l2i, 1) := by decide +kernel
theorem dX1_changeTemperature_27 : decode cX1_changeTemperature 27 = .ok (.iadd, 1) := by decide +kernel
theorem dX1_changeTemperature_28 : decode cX1_changeTemperature 28 = .ok (.putfield 9, 3) := by decide +kernel
theorem dX1_changeTemperature_31 : decode cX1_changeTemperature 31 = .ok (.aload_n 0, 1) := by decide +kernel
theorem dX1_changeTemperature_32 : decode cX1_changeTemperature 32 = .ok (.getfield 22, 3) := by decide +kernel
theorem dX1_changeTemperature_35 : decode cX1_changeTemperature 35 = .ok (.ifCond .eq 26, 3) := by decide +kernel
theorem dX1_changeTemperature_38 : decode cX1_changeTemperature 38 = .ok (.aload_n 0, 1) := by decide +kernel
theorem dX1_changeTemperature_39 : decode cX1_changeTemperature 39 = .ok (.dup, 1) := by decide +kernel
theorem dX1_changeTemperature_40 : decode cX1_changeTemperature 40 = .ok (.getfield 9, 3) := by decide +kernel
theorem dX1_changeTemperature_43 : decode cX1_changeTemperature 43 = .ok (.iload_n 2, 1) := by decide +kernel
theorem dX1_changeTemperature_44 : decode cX1_changeTemperature 44 = .ok (.aload_n 0, 1) := by decide +kernel
theorem dX1_changeTemperature_45 : decode cX1_changeTemperature 45 = .ok (.getfield 9, 3) := by decide +kernel
theorem dX1_changeTemperature_48 : decode cX1_changeTemperature 48 = .ok (.isub, 1) := by decide +kernel
theorem dX1_changeTemperature_49 : decode cX1_changeTemperature 49 = .ok (.i2l, 1) := by decide +kernel
theorem dX1_changeTemperature_50 : decode cX1_changeTemperature 50 = .ok (.iload 4, 2) := by decide +kernel
theorem dX1_changeTemperature_52 : decode cX1_changeTemperature 52 = .ok (.i2l, 1) := by decide +kernel
theorem dX1_changeTemperature_53 : decode cX1_changeTemperature 53 = .ok (.invokestatic 43, 3) := by decide +kernel
theorem dX1_changeTemperature_56 : decode cX1_changeTemperature 56 = .ok (.l2i, 1) := by decide +kernel
theorem dX1_changeTemperature_57 : decode cX1_changeTemperature 57 = .ok (.iadd, 1) := by decide +kernel
theorem dX1_changeTemperature_58 : decode cX1_changeTemperature 58 = .ok (.putfield 9, 3) := by decide +kernel
theorem dX1_changeTemperature_61 : decode cX1_changeTemperature 61 = .ok (.aload_n 0, 1) := by decide +kernel
theorem dX1_changeTemperature_62 : decode cX1_changeTemperature 62 = .ok (.getfield 29, 3) := by decide +kernel
theorem dX1_changeTemperature_65 : decode cX1_changeTemperature 65 = .ok (.ifCond .eq 20, 3) := by decide +kernel
theorem dX1_changeTemperature_68 : decode cX1_changeTemperature 68 = .ok (.aload_n 0, 1) := by decide +kernel
theorem dX1_changeTemperature_69 : decode cX1_changeTemperature 69 = .ok (.dup, 1) := by decide +kernel
theorem dX1_changeTemperature_70 : decode cX1_changeTemperature 70 = .ok (.getfield 9, 3) := by decide +kernel
theorem dX1_changeTemperature_73 : decode cX1_changeTemperature 73 = .ok (.iload_n 2, 1) := by decide +kernel
theorem dX1_changeTemperature_74 : decode cX1_changeTemperature 74 = .ok (.aload_n 0, 1) := by decide +kernel
theorem dX1_changeTemperature_75 : decode cX1_changeTemperature 75 = .ok (.getfield 9, 3) := by decide +kernel
theorem dX1_changeTemperature_78 : decode cX1_changeTemperature 78 = .ok (.isub, 1) := by decide +kernel
theorem dX1_changeTemperature_79 : decode cX1_changeTemperature 79 = .ok (.iconst 4, 1) := by decide +kernel
theorem dX1_changeTemperature_80 : decode cX1_changeTemperature 80 = .ok (.idiv, 1) := by decide +kernel
theorem dX1_changeTemperature_81 : decode cX1_changeTemperature 81 = .ok (.iadd, 1) := by decide +kernel
theorem dX1_changeTemperature_82 : decode cX1_changeTemperature 82 = .ok (.putfield 9, 3) := by decide +kernel
theorem dX1_changeTemperature_85 : decode cX1_changeTemperature 85 = .ok (.aload_n 0, 1) := by decide +kernel
theorem dX1_changeTemperature_86 : decode cX1_changeTemperature 86 = .ok (.getfield 9, 3) := by decide +kernel
theorem dX1_changeTemperature_89 : decode cX1_changeTemperature 89 = .ok (.iload_n 1, 1) := by decide +kernel
theorem dX1_changeTemperature_90 : decode cX1_changeTemperature 90 = .ok (.i2l, 1) := by decide +kernel
theorem dX1_changeTemperature_91 : decode cX1_changeTemperature 91 = .ok (.aload_n 3, 1) := by decide +kernel
theorem dX1_changeTemperature_92 : decode cX1_changeTemperature 92 = .ok (.bipush 10, 2) := by decide +kernel
theorem dX1_changeTemperature_94 : decode cX1_changeTemperature 94 = .ok (.invokevirtual 37, 3) := by decide +kernel
theorem dX1_changeTemperature_97 : decode cX1_changeTemperature 97 = .ok (.i2l, 1) := by decide +kernel
theorem dX1_changeTemperature_98 : decode cX1_changeTemperature 98 = .ok (.invokestatic 43, 3) := by decide +kernel
theorem dX1_changeTemperature_101 : decode cX1_changeTemperature 101 = .ok (.l2i, 1) := by decide +kernel
theorem dX1_changeTemperature_102 : decode cX1_changeTemperature 102 = .ok (.isub, 1) := by decide +kernel
theorem dX1_changeTemperature_103 : decode cX1_changeTemperature 103 = .ok (.istore 5, 2) := by decide +kernel
theorem dX1_changeTemperature_105 : decode cX1_changeTemperature 105 = .ok (.aload_n 0, 1) := by decide +kernel
theorem dX1_changeTemperature_106 : decode cX1_changeTemperature 106 = .ok (.iload 5, 2) := by decide +kernel
theorem dX1_changeTemperature_108 : decode cX1_changeTemperature 108 = .ok (.aload_n 0, 1) := by decide +kernel
theorem dX1_changeTemperature_109 : decode cX1_changeTemperature 109 = .ok (.getfield 9, 3) := by decide +kernel
theorem dX1_changeTemperature_112 : decode cX1_changeTemperature 112 = .ok (.sipush (-7900), 3) := by decide +kernel
theorem dX1_changeTemperature_115 : decode cX1_changeTemperature 115 = .ok (.invokestatic 72, 3) := by decide +kernel
theorem dX1_changeTemperature_118 : decode cX1_changeTemperature 118 = .ok (.invokestatic 78, 3) := by decide +kernel
theorem dX1_changeTemperature_121 : decode cX1_changeTemperature 121 = .ok (.putfield 9, 3) := by decide +kernel
theorem dX1_changeTemperature_124 : decode cX1_changeTemperature 124 = .ok (.return_, 1) := by decide +kernel
set_option maxRecDepth 20000 in
theorem ggX1_loseGas_X6_value : GoodIn wsX1_loseGas wsX6_value := goodIn_r _ [9, 10, 11, 12, 13, 21] (by decide +kernel) (by decide +kernel)
set_option maxRecDepth 20000 in
theorem gX1_loseGas_X6_value : GoodIn wsX1_loseGas (wsV RX1 37 RX6 yX6_value wsX6_value) := goodIn_app (goodIn_of _ (by decide +kernel)) ggX1_loseGas_X6_value
theorem dX1_loseGas_0 : decode cX1_loseGas 0 = .ok (.aload_n 0, 1) := by decide +kernel
theorem dX1_loseGas_1 : decode cX1_loseGas 1 = .ok (.dup, 1) := by decide +kernel
theorem dX1_loseGas_2 : decode cX1_loseGas 2 = .ok (.getfield 18, 3) := by decide +kernel
theorem dX1_loseGas_5 : decode cX1_loseGas 5 = .ok (.aload_n 0, 1) := by decide +kernel
theorem dX1_loseGas_6 : decode cX1_loseGas 6 = .ok (.getfield 18, 3) := by decide +kernel
theorem dX1_loseGas_9 : decode cX1_loseGas 9 = .ok (.aload_n 1, 1) := by decide +kernel
theorem dX1_loseGas_10 : decode cX1_loseGas 10 = .ok (.iconst 3, 1) := by decide +kernel
theorem dX1_loseGas_11 : decode cX1_loseGas 11 = .ok (.invokevirtual 37, 3) := by decide +kernel
theorem dX1_loseGas_14 : decode cX1_loseGas 14 = .ok (.i2l, 1) := by decide +kernel
theorem dX1_loseGas_15 : decode cX1_loseGas 15 = .ok (.lmul, 1) := by decide +kernel
theorem dX1_loseGas_16 : decode cX1_loseGas 16 = .ok (.ldc2_w 81, 3) := by decide +kernel
theorem dX1_loseGas_19 : decode cX1_loseGas 19 = .ok (.ldiv, 1) := by decide +kernel
theorem dX1_loseGas_20 : decode cX1_loseGas 20 = .ok (.lsub, 1) := by decide +kernel
theorem dX1_loseGas_21 : decode cX1_loseGas 21 = .ok (.putfield 18, 3) := by decide +kernel
theorem dX1_loseGas_24 : decode cX1_loseGas 24 = .ok (.aload_n 0, 1) := by decide +kernel
theorem dX1_loseGas_25 : decode cX1_loseGas 25 = .ok (.getfield 22, 3) := by decide +kernel
theorem dX1_loseGas_28 : decode cX1_loseGas 28 = .ok (.ifCond .eq 27, 3) := by decide +kernel
theorem dX1_loseGas_31 : decode cX1_loseGas 31 = .ok (.aload_n 0, 1) := by decide +kernel
theorem dX1_loseGas_32 : decode cX1_loseGas 32 = .ok (.dup, 1) := by decide +kernel
theorem dX1_loseGas_33 : decode cX1_loseGas 33 = .ok (.getfield 18, 3) := by decide +kernel
theorem dX1_loseGas_36 : decode cX1_loseGas 36 = .ok (.aload_n 0, 1) := by decide +kernel
theorem dX1_loseGas_37 : decode cX1_loseGas 37 = .ok (.getfield 18, 3) := by decide +kernel
theorem dX1_loseGas_40 : decode cX1_loseGas 40 = .ok (.aload_n 1, 1) := by decide +kernel
theorem dX1_loseGas_41 : decode cX1_loseGas 41 = .ok (.iconst 2, 1) := by decide +kernel
theorem dX1_loseGas_42 : decode cX1_loseGas 42 = .ok (.invokevirtual 37, 3) := by decide +kernel
theorem dX1_loseGas_45 : decode cX1_loseGas 45 = .ok (.i2l, 1) := by decide +kernel
theorem dX1_loseGas_46 : decode cX1_loseGas 46 = .ok (.lmul, 1) := by decide +kernel
theorem dX1_loseGas_47 : decode cX1_loseGas 47 = .ok (.ldc2_w 81, 3) := by decide +kernel
theorem dX1_loseGas_50 : decode cX1_loseGas 50 = .ok (.ldiv, 1) := by decide +kernel
theorem dX1_loseGas_51 : decode cX1_loseGas 51 = .ok (.lsub, 1) := by decide +kernel
theorem dX1_loseGas_52 : decode cX1_loseGas 52 = .ok (.putfield 18, 3) := by decide +kernel
theorem dX1_loseGas_55 : decode cX1_loseGas 55 = .ok (.aload_n 0, 1) := by decide +kernel
theorem dX1_loseGas_56 : decode cX1_loseGas 56 = .ok (.getfield 29, 3) := by decide +kernel
theorem dX1_loseGas_59 : decode cX1_loseGas 59 = .ok (.ifCond .eq 27, 3) := by decide +kernel
theorem dX1_loseGas_62 : decode cX1_loseGas 62 = .ok (.aload_n 0, 1) := by decide +kernel
theorem dX1_loseGas_63 : decode cX1_loseGas 63 = .ok (.dup, 1) := by decide +kernel
theorem dX1_loseGas_64 : decode cX1_loseGas 64 = .ok (.getfield 18, 3) := by decide +kernel
theorem dX1_loseGas_67 : decode cX1_loseGas 67 = .ok (.aload_n 0, 1) := by decide +kernel
theorem dX1_loseGas_68 : decode cX1_loseGas 68 = .ok (.getfield 18, 3) := by decide +kernel
theorem dX1_loseGas_71 : decode cX1_loseGas 71 = .ok (.aload_n 1, 1) := by decide +kernel
theorem dX1_loseGas_72 : decode cX1_loseGas 72 = .ok (.iconst 4, 1) := by decide +kernel
theorem dX1_loseGas_73 : decode cX1_loseGas 73 = .ok (.invokevirtual 37, 3) := by decide +kernel
theorem dX1_loseGas_76 : decode cX1_loseGas 76 = .ok (.i2l, 1) := by decide +kernel
theorem dX1_loseGas_77 : decode cX1_loseGas 77 = .ok (.lmul, 1) := by decide +kernel
theorem dX1_loseGas_78 : decode cX1_loseGas 78 = .ok (.ldc2_w 81, 3) := by decide +kernel
theorem dX1_loseGas_81 : decode cX1_loseGas 81 = .ok (.ldiv, 1) := by decide +kernel
theorem dX1_loseGas_82 : decode cX1_loseGas 82 = .ok (.lsub, 1) := by decide +kernel
theorem dX1_loseGas_83 : decode cX1_loseGas 83 = .ok (.putfield 18, 3) := by decide +kernel
theorem dX1_loseGas_86 : decode cX1_loseGas 86 = .ok (.return_, 1) := by decide +kernel
set_option maxRecDepth 20000 in
theorem ggX1_moveVent_X1_keepToMode : GoodIn wsX1_moveVent wsX1_keepToMode := goodIn_r _ [8, 1, 9, 10, 11, 7, 12, 2, 13, 14, 15, 16, 3, 26, 27, 28, 29, 30, 31, 32] (by decide +kernel) (by decide +kernel)
set_option maxRecDepth 20000 in
theorem gX1_moveVent_X1_keepToMode : GoodIn wsX1_moveVent (wsV RX1 47 RX1 yX1_keepToMode wsX1_keepToMode) := goodIn_app (goodIn_of _ (by decide +kernel)) ggX1_moveVent_X1_keepToMode
set_option maxRecDepth 20000 in
theorem ggX1_moveVent_X6_value : GoodIn wsX1_moveVent wsX6_value := goodIn_r _ [21, 22, 23, 24, 25, 33] (by decide +kernel) (by decide +kernel)
set_option maxRecDepth 20000 in
theorem gX1_moveVent_X6_value : GoodIn wsX1_moveVent (wsV RX1 37 RX6 yX6_value wsX6_value) := goodIn_app (goodIn_of _ (by decide +kernel)) ggX1_moveVent_X6_value
set_option maxRecDepth 20000 in
theorem ggX1_moveVent_X1_openVent : GoodIn wsX1_moveVent wsX1_openVent := goodIn_r _ [12, 2, 26, 27, 28, 29, 30, 31, 32] (by decide +kernel) (by decide +kernel)
set_option maxRecDepth 20000 in
theorem gX1_moveVent_X1_openVent : GoodIn wsX1_moveVent (wsV RX1 50 RX1 yX1_openVent wsX1_openVent) := goodIn_app (goodIn_of _ (by decide +kernel)) ggX1_moveVent_X1_openVent
set_option maxRecDepth 20000 in
theorem ggX1_moveVent_X1_shutVent : GoodIn wsX1_moveVent wsX1_shutVent := goodIn_r _ [16, 2, 3, 26, 27, 28, 29, 30, 31, 32] (by decide +kernel) (by decide +kernel)
set_option maxRecDepth 20000 in
theorem gX1_moveVent_X1_shutVent : GoodIn wsX1_moveVent (wsV RX1 53 RX1 yX1_shutVent wsX1_shutVent) := goodIn_app (goodIn_of _ (by decide +kernel)) ggX1_moveVent_X1_shutVent
theorem dX1_moveVent_0 : decode cX1_moveVent 0 = .ok (.aload_n 0, 1) := by decide +kernel
theorem dX1_moveVent_1 : decode cX1_moveVent 1 = .ok (.getfield 15, 3) := by decide +kernel
theorem dX1_moveVent_4 : decode cX1_moveVent 4 = .ok (.ifCond .eq 10, 3) := by decide +kernel
theorem dX1_moveVent_7 : decode cX1_moveVent 7 = .ok (.aload_n 0, 1) := by decide +kernel
theorem dX1_moveVent_8 : decode cX1_moveVent 8 = .ok (.invokevirtual 47, 3) := by decide +kernel
theorem dX1_moveVent_11 : decode cX1_moveVent 11 = .ok (.goto 67, 3) := by decide +kernel
theorem dX1_moveVent_14 : decode cX1_moveVent 14 = .ok (.aload_n 0, 1) := by decide +kernel
theorem dX1_moveVent_15 : decode cX1_moveVent 15 = .ok (.getfield 22, 3) := by decide +kernel
theorem dX1_moveVent_18 : decode cX1_moveVent 18 = .ok (.ifCond .ne 21, 3) := by decide +kernel
theorem dX1_moveVent_21 : decode cX1_moveVent 21 = .ok (.lload_n 1, 1) := by decide +kernel
theorem dX1_moveVent_22 : decode cX1_moveVent 22 = .ok (.aload_n 3, 1) := by decide +kernel
theorem dX1_moveVent_23 : decode cX1_moveVent 23 = .ok (.iconst 5, 1) := by decide +kernel
theorem dX1_moveVent_24 : decode cX1_moveVent 24 = .ok (.invokevirtual 37, 3) := by decide +kernel
theorem dX1_moveVent_27 : decode cX1_moveVent 27 = .ok (.i2l, 1) := by decide +kernel
theorem dX1_moveVent_28 : decode cX1_moveVent 28 = .ok (.lcmp, 1) := by decide +kernel
theorem dX1_moveVent_29 : decode cX1_moveVent 29 = .ok (.ifCond .lt 49, 3) := by decide +kernel
theorem dX1_moveVent_32 : decode cX1_moveVent 32 = .ok (.aload_n 0, 1) := by decide +kernel
theorem dX1_moveVent_33 : decode cX1_moveVent 33 = .ok (.invokevirtual 50, 3) := by decide +kernel
theorem dX1_moveVent_36 : decode cX1_moveVent 36 = .ok (.goto 42, 3) := by decide +kernel
theorem dX1_moveVent_39 : decode cX1_moveVent 39 = .ok (.aload_n 0, 1) := by decide +kernel
theorem dX1_moveVent_40 : decode cX1_moveVent 40 = .ok (.dup, 1) := by decide +kernel
theorem dX1_moveVent_41 : decode cX1_moveVent 41 = .ok (.getfield 26, 3) := by decide +kernel
theorem dX1_moveVent_44 : decode cX1_moveVent 44 = .ok (.iconst 1, 1) := by decide +kernel
theorem dX1_moveVent_45 : decode cX1_moveVent 45 = .ok (.iadd, 1) := by decide +kernel
theorem dX1_moveVent_46 : decode cX1_moveVent 46 = .ok (.putfield 26, 3) := by decide +kernel
theorem dX1_moveVent_49 : decode cX1_moveVent 49 = .ok (.lload_n 1, 1) := by decide +kernel
theorem dX1_moveVent_50 : decode cX1_moveVent 50 = .ok (.aload_n 3, 1) := by decide +kernel
theorem dX1_moveVent_51 : decode cX1_moveVent 51 = .ok (.bipush 6, 2) := by decide +kernel
theorem dX1_moveVent_53 : decode cX1_moveVent 53 = .ok (.invokevirtual 37, 3) := by decide +kernel
theorem dX1_moveVent_56 : decode cX1_moveVent 56 = .ok (.i2l, 1) := by decide +kernel
theorem dX1_moveVent_57 : decode cX1_moveVent 57 = .ok (.lcmp, 1) := by decide +kernel
theorem dX1_moveVent_58 : decode cX1_moveVent 58 = .ok (.ifCond .gt 20, 3) := by decide +kernel
theorem dX1_moveVent_61 : decode cX1_moveVent 61 = .ok (.aload_n 0, 1) := by decide +kernel
theorem dX1_moveVent_62 : decode cX1_moveVent 62 = .ok (.getfield 26, 3) := by decide +kernel
theorem dX1_moveVent_65 : decode cX1_moveVent 65 = .ok (.aload_n 3, 1) := by decide +kernel
theorem dX1_moveVent_66 : decode cX1_moveVent 66 = .ok (.bipush 7, 2) := by decide +kernel
theorem dX1_moveVent_68 : decode cX1_moveVent 68 = .ok (.invokevirtual 37, 3) := by decide +kernel
theorem dX1_moveVent_71 : decode cX1_moveVent 71 = .ok (.if_icmp .lt 7, 3) := by decide +kernel
theorem dX1_moveVent_74 : decode cX1_moveVent 74 = .ok (.aload_n 0, 1) := by decide +kernel
theorem dX1_moveVent_75 : decode cX1_moveVent 75 = .ok (.invokevirtual 53, 3) := by decide +kernel
theorem dX1_moveVent_78 : decode cX1_moveVent 78 = .ok (.return_, 1) := by decide +kernel
set_option maxRecDepth 20000 in
theorem ggX2_init_X0_init : GoodIn wsX2_init wsX0_init := goodIn_r _ [9, 10, 2, 3] (by decide +kernel) (by decide +kernel)
set_option maxRecDepth 20000 in
theorem gX2_init_X0_init_n17 : GoodIn wsX2_init (wsX0_init) := ggX2_init_X0_init
theorem dX2_init_0 : decode cX2_init 0 = .ok (.aload_n 0, 1) := by decide +kernel
theorem dX2_init_1 : decode cX2_init 1 = .ok (.invokespecial 3, 3) := by decide +kernel
theorem dX2_init_4 : decode cX2_init 4 = .ok (.aload_n 0, 1) := by decide +kernel
theorem dX2_init_5 : decode cX2_init 5 = .ok (.bipush 10, 2) := by decide +kernel
theorem dX2_init_7 : decode cX2_init 7 = .ok (.anewarray 9, 3) := by decide +kernel
theorem dX2_init_10 : decode cX2_init 10 = .ok (.putfield 11, 3) := by decide +kernel
theorem dX2_init_13 : decode cX2_init 13 = .ok (.iconst 0, 1) := by decide +kernel
theorem dX2_init_14 : decode cX2_init 14 = .ok (.istore_n 1, 1) := by decide +kernel
theorem dX2_init_15 : decode cX2_init 15 = .ok (.iload_n 1, 1) := by decide +kernel
theorem dX2_init_16 : decode cX2_init 16 = .ok (.bipush 10, 2) := by decide +kernel
theorem dX2_init_18 : decode cX2_init 18 = .ok (.if_icmp .ge 22, 3) := by decide +kernel
theorem dX2_init_21 : decode cX2_init 21 = .ok (.aload_n 0, 1) := by decide +kernel
theorem dX2_init_22 : decode cX2_init 22 = .ok (.getfield 11, 3) := by decide +kernel
theorem dX2_init_25 : decode cX2_init 25 = .ok (.iload_n 1, 1) := by decide +kernel
theorem dX2_init_26 : decode cX2_init 26 = .ok (.new 9, 3) := by decide +kernel
theorem dX2_init_29 : decode cX2_init 29 = .ok (.dup, 1) := by decide +kernel
theorem dX2_init_30 : decode cX2_init 30 = .ok (.invokespecial 17, 3) := by decide +kernel
theorem dX2_init_33 : decode cX2_init 33 = .ok (.aastore, 1) := by decide +kernel
theorem dX2_init_34 : decode cX2_init 34 = .ok (.iinc 1 1, 3) := by decide +kernel
theorem dX2_init_37 : decode cX2_init 37 = .ok (.goto (-22), 3) := by decide +kernel
theorem dX2_init_40 : decode cX2_init 40 = .ok (.return_, 1) := by decide +kernel
set_option maxRecDepth 20000 in
theorem ggX2_boxAt_X9_within : GoodIn wsX2_boxAt wsX9_within := goodIn_r _ [5] (by decide +kernel) (by decide +kernel)
set_option maxRecDepth 20000 in
theorem gX2_boxAt_X9_within_n26 : GoodIn wsX2_boxAt (wsX9_within) := ggX2_boxAt_X9_within
theorem dX2_boxAt_0 : decode cX2_boxAt 0 = .ok (.iload_n 1, 1) := by decide +kernel
theorem dX2_boxAt_1 : decode cX2_boxAt 1 = .ok (.iconst 0, 1) := by decide +kernel
theorem dX2_boxAt_2 : decode cX2_boxAt 2 = .ok (.aload_n 0, 1) := by decide +kernel
theorem dX2_boxAt_3 : decode cX2_boxAt 3 = .ok (.getfield 18, 3) := by decide +kernel
theorem dX2_boxAt_6 : decode cX2_boxAt 6 = .ok (.iconst 1, 1) := by decide +kernel
theorem dX2_boxAt_7 : decode cX2_boxAt 7 = .ok (.isub, 1) := by decide +kernel
theorem dX2_boxAt_8 : decode cX2_boxAt 8 = .ok (.invokestatic 26, 3) := by decide +kernel
theorem dX2_boxAt_11 : decode cX2_boxAt 11 = .ok (.ifCond .eq 12, 3) := by decide +kernel
theorem dX2_boxAt_14 : decode cX2_boxAt 14 = .ok (.aload_n 0, 1) := by decide +kernel
theorem dX2_boxAt_15 : decode cX2_boxAt 15 = .ok (.getfield 11, 3) := by decide +kernel
theorem dX2_boxAt_18 : decode cX2_boxAt 18 = .ok (.iload_n 1, 1) := by decide +kernel
theorem dX2_boxAt_19 : decode cX2_boxAt 19 = .ok (.aaload, 1) := by decide +kernel
theorem dX2_boxAt_20 : decode cX2_boxAt 20 = .ok (.goto 4, 3) := by decide +kernel
theorem dX2_boxAt_23 : decode cX2_boxAt 23 = .ok (.aconst_null, 1) := by decide +kernel
theorem dX2_boxAt_24 : decode cX2_boxAt 24 = .ok (.areturn, 1) := by decide +kernel
theorem dX2_append_0 : decode cX2_append 0 = .ok (.aload_n 0, 1) := by decide +kernel
theorem dX2_append_1 : decode cX2_append 1 = .ok (.getfield 18, 3) := by decide +kernel
theorem dX2_append_4 : decode cX2_append 4 = .ok (.bipush 10, 2) := by decide +kernel
theorem dX2_append_6 : decode cX2_append 6 = .ok (.if_icmp .lt 4, 3) := by decide +kernel
theorem dX2_append_9 : decode cX2_append 9 = .ok (.return_, 1) := by decide +kernel
theorem dX2_append_10 : decode cX2_append 10 = .ok (.aload_n 0, 1) := by decide +kernel
theorem dX2_append_11 : decode cX2_append 11 = .ok (.getfield 11, 3) := by decide +kernel
theorem dX2_append_14 : decode cX2_append 14 = .ok (.aload_n 0, 1) := by decide +kernel
theorem dX2_append_15 : decode cX2_append 15 = .ok (.getfield 18, 3) := by decide +kernel
theorem dX2_append_18 : decode cX2_append 18 = .ok (.aaload, 1) := by decide +kernel
theorem dX2_append_19 : decode cX2_append 19 = .ok (.astore 4, 2) := by decide +kernel
theorem dX2_append_21 : decode cX2_append 21 = .ok (.aload 4, 2) := by decide +kernel
theorem dX2_append_23 : decode cX2_append 23 = .ok (.iload_n 1, 1) := by decide +kernel
theorem dX2_append_24 : decode cX2_append 24 = .ok (.putfield 30, 3) := by decide +kernel
theorem dX2_append_27 : decode cX2_append 27 = .ok (.aload 4, 2) := by decide +kernel
theorem dX2_append_29 : decode cX2_append 29 = .ok (.iload_n 2, 1) := by decide +kernel
theorem dX2_append_30 : decode cX2_append 30 = .ok (.putfield 33, 3) := by decide +kernel
theorem dX2_append_33 : decode cX2_append 33 = .ok (.aload 4, 2) := by decide +kernel
theorem dX2_append_35 : decode cX2_append 35 = .ok (.iload_n 3, 1) := by decide +kernel
theorem dX2_append_36 : decode cX2_append 36 = .ok (.putfield 36, 3) := by decide +kernel
theorem dX2_append_39 : decode cX2_append 39 = .ok (.aload 4, 2) := by decide +kernel
theorem dX2_append_41 : decode cX2_append 41 = .ok (.iload_n 3, 1) := by decide +kernel
theorem dX2_append_42 : decode cX2_append 42 = .ok (.putfield 39, 3) := by decide +kernel
theorem dX2_append_45 : decode cX2_append 45 = .ok (.aload_n 0, 1) := by decide +kernel
theorem dX2_append_46 : decode cX2_append 46 = .ok (.dup, 1) := by decide +kernel
theorem dX2_append_47 : decode cX2_append 47 = .ok (.getfield 18, 3) := by decide +kernel
theorem dX2_append_50 : decode cX2_append 50 = .ok (.iconst 1, 1) := by decide +kernel
theorem dX2_append_51 : decode cX2_append 51 = .ok (.iadd, 1) := by decide +kernel
theorem dX2_append_52 : decode cX2_append 52 = .ok (.putfield 18, 3) := by decide +kernel
theorem dX2_append_55 : decode cX2_append 55 = .ok (.return_, 1) := by decide +kernel
set_option maxRecDepth 20000 in
theorem ggX2_takeOut_X9_within : GoodIn wsX2_takeOut wsX9_within := goodIn_r _ [4] (by decide +kernel) (by decide +kernel)
set_option maxRecDepth 20000 in
theorem gX2_takeOut_X9_within_n26 : GoodIn wsX2_takeOut (wsX9_within) := ggX2_takeOut_X9_within
set_option maxRecDepth 20000 in
theorem ggX2_takeOut_X2_move : GoodIn wsX2_takeOut wsX2_move := goodIn_r _ [9, 1, 10, 2, 3, 4, 11, 12] (by decide +kernel) (by decide +kernel)
set_option maxRecDepth 20000 in
theorem gX2_takeOut_X2_move : GoodIn wsX2_takeOut (wsV RX2 42 RX2 yX2_move wsX2_move) := goodIn_app (goodIn_of _ (by decide +kernel)) ggX2_takeOut_X2_move
theorem dX2_takeOut_0 : decode cX2_takeOut 0 = .ok (.iload_n 1, 1) := by decide +kernel
theorem dX2_takeOut_1 : decode cX2_takeOut 1 = .ok (.iconst 0, 1) := by decide +kernel
theorem dX2_takeOut_2 : decode cX2_takeOut 2 = .ok (.aload_n 0, 1) := by decide +kernel
theorem dX2_takeOut_3 : decode cX2_takeOut 3 = .ok (.getfield 18, 3) := by decide +kernel
theorem dX2_takeOut_6 : decode cX2_takeOut 6 = .ok (.iconst 1, 1) := by decide +kernel
theorem dX2_takeOut_7 : decode cX2_takeOut 7 = .ok (.isub, 1) := by decide +kernel
theorem dX2_takeOut_8 : decode cX2_takeOut 8 = .ok (.invokestatic 26, 3) := by decide +kernel
theorem dX2_takeOut_11 : decode cX2_takeOut 11 = .ok (.ifCond .eq 24, 3) := by decide +kernel
theorem dX2_takeOut_14 : decode cX2_takeOut 14 = .ok (.aload_n 0, 1) := by decide +kernel
theorem dX2_takeOut_15 : decode cX2_takeOut 15 = .ok (.iload_n 1, 1) := by decide +kernel
theorem dX2_takeOut_16 : decode cX2_takeOut 16 = .ok (.aload_n 0, 1) := by decide +kernel
theorem dX2_takeOut_17 : decode cX2_takeOut 17 = .ok (.getfield 18, 3) := by decide +kernel
theorem dX2_takeOut_20 : decode cX2_takeOut 20 = .ok (.iconst 1, 1) := by decide +kernel
theorem dX2_takeOut_21 : decode cX2_takeOut 21 = .ok (.isub, 1) := by decide +kernel
theorem dX2_takeOut_22 : decode cX2_takeOut 22 = .ok (.invokevirtual 42, 3) := by decide +kernel
theorem dX2_takeOut_25 : decode cX2_takeOut 25 = .ok (.aload_n 0, 1) := by decide +kernel
theorem dX2_takeOut_26 : decode cX2_takeOut 26 = .ok (.dup, 1) := by decide +kernel
theorem dX2_takeOut_27 : decode cX2_takeOut 27 = .ok (.getfield 18, 3) := by decide +kernel
theorem dX2_takeOut_30 : decode cX2_takeOut 30 = .ok (.iconst 1, 1) := by decide +kernel
theorem dX2_takeOut_31 : decode cX2_takeOut 31 = .ok (.isub, 1) := by decide +kernel
theorem dX2_takeOut_32 : decode cX2_takeOut 32 = .ok (.putfield 18, 3) := by decide +kernel
theorem dX2_takeOut_35 : decode cX2_takeOut 35 = .ok (.return_, 1) := by decide +kernel
set_option maxRecDepth 20000 in
theorem ggX2_move_X9_within : GoodIn wsX2_move wsX9_within := goodIn_r _ [5] (by decide +kernel) (by decide +kernel)
set_option maxRecDepth 20000 in
theorem gX2_move_X9_within_n26 : GoodIn wsX2_move (wsX9_within) := ggX2_move_X9_within
theorem dX2_move_0 : decode cX2_move 0 = .ok (.iload_n 1, 1) := by decide +kernel
theorem dX2_move_1 : decode cX2_move 1 = .ok (.iconst 0, 1) := by decide +kernel
theorem dX2_move_2 : decode cX2_move 2 = .ok (.aload_n 0, 1) := by decide +kernel
theorem dX2_move_3 : decode cX2_move 3 = .ok (.getfield 18, 3) := by decide +kernel
theorem dX2_move_6 : decode cX2_move 6 = .ok (.iconst 1, 1) := by decide +kernel
theorem dX2_move_7 : decode cX2_move 7 = .ok (.isub, 1) := by decide +kernel
theorem dX2_move_8 : decode cX2_move 8 = .ok (.invokestatic 26, 3) := by decide +kernel
theorem dX2_move_11 : decode cX2_move 11 = .ok (.ifCond .eq 17, 3) := by decide +kernel
theorem dX2_move_14 : decode cX2_move 14 = .ok (.iload_n 2, 1) := by decide +kernel
theorem dX2_move_15 : decode cX2_move 15 = .ok (.iconst 0, 1) := by decide +kernel
theorem dX2_move_16 : decode cX2_move 16 = .ok (.aload_n 0, 1) := by decide +kernel
theorem dX2_move_17 : decode cX2_move 17 = .ok (.getfield 18, 3) := by decide +kernel
theorem dX2_move_20 : decode cX2_move 20 = .ok (.iconst 1, 1) := by decide +kernel
theorem dX2_move_21 : decode cX2_move 21 = .ok (.isub, 1) := by decide +kernel
theorem dX2_move_22 : decode cX2_move 22 = .ok (.invokestatic 26, 3) := by decide +kernel
theorem dX2_move_25 : decode cX2_move 25 = .ok (.ifCond .ne 4, 3) := by decide +kernel
theorem dX2_move_28 : decode cX2_move 28 = .ok (.return_, 1) := by decide +kernel
theorem dX2_move_29 : decode cX2_move 29 = .ok (.aload_n 0, 1) := by decide +kernel
theorem dX2_move_30 : decode cX2_move 30 = .ok (.getfield 11, 3) := by decide +kernel
theorem dX2_move_33 : decode cX2_move 33 = .ok (.iload_n 1, 1) := by decide +kernel
theorem dX2_move_34 : decode cX2_move 34 = .ok (.aaload, 1) := by decide +kernel
theorem dX2_move_35 : decode cX2_move 35 = .ok (.astore_n 3, 1) := by decide +kernel
theorem dX2_move_36 : decode cX2_move 36 = .ok (.iload_n 1, 1) := by decide +kernel
theorem dX2_move_37 : decode cX2_move 37 = .ok (.istore 4, 2) := by decide +kernel
theorem dX2_move_39 : decode cX2_move 39 = .ok (.iload 4, 2) := by decide +kernel
theorem dX2_move_41 : decode cX2_move 41 = .ok (.iload_n 2, 1) := by decide +kernel
theorem dX2_move_42 : decode cX2_move 42 = .ok (.if_icmp .ge 25, 3) := by decide +kernel
theorem dX2_move_45 : decode cX2_move 45 = .ok (.aload_n 0, 1) := by decide +kernel
theorem dX2_move_46 : decode cX2_move 46 = .ok (.getfield 11, 3) := by decide +kernel
theorem dX2_move_49 : decode cX2_move 49 = .ok (.iload 4, 2) := by decide +kernel
theorem dX2_move_51 : decode cX2_move 51 = .ok (.aload_n 0, 1) := by decide +kernel
theorem dX2_move_52 : decode cX2_move 52 = .ok (.getfield 11, 3) := by decide +kernel
theorem dX2_move_55 : decode cX2_move 55 = .ok (.iload 4, 2) := by decide +kernel
theorem dX2_move_57 : decode cX2_move 57 = .ok (.iconst 1, 1) := by decide +kernel
theorem dX2_move_58 : decode cX2_move 58 = .ok (.iadd, 1) := by decide +kernel
theorem dX2_move_59 : decode cX2_move 59 = .ok (.aaload, 1) := by decide +kernel
theorem dX2_move_60 : decode cX2_move 60 = .ok (.aastore, 1) := by decide +kernel
theorem dX2_move_61 : decode cX2_move 61 = .ok (.iinc 4 1, 3) := by decide +kernel
theorem dX2_move_64 : decode cX2_move 64 = .ok (.goto (-25), 3) := by decide +kernel
theorem dX2_move_67 : decode cX2_move 67 = .ok (.iload_n 1, 1) := by decide +kernel
theorem dX2_move_68 : decode cX2_move 68 = .ok (.istore 4, 2) := by decide +kernel
theorem dX2_move_70 : decode cX2_move 70 = .ok (.iload 4, 2) := by decide +kernel
theorem dX2_move_72 : decode cX2_move 72 = .ok (.iload_n 2, 1) := by decide +kernel
theorem dX2_move_73 : decode cX2_move 73 = .ok (.if_icmp .le 25, 3) := by decide +kernel
theorem dX2_move_76 : decode cX2_move 76 = .ok (.aload_n 0, 1) := by decide +kernel
theorem dX2_move_77 : decode cX2_move 77 = .ok (.getfield 11, 3) := by decide +kernel
theorem dX2_move_80 : decode cX2_move 80 = .ok (.iload 4, 2) := by decide +kernel
theorem dX2_move_82 : decode cX2_move 82 = .ok (.aload_n 0, 1) := by decide +kernel
theorem dX2_move_83 : decode cX2_move 83 = .ok (.getfield 11, 3) := by decide +kernel
theorem dX2_move_86 : decode cX2_move 86 = .ok (.iload 4, 2) := by decide +kernel
theorem dX2_move_88 : decode cX2_move 88 = .ok (.iconst 1, 1) := by decide +kernel
theorem dX2_move_89 : decode cX2_move 89 = .ok (.isub, 1) := by decide +kernel
theorem dX2_move_90 : decode cX2_move 90 = .ok (.aaload, 1) := by decide +kernel
theorem dX2_move_91 : decode cX2_move 91 = .ok (.aastore, 1) := by decide +kernel
theorem dX2_move_92 : decode cX2_move 92 = .ok (.iinc 4 (-1), 3) := by decide +kernel
theorem dX2_move_95 : decode cX2_move 95 = .ok (.goto (-25), 3) := by decide +kernel
theorem dX2_move_98 : decode cX2_move 98 = .ok (.aload_n 0, 1) := by decide +kernel
theorem dX2_move_99 : decode cX2_move 99 = .ok (.getfield 11, 3) := by decide +kernel
theorem dX2_move_102 : decode cX2_move 102 = .ok (.iload_n 2, 1) := by decide +kernel
theorem dX2_move_103 : decode cX2_move 103 = .ok (.aload_n 3, 1) := by decide +kernel
theorem dX2_move_104 : decode cX2_move 104 = .ok (.aastore, 1) := by decide +kernel
theorem dX2_move_105 : decode cX2_move 105 = .ok (.return_, 1) := by decide +kernel
theorem dX2_iceOfAll_0 : decode cX2_iceOfAll 0 = .ok (.iconst 0, 1) := by decide +kernel
theorem dX2_iceOfAll_1 : decode cX2_iceOfAll 1 = .ok (.istore_n 1, 1) := by decide +kernel
theorem dX2_iceOfAll_2 : decode cX2_iceOfAll 2 = .ok (.iconst 0, 1) := by decide +kernel
theorem dX2_iceOfAll_3 : decode cX2_iceOfAll 3 = .ok (.istore_n 2, 1) := by decide +kernel
theorem dX2_iceOfAll_4 : decode cX2_iceOfAll 4 = .ok (.iload_n 2, 1) := by decide +kernel
theorem dX2_iceOfAll_5 : decode cX2_iceOfAll 5 = .ok (.aload_n 0, 1) := by decide +kernel
theorem dX2_iceOfAll_6 : decode cX2_iceOfAll 6 = .ok (.getfield 18, 3) := by decide +kernel
theorem dX2_iceOfAll_9 : decode cX2_iceOfAll 9 = .ok (.if_icmp .ge 21, 3) := by decide +kernel
theorem dX2_iceOfAll_12 : decode cX2_iceOfAll 12 = .ok (.iload_n 1, 1) := by decide +kernel
theorem dX2_iceOfAll_13 : decode cX2_iceOfAll 13 = .ok (.aload_n 0, 1) := by decide +kernel
theorem dX2_iceOfAll_14 : decode cX2_iceOfAll 14 = .ok (.getfield 11, 3) := by decide +kernel
theorem dX2_iceOfAll_17 : decode cX2_iceOfAll 17 = .ok (.iload_n 2, 1) := by decide +kernel
theorem dX2_iceOfAll_18 : decode cX2_iceOfAll 18 = .ok (.aaload, 1) := by decide +kernel
theorem dX2_iceOfAll_19 : decode cX2_iceOfAll 19 = .ok (.getfield 36, 3) := by decide +kernel
theorem dX2_iceOfAll_22 : decode cX2_iceOfAll 22 = .ok (.iadd, 1) := by decide +kernel
theorem dX2_iceOfAll_23 : decode cX2_iceOfAll 23 = .ok (.istore_n 1, 1) := by decide +kernel
theorem dX2_iceOfAll_24 : decode cX2_iceOfAll 24 = .ok (.iinc 2 1, 3) := by decide +kernel
theorem dX2_iceOfAll_27 : decode cX2_iceOfAll 27 = .ok (.goto (-23), 3) := by decide +kernel
theorem dX2_iceOfAll_30 : decode cX2_iceOfAll 30 = .ok (.iload_n 1, 1) := by decide +kernel
theorem dX2_iceOfAll_31 : decode cX2_iceOfAll 31 = .ok (.ireturn, 1) := by decide +kernel
set_option maxRecDepth 20000 in
theorem ggX2_takeFromFront_X0_take : GoodIn wsX2_takeFromFront wsX0_take := goodIn_r _ [12, 13, 14, 15, 16, 6, 17, 20, 21, 22, 23] (by decide +kernel) (by decide +kernel)
set_option maxRecDepth 20000 in
theorem gX2_takeFromFront_X0_take : GoodIn wsX2_takeFromFront (wsV RX2 52 RX0 yX0_take wsX0_take) := goodIn_app (goodIn_of _ (by decide +kernel)) ggX2_takeFromFront_X0_take
theorem dX2_takeFromFront_0 : decode cX2_takeFromFront 0 = .ok (.iload_n 1, 1) := by decide +kernel
theorem dX2_takeFromFront_1 : decode cX2_takeFromFront 1 = .ok (.istore_n 2, 1) := by decide +kernel
theorem dX2_takeFromFront_2 : decode cX2_takeFromFront 2 = .ok (.iconst 0, 1) := by decide +kernel
theorem dX2_takeFromFront_3 : decode cX2_takeFromFront 3 = .ok (.istore_n 3, 1) := by decide +kernel
theorem dX2_takeFromFront_4 : decode cX2_takeFromFront 4 = .ok (.iconst 0, 1) := by decide +kernel
theorem dX2_takeFromFront_5 : decode cX2_takeFromFront 5 = .ok (.istore 4, 2) := by decide +kernel
theorem dX2_takeFromFront_7 : decode cX2_takeFromFront 7 = .ok (.iload 4, 2) := by decide +kernel
theorem dX2_takeFromFront_9 : decode cX2_takeFromFront 9 = .ok (.aload_n 0, 1) := by decide +kernel
theorem dX2_takeFromFront_10 : decode cX2_takeFromFront 10 = .ok (.getfield 18, 3) := by decide +kernel
theorem dX2_takeFromFront_13 : decode cX2_takeFromFront 13 = .ok (.if_icmp .ge 59, 3) := by decide +kernel
theorem dX2_takeFromFront_16 : decode cX2_takeFromFront 16 = .ok (.iload_n 2, 1) := by decide +kernel
theorem dX2_takeFromFront_17 : decode cX2_takeFromFront 17 = .ok (.ifCond .le 55, 3) := by decide +kernel
theorem dX2_takeFromFront_20 : decode cX2_takeFromFront 20 = .ok (.aload_n 0, 1) := by decide +kernel
theorem dX2_takeFromFront_21 : decode cX2_takeFromFront 21 = .ok (.getfield 11, 3) := by decide +kernel
theorem dX2_takeFromFront_24 : decode cX2_takeFromFront 24 = .ok (.iload 4, 2) := by decide +kernel
theorem dX2_takeFromFront_26 : decode cX2_takeFromFront 26 = .ok (.aaload, 1) := by decide +kernel
theorem dX2_takeFromFront_27 : decode cX2_takeFromFront 27 = .ok (.getfield 36, 3) := by decide +kernel
theorem dX2_takeFromFront_30 : decode cX2_takeFromFront 30 = .ok (.iload_n 2, 1) := by decide +kernel
theorem dX2_takeFromFront_31 : decode cX2_takeFromFront 31 = .ok (.invokestatic 46, 3) := by decide +kernel
theorem dX2_takeFromFront_34 : decode cX2_takeFromFront 34 = .ok (.istore 5, 2) := by decide +kernel
theorem dX2_takeFromFront_36 : decode cX2_takeFromFront 36 = .ok (.aload_n 0, 1) := by decide +kernel
theorem dX2_takeFromFront_37 : decode cX2_takeFromFront 37 = .ok (.getfield 11, 3) := by decide +kernel
theorem dX2_takeFromFront_40 : decode cX2_takeFromFront 40 = .ok (.iload 4, 2) := by decide +kernel
theorem dX2_takeFromFront_42 : decode cX2_takeFromFront 42 = .ok (.aaload, 1) := by decide +kernel
theorem dX2_takeFromFront_43 : decode cX2_takeFromFront 43 = .ok (.iload 5, 2) := by decide +kernel
theorem dX2_takeFromFront_45 : decode cX2_takeFromFront 45 = .ok (.invokevirtual 52, 3) := by decide +kernel
theorem dX2_takeFromFront_48 : decode cX2_takeFromFront 48 = .ok (.iload_n 2, 1) := by decide +kernel
theorem dX2_takeFromFront_49 : decode cX2_takeFromFront 49 = .ok (.iload 5, 2) := by decide +kernel
theorem dX2_takeFromFront_51 : decode cX2_takeFromFront 51 = .ok (.isub, 1) := by decide +kernel
theorem dX2_takeFromFront_52 : decode cX2_takeFromFront 52 = .ok (.istore_n 2, 1) := by decide +kernel
theorem dX2_takeFromFront_53 : decode cX2_takeFromFront 53 = .ok (.iload_n 3, 1) := by decide +kernel
theorem dX2_takeFromFront_54 : decode cX2_takeFromFront 54 = .ok (.iload 5, 2) := by decide +kernel
theorem dX2_takeFromFront_56 : decode cX2_takeFromFront 56 = .ok (.ifCond .le 7, 3) := by decide +kernel
theorem dX2_takeFromFront_59 : decode cX2_takeFromFront 59 = .ok (.iconst 1, 1) := by decide +kernel
theorem dX2_takeFromFront_60 : decode cX2_takeFromFront 60 = .ok (.goto 4, 3) := by decide +kernel
theorem dX2_takeFromFront_63 : decode cX2_takeFromFront 63 = .ok (.iconst 0, 1) := by decide +kernel
theorem dX2_takeFromFront_64 : decode cX2_takeFromFront 64 = .ok (.iadd, 1) := by decide +kernel
theorem dX2_takeFromFront_65 : decode cX2_takeFromFront 65 = .ok (.istore_n 3, 1) := by decide +kernel
theorem dX2_takeFromFront_66 : decode cX2_takeFromFront 66 = .ok (.iinc 4 1, 3) := by decide +kernel
theorem dX2_takeFromFront_69 : decode cX2_takeFromFront 69 = .ok (.goto (-62), 3) := by decide +kernel
theorem dX2_takeFromFront_72 : decode cX2_takeFromFront 72 = .ok (.iload_n 3, 1) := by decide +kernel
theorem dX2_takeFromFront_73 : decode cX2_takeFromFront 73 = .ok (.ireturn, 1) := by decide +kernel
set_option maxRecDepth 20000 in
theorem ggX2_letGoOff_X0_goingOff : GoodIn wsX2_letGoOff wsX0_goingOff := goodIn_r _ [7, 8, 9, 10, 11, 12, 13, 14, 15, 16, 17, 18, 19, 20, 31, 32, 33, 34] (by decide +kernel) (by decide +kernel)
set_option maxRecDepth 20000 in
theorem gX2_letGoOff_X0_goingOff : GoodIn wsX2_letGoOff (wsV RX2 56 RX0 yX0_goingOff wsX0_goingOff) := goodIn_app (goodIn_of _ (by decide +kernel)) ggX2_letGoOff_X0_goingOff
set_option maxRecDepth 20000 in
theorem ggX2_letGoOff_X0_take : GoodIn wsX2_letGoOff wsX0_take := goodIn_r _ [24, 14, 25, 26, 27, 12, 28, 31, 32, 33, 34] (by decide +kernel) (by decide +kernel)
set_option maxRecDepth 20000 in
theorem gX2_letGoOff_X0_take : GoodIn wsX2_letGoOff (wsV RX2 52 RX0 yX0_take wsX0_take) := goodIn_app (goodIn_of _ (by decide +kernel)) ggX2_letGoOff_X0_take
theorem dX2_letGoOff_0 : decode cX2_letGoOff 0 = .ok (.iconst 0, 1) := by decide +kernel
theorem dX2_letGoOff_1 : decode cX2_letGoOff 1 = .ok (.istore_n 3, 1) := by decide +kernel
theorem dX2_letGoOff_2 : decode cX2_letGoOff 2 = .ok (.iconst 0, 1) := by decide +kernel
theorem dX2_letGoOff_3 : decode cX2_letGoOff 3 = .ok (.istore 4, 2) := by decide +kernel
theorem dX2_letGoOff_5 : decode cX2_letGoOff 5 = .ok (.iload 4, 2) := by decide +kernel
theorem dX2_letGoOff_7 : decode cX2_letGoOff 7 = .ok (.aload_n 0, 1) := by decide +kernel
theorem dX2_letGoOff_8 : decode cX2_letGoOff 8 = .ok (.getfield 18, 3) := by decide +kernel
theorem dX2_letGoOff_11 : decode cX2_letGoOff 11 = .ok (.if_icmp .ge 40, 3) := by decide +kernel
theorem dX2_letGoOff_14 : decode cX2_letGoOff 14 = .ok (.aload_n 0, 1) := by decide +kernel
theorem dX2_letGoOff_15 : decode cX2_letGoOff 15 = .ok (.getfield 11, 3) := by decide +kernel
theorem dX2_letGoOff_18 : decode cX2_letGoOff 18 = .ok (.iload 4, 2) := by decide +kernel
theorem dX2_letGoOff_20 : decode cX2_letGoOff 20 = .ok (.aaload, 1) := by decide +kernel
theorem dX2_letGoOff_21 : decode cX2_letGoOff 21 = .ok (.iload_n 1, 1) := by decide +kernel
theorem dX2_letGoOff_22 : decode cX2_letGoOff 22 = .ok (.iload_n 2, 1) := by decide +kernel
theorem dX2_letGoOff_23 : decode cX2_letGoOff 23 = .ok (.invokevirtual 56, 3) := by decide +kernel
theorem dX2_letGoOff_26 : decode cX2_letGoOff 26 = .ok (.istore 5, 2) := by decide +kernel
theorem dX2_letGoOff_28 : decode cX2_letGoOff 28 = .ok (.aload_n 0, 1) := by decide +kernel
theorem dX2_letGoOff_29 : decode cX2_letGoOff 29 = .ok (.getfield 11, 3) := by decide +kernel
theorem dX2_letGoOff_32 : decode cX2_letGoOff 32 = .ok (.iload 4, 2) := by decide +kernel
theorem dX2_letGoOff_34 : decode cX2_letGoOff 34 = .ok (.aaload, 1) := by decide +kernel
theorem dX2_letGoOff_35 : decode cX2_letGoOff 35 = .ok (.iload 5, 2) := by decide +kernel
theorem dX2_letGoOff_37 : decode cX2_letGoOff 37 = .ok (.invokevirtual 52, 3) := by decide +kernel
theorem dX2_letGoOff_40 : decode cX2_letGoOff 40 = .ok (.iload_n 3, 1) := by decide +kernel
theorem dX2_letGoOff_41 : decode cX2_letGoOff 41 = .ok (.iload 5, 2) := by decide +kernel
theorem dX2_letGoOff_43 : decode cX2_letGoOff 43 = .ok (.iadd, 1) := by decide +kernel
theorem dX2_letGoOff_44 : decode cX2_letGoOff 44 = .ok (.istore_n 3, 1) := by decide +kernel
theorem dX2_letGoOff_45 : decode cX2_letGoOff 45 = .ok (.iinc 4 1, 3) := by decide +kernel
theorem dX2_letGoOff_48 : decode cX2_letGoOff 48 = .ok (.goto (-43), 3) := by decide +kernel
theorem dX2_letGoOff_51 : decode cX2_letGoOff 51 = .ok (.iload_n 3, 1) := by decide +kernel
theorem dX2_letGoOff_52 : decode cX2_letGoOff 52 = .ok (.ireturn, 1) := by decide +kernel
theorem dX3_init_0 : decode cX3_init 0 = .ok (.aload_n 0, 1) := by decide +kernel
theorem dX3_init_1 : decode cX3_init 1 = .ok (.invokespecial 3, 3) := by decide +kernel
theorem dX3_init_4 : decode cX3_init 4 = .ok (.aload_n 0, 1) := by decide +kernel
theorem dX3_init_5 : decode cX3_init 5 = .ok (.bipush 80, 2) := by decide +kernel
theorem dX3_init_7 : decode cX3_init 7 = .ok (.newarray .int, 2) := by decide +kernel
theorem dX3_init_9 : decode cX3_init 9 = .ok (.putfield 9, 3) := by decide +kernel
theorem dX3_init_12 : decode cX3_init 12 = .ok (.return_, 1) := by decide +kernel
theorem dX4_init_0 : decode cX4_init 0 = .ok (.aload_n 0, 1) := by decide +kernel
theorem dX4_init_1 : decode cX4_init 1 = .ok (.invokespecial 3, 3) := by decide +kernel
theorem dX4_init_4 : decode cX4_init 4 = .ok (.aload_n 0, 1) := by decide +kernel
theorem dX4_init_5 : decode cX4_init 5 = .ok (.bipush 12, 2) := by decide +kernel
theorem dX4_init_7 : decode cX4_init 7 = .ok (.newarray .int, 2) := by decide +kernel
theorem dX4_init_9 : decode cX4_init 9 = .ok (.putfield 9, 3) := by decide +kernel
theorem dX4_init_12 : decode cX4_init 12 = .ok (.aload_n 0, 1) := by decide +kernel
theorem dX4_init_13 : decode cX4_init 13 = .ok (.bipush 12, 2) := by decide +kernel
theorem dX4_init_15 : decode cX4_init 15 = .ok (.newarray .int, 2) := by decide +kernel
theorem dX4_init_17 : decode cX4_init 17 = .ok (.putfield 15, 3) := by decide +kernel
theorem dX4_init_20 : decode cX4_init 20 = .ok (.aload_n 0, 1) := by decide +kernel
theorem dX4_init_21 : decode cX4_init 21 = .ok (.iconst (-1), 1) := by decide +kernel
theorem dX4_init_22 : decode cX4_init 22 = .ok (.putfield 18, 3) := by decide +kernel
theorem dX4_init_25 : decode cX4_init 25 = .ok (.return_, 1) := by decide +kernel
set_option maxRecDepth 20000 in
theorem ggX4_hasLeg_X9_within : GoodIn wsX4_hasLeg wsX9_within := goodIn_r _ [4] (by decide +kernel) (by decide +kernel)
set_option maxRecDepth 20000 in
theorem gX4_hasLeg_X9_within_n34 : GoodIn wsX4_hasLeg (wsX9_within) := ggX4_hasLeg_X9_within
theorem dX4_hasLeg_0 : decode cX4_hasLeg 0 = .ok (.iload_n 1, 1) := by decide +kernel
theorem dX4_hasLeg_1 : decode cX4_hasLeg 1 = .ok (.iconst 0, 1) := by decide +kernel
theorem dX4_hasLeg_2 : decode cX4_hasLeg 2 = .ok (.aload_n 0, 1) := by decide +kernel
theorem dX4_hasLeg_3 : decode cX4_hasLeg 3 = .ok (.getfield 28, 3) := by decide +kernel
theorem dX4_hasLeg_6 : decode cX4_hasLeg 6 = .ok (.iconst 1, 1) := by decide +kernel
theorem dX4_hasLeg_7 : decode cX4_hasLeg 7 = .ok (.isub, 1) := by decide +kernel
theorem dX4_hasLeg_8 : decode cX4_hasLeg 8 = .ok (.invokestatic 34, 3) := by decide +kernel
theorem dX4_hasLeg_11 : decode cX4_hasLeg 11 = .ok (.ireturn, 1) := by decide +kernel
set_option maxRecDepth 20000 in
theorem ggX4_hasNextLeg_X4_hasLeg : GoodIn wsX4_hasNextLeg wsX4_hasLeg := goodIn_r _ [6, 7, 8, 9, 10, 11, 12, 13, 14, 15] (by decide +kernel) (by decide +kernel)
set_option maxRecDepth 20000 in
theorem gX4_hasNextLeg_X4_hasLeg : GoodIn wsX4_hasNextLeg (wsV RX4 38 RX4 yX4_hasLeg wsX4_hasLeg) := goodIn_app (goodIn_of _ (by decide +kernel)) ggX4_hasNextLeg_X4_hasLeg
theorem dX4_hasNextLeg_0 : decode cX4_hasNextLeg 0 = .ok (.aload_n 0, 1) := by decide +kernel
theorem dX4_hasNextLeg_1 : decode cX4_hasNextLeg 1 = .ok (.aload_n 0, 1) := by decide +kernel
theorem dX4_hasNextLeg_2 : decode cX4_hasNextLeg 2 = .ok (.getfield 18, 3) := by decide +kernel
theorem dX4_hasNextLeg_5 : decode cX4_hasNextLeg 5 = .ok (.iconst 1, 1) := by decide +kernel
theorem dX4_hasNextLeg_6 : decode cX4_hasNextLeg 6 = .ok (.iadd, 1) := by decide +kernel
theorem dX4_hasNextLeg_7 : decode cX4_hasNextLeg 7 = .ok (.invokevirtual 38, 3) := by decide +kernel
theorem dX4_hasNextLeg_10 : decode cX4_hasNextLeg 10 = .ok (.ireturn, 1) := by decide +kernel
theorem dX4_isOnTheWay_0 : decode cX4_isOnTheWay 0 = .ok (.aload_n 0, 1) := by decide +kernel
theorem dX4_isOnTheWay_1 : decode cX4_isOnTheWay 1 = .ok (.getfield 31, 3) := by decide +kernel
theorem dX4_isOnTheWay_4 : decode cX4_isOnTheWay 4 = .ok (.ifCond .le 7, 3) := by decide +kernel
theorem dX4_isOnTheWay_7 : decode cX4_isOnTheWay 7 = .ok (.iconst 1, 1) := by decide +kernel
theorem dX4_isOnTheWay_8 : decode cX4_isOnTheWay 8 = .ok (.goto 4, 3) := by decide +kernel
theorem dX4_isOnTheWay_11 : decode cX4_isOnTheWay 11 = .ok (.iconst 0, 1) := by decide +kernel
theorem dX4_isOnTheWay_12 : decode cX4_isOnTheWay 12 = .ok (.ireturn, 1) := by decide +kernel
set_option maxRecDepth 20000 in
theorem ggX4_durationOf_X4_hasLeg : GoodIn wsX4_durationOf wsX4_hasLeg := goodIn_r _ [6, 7, 8, 9, 10, 11, 12, 13, 14, 15] (by decide +kernel) (by decide +kernel)
set_option maxRecDepth 20000 in
theorem gX4_durationOf_X4_hasLeg : GoodIn wsX4_durationOf (wsV RX4 38 RX4 yX4_hasLeg wsX4_hasLeg) := goodIn_app (goodIn_of _ (by decide +kernel)) ggX4_durationOf_X4_hasLeg
theorem dX4_durationOf_0 : decode cX4_durationOf 0 = .ok (.aload_n 0, 1) := by decide +kernel
theorem dX4_durationOf_1 : decode cX4_durationOf 1 = .ok (.iload_n 1, 1) := by decide +kernel
theorem dX4_durationOf_2 : decode cX4_durationOf 2 = .ok (.invokevirtual 38, 3) := by decide +kernel
theorem dX4_durationOf_5 : decode cX4_durationOf 5 = .ok (.ifCond .eq 12, 3) := by decide +kernel
theorem dX4_durationOf_8 : decode cX4_durationOf 8 = .ok (.aload_n 0, 1) := by decide +kernel
theorem dX4_durationOf_9 : decode cX4_durationOf 9 = .ok (.getfield 9, 3) := by decide +kernel
theorem dX4_durationOf_12 : decode cX4_durationOf 12 = .ok (.iload_n 1, 1) := by decide +kernel
theorem dX4_durationOf_13 : decode cX4_durationOf 13 = .ok (.iaload, 1) := by decide +kernel
theorem dX4_durationOf_14 : decode cX4_durationOf 14 = .ok (.goto 4, 3) := by decide +kernel
theorem dX4_durationOf_17 : decode cX4_durationOf 17 = .ok (.iconst 0, 1) := by decide +kernel
theorem dX4_durationOf_18 : decode cX4_durationOf 18 = .ok (.ireturn, 1) := by decide +kernel
set_option maxRecDepth 20000 in
theorem ggX4_outsideOf_X4_hasLeg : GoodIn wsX4_outsideOf wsX4_hasLeg := goodIn_r _ [6, 7, 8, 9, 10, 11, 12, 13, 14, 15] (by decide +kernel) (by decide +kernel)
set_option maxRecDepth 20000 in
theorem gX4_outsideOf_X4_hasLeg : GoodIn wsX4_outsideOf (wsV RX4 38 RX4 yX4_hasLeg wsX4_hasLeg) := goodIn_app (goodIn_of _ (by decide +kernel)) ggX4_outsideOf_X4_hasLeg
theorem dX4_outsideOf_0 : decode cX4_outsideOf 0 = .ok (.aload_n 0, 1) := by decide +kernel
theorem dX4_outsideOf_1 : decode cX4_outsideOf 1 = .ok (.iload_n 1, 1) := by decide +kernel
theorem dX4_outsideOf_2 : decode cX4_outsideOf 2 = .ok (.invokevirtual 38, 3) := by decide +kernel
theorem dX4_outsideOf_5 : decode cX4_outsideOf 5 = .ok (.ifCond .eq 12, 3) := by decide +kernel
theorem dX4_outsideOf_8 : decode cX4_outsideOf 8 = .ok (.aload_n 0, 1) := by decide +kernel
theorem dX4_outsideOf_9 : decode cX4_outsideOf 9 = .ok (.getfield 15, 3) := by decide +kernel
theorem dX4_outsideOf_12 : decode cX4_outsideOf 12 = .ok (.iload_n 1, 1) := by decide +kernel
theorem dX4_outsideOf_13 : decode cX4_outsideOf 13 = .ok (.iaload, 1) := by decide +kernel
theorem dX4_outsideOf_14 : decode cX4_outsideOf 14 = .ok (.goto 4, 3) := by decide +kernel
theorem dX4_outsideOf_17 : decode cX4_outsideOf 17 = .ok (.iconst 0, 1) := by decide +kernel
theorem dX4_outsideOf_18 : decode cX4_outsideOf 18 = .ok (.ireturn, 1) := by decide +kernel
set_option maxRecDepth 20000 in
theorem ggX4_outsideNow_X4_hasLeg : GoodIn wsX4_outsideNow wsX4_hasLeg := goodIn_r _ [7, 8, 9, 10, 11, 12, 13, 14, 15, 16] (by decide +kernel) (by decide +kernel)
set_option maxRecDepth 20000 in
theorem gX4_outsideNow_X4_hasLeg : GoodIn wsX4_outsideNow (wsV RX4 38 RX4 yX4_hasLeg wsX4_hasLeg) := goodIn_app (goodIn_of _ (by decide +kernel)) ggX4_outsideNow_X4_hasLeg
theorem dX4_outsideNow_0 : decode cX4_outsideNow 0 = .ok (.aload_n 0, 1) := by decide +kernel
theorem dX4_outsideNow_1 : decode cX4_outsideNow 1 = .ok (.aload_n 0, 1) := by decide +kernel
theorem dX4_outsideNow_2 : decode cX4_outsideNow 2 = .ok (.getfield 18, 3) := by decide +kernel
theorem dX4_outsideNow_5 : decode cX4_outsideNow 5 = .ok (.invokevirtual 38, 3) := by decide +kernel
theorem dX4_outsideNow_8 : decode cX4_outsideNow 8 = .ok (.ifCond .eq 15, 3) := by decide +kernel
theorem dX4_outsideNow_11 : decode cX4_outsideNow 11 = .ok (.aload_n 0, 1) := by decide +kernel
theorem dX4_outsideNow_12 : decode cX4_outsideNow 12 = .ok (.getfield 15, 3) := by decide +kernel
theorem dX4_outsideNow_15 : decode cX4_outsideNow 15 = .ok (.aload_n 0, 1) := by decide +kernel
theorem dX4_outsideNow_16 : decode cX4_outsideNow 16 = .ok (.getfield 18, 3) := by decide +kernel
theorem dX4_outsideNow_19 : decode cX4_outsideNow 19 = .ok (.iaload, 1) := by decide +kernel
theorem dX4_outsideNow_20 : decode cX4_outsideNow 20 = .ok (.goto 6, 3) := by decide +kernel
theorem dX4_outsideNow_23 : decode cX4_outsideNow 23 = .ok (.sipush 2000, 3) := by decide +kernel
theorem dX4_outsideNow_26 : decode cX4_outsideNow 26 = .ok (.ireturn, 1) := by decide +kernel
theorem dX4_append_0 : decode cX4_append 0 = .ok (.aload_n 0, 1) := by decide +kernel
theorem dX4_append_1 : decode cX4_append 1 = .ok (.getfield 28, 3) := by decide +kernel
theorem dX4_append_4 : decode cX4_append 4 = .ok (.bipush 12, 2) := by decide +kernel
theorem dX4_append_6 : decode cX4_append 6 = .ok (.if_icmp .lt 4, 3) := by decide +kernel
theorem dX4_append_9 : decode cX4_append 9 = .ok (.return_, 1) := by decide +kernel
theorem dX4_append_10 : decode cX4_append 10 = .ok (.aload_n 0, 1) := by decide +kernel
theorem dX4_append_11 : decode cX4_append 11 = .ok (.getfield 9, 3) := by decide +kernel
theorem dX4_append_14 : decode cX4_append 14 = .ok (.aload_n 0, 1) := by decide +kernel
theorem dX4_append_15 : decode cX4_append 15 = .ok (.getfield 28, 3) := by decide +kernel
theorem dX4_append_18 : decode cX4_append 18 = .ok (.iload_n 1, 1) := by decide +kernel
theorem dX4_append_19 : decode cX4_append 19 = .ok (.iastore, 1) := by decide +kernel
theorem dX4_append_20 : decode cX4_append 20 = .ok (.aload_n 0, 1) := by decide +kernel
theorem dX4_append_21 : decode cX4_append 21 = .ok (.getfield 15, 3) := by decide +kernel
theorem dX4_append_24 : decode cX4_append 24 = .ok (.aload_n 0, 1) := by decide +kernel
theorem dX4_append_25 : decode cX4_append 25 = .ok (.getfield 28, 3) := by decide +kernel
theorem dX4_append_28 : decode cX4_append 28 = .ok (.iload_n 2, 1) := by decide +kernel
theorem dX4_append_29 : decode cX4_append 29 = .ok (.iastore, 1) := by decide +kernel
theorem dX4_append_30 : decode cX4_append 30 = .ok (.aload_n 0, 1) := by decide +kernel
theorem dX4_append_31 : decode cX4_append 31 = .ok (.dup, 1) := by decide +kernel
theorem dX4_append_32 : decode cX4_append 32 = .ok (.getfield 28, 3) := by decide +kernel
theorem dX4_append_35 : decode cX4_append 35 = .ok (.iconst 1, 1) := by decide +kernel
theorem dX4_append_36 : decode cX4_append 36 = .ok (.iadd, 1) := by decide +kernel
theorem dX4_append_37 : decode cX4_append 37 = .ok (.putfield 28, 3) := by decide +kernel
theorem dX4_append_40 : decode cX4_append 40 = .ok (.return_, 1) := by decide +kernel
set_option maxRecDepth 20000 in
theorem ggX4_beginNextLeg_X4_hasNextLeg : GoodIn wsX4_beginNextLeg wsX4_hasNextLeg := goodIn_r _ [8, 1, 9, 10, 11, 7, 12, 13, 14, 15, 16, 17, 18, 19, 20, 21] (by decide +kernel) (by decide +kernel)
set_option maxRecDepth 20000 in
theorem gX4_beginNextLeg_X4_hasNextLeg : GoodIn wsX4_beginNextLeg (wsV RX4 42 RX4 yX4_hasNextLeg wsX4_hasNextLeg) := goodIn_app (goodIn_of _ (by decide +kernel)) ggX4_beginNextLeg_X4_hasNextLeg
theorem dX4_beginNextLeg_0 : decode cX4_beginNextLeg 0 = .ok (.aload_n 0, 1) := by decide +kernel
theorem dX4_beginNextLeg_1 : decode cX4_beginNextLeg 1 = .ok (.invokevirtual 42, 3) := by decide +kernel
theorem dX4_beginNextLeg_4 : decode cX4_beginNextLeg 4 = .ok (.ifCond .eq 26, 3) := by decide +kernel
theorem dX4_beginNextLeg_7 : decode cX4_beginNextLeg 7 = .ok (.aload_n 0, 1) := by decide +kernel
theorem dX4_beginNextLeg_8 : decode cX4_beginNextLeg 8 = .ok (.dup, 1) := by decide +kernel
theorem dX4_beginNextLeg_9 : decode cX4_beginNextLeg 9 = .ok (.getfield 18, 3) := by decide +kernel
theorem dX4_beginNextLeg_12 : decode cX4_beginNextLeg 12 = .ok (.iconst 1, 1) := by decide +kernel
theorem dX4_beginNextLeg_13 : decode cX4_beginNextLeg 13 = .ok (.iadd, 1) := by decide +kernel
theorem dX4_beginNextLeg_14 : decode cX4_beginNextLeg 14 = .ok (.putfield 18, 3) := by decide +kernel
theorem dX4_beginNextLeg_17 : decode cX4_beginNextLeg 17 = .ok (.aload_n 0, 1) := by decide +kernel
theorem dX4_beginNextLeg_18 : decode cX4_beginNextLeg 18 = .ok (.aload_n 0, 1) := by decide +kernel
theorem dX4_beginNextLeg_19 : decode cX4_beginNextLeg 19 = .ok (.getfield 9, 3) := by decide +kernel
theorem dX4_beginNextLeg_22 : decode cX4_beginNextLeg 22 = .ok (.aload_n 0, 1) := by decide +kernel
theorem dX4_beginNextLeg_23 : decode cX4_beginNextLeg 23 = .ok (.getfield 18, 3) := by decide +kernel
theorem dX4_beginNextLeg_26 : decode cX4_beginNextLeg 26 = .ok (.iaload, 1) := by decide +kernel
theorem dX4_beginNextLeg_27 : decode cX4_beginNextLeg 27 = .ok (.putfield 31, 3) := by decide +kernel
theorem dX4_beginNextLeg_30 : decode cX4_beginNextLeg 30 = .ok (.return_, 1) := by decide +kernel
set_option maxRecDepth 20000 in
theorem ggX4_letMinutePass_X4_isOnTheWay : GoodIn wsX4_letMinutePass wsX4_isOnTheWay := goodIn_r _ [6, 1, 7, 8, 9, 10, 11] (by decide +kernel) (by decide +kernel)
set_option maxRecDepth 20000 in
theorem gX4_letMinutePass_X4_isOnTheWay : GoodIn wsX4_letMinutePass (wsV RX4 46 RX4 yX4_isOnTheWay wsX4_isOnTheWay) := goodIn_app (goodIn_of _ (by decide +kernel)) ggX4_letMinutePass_X4_isOnTheWay
theorem dX4_letMinutePass_0 : decode cX4_letMinutePass 0 = .ok (.aload_n 0, 1) := by decide +kernel
theorem dX4_letMinutePass_1 : decode cX4_letMinutePass 1 = .ok (.invokevirtual 46, 3) := by decide +kernel
theorem dX4_letMinutePass_4 : decode cX4_letMinutePass 4 = .ok (.ifCond .eq 13, 3) := by decide +kernel
theorem dX4_letMinutePass_7 : decode cX4_letMinutePass 7 = .ok (.aload_n 0, 1) := by decide +kernel
theorem dX4_letMinutePass_8 : decode cX4_letMinutePass 8 = .ok (.dup, 1) := by decide +kernel
theorem dX4_letMinutePass_9 : decode cX4_letMinutePass 9 = .ok (.getfield 31, 3) := by decide +kernel
theorem dX4_letMinutePass_12 : decode cX4_letMinutePass 12 = .ok (.iconst 1, 1) := by decide +kernel
theorem dX4_letMinutePass_13 : decode cX4_letMinutePass 13 = .ok (.isub, 1) := by decide +kernel
theorem dX4_letMinutePass_14 : decode cX4_letMinutePass 14 = .ok (.putfield 31, 3) := by decide +kernel
theorem dX4_letMinutePass_17 : decode cX4_letMinutePass 17 = .ok (.return_, 1) := by decide +kernel
theorem dX5_init_0 : decode cX5_init 0 = .ok (.aload_n 0, 1) := by decide +kernel
theorem dX5_init_1 : decode cX5_init 1 = .ok (.invokespecial 3, 3) := by decide +kernel
theorem dX5_init_4 : decode cX5_init 4 = .ok (.aload_n 0, 1) := by decide +kernel
theorem dX5_init_5 : decode cX5_init 5 = .ok (.bipush 20, 2) := by decide +kernel
theorem dX5_init_7 : decode cX5_init 7 = .ok (.newarray .int, 2) := by decide +kernel
theorem dX5_init_9 : decode cX5_init 9 = .ok (.putfield 11, 3) := by decide +kernel
theorem dX5_init_12 : decode cX5_init 12 = .ok (.aload_n 0, 1) := by decide +kernel
theorem dX5_init_13 : decode cX5_init 13 = .ok (.bipush 20, 2) := by decide +kernel
theorem dX5_init_15 : decode cX5_init 15 = .ok (.newarray .int, 2) := by decide +kernel
theorem dX5_init_17 : decode cX5_init 17 = .ok (.putfield 15, 3) := by decide +kernel
theorem dX5_init_20 : decode cX5_init 20 = .ok (.return_, 1) := by decide +kernel
theorem dX6_init_0 : decode cX6_init 0 = .ok (.aload_n 0, 1) := by decide +kernel
theorem dX6_init_1 : decode cX6_init 1 = .ok (.invokespecial 3, 3) := by decide +kernel
theorem dX6_init_4 : decode cX6_init 4 = .ok (.aload_n 0, 1) := by decide +kernel
theorem dX6_init_5 : decode cX6_init 5 = .ok (.getstatic 9, 3) := by decide +kernel
theorem dX6_init_8 : decode cX6_init 8 = .ok (.invokevirtual 13, 3) := by decide +kernel
theorem dX6_init_11 : decode cX6_init 11 = .ok (.checkcast 14, 3) := by decide +kernel
theorem dX6_init_14 : decode cX6_init 14 = .ok (.putfield 18, 3) := by decide +kernel
theorem dX6_init_17 : decode cX6_init 17 = .ok (.return_, 1) := by decide +kernel
set_option maxRecDepth 20000 in
theorem ggX6_allows_X9_within : GoodIn wsX6_allows wsX9_within := goodIn_r _ [3] (by decide +kernel) (by decide +kernel)
set_option maxRecDepth 20000 in
theorem gX6_allows_X9_within_n29 : GoodIn wsX6_allows (wsX9_within) := ggX6_allows_X9_within
theorem dX6_allows_0 : decode cX6_allows 0 = .ok (.iload_n 1, 1) := by decide +kernel
theorem dX6_allows_1 : decode cX6_allows 1 = .ok (.iconst 0, 1) := by decide +kernel
theorem dX6_allows_2 : decode cX6_allows 2 = .ok (.bipush 10, 2) := by decide +kernel
theorem dX6_allows_4 : decode cX6_allows 4 = .ok (.invokestatic 29, 3) := by decide +kernel
theorem dX6_allows_7 : decode cX6_allows 7 = .ok (.ifCond .eq 24, 3) := by decide +kernel
theorem dX6_allows_10 : decode cX6_allows 10 = .ok (.iload_n 2, 1) := by decide +kernel
theorem dX6_allows_11 : decode cX6_allows 11 = .ok (.getstatic 33, 3) := by decide +kernel
theorem dX6_allows_14 : decode cX6_allows 14 = .ok (.iload_n 1, 1) := by decide +kernel
theorem dX6_allows_15 : decode cX6_allows 15 = .ok (.iaload, 1) := by decide +kernel
theorem dX6_allows_16 : decode cX6_allows 16 = .ok (.getstatic 36, 3) := by decide +kernel
theorem dX6_allows_19 : decode cX6_allows 19 = .ok (.iload_n 1, 1) := by decide +kernel
theorem dX6_allows_20 : decode cX6_allows 20 = .ok (.iaload, 1) := by decide +kernel
theorem dX6_allows_21 : decode cX6_allows 21 = .ok (.invokestatic 29, 3) := by decide +kernel
theorem dX6_allows_24 : decode cX6_allows 24 = .ok (.ifCond .eq 7, 3) := by decide +kernel
theorem dX6_allows_27 : decode cX6_allows 27 = .ok (.iconst 1, 1) := by decide +kernel
theorem dX6_allows_28 : decode cX6_allows 28 = .ok (.goto 4, 3) := by decide +kernel
theorem dX6_allows_31 : decode cX6_allows 31 = .ok (.iconst 0, 1) := by decide +kernel
theorem dX6_allows_32 : decode cX6_allows 32 = .ok (.ireturn, 1) := by decide +kernel
set_option maxRecDepth 20000 in
theorem ggX6_value_X9_within : GoodIn wsX6_value wsX9_within := goodIn_r _ [4] (by decide +kernel) (by decide +kernel)
set_option maxRecDepth 20000 in
theorem gX6_value_X9_within_n29 : GoodIn wsX6_value (wsX9_within) := ggX6_value_X9_within
theorem dX6_value_0 : decode cX6_value 0 = .ok (.iload_n 1, 1) := by decide +kernel
theorem dX6_value_1 : decode cX6_value 1 = .ok (.iconst 0, 1) := by decide +kernel
theorem dX6_value_2 : decode cX6_value 2 = .ok (.bipush 10, 2) := by decide +kernel
theorem dX6_value_4 : decode cX6_value 4 = .ok (.invokestatic 29, 3) := by decide +kernel
theorem dX6_value_7 : decode cX6_value 7 = .ok (.ifCond .eq 12, 3) := by decide +kernel
theorem dX6_value_10 : decode cX6_value 10 = .ok (.aload_n 0, 1) := by decide +kernel
theorem dX6_value_11 : decode cX6_value 11 = .ok (.getfield 18, 3) := by decide +kernel
theorem dX6_value_14 : decode cX6_value 14 = .ok (.iload_n 1, 1) := by decide +kernel
theorem dX6_value_15 : decode cX6_value 15 = .ok (.iaload, 1) := by decide +kernel
theorem dX6_value_16 : decode cX6_value 16 = .ok (.goto 4, 3) := by decide +kernel
theorem dX6_value_19 : decode cX6_value 19 = .ok (.iconst 0, 1) := by decide +kernel
theorem dX6_value_20 : decode cX6_value 20 = .ok (.ireturn, 1) := by decide +kernel
set_option maxRecDepth 20000 in
theorem ggX6_change_X6_value : GoodIn wsX6_change wsX6_value := goodIn_r _ [6, 1, 7, 8, 9, 14] (by decide +kernel) (by decide +kernel)
set_option maxRecDepth 20000 in
theorem gX6_change_X6_value : GoodIn wsX6_change (wsV RX6 39 RX6 yX6_value wsX6_value) := goodIn_app (goodIn_of _ (by decide +kernel)) ggX6_change_X6_value
set_option maxRecDepth 20000 in
theorem ggX6_change_X6_allows : GoodIn wsX6_change wsX6_allows := goodIn_r _ [13, 7, 8, 9] (by decide +kernel) (by decide +kernel)
set_option maxRecDepth 20000 in
theorem gX6_change_X6_allows : GoodIn wsX6_change (wsV RX6 43 RX6 yX6_allows wsX6_allows) := goodIn_app (goodIn_of _ (by decide +kernel)) ggX6_change_X6_allows
theorem dX6_change_0 : decode cX6_change 0 = .ok (.aload_n 0, 1) := by decide +kernel
theorem dX6_change_1 : decode cX6_change 1 = .ok (.iload_n 1, 1) := by decide +kernel
theorem dX6_change_2 : decode cX6_change 2 = .ok (.invokevirtual 39, 3) := by decide +kernel
theorem dX6_change_5 : decode cX6_change 5 = .ok (.istore_n 3, 1) := by decide +kernel
theorem dX6_change_6 : decode cX6_change 6 = .ok (.aload_n 0, 1) := by decide +kernel
theorem dX6_change_7 : decode cX6_change 7 = .ok (.iload_n 1, 1) := by decide +kernel
theorem dX6_change_8 : decode cX6_change 8 = .ok (.iload_n 2, 1) := by decide +kernel
theorem dX6_change_9 : decode cX6_change 9 = .ok (.invokevirtual 43, 3) := by decide +kernel
theorem dX6_change_12 : decode cX6_change 12 = .ok (.ifCond .eq 10, 3) := by decide +kernel
theorem dX6_change_15 : decode cX6_change 15 = .ok (.aload_n 0, 1) := by decide +kernel
theorem dX6_change_16 : decode cX6_change 16 = .ok (.getfield 18, 3) := by decide +kernel
theorem dX6_change_19 : decode cX6_change 19 = .ok (.iload_n 1, 1) := by decide +kernel
theorem dX6_change_20 : decode cX6_change 20 = .ok (.iload_n 2, 1) := by decide +kernel
theorem dX6_change_21 : decode cX6_change 21 = .ok (.iastore, 1) := by decide +kernel
theorem dX6_change_22 : decode cX6_change 22 = .ok (.iload_n 3, 1) := by decide +kernel
theorem dX6_change_23 : decode cX6_change 23 = .ok (.ireturn, 1) := by decide +kernel
set_option maxRecDepth 20000 in
theorem ggX7_init_X8_init : GoodIn wsX7_init wsX8_init := goodIn_r _ [9, 10, 2, 3, 11, 12, 13, 14, 15, 16, 17, 18, 19, 20, 21, 22, 23, 24, 25, 26, 27, 28, 29, 30, 31, 32, 33, 34, 35, 36, 37, 38, 39, 40, 41, 42, 43, 44, 45, 46, 47, 48, 49, 50, 51, 52, 53, 54, 55, 56, 57, 58, 59, 72, 60, 61, 62, 63, 64, 65, 66, 67, 68, 69, 73, 74, 75, 76, 77, 78, 79, 80, 81, 82, 83, 84, 85, 86, 87, 88, 89, 90] (by decide +kernel) (by decide +kernel)
set_option maxRecDepth 20000 in
theorem gX7_init_X8_init_n9 : GoodIn wsX7_init (wsX8_init) := ggX7_init_X8_init
theorem dX7_init_0 : decode cX7_init 0 = .ok (.aload_n 0, 1) := by decide +kernel
theorem dX7_init_1 : decode cX7_init 1 = .ok (.invokespecial 1, 3) := by decide +kernel
theorem dX7_init_4 : decode cX7_init 4 = .ok (.aload_n 0, 1) := by decide +kernel
theorem dX7_init_5 : decode cX7_init 5 = .ok (.new 7, 3) := by decide +kernel
theorem dX7_init_8 : decode cX7_init 8 = .ok (.dup, 1) := by decide +kernel
theorem dX7_init_9 : decode cX7_init 9 = .ok (.invokespecial 9, 3) := by decide +kernel
theorem dX7_init_12 : decode cX7_init 12 = .ok (.putfield 10, 3) := by decide +kernel
theorem dX7_init_15 : decode cX7_init 15 = .ok (.return_, 1) := by decide +kernel
set_option maxRecDepth 20000 in
theorem ggX8_init_X6_init : GoodIn wsX8_init wsX6_init := goodIn_r _ [21, 22, 2, 3, 23, 24, 25, 26, 27, 28, 29, 53] (by decide +kernel) (by decide +kernel)
set_option maxRecDepth 20000 in
theorem gX8_init_X6_init_n11 : GoodIn wsX8_init (wsX6_init) := ggX8_init_X6_init
set_option maxRecDepth 20000 in
theorem ggX8_init_X2_init : GoodIn wsX8_init wsX2_init := goodIn_r _ [32, 33, 2, 3, 34, 35, 36, 37, 38, 39, 40, 64, 65, 78, 79, 80, 81] (by decide +kernel) (by decide +kernel)
set_option maxRecDepth 20000 in
theorem gX8_init_X2_init : GoodIn wsX8_init (wsX2_init) := ggX8_init_X2_init
set_option maxRecDepth 20000 in
theorem ggX8_init_X1_init : GoodIn wsX8_init wsX1_init := goodIn_r _ [42, 43, 2, 3, 44, 45, 66, 67, 68, 69, 70, 71, 72] (by decide +kernel) (by decide +kernel)
end
section
set_option maxRecDepth 20000 in
theorem gX8_init_X1_init_n27 : GoodIn wsX8_init (wsX1_init) := ggX8_init_X1_init
set_option maxRecDepth 20000 in
theorem ggX8_init_X4_init : GoodIn wsX8_init wsX4_init := goodIn_r _ [47, 48, 2, 3, 49, 50, 51, 52, 73, 74, 75, 76, 77] (by decide +kernel) (by decide +kernel)
set_option maxRecDepth 20000 in
theorem gX8_init_X4_init_n34 : GoodIn wsX8_init (wsX4_init) := ggX8_init_X4_init
theorem dX8_init_0 : decode cX8_init 0 = .ok (.aload_n 0, 1) := by decide +kernel
theorem dX8_init_1 : decode cX8_init 1 = .ok (.invokespecial 3, 3) := by decide +kernel
theorem dX8_init_4 : decode cX8_init 4 = .ok (.aload_n 0, 1) := by decide +kernel
theorem dX8_init_5 : decode cX8_init 5 = .ok (.new 9, 3) := by decide +kernel
theorem dX8_init_8 : decode cX8_init 8 = .ok (.dup, 1) := by decide +kernel
theorem dX8_init_9 : decode cX8_init 9 = .ok (.invokespecial 11, 3) := by decide +kernel
theorem dX8_init_12 : decode cX8_init 12 = .ok (.putfield 12, 3) := by decide +kernel
theorem dX8_init_15 : decode cX8_init 15 = .ok (.aload_n 0, 1) := by decide +kernel
theorem dX8_init_16 : decode cX8_init 16 = .ok (.new 18, 3) := by decide +kernel
theorem dX8_init_19 : decode cX8_init 19 = .ok (.dup, 1) := by decide +kernel
theorem dX8_init_20 : decode cX8_init 20 = .ok (.invokespecial 20, 3) := by decide +kernel
theorem dX8_init_23 : decode cX8_init 23 = .ok (.putfield 21, 3) := by decide +kernel
theorem dX8_init_26 : decode cX8_init 26 = .ok (.aload_n 0, 1) := by decide +kernel
theorem dX8_init_27 : decode cX8_init 27 = .ok (.new 25, 3) := by decide +kernel
theorem dX8_init_30 : decode cX8_init 30 = .ok (.dup, 1) := by decide +kernel
theorem dX8_init_31 : decode cX8_init 31 = .ok (.invokespecial 27, 3) := by decide +kernel
theorem dX8_init_34 : decode cX8_init 34 = .ok (.putfield 28, 3) := by decide +kernel
theorem dX8_init_37 : decode cX8_init 37 = .ok (.aload_n 0, 1) := by decide +kernel
theorem dX8_init_38 : decode cX8_init 38 = .ok (.new 32, 3) := by decide +kernel
theorem dX8_init_41 : decode cX8_init 41 = .ok (.dup, 1) := by decide +kernel
theorem dX8_init_42 : decode cX8_init 42 = .ok (.invokespecial 34, 3) := by decide +kernel
theorem dX8_init_45 : decode cX8_init 45 = .ok (.putfield 35, 3) := by decide +kernel
theorem dX8_init_48 : decode cX8_init 48 = .ok (.return_, 1) := by decide +kernel
set_option maxRecDepth 20000 in
theorem ggX8_concentration_X1_concentration : GoodIn wsX8_concentration wsX1_concentration := goodIn_r _ [7, 8, 9, 10, 11, 12, 13, 14, 15, 16, 17, 18, 19, 20, 31, 32, 33, 34, 35, 36, 37, 38] (by decide +kernel) (by decide +kernel)
set_option maxRecDepth 20000 in
theorem gX8_concentration_X1_concentration : GoodIn wsX8_concentration (wsV RX8 72 RX1 yX1_concentration wsX1_concentration) := goodIn_app (goodIn_of _ (by decide +kernel)) ggX8_concentration_X1_concentration
theorem dX8_concentration_0 : decode cX8_concentration 0 = .ok (.aload_n 0, 1) := by decide +kernel
theorem dX8_concentration_1 : decode cX8_concentration 1 = .ok (.getfield 28, 3) := by decide +kernel
theorem dX8_concentration_4 : decode cX8_concentration 4 = .ok (.aload_n 0, 1) := by decide +kernel
theorem dX8_concentration_5 : decode cX8_concentration 5 = .ok (.getfield 12, 3) := by decide +kernel
theorem dX8_concentration_8 : decode cX8_concentration 8 = .ok (.invokevirtual 72, 3) := by decide +kernel
theorem dX8_concentration_11 : decode cX8_concentration 11 = .ok (.lreturn, 1) := by decide +kernel
set_option maxRecDepth 20000 in
theorem ggX8_isSafe_X8_concentration : GoodIn wsX8_isSafe wsX8_concentration := goodIn_r _ [6, 7, 1, 8, 9, 10, 11, 12, 13, 14, 15, 16, 17, 18, 19, 20, 21, 22, 23, 24, 25, 27, 28, 29, 30, 31, 32, 33, 34, 35, 36, 37, 38, 39, 40, 41, 42, 43, 44] (by decide +kernel) (by decide +kernel)
set_option maxRecDepth 20000 in
theorem gX8_isSafe_X8_concentration : GoodIn wsX8_isSafe (wsV RX8 76 RX8 yX8_concentration wsX8_concentration) := goodIn_app (goodIn_of _ (by decide +kernel)) ggX8_isSafe_X8_concentration
set_option maxRecDepth 20000 in
theorem ggX8_isSafe_X6_value : GoodIn wsX8_isSafe wsX6_value := goodIn_r _ [19, 20, 21, 22, 23, 44] (by decide +kernel) (by decide +kernel)
set_option maxRecDepth 20000 in
theorem gX8_isSafe_X6_value : GoodIn wsX8_isSafe (wsV RX8 79 RX6 yX6_value wsX6_value) := goodIn_app (goodIn_of _ (by decide +kernel)) ggX8_isSafe_X6_value
theorem dX8_isSafe_0 : decode cX8_isSafe 0 = .ok (.aload_n 0, 1) := by decide +kernel
theorem dX8_isSafe_1 : decode cX8_isSafe 1 = .ok (.invokevirtual 76, 3) := by decide +kernel
theorem dX8_isSafe_4 : decode cX8_isSafe 4 = .ok (.aload_n 0, 1) := by decide +kernel
theorem dX8_isSafe_5 : decode cX8_isSafe 5 = .ok (.getfield 12, 3) := by decide +kernel
theorem dX8_isSafe_8 : decode cX8_isSafe 8 = .ok (.bipush 8, 2) := by decide +kernel
theorem dX8_isSafe_10 : decode cX8_isSafe 10 = .ok (.invokevirtual 79, 3) := by decide +kernel
theorem dX8_isSafe_13 : decode cX8_isSafe 13 = .ok (.i2l, 1) := by decide +kernel
theorem dX8_isSafe_14 : decode cX8_isSafe 14 = .ok (.lcmp, 1) := by decide +kernel
theorem dX8_isSafe_15 : decode cX8_isSafe 15 = .ok (.ifCond .ge 7, 3) := by decide +kernel
theorem dX8_isSafe_18 : decode cX8_isSafe 18 = .ok (.iconst 1, 1) := by decide +kernel
theorem dX8_isSafe_19 : decode cX8_isSafe 19 = .ok (.goto 4, 3) := by decide +kernel
theorem dX8_isSafe_22 : decode cX8_isSafe 22 = .ok (.iconst 0, 1) := by decide +kernel
theorem dX8_isSafe_23 : decode cX8_isSafe 23 = .ok (.ireturn, 1) := by decide +kernel
set_option maxRecDepth 20000 in
theorem ggX8_letPass_X8_letMinutePass : GoodIn wsX8_letPass wsX8_letMinutePass := goodIn_r _ [5, 6, 7, 8, 9, 10, 11, 12, 13, 14, 15, 16, 17, 18, 19, 20, 21, 22, 23, 24, 25, 26, 27, 28, 29, 30, 31, 32, 33, 34, 35, 36, 37, 38, 39, 40, 41, 42, 43, 44, 45, 46, 47, 48, 49, 50, 51, 52, 53, 54, 55, 56, 57, 58, 59, 60, 61, 62, 63, 64, 65, 66, 67, 68, 69, 70, 71, 72, 73, 74, 75, 76, 77, 78, 79, 80, 81, 82, 83, 84, 85, 86, 87, 88, 89, 90, 91, 92, 93, 94, 95, 96, 97, 98, 99, 100, 101, 102, 103, 104, 105, 106, 107, 108, 109, 110, 111, 112, 113, 114, 115, 116, 117, 118, 119, 120, 121, 122, 123, 124, 125, 126, 127, 128, 129, 130, 131, 132, 133, 134, 135, 136, 137, 138, 139, 140, 141, 142, 143, 144, 145, 146, 147, 148, 149, 150] (by decide +kernel) (by decide +kernel)
set_option maxRecDepth 20000 in
theorem gX8_letPass_X8_letMinutePass : GoodIn wsX8_letPass (wsV RX8 83 RX8 yX8_letMinutePass wsX8_letMinutePass) := goodIn_app (goodIn_of _ (by decide +kernel)) ggX8_letPass_X8_letMinutePass
theorem dX8_letPass_0 : decode cX8_letPass 0 = .ok (.iconst 0, 1) := by decide +kernel
theorem dX8_letPass_1 : decode cX8_letPass 1 = .ok (.istore_n 2, 1) := by decide +kernel
theorem dX8_letPass_2 : decode cX8_letPass 2 = .ok (.iload_n 2, 1) := by decide +kernel
theorem dX8_letPass_3 : decode cX8_letPass 3 = .ok (.iload_n 1, 1) := by decide +kernel
theorem dX8_letPass_4 : decode cX8_letPass 4 = .ok (.if_icmp .ge 13, 3) := by decide +kernel
theorem dX8_letPass_7 : decode cX8_letPass 7 = .ok (.aload_n 0, 1) := by decide +kernel
theorem dX8_letPass_8 : decode cX8_letPass 8 = .ok (.invokevirtual 83, 3) := by decide +kernel
theorem dX8_letPass_11 : decode cX8_letPass 11 = .ok (.iinc 2 1, 3) := by decide +kernel
theorem dX8_letPass_14 : decode cX8_letPass 14 = .ok (.goto (-12), 3) := by decide +kernel
theorem dX8_letPass_17 : decode cX8_letPass 17 = .ok (.return_, 1) := by decide +kernel
set_option maxRecDepth 20000 in
theorem ggX8_letMinutePass_X6_value : GoodIn wsX8_letMinutePass wsX6_value := goodIn_r _ [12, 13, 14, 15, 16, 134] (by decide +kernel) (by decide +kernel)
set_option maxRecDepth 20000 in
theorem gX8_letMinutePass_X6_value : GoodIn wsX8_letMinutePass (wsV RX8 79 RX6 yX6_value wsX6_value) := goodIn_app (goodIn_of _ (by decide +kernel)) ggX8_letMinutePass_X6_value
set_option maxRecDepth 20000 in
theorem ggX8_letMinutePass_X2_letGoOff : GoodIn wsX8_letMinutePass wsX2_letGoOff := goodIn_r _ [21, 22, 23, 24, 25, 26, 27, 28, 29, 30, 31, 32, 33, 34, 35, 36, 37, 38, 39, 15, 40, 41, 42, 43, 44, 45, 46, 47, 48, 135, 136, 137, 138, 139, 140] (by decide +kernel) (by decide +kernel)
set_option maxRecDepth 20000 in
theorem gX8_letMinutePass_X2_letGoOff : GoodIn wsX8_letMinutePass (wsV RX8 89 RX2 yX2_letGoOff wsX2_letGoOff) := goodIn_app (goodIn_of _ (by decide +kernel)) ggX8_letMinutePass_X2_letGoOff
set_option maxRecDepth 20000 in
theorem ggX8_letMinutePass_X4_outsideNow : GoodIn wsX8_letMinutePass wsX4_outsideNow := goodIn_r _ [53, 54, 55, 56, 57, 58, 52, 59, 60, 14, 15, 16, 141, 142, 143, 144, 145] (by decide +kernel) (by decide +kernel)
set_option maxRecDepth 20000 in
theorem gX8_letMinutePass_X4_outsideNow : GoodIn wsX8_letMinutePass (wsV RX8 93 RX4 yX4_outsideNow wsX4_outsideNow) := goodIn_app (goodIn_of _ (by decide +kernel)) ggX8_letMinutePass_X4_outsideNow
set_option maxRecDepth 20000 in
theorem ggX8_letMinutePass_X1_letMinutePass : GoodIn wsX8_letMinutePass wsX1_letMinutePass := goodIn_r _ [65, 66, 67, 68, 69, 70, 71, 64, 72, 73, 74, 75, 76, 33, 77, 78, 47, 48, 79, 9, 10, 11, 12, 13, 14, 15, 16, 39, 40, 80, 81, 82, 83, 84, 85, 86, 87, 88, 89, 90, 91, 92, 93, 94, 95, 96, 97, 98, 99, 100, 101, 102, 103, 104, 105, 106, 107, 127, 128, 129, 130, 131, 132, 133, 134] (by decide +kernel) (by decide +kernel)
set_option maxRecDepth 20000 in
theorem gX8_letMinutePass_X1_letMinutePass : GoodIn wsX8_letMinutePass (wsV RX8 97 RX1 yX1_letMinutePass wsX1_letMinutePass) := goodIn_app (goodIn_of _ (by decide +kernel)) ggX8_letMinutePass_X1_letMinutePass
set_option maxRecDepth 20000 in
theorem ggX8_letMinutePass_X4_letMinutePass : GoodIn wsX8_letMinutePass wsX4_letMinutePass := goodIn_r _ [111, 112, 113, 114, 115, 52, 116, 141, 142, 143, 144, 145] (by decide +kernel) (by decide +kernel)
set_option maxRecDepth 20000 in
theorem gX8_letMinutePass_X4_letMinutePass : GoodIn wsX8_letMinutePass (wsV RX8 100 RX4 yX4_letMinutePass wsX4_letMinutePass) := goodIn_app (goodIn_of _ (by decide +kernel)) ggX8_letMinutePass_X4_letMinutePass
theorem dX8_letMinutePass_0 : decode cX8_letMinutePass 0 = .ok (.aload_n 0, 1) := by decide +kernel
theorem dX8_letMinutePass_1 : decode cX8_letMinutePass 1 = .ok (.getfield 21, 3) := by decide +kernel
theorem dX8_letMinutePass_4 : decode cX8_letMinutePass 4 = .ok (.aload_n 0, 1) := by decide +kernel
theorem dX8_letMinutePass_5 : decode cX8_letMinutePass 5 = .ok (.getfield 28, 3) := by decide +kernel
theorem dX8_letMinutePass_8 : decode cX8_letMinutePass 8 = .ok (.getfield 86, 3) := by decide +kernel
theorem dX8_letMinutePass_11 : decode cX8_letMinutePass 11 = .ok (.aload_n 0, 1) := by decide +kernel
theorem dX8_letMinutePass_12 : decode cX8_letMinutePass 12 = .ok (.getfield 12, 3) := by decide +kernel
theorem dX8_letMinutePass_15 : decode cX8_letMinutePass 15 = .ok (.iconst 0, 1) := by decide +kernel
theorem dX8_letMinutePass_16 : decode cX8_letMinutePass 16 = .ok (.invokevirtual 79, 3) := by decide +kernel
theorem dX8_letMinutePass_19 : decode cX8_letMinutePass 19 = .ok (.invokevirtual 89, 3) := by decide +kernel
theorem dX8_letMinutePass_22 : decode cX8_letMinutePass 22 = .ok (.istore_n 1, 1) := by decide +kernel
theorem dX8_letMinutePass_23 : decode cX8_letMinutePass 23 = .ok (.aload_n 0, 1) := by decide +kernel
theorem dX8_letMinutePass_24 : decode cX8_letMinutePass 24 = .ok (.dup, 1) := by decide +kernel
theorem dX8_letMinutePass_25 : decode cX8_letMinutePass 25 = .ok (.getfield 63, 3) := by decide +kernel
theorem dX8_letMinutePass_28 : decode cX8_letMinutePass 28 = .ok (.iload_n 1, 1) := by decide +kernel
theorem dX8_letMinutePass_29 : decode cX8_letMinutePass 29 = .ok (.i2l, 1) := by decide +kernel
theorem dX8_letMinutePass_30 : decode cX8_letMinutePass 30 = .ok (.ladd, 1) := by decide +kernel
theorem dX8_letMinutePass_31 : decode cX8_letMinutePass 31 = .ok (.putfield 63, 3) := by decide +kernel
theorem dX8_letMinutePass_34 : decode cX8_letMinutePass 34 = .ok (.aload_n 0, 1) := by decide +kernel
theorem dX8_letMinutePass_35 : decode cX8_letMinutePass 35 = .ok (.getfield 28, 3) := by decide +kernel
theorem dX8_letMinutePass_38 : decode cX8_letMinutePass 38 = .ok (.iload_n 1, 1) := by decide +kernel
theorem dX8_letMinutePass_39 : decode cX8_letMinutePass 39 = .ok (.aload_n 0, 1) := by decide +kernel
theorem dX8_letMinutePass_40 : decode cX8_letMinutePass 40 = .ok (.getfield 35, 3) := by decide +kernel
theorem dX8_letMinutePass_43 : decode cX8_letMinutePass 43 = .ok (.invokevirtual 93, 3) := by decide +kernel
theorem dX8_letMinutePass_46 : decode cX8_letMinutePass 46 = .ok (.aload_n 0, 1) := by decide +kernel
theorem dX8_letMinutePass_47 : decode cX8_letMinutePass 47 = .ok (.getfield 12, 3) := by decide +kernel
theorem dX8_letMinutePass_50 : decode cX8_letMinutePass 50 = .ok (.invokevirtual 97, 3) := by decide +kernel
theorem dX8_letMinutePass_53 : decode cX8_letMinutePass 53 = .ok (.aload_n 0, 1) := by decide +kernel
theorem dX8_letMinutePass_54 : decode cX8_letMinutePass 54 = .ok (.getfield 35, 3) := by decide +kernel
theorem dX8_letMinutePass_57 : decode cX8_letMinutePass 57 = .ok (.invokevirtual 100, 3) := by decide +kernel
theorem dX8_letMinutePass_60 : decode cX8_letMinutePass 60 = .ok (.aload_n 0, 1) := by decide +kernel
theorem dX8_letMinutePass_61 : decode cX8_letMinutePass 61 = .ok (.dup, 1) := by decide +kernel
theorem dX8_letMinutePass_62 : decode cX8_letMinutePass 62 = .ok (.getfield 52, 3) := by decide +kernel
theorem dX8_letMinutePass_65 : decode cX8_letMinutePass 65 = .ok (.iconst 1, 1) := by decide +kernel
theorem dX8_letMinutePass_66 : decode cX8_letMinutePass 66 = .ok (.iadd, 1) := by decide +kernel
theorem dX8_letMinutePass_67 : decode cX8_letMinutePass 67 = .ok (.putfield 52, 3) := by decide +kernel
theorem dX8_letMinutePass_70 : decode cX8_letMinutePass 70 = .ok (.return_, 1) := by decide +kernel
set_option maxRecDepth 20000 in
theorem ggX9_init_X8_init : GoodIn wsX9_init wsX8_init := goodIn_r _ [23, 24, 2, 3, 25, 26, 27, 28, 29, 30, 31, 32, 33, 34, 35, 36, 37, 38, 39, 40, 41, 42, 43, 44, 45, 46, 47, 48, 49, 50, 51, 52, 53, 54, 55, 56, 57, 58, 59, 60, 61, 62, 63, 64, 65, 66, 67, 68, 69, 70, 71, 72, 73, 115, 88, 89, 90, 91, 92, 93, 94, 95, 96, 97, 116, 117, 118, 119, 120, 121, 122, 123, 124, 125, 126, 127, 128, 129, 130, 131, 132, 133] (by decide +kernel) (by decide +kernel)
set_option maxRecDepth 20000 in
theorem gX9_init_X8_init_n9 : GoodIn wsX9_init (wsX8_init) := ggX9_init_X8_init
set_option maxRecDepth 20000 in
theorem ggX9_init_X7_init : GoodIn wsX9_init wsX7_init := goodIn_r _ [75, 76, 2, 3, 77, 5, 6, 78, 22, 23, 24, 25, 26, 27, 28, 29, 30, 31, 32, 33, 34, 35, 36, 37, 38, 39, 40, 41, 42, 43, 44, 45, 46, 47, 48, 49, 50, 51, 52, 53, 54, 55, 56, 57, 58, 59, 60, 61, 62, 63, 64, 65, 66, 67, 68, 69, 70, 71, 72, 73, 88, 89, 90, 91, 92, 93, 94, 95, 96, 97, 104, 105, 115, 116, 117, 118, 119, 120, 121, 122, 123, 124, 125, 126, 127, 128, 129, 130, 131, 132, 133] (by decide +kernel) (by decide +kernel)
set_option maxRecDepth 20000 in
theorem gX9_init_X7_init_n21 : GoodIn wsX9_init (wsX7_init) := ggX9_init_X7_init
set_option maxRecDepth 20000 in
theorem ggX9_init_X3_init : GoodIn wsX9_init wsX3_init := goodIn_r _ [80, 81, 2, 3, 70, 82, 106, 107] (by decide +kernel) (by decide +kernel)
set_option maxRecDepth 20000 in
theorem gX9_init_X3_init_n31 : GoodIn wsX9_init (wsX3_init) := ggX9_init_X3_init
set_option maxRecDepth 20000 in
theorem ggX9_init_X5_init : GoodIn wsX9_init wsX5_init := goodIn_r _ [84, 85, 2, 3, 70, 86, 87, 108, 109, 110, 111, 112, 113, 114] (by decide +kernel) (by decide +kernel)
set_option maxRecDepth 20000 in
theorem gX9_init_X5_init_n38 : GoodIn wsX9_init (wsX5_init) := ggX9_init_X5_init
theorem dX9_init_0 : decode cX9_init 0 = .ok (.aload_n 0, 1) := by decide +kernel
theorem dX9_init_1 : decode cX9_init 1 = .ok (.invokespecial 1, 3) := by decide +kernel
theorem dX9_init_4 : decode cX9_init 4 = .ok (.aload_n 0, 1) := by decide +kernel
theorem dX9_init_5 : decode cX9_init 5 = .ok (.new 7, 3) := by decide +kernel
theorem dX9_init_8 : decode cX9_init 8 = .ok (.dup, 1) := by decide +kernel
theorem dX9_init_9 : decode cX9_init 9 = .ok (.invokespecial 9, 3) := by decide +kernel
theorem dX9_init_12 : decode cX9_init 12 = .ok (.putfield 10, 3) := by decide +kernel
theorem dX9_init_15 : decode cX9_init 15 = .ok (.aload_n 0, 1) := by decide +kernel
theorem dX9_init_16 : decode cX9_init 16 = .ok (.new 7, 3) := by decide +kernel
theorem dX9_init_19 : decode cX9_init 19 = .ok (.dup, 1) := by decide +kernel
theorem dX9_init_20 : decode cX9_init 20 = .ok (.invokespecial 9, 3) := by decide +kernel
theorem dX9_init_23 : decode cX9_init 23 = .ok (.putfield 16, 3) := by decide +kernel
theorem dX9_init_26 : decode cX9_init 26 = .ok (.aload_n 0, 1) := by decide +kernel
theorem dX9_init_27 : decode cX9_init 27 = .ok (.new 19, 3) := by decide +kernel
theorem dX9_init_30 : decode cX9_init 30 = .ok (.dup, 1) := by decide +kernel
theorem dX9_init_31 : decode cX9_init 31 = .ok (.invokespecial 21, 3) := by decide +kernel
theorem dX9_init_34 : decode cX9_init 34 = .ok (.putfield 22, 3) := by decide +kernel
theorem dX9_init_37 : decode cX9_init 37 = .ok (.aload_n 0, 1) := by decide +kernel
theorem dX9_init_38 : decode cX9_init 38 = .ok (.new 19, 3) := by decide +kernel
theorem dX9_init_41 : decode cX9_init 41 = .ok (.dup, 1) := by decide +kernel
theorem dX9_init_42 : decode cX9_init 42 = .ok (.invokespecial 21, 3) := by decide +kernel
theorem dX9_init_45 : decode cX9_init 45 = .ok (.putfield 26, 3) := by decide +kernel
theorem dX9_init_48 : decode cX9_init 48 = .ok (.aload_n 0, 1) := by decide +kernel
theorem dX9_init_49 : decode cX9_init 49 = .ok (.new 29, 3) := by decide +kernel
theorem dX9_init_52 : decode cX9_init 52 = .ok (.dup, 1) := by decide +kernel
theorem dX9_init_53 : decode cX9_init 53 = .ok (.invokespecial 31, 3) := by decide +kernel
theorem dX9_init_56 : decode cX9_init 56 = .ok (.putfield 32, 3) := by decide +kernel
theorem dX9_init_59 : decode cX9_init 59 = .ok (.aload_n 0, 1) := by decide +kernel
theorem dX9_init_60 : decode cX9_init 60 = .ok (.new 36, 3) := by decide +kernel
theorem dX9_init_63 : decode cX9_init 63 = .ok (.dup, 1) := by decide +kernel
theorem dX9_init_64 : decode cX9_init 64 = .ok (.invokespecial 38, 3) := by decide +kernel
theorem dX9_init_67 : decode cX9_init 67 = .ok (.putfield 39, 3) := by decide +kernel
theorem dX9_init_70 : decode cX9_init 70 = .ok (.return_, 1) := by decide +kernel
set_option maxRecDepth 20000 in
theorem ggX9_load_X9_within : GoodIn wsX9_load wsX9_within := goodIn_r _ [12] (by decide +kernel) (by decide +kernel)
set_option maxRecDepth 20000 in
theorem gX9_load_X9_within : GoodIn wsX9_load (va_wsS RX9 43 yX9_within wsX9_within) := goodIn_app (goodIn_of _ (by decide +kernel)) ggX9_load_X9_within
set_option maxRecDepth 20000 in
theorem ggX9_load_X2_append : GoodIn wsX9_load wsX2_append := goodIn_r _ [17, 18, 19, 20, 21, 22, 23, 40, 41, 49, 50, 51, 52] (by decide +kernel) (by decide +kernel)
set_option maxRecDepth 20000 in
theorem gX9_load_X2_append : GoodIn wsX9_load (wsV RX9 69 RX2 yX2_append wsX2_append) := goodIn_app (goodIn_of _ (by decide +kernel)) ggX9_load_X2_append
theorem dX9_load_0 : decode cX9_load 0 = .ok (.iload_n 1, 1) := by decide +kernel
theorem dX9_load_1 : decode cX9_load 1 = .ok (.iconst 1, 1) := by decide +kernel
theorem dX9_load_2 : decode cX9_load 2 = .ok (.bipush 100, 2) := by decide +kernel
theorem dX9_load_4 : decode cX9_load 4 = .ok (.invokestatic 43, 3) := by decide +kernel
theorem dX9_load_7 : decode cX9_load 7 = .ok (.ifCond .eq 23, 3) := by decide +kernel
theorem dX9_load_10 : decode cX9_load 10 = .ok (.iload_n 2, 1) := by decide +kernel
theorem dX9_load_11 : decode cX9_load 11 = .ok (.iconst 0, 1) := by decide +kernel
theorem dX9_load_12 : decode cX9_load 12 = .ok (.ldc 47, 2) := by decide +kernel
theorem dX9_load_14 : decode cX9_load 14 = .ok (.invokestatic 43, 3) := by decide +kernel
theorem dX9_load_17 : decode cX9_load 17 = .ok (.ifCond .eq 13, 3) := by decide +kernel
theorem dX9_load_20 : decode cX9_load 20 = .ok (.iload_n 3, 1) := by decide +kernel
theorem dX9_load_21 : decode cX9_load 21 = .ok (.iconst 0, 1) := by decide +kernel
theorem dX9_load_22 : decode cX9_load 22 = .ok (.ldc 48, 2) := by decide +kernel
theorem dX9_load_24 : decode cX9_load 24 = .ok (.invokestatic 43, 3) := by decide +kernel
theorem dX9_load_27 : decode cX9_load 27 = .ok (.ifCond .ne 6, 3) := by decide +kernel
theorem dX9_load_30 : decode cX9_load 30 = .ok (.bipush (-2), 2) := by decide +kernel
theorem dX9_load_32 : decode cX9_load 32 = .ok (.ireturn, 1) := by decide +kernel
theorem dX9_load_33 : decode cX9_load 33 = .ok (.aload_n 0, 1) := by decide +kernel
theorem dX9_load_34 : decode cX9_load 34 = .ok (.getfield 10, 3) := by decide +kernel
theorem dX9_load_37 : decode cX9_load 37 = .ok (.getfield 49, 3) := by decide +kernel
theorem dX9_load_40 : decode cX9_load 40 = .ok (.getfield 53, 3) := by decide +kernel
theorem dX9_load_43 : decode cX9_load 43 = .ok (.bipush 10, 2) := by decide +kernel
theorem dX9_load_45 : decode cX9_load 45 = .ok (.if_icmp .lt 6, 3) := by decide +kernel
theorem dX9_load_48 : decode cX9_load 48 = .ok (.bipush (-4), 2) := by decide +kernel
theorem dX9_load_50 : decode cX9_load 50 = .ok (.ireturn, 1) := by decide +kernel
theorem dX9_load_51 : decode cX9_load 51 = .ok (.aload_n 0, 1) := by decide +kernel
theorem dX9_load_52 : decode cX9_load 52 = .ok (.getfield 10, 3) := by decide +kernel
theorem dX9_load_55 : decode cX9_load 55 = .ok (.getfield 59, 3) := by decide +kernel
theorem dX9_load_58 : decode cX9_load 58 = .ok (.getfield 63, 3) := by decide +kernel
theorem dX9_load_61 : decode cX9_load 61 = .ok (.ifCond .ne 6, 3) := by decide +kernel
theorem dX9_load_64 : decode cX9_load 64 = .ok (.bipush (-5), 2) := by decide +kernel
theorem dX9_load_66 : decode cX9_load 66 = .ok (.ireturn, 1) := by decide +kernel
theorem dX9_load_67 : decode cX9_load 67 = .ok (.aload_n 0, 1) := by decide +kernel
theorem dX9_load_68 : decode cX9_load 68 = .ok (.getfield 10, 3) := by decide +kernel
theorem dX9_load_71 : decode cX9_load 71 = .ok (.getfield 49, 3) := by decide +kernel
theorem dX9_load_74 : decode cX9_load 74 = .ok (.iload_n 1, 1) := by decide +kernel
theorem dX9_load_75 : decode cX9_load 75 = .ok (.iload_n 2, 1) := by decide +kernel
theorem dX9_load_76 : decode cX9_load 76 = .ok (.iload_n 3, 1) := by decide +kernel
theorem dX9_load_77 : decode cX9_load 77 = .ok (.invokevirtual 69, 3) := by decide +kernel
theorem dX9_load_80 : decode cX9_load 80 = .ok (.aload_n 0, 1) := by decide +kernel
theorem dX9_load_81 : decode cX9_load 81 = .ok (.getfield 10, 3) := by decide +kernel
theorem dX9_load_84 : decode cX9_load 84 = .ok (.dup, 1) := by decide +kernel
theorem dX9_load_85 : decode cX9_load 85 = .ok (.getfield 73, 3) := by decide +kernel
theorem dX9_load_88 : decode cX9_load 88 = .ok (.iload_n 3, 1) := by decide +kernel
theorem dX9_load_89 : decode cX9_load 89 = .ok (.i2l, 1) := by decide +kernel
theorem dX9_load_90 : decode cX9_load 90 = .ok (.ladd, 1) := by decide +kernel
theorem dX9_load_91 : decode cX9_load 91 = .ok (.putfield 73, 3) := by decide +kernel
theorem dX9_load_94 : decode cX9_load 94 = .ok (.aload_n 0, 1) := by decide +kernel
theorem dX9_load_95 : decode cX9_load 95 = .ok (.getfield 10, 3) := by decide +kernel
theorem dX9_load_98 : decode cX9_load 98 = .ok (.getfield 49, 3) := by decide +kernel
theorem dX9_load_101 : decode cX9_load 101 = .ok (.getfield 53, 3) := by decide +kernel
theorem dX9_load_104 : decode cX9_load 104 = .ok (.iconst 1, 1) := by decide +kernel
theorem dX9_load_105 : decode cX9_load 105 = .ok (.isub, 1) := by decide +kernel
theorem dX9_load_106 : decode cX9_load 106 = .ok (.ireturn, 1) := by decide +kernel
set_option maxRecDepth 20000 in
theorem ggX9_unload_X2_boxAt : GoodIn wsX9_unload wsX2_boxAt := goodIn_r _ [11, 12, 13, 14, 15, 16, 52, 53] (by decide +kernel) (by decide +kernel)
set_option maxRecDepth 20000 in
theorem gX9_unload_X2_boxAt : GoodIn wsX9_unload (wsV RX9 77 RX2 yX2_boxAt wsX2_boxAt) := goodIn_app (goodIn_of _ (by decide +kernel)) ggX9_unload_X2_boxAt
set_option maxRecDepth 20000 in
theorem ggX9_unload_X2_takeOut : GoodIn wsX9_unload wsX2_takeOut := goodIn_r _ [20, 12, 14, 15, 16, 21, 22, 23, 10, 24, 13, 52, 53] (by decide +kernel) (by decide +kernel)
set_option maxRecDepth 20000 in
theorem gX9_unload_X2_takeOut : GoodIn wsX9_unload (wsV RX9 86 RX2 yX2_takeOut wsX2_takeOut) := goodIn_app (goodIn_of _ (by decide +kernel)) ggX9_unload_X2_takeOut
theorem dX9_unload_0 : decode cX9_unload 0 = .ok (.aload_n 0, 1) := by decide +kernel
theorem dX9_unload_1 : decode cX9_unload 1 = .ok (.getfield 10, 3) := by decide +kernel
theorem dX9_unload_4 : decode cX9_unload 4 = .ok (.getfield 49, 3) := by decide +kernel
theorem dX9_unload_7 : decode cX9_unload 7 = .ok (.iload_n 1, 1) := by decide +kernel
theorem dX9_unload_8 : decode cX9_unload 8 = .ok (.invokevirtual 77, 3) := by decide +kernel
theorem dX9_unload_11 : decode cX9_unload 11 = .ok (.astore_n 2, 1) := by decide +kernel
theorem dX9_unload_12 : decode cX9_unload 12 = .ok (.aload_n 2, 1) := by decide +kernel
theorem dX9_unload_13 : decode cX9_unload 13 = .ok (.ifnonnull 5, 3) := by decide +kernel
theorem dX9_unload_16 : decode cX9_unload 16 = .ok (.iconst (-1), 1) := by decide +kernel
theorem dX9_unload_17 : decode cX9_unload 17 = .ok (.ireturn, 1) := by decide +kernel
theorem dX9_unload_18 : decode cX9_unload 18 = .ok (.aload_n 0, 1) := by decide +kernel
theorem dX9_unload_19 : decode cX9_unload 19 = .ok (.getfield 10, 3) := by decide +kernel
theorem dX9_unload_22 : decode cX9_unload 22 = .ok (.getfield 59, 3) := by decide +kernel
theorem dX9_unload_25 : decode cX9_unload 25 = .ok (.getfield 63, 3) := by decide +kernel
theorem dX9_unload_28 : decode cX9_unload 28 = .ok (.ifCond .ne 6, 3) := by decide +kernel
theorem dX9_unload_31 : decode cX9_unload 31 = .ok (.bipush (-5), 2) := by decide +kernel
theorem dX9_unload_33 : decode cX9_unload 33 = .ok (.ireturn, 1) := by decide +kernel
theorem dX9_unload_34 : decode cX9_unload 34 = .ok (.aload_n 2, 1) := by decide +kernel
theorem dX9_unload_35 : decode cX9_unload 35 = .ok (.getfield 81, 3) := by decide +kernel
theorem dX9_unload_38 : decode cX9_unload 38 = .ok (.istore_n 3, 1) := by decide +kernel
theorem dX9_unload_39 : decode cX9_unload 39 = .ok (.aload_n 0, 1) := by decide +kernel
theorem dX9_unload_40 : decode cX9_unload 40 = .ok (.getfield 10, 3) := by decide +kernel
theorem dX9_unload_43 : decode cX9_unload 43 = .ok (.getfield 49, 3) := by decide +kernel
theorem dX9_unload_46 : decode cX9_unload 46 = .ok (.iload_n 1, 1) := by decide +kernel
theorem dX9_unload_47 : decode cX9_unload 47 = .ok (.invokevirtual 86, 3) := by decide +kernel
theorem dX9_unload_50 : decode cX9_unload 50 = .ok (.aload_n 0, 1) := by decide +kernel
theorem dX9_unload_51 : decode cX9_unload 51 = .ok (.getfield 10, 3) := by decide +kernel
theorem dX9_unload_54 : decode cX9_unload 54 = .ok (.dup, 1) := by decide +kernel
theorem dX9_unload_55 : decode cX9_unload 55 = .ok (.getfield 90, 3) := by decide +kernel
theorem dX9_unload_58 : decode cX9_unload 58 = .ok (.iload_n 3, 1) := by decide +kernel
theorem dX9_unload_59 : decode cX9_unload 59 = .ok (.i2l, 1) := by decide +kernel
theorem dX9_unload_60 : decode cX9_unload 60 = .ok (.ladd, 1) := by decide +kernel
theorem dX9_unload_61 : decode cX9_unload 61 = .ok (.putfield 90, 3) := by decide +kernel
theorem dX9_unload_64 : decode cX9_unload 64 = .ok (.iload_n 3, 1) := by decide +kernel
theorem dX9_unload_65 : decode cX9_unload 65 = .ok (.ireturn, 1) := by decide +kernel
set_option maxRecDepth 20000 in
theorem ggX9_shift_X2_boxAt : GoodIn wsX9_shift wsX2_boxAt := goodIn_r _ [8, 9, 10, 11, 12, 13, 38, 39] (by decide +kernel) (by decide +kernel)
set_option maxRecDepth 20000 in
theorem gX9_shift_X2_boxAt : GoodIn wsX9_shift (wsV RX9 77 RX2 yX2_boxAt wsX2_boxAt) := goodIn_app (goodIn_of _ (by decide +kernel)) ggX9_shift_X2_boxAt
set_option maxRecDepth 20000 in
theorem ggX9_shift_X2_move : GoodIn wsX9_shift wsX2_move := goodIn_r _ [17, 9, 10, 11, 12, 13, 38, 39] (by decide +kernel) (by decide +kernel)
set_option maxRecDepth 20000 in
theorem gX9_shift_X2_move : GoodIn wsX9_shift (wsV RX9 93 RX2 yX2_move wsX2_move) := goodIn_app (goodIn_of _ (by decide +kernel)) ggX9_shift_X2_move
theorem dX9_shift_0 : decode cX9_shift 0 = .ok (.aload_n 0, 1) := by decide +kernel
theorem dX9_shift_1 : decode cX9_shift 1 = .ok (.getfield 10, 3) := by decide +kernel
theorem dX9_shift_4 : decode cX9_shift 4 = .ok (.getfield 49, 3) := by decide +kernel
theorem dX9_shift_7 : decode cX9_shift 7 = .ok (.iload_n 1, 1) := by decide +kernel
theorem dX9_shift_8 : decode cX9_shift 8 = .ok (.invokevirtual 77, 3) := by decide +kernel
theorem dX9_shift_11 : decode cX9_shift 11 = .ok (.astore_n 3, 1) := by decide +kernel
theorem dX9_shift_12 : decode cX9_shift 12 = .ok (.aload_n 3, 1) := by decide +kernel
theorem dX9_shift_13 : decode cX9_shift 13 = .ok (.ifnull 17, 3) := by decide +kernel
theorem dX9_shift_16 : decode cX9_shift 16 = .ok (.aload_n 0, 1) := by decide +kernel
theorem dX9_shift_17 : decode cX9_shift 17 = .ok (.getfield 10, 3) := by decide +kernel
theorem dX9_shift_20 : decode cX9_shift 20 = .ok (.getfield 49, 3) := by decide +kernel
theorem dX9_shift_23 : decode cX9_shift 23 = .ok (.iload_n 2, 1) := by decide +kernel
theorem dX9_shift_24 : decode cX9_shift 24 = .ok (.invokevirtual 77, 3) := by decide +kernel
theorem dX9_shift_27 : decode cX9_shift 27 = .ok (.ifnonnull 5, 3) := by decide +kernel
theorem dX9_shift_30 : decode cX9_shift 30 = .ok (.iconst (-1), 1) := by decide +kernel
theorem dX9_shift_31 : decode cX9_shift 31 = .ok (.ireturn, 1) := by decide +kernel
theorem dX9_shift_32 : decode cX9_shift 32 = .ok (.aload_n 0, 1) := by decide +kernel
theorem dX9_shift_33 : decode cX9_shift 33 = .ok (.getfield 10, 3) := by decide +kernel
theorem dX9_shift_36 : decode cX9_shift 36 = .ok (.getfield 49, 3) := by decide +kernel
theorem dX9_shift_39 : decode cX9_shift 39 = .ok (.iload_n 1, 1) := by decide +kernel
theorem dX9_shift_40 : decode cX9_shift 40 = .ok (.iload_n 2, 1) := by decide +kernel
theorem dX9_shift_41 : decode cX9_shift 41 = .ok (.invokevirtual 93, 3) := by decide +kernel
theorem dX9_shift_44 : decode cX9_shift 44 = .ok (.aload_n 3, 1) := by decide +kernel
theorem dX9_shift_45 : decode cX9_shift 45 = .ok (.getfield 81, 3) := by decide +kernel
theorem dX9_shift_48 : decode cX9_shift 48 = .ok (.ireturn, 1) := by decide +kernel
set_option maxRecDepth 20000 in
theorem ggX9_set_X6_allows : GoodIn wsX9_set wsX6_allows := goodIn_r _ [7, 8, 9, 10] (by decide +kernel) (by decide +kernel)
set_option maxRecDepth 20000 in
theorem gX9_set_X6_allows : GoodIn wsX9_set (wsV RX9 101 RX6 yX6_allows wsX6_allows) := goodIn_app (goodIn_of _ (by decide +kernel)) ggX9_set_X6_allows
set_option maxRecDepth 20000 in
theorem ggX9_set_X6_change : GoodIn wsX9_set wsX6_change := goodIn_r _ [14, 15, 16, 17, 18, 6, 19, 8, 9, 10, 20, 4, 5, 7, 37] (by decide +kernel) (by decide +kernel)
set_option maxRecDepth 20000 in
theorem gX9_set_X6_change : GoodIn wsX9_set (wsV RX9 107 RX6 yX6_change wsX6_change) := goodIn_app (goodIn_of _ (by decide +kernel)) ggX9_set_X6_change
theorem dX9_set_0 : decode cX9_set 0 = .ok (.aload_n 0, 1) := by decide +kernel
theorem dX9_set_1 : decode cX9_set 1 = .ok (.getfield 10, 3) := by decide +kernel
theorem dX9_set_4 : decode cX9_set 4 = .ok (.getfield 97, 3) := by decide +kernel
theorem dX9_set_7 : decode cX9_set 7 = .ok (.iload_n 1, 1) := by decide +kernel
theorem dX9_set_8 : decode cX9_set 8 = .ok (.iload_n 2, 1) := by decide +kernel
theorem dX9_set_9 : decode cX9_set 9 = .ok (.invokevirtual 101, 3) := by decide +kernel
theorem dX9_set_12 : decode cX9_set 12 = .ok (.ifCond .ne 6, 3) := by decide +kernel
theorem dX9_set_15 : decode cX9_set 15 = .ok (.bipush (-2), 2) := by decide +kernel
theorem dX9_set_17 : decode cX9_set 17 = .ok (.ireturn, 1) := by decide +kernel
theorem dX9_set_18 : decode cX9_set 18 = .ok (.aload_n 0, 1) := by decide +kernel
theorem dX9_set_19 : decode cX9_set 19 = .ok (.getfield 10, 3) := by decide +kernel
theorem dX9_set_22 : decode cX9_set 22 = .ok (.getfield 97, 3) := by decide +kernel
theorem dX9_set_25 : decode cX9_set 25 = .ok (.iload_n 1, 1) := by decide +kernel
theorem dX9_set_26 : decode cX9_set 26 = .ok (.iload_n 2, 1) := by decide +kernel
theorem dX9_set_27 : decode cX9_set 27 = .ok (.invokevirtual 107, 3) := by decide +kernel
theorem dX9_set_30 : decode cX9_set 30 = .ok (.ireturn, 1) := by decide +kernel
set_option maxRecDepth 20000 in
theorem ggX9_leg_X9_within : GoodIn wsX9_leg wsX9_within := goodIn_r _ [7] (by decide +kernel) (by decide +kernel)
set_option maxRecDepth 20000 in
theorem gX9_leg_X9_within : GoodIn wsX9_leg (va_wsS RX9 43 yX9_within wsX9_within) := goodIn_app (goodIn_of _ (by decide +kernel)) ggX9_leg_X9_within
set_option maxRecDepth 20000 in
theorem ggX9_leg_X4_append : GoodIn wsX9_leg wsX4_append := goodIn_r _ [12, 13, 14, 15, 32, 33, 34, 35, 36] (by decide +kernel) (by decide +kernel)
set_option maxRecDepth 20000 in
theorem gX9_leg_X4_append : GoodIn wsX9_leg (wsV RX9 118 RX4 yX4_append wsX4_append) := goodIn_app (goodIn_of _ (by decide +kernel)) ggX9_leg_X4_append
theorem dX9_leg_0 : decode cX9_leg 0 = .ok (.iload_n 1, 1) := by decide +kernel
theorem dX9_leg_1 : decode cX9_leg 1 = .ok (.iconst 1, 1) := by decide +kernel
theorem dX9_leg_2 : decode cX9_leg 2 = .ok (.sipush 600, 3) := by decide +kernel
theorem dX9_leg_5 : decode cX9_leg 5 = .ok (.invokestatic 43, 3) := by decide +kernel
theorem dX9_leg_8 : decode cX9_leg 8 = .ok (.ifCond .eq 16, 3) := by decide +kernel
theorem dX9_leg_11 : decode cX9_leg 11 = .ok (.iload_n 2, 1) := by decide +kernel
theorem dX9_leg_12 : decode cX9_leg 12 = .ok (.sipush (-4000), 3) := by decide +kernel
theorem dX9_leg_15 : decode cX9_leg 15 = .ok (.sipush 5000, 3) := by decide +kernel
theorem dX9_leg_18 : decode cX9_leg 18 = .ok (.invokestatic 43, 3) := by decide +kernel
theorem dX9_leg_21 : decode cX9_leg 21 = .ok (.ifCond .ne 6, 3) := by decide +kernel
theorem dX9_leg_24 : decode cX9_leg 24 = .ok (.bipush (-2), 2) := by decide +kernel
theorem dX9_leg_26 : decode cX9_leg 26 = .ok (.ireturn, 1) := by decide +kernel
theorem dX9_leg_27 : decode cX9_leg 27 = .ok (.aload_n 0, 1) := by decide +kernel
theorem dX9_leg_28 : decode cX9_leg 28 = .ok (.getfield 10, 3) := by decide +kernel
theorem dX9_leg_31 : decode cX9_leg 31 = .ok (.getfield 111, 3) := by decide +kernel
theorem dX9_leg_34 : decode cX9_leg 34 = .ok (.getfield 115, 3) := by decide +kernel
theorem dX9_leg_37 : decode cX9_leg 37 = .ok (.bipush 12, 2) := by decide +kernel
theorem dX9_leg_39 : decode cX9_leg 39 = .ok (.if_icmp .lt 6, 3) := by decide +kernel
theorem dX9_leg_42 : decode cX9_leg 42 = .ok (.bipush (-4), 2) := by decide +kernel
theorem dX9_leg_44 : decode cX9_leg 44 = .ok (.ireturn, 1) := by decide +kernel
theorem dX9_leg_45 : decode cX9_leg 45 = .ok (.aload_n 0, 1) := by decide +kernel
theorem dX9_leg_46 : decode cX9_leg 46 = .ok (.getfield 10, 3) := by decide +kernel
theorem dX9_leg_49 : decode cX9_leg 49 = .ok (.getfield 111, 3) := by decide +kernel
theorem dX9_leg_52 : decode cX9_leg 52 = .ok (.iload_n 1, 1) := by decide +kernel
theorem dX9_leg_53 : decode cX9_leg 53 = .ok (.iload_n 2, 1) := by decide +kernel
theorem dX9_leg_54 : decode cX9_leg 54 = .ok (.invokevirtual 118, 3) := by decide +kernel
theorem dX9_leg_57 : decode cX9_leg 57 = .ok (.aload_n 0, 1) := by decide +kernel
theorem dX9_leg_58 : decode cX9_leg 58 = .ok (.getfield 10, 3) := by decide +kernel
theorem dX9_leg_61 : decode cX9_leg 61 = .ok (.getfield 111, 3) := by decide +kernel
theorem dX9_leg_64 : decode cX9_leg 64 = .ok (.getfield 115, 3) := by decide +kernel
theorem dX9_leg_67 : decode cX9_leg 67 = .ok (.iconst 1, 1) := by decide +kernel
theorem dX9_leg_68 : decode cX9_leg 68 = .ok (.isub, 1) := by decide +kernel
theorem dX9_leg_69 : decode cX9_leg 69 = .ok (.ireturn, 1) := by decide +kernel
set_option maxRecDepth 20000 in
theorem ggX9_depart_X4_isOnTheWay : GoodIn wsX9_depart wsX4_isOnTheWay := goodIn_r _ [10, 11, 54, 55, 56, 57, 58] (by decide +kernel) (by decide +kernel)
set_option maxRecDepth 20000 in
theorem gX9_depart_X4_isOnTheWay : GoodIn wsX9_depart (wsV RX9 124 RX4 yX4_isOnTheWay wsX4_isOnTheWay) := goodIn_app (goodIn_of _ (by decide +kernel)) ggX9_depart_X4_isOnTheWay
set_option maxRecDepth 20000 in
theorem ggX9_depart_X4_hasNextLeg : GoodIn wsX9_depart wsX4_hasNextLeg := goodIn_r _ [15, 16, 17, 18, 19, 9, 20, 21, 22, 23, 24, 54, 55, 56, 57, 58] (by decide +kernel) (by decide +kernel)
set_option maxRecDepth 20000 in
theorem gX9_depart_X4_hasNextLeg : GoodIn wsX9_depart (wsV RX9 120 RX4 yX4_hasNextLeg wsX4_hasNextLeg) := goodIn_app (goodIn_of _ (by decide +kernel)) ggX9_depart_X4_hasNextLeg
set_option maxRecDepth 20000 in
theorem ggX9_depart_X4_beginNextLeg : GoodIn wsX9_depart wsX4_beginNextLeg := goodIn_r _ [28, 16, 29, 11, 30, 13, 14, 9, 15, 17, 18, 19, 20, 21, 22, 23, 24, 54, 55, 56, 57, 58] (by decide +kernel) (by decide +kernel)
set_option maxRecDepth 20000 in
theorem gX9_depart_X4_beginNextLeg : GoodIn wsX9_depart (wsV RX9 127 RX4 yX4_beginNextLeg wsX4_beginNextLeg) := goodIn_app (goodIn_of _ (by decide +kernel)) ggX9_depart_X4_beginNextLeg
theorem dX9_depart_0 : decode cX9_depart 0 = .ok (.aload_n 0, 1) := by decide +kernel
theorem dX9_depart_1 : decode cX9_depart 1 = .ok (.getfield 10, 3) := by decide +kernel
theorem dX9_depart_4 : decode cX9_depart 4 = .ok (.getfield 111, 3) := by decide +kernel
theorem dX9_depart_7 : decode cX9_depart 7 = .ok (.invokevirtual 124, 3) := by decide +kernel
theorem dX9_depart_10 : decode cX9_depart 10 = .ok (.ifCond .ne 29, 3) := by decide +kernel
theorem dX9_depart_13 : decode cX9_depart 13 = .ok (.aload_n 0, 1) := by decide +kernel
theorem dX9_depart_14 : decode cX9_depart 14 = .ok (.getfield 10, 3) := by decide +kernel
theorem dX9_depart_17 : decode cX9_depart 17 = .ok (.getfield 59, 3) := by decide +kernel
theorem dX9_depart_20 : decode cX9_depart 20 = .ok (.getfield 63, 3) := by decide +kernel
theorem dX9_depart_23 : decode cX9_depart 23 = .ok (.ifCond .ne 16, 3) := by decide +kernel
theorem dX9_depart_26 : decode cX9_depart 26 = .ok (.aload_n 0, 1) := by decide +kernel
theorem dX9_depart_27 : decode cX9_depart 27 = .ok (.getfield 10, 3) := by decide +kernel
theorem dX9_depart_30 : decode cX9_depart 30 = .ok (.getfield 111, 3) := by decide +kernel
theorem dX9_depart_33 : decode cX9_depart 33 = .ok (.invokevirtual 120, 3) := by decide +kernel
theorem dX9_depart_36 : decode cX9_depart 36 = .ok (.ifCond .ne 6, 3) := by decide +kernel
theorem dX9_depart_39 : decode cX9_depart 39 = .ok (.bipush (-5), 2) := by decide +kernel
theorem dX9_depart_41 : decode cX9_depart 41 = .ok (.ireturn, 1) := by decide +kernel
theorem dX9_depart_42 : decode cX9_depart 42 = .ok (.aload_n 0, 1) := by decide +kernel
theorem dX9_depart_43 : decode cX9_depart 43 = .ok (.getfield 10, 3) := by decide +kernel
theorem dX9_depart_46 : decode cX9_depart 46 = .ok (.getfield 111, 3) := by decide +kernel
theorem dX9_depart_49 : decode cX9_depart 49 = .ok (.invokevirtual 127, 3) := by decide +kernel
theorem dX9_depart_52 : decode cX9_depart 52 = .ok (.aload_n 0, 1) := by decide +kernel
theorem dX9_depart_53 : decode cX9_depart 53 = .ok (.getfield 10, 3) := by decide +kernel
theorem dX9_depart_56 : decode cX9_depart 56 = .ok (.getfield 111, 3) := by decide +kernel
theorem dX9_depart_59 : decode cX9_depart 59 = .ok (.getfield 130, 3) := by decide +kernel
theorem dX9_depart_62 : decode cX9_depart 62 = .ok (.ireturn, 1) := by decide +kernel
set_option maxRecDepth 20000 in
theorem ggX9_pass_X9_within : GoodIn wsX9_pass wsX9_within := goodIn_r _ [13] (by decide +kernel) (by decide +kernel)
set_option maxRecDepth 20000 in
theorem gX9_pass_X9_within : GoodIn wsX9_pass (va_wsS RX9 43 yX9_within wsX9_within) := goodIn_app (goodIn_of _ (by decide +kernel)) ggX9_pass_X9_within
set_option maxRecDepth 20000 in
theorem ggX9_pass_X8_letPass : GoodIn wsX9_pass wsX8_letPass := goodIn_r _ [18, 19, 20, 21, 17, 22, 23, 24, 25, 26, 27, 28, 29, 30, 31, 32, 33, 34, 35, 11, 12, 13, 36, 37, 38, 39, 40, 41, 42, 43, 44, 45, 46, 47, 48, 49, 50, 51, 8, 52, 53, 54, 55, 56, 57, 58, 59, 60, 61, 62, 63, 64, 65, 66, 67, 68, 69, 70, 71, 72, 73, 74, 75, 76, 77, 78, 79, 80, 81, 82, 83, 84, 85, 86, 87, 88, 89, 90, 91, 92, 93, 7, 9, 94, 95, 96, 97, 98, 99, 100, 101, 102, 103, 104, 105, 106, 107, 108, 109, 110, 111, 112, 113, 114, 115, 116, 117, 118, 119, 120, 121, 122, 123, 124, 125, 126, 127, 128, 129, 130, 131, 132, 139, 140, 141, 142, 143, 144, 145, 146, 147, 148, 154, 155, 156, 157, 158, 159, 160, 161, 162, 163, 164, 165, 166, 167, 149, 150, 151, 152, 153] (by decide +kernel) (by decide +kernel)
set_option maxRecDepth 20000 in
theorem gX9_pass_X8_letPass : GoodIn wsX9_pass (wsV RX9 145 RX8 yX8_letPass wsX8_letPass) := goodIn_app (goodIn_of _ (by decide +kernel)) ggX9_pass_X8_letPass
theorem dX9_pass_0 : decode cX9_pass 0 = .ok (.iload_n 1, 1) := by decide +kernel
theorem dX9_pass_1 : decode cX9_pass 1 = .ok (.iconst 1, 1) := by decide +kernel
theorem dX9_pass_2 : decode cX9_pass 2 = .ok (.sipush 1000, 3) := by decide +kernel
theorem dX9_pass_5 : decode cX9_pass 5 = .ok (.invokestatic 43, 3) := by decide +kernel
theorem dX9_pass_8 : decode cX9_pass 8 = .ok (.ifCond .ne 6, 3) := by decide +kernel
theorem dX9_pass_11 : decode cX9_pass 11 = .ok (.bipush (-2), 2) := by decide +kernel
theorem dX9_pass_13 : decode cX9_pass 13 = .ok (.ireturn, 1) := by decide +kernel
theorem dX9_pass_14 : decode cX9_pass 14 = .ok (.aload_n 0, 1) := by decide +kernel
theorem dX9_pass_15 : decode cX9_pass 15 = .ok (.getfield 10, 3) := by decide +kernel
theorem dX9_pass_18 : decode cX9_pass 18 = .ok (.getfield 133, 3) := by decide +kernel
theorem dX9_pass_21 : decode cX9_pass 21 = .ok (.iload_n 1, 1) := by decide +kernel
theorem dX9_pass_22 : decode cX9_pass 22 = .ok (.iadd, 1) := by decide +kernel
theorem dX9_pass_23 : decode cX9_pass 23 = .ok (.ldc 136, 2) := by decide +kernel
theorem dX9_pass_25 : decode cX9_pass 25 = .ok (.if_icmp .le 6, 3) := by decide +kernel
theorem dX9_pass_28 : decode cX9_pass 28 = .ok (.bipush (-5), 2) := by decide +kernel
theorem dX9_pass_30 : decode cX9_pass 30 = .ok (.ireturn, 1) := by decide +kernel
theorem dX9_pass_31 : decode cX9_pass 31 = .ok (.iload_n 1, 1) := by decide +kernel
theorem dX9_pass_32 : decode cX9_pass 32 = .ok (.aload_n 0, 1) := by decide +kernel
theorem dX9_pass_33 : decode cX9_pass 33 = .ok (.getfield 10, 3) := by decide +kernel
theorem dX9_pass_36 : decode cX9_pass 36 = .ok (.getfield 111, 3) := by decide +kernel
theorem dX9_pass_39 : decode cX9_pass 39 = .ok (.getfield 137, 3) := by decide +kernel
theorem dX9_pass_42 : decode cX9_pass 42 = .ok (.invokestatic 140, 3) := by decide +kernel
theorem dX9_pass_45 : decode cX9_pass 45 = .ok (.istore_n 2, 1) := by decide +kernel
theorem dX9_pass_46 : decode cX9_pass 46 = .ok (.aload_n 0, 1) := by decide +kernel
theorem dX9_pass_47 : decode cX9_pass 47 = .ok (.getfield 10, 3) := by decide +kernel
theorem dX9_pass_50 : decode cX9_pass 50 = .ok (.iload_n 1, 1) := by decide +kernel
theorem dX9_pass_51 : decode cX9_pass 51 = .ok (.invokevirtual 145, 3) := by decide +kernel
theorem dX9_pass_54 : decode cX9_pass 54 = .ok (.iload_n 2, 1) := by decide +kernel
theorem dX9_pass_55 : decode cX9_pass 55 = .ok (.ireturn, 1) := by decide +kernel
set_option maxRecDepth 20000 in
theorem ggX9_vent_X9_within : GoodIn wsX9_vent wsX9_within := goodIn_r _ [7] (by decide +kernel) (by decide +kernel)
set_option maxRecDepth 20000 in
theorem gX9_vent_X9_within : GoodIn wsX9_vent (va_wsS RX9 43 yX9_within wsX9_within) := goodIn_app (goodIn_of _ (by decide +kernel)) ggX9_vent_X9_within
set_option maxRecDepth 20000 in
theorem ggX9_vent_X1_setVentMode : GoodIn wsX9_vent wsX1_setVentMode := goodIn_r _ [12, 13, 14, 15, 16, 11, 17, 18, 19, 20, 21, 22, 23, 24, 25, 26, 27, 44, 45, 46, 47, 48, 49, 50] (by decide +kernel) (by decide +kernel)
set_option maxRecDepth 20000 in
theorem gX9_vent_X1_setVentMode : GoodIn wsX9_vent (wsV RX9 151 RX1 yX1_setVentMode wsX1_setVentMode) := goodIn_app (goodIn_of _ (by decide +kernel)) ggX9_vent_X1_setVentMode
theorem dX9_vent_0 : decode cX9_vent 0 = .ok (.iload_n 1, 1) := by decide +kernel
theorem dX9_vent_1 : decode cX9_vent 1 = .ok (.iconst 0, 1) := by decide +kernel
theorem dX9_vent_2 : decode cX9_vent 2 = .ok (.iconst 2, 1) := by decide +kernel
theorem dX9_vent_3 : decode cX9_vent 3 = .ok (.invokestatic 43, 3) := by decide +kernel
theorem dX9_vent_6 : decode cX9_vent 6 = .ok (.ifCond .ne 6, 3) := by decide +kernel
theorem dX9_vent_9 : decode cX9_vent 9 = .ok (.bipush (-2), 2) := by decide +kernel
theorem dX9_vent_11 : decode cX9_vent 11 = .ok (.ireturn, 1) := by decide +kernel
theorem dX9_vent_12 : decode cX9_vent 12 = .ok (.aload_n 0, 1) := by decide +kernel
theorem dX9_vent_13 : decode cX9_vent 13 = .ok (.getfield 10, 3) := by decide +kernel
theorem dX9_vent_16 : decode cX9_vent 16 = .ok (.getfield 59, 3) := by decide +kernel
theorem dX9_vent_19 : decode cX9_vent 19 = .ok (.getfield 148, 3) := by decide +kernel
theorem dX9_vent_22 : decode cX9_vent 22 = .ok (.istore_n 2, 1) := by decide +kernel
theorem dX9_vent_23 : decode cX9_vent 23 = .ok (.aload_n 0, 1) := by decide +kernel
theorem dX9_vent_24 : decode cX9_vent 24 = .ok (.getfield 10, 3) := by decide +kernel
theorem dX9_vent_27 : decode cX9_vent 27 = .ok (.getfield 59, 3) := by decide +kernel
theorem dX9_vent_30 : decode cX9_vent 30 = .ok (.iload_n 1, 1) := by decide +kernel
theorem dX9_vent_31 : decode cX9_vent 31 = .ok (.invokevirtual 151, 3) := by decide +kernel
theorem dX9_vent_34 : decode cX9_vent 34 = .ok (.iload_n 2, 1) := by decide +kernel
theorem dX9_vent_35 : decode cX9_vent 35 = .ok (.ireturn, 1) := by decide +kernel
set_option maxRecDepth 20000 in
theorem ggX9_open_X4_isOnTheWay : GoodIn wsX9_open wsX4_isOnTheWay := goodIn_r _ [9, 10, 70, 71, 72, 73, 74] (by decide +kernel) (by decide +kernel)
set_option maxRecDepth 20000 in
theorem gX9_open_X4_isOnTheWay : GoodIn wsX9_open (wsV RX9 124 RX4 yX4_isOnTheWay wsX4_isOnTheWay) := goodIn_app (goodIn_of _ (by decide +kernel)) ggX9_open_X4_isOnTheWay
set_option maxRecDepth 20000 in
theorem ggX9_open_X8_isSafe : GoodIn wsX9_open wsX8_isSafe := goodIn_r _ [15, 16, 17, 18, 19, 14, 20, 21, 22, 23, 24, 25, 26, 27, 28, 29, 30, 31, 32, 33, 34, 35, 36, 37, 38, 39, 40, 53, 54, 55, 56, 57, 58, 59, 60, 61, 62, 63, 64, 65, 66, 67, 68, 69, 75] (by decide +kernel) (by decide +kernel)
set_option maxRecDepth 20000 in
theorem gX9_open_X8_isSafe : GoodIn wsX9_open (wsV RX9 154 RX8 yX8_isSafe wsX8_isSafe) := goodIn_app (goodIn_of _ (by decide +kernel)) ggX9_open_X8_isSafe
set_option maxRecDepth 20000 in
theorem ggX9_open_X1_openVent : GoodIn wsX9_open wsX1_openVent := goodIn_r _ [44, 45, 63, 64, 65, 66, 67, 68, 69] (by decide +kernel) (by decide +kernel)
set_option maxRecDepth 20000 in
theorem gX9_open_X1_openVent : GoodIn wsX9_open (wsV RX9 157 RX1 yX1_openVent wsX1_openVent) := goodIn_app (goodIn_of _ (by decide +kernel)) ggX9_open_X1_openVent
set_option maxRecDepth 20000 in
theorem ggX9_open_X8_concentration : GoodIn wsX9_open wsX8_concentration := goodIn_r _ [20, 21, 16, 22, 23, 24, 25, 26, 27, 28, 29, 30, 31, 32, 33, 34, 35, 36, 37, 38, 39, 53, 54, 55, 56, 57, 58, 59, 60, 61, 62, 63, 64, 65, 66, 67, 68, 69, 75] (by decide +kernel) (by decide +kernel)
set_option maxRecDepth 20000 in
theorem gX9_open_X8_concentration : GoodIn wsX9_open (wsV RX9 160 RX8 yX8_concentration wsX8_concentration) := goodIn_app (goodIn_of _ (by decide +kernel)) ggX9_open_X8_concentration
theorem dX9_open_0 : decode cX9_open 0 = .ok (.aload_n 0, 1) := by decide +kernel
theorem dX9_open_1 : decode cX9_open 1 = .ok (.getfield 10, 3) := by decide +kernel
theorem dX9_open_4 : decode cX9_open 4 = .ok (.getfield 111, 3) := by decide +kernel
theorem dX9_open_7 : decode cX9_open 7 = .ok (.invokevirtual 124, 3) := by decide +kernel
theorem dX9_open_10 : decode cX9_open 10 = .ok (.ifCond .ne 16, 3) := by decide +kernel
theorem dX9_open_13 : decode cX9_open 13 = .ok (.aload_n 0, 1) := by decide +kernel
theorem dX9_open_14 : decode cX9_open 14 = .ok (.getfield 10, 3) := by decide +kernel
theorem dX9_open_17 : decode cX9_open 17 = .ok (.getfield 59, 3) := by decide +kernel
theorem dX9_open_20 : decode cX9_open 20 = .ok (.getfield 63, 3) := by decide +kernel
theorem dX9_open_23 : decode cX9_open 23 = .ok (.ifCond .eq 6, 3) := by decide +kernel
theorem dX9_open_26 : decode cX9_open 26 = .ok (.bipush (-5), 2) := by decide +kernel
theorem dX9_open_28 : decode cX9_open 28 = .ok (.ireturn, 1) := by decide +kernel
theorem dX9_open_29 : decode cX9_open 29 = .ok (.aload_n 0, 1) := by decide +kernel
theorem dX9_open_30 : decode cX9_open 30 = .ok (.getfield 10, 3) := by decide +kernel
theorem dX9_open_33 : decode cX9_open 33 = .ok (.invokevirtual 154, 3) := by decide +kernel
theorem dX9_open_36 : decode cX9_open 36 = .ok (.ifCond .ne 16, 3) := by decide +kernel
theorem dX9_open_39 : decode cX9_open 39 = .ok (.aload_n 0, 1) := by decide +kernel
theorem dX9_open_40 : decode cX9_open 40 = .ok (.getfield 10, 3) := by decide +kernel
theorem dX9_open_43 : decode cX9_open 43 = .ok (.getfield 59, 3) := by decide +kernel
theorem dX9_open_46 : decode cX9_open 46 = .ok (.invokevirtual 157, 3) := by decide +kernel
theorem dX9_open_49 : decode cX9_open 49 = .ok (.bipush (-6), 2) := by decide +kernel
theorem dX9_open_51 : decode cX9_open 51 = .ok (.ireturn, 1) := by decide +kernel
theorem dX9_open_52 : decode cX9_open 52 = .ok (.aload_n 0, 1) := by decide +kernel
theorem dX9_open_53 : decode cX9_open 53 = .ok (.getfield 10, 3) := by decide +kernel
theorem dX9_open_56 : decode cX9_open 56 = .ok (.getfield 59, 3) := by decide +kernel
theorem dX9_open_59 : decode cX9_open 59 = .ok (.iconst 1, 1) := by decide +kernel
theorem dX9_open_60 : decode cX9_open 60 = .ok (.putfield 63, 3) := by decide +kernel
theorem dX9_open_63 : decode cX9_open 63 = .ok (.aload_n 0, 1) := by decide +kernel
theorem dX9_open_64 : decode cX9_open 64 = .ok (.getfield 10, 3) := by decide +kernel
theorem dX9_open_67 : decode cX9_open 67 = .ok (.invokevirtual 160, 3) := by decide +kernel
theorem dX9_open_70 : decode cX9_open 70 = .ok (.l2i, 1) := by decide +kernel
theorem dX9_open_71 : decode cX9_open 71 = .ok (.ireturn, 1) := by decide +kernel
set_option maxRecDepth 20000 in
theorem ggX9_shut_X8_concentration : GoodIn wsX9_shut wsX8_concentration := goodIn_r _ [8, 9, 10, 11, 12, 13, 14, 15, 16, 17, 18, 19, 20, 21, 22, 23, 24, 25, 26, 27, 28, 35, 36, 37, 38, 39, 40, 41, 42, 43, 44, 45, 46, 47, 48, 49, 50, 51, 52] (by decide +kernel) (by decide +kernel)
set_option maxRecDepth 20000 in
theorem gX9_shut_X8_concentration : GoodIn wsX9_shut (wsV RX9 160 RX8 yX8_concentration wsX8_concentration) := goodIn_app (goodIn_of _ (by decide +kernel)) ggX9_shut_X8_concentration
theorem dX9_shut_0 : decode cX9_shut 0 = .ok (.aload_n 0, 1) := by decide +kernel
theorem dX9_shut_1 : decode cX9_shut 1 = .ok (.getfield 10, 3) := by decide +kernel
theorem dX9_shut_4 : decode cX9_shut 4 = .ok (.getfield 59, 3) := by decide +kernel
theorem dX9_shut_7 : decode cX9_shut 7 = .ok (.getfield 63, 3) := by decide +kernel
theorem dX9_shut_10 : decode cX9_shut 10 = .ok (.ifCond .ne 6, 3) := by decide +kernel
theorem dX9_shut_13 : decode cX9_shut 13 = .ok (.bipush (-5), 2) := by decide +kernel
theorem dX9_shut_15 : decode cX9_shut 15 = .ok (.ireturn, 1) := by decide +kernel
theorem dX9_shut_16 : decode cX9_shut 16 = .ok (.aload_n 0, 1) := by decide +kernel
theorem dX9_shut_17 : decode cX9_shut 17 = .ok (.getfield 10, 3) := by decide +kernel
theorem dX9_shut_20 : decode cX9_shut 20 = .ok (.getfield 59, 3) := by decide +kernel
theorem dX9_shut_23 : decode cX9_shut 23 = .ok (.iconst 0, 1) := by decide +kernel
theorem dX9_shut_24 : decode cX9_shut 24 = .ok (.putfield 63, 3) := by decide +kernel
theorem dX9_shut_27 : decode cX9_shut 27 = .ok (.aload_n 0, 1) := by decide +kernel
theorem dX9_shut_28 : decode cX9_shut 28 = .ok (.getfield 10, 3) := by decide +kernel
theorem dX9_shut_31 : decode cX9_shut 31 = .ok (.invokevirtual 160, 3) := by decide +kernel
theorem dX9_shut_34 : decode cX9_shut 34 = .ok (.l2i, 1) := by decide +kernel
theorem dX9_shut_35 : decode cX9_shut 35 = .ok (.ireturn, 1) := by decide +kernel
set_option maxRecDepth 20000 in
theorem ggX9_sell_X9_within : GoodIn wsX9_sell wsX9_within := goodIn_r _ [10] (by decide +kernel) (by decide +kernel)
set_option maxRecDepth 20000 in
theorem gX9_sell_X9_within : GoodIn wsX9_sell (va_wsS RX9 43 yX9_within wsX9_within) := goodIn_app (goodIn_of _ (by decide +kernel)) ggX9_sell_X9_within
set_option maxRecDepth 20000 in
theorem ggX9_sell_X2_iceOfAll : GoodIn wsX9_sell wsX2_iceOfAll := goodIn_r _ [15, 16, 17, 18, 60, 61, 62, 63, 64, 65] (by decide +kernel) (by decide +kernel)
set_option maxRecDepth 20000 in
theorem gX9_sell_X2_iceOfAll : GoodIn wsX9_sell (wsV RX9 165 RX2 yX2_iceOfAll wsX2_iceOfAll) := goodIn_app (goodIn_of _ (by decide +kernel)) ggX9_sell_X2_iceOfAll
set_option maxRecDepth 20000 in
theorem ggX9_sell_X2_takeFromFront : GoodIn wsX9_sell wsX2_takeFromFront := goodIn_r _ [22, 16, 17, 18, 23, 24, 25, 26, 27, 28, 29, 30, 31, 32, 33, 34, 35, 36, 60, 61, 62, 63, 64, 65] (by decide +kernel) (by decide +kernel)
set_option maxRecDepth 20000 in
theorem gX9_sell_X2_takeFromFront : GoodIn wsX9_sell (wsV RX9 172 RX2 yX2_takeFromFront wsX2_takeFromFront) := goodIn_app (goodIn_of _ (by decide +kernel)) ggX9_sell_X2_takeFromFront
theorem dX9_sell_0 : decode cX9_sell 0 = .ok (.iload_n 1, 1) := by decide +kernel
theorem dX9_sell_1 : decode cX9_sell 1 = .ok (.iconst 1, 1) := by decide +kernel
theorem dX9_sell_2 : decode cX9_sell 2 = .ok (.ldc 164, 2) := by decide +kernel
theorem dX9_sell_4 : decode cX9_sell 4 = .ok (.invokestatic 43, 3) := by decide +kernel
theorem dX9_sell_7 : decode cX9_sell 7 = .ok (.ifCond .ne 6, 3) := by decide +kernel
theorem dX9_sell_10 : decode cX9_sell 10 = .ok (.bipush (-2), 2) := by decide +kernel
theorem dX9_sell_12 : decode cX9_sell 12 = .ok (.ireturn, 1) := by decide +kernel
theorem dX9_sell_13 : decode cX9_sell 13 = .ok (.aload_n 0, 1) := by decide +kernel
theorem dX9_sell_14 : decode cX9_sell 14 = .ok (.getfield 10, 3) := by decide +kernel
theorem dX9_sell_17 : decode cX9_sell 17 = .ok (.getfield 59, 3) := by decide +kernel
theorem dX9_sell_20 : decode cX9_sell 20 = .ok (.getfield 63, 3) := by decide +kernel
theorem dX9_sell_23 : decode cX9_sell 23 = .ok (.ifCond .eq 17, 3) := by decide +kernel
theorem dX9_sell_26 : decode cX9_sell 26 = .ok (.iload_n 1, 1) := by decide +kernel
theorem dX9_sell_27 : decode cX9_sell 27 = .ok (.aload_n 0, 1) := by decide +kernel
theorem dX9_sell_28 : decode cX9_sell 28 = .ok (.getfield 10, 3) := by decide +kernel
theorem dX9_sell_31 : decode cX9_sell 31 = .ok (.getfield 49, 3) := by decide +kernel
theorem dX9_sell_34 : decode cX9_sell 34 = .ok (.invokevirtual 165, 3) := by decide +kernel
theorem dX9_sell_37 : decode cX9_sell 37 = .ok (.if_icmp .le 6, 3) := by decide +kernel
theorem dX9_sell_40 : decode cX9_sell 40 = .ok (.bipush (-5), 2) := by decide +kernel
theorem dX9_sell_42 : decode cX9_sell 42 = .ok (.ireturn, 1) := by decide +kernel
theorem dX9_sell_43 : decode cX9_sell 43 = .ok (.aload_n 0, 1) := by decide +kernel
theorem dX9_sell_44 : decode cX9_sell 44 = .ok (.getfield 10, 3) := by decide +kernel
theorem dX9_sell_47 : decode cX9_sell 47 = .ok (.dup, 1) := by decide +kernel
theorem dX9_sell_48 : decode cX9_sell 48 = .ok (.getfield 169, 3) := by decide +kernel
theorem dX9_sell_51 : decode cX9_sell 51 = .ok (.iload_n 1, 1) := by decide +kernel
theorem dX9_sell_52 : decode cX9_sell 52 = .ok (.i2l, 1) := by decide +kernel
theorem dX9_sell_53 : decode cX9_sell 53 = .ok (.ladd, 1) := by decide +kernel
theorem dX9_sell_54 : decode cX9_sell 54 = .ok (.putfield 169, 3) := by decide +kernel
theorem dX9_sell_57 : decode cX9_sell 57 = .ok (.aload_n 0, 1) := by decide +kernel
theorem dX9_sell_58 : decode cX9_sell 58 = .ok (.getfield 10, 3) := by decide +kernel
theorem dX9_sell_61 : decode cX9_sell 61 = .ok (.getfield 49, 3) := by decide +kernel
theorem dX9_sell_64 : decode cX9_sell 64 = .ok (.iload_n 1, 1) := by decide +kernel
theorem dX9_sell_65 : decode cX9_sell 65 = .ok (.invokevirtual 172, 3) := by decide +kernel
theorem dX9_sell_68 : decode cX9_sell 68 = .ok (.ireturn, 1) := by decide +kernel
set_option maxRecDepth 20000 in
theorem ggX9_spill_X2_boxAt : GoodIn wsX9_spill wsX2_boxAt := goodIn_r _ [10, 11, 12, 13, 14, 15, 37, 38] (by decide +kernel) (by decide +kernel)
set_option maxRecDepth 20000 in
theorem gX9_spill_X2_boxAt : GoodIn wsX9_spill (wsV RX9 77 RX2 yX2_boxAt wsX2_boxAt) := goodIn_app (goodIn_of _ (by decide +kernel)) ggX9_spill_X2_boxAt
set_option maxRecDepth 20000 in
theorem ggX9_spill_X9_within : GoodIn wsX9_spill wsX9_within := goodIn_r _ [15] (by decide +kernel) (by decide +kernel)
set_option maxRecDepth 20000 in
theorem gX9_spill_X9_within : GoodIn wsX9_spill (va_wsS RX9 43 yX9_within wsX9_within) := goodIn_app (goodIn_of _ (by decide +kernel)) ggX9_spill_X9_within
theorem dX9_spill_0 : decode cX9_spill 0 = .ok (.aload_n 0, 1) := by decide +kernel
theorem dX9_spill_1 : decode cX9_spill 1 = .ok (.getfield 10, 3) := by decide +kernel
theorem dX9_spill_4 : decode cX9_spill 4 = .ok (.getfield 49, 3) := by decide +kernel
theorem dX9_spill_7 : decode cX9_spill 7 = .ok (.iload_n 1, 1) := by decide +kernel
theorem dX9_spill_8 : decode cX9_spill 8 = .ok (.invokevirtual 77, 3) := by decide +kernel
theorem dX9_spill_11 : decode cX9_spill 11 = .ok (.astore_n 3, 1) := by decide +kernel
theorem dX9_spill_12 : decode cX9_spill 12 = .ok (.aload_n 3, 1) := by decide +kernel
theorem dX9_spill_13 : decode cX9_spill 13 = .ok (.ifnonnull 5, 3) := by decide +kernel
theorem dX9_spill_16 : decode cX9_spill 16 = .ok (.iconst (-1), 1) := by decide +kernel
theorem dX9_spill_17 : decode cX9_spill 17 = .ok (.ireturn, 1) := by decide +kernel
theorem dX9_spill_18 : decode cX9_spill 18 = .ok (.iload_n 2, 1) := by decide +kernel
theorem dX9_spill_19 : decode cX9_spill 19 = .ok (.iconst 1, 1) := by decide +kernel
theorem dX9_spill_20 : decode cX9_spill 20 = .ok (.ldc 48, 2) := by decide +kernel
theorem dX9_spill_22 : decode cX9_spill 22 = .ok (.invokestatic 43, 3) := by decide +kernel
theorem dX9_spill_25 : decode cX9_spill 25 = .ok (.ifCond .eq 11, 3) := by decide +kernel
theorem dX9_spill_28 : decode cX9_spill 28 = .ok (.iload_n 2, 1) := by decide +kernel
theorem dX9_spill_29 : decode cX9_spill 29 = .ok (.aload_n 3, 1) := by decide +kernel
theorem dX9_spill_30 : decode cX9_spill 30 = .ok (.getfield 81, 3) := by decide +kernel
theorem dX9_spill_33 : decode cX9_spill 33 = .ok (.if_icmp .le 6, 3) := by decide +kernel
theorem dX9_spill_36 : decode cX9_spill 36 = .ok (.bipush (-2), 2) := by decide +kernel
theorem dX9_spill_38 : decode cX9_spill 38 = .ok (.ireturn, 1) := by decide +kernel
theorem dX9_spill_39 : decode cX9_spill 39 = .ok (.aload_n 3, 1) := by decide +kernel
theorem dX9_spill_40 : decode cX9_spill 40 = .ok (.dup, 1) := by decide +kernel
theorem dX9_spill_41 : decode cX9_spill 41 = .ok (.getfield 81, 3) := by decide +kernel
theorem dX9_spill_44 : decode cX9_spill 44 = .ok (.iload_n 2, 1) := by decide +kernel
theorem dX9_spill_45 : decode cX9_spill 45 = .ok (.isub, 1) := by decide +kernel
theorem dX9_spill_46 : decode cX9_spill 46 = .ok (.putfield 81, 3) := by decide +kernel
theorem dX9_spill_49 : decode cX9_spill 49 = .ok (.aload_n 0, 1) := by decide +kernel
theorem dX9_spill_50 : decode cX9_spill 50 = .ok (.getfield 10, 3) := by decide +kernel
theorem dX9_spill_53 : decode cX9_spill 53 = .ok (.dup, 1) := by decide +kernel
theorem dX9_spill_54 : decode cX9_spill 54 = .ok (.getfield 176, 3) := by decide +kernel
theorem dX9_spill_57 : decode cX9_spill 57 = .ok (.iload_n 2, 1) := by decide +kernel
theorem dX9_spill_58 : decode cX9_spill 58 = .ok (.i2l, 1) := by decide +kernel
theorem dX9_spill_59 : decode cX9_spill 59 = .ok (.ladd, 1) := by decide +kernel
theorem dX9_spill_60 : decode cX9_spill 60 = .ok (.putfield 176, 3) := by decide +kernel
theorem dX9_spill_63 : decode cX9_spill 63 = .ok (.aload_n 3, 1) := by decide +kernel
theorem dX9_spill_64 : decode cX9_spill 64 = .ok (.getfield 81, 3) := by decide +kernel
theorem dX9_spill_67 : decode cX9_spill 67 = .ok (.ireturn, 1) := by decide +kernel
set_option maxRecDepth 20000 in
theorem ggX9_weigh_X2_boxAt : GoodIn wsX9_weigh wsX2_boxAt := goodIn_r _ [10, 11, 12, 13, 14, 15, 42, 43] (by decide +kernel) (by decide +kernel)
set_option maxRecDepth 20000 in
theorem gX9_weigh_X2_boxAt : GoodIn wsX9_weigh (wsV RX9 77 RX2 yX2_boxAt wsX2_boxAt) := goodIn_app (goodIn_of _ (by decide +kernel)) ggX9_weigh_X2_boxAt
set_option maxRecDepth 20000 in
theorem ggX9_weigh_X4_isOnTheWay : GoodIn wsX9_weigh wsX4_isOnTheWay := goodIn_r _ [20, 21, 44, 45, 46, 47, 48] (by decide +kernel) (by decide +kernel)
set_option maxRecDepth 20000 in
theorem gX9_weigh_X4_isOnTheWay : GoodIn wsX9_weigh (wsV RX9 124 RX4 yX4_isOnTheWay wsX4_isOnTheWay) := goodIn_app (goodIn_of _ (by decide +kernel)) ggX9_weigh_X4_isOnTheWay
theorem dX9_weigh_0 : decode cX9_weigh 0 = .ok (.aload_n 0, 1) := by decide +kernel
theorem dX9_weigh_1 : decode cX9_weigh 1 = .ok (.getfield 10, 3) := by decide +kernel
theorem dX9_weigh_4 : decode cX9_weigh 4 = .ok (.getfield 49, 3) := by decide +kernel
theorem dX9_weigh_7 : decode cX9_weigh 7 = .ok (.iload_n 1, 1) := by decide +kernel
theorem dX9_weigh_8 : decode cX9_weigh 8 = .ok (.invokevirtual 77, 3) := by decide +kernel
theorem dX9_weigh_11 : decode cX9_weigh 11 = .ok (.astore_n 2, 1) := by decide +kernel
theorem dX9_weigh_12 : decode cX9_weigh 12 = .ok (.aload_n 2, 1) := by decide +kernel
theorem dX9_weigh_13 : decode cX9_weigh 13 = .ok (.ifnonnull 5, 3) := by decide +kernel
theorem dX9_weigh_16 : decode cX9_weigh 16 = .ok (.iconst (-1), 1) := by decide +kernel
theorem dX9_weigh_17 : decode cX9_weigh 17 = .ok (.ireturn, 1) := by decide +kernel
theorem dX9_weigh_18 : decode cX9_weigh 18 = .ok (.aload_n 0, 1) := by decide +kernel
theorem dX9_weigh_19 : decode cX9_weigh 19 = .ok (.getfield 10, 3) := by decide +kernel
theorem dX9_weigh_22 : decode cX9_weigh 22 = .ok (.getfield 111, 3) := by decide +kernel
theorem dX9_weigh_25 : decode cX9_weigh 25 = .ok (.invokevirtual 124, 3) := by decide +kernel
theorem dX9_weigh_28 : decode cX9_weigh 28 = .ok (.ifCond .eq 8, 3) := by decide +kernel
theorem dX9_weigh_31 : decode cX9_weigh 31 = .ok (.bipush (-5), 2) := by decide +kernel
theorem dX9_weigh_33 : decode cX9_weigh 33 = .ok (.goto 12, 3) := by decide +kernel
theorem dX9_weigh_36 : decode cX9_weigh 36 = .ok (.aload_n 2, 1) := by decide +kernel
theorem dX9_weigh_37 : decode cX9_weigh 37 = .ok (.getfield 179, 3) := by decide +kernel
theorem dX9_weigh_40 : decode cX9_weigh 40 = .ok (.aload_n 2, 1) := by decide +kernel
theorem dX9_weigh_41 : decode cX9_weigh 41 = .ok (.getfield 81, 3) := by decide +kernel
theorem dX9_weigh_44 : decode cX9_weigh 44 = .ok (.iadd, 1) := by decide +kernel
theorem dX9_weigh_45 : decode cX9_weigh 45 = .ok (.ireturn, 1) := by decide +kernel
set_option maxRecDepth 20000 in
theorem ggX9_check_X2_boxAt : GoodIn wsX9_check wsX2_boxAt := goodIn_r _ [12, 13, 14, 15, 16, 17, 44, 45] (by decide +kernel) (by decide +kernel)
set_option maxRecDepth 20000 in
theorem gX9_check_X2_boxAt : GoodIn wsX9_check (wsV RX9 77 RX2 yX2_boxAt wsX2_boxAt) := goodIn_app (goodIn_of _ (by decide +kernel)) ggX9_check_X2_boxAt
set_option maxRecDepth 20000 in
theorem ggX9_check_X4_isOnTheWay : GoodIn wsX9_check wsX4_isOnTheWay := goodIn_r _ [22, 23, 46, 47, 48, 49, 50] (by decide +kernel) (by decide +kernel)
set_option maxRecDepth 20000 in
theorem gX9_check_X4_isOnTheWay : GoodIn wsX9_check (wsV RX9 124 RX4 yX4_isOnTheWay wsX4_isOnTheWay) := goodIn_app (goodIn_of _ (by decide +kernel)) ggX9_check_X4_isOnTheWay
theorem dX9_check_0 : decode cX9_check 0 = .ok (.aload_n 0, 1) := by decide +kernel
theorem dX9_check_1 : decode cX9_check 1 = .ok (.getfield 10, 3) := by decide +kernel
theorem dX9_check_4 : decode cX9_check 4 = .ok (.getfield 49, 3) := by decide +kernel
theorem dX9_check_7 : decode cX9_check 7 = .ok (.iload_n 1, 1) := by decide +kernel
theorem dX9_check_8 : decode cX9_check 8 = .ok (.invokevirtual 77, 3) := by decide +kernel
theorem dX9_check_11 : decode cX9_check 11 = .ok (.astore_n 2, 1) := by decide +kernel
theorem dX9_check_12 : decode cX9_check 12 = .ok (.aload_n 2, 1) := by decide +kernel
theorem dX9_check_13 : decode cX9_check 13 = .ok (.ifnonnull 6, 3) := by decide +kernel
theorem dX9_check_16 : decode cX9_check 16 = .ok (.ldc 182, 2) := by decide +kernel
theorem dX9_check_18 : decode cX9_check 18 = .ok (.ireturn, 1) := by decide +kernel
theorem dX9_check_19 : decode cX9_check 19 = .ok (.aload_n 0, 1) := by decide +kernel
theorem dX9_check_20 : decode cX9_check 20 = .ok (.getfield 10, 3) := by decide +kernel
theorem dX9_check_23 : decode cX9_check 23 = .ok (.getfield 111, 3) := by decide +kernel
theorem dX9_check_26 : decode cX9_check 26 = .ok (.invokevirtual 124, 3) := by decide +kernel
theorem dX9_check_29 : decode cX9_check 29 = .ok (.ifCond .eq 6, 3) := by decide +kernel
theorem dX9_check_32 : decode cX9_check 32 = .ok (.ldc 183, 2) := by decide +kernel
theorem dX9_check_34 : decode cX9_check 34 = .ok (.ireturn, 1) := by decide +kernel
theorem dX9_check_35 : decode cX9_check 35 = .ok (.aload_n 2, 1) := by decide +kernel
theorem dX9_check_36 : decode cX9_check 36 = .ok (.getfield 184, 3) := by decide +kernel
theorem dX9_check_39 : decode cX9_check 39 = .ok (.aload_n 2, 1) := by decide +kernel
theorem dX9_check_40 : decode cX9_check 40 = .ok (.getfield 81, 3) := by decide +kernel
theorem dX9_check_43 : decode cX9_check 43 = .ok (.isub, 1) := by decide +kernel
theorem dX9_check_44 : decode cX9_check 44 = .ok (.istore_n 3, 1) := by decide +kernel
theorem dX9_check_45 : decode cX9_check 45 = .ok (.aload_n 2, 1) := by decide +kernel
theorem dX9_check_46 : decode cX9_check 46 = .ok (.aload_n 2, 1) := by decide +kernel
theorem dX9_check_47 : decode cX9_check 47 = .ok (.getfield 81, 3) := by decide +kernel
theorem dX9_check_50 : decode cX9_check 50 = .ok (.putfield 184, 3) := by decide +kernel
theorem dX9_check_53 : decode cX9_check 53 = .ok (.iload_n 3, 1) := by decide +kernel
theorem dX9_check_54 : decode cX9_check 54 = .ok (.ireturn, 1) := by decide +kernel
set_option maxRecDepth 20000 in
theorem ggX9_box_X2_boxAt : GoodIn wsX9_box wsX2_boxAt := goodIn_r _ [14, 15, 16, 17, 18, 19, 70, 71] (by decide +kernel) (by decide +kernel)
set_option maxRecDepth 20000 in
theorem gX9_box_X2_boxAt : GoodIn wsX9_box (wsV RX9 77 RX2 yX2_boxAt wsX2_boxAt) := goodIn_app (goodIn_of _ (by decide +kernel)) ggX9_box_X2_boxAt
set_option maxRecDepth 20000 in
theorem ggX9_box_X6_value : GoodIn wsX9_box wsX6_value := goodIn_r _ [24, 25, 17, 18, 19, 72] (by decide +kernel) (by decide +kernel)
set_option maxRecDepth 20000 in
theorem gX9_box_X6_value : GoodIn wsX9_box (wsV RX9 193 RX6 yX6_value wsX6_value) := goodIn_app (goodIn_of _ (by decide +kernel)) ggX9_box_X6_value
set_option maxRecDepth 20000 in
theorem ggX9_box_X0_goingOff : GoodIn wsX9_box wsX0_goingOff := goodIn_r _ [30, 31, 32, 33, 34, 35, 36, 37, 38, 39, 40, 41, 18, 42, 59, 60, 61, 62] (by decide +kernel) (by decide +kernel)
set_option maxRecDepth 20000 in
theorem gX9_box_X0_goingOff : GoodIn wsX9_box (wsV RX9 196 RX0 yX0_goingOff wsX0_goingOff) := goodIn_app (goodIn_of _ (by decide +kernel)) ggX9_box_X0_goingOff
theorem dX9_box_0 : decode cX9_box 0 = .ok (.aload_n 0, 1) := by decide +kernel
theorem dX9_box_1 : decode cX9_box 1 = .ok (.getfield 10, 3) := by decide +kernel
theorem dX9_box_4 : decode cX9_box 4 = .ok (.getfield 49, 3) := by decide +kernel
theorem dX9_box_7 : decode cX9_box 7 = .ok (.iload_n 1, 1) := by decide +kernel
theorem dX9_box_8 : decode cX9_box 8 = .ok (.invokevirtual 77, 3) := by decide +kernel
theorem dX9_box_11 : decode cX9_box 11 = .ok (.astore_n 3, 1) := by decide +kernel
theorem dX9_box_12 : decode cX9_box 12 = .ok (.aload_n 3, 1) := by decide +kernel
theorem dX9_box_13 : decode cX9_box 13 = .ok (.ifnonnull 5, 3) := by decide +kernel
theorem dX9_box_16 : decode cX9_box 16 = .ok (.iconst (-1), 1) := by decide +kernel
theorem dX9_box_17 : decode cX9_box 17 = .ok (.ireturn, 1) := by decide +kernel
theorem dX9_box_18 : decode cX9_box 18 = .ok (.iload_n 2, 1) := by decide +kernel
theorem dX9_box_19 : decode cX9_box 19 = .ok (.tableswitch 79 0 4 #[33, 38, 43, 48, 53], 33) := by decide +kernel
theorem dX9_box_52 : decode cX9_box 52 = .ok (.aload_n 3, 1) := by decide +kernel
theorem dX9_box_53 : decode cX9_box 53 = .ok (.getfield 187, 3) := by decide +kernel
theorem dX9_box_56 : decode cX9_box 56 = .ok (.ireturn, 1) := by decide +kernel
theorem dX9_box_57 : decode cX9_box 57 = .ok (.aload_n 3, 1) := by decide +kernel
theorem dX9_box_58 : decode cX9_box 58 = .ok (.getfield 179, 3) := by decide +kernel
theorem dX9_box_61 : decode cX9_box 61 = .ok (.ireturn, 1) := by decide +kernel
theorem dX9_box_62 : decode cX9_box 62 = .ok (.aload_n 3, 1) := by decide +kernel
theorem dX9_box_63 : decode cX9_box 63 = .ok (.getfield 81, 3) := by decide +kernel
theorem dX9_box_66 : decode cX9_box 66 = .ok (.ireturn, 1) := by decide +kernel
theorem dX9_box_67 : decode cX9_box 67 = .ok (.aload_n 3, 1) := by decide +kernel
theorem dX9_box_68 : decode cX9_box 68 = .ok (.getfield 184, 3) := by decide +kernel
theorem dX9_box_71 : decode cX9_box 71 = .ok (.ireturn, 1) := by decide +kernel
theorem dX9_box_72 : decode cX9_box 72 = .ok (.aload_n 3, 1) := by decide +kernel
theorem dX9_box_73 : decode cX9_box 73 = .ok (.aload_n 0, 1) := by decide +kernel
theorem dX9_box_74 : decode cX9_box 74 = .ok (.getfield 10, 3) := by decide +kernel
theorem dX9_box_77 : decode cX9_box 77 = .ok (.getfield 59, 3) := by decide +kernel
theorem dX9_box_80 : decode cX9_box 80 = .ok (.getfield 190, 3) := by decide +kernel
theorem dX9_box_83 : decode cX9_box 83 = .ok (.aload_n 0, 1) := by decide +kernel
theorem dX9_box_84 : decode cX9_box 84 = .ok (.getfield 10, 3) := by decide +kernel
theorem dX9_box_87 : decode cX9_box 87 = .ok (.getfield 97, 3) := by decide +kernel
theorem dX9_box_90 : decode cX9_box 90 = .ok (.iconst 0, 1) := by decide +kernel
theorem dX9_box_91 : decode cX9_box 91 = .ok (.invokevirtual 193, 3) := by decide +kernel
theorem dX9_box_94 : decode cX9_box 94 = .ok (.invokevirtual 196, 3) := by decide +kernel
theorem dX9_box_97 : decode cX9_box 97 = .ok (.ireturn, 1) := by decide +kernel
theorem dX9_box_98 : decode cX9_box 98 = .ok (.bipush (-2), 2) := by decide +kernel
theorem dX9_box_100 : decode cX9_box 100 = .ok (.ireturn, 1) := by decide +kernel
set_option maxRecDepth 20000 in
theorem ggX9_van_X9_within : GoodIn wsX9_van wsX9_within := goodIn_r _ [25] (by decide +kernel) (by decide +kernel)
set_option maxRecDepth 20000 in
theorem gX9_van_X9_within : GoodIn wsX9_van (va_wsS RX9 43 yX9_within wsX9_within) := goodIn_app (goodIn_of _ (by decide +kernel)) ggX9_van_X9_within
set_option maxRecDepth 20000 in
theorem ggX9_van_X6_value : GoodIn wsX9_van wsX6_value := goodIn_r _ [30, 31, 23, 24, 25, 93] (by decide +kernel) (by decide +kernel)
set_option maxRecDepth 20000 in
theorem gX9_van_X6_value : GoodIn wsX9_van (wsV RX9 193 RX6 yX6_value wsX6_value) := goodIn_app (goodIn_of _ (by decide +kernel)) ggX9_van_X6_value
set_option maxRecDepth 20000 in
theorem ggX9_van_X4_outsideNow : GoodIn wsX9_van wsX4_outsideNow := goodIn_r _ [36, 37, 38, 39, 40, 41, 35, 42, 43, 23, 24, 25, 84, 85, 86, 87, 88] (by decide +kernel) (by decide +kernel)
set_option maxRecDepth 20000 in
theorem gX9_van_X4_outsideNow : GoodIn wsX9_van (wsV RX9 200 RX4 yX4_outsideNow wsX4_outsideNow) := goodIn_app (goodIn_of _ (by decide +kernel)) ggX9_van_X4_outsideNow
set_option maxRecDepth 20000 in
theorem ggX9_van_X8_concentration : GoodIn wsX9_van wsX8_concentration := goodIn_r _ [48, 49, 50, 51, 52, 53, 54, 55, 56, 57, 58, 27, 28, 29, 30, 31, 23, 24, 25, 59, 60, 67, 68, 69, 70, 71, 72, 73, 74, 75, 76, 77, 78, 79, 80, 81, 82, 83, 93] (by decide +kernel) (by decide +kernel)
set_option maxRecDepth 20000 in
theorem gX9_van_X8_concentration : GoodIn wsX9_van (wsV RX9 160 RX8 yX8_concentration wsX8_concentration) := goodIn_app (goodIn_of _ (by decide +kernel)) ggX9_van_X8_concentration
theorem dX9_van_0 : decode cX9_van 0 = .ok (.iload_n 1, 1) := by decide +kernel
theorem dX9_van_1 : decode cX9_van 1 = .ok (.iconst 0, 1) := by decide +kernel
theorem dX9_van_2 : decode cX9_van 2 = .ok (.bipush 25, 2) := by decide +kernel
theorem dX9_van_4 : decode cX9_van 4 = .ok (.invokestatic 43, 3) := by decide +kernel
theorem dX9_van_7 : decode cX9_van 7 = .ok (.ifCond .ne 6, 3) := by decide +kernel
theorem dX9_van_10 : decode cX9_van 10 = .ok (.ldc 199, 2) := by decide +kernel
theorem dX9_van_12 : decode cX9_van 12 = .ok (.ireturn, 1) := by decide +kernel
theorem dX9_van_13 : decode cX9_van 13 = .ok (.iload_n 1, 1) := by decide +kernel
theorem dX9_van_14 : decode cX9_van 14 = .ok (.bipush 15, 2) := by decide +kernel
theorem dX9_van_16 : decode cX9_van 16 = .ok (.if_icmp .lt 18, 3) := by decide +kernel
theorem dX9_van_19 : decode cX9_van 19 = .ok (.aload_n 0, 1) := by decide +kernel
theorem dX9_van_20 : decode cX9_van 20 = .ok (.getfield 10, 3) := by decide +kernel
theorem dX9_van_23 : decode cX9_van 23 = .ok (.getfield 97, 3) := by decide +kernel
theorem dX9_van_26 : decode cX9_van 26 = .ok (.iload_n 1, 1) := by decide +kernel
theorem dX9_van_27 : decode cX9_van 27 = .ok (.bipush 15, 2) := by decide +kernel
theorem dX9_van_29 : decode cX9_van 29 = .ok (.isub, 1) := by decide +kernel
theorem dX9_van_30 : decode cX9_van 30 = .ok (.invokevirtual 193, 3) := by decide +kernel
theorem dX9_van_33 : decode cX9_van 33 = .ok (.ireturn, 1) := by decide +kernel
theorem dX9_van_34 : decode cX9_van 34 = .ok (.iload_n 1, 1) := by decide +kernel
theorem dX9_van_35 : decode cX9_van 35 = .ok (.tableswitch 253 0 13 #[69, 77, 88, 99, 111, 120, 131, 150, 161, 180, 209, 220, 231, 242], 69) := by decide +kernel
theorem dX9_van_104 : decode cX9_van 104 = .ok (.aload_n 0, 1) := by decide +kernel
theorem dX9_van_105 : decode cX9_van 105 = .ok (.getfield 10, 3) := by decide +kernel
theorem dX9_van_108 : decode cX9_van 108 = .ok (.getfield 133, 3) := by decide +kernel
theorem dX9_van_111 : decode cX9_van 111 = .ok (.ireturn, 1) := by decide +kernel
theorem dX9_van_112 : decode cX9_van 112 = .ok (.aload_n 0, 1) := by decide +kernel
theorem dX9_van_113 : decode cX9_van 113 = .ok (.getfield 10, 3) := by decide +kernel
theorem dX9_van_116 : decode cX9_van 116 = .ok (.getfield 59, 3) := by decide +kernel
theorem dX9_van_119 : decode cX9_van 119 = .ok (.getfield 190, 3) := by decide +kernel
theorem dX9_van_122 : decode cX9_van 122 = .ok (.ireturn, 1) := by decide +kernel
theorem dX9_van_123 : decode cX9_van 123 = .ok (.aload_n 0, 1) := by decide +kernel
theorem dX9_van_124 : decode cX9_van 124 = .ok (.getfield 10, 3) := by decide +kernel
theorem dX9_van_127 : decode cX9_van 127 = .ok (.getfield 111, 3) := by decide +kernel
theorem dX9_van_130 : decode cX9_van 130 = .ok (.invokevirtual 200, 3) := by decide +kernel
theorem dX9_van_133 : decode cX9_van 133 = .ok (.ireturn, 1) := by decide +kernel
theorem dX9_van_134 : decode cX9_van 134 = .ok (.aload_n 0, 1) := by decide +kernel
theorem dX9_van_135 : decode cX9_van 135 = .ok (.getfield 10, 3) := by decide +kernel
theorem dX9_van_138 : decode cX9_van 138 = .ok (.getfield 59, 3) := by decide +kernel
theorem dX9_van_141 : decode cX9_van 141 = .ok (.getfield 203, 3) := by decide +kernel
theorem dX9_van_144 : decode cX9_van 144 = .ok (.l2i, 1) := by decide +kernel
theorem dX9_van_145 : decode cX9_van 145 = .ok (.ireturn, 1) := by decide +kernel
theorem dX9_van_146 : decode cX9_van 146 = .ok (.aload_n 0, 1) := by decide +kernel
theorem dX9_van_147 : decode cX9_van 147 = .ok (.getfield 10, 3) := by decide +kernel
theorem dX9_van_150 : decode cX9_van 150 = .ok (.invokevirtual 160, 3) := by decide +kernel
theorem dX9_van_153 : decode cX9_van 153 = .ok (.l2i, 1) := by decide +kernel
theorem dX9_van_154 : decode cX9_van 154 = .ok (.ireturn, 1) := by decide +kernel
theorem dX9_van_155 : decode cX9_van 155 = .ok (.aload_n 0, 1) := by decide +kernel
theorem dX9_van_156 : decode cX9_van 156 = .ok (.getfield 10, 3) := by decide +kernel
theorem dX9_van_159 : decode cX9_van 159 = .ok (.getfield 59, 3) := by decide +kernel
theorem dX9_van_162 : decode cX9_van 162 = .ok (.getfield 148, 3) := by decide +kernel
theorem dX9_van_165 : decode cX9_van 165 = .ok (.ireturn, 1) := by decide +kernel
theorem dX9_van_166 : decode cX9_van 166 = .ok (.aload_n 0, 1) := by decide +kernel
theorem dX9_van_167 : decode cX9_van 167 = .ok (.getfield 10, 3) := by decide +kernel
theorem dX9_van_170 : decode cX9_van 170 = .ok (.getfield 59, 3) := by decide +kernel
theorem dX9_van_173 : decode cX9_van 173 = .ok (.getfield 206, 3) := by decide +kernel
theorem dX9_van_176 : decode cX9_van 176 = .ok (.ifCond .eq 7, 3) := by decide +kernel
theorem dX9_van_179 : decode cX9_van 179 = .ok (.iconst 1, 1) := by decide +kernel
theorem dX9_van_180 : decode cX9_van 180 = .ok (.goto 4, 3) := by decide +kernel
theorem dX9_van_183 : decode cX9_van 183 = .ok (.iconst 0, 1) := by decide +kernel
theorem dX9_van_184 : decode cX9_van 184 = .ok (.ireturn, 1) := by decide +kernel
theorem dX9_van_185 : decode cX9_van 185 = .ok (.aload_n 0, 1) := by decide +kernel
theorem dX9_van_186 : decode cX9_van 186 = .ok (.getfield 10, 3) := by decide +kernel
theorem dX9_van_189 : decode cX9_van 189 = .ok (.getfield 59, 3) := by decide +kernel
theorem dX9_van_192 : decode cX9_van 192 = .ok (.getfield 209, 3) := by decide +kernel
theorem dX9_van_195 : decode cX9_van 195 = .ok (.ireturn, 1) := by decide +kernel
theorem dX9_van_196 : decode cX9_van 196 = .ok (.aload_n 0, 1) := by decide +kernel
theorem dX9_van_197 : decode cX9_van 197 = .ok (.getfield 10, 3) := by decide +kernel
theorem dX9_van_200 : decode cX9_van 200 = .ok (.getfield 59, 3) := by decide +kernel
theorem dX9_van_203 : decode cX9_van 203 = .ok (.getfield 63, 3) := by decide +kernel
theorem dX9_van_206 : decode cX9_van 206 = .ok (.ifCond .eq 7, 3) := by decide +kernel
theorem dX9_van_209 : decode cX9_van 209 = .ok (.iconst 1, 1) := by decide +kernel
theorem dX9_van_210 : decode cX9_van 210 = .ok (.goto 4, 3) := by decide +kernel
theorem dX9_van_213 : decode cX9_van 213 = .ok (.iconst 0, 1) := by decide +kernel
theorem dX9_van_214 : decode cX9_van 214 = .ok (.ireturn, 1) := by decide +kernel
theorem dX9_van_215 : decode cX9_van 215 = .ok (.aload_n 0, 1) := by decide +kernel
theorem dX9_van_216 : decode cX9_van 216 = .ok (.getfield 10, 3) := by decide +kernel
theorem dX9_van_219 : decode cX9_van 219 = .ok (.getfield 111, 3) := by decide +kernel
theorem dX9_van_222 : decode cX9_van 222 = .ok (.getfield 130, 3) := by decide +kernel
theorem dX9_van_225 : decode cX9_van 225 = .ok (.ifCond .ge 8, 3) := by decide +kernel
theorem dX9_van_228 : decode cX9_van 228 = .ok (.ldc 212, 2) := by decide +kernel
theorem dX9_van_230 : decode cX9_van 230 = .ok (.goto 13, 3) := by decide +kernel
theorem dX9_van_233 : decode cX9_van 233 = .ok (.aload_n 0, 1) := by decide +kernel
theorem dX9_van_234 : decode cX9_van 234 = .ok (.getfield 10, 3) := by decide +kernel
theorem dX9_van_237 : decode cX9_van 237 = .ok (.getfield 111, 3) := by decide +kernel
theorem dX9_van_240 : decode cX9_van 240 = .ok (.getfield 130, 3) := by decide +kernel
theorem dX9_van_243 : decode cX9_van 243 = .ok (.ireturn, 1) := by decide +kernel
theorem dX9_van_244 : decode cX9_van 244 = .ok (.aload_n 0, 1) := by decide +kernel
theorem dX9_van_245 : decode cX9_van 245 = .ok (.getfield 10, 3) := by decide +kernel
theorem dX9_van_248 : decode cX9_van 248 = .ok (.getfield 111, 3) := by decide +kernel
theorem dX9_van_251 : decode cX9_van 251 = .ok (.getfield 137, 3) := by decide +kernel
theorem dX9_van_254 : decode cX9_van 254 = .ok (.ireturn, 1) := by decide +kernel
theorem dX9_van_255 : decode cX9_van 255 = .ok (.aload_n 0, 1) := by decide +kernel
theorem dX9_van_256 : decode cX9_van 256 = .ok (.getfield 10, 3) := by decide +kernel
theorem dX9_van_259 : decode cX9_van 259 = .ok (.getfield 59, 3) := by decide +kernel
theorem dX9_van_262 : decode cX9_van 262 = .ok (.getfield 213, 3) := by decide +kernel
theorem dX9_van_265 : decode cX9_van 265 = .ok (.ireturn, 1) := by decide +kernel
theorem dX9_van_266 : decode cX9_van 266 = .ok (.aload_n 0, 1) := by decide +kernel
theorem dX9_van_267 : decode cX9_van 267 = .ok (.getfield 10, 3) := by decide +kernel
theorem dX9_van_270 : decode cX9_van 270 = .ok (.getfield 49, 3) := by decide +kernel
theorem dX9_van_273 : decode cX9_van 273 = .ok (.getfield 53, 3) := by decide +kernel
theorem dX9_van_276 : decode cX9_van 276 = .ok (.ireturn, 1) := by decide +kernel
theorem dX9_van_277 : decode cX9_van 277 = .ok (.aload_n 0, 1) := by decide +kernel
theorem dX9_van_278 : decode cX9_van 278 = .ok (.getfield 10, 3) := by decide +kernel
theorem dX9_van_281 : decode cX9_van 281 = .ok (.getfield 111, 3) := by decide +kernel
theorem dX9_van_284 : decode cX9_van 284 = .ok (.getfield 115, 3) := by decide +kernel
theorem dX9_van_287 : decode cX9_van 287 = .ok (.ireturn, 1) := by decide +kernel
theorem dX9_van_288 : decode cX9_van 288 = .ok (.aload_n 0, 1) := by decide +kernel
theorem dX9_van_289 : decode cX9_van 289 = .ok (.getfield 32, 3) := by decide +kernel
theorem dX9_van_292 : decode cX9_van 292 = .ok (.getfield 216, 3) := by decide +kernel
theorem dX9_van_295 : decode cX9_van 295 = .ok (.ireturn, 1) := by decide +kernel
set_option maxRecDepth 20000 in
theorem ggX9_way_X4_hasLeg : GoodIn wsX9_way wsX4_hasLeg := goodIn_r _ [9, 10, 11, 12, 13, 41, 42, 43, 44, 45] (by decide +kernel) (by decide +kernel)
set_option maxRecDepth 20000 in
theorem gX9_way_X4_hasLeg : GoodIn wsX9_way (wsV RX9 219 RX4 yX4_hasLeg wsX4_hasLeg) := goodIn_app (goodIn_of _ (by decide +kernel)) ggX9_way_X4_hasLeg
set_option maxRecDepth 20000 in
theorem ggX9_way_X4_durationOf : GoodIn wsX9_way wsX4_durationOf := goodIn_r _ [17, 18, 19, 6, 7, 8, 9, 10, 11, 12, 13, 41, 42, 43, 44, 45] (by decide +kernel) (by decide +kernel)
set_option maxRecDepth 20000 in
theorem gX9_way_X4_durationOf : GoodIn wsX9_way (wsV RX9 223 RX4 yX4_durationOf wsX4_durationOf) := goodIn_app (goodIn_of _ (by decide +kernel)) ggX9_way_X4_durationOf
set_option maxRecDepth 20000 in
theorem ggX9_way_X4_outsideOf : GoodIn wsX9_way wsX4_outsideOf := goodIn_r _ [23, 24, 19, 6, 7, 8, 9, 10, 11, 12, 13, 41, 42, 43, 44, 45] (by decide +kernel) (by decide +kernel)
set_option maxRecDepth 20000 in
theorem gX9_way_X4_outsideOf : GoodIn wsX9_way (wsV RX9 226 RX4 yX4_outsideOf wsX4_outsideOf) := goodIn_app (goodIn_of _ (by decide +kernel)) ggX9_way_X4_outsideOf
end
section
theorem dX9_way_0 : decode cX9_way 0 = .ok (.aload_n 0, 1) := by decide +kernel
theorem dX9_way_1 : decode cX9_way 1 = .ok (.getfield 10, 3) := by decide +kernel
theorem dX9_way_4 : decode cX9_way 4 = .ok (.getfield 111, 3) := by decide +kernel
theorem dX9_way_7 : decode cX9_way 7 = .ok (.iload_n 1, 1) := by decide +kernel
theorem dX9_way_8 : decode cX9_way 8 = .ok (.invokevirtual 219, 3) := by decide +kernel
theorem dX9_way_11 : decode cX9_way 11 = .ok (.ifCond .ne 6, 3) := by decide +kernel
theorem dX9_way_14 : decode cX9_way 14 = .ok (.ldc 182, 2) := by decide +kernel
theorem dX9_way_16 : decode cX9_way 16 = .ok (.ireturn, 1) := by decide +kernel
theorem dX9_way_17 : decode cX9_way 17 = .ok (.iload_n 2, 1) := by decide +kernel
theorem dX9_way_18 : decode cX9_way 18 = .ok (.lookupswitch 50 #[(0, 26), (1, 38)], 26) := by decide +kernel
theorem dX9_way_44 : decode cX9_way 44 = .ok (.aload_n 0, 1) := by decide +kernel
theorem dX9_way_45 : decode cX9_way 45 = .ok (.getfield 10, 3) := by decide +kernel
theorem dX9_way_48 : decode cX9_way 48 = .ok (.getfield 111, 3) := by decide +kernel
theorem dX9_way_51 : decode cX9_way 51 = .ok (.iload_n 1, 1) := by decide +kernel
theorem dX9_way_52 : decode cX9_way 52 = .ok (.invokevirtual 223, 3) := by decide +kernel
theorem dX9_way_55 : decode cX9_way 55 = .ok (.ireturn, 1) := by decide +kernel
theorem dX9_way_56 : decode cX9_way 56 = .ok (.aload_n 0, 1) := by decide +kernel
theorem dX9_way_57 : decode cX9_way 57 = .ok (.getfield 10, 3) := by decide +kernel
theorem dX9_way_60 : decode cX9_way 60 = .ok (.getfield 111, 3) := by decide +kernel
theorem dX9_way_63 : decode cX9_way 63 = .ok (.iload_n 1, 1) := by decide +kernel
theorem dX9_way_64 : decode cX9_way 64 = .ok (.invokevirtual 226, 3) := by decide +kernel
theorem dX9_way_67 : decode cX9_way 67 = .ok (.ireturn, 1) := by decide +kernel
theorem dX9_way_68 : decode cX9_way 68 = .ok (.ldc 199, 2) := by decide +kernel
theorem dX9_way_70 : decode cX9_way 70 = .ok (.ireturn, 1) := by decide +kernel
set_option maxRecDepth 20000 in
theorem ggX9_account_X2_iceOfAll : GoodIn wsX9_account wsX2_iceOfAll := goodIn_r _ [13, 14, 15, 16, 33, 34, 35, 36, 37, 38] (by decide +kernel) (by decide +kernel)
set_option maxRecDepth 20000 in
theorem gX9_account_X2_iceOfAll : GoodIn wsX9_account (wsV RX9 165 RX2 yX2_iceOfAll wsX2_iceOfAll) := goodIn_app (goodIn_of _ (by decide +kernel)) ggX9_account_X2_iceOfAll
theorem dX9_account_0 : decode cX9_account 0 = .ok (.iload_n 1, 1) := by decide +kernel
theorem dX9_account_1 : decode cX9_account 1 = .ok (.tableswitch 91 0 5 #[39, 51, 59, 67, 75, 83], 39) := by decide +kernel
theorem dX9_account_40 : decode cX9_account 40 = .ok (.aload_n 0, 1) := by decide +kernel
theorem dX9_account_41 : decode cX9_account 41 = .ok (.getfield 10, 3) := by decide +kernel
theorem dX9_account_44 : decode cX9_account 44 = .ok (.getfield 49, 3) := by decide +kernel
theorem dX9_account_47 : decode cX9_account 47 = .ok (.invokevirtual 165, 3) := by decide +kernel
theorem dX9_account_50 : decode cX9_account 50 = .ok (.i2l, 1) := by decide +kernel
theorem dX9_account_51 : decode cX9_account 51 = .ok (.lreturn, 1) := by decide +kernel
theorem dX9_account_52 : decode cX9_account 52 = .ok (.aload_n 0, 1) := by decide +kernel
theorem dX9_account_53 : decode cX9_account 53 = .ok (.getfield 10, 3) := by decide +kernel
theorem dX9_account_56 : decode cX9_account 56 = .ok (.getfield 73, 3) := by decide +kernel
theorem dX9_account_59 : decode cX9_account 59 = .ok (.lreturn, 1) := by decide +kernel
theorem dX9_account_60 : decode cX9_account 60 = .ok (.aload_n 0, 1) := by decide +kernel
theorem dX9_account_61 : decode cX9_account 61 = .ok (.getfield 10, 3) := by decide +kernel
theorem dX9_account_64 : decode cX9_account 64 = .ok (.getfield 90, 3) := by decide +kernel
theorem dX9_account_67 : decode cX9_account 67 = .ok (.lreturn, 1) := by decide +kernel
theorem dX9_account_68 : decode cX9_account 68 = .ok (.aload_n 0, 1) := by decide +kernel
theorem dX9_account_69 : decode cX9_account 69 = .ok (.getfield 10, 3) := by decide +kernel
theorem dX9_account_72 : decode cX9_account 72 = .ok (.getfield 229, 3) := by decide +kernel
theorem dX9_account_75 : decode cX9_account 75 = .ok (.lreturn, 1) := by decide +kernel
theorem dX9_account_76 : decode cX9_account 76 = .ok (.aload_n 0, 1) := by decide +kernel
theorem dX9_account_77 : decode cX9_account 77 = .ok (.getfield 10, 3) := by decide +kernel
theorem dX9_account_80 : decode cX9_account 80 = .ok (.getfield 169, 3) := by decide +kernel
theorem dX9_account_83 : decode cX9_account 83 = .ok (.lreturn, 1) := by decide +kernel
theorem dX9_account_84 : decode cX9_account 84 = .ok (.aload_n 0, 1) := by decide +kernel
theorem dX9_account_85 : decode cX9_account 85 = .ok (.getfield 10, 3) := by decide +kernel
theorem dX9_account_88 : decode cX9_account 88 = .ok (.getfield 176, 3) := by decide +kernel
theorem dX9_account_91 : decode cX9_account 91 = .ok (.lreturn, 1) := by decide +kernel
theorem dX9_account_92 : decode cX9_account 92 = .ok (.ldc2_w 232, 3) := by decide +kernel
theorem dX9_account_95 : decode cX9_account 95 = .ok (.lreturn, 1) := by decide +kernel
theorem dX9_within_0 : decode cX9_within 0 = .ok (.iload_n 0, 1) := by decide +kernel
theorem dX9_within_1 : decode cX9_within 1 = .ok (.iload_n 1, 1) := by decide +kernel
theorem dX9_within_2 : decode cX9_within 2 = .ok (.if_icmp .lt 12, 3) := by decide +kernel
theorem dX9_within_5 : decode cX9_within 5 = .ok (.iload_n 0, 1) := by decide +kernel
theorem dX9_within_6 : decode cX9_within 6 = .ok (.iload_n 2, 1) := by decide +kernel
theorem dX9_within_7 : decode cX9_within 7 = .ok (.if_icmp .gt 7, 3) := by decide +kernel
theorem dX9_within_10 : decode cX9_within 10 = .ok (.iconst 1, 1) := by decide +kernel
theorem dX9_within_11 : decode cX9_within 11 = .ok (.goto 4, 3) := by decide +kernel
theorem dX9_within_14 : decode cX9_within 14 = .ok (.iconst 0, 1) := by decide +kernel
theorem dX9_within_15 : decode cX9_within 15 = .ok (.ireturn, 1) := by decide +kernel
theorem dX9_quotient_0 : decode cX9_quotient 0 = .ok (.lload_n 2, 1) := by decide +kernel
theorem dX9_quotient_1 : decode cX9_quotient 1 = .ok (.lconst 1, 1) := by decide +kernel
theorem dX9_quotient_2 : decode cX9_quotient 2 = .ok (.lcmp, 1) := by decide +kernel
theorem dX9_quotient_3 : decode cX9_quotient 3 = .ok (.ifCond .ge 7, 3) := by decide +kernel
theorem dX9_quotient_6 : decode cX9_quotient 6 = .ok (.lconst 0, 1) := by decide +kernel
theorem dX9_quotient_7 : decode cX9_quotient 7 = .ok (.goto 6, 3) := by decide +kernel
theorem dX9_quotient_10 : decode cX9_quotient 10 = .ok (.lload_n 0, 1) := by decide +kernel
theorem dX9_quotient_11 : decode cX9_quotient 11 = .ok (.lload_n 2, 1) := by decide +kernel
theorem dX9_quotient_12 : decode cX9_quotient 12 = .ok (.ldiv, 1) := by decide +kernel
theorem dX9_quotient_13 : decode cX9_quotient 13 = .ok (.lreturn, 1) := by decide +kernel
theorem dJ9_max_7cf53_0 : decode cJ9_max_7cf53 0 = .ok (.iload_n 0, 1) := by decide +kernel
theorem dJ9_max_7cf53_1 : decode cJ9_max_7cf53 1 = .ok (.iload_n 1, 1) := by decide +kernel
theorem dJ9_max_7cf53_2 : decode cJ9_max_7cf53 2 = .ok (.if_icmp .lt 7, 3) := by decide +kernel
theorem dJ9_max_7cf53_5 : decode cJ9_max_7cf53 5 = .ok (.iload_n 0, 1) := by decide +kernel
theorem dJ9_max_7cf53_6 : decode cJ9_max_7cf53 6 = .ok (.goto 4, 3) := by decide +kernel
theorem dJ9_max_7cf53_9 : decode cJ9_max_7cf53 9 = .ok (.iload_n 1, 1) := by decide +kernel
theorem dJ9_max_7cf53_10 : decode cJ9_max_7cf53 10 = .ok (.ireturn, 1) := by decide +kernel
theorem dJ9_max_f86c9_0 : decode cJ9_max_f86c9 0 = .ok (.lload_n 0, 1) := by decide +kernel
theorem dJ9_max_f86c9_1 : decode cJ9_max_f86c9 1 = .ok (.lload_n 2, 1) := by decide +kernel
theorem dJ9_max_f86c9_2 : decode cJ9_max_f86c9 2 = .ok (.lcmp, 1) := by decide +kernel
theorem dJ9_max_f86c9_3 : decode cJ9_max_f86c9 3 = .ok (.ifCond .lt 7, 3) := by decide +kernel
theorem dJ9_max_f86c9_6 : decode cJ9_max_f86c9 6 = .ok (.lload_n 0, 1) := by decide +kernel
theorem dJ9_max_f86c9_7 : decode cJ9_max_f86c9 7 = .ok (.goto 4, 3) := by decide +kernel
theorem dJ9_max_f86c9_10 : decode cJ9_max_f86c9 10 = .ok (.lload_n 2, 1) := by decide +kernel
theorem dJ9_max_f86c9_11 : decode cJ9_max_f86c9 11 = .ok (.lreturn, 1) := by decide +kernel
theorem dJ9_min_7cf53_0 : decode cJ9_min_7cf53 0 = .ok (.iload_n 0, 1) := by decide +kernel
theorem dJ9_min_7cf53_1 : decode cJ9_min_7cf53 1 = .ok (.iload_n 1, 1) := by decide +kernel
theorem dJ9_min_7cf53_2 : decode cJ9_min_7cf53 2 = .ok (.if_icmp .gt 7, 3) := by decide +kernel
theorem dJ9_min_7cf53_5 : decode cJ9_min_7cf53 5 = .ok (.iload_n 0, 1) := by decide +kernel
theorem dJ9_min_7cf53_6 : decode cJ9_min_7cf53 6 = .ok (.goto 4, 3) := by decide +kernel
theorem dJ9_min_7cf53_9 : decode cJ9_min_7cf53 9 = .ok (.iload_n 1, 1) := by decide +kernel
theorem dJ9_min_7cf53_10 : decode cJ9_min_7cf53 10 = .ok (.ireturn, 1) := by decide +kernel
theorem dJ9_min_f86c9_0 : decode cJ9_min_f86c9 0 = .ok (.lload_n 0, 1) := by decide +kernel
theorem dJ9_min_f86c9_1 : decode cJ9_min_f86c9 1 = .ok (.lload_n 2, 1) := by decide +kernel
theorem dJ9_min_f86c9_2 : decode cJ9_min_f86c9 2 = .ok (.lcmp, 1) := by decide +kernel
theorem dJ9_min_f86c9_3 : decode cJ9_min_f86c9 3 = .ok (.ifCond .gt 7, 3) := by decide +kernel
theorem dJ9_min_f86c9_6 : decode cJ9_min_f86c9 6 = .ok (.lload_n 0, 1) := by decide +kernel
theorem dJ9_min_f86c9_7 : decode cJ9_min_f86c9 7 = .ok (.goto 4, 3) := by decide +kernel
theorem dJ9_min_f86c9_10 : decode cJ9_min_f86c9 10 = .ok (.lload_n 2, 1) := by decide +kernel
theorem dJ9_min_f86c9_11 : decode cJ9_min_f86c9 11 = .ok (.lreturn, 1) := by decide +kernel
theorem dL_cell_0 : decode cL_cell 0 = .ok (.aload_n 0, 1) := by decide +kernel
theorem dL_cell_1 : decode cL_cell 1 = .ok (.arraylength, 1) := by decide +kernel
theorem dL_cell_2 : decode cL_cell 2 = .ok (.ifCond .ne 12, 3) := by decide +kernel
theorem dL_cell_5 : decode cL_cell 5 = .ok (.iload_n 1, 1) := by decide +kernel
theorem dL_cell_6 : decode cL_cell 6 = .ok (.bipush 37, 2) := by decide +kernel
theorem dL_cell_8 : decode cL_cell 8 = .ok (.imul, 1) := by decide +kernel
theorem dL_cell_9 : decode cL_cell 9 = .ok (.iconst 5, 1) := by decide +kernel
theorem dL_cell_10 : decode cL_cell 10 = .ok (.iadd, 1) := by decide +kernel
theorem dL_cell_11 : decode cL_cell 11 = .ok (.goto 17, 3) := by decide +kernel
theorem dL_cell_14 : decode cL_cell 14 = .ok (.aload_n 0, 1) := by decide +kernel
theorem dL_cell_15 : decode cL_cell 15 = .ok (.iload_n 1, 1) := by decide +kernel
theorem dL_cell_16 : decode cL_cell 16 = .ok (.aload_n 0, 1) := by decide +kernel
theorem dL_cell_17 : decode cL_cell 17 = .ok (.arraylength, 1) := by decide +kernel
theorem dL_cell_18 : decode cL_cell 18 = .ok (.irem, 1) := by decide +kernel
theorem dL_cell_19 : decode cL_cell 19 = .ok (.iaload, 1) := by decide +kernel
theorem dL_cell_20 : decode cL_cell 20 = .ok (.iload_n 1, 1) := by decide +kernel
theorem dL_cell_21 : decode cL_cell 21 = .ok (.bipush 7, 2) := by decide +kernel
theorem dL_cell_23 : decode cL_cell 23 = .ok (.irem, 1) := by decide +kernel
theorem dL_cell_24 : decode cL_cell 24 = .ok (.ishr, 1) := by decide +kernel
theorem dL_cell_25 : decode cL_cell 25 = .ok (.ldc 7, 2) := by decide +kernel
theorem dL_cell_27 : decode cL_cell 27 = .ok (.iand, 1) := by decide +kernel
theorem dL_cell_28 : decode cL_cell 28 = .ok (.iload_n 2, 1) := by decide +kernel
theorem dL_cell_29 : decode cL_cell 29 = .ok (.irem, 1) := by decide +kernel
theorem dL_cell_30 : decode cL_cell 30 = .ok (.ireturn, 1) := by decide +kernel
set_option maxRecDepth 20000 in
theorem ggL_goesOff_X9_van : GoodIn wsL_goesOff wsX9_van := goodIn_r _ [7, 8, 9, 10, 11, 12, 13, 14, 15, 16, 17, 18, 19, 20, 21, 22, 23, 24, 25, 26, 27, 28, 29, 30, 6, 31, 32, 33, 34, 35, 36, 37, 38, 39, 40, 41, 42, 43, 44, 45, 46, 47, 48, 49, 50, 51, 52, 53, 54, 55, 56, 57, 58, 59, 60, 61, 62, 63, 64, 65, 66, 97, 98, 99, 100, 101, 102, 103, 104, 105, 106, 107, 108, 109, 110, 111, 112, 113, 114, 115, 116, 117, 118, 119, 120, 121, 122, 123, 124, 125, 126, 127, 128, 129] (by decide +kernel) (by decide +kernel)
set_option maxRecDepth 20000 in
theorem gL_goesOff_X9_van : GoodIn wsL_goesOff (wsV RL 8 RX9 yX9_van wsX9_van) := goodIn_app (goodIn_of _ (by decide +kernel)) ggL_goesOff_X9_van
set_option maxRecDepth 20000 in
theorem ggL_goesOff_X9_box : GoodIn wsL_goesOff wsX9_box := goodIn_r _ [70, 9, 24, 71, 72, 73, 74, 12, 13, 10, 75, 76, 77, 78, 79, 80, 81, 30, 6, 31, 32, 33, 34, 35, 36, 37, 82, 83, 84, 85, 86, 87, 88, 89, 90, 91, 92, 93, 94, 95, 96, 65, 66, 97, 98, 99, 100, 101, 102, 103, 104, 105, 106, 107, 108, 109, 110, 111, 112, 130, 131, 132, 133, 113, 114, 115, 116, 117, 118, 119, 125, 126, 129] (by decide +kernel) (by decide +kernel)
set_option maxRecDepth 20000 in
theorem gL_goesOff_X9_box : GoodIn wsL_goesOff (wsV RL 18 RX9 yX9_box wsX9_box) := goodIn_app (goodIn_of _ (by decide +kernel)) ggL_goesOff_X9_box
theorem dL_goesOff_0 : decode cL_goesOff 0 = .ok (.aload_n 0, 1) := by decide +kernel
theorem dL_goesOff_1 : decode cL_goesOff 1 = .ok (.iconst 1, 1) := by decide +kernel
theorem dL_goesOff_2 : decode cL_goesOff 2 = .ok (.invokevirtual 8, 3) := by decide +kernel
theorem dL_goesOff_5 : decode cL_goesOff 5 = .ok (.i2l, 1) := by decide +kernel
theorem dL_goesOff_6 : decode cL_goesOff 6 = .ok (.ldc2_w 14, 3) := by decide +kernel
theorem dL_goesOff_9 : decode cL_goesOff 9 = .ok (.ladd, 1) := by decide +kernel
theorem dL_goesOff_10 : decode cL_goesOff 10 = .ok (.aload_n 0, 1) := by decide +kernel
theorem dL_goesOff_11 : decode cL_goesOff 11 = .ok (.bipush 15, 2) := by decide +kernel
theorem dL_goesOff_13 : decode cL_goesOff 13 = .ok (.invokevirtual 8, 3) := by decide +kernel
theorem dL_goesOff_16 : decode cL_goesOff 16 = .ok (.i2l, 1) := by decide +kernel
theorem dL_goesOff_17 : decode cL_goesOff 17 = .ok (.lmul, 1) := by decide +kernel
theorem dL_goesOff_18 : decode cL_goesOff 18 = .ok (.ldc2_w 16, 3) := by decide +kernel
theorem dL_goesOff_21 : decode cL_goesOff 21 = .ok (.aload_n 0, 1) := by decide +kernel
theorem dL_goesOff_22 : decode cL_goesOff 22 = .ok (.iload_n 1, 1) := by decide +kernel
theorem dL_goesOff_23 : decode cL_goesOff 23 = .ok (.iconst 0, 1) := by decide +kernel
theorem dL_goesOff_24 : decode cL_goesOff 24 = .ok (.invokevirtual 18, 3) := by decide +kernel
theorem dL_goesOff_27 : decode cL_goesOff 27 = .ok (.i2l, 1) := by decide +kernel
theorem dL_goesOff_28 : decode cL_goesOff 28 = .ok (.lmul, 1) := by decide +kernel
theorem dL_goesOff_29 : decode cL_goesOff 29 = .ok (.ldiv, 1) := by decide +kernel
theorem dL_goesOff_30 : decode cL_goesOff 30 = .ok (.lstore_n 2, 1) := by decide +kernel
theorem dL_goesOff_31 : decode cL_goesOff 31 = .ok (.lload_n 2, 1) := by decide +kernel
theorem dL_goesOff_32 : decode cL_goesOff 32 = .ok (.lconst 0, 1) := by decide +kernel
theorem dL_goesOff_33 : decode cL_goesOff 33 = .ok (.lcmp, 1) := by decide +kernel
theorem dL_goesOff_34 : decode cL_goesOff 34 = .ok (.ifCond .ge 7, 3) := by decide +kernel
theorem dL_goesOff_37 : decode cL_goesOff 37 = .ok (.lconst 0, 1) := by decide +kernel
theorem dL_goesOff_38 : decode cL_goesOff 38 = .ok (.goto 26, 3) := by decide +kernel
theorem dL_goesOff_41 : decode cL_goesOff 41 = .ok (.lload_n 2, 1) := by decide +kernel
theorem dL_goesOff_42 : decode cL_goesOff 42 = .ok (.aload_n 0, 1) := by decide +kernel
theorem dL_goesOff_43 : decode cL_goesOff 43 = .ok (.iload_n 1, 1) := by decide +kernel
theorem dL_goesOff_44 : decode cL_goesOff 44 = .ok (.iconst 2, 1) := by decide +kernel
theorem dL_goesOff_45 : decode cL_goesOff 45 = .ok (.invokevirtual 18, 3) := by decide +kernel
theorem dL_goesOff_48 : decode cL_goesOff 48 = .ok (.i2l, 1) := by decide +kernel
theorem dL_goesOff_49 : decode cL_goesOff 49 = .ok (.lcmp, 1) := by decide +kernel
theorem dL_goesOff_50 : decode cL_goesOff 50 = .ok (.ifCond .le 13, 3) := by decide +kernel
theorem dL_goesOff_53 : decode cL_goesOff 53 = .ok (.aload_n 0, 1) := by decide +kernel
theorem dL_goesOff_54 : decode cL_goesOff 54 = .ok (.iload_n 1, 1) := by decide +kernel
theorem dL_goesOff_55 : decode cL_goesOff 55 = .ok (.iconst 2, 1) := by decide +kernel
theorem dL_goesOff_56 : decode cL_goesOff 56 = .ok (.invokevirtual 18, 3) := by decide +kernel
theorem dL_goesOff_59 : decode cL_goesOff 59 = .ok (.i2l, 1) := by decide +kernel
theorem dL_goesOff_60 : decode cL_goesOff 60 = .ok (.goto 4, 3) := by decide +kernel
theorem dL_goesOff_63 : decode cL_goesOff 63 = .ok (.lload_n 2, 1) := by decide +kernel
theorem dL_goesOff_64 : decode cL_goesOff 64 = .ok (.lreturn, 1) := by decide +kernel
set_option maxRecDepth 20000 in
theorem ggL_isMinute_X9_van : GoodIn wsL_isMinute wsX9_van := goodIn_r _ [9, 10, 11, 12, 13, 14, 15, 16, 17, 18, 19, 20, 21, 22, 23, 24, 25, 26, 27, 28, 29, 30, 31, 32, 8, 33, 34, 35, 36, 37, 38, 39, 40, 41, 42, 43, 44, 45, 46, 47, 48, 49, 50, 51, 52, 53, 54, 55, 56, 57, 58, 59, 60, 61, 62, 63, 64, 65, 66, 67, 68, 203, 204, 205, 206, 207, 208, 209, 210, 211, 212, 213, 214, 215, 216, 217, 218, 219, 220, 221, 222, 223, 224, 225, 226, 227, 228, 229, 230, 231, 232, 233, 234, 235] (by decide +kernel) (by decide +kernel)
set_option maxRecDepth 20000 in
theorem gL_isMinute_X9_van : GoodIn wsL_isMinute (wsV RL 8 RX9 yX9_van wsX9_van) := goodIn_app (goodIn_of _ (by decide +kernel)) ggL_isMinute_X9_van
set_option maxRecDepth 20000 in
theorem ggL_isMinute_L_goesOff : GoodIn wsL_isMinute wsL_goesOff := goodIn_r _ [72, 73, 74, 5, 6, 7, 8, 9, 10, 11, 12, 13, 14, 15, 16, 17, 18, 19, 20, 21, 22, 23, 24, 25, 26, 27, 28, 29, 30, 31, 32, 33, 34, 35, 36, 37, 38, 39, 40, 41, 42, 43, 44, 45, 46, 47, 48, 49, 50, 51, 52, 53, 54, 55, 56, 57, 58, 59, 60, 61, 62, 63, 64, 65, 66, 67, 68, 75, 76, 77, 78, 79, 80, 81, 82, 83, 84, 85, 86, 87, 88, 89, 90, 91, 92, 93, 94, 95, 96, 97, 98, 99, 100, 101, 102, 103, 104, 203, 204, 205, 206, 207, 208, 209, 210, 211, 212, 213, 214, 215, 216, 217, 218, 219, 220, 221, 222, 223, 224, 225, 226, 227, 228, 229, 230, 231, 232, 233, 234, 235, 236, 237, 238, 239] (by decide +kernel) (by decide +kernel)
set_option maxRecDepth 20000 in
theorem gL_isMinute_L_goesOff : GoodIn wsL_isMinute (va_wsS RL 22 yL_goesOff wsL_goesOff) := goodIn_app (goodIn_of _ (by decide +kernel)) ggL_isMinute_L_goesOff
set_option maxRecDepth 20000 in
theorem ggL_isMinute_X9_box : GoodIn wsL_isMinute wsX9_box := goodIn_r _ [78, 11, 26, 79, 80, 81, 82, 14, 15, 12, 83, 84, 85, 86, 87, 88, 89, 32, 8, 33, 34, 35, 36, 37, 38, 39, 90, 91, 92, 93, 94, 95, 96, 97, 98, 99, 100, 101, 102, 103, 104, 67, 68, 203, 204, 205, 206, 207, 208, 209, 210, 211, 212, 213, 214, 215, 216, 217, 218, 236, 237, 238, 239, 219, 220, 221, 222, 223, 224, 225, 231, 232, 235] (by decide +kernel) (by decide +kernel)
set_option maxRecDepth 20000 in
theorem gL_isMinute_X9_box : GoodIn wsL_isMinute (wsV RL 18 RX9 yX9_box wsX9_box) := goodIn_app (goodIn_of _ (by decide +kernel)) ggL_isMinute_X9_box
set_option maxRecDepth 20000 in
theorem ggL_isMinute_X9_account : GoodIn wsL_isMinute wsX9_account := goodIn_r _ [108, 11, 26, 109, 110, 111, 112, 113, 114, 115, 116, 117, 86, 118, 88, 89, 119, 203, 204, 205, 206, 207, 208, 209, 210, 211, 212, 213, 214, 215, 216, 217, 218, 231, 232, 236, 237, 238, 239] (by decide +kernel) (by decide +kernel)
set_option maxRecDepth 20000 in
theorem gL_isMinute_X9_account : GoodIn wsL_isMinute (wsV RL 34 RX9 yX9_account wsX9_account) := goodIn_app (goodIn_of _ (by decide +kernel)) ggL_isMinute_X9_account
set_option maxRecDepth 20000 in
theorem ggL_isMinute_X9_pass : GoodIn wsL_isMinute wsX9_pass := goodIn_r _ [123, 11, 13, 124, 16, 24, 125, 126, 99, 127, 31, 32, 8, 33, 128, 129, 130, 55, 131, 132, 133, 134, 135, 136, 57, 137, 58, 138, 139, 140, 141, 35, 36, 37, 38, 39, 142, 143, 144, 86, 145, 88, 89, 146, 91, 92, 93, 94, 95, 96, 97, 98, 100, 101, 102, 103, 104, 67, 68, 147, 148, 149, 150, 151, 152, 153, 154, 155, 41, 42, 43, 44, 45, 46, 47, 48, 49, 50, 51, 156, 157, 158, 62, 159, 64, 160, 161, 162, 163, 164, 165, 166, 167, 168, 169, 66, 170, 171, 172, 173, 174, 175, 60, 61, 63, 65, 176, 177, 178, 179, 180, 181, 182, 183, 184, 185, 186, 187, 188, 189, 190, 191, 192, 193, 194, 195, 196, 197, 198, 199, 200, 201, 202, 203, 204, 205, 206, 207, 208, 209, 210, 211, 212, 213, 214, 215, 216, 217, 218, 226, 227, 228, 229, 230, 219, 220, 221, 222, 223, 224, 225, 235, 231, 232, 236, 237, 238, 239] (by decide +kernel) (by decide +kernel)
set_option maxRecDepth 20000 in
theorem gL_isMinute_X9_pass : GoodIn wsL_isMinute (wsV RL 38 RX9 yX9_pass wsX9_pass) := goodIn_app (goodIn_of _ (by decide +kernel)) ggL_isMinute_X9_pass
theorem dL_isMinute_0 : decode cL_isMinute 0 = .ok (.aload_n 0, 1) := by decide +kernel
theorem dL_isMinute_1 : decode cL_isMinute 1 = .ok (.bipush 12, 2) := by decide +kernel
theorem dL_isMinute_3 : decode cL_isMinute 3 = .ok (.invokevirtual 8, 3) := by decide +kernel
theorem dL_isMinute_6 : decode cL_isMinute 6 = .ok (.istore_n 1, 1) := by decide +kernel
theorem dL_isMinute_7 : decode cL_isMinute 7 = .ok (.bipush 10, 2) := by decide +kernel
theorem dL_isMinute_9 : decode cL_isMinute 9 = .ok (.newarray .int, 2) := by decide +kernel
theorem dL_isMinute_11 : decode cL_isMinute 11 = .ok (.astore_n 2, 1) := by decide +kernel
theorem dL_isMinute_12 : decode cL_isMinute 12 = .ok (.bipush 10, 2) := by decide +kernel
theorem dL_isMinute_14 : decode cL_isMinute 14 = .ok (.newarray .int, 2) := by decide +kernel
theorem dL_isMinute_16 : decode cL_isMinute 16 = .ok (.astore_n 3, 1) := by decide +kernel
theorem dL_isMinute_17 : decode cL_isMinute 17 = .ok (.lconst 0, 1) := by decide +kernel
theorem dL_isMinute_18 : decode cL_isMinute 18 = .ok (.lstore 4, 2) := by decide +kernel
theorem dL_isMinute_20 : decode cL_isMinute 20 = .ok (.iconst 0, 1) := by decide +kernel
theorem dL_isMinute_21 : decode cL_isMinute 21 = .ok (.istore 6, 2) := by decide +kernel
theorem dL_isMinute_23 : decode cL_isMinute 23 = .ok (.iload 6, 2) := by decide +kernel
theorem dL_isMinute_25 : decode cL_isMinute 25 = .ok (.iload_n 1, 1) := by decide +kernel
theorem dL_isMinute_26 : decode cL_isMinute 26 = .ok (.if_icmp .ge 88, 3) := by decide +kernel
theorem dL_isMinute_29 : decode cL_isMinute 29 = .ok (.aload_n 0, 1) := by decide +kernel
theorem dL_isMinute_30 : decode cL_isMinute 30 = .ok (.iload 6, 2) := by decide +kernel
theorem dL_isMinute_32 : decode cL_isMinute 32 = .ok (.invokestatic 22, 3) := by decide +kernel
theorem dL_isMinute_35 : decode cL_isMinute 35 = .ok (.lstore 7, 2) := by decide +kernel
theorem dL_isMinute_37 : decode cL_isMinute 37 = .ok (.aload_n 0, 1) := by decide +kernel
theorem dL_isMinute_38 : decode cL_isMinute 38 = .ok (.iload 6, 2) := by decide +kernel
theorem dL_isMinute_40 : decode cL_isMinute 40 = .ok (.iconst 4, 1) := by decide +kernel
theorem dL_isMinute_41 : decode cL_isMinute 41 = .ok (.invokevirtual 18, 3) := by decide +kernel
theorem dL_isMinute_44 : decode cL_isMinute 44 = .ok (.i2l, 1) := by decide +kernel
theorem dL_isMinute_45 : decode cL_isMinute 45 = .ok (.lload 7, 2) := by decide +kernel
theorem dL_isMinute_47 : decode cL_isMinute 47 = .ok (.lcmp, 1) := by decide +kernel
theorem dL_isMinute_48 : decode cL_isMinute 48 = .ok (.ifCond .eq 5, 3) := by decide +kernel
theorem dL_isMinute_51 : decode cL_isMinute 51 = .ok (.iconst 0, 1) := by decide +kernel
theorem dL_isMinute_52 : decode cL_isMinute 52 = .ok (.ireturn, 1) := by decide +kernel
theorem dL_isMinute_53 : decode cL_isMinute 53 = .ok (.aload_n 2, 1) := by decide +kernel
theorem dL_isMinute_54 : decode cL_isMinute 54 = .ok (.iload 6, 2) := by decide +kernel
theorem dL_isMinute_56 : decode cL_isMinute 56 = .ok (.aload_n 0, 1) := by decide +kernel
theorem dL_isMinute_57 : decode cL_isMinute 57 = .ok (.iload 6, 2) := by decide +kernel
theorem dL_isMinute_59 : decode cL_isMinute 59 = .ok (.iconst 2, 1) := by decide +kernel
theorem dL_isMinute_60 : decode cL_isMinute 60 = .ok (.invokevirtual 18, 3) := by decide +kernel
theorem dL_isMinute_63 : decode cL_isMinute 63 = .ok (.lload 7, 2) := by decide +kernel
theorem dL_isMinute_65 : decode cL_isMinute 65 = .ok (.l2i, 1) := by decide +kernel
theorem dL_isMinute_66 : decode cL_isMinute 66 = .ok (.isub, 1) := by decide +kernel
theorem dL_isMinute_67 : decode cL_isMinute 67 = .ok (.iastore, 1) := by decide +kernel
theorem dL_isMinute_68 : decode cL_isMinute 68 = .ok (.aload_n 3, 1) := by decide +kernel
theorem dL_isMinute_69 : decode cL_isMinute 69 = .ok (.iload 6, 2) := by decide +kernel
theorem dL_isMinute_71 : decode cL_isMinute 71 = .ok (.aload_n 0, 1) := by decide +kernel
theorem dL_isMinute_72 : decode cL_isMinute 72 = .ok (.iload 6, 2) := by decide +kernel
theorem dL_isMinute_74 : decode cL_isMinute 74 = .ok (.iconst 3, 1) := by decide +kernel
theorem dL_isMinute_75 : decode cL_isMinute 75 = .ok (.invokevirtual 18, 3) := by decide +kernel
theorem dL_isMinute_78 : decode cL_isMinute 78 = .ok (.lload 7, 2) := by decide +kernel
theorem dL_isMinute_80 : decode cL_isMinute 80 = .ok (.l2i, 1) := by decide +kernel
theorem dL_isMinute_81 : decode cL_isMinute 81 = .ok (.isub, 1) := by decide +kernel
theorem dL_isMinute_82 : decode cL_isMinute 82 = .ok (.ifCond .ge 7, 3) := by decide +kernel
theorem dL_isMinute_85 : decode cL_isMinute 85 = .ok (.iconst 0, 1) := by decide +kernel
theorem dL_isMinute_86 : decode cL_isMinute 86 = .ok (.goto 14, 3) := by decide +kernel
theorem dL_isMinute_89 : decode cL_isMinute 89 = .ok (.aload_n 0, 1) := by decide +kernel
theorem dL_isMinute_90 : decode cL_isMinute 90 = .ok (.iload 6, 2) := by decide +kernel
theorem dL_isMinute_92 : decode cL_isMinute 92 = .ok (.iconst 3, 1) := by decide +kernel
theorem dL_isMinute_93 : decode cL_isMinute 93 = .ok (.invokevirtual 18, 3) := by decide +kernel
theorem dL_isMinute_96 : decode cL_isMinute 96 = .ok (.lload 7, 2) := by decide +kernel
theorem dL_isMinute_98 : decode cL_isMinute 98 = .ok (.l2i, 1) := by decide +kernel
theorem dL_isMinute_99 : decode cL_isMinute 99 = .ok (.isub, 1) := by decide +kernel
theorem dL_isMinute_100 : decode cL_isMinute 100 = .ok (.iastore, 1) := by decide +kernel
theorem dL_isMinute_101 : decode cL_isMinute 101 = .ok (.lload 4, 2) := by decide +kernel
theorem dL_isMinute_103 : decode cL_isMinute 103 = .ok (.lload 7, 2) := by decide +kernel
theorem dL_isMinute_105 : decode cL_isMinute 105 = .ok (.ladd, 1) := by decide +kernel
theorem dL_isMinute_106 : decode cL_isMinute 106 = .ok (.lstore 4, 2) := by decide +kernel
theorem dL_isMinute_108 : decode cL_isMinute 108 = .ok (.iinc 6 1, 3) := by decide +kernel
theorem dL_isMinute_111 : decode cL_isMinute 111 = .ok (.goto (-88), 3) := by decide +kernel
theorem dL_isMinute_114 : decode cL_isMinute 114 = .ok (.aload_n 0, 1) := by decide +kernel
theorem dL_isMinute_115 : decode cL_isMinute 115 = .ok (.iconst 2, 1) := by decide +kernel
theorem dL_isMinute_116 : decode cL_isMinute 116 = .ok (.invokevirtual 8, 3) := by decide +kernel
theorem dL_isMinute_119 : decode cL_isMinute 119 = .ok (.istore 6, 2) := by decide +kernel
theorem dL_isMinute_121 : decode cL_isMinute 121 = .ok (.aload_n 0, 1) := by decide +kernel
theorem dL_isMinute_122 : decode cL_isMinute 122 = .ok (.bipush 24, 2) := by decide +kernel
theorem dL_isMinute_124 : decode cL_isMinute 124 = .ok (.invokevirtual 8, 3) := by decide +kernel
theorem dL_isMinute_127 : decode cL_isMinute 127 = .ok (.istore 7, 2) := by decide +kernel
theorem dL_isMinute_129 : decode cL_isMinute 129 = .ok (.aload_n 0, 1) := by decide +kernel
theorem dL_isMinute_130 : decode cL_isMinute 130 = .ok (.bipush 6, 2) := by decide +kernel
theorem dL_isMinute_132 : decode cL_isMinute 132 = .ok (.invokevirtual 8, 3) := by decide +kernel
theorem dL_isMinute_135 : decode cL_isMinute 135 = .ok (.istore 8, 2) := by decide +kernel
theorem dL_isMinute_137 : decode cL_isMinute 137 = .ok (.aload_n 0, 1) := by decide +kernel
theorem dL_isMinute_138 : decode cL_isMinute 138 = .ok (.bipush 8, 2) := by decide +kernel
theorem dL_isMinute_140 : decode cL_isMinute 140 = .ok (.invokevirtual 8, 3) := by decide +kernel
theorem dL_isMinute_143 : decode cL_isMinute 143 = .ok (.istore 9, 2) := by decide +kernel
theorem dL_isMinute_145 : decode cL_isMinute 145 = .ok (.aload_n 0, 1) := by decide +kernel
theorem dL_isMinute_146 : decode cL_isMinute 146 = .ok (.iconst 5, 1) := by decide +kernel
theorem dL_isMinute_147 : decode cL_isMinute 147 = .ok (.invokevirtual 8, 3) := by decide +kernel
theorem dL_isMinute_150 : decode cL_isMinute 150 = .ok (.istore 10, 2) := by decide +kernel
theorem dL_isMinute_152 : decode cL_isMinute 152 = .ok (.aload_n 0, 1) := by decide +kernel
theorem dL_isMinute_153 : decode cL_isMinute 153 = .ok (.bipush 7, 2) := by decide +kernel
theorem dL_isMinute_155 : decode cL_isMinute 155 = .ok (.invokevirtual 8, 3) := by decide +kernel
theorem dL_isMinute_158 : decode cL_isMinute 158 = .ok (.istore 11, 2) := by decide +kernel
theorem dL_isMinute_160 : decode cL_isMinute 160 = .ok (.aload_n 0, 1) := by decide +kernel
theorem dL_isMinute_161 : decode cL_isMinute 161 = .ok (.iconst 1, 1) := by decide +kernel
theorem dL_isMinute_162 : decode cL_isMinute 162 = .ok (.invokevirtual 8, 3) := by decide +kernel
theorem dL_isMinute_165 : decode cL_isMinute 165 = .ok (.istore 12, 2) := by decide +kernel
theorem dL_isMinute_167 : decode cL_isMinute 167 = .ok (.iload 12, 2) := by decide +kernel
theorem dL_isMinute_169 : decode cL_isMinute 169 = .ok (.iload 6, 2) := by decide +kernel
theorem dL_isMinute_171 : decode cL_isMinute 171 = .ok (.iload 12, 2) := by decide +kernel
theorem dL_isMinute_173 : decode cL_isMinute 173 = .ok (.isub, 1) := by decide +kernel
theorem dL_isMinute_174 : decode cL_isMinute 174 = .ok (.iload 7, 2) := by decide +kernel
theorem dL_isMinute_176 : decode cL_isMinute 176 = .ok (.idiv, 1) := by decide +kernel
theorem dL_isMinute_177 : decode cL_isMinute 177 = .ok (.iadd, 1) := by decide +kernel
theorem dL_isMinute_178 : decode cL_isMinute 178 = .ok (.istore 12, 2) := by decide +kernel
theorem dL_isMinute_180 : decode cL_isMinute 180 = .ok (.iload 12, 2) := by decide +kernel
theorem dL_isMinute_182 : decode cL_isMinute 182 = .ok (.iload 8, 2) := by decide +kernel
theorem dL_isMinute_184 : decode cL_isMinute 184 = .ok (.iconst 1, 1) := by decide +kernel
theorem dL_isMinute_185 : decode cL_isMinute 185 = .ok (.if_icmp .ne 14, 3) := by decide +kernel
theorem dL_isMinute_188 : decode cL_isMinute 188 = .ok (.iload 6, 2) := by decide +kernel
theorem dL_isMinute_190 : decode cL_isMinute 190 = .ok (.iload 12, 2) := by decide +kernel
theorem dL_isMinute_192 : decode cL_isMinute 192 = .ok (.isub, 1) := by decide +kernel
theorem dL_isMinute_193 : decode cL_isMinute 193 = .ok (.iload 7, 2) := by decide +kernel
theorem dL_isMinute_195 : decode cL_isMinute 195 = .ok (.idiv, 1) := by decide +kernel
theorem dL_isMinute_196 : decode cL_isMinute 196 = .ok (.goto 4, 3) := by decide +kernel
theorem dL_isMinute_199 : decode cL_isMinute 199 = .ok (.iconst 0, 1) := by decide +kernel
theorem dL_isMinute_200 : decode cL_isMinute 200 = .ok (.iadd, 1) := by decide +kernel
theorem dL_isMinute_201 : decode cL_isMinute 201 = .ok (.istore 12, 2) := by decide +kernel
theorem dL_isMinute_203 : decode cL_isMinute 203 = .ok (.iload 12, 2) := by decide +kernel
theorem dL_isMinute_205 : decode cL_isMinute 205 = .ok (.iload 9, 2) := by decide +kernel
theorem dL_isMinute_207 : decode cL_isMinute 207 = .ok (.iconst 1, 1) := by decide +kernel
theorem dL_isMinute_208 : decode cL_isMinute 208 = .ok (.if_icmp .ne 13, 3) := by decide +kernel
theorem dL_isMinute_211 : decode cL_isMinute 211 = .ok (.iload 6, 2) := by decide +kernel
theorem dL_isMinute_213 : decode cL_isMinute 213 = .ok (.iload 12, 2) := by decide +kernel
theorem dL_isMinute_215 : decode cL_isMinute 215 = .ok (.isub, 1) := by decide +kernel
theorem dL_isMinute_216 : decode cL_isMinute 216 = .ok (.iconst 4, 1) := by decide +kernel
theorem dL_isMinute_217 : decode cL_isMinute 217 = .ok (.idiv, 1) := by decide +kernel
theorem dL_isMinute_218 : decode cL_isMinute 218 = .ok (.goto 4, 3) := by decide +kernel
theorem dL_isMinute_221 : decode cL_isMinute 221 = .ok (.iconst 0, 1) := by decide +kernel
theorem dL_isMinute_222 : decode cL_isMinute 222 = .ok (.iadd, 1) := by decide +kernel
theorem dL_isMinute_223 : decode cL_isMinute 223 = .ok (.istore 12, 2) := by decide +kernel
theorem dL_isMinute_225 : decode cL_isMinute 225 = .ok (.iload 12, 2) := by decide +kernel
theorem dL_isMinute_227 : decode cL_isMinute 227 = .ok (.i2l, 1) := by decide +kernel
theorem dL_isMinute_228 : decode cL_isMinute 228 = .ok (.lload 4, 2) := by decide +kernel
theorem dL_isMinute_230 : decode cL_isMinute 230 = .ok (.aload_n 0, 1) := by decide +kernel
theorem dL_isMinute_231 : decode cL_isMinute 231 = .ok (.bipush 25, 2) := by decide +kernel
theorem dL_isMinute_233 : decode cL_isMinute 233 = .ok (.invokevirtual 8, 3) := by decide +kernel
theorem dL_isMinute_236 : decode cL_isMinute 236 = .ok (.i2l, 1) := by decide +kernel
theorem dL_isMinute_237 : decode cL_isMinute 237 = .ok (.ldiv, 1) := by decide +kernel
theorem dL_isMinute_238 : decode cL_isMinute 238 = .ok (.lsub, 1) := by decide +kernel
theorem dL_isMinute_239 : decode cL_isMinute 239 = .ok (.lstore 13, 2) := by decide +kernel
theorem dL_isMinute_241 : decode cL_isMinute 241 = .ok (.iload 12, 2) := by decide +kernel
theorem dL_isMinute_243 : decode cL_isMinute 243 = .ok (.sipush (-7900), 3) := by decide +kernel
theorem dL_isMinute_246 : decode cL_isMinute 246 = .ok (.if_icmp .gt 8, 3) := by decide +kernel
theorem dL_isMinute_249 : decode cL_isMinute 249 = .ok (.iload 12, 2) := by decide +kernel
theorem dL_isMinute_251 : decode cL_isMinute 251 = .ok (.goto 21, 3) := by decide +kernel
theorem dL_isMinute_254 : decode cL_isMinute 254 = .ok (.lload 13, 2) := by decide +kernel
theorem dL_isMinute_256 : decode cL_isMinute 256 = .ok (.ldc2_w 28, 3) := by decide +kernel
theorem dL_isMinute_259 : decode cL_isMinute 259 = .ok (.lcmp, 1) := by decide +kernel
theorem dL_isMinute_260 : decode cL_isMinute 260 = .ok (.ifCond .ge 9, 3) := by decide +kernel
theorem dL_isMinute_263 : decode cL_isMinute 263 = .ok (.sipush (-7900), 3) := by decide +kernel
theorem dL_isMinute_266 : decode cL_isMinute 266 = .ok (.goto 6, 3) := by decide +kernel
theorem dL_isMinute_269 : decode cL_isMinute 269 = .ok (.lload 13, 2) := by decide +kernel
theorem dL_isMinute_271 : decode cL_isMinute 271 = .ok (.l2i, 1) := by decide +kernel
theorem dL_isMinute_272 : decode cL_isMinute 272 = .ok (.istore 12, 2) := by decide +kernel
theorem dL_isMinute_274 : decode cL_isMinute 274 = .ok (.aload_n 0, 1) := by decide +kernel
theorem dL_isMinute_275 : decode cL_isMinute 275 = .ok (.iconst 3, 1) := by decide +kernel
theorem dL_isMinute_276 : decode cL_isMinute 276 = .ok (.invokevirtual 8, 3) := by decide +kernel
theorem dL_isMinute_279 : decode cL_isMinute 279 = .ok (.i2l, 1) := by decide +kernel
theorem dL_isMinute_280 : decode cL_isMinute 280 = .ok (.lload 4, 2) := by decide +kernel
theorem dL_isMinute_282 : decode cL_isMinute 282 = .ok (.ladd, 1) := by decide +kernel
theorem dL_isMinute_283 : decode cL_isMinute 283 = .ok (.lstore 15, 2) := by decide +kernel
theorem dL_isMinute_285 : decode cL_isMinute 285 = .ok (.lload 15, 2) := by decide +kernel
theorem dL_isMinute_287 : decode cL_isMinute 287 = .ok (.lload 15, 2) := by decide +kernel
theorem dL_isMinute_289 : decode cL_isMinute 289 = .ok (.aload_n 0, 1) := by decide +kernel
theorem dL_isMinute_290 : decode cL_isMinute 290 = .ok (.bipush 18, 2) := by decide +kernel
theorem dL_isMinute_292 : decode cL_isMinute 292 = .ok (.invokevirtual 8, 3) := by decide +kernel
theorem dL_isMinute_295 : decode cL_isMinute 295 = .ok (.i2l, 1) := by decide +kernel
theorem dL_isMinute_296 : decode cL_isMinute 296 = .ok (.lmul, 1) := by decide +kernel
theorem dL_isMinute_297 : decode cL_isMinute 297 = .ok (.ldc2_w 30, 3) := by decide +kernel
theorem dL_isMinute_300 : decode cL_isMinute 300 = .ok (.ldiv, 1) := by decide +kernel
theorem dL_isMinute_301 : decode cL_isMinute 301 = .ok (.lsub, 1) := by decide +kernel
theorem dL_isMinute_302 : decode cL_isMinute 302 = .ok (.lstore 15, 2) := by decide +kernel
theorem dL_isMinute_304 : decode cL_isMinute 304 = .ok (.lload 15, 2) := by decide +kernel
theorem dL_isMinute_306 : decode cL_isMinute 306 = .ok (.iload 8, 2) := by decide +kernel
theorem dL_isMinute_308 : decode cL_isMinute 308 = .ok (.iconst 1, 1) := by decide +kernel
theorem dL_isMinute_309 : decode cL_isMinute 309 = .ok (.if_icmp .ne 20, 3) := by decide +kernel
theorem dL_isMinute_312 : decode cL_isMinute 312 = .ok (.lload 15, 2) := by decide +kernel
theorem dL_isMinute_314 : decode cL_isMinute 314 = .ok (.aload_n 0, 1) := by decide +kernel
theorem dL_isMinute_315 : decode cL_isMinute 315 = .ok (.bipush 17, 2) := by decide +kernel
theorem dL_isMinute_317 : decode cL_isMinute 317 = .ok (.invokevirtual 8, 3) := by decide +kernel
theorem dL_isMinute_320 : decode cL_isMinute 320 = .ok (.i2l, 1) := by decide +kernel
theorem dL_isMinute_321 : decode cL_isMinute 321 = .ok (.lmul, 1) := by decide +kernel
theorem dL_isMinute_322 : decode cL_isMinute 322 = .ok (.ldc2_w 30, 3) := by decide +kernel
theorem dL_isMinute_325 : decode cL_isMinute 325 = .ok (.ldiv, 1) := by decide +kernel
theorem dL_isMinute_326 : decode cL_isMinute 326 = .ok (.goto 4, 3) := by decide +kernel
theorem dL_isMinute_329 : decode cL_isMinute 329 = .ok (.lconst 0, 1) := by decide +kernel
theorem dL_isMinute_330 : decode cL_isMinute 330 = .ok (.lsub, 1) := by decide +kernel
theorem dL_isMinute_331 : decode cL_isMinute 331 = .ok (.lstore 15, 2) := by decide +kernel
theorem dL_isMinute_333 : decode cL_isMinute 333 = .ok (.lload 15, 2) := by decide +kernel
theorem dL_isMinute_335 : decode cL_isMinute 335 = .ok (.iload 9, 2) := by decide +kernel
theorem dL_isMinute_337 : decode cL_isMinute 337 = .ok (.iconst 1, 1) := by decide +kernel
theorem dL_isMinute_338 : decode cL_isMinute 338 = .ok (.if_icmp .ne 20, 3) := by decide +kernel
theorem dL_isMinute_341 : decode cL_isMinute 341 = .ok (.lload 15, 2) := by decide +kernel
theorem dL_isMinute_343 : decode cL_isMinute 343 = .ok (.aload_n 0, 1) := by decide +kernel
theorem dL_isMinute_344 : decode cL_isMinute 344 = .ok (.bipush 19, 2) := by decide +kernel
theorem dL_isMinute_346 : decode cL_isMinute 346 = .ok (.invokevirtual 8, 3) := by decide +kernel
theorem dL_isMinute_349 : decode cL_isMinute 349 = .ok (.i2l, 1) := by decide +kernel
theorem dL_isMinute_350 : decode cL_isMinute 350 = .ok (.lmul, 1) := by decide +kernel
theorem dL_isMinute_351 : decode cL_isMinute 351 = .ok (.ldc2_w 30, 3) := by decide +kernel
theorem dL_isMinute_354 : decode cL_isMinute 354 = .ok (.ldiv, 1) := by decide +kernel
theorem dL_isMinute_355 : decode cL_isMinute 355 = .ok (.goto 4, 3) := by decide +kernel
theorem dL_isMinute_358 : decode cL_isMinute 358 = .ok (.lconst 0, 1) := by decide +kernel
theorem dL_isMinute_359 : decode cL_isMinute 359 = .ok (.lsub, 1) := by decide +kernel
theorem dL_isMinute_360 : decode cL_isMinute 360 = .ok (.lstore 15, 2) := by decide +kernel
theorem dL_isMinute_362 : decode cL_isMinute 362 = .ok (.lload 15, 2) := by decide +kernel
theorem dL_isMinute_364 : decode cL_isMinute 364 = .ok (.ldc2_w 32, 3) := by decide +kernel
theorem dL_isMinute_367 : decode cL_isMinute 367 = .ok (.aload_n 0, 1) := by decide +kernel
theorem dL_isMinute_368 : decode cL_isMinute 368 = .ok (.bipush 16, 2) := by decide +kernel
theorem dL_isMinute_370 : decode cL_isMinute 370 = .ok (.invokevirtual 8, 3) := by decide +kernel
theorem dL_isMinute_373 : decode cL_isMinute 373 = .ok (.i2l, 1) := by decide +kernel
theorem dL_isMinute_374 : decode cL_isMinute 374 = .ok (.lmul, 1) := by decide +kernel
theorem dL_isMinute_375 : decode cL_isMinute 375 = .ok (.ldiv, 1) := by decide +kernel
theorem dL_isMinute_376 : decode cL_isMinute 376 = .ok (.lstore 17, 2) := by decide +kernel
theorem dL_isMinute_378 : decode cL_isMinute 378 = .ok (.iload 8, 2) := by decide +kernel
theorem dL_isMinute_380 : decode cL_isMinute 380 = .ok (.istore 19, 2) := by decide +kernel
theorem dL_isMinute_382 : decode cL_isMinute 382 = .ok (.iload 11, 2) := by decide +kernel
theorem dL_isMinute_384 : decode cL_isMinute 384 = .ok (.istore 20, 2) := by decide +kernel
theorem dL_isMinute_386 : decode cL_isMinute 386 = .ok (.iload 10, 2) := by decide +kernel
theorem dL_isMinute_388 : decode cL_isMinute 388 = .ok (.ifCond .eq 39, 3) := by decide +kernel
theorem dL_isMinute_391 : decode cL_isMinute 391 = .ok (.iload 10, 2) := by decide +kernel
theorem dL_isMinute_393 : decode cL_isMinute 393 = .ok (.iconst 2, 1) := by decide +kernel
theorem dL_isMinute_394 : decode cL_isMinute 394 = .ok (.if_icmp .ne 7, 3) := by decide +kernel
theorem dL_isMinute_397 : decode cL_isMinute 397 = .ok (.iconst 1, 1) := by decide +kernel
theorem dL_isMinute_398 : decode cL_isMinute 398 = .ok (.goto 4, 3) := by decide +kernel
theorem dL_isMinute_401 : decode cL_isMinute 401 = .ok (.iconst 0, 1) := by decide +kernel
theorem dL_isMinute_402 : decode cL_isMinute 402 = .ok (.istore 19, 2) := by decide +kernel
theorem dL_isMinute_404 : decode cL_isMinute 404 = .ok (.iload 10, 2) := by decide +kernel
theorem dL_isMinute_406 : decode cL_isMinute 406 = .ok (.iconst 2, 1) := by decide +kernel
theorem dL_isMinute_407 : decode cL_isMinute 407 = .ok (.if_icmp .ne 14, 3) := by decide +kernel
theorem dL_isMinute_410 : decode cL_isMinute 410 = .ok (.iload 8, 2) := by decide +kernel
theorem dL_isMinute_412 : decode cL_isMinute 412 = .ok (.iconst 1, 1) := by decide +kernel
theorem dL_isMinute_413 : decode cL_isMinute 413 = .ok (.if_icmp .ne 8, 3) := by decide +kernel
theorem dL_isMinute_416 : decode cL_isMinute 416 = .ok (.iload 11, 2) := by decide +kernel
theorem dL_isMinute_418 : decode cL_isMinute 418 = .ok (.goto 4, 3) := by decide +kernel
theorem dL_isMinute_421 : decode cL_isMinute 421 = .ok (.iconst 0, 1) := by decide +kernel
theorem dL_isMinute_422 : decode cL_isMinute 422 = .ok (.istore 20, 2) := by decide +kernel
theorem dL_isMinute_424 : decode cL_isMinute 424 = .ok (.goto 85, 3) := by decide +kernel
theorem dL_isMinute_427 : decode cL_isMinute 427 = .ok (.iload 8, 2) := by decide +kernel
theorem dL_isMinute_429 : decode cL_isMinute 429 = .ok (.ifCond .ne 29, 3) := by decide +kernel
theorem dL_isMinute_432 : decode cL_isMinute 432 = .ok (.lload 17, 2) := by decide +kernel
theorem dL_isMinute_434 : decode cL_isMinute 434 = .ok (.aload_n 0, 1) := by decide +kernel
theorem dL_isMinute_435 : decode cL_isMinute 435 = .ok (.bipush 20, 2) := by decide +kernel
theorem dL_isMinute_437 : decode cL_isMinute 437 = .ok (.invokevirtual 8, 3) := by decide +kernel
theorem dL_isMinute_440 : decode cL_isMinute 440 = .ok (.i2l, 1) := by decide +kernel
theorem dL_isMinute_441 : decode cL_isMinute 441 = .ok (.lcmp, 1) := by decide +kernel
theorem dL_isMinute_442 : decode cL_isMinute 442 = .ok (.ifCond .lt 7, 3) := by decide +kernel
theorem dL_isMinute_445 : decode cL_isMinute 445 = .ok (.iconst 1, 1) := by decide +kernel
theorem dL_isMinute_446 : decode cL_isMinute 446 = .ok (.goto 4, 3) := by decide +kernel
theorem dL_isMinute_449 : decode cL_isMinute 449 = .ok (.iconst 0, 1) := by decide +kernel
theorem dL_isMinute_450 : decode cL_isMinute 450 = .ok (.istore 19, 2) := by decide +kernel
theorem dL_isMinute_452 : decode cL_isMinute 452 = .ok (.iconst 0, 1) := by decide +kernel
theorem dL_isMinute_453 : decode cL_isMinute 453 = .ok (.istore 20, 2) := by decide +kernel
theorem dL_isMinute_455 : decode cL_isMinute 455 = .ok (.goto 54, 3) := by decide +kernel
theorem dL_isMinute_458 : decode cL_isMinute 458 = .ok (.iload 11, 2) := by decide +kernel
theorem dL_isMinute_460 : decode cL_isMinute 460 = .ok (.iconst 1, 1) := by decide +kernel
theorem dL_isMinute_461 : decode cL_isMinute 461 = .ok (.iadd, 1) := by decide +kernel
theorem dL_isMinute_462 : decode cL_isMinute 462 = .ok (.istore 20, 2) := by decide +kernel
theorem dL_isMinute_464 : decode cL_isMinute 464 = .ok (.lload 17, 2) := by decide +kernel
theorem dL_isMinute_466 : decode cL_isMinute 466 = .ok (.aload_n 0, 1) := by decide +kernel
theorem dL_isMinute_467 : decode cL_isMinute 467 = .ok (.bipush 21, 2) := by decide +kernel
theorem dL_isMinute_469 : decode cL_isMinute 469 = .ok (.invokevirtual 8, 3) := by decide +kernel
theorem dL_isMinute_472 : decode cL_isMinute 472 = .ok (.i2l, 1) := by decide +kernel
theorem dL_isMinute_473 : decode cL_isMinute 473 = .ok (.lcmp, 1) := by decide +kernel
theorem dL_isMinute_474 : decode cL_isMinute 474 = .ok (.ifCond .gt 18, 3) := by decide +kernel
theorem dL_isMinute_477 : decode cL_isMinute 477 = .ok (.iload 20, 2) := by decide +kernel
theorem dL_isMinute_479 : decode cL_isMinute 479 = .ok (.aload_n 0, 1) := by decide +kernel
theorem dL_isMinute_480 : decode cL_isMinute 480 = .ok (.bipush 22, 2) := by decide +kernel
theorem dL_isMinute_482 : decode cL_isMinute 482 = .ok (.invokevirtual 8, 3) := by decide +kernel
theorem dL_isMinute_485 : decode cL_isMinute 485 = .ok (.if_icmp .lt 7, 3) := by decide +kernel
theorem dL_isMinute_488 : decode cL_isMinute 488 = .ok (.iconst 0, 1) := by decide +kernel
theorem dL_isMinute_489 : decode cL_isMinute 489 = .ok (.goto 4, 3) := by decide +kernel
theorem dL_isMinute_492 : decode cL_isMinute 492 = .ok (.iconst 1, 1) := by decide +kernel
theorem dL_isMinute_493 : decode cL_isMinute 493 = .ok (.istore 19, 2) := by decide +kernel
theorem dL_isMinute_495 : decode cL_isMinute 495 = .ok (.iload 19, 2) := by decide +kernel
theorem dL_isMinute_497 : decode cL_isMinute 497 = .ok (.iconst 1, 1) := by decide +kernel
theorem dL_isMinute_498 : decode cL_isMinute 498 = .ok (.if_icmp .ne 8, 3) := by decide +kernel
theorem dL_isMinute_501 : decode cL_isMinute 501 = .ok (.iload 20, 2) := by decide +kernel
theorem dL_isMinute_503 : decode cL_isMinute 503 = .ok (.goto 4, 3) := by decide +kernel
theorem dL_isMinute_506 : decode cL_isMinute 506 = .ok (.iconst 0, 1) := by decide +kernel
theorem dL_isMinute_507 : decode cL_isMinute 507 = .ok (.istore 20, 2) := by decide +kernel
theorem dL_isMinute_509 : decode cL_isMinute 509 = .ok (.aload_n 0, 1) := by decide +kernel
theorem dL_isMinute_510 : decode cL_isMinute 510 = .ok (.bipush 11, 2) := by decide +kernel
theorem dL_isMinute_512 : decode cL_isMinute 512 = .ok (.invokevirtual 8, 3) := by decide +kernel
theorem dL_isMinute_515 : decode cL_isMinute 515 = .ok (.iload 9, 2) := by decide +kernel
theorem dL_isMinute_517 : decode cL_isMinute 517 = .ok (.iconst 1, 1) := by decide +kernel
theorem dL_isMinute_518 : decode cL_isMinute 518 = .ok (.if_icmp .ne 20, 3) := by decide +kernel
theorem dL_isMinute_521 : decode cL_isMinute 521 = .ok (.lload 17, 2) := by decide +kernel
theorem dL_isMinute_523 : decode cL_isMinute 523 = .ok (.aload_n 0, 1) := by decide +kernel
theorem dL_isMinute_524 : decode cL_isMinute 524 = .ok (.bipush 23, 2) := by decide +kernel
theorem dL_isMinute_526 : decode cL_isMinute 526 = .ok (.invokevirtual 8, 3) := by decide +kernel
theorem dL_isMinute_529 : decode cL_isMinute 529 = .ok (.i2l, 1) := by decide +kernel
theorem dL_isMinute_530 : decode cL_isMinute 530 = .ok (.lcmp, 1) := by decide +kernel
theorem dL_isMinute_531 : decode cL_isMinute 531 = .ok (.ifCond .lt 7, 3) := by decide +kernel
theorem dL_isMinute_534 : decode cL_isMinute 534 = .ok (.iconst 1, 1) := by decide +kernel
theorem dL_isMinute_535 : decode cL_isMinute 535 = .ok (.goto 4, 3) := by decide +kernel
theorem dL_isMinute_538 : decode cL_isMinute 538 = .ok (.iconst 0, 1) := by decide +kernel
theorem dL_isMinute_539 : decode cL_isMinute 539 = .ok (.iadd, 1) := by decide +kernel
theorem dL_isMinute_540 : decode cL_isMinute 540 = .ok (.istore 21, 2) := by decide +kernel
theorem dL_isMinute_542 : decode cL_isMinute 542 = .ok (.aload_n 0, 1) := by decide +kernel
theorem dL_isMinute_543 : decode cL_isMinute 543 = .ok (.bipush 10, 2) := by decide +kernel
theorem dL_isMinute_545 : decode cL_isMinute 545 = .ok (.invokevirtual 8, 3) := by decide +kernel
theorem dL_isMinute_548 : decode cL_isMinute 548 = .ok (.istore 22, 2) := by decide +kernel
theorem dL_isMinute_550 : decode cL_isMinute 550 = .ok (.aload_n 0, 1) := by decide +kernel
theorem dL_isMinute_551 : decode cL_isMinute 551 = .ok (.iconst 0, 1) := by decide +kernel
theorem dL_isMinute_552 : decode cL_isMinute 552 = .ok (.invokevirtual 8, 3) := by decide +kernel
theorem dL_isMinute_555 : decode cL_isMinute 555 = .ok (.istore 23, 2) := by decide +kernel
theorem dL_isMinute_557 : decode cL_isMinute 557 = .ok (.aload_n 0, 1) := by decide +kernel
theorem dL_isMinute_558 : decode cL_isMinute 558 = .ok (.iconst 3, 1) := by decide +kernel
theorem dL_isMinute_559 : decode cL_isMinute 559 = .ok (.invokevirtual 34, 3) := by decide +kernel
theorem dL_isMinute_562 : decode cL_isMinute 562 = .ok (.lstore 24, 2) := by decide +kernel
theorem dL_isMinute_564 : decode cL_isMinute 564 = .ok (.aload_n 0, 1) := by decide +kernel
theorem dL_isMinute_565 : decode cL_isMinute 565 = .ok (.iconst 1, 1) := by decide +kernel
theorem dL_isMinute_566 : decode cL_isMinute 566 = .ok (.invokevirtual 38, 3) := by decide +kernel
theorem dL_isMinute_569 : decode cL_isMinute 569 = .ok (.iload 22, 2) := by decide +kernel
theorem dL_isMinute_571 : decode cL_isMinute 571 = .ok (.ifCond .le 7, 3) := by decide +kernel
theorem dL_isMinute_574 : decode cL_isMinute 574 = .ok (.iconst 1, 1) := by decide +kernel
theorem dL_isMinute_575 : decode cL_isMinute 575 = .ok (.goto 4, 3) := by decide +kernel
theorem dL_isMinute_578 : decode cL_isMinute 578 = .ok (.iconst 0, 1) := by decide +kernel
theorem dL_isMinute_579 : decode cL_isMinute 579 = .ok (.if_icmp .ne 139, 3) := by decide +kernel
theorem dL_isMinute_582 : decode cL_isMinute 582 = .ok (.aload_n 0, 1) := by decide +kernel
theorem dL_isMinute_583 : decode cL_isMinute 583 = .ok (.iconst 0, 1) := by decide +kernel
theorem dL_isMinute_584 : decode cL_isMinute 584 = .ok (.invokevirtual 8, 3) := by decide +kernel
theorem dL_isMinute_587 : decode cL_isMinute 587 = .ok (.iload 23, 2) := by decide +kernel
theorem dL_isMinute_589 : decode cL_isMinute 589 = .ok (.iconst 1, 1) := by decide +kernel
theorem dL_isMinute_590 : decode cL_isMinute 590 = .ok (.iadd, 1) := by decide +kernel
theorem dL_isMinute_591 : decode cL_isMinute 591 = .ok (.if_icmp .ne 127, 3) := by decide +kernel
theorem dL_isMinute_594 : decode cL_isMinute 594 = .ok (.aload_n 0, 1) := by decide +kernel
theorem dL_isMinute_595 : decode cL_isMinute 595 = .ok (.bipush 10, 2) := by decide +kernel
theorem dL_isMinute_597 : decode cL_isMinute 597 = .ok (.invokevirtual 8, 3) := by decide +kernel
theorem dL_isMinute_600 : decode cL_isMinute 600 = .ok (.iload 22, 2) := by decide +kernel
theorem dL_isMinute_602 : decode cL_isMinute 602 = .ok (.ifCond .le 10, 3) := by decide +kernel
theorem dL_isMinute_605 : decode cL_isMinute 605 = .ok (.iload 22, 2) := by decide +kernel
theorem dL_isMinute_607 : decode cL_isMinute 607 = .ok (.iconst 1, 1) := by decide +kernel
theorem dL_isMinute_608 : decode cL_isMinute 608 = .ok (.isub, 1) := by decide +kernel
theorem dL_isMinute_609 : decode cL_isMinute 609 = .ok (.goto 4, 3) := by decide +kernel
theorem dL_isMinute_612 : decode cL_isMinute 612 = .ok (.iconst 0, 1) := by decide +kernel
theorem dL_isMinute_613 : decode cL_isMinute 613 = .ok (.if_icmp .ne 105, 3) := by decide +kernel
theorem dL_isMinute_616 : decode cL_isMinute 616 = .ok (.aload_n 0, 1) := by decide +kernel
theorem dL_isMinute_617 : decode cL_isMinute 617 = .ok (.iconst 1, 1) := by decide +kernel
theorem dL_isMinute_618 : decode cL_isMinute 618 = .ok (.invokevirtual 8, 3) := by decide +kernel
theorem dL_isMinute_621 : decode cL_isMinute 621 = .ok (.iload 12, 2) := by decide +kernel
theorem dL_isMinute_623 : decode cL_isMinute 623 = .ok (.if_icmp .ne 95, 3) := by decide +kernel
theorem dL_isMinute_626 : decode cL_isMinute 626 = .ok (.aload_n 0, 1) := by decide +kernel
theorem dL_isMinute_627 : decode cL_isMinute 627 = .ok (.iconst 2, 1) := by decide +kernel
theorem dL_isMinute_628 : decode cL_isMinute 628 = .ok (.invokevirtual 8, 3) := by decide +kernel
theorem dL_isMinute_631 : decode cL_isMinute 631 = .ok (.iload 6, 2) := by decide +kernel
theorem dL_isMinute_633 : decode cL_isMinute 633 = .ok (.if_icmp .ne 85, 3) := by decide +kernel
theorem dL_isMinute_636 : decode cL_isMinute 636 = .ok (.aload_n 0, 1) := by decide +kernel
theorem dL_isMinute_637 : decode cL_isMinute 637 = .ok (.iconst 3, 1) := by decide +kernel
theorem dL_isMinute_638 : decode cL_isMinute 638 = .ok (.invokevirtual 8, 3) := by decide +kernel
theorem dL_isMinute_641 : decode cL_isMinute 641 = .ok (.i2l, 1) := by decide +kernel
theorem dL_isMinute_642 : decode cL_isMinute 642 = .ok (.lload 15, 2) := by decide +kernel
theorem dL_isMinute_644 : decode cL_isMinute 644 = .ok (.lcmp, 1) := by decide +kernel
theorem dL_isMinute_645 : decode cL_isMinute 645 = .ok (.ifCond .ne 73, 3) := by decide +kernel
theorem dL_isMinute_648 : decode cL_isMinute 648 = .ok (.aload_n 0, 1) := by decide +kernel
theorem dL_isMinute_649 : decode cL_isMinute 649 = .ok (.iconst 4, 1) := by decide +kernel
theorem dL_isMinute_650 : decode cL_isMinute 650 = .ok (.invokevirtual 8, 3) := by decide +kernel
theorem dL_isMinute_653 : decode cL_isMinute 653 = .ok (.i2l, 1) := by decide +kernel
theorem dL_isMinute_654 : decode cL_isMinute 654 = .ok (.lload 17, 2) := by decide +kernel
theorem dL_isMinute_656 : decode cL_isMinute 656 = .ok (.lcmp, 1) := by decide +kernel
theorem dL_isMinute_657 : decode cL_isMinute 657 = .ok (.ifCond .ne 61, 3) := by decide +kernel
theorem dL_isMinute_660 : decode cL_isMinute 660 = .ok (.aload_n 0, 1) := by decide +kernel
theorem dL_isMinute_661 : decode cL_isMinute 661 = .ok (.bipush 6, 2) := by decide +kernel
theorem dL_isMinute_663 : decode cL_isMinute 663 = .ok (.invokevirtual 8, 3) := by decide +kernel
theorem dL_isMinute_666 : decode cL_isMinute 666 = .ok (.iload 19, 2) := by decide +kernel
theorem dL_isMinute_668 : decode cL_isMinute 668 = .ok (.if_icmp .ne 50, 3) := by decide +kernel
theorem dL_isMinute_671 : decode cL_isMinute 671 = .ok (.aload_n 0, 1) := by decide +kernel
theorem dL_isMinute_672 : decode cL_isMinute 672 = .ok (.bipush 7, 2) := by decide +kernel
theorem dL_isMinute_674 : decode cL_isMinute 674 = .ok (.invokevirtual 8, 3) := by decide +kernel
theorem dL_isMinute_677 : decode cL_isMinute 677 = .ok (.iload 20, 2) := by decide +kernel
theorem dL_isMinute_679 : decode cL_isMinute 679 = .ok (.if_icmp .ne 39, 3) := by decide +kernel
theorem dL_isMinute_682 : decode cL_isMinute 682 = .ok (.aload_n 0, 1) := by decide +kernel
theorem dL_isMinute_683 : decode cL_isMinute 683 = .ok (.bipush 8, 2) := by decide +kernel
theorem dL_isMinute_685 : decode cL_isMinute 685 = .ok (.invokevirtual 8, 3) := by decide +kernel
theorem dL_isMinute_688 : decode cL_isMinute 688 = .ok (.iload 9, 2) := by decide +kernel
theorem dL_isMinute_690 : decode cL_isMinute 690 = .ok (.if_icmp .ne 28, 3) := by decide +kernel
theorem dL_isMinute_693 : decode cL_isMinute 693 = .ok (.aload_n 0, 1) := by decide +kernel
theorem dL_isMinute_694 : decode cL_isMinute 694 = .ok (.bipush 11, 2) := by decide +kernel
theorem dL_isMinute_696 : decode cL_isMinute 696 = .ok (.invokevirtual 8, 3) := by decide +kernel
theorem dL_isMinute_699 : decode cL_isMinute 699 = .ok (.iload 21, 2) := by decide +kernel
theorem dL_isMinute_701 : decode cL_isMinute 701 = .ok (.if_icmp .ne 17, 3) := by decide +kernel
theorem dL_isMinute_704 : decode cL_isMinute 704 = .ok (.aload_n 0, 1) := by decide +kernel
theorem dL_isMinute_705 : decode cL_isMinute 705 = .ok (.iconst 3, 1) := by decide +kernel
theorem dL_isMinute_706 : decode cL_isMinute 706 = .ok (.invokevirtual 34, 3) := by decide +kernel
theorem dL_isMinute_709 : decode cL_isMinute 709 = .ok (.lload 24, 2) := by decide +kernel
theorem dL_isMinute_711 : decode cL_isMinute 711 = .ok (.lload 4, 2) := by decide +kernel
theorem dL_isMinute_713 : decode cL_isMinute 713 = .ok (.ladd, 1) := by decide +kernel
theorem dL_isMinute_714 : decode cL_isMinute 714 = .ok (.lcmp, 1) := by decide +kernel
theorem dL_isMinute_715 : decode cL_isMinute 715 = .ok (.ifCond .eq 5, 3) := by decide +kernel
theorem dL_isMinute_718 : decode cL_isMinute 718 = .ok (.iconst 0, 1) := by decide +kernel
theorem dL_isMinute_719 : decode cL_isMinute 719 = .ok (.ireturn, 1) := by decide +kernel
theorem dL_isMinute_720 : decode cL_isMinute 720 = .ok (.iconst 0, 1) := by decide +kernel
theorem dL_isMinute_721 : decode cL_isMinute 721 = .ok (.istore 26, 2) := by decide +kernel
theorem dL_isMinute_723 : decode cL_isMinute 723 = .ok (.iload 26, 2) := by decide +kernel
theorem dL_isMinute_725 : decode cL_isMinute 725 = .ok (.iload_n 1, 1) := by decide +kernel
theorem dL_isMinute_726 : decode cL_isMinute 726 = .ok (.if_icmp .ge 39, 3) := by decide +kernel
theorem dL_isMinute_729 : decode cL_isMinute 729 = .ok (.aload_n 0, 1) := by decide +kernel
theorem dL_isMinute_730 : decode cL_isMinute 730 = .ok (.iload 26, 2) := by decide +kernel
theorem dL_isMinute_732 : decode cL_isMinute 732 = .ok (.iconst 2, 1) := by decide +kernel
theorem dL_isMinute_733 : decode cL_isMinute 733 = .ok (.invokevirtual 18, 3) := by decide +kernel
theorem dL_isMinute_736 : decode cL_isMinute 736 = .ok (.aload_n 2, 1) := by decide +kernel
theorem dL_isMinute_737 : decode cL_isMinute 737 = .ok (.iload 26, 2) := by decide +kernel
theorem dL_isMinute_739 : decode cL_isMinute 739 = .ok (.iaload, 1) := by decide +kernel
theorem dL_isMinute_740 : decode cL_isMinute 740 = .ok (.if_icmp .ne 17, 3) := by decide +kernel
theorem dL_isMinute_743 : decode cL_isMinute 743 = .ok (.aload_n 0, 1) := by decide +kernel
theorem dL_isMinute_744 : decode cL_isMinute 744 = .ok (.iload 26, 2) := by decide +kernel
theorem dL_isMinute_746 : decode cL_isMinute 746 = .ok (.iconst 3, 1) := by decide +kernel
theorem dL_isMinute_747 : decode cL_isMinute 747 = .ok (.invokevirtual 18, 3) := by decide +kernel
theorem dL_isMinute_750 : decode cL_isMinute 750 = .ok (.aload_n 3, 1) := by decide +kernel
theorem dL_isMinute_751 : decode cL_isMinute 751 = .ok (.iload 26, 2) := by decide +kernel
theorem dL_isMinute_753 : decode cL_isMinute 753 = .ok (.iaload, 1) := by decide +kernel
theorem dL_isMinute_754 : decode cL_isMinute 754 = .ok (.if_icmp .eq 5, 3) := by decide +kernel
theorem dL_isMinute_757 : decode cL_isMinute 757 = .ok (.iconst 0, 1) := by decide +kernel
theorem dL_isMinute_758 : decode cL_isMinute 758 = .ok (.ireturn, 1) := by decide +kernel
theorem dL_isMinute_759 : decode cL_isMinute 759 = .ok (.iinc 26 1, 3) := by decide +kernel
theorem dL_isMinute_762 : decode cL_isMinute 762 = .ok (.goto (-39), 3) := by decide +kernel
theorem dL_isMinute_765 : decode cL_isMinute 765 = .ok (.iconst 1, 1) := by decide +kernel
theorem dL_isMinute_766 : decode cL_isMinute 766 = .ok (.ireturn, 1) := by decide +kernel
set_option maxRecDepth 20000 in
theorem ggL_addsUp_X9_van : GoodIn wsL_addsUp wsX9_van := goodIn_r _ [5, 6, 7, 8, 9, 10, 11, 12, 13, 14, 15, 16, 17, 18, 19, 20, 21, 22, 23, 24, 25, 26, 27, 28, 4, 29, 30, 31, 32, 33, 34, 35, 36, 37, 38, 39, 40, 41, 42, 43, 44, 45, 46, 47, 48, 49, 50, 51, 52, 53, 54, 55, 56, 57, 58, 59, 60, 61, 62, 63, 64, 110, 111, 112, 113, 114, 115, 116, 117, 118, 119, 120, 121, 122, 123, 124, 125, 126, 127, 128, 129, 130, 131, 132, 133, 134, 135, 136, 137, 138, 139, 140, 141, 142] (by decide +kernel) (by decide +kernel)
set_option maxRecDepth 20000 in
theorem gL_addsUp_X9_van : GoodIn wsL_addsUp (wsV RL 8 RX9 yX9_van wsX9_van) := goodIn_app (goodIn_of _ (by decide +kernel)) ggL_addsUp_X9_van
set_option maxRecDepth 20000 in
theorem ggL_addsUp_X9_box : GoodIn wsL_addsUp wsX9_box := goodIn_r _ [68, 7, 22, 69, 70, 71, 72, 10, 11, 8, 73, 74, 75, 76, 77, 78, 79, 28, 4, 29, 30, 31, 32, 33, 34, 35, 80, 81, 82, 83, 84, 85, 86, 87, 88, 89, 90, 91, 92, 93, 94, 63, 64, 110, 111, 112, 113, 114, 115, 116, 117, 118, 119, 120, 121, 122, 123, 124, 125, 143, 144, 145, 146, 126, 127, 128, 129, 130, 131, 132, 138, 139, 142] (by decide +kernel) (by decide +kernel)
set_option maxRecDepth 20000 in
theorem gL_addsUp_X9_box : GoodIn wsL_addsUp (wsV RL 18 RX9 yX9_box wsX9_box) := goodIn_app (goodIn_of _ (by decide +kernel)) ggL_addsUp_X9_box
set_option maxRecDepth 20000 in
theorem ggL_addsUp_X9_account : GoodIn wsL_addsUp wsX9_account := goodIn_r _ [98, 7, 22, 99, 100, 101, 102, 103, 104, 105, 106, 107, 76, 108, 78, 79, 109, 110, 111, 112, 113, 114, 115, 116, 117, 118, 119, 120, 121, 122, 123, 124, 125, 138, 139, 143, 144, 145, 146] (by decide +kernel) (by decide +kernel)
set_option maxRecDepth 20000 in
theorem gL_addsUp_X9_account : GoodIn wsL_addsUp (wsV RL 34 RX9 yX9_account wsX9_account) := goodIn_app (goodIn_of _ (by decide +kernel)) ggL_addsUp_X9_account
theorem dL_addsUp_0 : decode cL_addsUp 0 = .ok (.lconst 0, 1) := by decide +kernel
theorem dL_addsUp_1 : decode cL_addsUp 1 = .ok (.lstore_n 1, 1) := by decide +kernel
theorem dL_addsUp_2 : decode cL_addsUp 2 = .ok (.iconst 0, 1) := by decide +kernel
theorem dL_addsUp_3 : decode cL_addsUp 3 = .ok (.istore_n 3, 1) := by decide +kernel
theorem dL_addsUp_4 : decode cL_addsUp 4 = .ok (.iload_n 3, 1) := by decide +kernel
theorem dL_addsUp_5 : decode cL_addsUp 5 = .ok (.aload_n 0, 1) := by decide +kernel
theorem dL_addsUp_6 : decode cL_addsUp 6 = .ok (.bipush 12, 2) := by decide +kernel
theorem dL_addsUp_8 : decode cL_addsUp 8 = .ok (.invokevirtual 8, 3) := by decide +kernel
theorem dL_addsUp_11 : decode cL_addsUp 11 = .ok (.if_icmp .ge 19, 3) := by decide +kernel
theorem dL_addsUp_14 : decode cL_addsUp 14 = .ok (.lload_n 1, 1) := by decide +kernel
theorem dL_addsUp_15 : decode cL_addsUp 15 = .ok (.aload_n 0, 1) := by decide +kernel
theorem dL_addsUp_16 : decode cL_addsUp 16 = .ok (.iload_n 3, 1) := by decide +kernel
theorem dL_addsUp_17 : decode cL_addsUp 17 = .ok (.iconst 2, 1) := by decide +kernel
theorem dL_addsUp_18 : decode cL_addsUp 18 = .ok (.invokevirtual 18, 3) := by decide +kernel
theorem dL_addsUp_21 : decode cL_addsUp 21 = .ok (.i2l, 1) := by decide +kernel
theorem dL_addsUp_22 : decode cL_addsUp 22 = .ok (.ladd, 1) := by decide +kernel
theorem dL_addsUp_23 : decode cL_addsUp 23 = .ok (.lstore_n 1, 1) := by decide +kernel
theorem dL_addsUp_24 : decode cL_addsUp 24 = .ok (.iinc 3 1, 3) := by decide +kernel
theorem dL_addsUp_27 : decode cL_addsUp 27 = .ok (.goto (-23), 3) := by decide +kernel
theorem dL_addsUp_30 : decode cL_addsUp 30 = .ok (.aload_n 0, 1) := by decide +kernel
theorem dL_addsUp_31 : decode cL_addsUp 31 = .ok (.iconst 0, 1) := by decide +kernel
theorem dL_addsUp_32 : decode cL_addsUp 32 = .ok (.invokevirtual 34, 3) := by decide +kernel
theorem dL_addsUp_35 : decode cL_addsUp 35 = .ok (.lload_n 1, 1) := by decide +kernel
theorem dL_addsUp_36 : decode cL_addsUp 36 = .ok (.lcmp, 1) := by decide +kernel
theorem dL_addsUp_37 : decode cL_addsUp 37 = .ok (.ifCond .ne 41, 3) := by decide +kernel
theorem dL_addsUp_40 : decode cL_addsUp 40 = .ok (.aload_n 0, 1) := by decide +kernel
theorem dL_addsUp_41 : decode cL_addsUp 41 = .ok (.iconst 1, 1) := by decide +kernel
theorem dL_addsUp_42 : decode cL_addsUp 42 = .ok (.invokevirtual 34, 3) := by decide +kernel
theorem dL_addsUp_45 : decode cL_addsUp 45 = .ok (.lload_n 1, 1) := by decide +kernel
theorem dL_addsUp_46 : decode cL_addsUp 46 = .ok (.aload_n 0, 1) := by decide +kernel
theorem dL_addsUp_47 : decode cL_addsUp 47 = .ok (.iconst 2, 1) := by decide +kernel
theorem dL_addsUp_48 : decode cL_addsUp 48 = .ok (.invokevirtual 34, 3) := by decide +kernel
theorem dL_addsUp_51 : decode cL_addsUp 51 = .ok (.ladd, 1) := by decide +kernel
theorem dL_addsUp_52 : decode cL_addsUp 52 = .ok (.aload_n 0, 1) := by decide +kernel
theorem dL_addsUp_53 : decode cL_addsUp 53 = .ok (.iconst 3, 1) := by decide +kernel
theorem dL_addsUp_54 : decode cL_addsUp 54 = .ok (.invokevirtual 34, 3) := by decide +kernel
theorem dL_addsUp_57 : decode cL_addsUp 57 = .ok (.ladd, 1) := by decide +kernel
theorem dL_addsUp_58 : decode cL_addsUp 58 = .ok (.aload_n 0, 1) := by decide +kernel
theorem dL_addsUp_59 : decode cL_addsUp 59 = .ok (.iconst 4, 1) := by decide +kernel
theorem dL_addsUp_60 : decode cL_addsUp 60 = .ok (.invokevirtual 34, 3) := by decide +kernel
theorem dL_addsUp_63 : decode cL_addsUp 63 = .ok (.ladd, 1) := by decide +kernel
theorem dL_addsUp_64 : decode cL_addsUp 64 = .ok (.aload_n 0, 1) := by decide +kernel
theorem dL_addsUp_65 : decode cL_addsUp 65 = .ok (.iconst 5, 1) := by decide +kernel
theorem dL_addsUp_66 : decode cL_addsUp 66 = .ok (.invokevirtual 34, 3) := by decide +kernel
theorem dL_addsUp_69 : decode cL_addsUp 69 = .ok (.ladd, 1) := by decide +kernel
theorem dL_addsUp_70 : decode cL_addsUp 70 = .ok (.lcmp, 1) := by decide +kernel
theorem dL_addsUp_71 : decode cL_addsUp 71 = .ok (.ifCond .ne 7, 3) := by decide +kernel
theorem dL_addsUp_74 : decode cL_addsUp 74 = .ok (.iconst 1, 1) := by decide +kernel
theorem dL_addsUp_75 : decode cL_addsUp 75 = .ok (.goto 4, 3) := by decide +kernel
theorem dL_addsUp_78 : decode cL_addsUp 78 = .ok (.iconst 0, 1) := by decide +kernel
theorem dL_addsUp_79 : decode cL_addsUp 79 = .ok (.ireturn, 1) := by decide +kernel
set_option maxRecDepth 20000 in
theorem ggL_isSold_X9_van : GoodIn wsL_isSold wsX9_van := goodIn_r _ [6, 7, 8, 9, 10, 11, 12, 13, 14, 15, 16, 17, 18, 19, 20, 21, 22, 23, 24, 25, 26, 27, 28, 29, 5, 30, 31, 32, 33, 34, 35, 36, 37, 38, 39, 40, 41, 42, 43, 44, 45, 46, 47, 48, 49, 50, 51, 52, 53, 54, 55, 56, 57, 58, 59, 60, 61, 62, 63, 64, 65, 131, 132, 133, 134, 135, 136, 137, 138, 139, 140, 141, 142, 143, 144, 145, 146, 147, 148, 149, 150, 151, 152, 153, 154, 155, 156, 157, 158, 159, 160, 161, 162, 163] (by decide +kernel) (by decide +kernel)
set_option maxRecDepth 20000 in
theorem gL_isSold_X9_van : GoodIn wsL_isSold (wsV RL 8 RX9 yX9_van wsX9_van) := goodIn_app (goodIn_of _ (by decide +kernel)) ggL_isSold_X9_van
set_option maxRecDepth 20000 in
theorem ggL_isSold_X9_account : GoodIn wsL_isSold wsX9_account := goodIn_r _ [69, 8, 23, 70, 71, 72, 73, 74, 75, 76, 77, 78, 79, 80, 81, 82, 83, 131, 132, 133, 134, 135, 136, 137, 138, 139, 140, 141, 142, 143, 144, 145, 146, 159, 160, 164, 165, 166, 167] (by decide +kernel) (by decide +kernel)
set_option maxRecDepth 20000 in
theorem gL_isSold_X9_account : GoodIn wsL_isSold (wsV RL 34 RX9 yX9_account wsX9_account) := goodIn_app (goodIn_of _ (by decide +kernel)) ggL_isSold_X9_account
set_option maxRecDepth 20000 in
theorem ggL_isSold_X9_box : GoodIn wsL_isSold wsX9_box := goodIn_r _ [87, 8, 23, 88, 89, 90, 91, 11, 12, 9, 92, 93, 94, 79, 95, 81, 82, 29, 5, 30, 31, 32, 33, 34, 35, 36, 96, 97, 98, 99, 100, 101, 102, 103, 104, 105, 106, 107, 108, 109, 110, 64, 65, 131, 132, 133, 134, 135, 136, 137, 138, 139, 140, 141, 142, 143, 144, 145, 146, 164, 165, 166, 167, 147, 148, 149, 150, 151, 152, 153, 159, 160, 163] (by decide +kernel) (by decide +kernel)
set_option maxRecDepth 20000 in
theorem gL_isSold_X9_box : GoodIn wsL_isSold (wsV RL 18 RX9 yX9_box wsX9_box) := goodIn_app (goodIn_of _ (by decide +kernel)) ggL_isSold_X9_box
set_option maxRecDepth 20000 in
theorem ggL_isSold_X9_sell : GoodIn wsL_isSold wsX9_sell := goodIn_r _ [114, 115, 8, 11, 18, 23, 73, 28, 29, 5, 30, 76, 77, 78, 79, 80, 81, 82, 83, 116, 117, 118, 119, 120, 121, 105, 122, 123, 124, 125, 99, 126, 107, 127, 128, 129, 130, 131, 132, 133, 134, 135, 136, 137, 138, 139, 140, 141, 142, 143, 144, 145, 146, 147, 148, 149, 150, 151, 152, 153, 159, 160, 164, 165, 166, 167] (by decide +kernel) (by decide +kernel)
set_option maxRecDepth 20000 in
theorem gL_isSold_X9_sell : GoodIn wsL_isSold (wsV RL 41 RX9 yX9_sell wsX9_sell) := goodIn_app (goodIn_of _ (by decide +kernel)) ggL_isSold_X9_sell
theorem dL_isSold_0 : decode cL_isSold 0 = .ok (.aload_n 0, 1) := by decide +kernel
theorem dL_isSold_1 : decode cL_isSold 1 = .ok (.bipush 12, 2) := by decide +kernel
theorem dL_isSold_3 : decode cL_isSold 3 = .ok (.invokevirtual 8, 3) := by decide +kernel
theorem dL_isSold_6 : decode cL_isSold 6 = .ok (.istore_n 2, 1) := by decide +kernel
theorem dL_isSold_7 : decode cL_isSold 7 = .ok (.bipush 10, 2) := by decide +kernel
theorem dL_isSold_9 : decode cL_isSold 9 = .ok (.newarray .int, 2) := by decide +kernel
theorem dL_isSold_11 : decode cL_isSold 11 = .ok (.astore_n 3, 1) := by decide +kernel
theorem dL_isSold_12 : decode cL_isSold 12 = .ok (.bipush 10, 2) := by decide +kernel
theorem dL_isSold_14 : decode cL_isSold 14 = .ok (.newarray .int, 2) := by decide +kernel
theorem dL_isSold_16 : decode cL_isSold 16 = .ok (.astore 4, 2) := by decide +kernel
theorem dL_isSold_18 : decode cL_isSold 18 = .ok (.aload_n 0, 1) := by decide +kernel
theorem dL_isSold_19 : decode cL_isSold 19 = .ok (.iconst 0, 1) := by decide +kernel
theorem dL_isSold_20 : decode cL_isSold 20 = .ok (.invokevirtual 34, 3) := by decide +kernel
theorem dL_isSold_23 : decode cL_isSold 23 = .ok (.lstore 5, 2) := by decide +kernel
theorem dL_isSold_25 : decode cL_isSold 25 = .ok (.iload_n 1, 1) := by decide +kernel
theorem dL_isSold_26 : decode cL_isSold 26 = .ok (.istore 7, 2) := by decide +kernel
theorem dL_isSold_28 : decode cL_isSold 28 = .ok (.iconst 0, 1) := by decide +kernel
theorem dL_isSold_29 : decode cL_isSold 29 = .ok (.istore 8, 2) := by decide +kernel
theorem dL_isSold_31 : decode cL_isSold 31 = .ok (.iconst 0, 1) := by decide +kernel
theorem dL_isSold_32 : decode cL_isSold 32 = .ok (.istore 9, 2) := by decide +kernel
theorem dL_isSold_34 : decode cL_isSold 34 = .ok (.iload 9, 2) := by decide +kernel
theorem dL_isSold_36 : decode cL_isSold 36 = .ok (.iload_n 2, 1) := by decide +kernel
theorem dL_isSold_37 : decode cL_isSold 37 = .ok (.if_icmp .ge 103, 3) := by decide +kernel
theorem dL_isSold_40 : decode cL_isSold 40 = .ok (.iload 7, 2) := by decide +kernel
theorem dL_isSold_42 : decode cL_isSold 42 = .ok (.aload_n 0, 1) := by decide +kernel
theorem dL_isSold_43 : decode cL_isSold 43 = .ok (.iload 9, 2) := by decide +kernel
theorem dL_isSold_45 : decode cL_isSold 45 = .ok (.iconst 2, 1) := by decide +kernel
theorem dL_isSold_46 : decode cL_isSold 46 = .ok (.invokevirtual 18, 3) := by decide +kernel
theorem dL_isSold_49 : decode cL_isSold 49 = .ok (.if_icmp .ge 8, 3) := by decide +kernel
theorem dL_isSold_52 : decode cL_isSold 52 = .ok (.iload 7, 2) := by decide +kernel
theorem dL_isSold_54 : decode cL_isSold 54 = .ok (.goto 10, 3) := by decide +kernel
theorem dL_isSold_57 : decode cL_isSold 57 = .ok (.aload_n 0, 1) := by decide +kernel
theorem dL_isSold_58 : decode cL_isSold 58 = .ok (.iload 9, 2) := by decide +kernel
theorem dL_isSold_60 : decode cL_isSold 60 = .ok (.iconst 2, 1) := by decide +kernel
theorem dL_isSold_61 : decode cL_isSold 61 = .ok (.invokevirtual 18, 3) := by decide +kernel
theorem dL_isSold_64 : decode cL_isSold 64 = .ok (.istore 10, 2) := by decide +kernel
theorem dL_isSold_66 : decode cL_isSold 66 = .ok (.aload_n 3, 1) := by decide +kernel
theorem dL_isSold_67 : decode cL_isSold 67 = .ok (.iload 9, 2) := by decide +kernel
theorem dL_isSold_69 : decode cL_isSold 69 = .ok (.aload_n 0, 1) := by decide +kernel
theorem dL_isSold_70 : decode cL_isSold 70 = .ok (.iload 9, 2) := by decide +kernel
theorem dL_isSold_72 : decode cL_isSold 72 = .ok (.iconst 2, 1) := by decide +kernel
theorem dL_isSold_73 : decode cL_isSold 73 = .ok (.invokevirtual 18, 3) := by decide +kernel
theorem dL_isSold_76 : decode cL_isSold 76 = .ok (.iload 10, 2) := by decide +kernel
theorem dL_isSold_78 : decode cL_isSold 78 = .ok (.isub, 1) := by decide +kernel
theorem dL_isSold_79 : decode cL_isSold 79 = .ok (.iastore, 1) := by decide +kernel
theorem dL_isSold_80 : decode cL_isSold 80 = .ok (.aload 4, 2) := by decide +kernel
theorem dL_isSold_82 : decode cL_isSold 82 = .ok (.iload 9, 2) := by decide +kernel
theorem dL_isSold_84 : decode cL_isSold 84 = .ok (.aload_n 0, 1) := by decide +kernel
theorem dL_isSold_85 : decode cL_isSold 85 = .ok (.iload 9, 2) := by decide +kernel
theorem dL_isSold_87 : decode cL_isSold 87 = .ok (.iconst 3, 1) := by decide +kernel
theorem dL_isSold_88 : decode cL_isSold 88 = .ok (.invokevirtual 18, 3) := by decide +kernel
theorem dL_isSold_91 : decode cL_isSold 91 = .ok (.iload 10, 2) := by decide +kernel
theorem dL_isSold_93 : decode cL_isSold 93 = .ok (.isub, 1) := by decide +kernel
theorem dL_isSold_94 : decode cL_isSold 94 = .ok (.ifCond .ge 7, 3) := by decide +kernel
theorem dL_isSold_97 : decode cL_isSold 97 = .ok (.iconst 0, 1) := by decide +kernel
theorem dL_isSold_98 : decode cL_isSold 98 = .ok (.goto 13, 3) := by decide +kernel
theorem dL_isSold_101 : decode cL_isSold 101 = .ok (.aload_n 0, 1) := by decide +kernel
theorem dL_isSold_102 : decode cL_isSold 102 = .ok (.iload 9, 2) := by decide +kernel
theorem dL_isSold_104 : decode cL_isSold 104 = .ok (.iconst 3, 1) := by decide +kernel
theorem dL_isSold_105 : decode cL_isSold 105 = .ok (.invokevirtual 18, 3) := by decide +kernel
theorem dL_isSold_108 : decode cL_isSold 108 = .ok (.iload 10, 2) := by decide +kernel
theorem dL_isSold_110 : decode cL_isSold 110 = .ok (.isub, 1) := by decide +kernel
theorem dL_isSold_111 : decode cL_isSold 111 = .ok (.iastore, 1) := by decide +kernel
theorem dL_isSold_112 : decode cL_isSold 112 = .ok (.iload 8, 2) := by decide +kernel
theorem dL_isSold_114 : decode cL_isSold 114 = .ok (.iload 10, 2) := by decide +kernel
theorem dL_isSold_116 : decode cL_isSold 116 = .ok (.ifCond .le 7, 3) := by decide +kernel
theorem dL_isSold_119 : decode cL_isSold 119 = .ok (.iconst 1, 1) := by decide +kernel
theorem dL_isSold_120 : decode cL_isSold 120 = .ok (.goto 4, 3) := by decide +kernel
theorem dL_isSold_123 : decode cL_isSold 123 = .ok (.iconst 0, 1) := by decide +kernel
theorem dL_isSold_124 : decode cL_isSold 124 = .ok (.iadd, 1) := by decide +kernel
theorem dL_isSold_125 : decode cL_isSold 125 = .ok (.istore 8, 2) := by decide +kernel
theorem dL_isSold_127 : decode cL_isSold 127 = .ok (.iload 7, 2) := by decide +kernel
theorem dL_isSold_129 : decode cL_isSold 129 = .ok (.iload 10, 2) := by decide +kernel
theorem dL_isSold_131 : decode cL_isSold 131 = .ok (.isub, 1) := by decide +kernel
theorem dL_isSold_132 : decode cL_isSold 132 = .ok (.istore 7, 2) := by decide +kernel
theorem dL_isSold_134 : decode cL_isSold 134 = .ok (.iinc 9 1, 3) := by decide +kernel
theorem dL_isSold_137 : decode cL_isSold 137 = .ok (.goto (-103), 3) := by decide +kernel
theorem dL_isSold_140 : decode cL_isSold 140 = .ok (.aload_n 0, 1) := by decide +kernel
theorem dL_isSold_141 : decode cL_isSold 141 = .ok (.iconst 4, 1) := by decide +kernel
theorem dL_isSold_142 : decode cL_isSold 142 = .ok (.invokevirtual 34, 3) := by decide +kernel
theorem dL_isSold_145 : decode cL_isSold 145 = .ok (.lstore 9, 2) := by decide +kernel
theorem dL_isSold_147 : decode cL_isSold 147 = .ok (.aload_n 0, 1) := by decide +kernel
theorem dL_isSold_148 : decode cL_isSold 148 = .ok (.bipush 8, 2) := by decide +kernel
theorem dL_isSold_150 : decode cL_isSold 150 = .ok (.invokevirtual 8, 3) := by decide +kernel
theorem dL_isSold_153 : decode cL_isSold 153 = .ok (.iconst 1, 1) := by decide +kernel
theorem dL_isSold_154 : decode cL_isSold 154 = .ok (.if_icmp .ne 15, 3) := by decide +kernel
theorem dL_isSold_157 : decode cL_isSold 157 = .ok (.lload 5, 2) := by decide +kernel
theorem dL_isSold_159 : decode cL_isSold 159 = .ok (.iload_n 1, 1) := by decide +kernel
theorem dL_isSold_160 : decode cL_isSold 160 = .ok (.i2l, 1) := by decide +kernel
theorem dL_isSold_161 : decode cL_isSold 161 = .ok (.lcmp, 1) := by decide +kernel
theorem dL_isSold_162 : decode cL_isSold 162 = .ok (.ifCond .lt 7, 3) := by decide +kernel
theorem dL_isSold_165 : decode cL_isSold 165 = .ok (.iconst 1, 1) := by decide +kernel
theorem dL_isSold_166 : decode cL_isSold 166 = .ok (.goto 4, 3) := by decide +kernel
theorem dL_isSold_169 : decode cL_isSold 169 = .ok (.iconst 0, 1) := by decide +kernel
theorem dL_isSold_170 : decode cL_isSold 170 = .ok (.istore 11, 2) := by decide +kernel
theorem dL_isSold_172 : decode cL_isSold 172 = .ok (.aload_n 0, 1) := by decide +kernel
theorem dL_isSold_173 : decode cL_isSold 173 = .ok (.iload_n 1, 1) := by decide +kernel
theorem dL_isSold_174 : decode cL_isSold 174 = .ok (.invokevirtual 41, 3) := by decide +kernel
theorem dL_isSold_177 : decode cL_isSold 177 = .ok (.iload 11, 2) := by decide +kernel
theorem dL_isSold_179 : decode cL_isSold 179 = .ok (.ifCond .eq 8, 3) := by decide +kernel
theorem dL_isSold_182 : decode cL_isSold 182 = .ok (.iload 8, 2) := by decide +kernel
theorem dL_isSold_184 : decode cL_isSold 184 = .ok (.goto 5, 3) := by decide +kernel
theorem dL_isSold_187 : decode cL_isSold 187 = .ok (.bipush (-5), 2) := by decide +kernel
theorem dL_isSold_189 : decode cL_isSold 189 = .ok (.if_icmp .ne 26, 3) := by decide +kernel
theorem dL_isSold_192 : decode cL_isSold 192 = .ok (.aload_n 0, 1) := by decide +kernel
theorem dL_isSold_193 : decode cL_isSold 193 = .ok (.iconst 4, 1) := by decide +kernel
theorem dL_isSold_194 : decode cL_isSold 194 = .ok (.invokevirtual 34, 3) := by decide +kernel
theorem dL_isSold_197 : decode cL_isSold 197 = .ok (.lload 9, 2) := by decide +kernel
theorem dL_isSold_199 : decode cL_isSold 199 = .ok (.iload 11, 2) := by decide +kernel
theorem dL_isSold_201 : decode cL_isSold 201 = .ok (.ifCond .eq 7, 3) := by decide +kernel
theorem dL_isSold_204 : decode cL_isSold 204 = .ok (.iload_n 1, 1) := by decide +kernel
theorem dL_isSold_205 : decode cL_isSold 205 = .ok (.goto 4, 3) := by decide +kernel
theorem dL_isSold_208 : decode cL_isSold 208 = .ok (.iconst 0, 1) := by decide +kernel
theorem dL_isSold_209 : decode cL_isSold 209 = .ok (.i2l, 1) := by decide +kernel
theorem dL_isSold_210 : decode cL_isSold 210 = .ok (.ladd, 1) := by decide +kernel
theorem dL_isSold_211 : decode cL_isSold 211 = .ok (.lcmp, 1) := by decide +kernel
theorem dL_isSold_212 : decode cL_isSold 212 = .ok (.ifCond .eq 5, 3) := by decide +kernel
theorem dL_isSold_215 : decode cL_isSold 215 = .ok (.iconst 0, 1) := by decide +kernel
theorem dL_isSold_216 : decode cL_isSold 216 = .ok (.ireturn, 1) := by decide +kernel
theorem dL_isSold_217 : decode cL_isSold 217 = .ok (.iconst 0, 1) := by decide +kernel
theorem dL_isSold_218 : decode cL_isSold 218 = .ok (.istore 12, 2) := by decide +kernel
theorem dL_isSold_220 : decode cL_isSold 220 = .ok (.iload 12, 2) := by decide +kernel
theorem dL_isSold_222 : decode cL_isSold 222 = .ok (.iload_n 2, 1) := by decide +kernel
theorem dL_isSold_223 : decode cL_isSold 223 = .ok (.if_icmp .ge 45, 3) := by decide +kernel
theorem dL_isSold_226 : decode cL_isSold 226 = .ok (.iload 11, 2) := by decide +kernel
theorem dL_isSold_228 : decode cL_isSold 228 = .ok (.ifCond .eq 40, 3) := by decide +kernel
theorem dL_isSold_231 : decode cL_isSold 231 = .ok (.aload_n 0, 1) := by decide +kernel
theorem dL_isSold_232 : decode cL_isSold 232 = .ok (.iload 12, 2) := by decide +kernel
theorem dL_isSold_234 : decode cL_isSold 234 = .ok (.iconst 2, 1) := by decide +kernel
theorem dL_isSold_235 : decode cL_isSold 235 = .ok (.invokevirtual 18, 3) := by decide +kernel
theorem dL_isSold_238 : decode cL_isSold 238 = .ok (.aload_n 3, 1) := by decide +kernel
theorem dL_isSold_239 : decode cL_isSold 239 = .ok (.iload 12, 2) := by decide +kernel
theorem dL_isSold_241 : decode cL_isSold 241 = .ok (.iaload, 1) := by decide +kernel
theorem dL_isSold_242 : decode cL_isSold 242 = .ok (.if_icmp .ne 18, 3) := by decide +kernel
theorem dL_isSold_245 : decode cL_isSold 245 = .ok (.aload_n 0, 1) := by decide +kernel
theorem dL_isSold_246 : decode cL_isSold 246 = .ok (.iload 12, 2) := by decide +kernel
theorem dL_isSold_248 : decode cL_isSold 248 = .ok (.iconst 3, 1) := by decide +kernel
theorem dL_isSold_249 : decode cL_isSold 249 = .ok (.invokevirtual 18, 3) := by decide +kernel
theorem dL_isSold_252 : decode cL_isSold 252 = .ok (.aload 4, 2) := by decide +kernel
theorem dL_isSold_254 : decode cL_isSold 254 = .ok (.iload 12, 2) := by decide +kernel
theorem dL_isSold_256 : decode cL_isSold 256 = .ok (.iaload, 1) := by decide +kernel
theorem dL_isSold_257 : decode cL_isSold 257 = .ok (.if_icmp .eq 5, 3) := by decide +kernel
theorem dL_isSold_260 : decode cL_isSold 260 = .ok (.iconst 0, 1) := by decide +kernel
theorem dL_isSold_261 : decode cL_isSold 261 = .ok (.ireturn, 1) := by decide +kernel
theorem dL_isSold_262 : decode cL_isSold 262 = .ok (.iinc 12 1, 3) := by decide +kernel
theorem dL_isSold_265 : decode cL_isSold 265 = .ok (.goto (-45), 3) := by decide +kernel
theorem dL_isSold_268 : decode cL_isSold 268 = .ok (.iconst 1, 1) := by decide +kernel
theorem dL_isSold_269 : decode cL_isSold 269 = .ok (.ireturn, 1) := by decide +kernel
set_option maxRecDepth 20000 in
theorem ggL_isDoor_X9_van : GoodIn wsL_isDoor wsX9_van := goodIn_r _ [5, 6, 7, 8, 9, 10, 11, 12, 13, 14, 15, 16, 17, 18, 19, 20, 21, 22, 23, 24, 25, 26, 27, 28, 4, 29, 30, 31, 32, 33, 34, 35, 36, 37, 38, 39, 40, 41, 42, 43, 44, 45, 46, 47, 48, 49, 50, 51, 52, 53, 54, 55, 56, 57, 58, 59, 60, 61, 62, 63, 64, 89, 90, 91, 92, 93, 94, 95, 96, 97, 98, 99, 100, 101, 102, 103, 104, 105, 106, 107, 108, 109, 110, 111, 112, 113, 114, 115, 116, 117, 118, 119, 120, 121] (by decide +kernel) (by decide +kernel)
set_option maxRecDepth 20000 in
theorem gL_isDoor_X9_van : GoodIn wsL_isDoor (wsV RL 8 RX9 yX9_van wsX9_van) := goodIn_app (goodIn_of _ (by decide +kernel)) ggL_isDoor_X9_van
set_option maxRecDepth 20000 in
theorem ggL_isDoor_X9_open : GoodIn wsL_isDoor wsX9_open := goodIn_r _ [68, 7, 12, 10, 17, 69, 70, 71, 39, 72, 73, 74, 75, 76, 51, 77, 54, 78, 49, 50, 52, 53, 55, 56, 57, 58, 59, 60, 61, 62, 31, 32, 33, 34, 35, 28, 4, 29, 63, 64, 79, 80, 81, 82, 83, 84, 48, 89, 90, 91, 92, 93, 94, 95, 96, 97, 98, 99, 100, 101, 102, 103, 104, 105, 106, 107, 108, 109, 110, 111, 112, 113, 114, 115, 116, 121] (by decide +kernel) (by decide +kernel)
set_option maxRecDepth 20000 in
theorem gL_isDoor_X9_open : GoodIn wsL_isDoor (wsV RL 44 RX9 yX9_open wsX9_open) := goodIn_app (goodIn_of _ (by decide +kernel)) ggL_isDoor_X9_open
set_option maxRecDepth 20000 in
theorem ggL_isDoor_X9_shut : GoodIn wsL_isDoor wsX9_shut := goodIn_r _ [88, 7, 10, 17, 48, 49, 50, 51, 52, 53, 54, 55, 56, 57, 58, 59, 60, 61, 62, 31, 32, 33, 34, 35, 28, 4, 29, 63, 64, 89, 90, 91, 92, 93, 94, 95, 96, 97, 98, 99, 100, 101, 102, 103, 104, 105, 106, 107, 108, 109, 110, 111, 121] (by decide +kernel) (by decide +kernel)
set_option maxRecDepth 20000 in
theorem gL_isDoor_X9_shut : GoodIn wsL_isDoor (wsV RL 48 RX9 yX9_shut wsX9_shut) := goodIn_app (goodIn_of _ (by decide +kernel)) ggL_isDoor_X9_shut
theorem dL_isDoor_0 : decode cL_isDoor 0 = .ok (.aload_n 0, 1) := by decide +kernel
theorem dL_isDoor_1 : decode cL_isDoor 1 = .ok (.iconst 4, 1) := by decide +kernel
theorem dL_isDoor_2 : decode cL_isDoor 2 = .ok (.invokevirtual 8, 3) := by decide +kernel
theorem dL_isDoor_5 : decode cL_isDoor 5 = .ok (.istore_n 1, 1) := by decide +kernel
theorem dL_isDoor_6 : decode cL_isDoor 6 = .ok (.aload_n 0, 1) := by decide +kernel
theorem dL_isDoor_7 : decode cL_isDoor 7 = .ok (.bipush 8, 2) := by decide +kernel
theorem dL_isDoor_9 : decode cL_isDoor 9 = .ok (.invokevirtual 8, 3) := by decide +kernel
theorem dL_isDoor_12 : decode cL_isDoor 12 = .ok (.iconst 1, 1) := by decide +kernel
theorem dL_isDoor_13 : decode cL_isDoor 13 = .ok (.if_icmp .ne 7, 3) := by decide +kernel
theorem dL_isDoor_16 : decode cL_isDoor 16 = .ok (.iconst 1, 1) := by decide +kernel
theorem dL_isDoor_17 : decode cL_isDoor 17 = .ok (.goto 4, 3) := by decide +kernel
theorem dL_isDoor_20 : decode cL_isDoor 20 = .ok (.iconst 0, 1) := by decide +kernel
theorem dL_isDoor_21 : decode cL_isDoor 21 = .ok (.istore_n 2, 1) := by decide +kernel
theorem dL_isDoor_22 : decode cL_isDoor 22 = .ok (.iload_n 2, 1) := by decide +kernel
theorem dL_isDoor_23 : decode cL_isDoor 23 = .ok (.ifCond .eq 44, 3) := by decide +kernel
theorem dL_isDoor_26 : decode cL_isDoor 26 = .ok (.aload_n 0, 1) := by decide +kernel
theorem dL_isDoor_27 : decode cL_isDoor 27 = .ok (.invokevirtual 44, 3) := by decide +kernel
theorem dL_isDoor_30 : decode cL_isDoor 30 = .ok (.bipush (-5), 2) := by decide +kernel
theorem dL_isDoor_32 : decode cL_isDoor 32 = .ok (.if_icmp .ne 33, 3) := by decide +kernel
theorem dL_isDoor_35 : decode cL_isDoor 35 = .ok (.aload_n 0, 1) := by decide +kernel
theorem dL_isDoor_36 : decode cL_isDoor 36 = .ok (.invokevirtual 48, 3) := by decide +kernel
theorem dL_isDoor_39 : decode cL_isDoor 39 = .ok (.iload_n 1, 1) := by decide +kernel
theorem dL_isDoor_40 : decode cL_isDoor 40 = .ok (.if_icmp .ne 25, 3) := by decide +kernel
theorem dL_isDoor_43 : decode cL_isDoor 43 = .ok (.aload_n 0, 1) := by decide +kernel
theorem dL_isDoor_44 : decode cL_isDoor 44 = .ok (.bipush 8, 2) := by decide +kernel
theorem dL_isDoor_46 : decode cL_isDoor 46 = .ok (.invokevirtual 8, 3) := by decide +kernel
theorem dL_isDoor_49 : decode cL_isDoor 49 = .ok (.ifCond .ne 16, 3) := by decide +kernel
theorem dL_isDoor_52 : decode cL_isDoor 52 = .ok (.aload_n 0, 1) := by decide +kernel
theorem dL_isDoor_53 : decode cL_isDoor 53 = .ok (.invokevirtual 48, 3) := by decide +kernel
theorem dL_isDoor_56 : decode cL_isDoor 56 = .ok (.bipush (-5), 2) := by decide +kernel
theorem dL_isDoor_58 : decode cL_isDoor 58 = .ok (.if_icmp .ne 7, 3) := by decide +kernel
theorem dL_isDoor_61 : decode cL_isDoor 61 = .ok (.iconst 1, 1) := by decide +kernel
theorem dL_isDoor_62 : decode cL_isDoor 62 = .ok (.goto 4, 3) := by decide +kernel
theorem dL_isDoor_65 : decode cL_isDoor 65 = .ok (.iconst 0, 1) := by decide +kernel
theorem dL_isDoor_66 : decode cL_isDoor 66 = .ok (.ireturn, 1) := by decide +kernel
theorem dL_isDoor_67 : decode cL_isDoor 67 = .ok (.aload_n 0, 1) := by decide +kernel
theorem dL_isDoor_68 : decode cL_isDoor 68 = .ok (.bipush 10, 2) := by decide +kernel
theorem dL_isDoor_70 : decode cL_isDoor 70 = .ok (.invokevirtual 8, 3) := by decide +kernel
theorem dL_isDoor_73 : decode cL_isDoor 73 = .ok (.ifCond .le 7, 3) := by decide +kernel
theorem dL_isDoor_76 : decode cL_isDoor 76 = .ok (.iconst 1, 1) := by decide +kernel
theorem dL_isDoor_77 : decode cL_isDoor 77 = .ok (.goto 4, 3) := by decide +kernel
theorem dL_isDoor_80 : decode cL_isDoor 80 = .ok (.iconst 0, 1) := by decide +kernel
theorem dL_isDoor_81 : decode cL_isDoor 81 = .ok (.istore_n 3, 1) := by decide +kernel
theorem dL_isDoor_82 : decode cL_isDoor 82 = .ok (.iload_n 1, 1) := by decide +kernel
theorem dL_isDoor_83 : decode cL_isDoor 83 = .ok (.aload_n 0, 1) := by decide +kernel
theorem dL_isDoor_84 : decode cL_isDoor 84 = .ok (.bipush 23, 2) := by decide +kernel
theorem dL_isDoor_86 : decode cL_isDoor 86 = .ok (.invokevirtual 8, 3) := by decide +kernel
theorem dL_isDoor_89 : decode cL_isDoor 89 = .ok (.if_icmp .lt 7, 3) := by decide +kernel
theorem dL_isDoor_92 : decode cL_isDoor 92 = .ok (.iconst 1, 1) := by decide +kernel
theorem dL_isDoor_93 : decode cL_isDoor 93 = .ok (.goto 4, 3) := by decide +kernel
theorem dL_isDoor_96 : decode cL_isDoor 96 = .ok (.iconst 0, 1) := by decide +kernel
theorem dL_isDoor_97 : decode cL_isDoor 97 = .ok (.istore 4, 2) := by decide +kernel
theorem dL_isDoor_99 : decode cL_isDoor 99 = .ok (.aload_n 0, 1) := by decide +kernel
theorem dL_isDoor_100 : decode cL_isDoor 100 = .ok (.bipush 6, 2) := by decide +kernel
theorem dL_isDoor_102 : decode cL_isDoor 102 = .ok (.invokevirtual 8, 3) := by decide +kernel
theorem dL_isDoor_105 : decode cL_isDoor 105 = .ok (.istore 5, 2) := by decide +kernel
theorem dL_isDoor_107 : decode cL_isDoor 107 = .ok (.aload_n 0, 1) := by decide +kernel
theorem dL_isDoor_108 : decode cL_isDoor 108 = .ok (.bipush 7, 2) := by decide +kernel
theorem dL_isDoor_110 : decode cL_isDoor 110 = .ok (.invokevirtual 8, 3) := by decide +kernel
theorem dL_isDoor_113 : decode cL_isDoor 113 = .ok (.istore 6, 2) := by decide +kernel
theorem dL_isDoor_115 : decode cL_isDoor 115 = .ok (.aload_n 0, 1) := by decide +kernel
theorem dL_isDoor_116 : decode cL_isDoor 116 = .ok (.invokevirtual 44, 3) := by decide +kernel
theorem dL_isDoor_119 : decode cL_isDoor 119 = .ok (.iload_n 3, 1) := by decide +kernel
theorem dL_isDoor_120 : decode cL_isDoor 120 = .ok (.ifCond .eq 8, 3) := by decide +kernel
theorem dL_isDoor_123 : decode cL_isDoor 123 = .ok (.bipush (-5), 2) := by decide +kernel
theorem dL_isDoor_125 : decode cL_isDoor 125 = .ok (.goto 14, 3) := by decide +kernel
theorem dL_isDoor_128 : decode cL_isDoor 128 = .ok (.iload 4, 2) := by decide +kernel
theorem dL_isDoor_130 : decode cL_isDoor 130 = .ok (.ifCond .eq 8, 3) := by decide +kernel
theorem dL_isDoor_133 : decode cL_isDoor 133 = .ok (.bipush (-6), 2) := by decide +kernel
theorem dL_isDoor_135 : decode cL_isDoor 135 = .ok (.goto 4, 3) := by decide +kernel
theorem dL_isDoor_138 : decode cL_isDoor 138 = .ok (.iload_n 1, 1) := by decide +kernel
theorem dL_isDoor_139 : decode cL_isDoor 139 = .ok (.if_icmp .ne 26, 3) := by decide +kernel
theorem dL_isDoor_142 : decode cL_isDoor 142 = .ok (.aload_n 0, 1) := by decide +kernel
theorem dL_isDoor_143 : decode cL_isDoor 143 = .ok (.bipush 8, 2) := by decide +kernel
theorem dL_isDoor_145 : decode cL_isDoor 145 = .ok (.invokevirtual 8, 3) := by decide +kernel
theorem dL_isDoor_148 : decode cL_isDoor 148 = .ok (.iload_n 3, 1) := by decide +kernel
theorem dL_isDoor_149 : decode cL_isDoor 149 = .ok (.ifCond .ne 8, 3) := by decide +kernel
theorem dL_isDoor_152 : decode cL_isDoor 152 = .ok (.iload 4, 2) := by decide +kernel
theorem dL_isDoor_154 : decode cL_isDoor 154 = .ok (.ifCond .eq 7, 3) := by decide +kernel
theorem dL_isDoor_157 : decode cL_isDoor 157 = .ok (.iconst 0, 1) := by decide +kernel
theorem dL_isDoor_158 : decode cL_isDoor 158 = .ok (.goto 4, 3) := by decide +kernel
theorem dL_isDoor_161 : decode cL_isDoor 161 = .ok (.iconst 1, 1) := by decide +kernel
theorem dL_isDoor_162 : decode cL_isDoor 162 = .ok (.if_icmp .eq 5, 3) := by decide +kernel
theorem dL_isDoor_165 : decode cL_isDoor 165 = .ok (.iconst 0, 1) := by decide +kernel
theorem dL_isDoor_166 : decode cL_isDoor 166 = .ok (.ireturn, 1) := by decide +kernel
theorem dL_isDoor_167 : decode cL_isDoor 167 = .ok (.iload_n 3, 1) := by decide +kernel
theorem dL_isDoor_168 : decode cL_isDoor 168 = .ok (.ifCond .ne 12, 3) := by decide +kernel
theorem dL_isDoor_171 : decode cL_isDoor 171 = .ok (.iload 4, 2) := by decide +kernel
theorem dL_isDoor_173 : decode cL_isDoor 173 = .ok (.ifCond .eq 7, 3) := by decide +kernel
theorem dL_isDoor_176 : decode cL_isDoor 176 = .ok (.iconst 1, 1) := by decide +kernel
theorem dL_isDoor_177 : decode cL_isDoor 177 = .ok (.goto 4, 3) := by decide +kernel
theorem dL_isDoor_180 : decode cL_isDoor 180 = .ok (.iconst 0, 1) := by decide +kernel
theorem dL_isDoor_181 : decode cL_isDoor 181 = .ok (.istore 7, 2) := by decide +kernel
theorem dL_isDoor_183 : decode cL_isDoor 183 = .ok (.aload_n 0, 1) := by decide +kernel
theorem dL_isDoor_184 : decode cL_isDoor 184 = .ok (.bipush 6, 2) := by decide +kernel
theorem dL_isDoor_186 : decode cL_isDoor 186 = .ok (.invokevirtual 8, 3) := by decide +kernel
theorem dL_isDoor_189 : decode cL_isDoor 189 = .ok (.iload 7, 2) := by decide +kernel
theorem dL_isDoor_191 : decode cL_isDoor 191 = .ok (.ifCond .eq 7, 3) := by decide +kernel
theorem dL_isDoor_194 : decode cL_isDoor 194 = .ok (.iconst 1, 1) := by decide +kernel
theorem dL_isDoor_195 : decode cL_isDoor 195 = .ok (.goto 5, 3) := by decide +kernel
theorem dL_isDoor_198 : decode cL_isDoor 198 = .ok (.iload 5, 2) := by decide +kernel
theorem dL_isDoor_200 : decode cL_isDoor 200 = .ok (.if_icmp .ne 32, 3) := by decide +kernel
theorem dL_isDoor_203 : decode cL_isDoor 203 = .ok (.aload_n 0, 1) := by decide +kernel
theorem dL_isDoor_204 : decode cL_isDoor 204 = .ok (.bipush 7, 2) := by decide +kernel
theorem dL_isDoor_206 : decode cL_isDoor 206 = .ok (.invokevirtual 8, 3) := by decide +kernel
theorem dL_isDoor_209 : decode cL_isDoor 209 = .ok (.iload 7, 2) := by decide +kernel
theorem dL_isDoor_211 : decode cL_isDoor 211 = .ok (.ifCond .eq 12, 3) := by decide +kernel
theorem dL_isDoor_214 : decode cL_isDoor 214 = .ok (.iload 5, 2) := by decide +kernel
theorem dL_isDoor_216 : decode cL_isDoor 216 = .ok (.ifCond .ne 7, 3) := by decide +kernel
theorem dL_isDoor_219 : decode cL_isDoor 219 = .ok (.iconst 0, 1) := by decide +kernel
theorem dL_isDoor_220 : decode cL_isDoor 220 = .ok (.goto 5, 3) := by decide +kernel
theorem dL_isDoor_223 : decode cL_isDoor 223 = .ok (.iload 6, 2) := by decide +kernel
theorem dL_isDoor_225 : decode cL_isDoor 225 = .ok (.if_icmp .ne 7, 3) := by decide +kernel
theorem dL_isDoor_228 : decode cL_isDoor 228 = .ok (.iconst 1, 1) := by decide +kernel
theorem dL_isDoor_229 : decode cL_isDoor 229 = .ok (.goto 4, 3) := by decide +kernel
theorem dL_isDoor_232 : decode cL_isDoor 232 = .ok (.iconst 0, 1) := by decide +kernel
theorem dL_isDoor_233 : decode cL_isDoor 233 = .ok (.ireturn, 1) := by decide +kernel
end
section
set_option maxRecDepth 20000 in
theorem ggL_isBox_X9_van : GoodIn wsL_isBox wsX9_van := goodIn_r _ [9, 10, 11, 12, 13, 14, 15, 16, 17, 18, 19, 20, 21, 22, 23, 24, 25, 26, 27, 28, 29, 30, 31, 32, 8, 33, 34, 35, 36, 37, 38, 39, 40, 41, 42, 43, 44, 45, 46, 47, 48, 49, 50, 51, 52, 53, 54, 55, 56, 57, 58, 59, 60, 61, 62, 63, 64, 65, 66, 67, 68, 168, 169, 170, 171, 172, 173, 174, 175, 176, 177, 178, 179, 180, 181, 182, 183, 184, 185, 186, 187, 188, 189, 190, 191, 192, 193, 194, 195, 196, 197, 198, 199, 200] (by decide +kernel) (by decide +kernel)
set_option maxRecDepth 20000 in
theorem gL_isBox_X9_van : GoodIn wsL_isBox (wsV RL 8 RX9 yX9_van wsX9_van) := goodIn_app (goodIn_of _ (by decide +kernel)) ggL_isBox_X9_van
set_option maxRecDepth 20000 in
theorem ggL_isBox_L_cell : GoodIn wsL_isBox wsL_cell := goodIn_r _ [72, 73] (by decide +kernel) (by decide +kernel)
set_option maxRecDepth 20000 in
theorem gL_isBox_L_cell : GoodIn wsL_isBox (va_wsS RL 51 yL_cell wsL_cell) := goodIn_app (goodIn_of _ (by decide +kernel)) ggL_isBox_L_cell
set_option maxRecDepth 20000 in
theorem ggL_isBox_X9_box : GoodIn wsL_isBox wsX9_box := goodIn_r _ [77, 11, 26, 78, 79, 80, 81, 14, 15, 12, 82, 83, 84, 85, 86, 87, 88, 32, 8, 33, 34, 35, 36, 37, 38, 39, 89, 90, 91, 92, 93, 94, 95, 96, 97, 98, 99, 100, 101, 102, 103, 67, 68, 168, 169, 170, 171, 172, 173, 174, 175, 176, 177, 178, 179, 180, 181, 182, 183, 201, 202, 203, 204, 184, 185, 186, 187, 188, 189, 190, 196, 197, 200] (by decide +kernel) (by decide +kernel)
set_option maxRecDepth 20000 in
theorem gL_isBox_X9_box : GoodIn wsL_isBox (wsV RL 18 RX9 yX9_box wsX9_box) := goodIn_app (goodIn_of _ (by decide +kernel)) ggL_isBox_X9_box
set_option maxRecDepth 20000 in
theorem ggL_isBox_X9_account : GoodIn wsL_isBox wsX9_account := goodIn_r _ [107, 11, 26, 108, 109, 110, 111, 112, 113, 114, 115, 116, 85, 117, 87, 88, 118, 168, 169, 170, 171, 172, 173, 174, 175, 176, 177, 178, 179, 180, 181, 182, 183, 196, 197, 201, 202, 203, 204] (by decide +kernel) (by decide +kernel)
set_option maxRecDepth 20000 in
theorem gL_isBox_X9_account : GoodIn wsL_isBox (wsV RL 34 RX9 yX9_account wsX9_account) := goodIn_app (goodIn_of _ (by decide +kernel)) ggL_isBox_X9_account
set_option maxRecDepth 20000 in
theorem ggL_isBox_X9_load : GoodIn wsL_isBox wsX9_load := goodIn_r _ [122, 123, 124, 11, 26, 27, 14, 21, 108, 31, 32, 8, 33, 125, 126, 127, 85, 128, 87, 88, 129, 130, 118, 131, 168, 169, 170, 171, 172, 173, 174, 175, 176, 177, 178, 179, 180, 181, 182, 183, 196, 197, 184, 185, 186, 187, 188, 189, 190, 201, 202, 203, 204] (by decide +kernel) (by decide +kernel)
set_option maxRecDepth 20000 in
theorem gL_isBox_X9_load : GoodIn wsL_isBox (wsV RL 56 RX9 yX9_load wsX9_load) := goodIn_app (goodIn_of _ (by decide +kernel)) ggL_isBox_X9_load
set_option maxRecDepth 20000 in
theorem ggL_isBox_X9_unload : GoodIn wsL_isBox wsX9_unload := goodIn_r _ [135, 11, 26, 14, 21, 80, 109, 82, 83, 84, 85, 86, 87, 88, 32, 8, 33, 136, 137, 138, 139, 140, 141, 142, 143, 168, 169, 170, 171, 172, 173, 174, 175, 176, 177, 178, 179, 180, 181, 182, 183, 184, 185, 186, 187, 188, 189, 190, 201, 202, 203, 204, 196, 197] (by decide +kernel) (by decide +kernel)
set_option maxRecDepth 20000 in
theorem gL_isBox_X9_unload : GoodIn wsL_isBox (wsV RL 60 RX9 yX9_unload wsX9_unload) := goodIn_app (goodIn_of _ (by decide +kernel)) ggL_isBox_X9_unload
set_option maxRecDepth 20000 in
theorem ggL_isBox_X9_spill : GoodIn wsL_isBox wsX9_spill := goodIn_r _ [147, 11, 26, 124, 80, 112, 82, 83, 84, 85, 86, 87, 88, 32, 8, 33, 31, 168, 169, 170, 171, 172, 173, 174, 175, 176, 177, 178, 179, 180, 181, 182, 183, 201, 202, 203, 204, 196, 197] (by decide +kernel) (by decide +kernel)
set_option maxRecDepth 20000 in
theorem gL_isBox_X9_spill : GoodIn wsL_isBox (wsV RL 64 RX9 yX9_spill wsX9_spill) := goodIn_app (goodIn_of _ (by decide +kernel)) ggL_isBox_X9_spill
set_option maxRecDepth 20000 in
theorem ggL_isBox_X9_weigh : GoodIn wsL_isBox wsX9_weigh := goodIn_r _ [151, 11, 26, 16, 79, 80, 82, 83, 84, 85, 86, 87, 88, 32, 8, 33, 152, 153, 154, 43, 155, 156, 168, 169, 170, 171, 172, 173, 174, 175, 176, 177, 178, 179, 180, 181, 182, 183, 201, 202, 203, 204, 196, 197, 191, 192, 193, 194, 195] (by decide +kernel) (by decide +kernel)
set_option maxRecDepth 20000 in
theorem gL_isBox_X9_weigh : GoodIn wsL_isBox (wsV RL 67 RX9 yX9_weigh wsX9_weigh) := goodIn_app (goodIn_of _ (by decide +kernel)) ggL_isBox_X9_weigh
set_option maxRecDepth 20000 in
theorem ggL_isBox_X9_check : GoodIn wsL_isBox wsX9_check := goodIn_r _ [160, 11, 26, 161, 16, 162, 81, 80, 82, 83, 84, 85, 86, 87, 88, 32, 8, 33, 152, 153, 154, 43, 155, 156, 168, 169, 170, 171, 172, 173, 174, 175, 176, 177, 178, 179, 180, 181, 182, 183, 201, 202, 203, 204, 196, 197, 191, 192, 193, 194, 195] (by decide +kernel) (by decide +kernel)
set_option maxRecDepth 20000 in
theorem gL_isBox_X9_check : GoodIn wsL_isBox (wsV RL 70 RX9 yX9_check wsX9_check) := goodIn_app (goodIn_of _ (by decide +kernel)) ggL_isBox_X9_check
set_option maxRecDepth 20000 in
theorem ggL_isBox_X9_shift : GoodIn wsL_isBox wsX9_shift := goodIn_r _ [166, 11, 26, 80, 82, 83, 84, 85, 86, 87, 88, 32, 8, 33, 167, 141, 142, 143, 168, 169, 170, 171, 172, 173, 174, 175, 176, 177, 178, 179, 180, 181, 182, 183, 201, 202, 203, 204, 196, 197] (by decide +kernel) (by decide +kernel)
set_option maxRecDepth 20000 in
theorem gL_isBox_X9_shift : GoodIn wsL_isBox (wsV RL 75 RX9 yX9_shift wsX9_shift) := goodIn_app (goodIn_of _ (by decide +kernel)) ggL_isBox_X9_shift
theorem dL_isBox_0 : decode cL_isBox 0 = .ok (.aload_n 0, 1) := by decide +kernel
theorem dL_isBox_1 : decode cL_isBox 1 = .ok (.bipush 12, 2) := by decide +kernel
theorem dL_isBox_3 : decode cL_isBox 3 = .ok (.invokevirtual 8, 3) := by decide +kernel
theorem dL_isBox_6 : decode cL_isBox 6 = .ok (.istore_n 3, 1) := by decide +kernel
theorem dL_isBox_7 : decode cL_isBox 7 = .ok (.aload_n 0, 1) := by decide +kernel
theorem dL_isBox_8 : decode cL_isBox 8 = .ok (.bipush 8, 2) := by decide +kernel
theorem dL_isBox_10 : decode cL_isBox 10 = .ok (.invokevirtual 8, 3) := by decide +kernel
theorem dL_isBox_13 : decode cL_isBox 13 = .ok (.iconst 1, 1) := by decide +kernel
theorem dL_isBox_14 : decode cL_isBox 14 = .ok (.if_icmp .ne 7, 3) := by decide +kernel
theorem dL_isBox_17 : decode cL_isBox 17 = .ok (.iconst 1, 1) := by decide +kernel
theorem dL_isBox_18 : decode cL_isBox 18 = .ok (.goto 4, 3) := by decide +kernel
theorem dL_isBox_21 : decode cL_isBox 21 = .ok (.iconst 0, 1) := by decide +kernel
theorem dL_isBox_22 : decode cL_isBox 22 = .ok (.istore 4, 2) := by decide +kernel
theorem dL_isBox_24 : decode cL_isBox 24 = .ok (.aload_n 0, 1) := by decide +kernel
theorem dL_isBox_25 : decode cL_isBox 25 = .ok (.bipush 10, 2) := by decide +kernel
theorem dL_isBox_27 : decode cL_isBox 27 = .ok (.invokevirtual 8, 3) := by decide +kernel
theorem dL_isBox_30 : decode cL_isBox 30 = .ok (.ifCond .le 7, 3) := by decide +kernel
theorem dL_isBox_33 : decode cL_isBox 33 = .ok (.iconst 1, 1) := by decide +kernel
theorem dL_isBox_34 : decode cL_isBox 34 = .ok (.goto 4, 3) := by decide +kernel
theorem dL_isBox_37 : decode cL_isBox 37 = .ok (.iconst 0, 1) := by decide +kernel
theorem dL_isBox_38 : decode cL_isBox 38 = .ok (.istore 5, 2) := by decide +kernel
theorem dL_isBox_40 : decode cL_isBox 40 = .ok (.aload_n 1, 1) := by decide +kernel
theorem dL_isBox_41 : decode cL_isBox 41 = .ok (.iload_n 2, 1) := by decide +kernel
theorem dL_isBox_42 : decode cL_isBox 42 = .ok (.iconst 5, 1) := by decide +kernel
theorem dL_isBox_43 : decode cL_isBox 43 = .ok (.invokestatic 51, 3) := by decide +kernel
theorem dL_isBox_46 : decode cL_isBox 46 = .ok (.istore 6, 2) := by decide +kernel
theorem dL_isBox_48 : decode cL_isBox 48 = .ok (.aload_n 1, 1) := by decide +kernel
theorem dL_isBox_49 : decode cL_isBox 49 = .ok (.iload_n 2, 1) := by decide +kernel
theorem dL_isBox_50 : decode cL_isBox 50 = .ok (.iconst 1, 1) := by decide +kernel
theorem dL_isBox_51 : decode cL_isBox 51 = .ok (.iadd, 1) := by decide +kernel
theorem dL_isBox_52 : decode cL_isBox 52 = .ok (.bipush 10, 2) := by decide +kernel
theorem dL_isBox_54 : decode cL_isBox 54 = .ok (.invokestatic 51, 3) := by decide +kernel
theorem dL_isBox_57 : decode cL_isBox 57 = .ok (.istore 7, 2) := by decide +kernel
theorem dL_isBox_59 : decode cL_isBox 59 = .ok (.iload 7, 2) := by decide +kernel
theorem dL_isBox_61 : decode cL_isBox 61 = .ok (.iload_n 3, 1) := by decide +kernel
theorem dL_isBox_62 : decode cL_isBox 62 = .ok (.if_icmp .ge 7, 3) := by decide +kernel
theorem dL_isBox_65 : decode cL_isBox 65 = .ok (.iconst 1, 1) := by decide +kernel
theorem dL_isBox_66 : decode cL_isBox 66 = .ok (.goto 4, 3) := by decide +kernel
theorem dL_isBox_69 : decode cL_isBox 69 = .ok (.iconst 0, 1) := by decide +kernel
theorem dL_isBox_70 : decode cL_isBox 70 = .ok (.istore 8, 2) := by decide +kernel
theorem dL_isBox_72 : decode cL_isBox 72 = .ok (.iload 8, 2) := by decide +kernel
theorem dL_isBox_74 : decode cL_isBox 74 = .ok (.ifCond .eq 13, 3) := by decide +kernel
theorem dL_isBox_77 : decode cL_isBox 77 = .ok (.aload_n 0, 1) := by decide +kernel
theorem dL_isBox_78 : decode cL_isBox 78 = .ok (.iload 7, 2) := by decide +kernel
theorem dL_isBox_80 : decode cL_isBox 80 = .ok (.iconst 2, 1) := by decide +kernel
theorem dL_isBox_81 : decode cL_isBox 81 = .ok (.invokevirtual 18, 3) := by decide +kernel
theorem dL_isBox_84 : decode cL_isBox 84 = .ok (.goto 4, 3) := by decide +kernel
theorem dL_isBox_87 : decode cL_isBox 87 = .ok (.iconst 0, 1) := by decide +kernel
theorem dL_isBox_88 : decode cL_isBox 88 = .ok (.istore 9, 2) := by decide +kernel
theorem dL_isBox_90 : decode cL_isBox 90 = .ok (.iload 8, 2) := by decide +kernel
theorem dL_isBox_92 : decode cL_isBox 92 = .ok (.ifCond .eq 13, 3) := by decide +kernel
theorem dL_isBox_95 : decode cL_isBox 95 = .ok (.aload_n 0, 1) := by decide +kernel
theorem dL_isBox_96 : decode cL_isBox 96 = .ok (.iload 7, 2) := by decide +kernel
theorem dL_isBox_98 : decode cL_isBox 98 = .ok (.iconst 3, 1) := by decide +kernel
theorem dL_isBox_99 : decode cL_isBox 99 = .ok (.invokevirtual 18, 3) := by decide +kernel
theorem dL_isBox_102 : decode cL_isBox 102 = .ok (.goto 4, 3) := by decide +kernel
theorem dL_isBox_105 : decode cL_isBox 105 = .ok (.iconst 0, 1) := by decide +kernel
theorem dL_isBox_106 : decode cL_isBox 106 = .ok (.istore 10, 2) := by decide +kernel
theorem dL_isBox_108 : decode cL_isBox 108 = .ok (.iload 6, 2) := by decide +kernel
theorem dL_isBox_110 : decode cL_isBox 110 = .ok (.ifCond .ne 151, 3) := by decide +kernel
theorem dL_isBox_113 : decode cL_isBox 113 = .ok (.aload_n 1, 1) := by decide +kernel
theorem dL_isBox_114 : decode cL_isBox 114 = .ok (.iload_n 2, 1) := by decide +kernel
theorem dL_isBox_115 : decode cL_isBox 115 = .ok (.iconst 2, 1) := by decide +kernel
theorem dL_isBox_116 : decode cL_isBox 116 = .ok (.iadd, 1) := by decide +kernel
theorem dL_isBox_117 : decode cL_isBox 117 = .ok (.ldc 55, 2) := by decide +kernel
theorem dL_isBox_119 : decode cL_isBox 119 = .ok (.invokestatic 51, 3) := by decide +kernel
theorem dL_isBox_122 : decode cL_isBox 122 = .ok (.istore 11, 2) := by decide +kernel
theorem dL_isBox_124 : decode cL_isBox 124 = .ok (.aload_n 0, 1) := by decide +kernel
theorem dL_isBox_125 : decode cL_isBox 125 = .ok (.iconst 1, 1) := by decide +kernel
theorem dL_isBox_126 : decode cL_isBox 126 = .ok (.invokevirtual 34, 3) := by decide +kernel
theorem dL_isBox_129 : decode cL_isBox 129 = .ok (.lstore 12, 2) := by decide +kernel
theorem dL_isBox_131 : decode cL_isBox 131 = .ok (.iload_n 3, 1) := by decide +kernel
theorem dL_isBox_132 : decode cL_isBox 132 = .ok (.bipush 10, 2) := by decide +kernel
theorem dL_isBox_134 : decode cL_isBox 134 = .ok (.if_icmp .ge 12, 3) := by decide +kernel
theorem dL_isBox_137 : decode cL_isBox 137 = .ok (.iload 4, 2) := by decide +kernel
theorem dL_isBox_139 : decode cL_isBox 139 = .ok (.ifCond .eq 7, 3) := by decide +kernel
theorem dL_isBox_142 : decode cL_isBox 142 = .ok (.iconst 1, 1) := by decide +kernel
theorem dL_isBox_143 : decode cL_isBox 143 = .ok (.goto 4, 3) := by decide +kernel
theorem dL_isBox_146 : decode cL_isBox 146 = .ok (.iconst 0, 1) := by decide +kernel
theorem dL_isBox_147 : decode cL_isBox 147 = .ok (.istore 14, 2) := by decide +kernel
theorem dL_isBox_149 : decode cL_isBox 149 = .ok (.aload_n 0, 1) := by decide +kernel
theorem dL_isBox_150 : decode cL_isBox 150 = .ok (.iconst 1, 1) := by decide +kernel
theorem dL_isBox_151 : decode cL_isBox 151 = .ok (.aload_n 1, 1) := by decide +kernel
theorem dL_isBox_152 : decode cL_isBox 152 = .ok (.iload_n 2, 1) := by decide +kernel
theorem dL_isBox_153 : decode cL_isBox 153 = .ok (.iconst 3, 1) := by decide +kernel
theorem dL_isBox_154 : decode cL_isBox 154 = .ok (.iadd, 1) := by decide +kernel
theorem dL_isBox_155 : decode cL_isBox 155 = .ok (.bipush 20, 2) := by decide +kernel
theorem dL_isBox_157 : decode cL_isBox 157 = .ok (.invokestatic 51, 3) := by decide +kernel
theorem dL_isBox_160 : decode cL_isBox 160 = .ok (.iadd, 1) := by decide +kernel
theorem dL_isBox_161 : decode cL_isBox 161 = .ok (.bipush 7, 2) := by decide +kernel
theorem dL_isBox_163 : decode cL_isBox 163 = .ok (.iload 11, 2) := by decide +kernel
theorem dL_isBox_165 : decode cL_isBox 165 = .ok (.invokevirtual 56, 3) := by decide +kernel
theorem dL_isBox_168 : decode cL_isBox 168 = .ok (.iload_n 3, 1) := by decide +kernel
theorem dL_isBox_169 : decode cL_isBox 169 = .ok (.bipush 10, 2) := by decide +kernel
theorem dL_isBox_171 : decode cL_isBox 171 = .ok (.if_icmp .ne 8, 3) := by decide +kernel
theorem dL_isBox_174 : decode cL_isBox 174 = .ok (.bipush (-4), 2) := by decide +kernel
theorem dL_isBox_176 : decode cL_isBox 176 = .ok (.goto 14, 3) := by decide +kernel
theorem dL_isBox_179 : decode cL_isBox 179 = .ok (.iload 4, 2) := by decide +kernel
theorem dL_isBox_181 : decode cL_isBox 181 = .ok (.ifCond .eq 7, 3) := by decide +kernel
theorem dL_isBox_184 : decode cL_isBox 184 = .ok (.iload_n 3, 1) := by decide +kernel
theorem dL_isBox_185 : decode cL_isBox 185 = .ok (.goto 5, 3) := by decide +kernel
theorem dL_isBox_188 : decode cL_isBox 188 = .ok (.bipush (-5), 2) := by decide +kernel
theorem dL_isBox_190 : decode cL_isBox 190 = .ok (.if_icmp .ne 69, 3) := by decide +kernel
theorem dL_isBox_193 : decode cL_isBox 193 = .ok (.aload_n 0, 1) := by decide +kernel
theorem dL_isBox_194 : decode cL_isBox 194 = .ok (.iconst 1, 1) := by decide +kernel
theorem dL_isBox_195 : decode cL_isBox 195 = .ok (.invokevirtual 34, 3) := by decide +kernel
theorem dL_isBox_198 : decode cL_isBox 198 = .ok (.lload 12, 2) := by decide +kernel
theorem dL_isBox_200 : decode cL_isBox 200 = .ok (.iload 14, 2) := by decide +kernel
theorem dL_isBox_202 : decode cL_isBox 202 = .ok (.ifCond .eq 8, 3) := by decide +kernel
theorem dL_isBox_205 : decode cL_isBox 205 = .ok (.iload 11, 2) := by decide +kernel
theorem dL_isBox_207 : decode cL_isBox 207 = .ok (.goto 4, 3) := by decide +kernel
theorem dL_isBox_210 : decode cL_isBox 210 = .ok (.iconst 0, 1) := by decide +kernel
theorem dL_isBox_211 : decode cL_isBox 211 = .ok (.i2l, 1) := by decide +kernel
theorem dL_isBox_212 : decode cL_isBox 212 = .ok (.ladd, 1) := by decide +kernel
theorem dL_isBox_213 : decode cL_isBox 213 = .ok (.lcmp, 1) := by decide +kernel
theorem dL_isBox_214 : decode cL_isBox 214 = .ok (.ifCond .ne 45, 3) := by decide +kernel
theorem dL_isBox_217 : decode cL_isBox 217 = .ok (.iload 14, 2) := by decide +kernel
theorem dL_isBox_219 : decode cL_isBox 219 = .ok (.ifCond .eq 36, 3) := by decide +kernel
theorem dL_isBox_222 : decode cL_isBox 222 = .ok (.aload_n 0, 1) := by decide +kernel
theorem dL_isBox_223 : decode cL_isBox 223 = .ok (.iload_n 3, 1) := by decide +kernel
theorem dL_isBox_224 : decode cL_isBox 224 = .ok (.iconst 2, 1) := by decide +kernel
theorem dL_isBox_225 : decode cL_isBox 225 = .ok (.invokevirtual 18, 3) := by decide +kernel
theorem dL_isBox_228 : decode cL_isBox 228 = .ok (.iload 11, 2) := by decide +kernel
theorem dL_isBox_230 : decode cL_isBox 230 = .ok (.if_icmp .ne 29, 3) := by decide +kernel
theorem dL_isBox_233 : decode cL_isBox 233 = .ok (.aload_n 0, 1) := by decide +kernel
theorem dL_isBox_234 : decode cL_isBox 234 = .ok (.iload_n 3, 1) := by decide +kernel
theorem dL_isBox_235 : decode cL_isBox 235 = .ok (.iconst 3, 1) := by decide +kernel
theorem dL_isBox_236 : decode cL_isBox 236 = .ok (.invokevirtual 18, 3) := by decide +kernel
theorem dL_isBox_239 : decode cL_isBox 239 = .ok (.iload 11, 2) := by decide +kernel
theorem dL_isBox_241 : decode cL_isBox 241 = .ok (.if_icmp .ne 18, 3) := by decide +kernel
theorem dL_isBox_244 : decode cL_isBox 244 = .ok (.aload_n 0, 1) := by decide +kernel
theorem dL_isBox_245 : decode cL_isBox 245 = .ok (.iload_n 3, 1) := by decide +kernel
theorem dL_isBox_246 : decode cL_isBox 246 = .ok (.iconst 1, 1) := by decide +kernel
theorem dL_isBox_247 : decode cL_isBox 247 = .ok (.invokevirtual 18, 3) := by decide +kernel
theorem dL_isBox_250 : decode cL_isBox 250 = .ok (.bipush 7, 2) := by decide +kernel
theorem dL_isBox_252 : decode cL_isBox 252 = .ok (.if_icmp .ne 7, 3) := by decide +kernel
theorem dL_isBox_255 : decode cL_isBox 255 = .ok (.iconst 1, 1) := by decide +kernel
theorem dL_isBox_256 : decode cL_isBox 256 = .ok (.goto 4, 3) := by decide +kernel
theorem dL_isBox_259 : decode cL_isBox 259 = .ok (.iconst 0, 1) := by decide +kernel
theorem dL_isBox_260 : decode cL_isBox 260 = .ok (.ireturn, 1) := by decide +kernel
theorem dL_isBox_261 : decode cL_isBox 261 = .ok (.iload 6, 2) := by decide +kernel
theorem dL_isBox_263 : decode cL_isBox 263 = .ok (.iconst 1, 1) := by decide +kernel
theorem dL_isBox_264 : decode cL_isBox 264 = .ok (.if_icmp .ne 108, 3) := by decide +kernel
theorem dL_isBox_267 : decode cL_isBox 267 = .ok (.aload_n 0, 1) := by decide +kernel
theorem dL_isBox_268 : decode cL_isBox 268 = .ok (.iconst 2, 1) := by decide +kernel
theorem dL_isBox_269 : decode cL_isBox 269 = .ok (.invokevirtual 34, 3) := by decide +kernel
theorem dL_isBox_272 : decode cL_isBox 272 = .ok (.lstore 11, 2) := by decide +kernel
theorem dL_isBox_274 : decode cL_isBox 274 = .ok (.iload 8, 2) := by decide +kernel
theorem dL_isBox_276 : decode cL_isBox 276 = .ok (.ifCond .eq 12, 3) := by decide +kernel
theorem dL_isBox_279 : decode cL_isBox 279 = .ok (.iload 4, 2) := by decide +kernel
theorem dL_isBox_281 : decode cL_isBox 281 = .ok (.ifCond .eq 7, 3) := by decide +kernel
theorem dL_isBox_284 : decode cL_isBox 284 = .ok (.iconst 1, 1) := by decide +kernel
theorem dL_isBox_285 : decode cL_isBox 285 = .ok (.goto 4, 3) := by decide +kernel
theorem dL_isBox_288 : decode cL_isBox 288 = .ok (.iconst 0, 1) := by decide +kernel
theorem dL_isBox_289 : decode cL_isBox 289 = .ok (.istore 13, 2) := by decide +kernel
theorem dL_isBox_291 : decode cL_isBox 291 = .ok (.aload_n 0, 1) := by decide +kernel
theorem dL_isBox_292 : decode cL_isBox 292 = .ok (.iload 7, 2) := by decide +kernel
theorem dL_isBox_294 : decode cL_isBox 294 = .ok (.invokevirtual 60, 3) := by decide +kernel
theorem dL_isBox_297 : decode cL_isBox 297 = .ok (.iload 8, 2) := by decide +kernel
theorem dL_isBox_299 : decode cL_isBox 299 = .ok (.ifCond .ne 7, 3) := by decide +kernel
theorem dL_isBox_302 : decode cL_isBox 302 = .ok (.iconst (-1), 1) := by decide +kernel
theorem dL_isBox_303 : decode cL_isBox 303 = .ok (.goto 15, 3) := by decide +kernel
theorem dL_isBox_306 : decode cL_isBox 306 = .ok (.iload 4, 2) := by decide +kernel
theorem dL_isBox_308 : decode cL_isBox 308 = .ok (.ifCond .eq 8, 3) := by decide +kernel
theorem dL_isBox_311 : decode cL_isBox 311 = .ok (.iload 9, 2) := by decide +kernel
theorem dL_isBox_313 : decode cL_isBox 313 = .ok (.goto 5, 3) := by decide +kernel
theorem dL_isBox_316 : decode cL_isBox 316 = .ok (.bipush (-5), 2) := by decide +kernel
theorem dL_isBox_318 : decode cL_isBox 318 = .ok (.if_icmp .ne 52, 3) := by decide +kernel
theorem dL_isBox_321 : decode cL_isBox 321 = .ok (.aload_n 0, 1) := by decide +kernel
theorem dL_isBox_322 : decode cL_isBox 322 = .ok (.bipush 12, 2) := by decide +kernel
theorem dL_isBox_324 : decode cL_isBox 324 = .ok (.invokevirtual 8, 3) := by decide +kernel
theorem dL_isBox_327 : decode cL_isBox 327 = .ok (.iload 13, 2) := by decide +kernel
theorem dL_isBox_329 : decode cL_isBox 329 = .ok (.ifCond .eq 9, 3) := by decide +kernel
theorem dL_isBox_332 : decode cL_isBox 332 = .ok (.iload_n 3, 1) := by decide +kernel
theorem dL_isBox_333 : decode cL_isBox 333 = .ok (.iconst 1, 1) := by decide +kernel
theorem dL_isBox_334 : decode cL_isBox 334 = .ok (.isub, 1) := by decide +kernel
theorem dL_isBox_335 : decode cL_isBox 335 = .ok (.goto 4, 3) := by decide +kernel
theorem dL_isBox_338 : decode cL_isBox 338 = .ok (.iload_n 3, 1) := by decide +kernel
theorem dL_isBox_339 : decode cL_isBox 339 = .ok (.if_icmp .ne 31, 3) := by decide +kernel
theorem dL_isBox_342 : decode cL_isBox 342 = .ok (.aload_n 0, 1) := by decide +kernel
theorem dL_isBox_343 : decode cL_isBox 343 = .ok (.iconst 2, 1) := by decide +kernel
theorem dL_isBox_344 : decode cL_isBox 344 = .ok (.invokevirtual 34, 3) := by decide +kernel
theorem dL_isBox_347 : decode cL_isBox 347 = .ok (.lload 11, 2) := by decide +kernel
theorem dL_isBox_349 : decode cL_isBox 349 = .ok (.iload 13, 2) := by decide +kernel
theorem dL_isBox_351 : decode cL_isBox 351 = .ok (.ifCond .eq 8, 3) := by decide +kernel
theorem dL_isBox_354 : decode cL_isBox 354 = .ok (.iload 9, 2) := by decide +kernel
theorem dL_isBox_356 : decode cL_isBox 356 = .ok (.goto 4, 3) := by decide +kernel
theorem dL_isBox_359 : decode cL_isBox 359 = .ok (.iconst 0, 1) := by decide +kernel
theorem dL_isBox_360 : decode cL_isBox 360 = .ok (.i2l, 1) := by decide +kernel
theorem dL_isBox_361 : decode cL_isBox 361 = .ok (.ladd, 1) := by decide +kernel
theorem dL_isBox_362 : decode cL_isBox 362 = .ok (.lcmp, 1) := by decide +kernel
theorem dL_isBox_363 : decode cL_isBox 363 = .ok (.ifCond .ne 7, 3) := by decide +kernel
theorem dL_isBox_366 : decode cL_isBox 366 = .ok (.iconst 1, 1) := by decide +kernel
theorem dL_isBox_367 : decode cL_isBox 367 = .ok (.goto 4, 3) := by decide +kernel
theorem dL_isBox_370 : decode cL_isBox 370 = .ok (.iconst 0, 1) := by decide +kernel
theorem dL_isBox_371 : decode cL_isBox 371 = .ok (.ireturn, 1) := by decide +kernel
theorem dL_isBox_372 : decode cL_isBox 372 = .ok (.iload 6, 2) := by decide +kernel
theorem dL_isBox_374 : decode cL_isBox 374 = .ok (.iconst 2, 1) := by decide +kernel
theorem dL_isBox_375 : decode cL_isBox 375 = .ok (.if_icmp .ne 93, 3) := by decide +kernel
theorem dL_isBox_378 : decode cL_isBox 378 = .ok (.iconst 1, 1) := by decide +kernel
theorem dL_isBox_379 : decode cL_isBox 379 = .ok (.aload_n 1, 1) := by decide +kernel
theorem dL_isBox_380 : decode cL_isBox 380 = .ok (.iload_n 2, 1) := by decide +kernel
theorem dL_isBox_381 : decode cL_isBox 381 = .ok (.iconst 2, 1) := by decide +kernel
theorem dL_isBox_382 : decode cL_isBox 382 = .ok (.iadd, 1) := by decide +kernel
theorem dL_isBox_383 : decode cL_isBox 383 = .ok (.ldc 63, 2) := by decide +kernel
theorem dL_isBox_385 : decode cL_isBox 385 = .ok (.invokestatic 51, 3) := by decide +kernel
theorem dL_isBox_388 : decode cL_isBox 388 = .ok (.iadd, 1) := by decide +kernel
theorem dL_isBox_389 : decode cL_isBox 389 = .ok (.istore 11, 2) := by decide +kernel
theorem dL_isBox_391 : decode cL_isBox 391 = .ok (.iload 8, 2) := by decide +kernel
theorem dL_isBox_393 : decode cL_isBox 393 = .ok (.ifCond .eq 14, 3) := by decide +kernel
theorem dL_isBox_396 : decode cL_isBox 396 = .ok (.iload 11, 2) := by decide +kernel
theorem dL_isBox_398 : decode cL_isBox 398 = .ok (.iload 9, 2) := by decide +kernel
theorem dL_isBox_400 : decode cL_isBox 400 = .ok (.if_icmp .gt 7, 3) := by decide +kernel
theorem dL_isBox_403 : decode cL_isBox 403 = .ok (.iconst 1, 1) := by decide +kernel
theorem dL_isBox_404 : decode cL_isBox 404 = .ok (.goto 4, 3) := by decide +kernel
theorem dL_isBox_407 : decode cL_isBox 407 = .ok (.iconst 0, 1) := by decide +kernel
theorem dL_isBox_408 : decode cL_isBox 408 = .ok (.istore 12, 2) := by decide +kernel
theorem dL_isBox_410 : decode cL_isBox 410 = .ok (.aload_n 0, 1) := by decide +kernel
theorem dL_isBox_411 : decode cL_isBox 411 = .ok (.iload 7, 2) := by decide +kernel
theorem dL_isBox_413 : decode cL_isBox 413 = .ok (.iload 11, 2) := by decide +kernel
theorem dL_isBox_415 : decode cL_isBox 415 = .ok (.invokevirtual 64, 3) := by decide +kernel
theorem dL_isBox_418 : decode cL_isBox 418 = .ok (.iload 8, 2) := by decide +kernel
theorem dL_isBox_420 : decode cL_isBox 420 = .ok (.ifCond .ne 7, 3) := by decide +kernel
theorem dL_isBox_423 : decode cL_isBox 423 = .ok (.iconst (-1), 1) := by decide +kernel
theorem dL_isBox_424 : decode cL_isBox 424 = .ok (.goto 18, 3) := by decide +kernel
theorem dL_isBox_427 : decode cL_isBox 427 = .ok (.iload 12, 2) := by decide +kernel
theorem dL_isBox_429 : decode cL_isBox 429 = .ok (.ifCond .eq 11, 3) := by decide +kernel
theorem dL_isBox_432 : decode cL_isBox 432 = .ok (.iload 9, 2) := by decide +kernel
theorem dL_isBox_434 : decode cL_isBox 434 = .ok (.iload 11, 2) := by decide +kernel
theorem dL_isBox_436 : decode cL_isBox 436 = .ok (.isub, 1) := by decide +kernel
theorem dL_isBox_437 : decode cL_isBox 437 = .ok (.goto 5, 3) := by decide +kernel
theorem dL_isBox_440 : decode cL_isBox 440 = .ok (.bipush (-2), 2) := by decide +kernel
theorem dL_isBox_442 : decode cL_isBox 442 = .ok (.if_icmp .ne 24, 3) := by decide +kernel
theorem dL_isBox_445 : decode cL_isBox 445 = .ok (.iload 8, 2) := by decide +kernel
theorem dL_isBox_447 : decode cL_isBox 447 = .ok (.ifCond .eq 15, 3) := by decide +kernel
theorem dL_isBox_450 : decode cL_isBox 450 = .ok (.aload_n 0, 1) := by decide +kernel
theorem dL_isBox_451 : decode cL_isBox 451 = .ok (.iload 7, 2) := by decide +kernel
theorem dL_isBox_453 : decode cL_isBox 453 = .ok (.iconst 3, 1) := by decide +kernel
theorem dL_isBox_454 : decode cL_isBox 454 = .ok (.invokevirtual 18, 3) := by decide +kernel
theorem dL_isBox_457 : decode cL_isBox 457 = .ok (.iload 10, 2) := by decide +kernel
theorem dL_isBox_459 : decode cL_isBox 459 = .ok (.if_icmp .ne 7, 3) := by decide +kernel
theorem dL_isBox_462 : decode cL_isBox 462 = .ok (.iconst 1, 1) := by decide +kernel
theorem dL_isBox_463 : decode cL_isBox 463 = .ok (.goto 4, 3) := by decide +kernel
theorem dL_isBox_466 : decode cL_isBox 466 = .ok (.iconst 0, 1) := by decide +kernel
theorem dL_isBox_467 : decode cL_isBox 467 = .ok (.ireturn, 1) := by decide +kernel
theorem dL_isBox_468 : decode cL_isBox 468 = .ok (.iload 6, 2) := by decide +kernel
theorem dL_isBox_470 : decode cL_isBox 470 = .ok (.iconst 3, 1) := by decide +kernel
theorem dL_isBox_471 : decode cL_isBox 471 = .ok (.if_icmp .ne 108, 3) := by decide +kernel
theorem dL_isBox_474 : decode cL_isBox 474 = .ok (.aload_n 0, 1) := by decide +kernel
theorem dL_isBox_475 : decode cL_isBox 475 = .ok (.iload 7, 2) := by decide +kernel
theorem dL_isBox_477 : decode cL_isBox 477 = .ok (.invokevirtual 67, 3) := by decide +kernel
theorem dL_isBox_480 : decode cL_isBox 480 = .ok (.iload 8, 2) := by decide +kernel
theorem dL_isBox_482 : decode cL_isBox 482 = .ok (.ifCond .ne 7, 3) := by decide +kernel
theorem dL_isBox_485 : decode cL_isBox 485 = .ok (.iconst (-1), 1) := by decide +kernel
theorem dL_isBox_486 : decode cL_isBox 486 = .ok (.goto 23, 3) := by decide +kernel
theorem dL_isBox_489 : decode cL_isBox 489 = .ok (.iload 5, 2) := by decide +kernel
theorem dL_isBox_491 : decode cL_isBox 491 = .ok (.ifCond .eq 8, 3) := by decide +kernel
theorem dL_isBox_494 : decode cL_isBox 494 = .ok (.bipush (-5), 2) := by decide +kernel
theorem dL_isBox_496 : decode cL_isBox 496 = .ok (.goto 13, 3) := by decide +kernel
theorem dL_isBox_499 : decode cL_isBox 499 = .ok (.aload_n 0, 1) := by decide +kernel
theorem dL_isBox_500 : decode cL_isBox 500 = .ok (.iload 7, 2) := by decide +kernel
theorem dL_isBox_502 : decode cL_isBox 502 = .ok (.iconst 1, 1) := by decide +kernel
theorem dL_isBox_503 : decode cL_isBox 503 = .ok (.invokevirtual 18, 3) := by decide +kernel
theorem dL_isBox_506 : decode cL_isBox 506 = .ok (.iload 9, 2) := by decide +kernel
theorem dL_isBox_508 : decode cL_isBox 508 = .ok (.iadd, 1) := by decide +kernel
theorem dL_isBox_509 : decode cL_isBox 509 = .ok (.if_icmp .ne 68, 3) := by decide +kernel
theorem dL_isBox_512 : decode cL_isBox 512 = .ok (.aload_n 0, 1) := by decide +kernel
theorem dL_isBox_513 : decode cL_isBox 513 = .ok (.iload 7, 2) := by decide +kernel
theorem dL_isBox_515 : decode cL_isBox 515 = .ok (.invokevirtual 70, 3) := by decide +kernel
theorem dL_isBox_518 : decode cL_isBox 518 = .ok (.iload 8, 2) := by decide +kernel
theorem dL_isBox_520 : decode cL_isBox 520 = .ok (.ifCond .ne 8, 3) := by decide +kernel
theorem dL_isBox_523 : decode cL_isBox 523 = .ok (.ldc 73, 2) := by decide +kernel
theorem dL_isBox_525 : decode cL_isBox 525 = .ok (.goto 18, 3) := by decide +kernel
theorem dL_isBox_528 : decode cL_isBox 528 = .ok (.iload 5, 2) := by decide +kernel
theorem dL_isBox_530 : decode cL_isBox 530 = .ok (.ifCond .eq 8, 3) := by decide +kernel
theorem dL_isBox_533 : decode cL_isBox 533 = .ok (.ldc 74, 2) := by decide +kernel
theorem dL_isBox_535 : decode cL_isBox 535 = .ok (.goto 8, 3) := by decide +kernel
theorem dL_isBox_538 : decode cL_isBox 538 = .ok (.iload 10, 2) := by decide +kernel
theorem dL_isBox_540 : decode cL_isBox 540 = .ok (.iload 9, 2) := by decide +kernel
theorem dL_isBox_542 : decode cL_isBox 542 = .ok (.isub, 1) := by decide +kernel
theorem dL_isBox_543 : decode cL_isBox 543 = .ok (.if_icmp .ne 34, 3) := by decide +kernel
theorem dL_isBox_546 : decode cL_isBox 546 = .ok (.iload 8, 2) := by decide +kernel
theorem dL_isBox_548 : decode cL_isBox 548 = .ok (.ifCond .eq 25, 3) := by decide +kernel
theorem dL_isBox_551 : decode cL_isBox 551 = .ok (.aload_n 0, 1) := by decide +kernel
theorem dL_isBox_552 : decode cL_isBox 552 = .ok (.iload 7, 2) := by decide +kernel
theorem dL_isBox_554 : decode cL_isBox 554 = .ok (.iconst 3, 1) := by decide +kernel
theorem dL_isBox_555 : decode cL_isBox 555 = .ok (.invokevirtual 18, 3) := by decide +kernel
theorem dL_isBox_558 : decode cL_isBox 558 = .ok (.iload 5, 2) := by decide +kernel
theorem dL_isBox_560 : decode cL_isBox 560 = .ok (.ifCond .eq 8, 3) := by decide +kernel
theorem dL_isBox_563 : decode cL_isBox 563 = .ok (.iload 10, 2) := by decide +kernel
theorem dL_isBox_565 : decode cL_isBox 565 = .ok (.goto 5, 3) := by decide +kernel
theorem dL_isBox_568 : decode cL_isBox 568 = .ok (.iload 9, 2) := by decide +kernel
theorem dL_isBox_570 : decode cL_isBox 570 = .ok (.if_icmp .ne 7, 3) := by decide +kernel
theorem dL_isBox_573 : decode cL_isBox 573 = .ok (.iconst 1, 1) := by decide +kernel
theorem dL_isBox_574 : decode cL_isBox 574 = .ok (.goto 4, 3) := by decide +kernel
theorem dL_isBox_577 : decode cL_isBox 577 = .ok (.iconst 0, 1) := by decide +kernel
theorem dL_isBox_578 : decode cL_isBox 578 = .ok (.ireturn, 1) := by decide +kernel
theorem dL_isBox_579 : decode cL_isBox 579 = .ok (.aload_n 1, 1) := by decide +kernel
theorem dL_isBox_580 : decode cL_isBox 580 = .ok (.iload_n 2, 1) := by decide +kernel
theorem dL_isBox_581 : decode cL_isBox 581 = .ok (.iconst 2, 1) := by decide +kernel
theorem dL_isBox_582 : decode cL_isBox 582 = .ok (.iadd, 1) := by decide +kernel
theorem dL_isBox_583 : decode cL_isBox 583 = .ok (.bipush 10, 2) := by decide +kernel
theorem dL_isBox_585 : decode cL_isBox 585 = .ok (.invokestatic 51, 3) := by decide +kernel
theorem dL_isBox_588 : decode cL_isBox 588 = .ok (.istore 11, 2) := by decide +kernel
theorem dL_isBox_590 : decode cL_isBox 590 = .ok (.iload 8, 2) := by decide +kernel
theorem dL_isBox_592 : decode cL_isBox 592 = .ok (.ifCond .eq 13, 3) := by decide +kernel
theorem dL_isBox_595 : decode cL_isBox 595 = .ok (.iload 11, 2) := by decide +kernel
theorem dL_isBox_597 : decode cL_isBox 597 = .ok (.iload_n 3, 1) := by decide +kernel
theorem dL_isBox_598 : decode cL_isBox 598 = .ok (.if_icmp .ge 7, 3) := by decide +kernel
theorem dL_isBox_601 : decode cL_isBox 601 = .ok (.iconst 1, 1) := by decide +kernel
theorem dL_isBox_602 : decode cL_isBox 602 = .ok (.goto 4, 3) := by decide +kernel
theorem dL_isBox_605 : decode cL_isBox 605 = .ok (.iconst 0, 1) := by decide +kernel
theorem dL_isBox_606 : decode cL_isBox 606 = .ok (.istore 12, 2) := by decide +kernel
theorem dL_isBox_608 : decode cL_isBox 608 = .ok (.iload 12, 2) := by decide +kernel
theorem dL_isBox_610 : decode cL_isBox 610 = .ok (.ifCond .eq 13, 3) := by decide +kernel
theorem dL_isBox_613 : decode cL_isBox 613 = .ok (.aload_n 0, 1) := by decide +kernel
theorem dL_isBox_614 : decode cL_isBox 614 = .ok (.iload 11, 2) := by decide +kernel
theorem dL_isBox_616 : decode cL_isBox 616 = .ok (.iconst 2, 1) := by decide +kernel
theorem dL_isBox_617 : decode cL_isBox 617 = .ok (.invokevirtual 18, 3) := by decide +kernel
theorem dL_isBox_620 : decode cL_isBox 620 = .ok (.goto 4, 3) := by decide +kernel
theorem dL_isBox_623 : decode cL_isBox 623 = .ok (.iconst 0, 1) := by decide +kernel
theorem dL_isBox_624 : decode cL_isBox 624 = .ok (.istore 13, 2) := by decide +kernel
theorem dL_isBox_626 : decode cL_isBox 626 = .ok (.aload_n 0, 1) := by decide +kernel
theorem dL_isBox_627 : decode cL_isBox 627 = .ok (.iload 7, 2) := by decide +kernel
theorem dL_isBox_629 : decode cL_isBox 629 = .ok (.iload 11, 2) := by decide +kernel
theorem dL_isBox_631 : decode cL_isBox 631 = .ok (.invokevirtual 75, 3) := by decide +kernel
theorem dL_isBox_634 : decode cL_isBox 634 = .ok (.iload 12, 2) := by decide +kernel
theorem dL_isBox_636 : decode cL_isBox 636 = .ok (.ifCond .eq 8, 3) := by decide +kernel
theorem dL_isBox_639 : decode cL_isBox 639 = .ok (.iload 9, 2) := by decide +kernel
theorem dL_isBox_641 : decode cL_isBox 641 = .ok (.goto 4, 3) := by decide +kernel
theorem dL_isBox_644 : decode cL_isBox 644 = .ok (.iconst (-1), 1) := by decide +kernel
theorem dL_isBox_645 : decode cL_isBox 645 = .ok (.if_icmp .ne 71, 3) := by decide +kernel
theorem dL_isBox_648 : decode cL_isBox 648 = .ok (.iload 12, 2) := by decide +kernel
theorem dL_isBox_650 : decode cL_isBox 650 = .ok (.ifCond .eq 62, 3) := by decide +kernel
theorem dL_isBox_653 : decode cL_isBox 653 = .ok (.aload_n 0, 1) := by decide +kernel
theorem dL_isBox_654 : decode cL_isBox 654 = .ok (.iload 11, 2) := by decide +kernel
theorem dL_isBox_656 : decode cL_isBox 656 = .ok (.iconst 2, 1) := by decide +kernel
theorem dL_isBox_657 : decode cL_isBox 657 = .ok (.invokevirtual 18, 3) := by decide +kernel
theorem dL_isBox_660 : decode cL_isBox 660 = .ok (.iload 9, 2) := by decide +kernel
theorem dL_isBox_662 : decode cL_isBox 662 = .ok (.if_icmp .ne 54, 3) := by decide +kernel
theorem dL_isBox_665 : decode cL_isBox 665 = .ok (.aload_n 0, 1) := by decide +kernel
theorem dL_isBox_666 : decode cL_isBox 666 = .ok (.iload 11, 2) := by decide +kernel
theorem dL_isBox_668 : decode cL_isBox 668 = .ok (.iconst 3, 1) := by decide +kernel
theorem dL_isBox_669 : decode cL_isBox 669 = .ok (.invokevirtual 18, 3) := by decide +kernel
theorem dL_isBox_672 : decode cL_isBox 672 = .ok (.iload 10, 2) := by decide +kernel
theorem dL_isBox_674 : decode cL_isBox 674 = .ok (.if_icmp .ne 42, 3) := by decide +kernel
theorem dL_isBox_677 : decode cL_isBox 677 = .ok (.iload 7, 2) := by decide +kernel
theorem dL_isBox_679 : decode cL_isBox 679 = .ok (.iload 11, 2) := by decide +kernel
theorem dL_isBox_681 : decode cL_isBox 681 = .ok (.if_icmp .eq 31, 3) := by decide +kernel
theorem dL_isBox_684 : decode cL_isBox 684 = .ok (.aload_n 0, 1) := by decide +kernel
theorem dL_isBox_685 : decode cL_isBox 685 = .ok (.iload 7, 2) := by decide +kernel
theorem dL_isBox_687 : decode cL_isBox 687 = .ok (.iload 11, 2) := by decide +kernel
theorem dL_isBox_689 : decode cL_isBox 689 = .ok (.if_icmp .ge 10, 3) := by decide +kernel
theorem dL_isBox_692 : decode cL_isBox 692 = .ok (.iload 11, 2) := by decide +kernel
theorem dL_isBox_694 : decode cL_isBox 694 = .ok (.iconst 1, 1) := by decide +kernel
theorem dL_isBox_695 : decode cL_isBox 695 = .ok (.isub, 1) := by decide +kernel
theorem dL_isBox_696 : decode cL_isBox 696 = .ok (.goto 7, 3) := by decide +kernel
theorem dL_isBox_699 : decode cL_isBox 699 = .ok (.iload 11, 2) := by decide +kernel
theorem dL_isBox_701 : decode cL_isBox 701 = .ok (.iconst 1, 1) := by decide +kernel
theorem dL_isBox_702 : decode cL_isBox 702 = .ok (.iadd, 1) := by decide +kernel
theorem dL_isBox_703 : decode cL_isBox 703 = .ok (.iconst 2, 1) := by decide +kernel
theorem dL_isBox_704 : decode cL_isBox 704 = .ok (.invokevirtual 18, 3) := by decide +kernel
theorem dL_isBox_707 : decode cL_isBox 707 = .ok (.iload 13, 2) := by decide +kernel
theorem dL_isBox_709 : decode cL_isBox 709 = .ok (.if_icmp .ne 7, 3) := by decide +kernel
theorem dL_isBox_712 : decode cL_isBox 712 = .ok (.iconst 1, 1) := by decide +kernel
theorem dL_isBox_713 : decode cL_isBox 713 = .ok (.goto 4, 3) := by decide +kernel
theorem dL_isBox_716 : decode cL_isBox 716 = .ok (.iconst 0, 1) := by decide +kernel
theorem dL_isBox_717 : decode cL_isBox 717 = .ok (.ireturn, 1) := by decide +kernel
set_option maxRecDepth 20000 in
theorem ggL_law_X9_init : GoodIn wsL_law wsX9_init := goodIn_r _ [7, 8, 9, 10, 11, 12, 13, 14, 15, 16, 17, 18, 19, 20, 21, 22, 23, 24, 25, 26, 27, 28, 29, 30, 31, 32, 33, 34, 35, 36, 37, 38, 39, 40, 41, 42, 43, 44, 45, 46, 47, 48, 49, 50, 51, 52, 53, 54, 55, 56, 57, 58, 59, 60, 61, 62, 63, 64, 65, 66, 67, 68, 69, 70, 71, 72, 73, 74, 75, 76, 77, 78, 79, 80, 81, 82, 83, 84, 85, 86, 87, 88, 89, 90, 91, 92, 93, 94, 431, 432, 433, 434, 435, 436, 437, 438, 439, 440, 425, 426, 427, 428, 429, 430, 441, 442, 443, 444, 445, 446, 447, 448, 449, 450, 451, 452, 453, 454, 455, 456, 457, 458, 459, 460, 461, 462, 463, 464, 465, 466, 467, 468, 469, 470] (by decide +kernel) (by decide +kernel)
set_option maxRecDepth 20000 in
theorem gL_law_X9_init : GoodIn wsL_law (wsX9_init) := ggL_law_X9_init
set_option maxRecDepth 20000 in
theorem ggL_law_L_cell : GoodIn wsL_law wsL_cell := goodIn_r _ [98, 99] (by decide +kernel) (by decide +kernel)
set_option maxRecDepth 20000 in
theorem gL_law_L_cell : GoodIn wsL_law (va_wsS RL 51 yL_cell wsL_cell) := goodIn_app (goodIn_of _ (by decide +kernel)) ggL_law_L_cell
set_option maxRecDepth 20000 in
theorem ggL_law_X9_set : GoodIn wsL_law wsX9_set := goodIn_r _ [103, 14, 104, 105, 106, 107, 34, 108, 109, 2, 110, 111, 112, 113, 114, 57, 115, 116, 117, 118, 119, 425, 426, 427, 428, 429, 430, 431, 432, 433, 434, 435, 436, 437, 438, 439, 440, 452] (by decide +kernel) (by decide +kernel)
set_option maxRecDepth 20000 in
theorem gL_law_X9_set : GoodIn wsL_law (wsV RL 79 RX9 yX9_set wsX9_set) := goodIn_app (goodIn_of _ (by decide +kernel)) ggL_law_X9_set
set_option maxRecDepth 20000 in
theorem ggL_law_X9_leg : GoodIn wsL_law wsX9_leg := goodIn_r _ [123, 14, 124, 125, 126, 109, 2, 110, 127, 128, 129, 46, 130, 131, 78, 79, 425, 426, 427, 428, 429, 430, 431, 432, 433, 434, 435, 436, 437, 438, 439, 440, 462, 463, 464, 465, 466] (by decide +kernel) (by decide +kernel)
set_option maxRecDepth 20000 in
theorem gL_law_X9_leg : GoodIn wsL_law (wsV RL 82 RX9 yX9_leg wsX9_leg) := goodIn_app (goodIn_of _ (by decide +kernel)) ggL_law_X9_leg
set_option maxRecDepth 20000 in
theorem ggL_law_X9_open : GoodIn wsL_law wsX9_open := goodIn_r _ [135, 14, 124, 136, 137, 138, 139, 140, 46, 141, 142, 143, 144, 145, 13, 146, 35, 147, 148, 149, 150, 43, 151, 152, 153, 42, 154, 155, 156, 157, 116, 117, 34, 118, 57, 109, 2, 110, 158, 159, 160, 161, 162, 163, 164, 165, 166, 425, 426, 427, 428, 429, 430, 431, 432, 433, 434, 435, 436, 437, 438, 439, 440, 455, 456, 457, 458, 459, 460, 461, 462, 463, 464, 465, 466, 452] (by decide +kernel) (by decide +kernel)
set_option maxRecDepth 20000 in
theorem gL_law_X9_open : GoodIn wsL_law (wsV RL 44 RX9 yX9_open wsX9_open) := goodIn_app (goodIn_of _ (by decide +kernel)) ggL_law_X9_open
set_option maxRecDepth 20000 in
theorem ggL_law_X9_load : GoodIn wsL_law wsX9_load := goodIn_r _ [170, 171, 172, 14, 173, 174, 136, 137, 175, 126, 109, 2, 110, 176, 177, 178, 38, 179, 180, 63, 181, 182, 183, 184, 425, 426, 427, 428, 429, 430, 431, 432, 433, 434, 435, 436, 437, 438, 439, 440, 453, 454, 455, 456, 457, 458, 459, 460, 461, 467, 468, 469, 470] (by decide +kernel) (by decide +kernel)
set_option maxRecDepth 20000 in
theorem gL_law_X9_load : GoodIn wsL_law (wsV RL 56 RX9 yX9_load wsX9_load) := goodIn_app (goodIn_of _ (by decide +kernel)) ggL_law_X9_load
set_option maxRecDepth 20000 in
theorem ggL_law_L_isSold : GoodIn wsL_law wsL_isSold := goodIn_r _ [187, 77, 188, 189, 190, 2, 191, 192, 14, 104, 193, 136, 194, 124, 195, 196, 197, 198, 137, 199, 200, 201, 202, 173, 174, 125, 24, 203, 126, 109, 110, 204, 116, 117, 34, 118, 57, 205, 206, 207, 46, 208, 80, 79, 209, 210, 211, 212, 131, 166, 148, 149, 13, 150, 43, 35, 151, 152, 153, 42, 154, 155, 156, 157, 158, 159, 213, 214, 215, 216, 175, 217, 218, 219, 220, 221, 222, 223, 224, 38, 225, 180, 63, 183, 226, 227, 228, 229, 230, 231, 232, 233, 234, 235, 236, 237, 238, 239, 240, 65, 241, 242, 243, 244, 245, 246, 247, 248, 249, 250, 251, 252, 253, 254, 255, 256, 257, 258, 259, 260, 261, 262, 263, 264, 265, 266, 267, 268, 269, 270, 271, 425, 426, 427, 428, 429, 430, 431, 432, 433, 434, 435, 436, 437, 438, 439, 440, 455, 456, 457, 458, 459, 460, 461, 462, 463, 464, 465, 466, 453, 454, 443, 444, 452, 467, 468, 469, 470] (by decide +kernel) (by decide +kernel)
set_option maxRecDepth 20000 in
theorem gL_law_L_isSold : GoodIn wsL_law (va_wsS RL 87 yL_isSold wsL_isSold) := goodIn_app (goodIn_of _ (by decide +kernel)) ggL_law_L_isSold
set_option maxRecDepth 20000 in
theorem ggL_law_L_isDoor : GoodIn wsL_law wsL_isDoor := goodIn_r _ [274, 188, 189, 190, 2, 191, 192, 14, 104, 193, 136, 194, 124, 195, 196, 197, 198, 137, 199, 200, 201, 202, 173, 174, 125, 24, 203, 126, 109, 110, 204, 116, 117, 34, 118, 57, 205, 206, 207, 46, 208, 80, 79, 209, 210, 211, 212, 131, 166, 148, 149, 13, 150, 43, 35, 151, 152, 153, 42, 154, 155, 156, 157, 158, 159, 132, 133, 134, 135, 138, 139, 140, 141, 142, 143, 144, 145, 146, 147, 160, 161, 162, 163, 164, 165, 275, 276, 277, 278, 425, 426, 427, 428, 429, 430, 431, 432, 433, 434, 435, 436, 437, 438, 439, 440, 455, 456, 457, 458, 459, 460, 461, 462, 463, 464, 465, 466, 453, 454, 443, 444, 452] (by decide +kernel) (by decide +kernel)
set_option maxRecDepth 20000 in
theorem gL_law_L_isDoor : GoodIn wsL_law (va_wsS RL 91 yL_isDoor wsL_isDoor) := goodIn_app (goodIn_of _ (by decide +kernel)) ggL_law_L_isDoor
set_option maxRecDepth 20000 in
theorem ggL_law_L_isBox : GoodIn wsL_law wsL_isBox := fun w h => (List.mem_cons.mp h).elim (fun e => (goodIn_p [.code yL_isBox cL_isBox 15 (some .boolean)] [281] (by rfl) (by decide +kernel)) w (List.mem_cons.mpr (Or.inl e))) (fun h => (goodIn_r wsL_isBox.tail [282, 283, 284, 285, 188, 189, 190, 2, 191, 192, 14, 104, 193, 136, 194, 124, 195, 196, 197, 198, 137, 199, 200, 201, 202, 173, 174, 125, 24, 203, 126, 109, 110, 204, 116, 117, 34, 118, 57, 205, 206, 207, 46, 208, 80, 79, 209, 210, 211, 212, 131, 166, 148, 149, 13, 150, 43, 35, 151, 152, 153, 42, 154, 155, 156, 157, 158, 159, 95, 96, 97, 98, 99, 226, 227, 228, 229, 230, 231, 232, 233, 234, 235, 236, 38, 237, 180, 63, 238, 239, 240, 65, 241, 242, 243, 244, 245, 246, 247, 248, 249, 250, 251, 213, 214, 215, 216, 175, 217, 218, 219, 220, 221, 222, 223, 224, 225, 183, 167, 168, 169, 170, 171, 172, 176, 177, 178, 179, 181, 182, 184, 286, 287, 288, 289, 290, 291, 292, 293, 294, 295, 296, 297, 298, 299, 300, 301, 302, 303, 304, 305, 138, 139, 140, 141, 142, 306, 307, 308, 309, 310, 311, 312, 313, 314, 315, 316, 425, 426, 427, 428, 429, 430, 431, 432, 433, 434, 435, 436, 437, 438, 439, 440, 455, 456, 457, 458, 459, 460, 461, 462, 463, 464, 465, 466, 453, 454, 443, 444, 452, 467, 468, 469, 470] (by decide +kernel) (by decide +kernel)) w h)
set_option maxRecDepth 20000 in
theorem gL_law_L_isBox : GoodIn wsL_law (va_wsS RL 95 yL_isBox wsL_isBox) := goodIn_app (goodIn_of _ (by decide +kernel)) ggL_law_L_isBox
set_option maxRecDepth 20000 in
theorem ggL_law_X9_van : GoodIn wsL_law wsX9_van := goodIn_r _ [191, 192, 14, 104, 193, 136, 194, 124, 195, 196, 197, 198, 137, 199, 200, 201, 202, 173, 174, 125, 24, 203, 126, 109, 2, 110, 204, 116, 117, 34, 118, 57, 205, 206, 207, 46, 208, 80, 79, 209, 210, 211, 212, 131, 166, 148, 149, 13, 150, 43, 35, 151, 152, 153, 42, 154, 155, 156, 157, 158, 159, 425, 426, 427, 428, 429, 430, 431, 432, 433, 434, 435, 436, 437, 438, 439, 440, 455, 456, 457, 458, 459, 460, 461, 462, 463, 464, 465, 466, 453, 454, 443, 444, 452] (by decide +kernel) (by decide +kernel)
set_option maxRecDepth 20000 in
theorem gL_law_X9_van : GoodIn wsL_law (wsV RL 8 RX9 yX9_van wsX9_van) := goodIn_app (goodIn_of _ (by decide +kernel)) ggL_law_X9_van
set_option maxRecDepth 20000 in
theorem ggL_law_X9_depart : GoodIn wsL_law wsX9_depart := goodIn_r _ [320, 14, 124, 136, 137, 199, 138, 139, 140, 46, 141, 142, 321, 322, 323, 324, 80, 209, 210, 211, 212, 131, 109, 2, 110, 325, 326, 327, 328, 78, 329, 425, 426, 427, 428, 429, 430, 431, 432, 433, 434, 435, 436, 437, 438, 439, 440, 455, 456, 457, 458, 459, 460, 461, 462, 463, 464, 465, 466] (by decide +kernel) (by decide +kernel)
set_option maxRecDepth 20000 in
theorem gL_law_X9_depart : GoodIn wsL_law (wsV RL 99 RX9 yX9_depart wsX9_depart) := goodIn_app (goodIn_of _ (by decide +kernel)) ggL_law_X9_depart
set_option maxRecDepth 20000 in
theorem ggL_law_X9_way : GoodIn wsL_law wsX9_way := goodIn_r _ [333, 14, 124, 310, 192, 334, 210, 211, 46, 212, 131, 109, 2, 110, 335, 336, 337, 338, 78, 209, 339, 340, 341, 342, 79, 425, 426, 427, 428, 429, 430, 431, 432, 433, 434, 435, 436, 437, 438, 439, 440, 462, 463, 464, 465, 466] (by decide +kernel) (by decide +kernel)
set_option maxRecDepth 20000 in
theorem gL_law_X9_way : GoodIn wsL_law (wsV RL 102 RX9 yX9_way wsX9_way) := goodIn_app (goodIn_of _ (by decide +kernel)) ggL_law_X9_way
set_option maxRecDepth 20000 in
theorem ggL_law_X9_vent : GoodIn wsL_law wsX9_vent := goodIn_r _ [346, 14, 136, 196, 126, 109, 2, 110, 347, 348, 349, 42, 350, 73, 351, 352, 353, 354, 355, 162, 163, 164, 165, 356, 357, 358, 359, 360, 425, 426, 427, 428, 429, 430, 431, 432, 433, 434, 435, 436, 437, 438, 439, 440, 455, 456, 457, 458, 459, 460, 461] (by decide +kernel) (by decide +kernel)
set_option maxRecDepth 20000 in
theorem gL_law_X9_vent : GoodIn wsL_law (wsV RL 105 RX9 yX9_vent wsX9_vent) := goodIn_app (goodIn_of _ (by decide +kernel)) ggL_law_X9_vent
set_option maxRecDepth 20000 in
theorem ggL_law_L_isMinute : GoodIn wsL_law wsL_isMinute := fun w h => (List.mem_cons.mp h).elim (fun e => (goodIn_p [.code yL_isMinute cL_isMinute 27 (some .boolean)] [363] (by rfl) (by decide +kernel)) w (List.mem_cons.mpr (Or.inl e))) (fun h => (goodIn_r wsL_isMinute.tail [77, 364, 365, 366, 188, 189, 190, 2, 191, 192, 14, 104, 193, 136, 194, 124, 195, 196, 197, 198, 137, 199, 200, 201, 202, 173, 174, 125, 24, 203, 126, 109, 110, 204, 116, 117, 34, 118, 57, 205, 206, 207, 46, 208, 80, 79, 209, 210, 211, 212, 131, 166, 148, 149, 13, 150, 43, 35, 151, 152, 153, 42, 154, 155, 156, 157, 158, 159, 367, 368, 97, 369, 370, 371, 226, 227, 228, 229, 230, 231, 232, 233, 234, 235, 236, 38, 237, 180, 63, 238, 239, 240, 65, 241, 242, 243, 244, 245, 246, 247, 248, 249, 250, 251, 213, 214, 215, 216, 175, 217, 218, 219, 220, 221, 222, 223, 224, 225, 183, 372, 373, 374, 375, 376, 377, 262, 263, 378, 379, 380, 381, 382, 383, 384, 385, 39, 386, 387, 47, 388, 160, 389, 390, 391, 392, 393, 264, 265, 266, 267, 268, 269, 270, 271, 394, 395, 396, 397, 398, 399, 400, 401, 402, 403, 404, 72, 165, 405, 406, 407, 408, 409, 410, 411, 412, 413, 414, 415, 416, 73, 360, 351, 352, 353, 354, 355, 162, 163, 164, 356, 357, 358, 359, 417, 418, 419, 420, 142, 421, 139, 140, 141, 425, 426, 427, 428, 429, 430, 431, 432, 433, 434, 435, 436, 437, 438, 439, 440, 455, 456, 457, 458, 459, 460, 461, 462, 463, 464, 465, 466, 453, 454, 443, 444, 452, 467, 468, 469, 470] (by decide +kernel) (by decide +kernel)) w h)
set_option maxRecDepth 20000 in
theorem gL_law_L_isMinute : GoodIn wsL_law (va_wsS RL 108 yL_isMinute wsL_isMinute) := goodIn_app (goodIn_of _ (by decide +kernel)) ggL_law_L_isMinute
set_option maxRecDepth 20000 in
theorem ggL_law_L_addsUp : GoodIn wsL_law wsL_addsUp := goodIn_r _ [424, 188, 189, 190, 2, 191, 192, 14, 104, 193, 136, 194, 124, 195, 196, 197, 198, 137, 199, 200, 201, 202, 173, 174, 125, 24, 203, 126, 109, 110, 204, 116, 117, 34, 118, 57, 205, 206, 207, 46, 208, 80, 79, 209, 210, 211, 212, 131, 166, 148, 149, 13, 150, 43, 35, 151, 152, 153, 42, 154, 155, 156, 157, 158, 159, 226, 227, 228, 229, 230, 231, 232, 233, 234, 235, 236, 38, 237, 180, 63, 238, 239, 240, 65, 241, 242, 243, 244, 245, 246, 247, 248, 249, 250, 251, 213, 214, 215, 216, 175, 217, 218, 219, 220, 221, 222, 223, 224, 225, 183, 425, 426, 427, 428, 429, 430, 431, 432, 433, 434, 435, 436, 437, 438, 439, 440, 455, 456, 457, 458, 459, 460, 461, 462, 463, 464, 465, 466, 453, 454, 443, 444, 452, 467, 468, 469, 470] (by decide +kernel) (by decide +kernel)
set_option maxRecDepth 20000 in
theorem gL_law_L_addsUp : GoodIn wsL_law (va_wsS RL 111 yL_addsUp wsL_addsUp) := goodIn_app (goodIn_of _ (by decide +kernel)) ggL_law_L_addsUp
theorem dL_law_0 : decode cL_law 0 = .ok (.new 9, 3) := by decide +kernel
theorem dL_law_3 : decode cL_law 3 = .ok (.dup, 1) := by decide +kernel
theorem dL_law_4 : decode cL_law 4 = .ok (.invokespecial 78, 3) := by decide +kernel
theorem dL_law_7 : decode cL_law 7 = .ok (.astore_n 1, 1) := by decide +kernel
theorem dL_law_8 : decode cL_law 8 = .ok (.aload_n 1, 1) := by decide +kernel
theorem dL_law_9 : decode cL_law 9 = .ok (.iconst 0, 1) := by decide +kernel
theorem dL_law_10 : decode cL_law 10 = .ok (.aload_n 0, 1) := by decide +kernel
theorem dL_law_11 : decode cL_law 11 = .ok (.iconst 0, 1) := by decide +kernel
theorem dL_law_12 : decode cL_law 12 = .ok (.sipush 1001, 3) := by decide +kernel
theorem dL_law_15 : decode cL_law 15 = .ok (.invokestatic 51, 3) := by decide +kernel
theorem dL_law_18 : decode cL_law 18 = .ok (.invokevirtual 79, 3) := by decide +kernel
theorem dL_law_21 : decode cL_law 21 = .ok (.pop, 1) := by decide +kernel
theorem dL_law_22 : decode cL_law 22 = .ok (.aload_n 1, 1) := by decide +kernel
theorem dL_law_23 : decode cL_law 23 = .ok (.iconst 1, 1) := by decide +kernel
theorem dL_law_24 : decode cL_law 24 = .ok (.iconst 1, 1) := by decide +kernel
theorem dL_law_25 : decode cL_law 25 = .ok (.aload_n 0, 1) := by decide +kernel
theorem dL_law_26 : decode cL_law 26 = .ok (.iconst 1, 1) := by decide +kernel
theorem dL_law_27 : decode cL_law 27 = .ok (.bipush 100, 2) := by decide +kernel
theorem dL_law_29 : decode cL_law 29 = .ok (.invokestatic 51, 3) := by decide +kernel
theorem dL_law_32 : decode cL_law 32 = .ok (.iadd, 1) := by decide +kernel
theorem dL_law_33 : decode cL_law 33 = .ok (.invokevirtual 79, 3) := by decide +kernel
theorem dL_law_36 : decode cL_law 36 = .ok (.pop, 1) := by decide +kernel
theorem dL_law_37 : decode cL_law 37 = .ok (.aload_n 1, 1) := by decide +kernel
theorem dL_law_38 : decode cL_law 38 = .ok (.iconst 2, 1) := by decide +kernel
theorem dL_law_39 : decode cL_law 39 = .ok (.aload_n 0, 1) := by decide +kernel
theorem dL_law_40 : decode cL_law 40 = .ok (.iconst 2, 1) := by decide +kernel
theorem dL_law_41 : decode cL_law 41 = .ok (.sipush 501, 3) := by decide +kernel
theorem dL_law_44 : decode cL_law 44 = .ok (.invokestatic 51, 3) := by decide +kernel
theorem dL_law_47 : decode cL_law 47 = .ok (.invokevirtual 79, 3) := by decide +kernel
theorem dL_law_50 : decode cL_law 50 = .ok (.pop, 1) := by decide +kernel
theorem dL_law_51 : decode cL_law 51 = .ok (.aload_n 1, 1) := by decide +kernel
theorem dL_law_52 : decode cL_law 52 = .ok (.iconst 3, 1) := by decide +kernel
theorem dL_law_53 : decode cL_law 53 = .ok (.aload_n 0, 1) := by decide +kernel
theorem dL_law_54 : decode cL_law 54 = .ok (.iconst 3, 1) := by decide +kernel
theorem dL_law_55 : decode cL_law 55 = .ok (.bipush 101, 2) := by decide +kernel
theorem dL_law_57 : decode cL_law 57 = .ok (.invokestatic 51, 3) := by decide +kernel
theorem dL_law_60 : decode cL_law 60 = .ok (.invokevirtual 79, 3) := by decide +kernel
theorem dL_law_63 : decode cL_law 63 = .ok (.pop, 1) := by decide +kernel
theorem dL_law_64 : decode cL_law 64 = .ok (.aload_n 1, 1) := by decide +kernel
theorem dL_law_65 : decode cL_law 65 = .ok (.iconst 5, 1) := by decide +kernel
theorem dL_law_66 : decode cL_law 66 = .ok (.iconst 1, 1) := by decide +kernel
theorem dL_law_67 : decode cL_law 67 = .ok (.aload_n 0, 1) := by decide +kernel
theorem dL_law_68 : decode cL_law 68 = .ok (.iconst 4, 1) := by decide +kernel
theorem dL_law_69 : decode cL_law 69 = .ok (.sipush 9000, 3) := by decide +kernel
theorem dL_law_72 : decode cL_law 72 = .ok (.invokestatic 51, 3) := by decide +kernel
theorem dL_law_75 : decode cL_law 75 = .ok (.iadd, 1) := by decide +kernel
theorem dL_law_76 : decode cL_law 76 = .ok (.invokevirtual 79, 3) := by decide +kernel
theorem dL_law_79 : decode cL_law 79 = .ok (.pop, 1) := by decide +kernel
theorem dL_law_80 : decode cL_law 80 = .ok (.aload_n 1, 1) := by decide +kernel
theorem dL_law_81 : decode cL_law 81 = .ok (.bipush 6, 2) := by decide +kernel
theorem dL_law_83 : decode cL_law 83 = .ok (.aload_n 0, 1) := by decide +kernel
theorem dL_law_84 : decode cL_law 84 = .ok (.iconst 5, 1) := by decide +kernel
theorem dL_law_85 : decode cL_law 85 = .ok (.sipush 4000, 3) := by decide +kernel
theorem dL_law_88 : decode cL_law 88 = .ok (.invokestatic 51, 3) := by decide +kernel
theorem dL_law_91 : decode cL_law 91 = .ok (.invokevirtual 79, 3) := by decide +kernel
theorem dL_law_94 : decode cL_law 94 = .ok (.pop, 1) := by decide +kernel
theorem dL_law_95 : decode cL_law 95 = .ok (.aload_n 1, 1) := by decide +kernel
theorem dL_law_96 : decode cL_law 96 = .ok (.bipush 7, 2) := by decide +kernel
theorem dL_law_98 : decode cL_law 98 = .ok (.aload_n 0, 1) := by decide +kernel
theorem dL_law_99 : decode cL_law 99 = .ok (.bipush 6, 2) := by decide +kernel
theorem dL_law_101 : decode cL_law 101 = .ok (.bipush 6, 2) := by decide +kernel
theorem dL_law_103 : decode cL_law 103 = .ok (.invokestatic 51, 3) := by decide +kernel
theorem dL_law_106 : decode cL_law 106 = .ok (.invokevirtual 79, 3) := by decide +kernel
theorem dL_law_109 : decode cL_law 109 = .ok (.pop, 1) := by decide +kernel
theorem dL_law_110 : decode cL_law 110 = .ok (.aload_n 1, 1) := by decide +kernel
theorem dL_law_111 : decode cL_law 111 = .ok (.bipush 8, 2) := by decide +kernel
theorem dL_law_113 : decode cL_law 113 = .ok (.iconst 1, 1) := by decide +kernel
theorem dL_law_114 : decode cL_law 114 = .ok (.aload_n 0, 1) := by decide +kernel
theorem dL_law_115 : decode cL_law 115 = .ok (.bipush 7, 2) := by decide +kernel
theorem dL_law_117 : decode cL_law 117 = .ok (.sipush 9000, 3) := by decide +kernel
theorem dL_law_120 : decode cL_law 120 = .ok (.invokestatic 51, 3) := by decide +kernel
theorem dL_law_123 : decode cL_law 123 = .ok (.iadd, 1) := by decide +kernel
theorem dL_law_124 : decode cL_law 124 = .ok (.invokevirtual 79, 3) := by decide +kernel
theorem dL_law_127 : decode cL_law 127 = .ok (.pop, 1) := by decide +kernel
theorem dL_law_128 : decode cL_law 128 = .ok (.aload_n 1, 1) := by decide +kernel
theorem dL_law_129 : decode cL_law 129 = .ok (.bipush 9, 2) := by decide +kernel
theorem dL_law_131 : decode cL_law 131 = .ok (.iconst 1, 1) := by decide +kernel
theorem dL_law_132 : decode cL_law 132 = .ok (.aload_n 0, 1) := by decide +kernel
theorem dL_law_133 : decode cL_law 133 = .ok (.bipush 8, 2) := by decide +kernel
theorem dL_law_135 : decode cL_law 135 = .ok (.bipush 40, 2) := by decide +kernel
theorem dL_law_137 : decode cL_law 137 = .ok (.invokestatic 51, 3) := by decide +kernel
theorem dL_law_140 : decode cL_law 140 = .ok (.iadd, 1) := by decide +kernel
theorem dL_law_141 : decode cL_law 141 = .ok (.invokevirtual 79, 3) := by decide +kernel
theorem dL_law_144 : decode cL_law 144 = .ok (.pop, 1) := by decide +kernel
theorem dL_law_145 : decode cL_law 145 = .ok (.aload_n 1, 1) := by decide +kernel
theorem dL_law_146 : decode cL_law 146 = .ok (.bipush 10, 2) := by decide +kernel
theorem dL_law_148 : decode cL_law 148 = .ok (.iconst 1, 1) := by decide +kernel
theorem dL_law_149 : decode cL_law 149 = .ok (.aload_n 0, 1) := by decide +kernel
theorem dL_law_150 : decode cL_law 150 = .ok (.bipush 9, 2) := by decide +kernel
theorem dL_law_152 : decode cL_law 152 = .ok (.sipush 9000, 3) := by decide +kernel
theorem dL_law_155 : decode cL_law 155 = .ok (.invokestatic 51, 3) := by decide +kernel
theorem dL_law_158 : decode cL_law 158 = .ok (.iadd, 1) := by decide +kernel
theorem dL_law_159 : decode cL_law 159 = .ok (.invokevirtual 79, 3) := by decide +kernel
theorem dL_law_162 : decode cL_law 162 = .ok (.pop, 1) := by decide +kernel
theorem dL_law_163 : decode cL_law 163 = .ok (.aload_n 0, 1) := by decide +kernel
theorem dL_law_164 : decode cL_law 164 = .ok (.bipush 10, 2) := by decide +kernel
theorem dL_law_166 : decode cL_law 166 = .ok (.iconst 5, 1) := by decide +kernel
theorem dL_law_167 : decode cL_law 167 = .ok (.invokestatic 51, 3) := by decide +kernel
theorem dL_law_170 : decode cL_law 170 = .ok (.istore_n 2, 1) := by decide +kernel
theorem dL_law_171 : decode cL_law 171 = .ok (.iconst 0, 1) := by decide +kernel
theorem dL_law_172 : decode cL_law 172 = .ok (.istore_n 3, 1) := by decide +kernel
theorem dL_law_173 : decode cL_law 173 = .ok (.iload_n 3, 1) := by decide +kernel
theorem dL_law_174 : decode cL_law 174 = .ok (.iload_n 2, 1) := by decide +kernel
theorem dL_law_175 : decode cL_law 175 = .ok (.if_icmp .ge 46, 3) := by decide +kernel
theorem dL_law_178 : decode cL_law 178 = .ok (.aload_n 1, 1) := by decide +kernel
theorem dL_law_179 : decode cL_law 179 = .ok (.iconst 1, 1) := by decide +kernel
theorem dL_law_180 : decode cL_law 180 = .ok (.aload_n 0, 1) := by decide +kernel
theorem dL_law_181 : decode cL_law 181 = .ok (.bipush 11, 2) := by decide +kernel
theorem dL_law_183 : decode cL_law 183 = .ok (.iload_n 3, 1) := by decide +kernel
theorem dL_law_184 : decode cL_law 184 = .ok (.iadd, 1) := by decide +kernel
theorem dL_law_185 : decode cL_law 185 = .ok (.bipush 9, 2) := by decide +kernel
theorem dL_law_187 : decode cL_law 187 = .ok (.invokestatic 51, 3) := by decide +kernel
theorem dL_law_190 : decode cL_law 190 = .ok (.iadd, 1) := by decide +kernel
theorem dL_law_191 : decode cL_law 191 = .ok (.aload_n 0, 1) := by decide +kernel
theorem dL_law_192 : decode cL_law 192 = .ok (.bipush 16, 2) := by decide +kernel
theorem dL_law_194 : decode cL_law 194 = .ok (.iload_n 3, 1) := by decide +kernel
theorem dL_law_195 : decode cL_law 195 = .ok (.iadd, 1) := by decide +kernel
theorem dL_law_196 : decode cL_law 196 = .ok (.sipush 9001, 3) := by decide +kernel
theorem dL_law_199 : decode cL_law 199 = .ok (.invokestatic 51, 3) := by decide +kernel
theorem dL_law_202 : decode cL_law 202 = .ok (.sipush 4000, 3) := by decide +kernel
theorem dL_law_205 : decode cL_law 205 = .ok (.isub, 1) := by decide +kernel
theorem dL_law_206 : decode cL_law 206 = .ok (.invokevirtual 82, 3) := by decide +kernel
theorem dL_law_209 : decode cL_law 209 = .ok (.iload_n 3, 1) := by decide +kernel
theorem dL_law_210 : decode cL_law 210 = .ok (.if_icmp .eq 5, 3) := by decide +kernel
theorem dL_law_213 : decode cL_law 213 = .ok (.iconst 0, 1) := by decide +kernel
theorem dL_law_214 : decode cL_law 214 = .ok (.ireturn, 1) := by decide +kernel
theorem dL_law_215 : decode cL_law 215 = .ok (.iinc 3 1, 3) := by decide +kernel
theorem dL_law_218 : decode cL_law 218 = .ok (.goto (-45), 3) := by decide +kernel
theorem dL_law_221 : decode cL_law 221 = .ok (.aload_n 1, 1) := by decide +kernel
theorem dL_law_222 : decode cL_law 222 = .ok (.invokevirtual 44, 3) := by decide +kernel
theorem dL_law_225 : decode cL_law 225 = .ok (.ifCond .eq 5, 3) := by decide +kernel
theorem dL_law_228 : decode cL_law 228 = .ok (.iconst 0, 1) := by decide +kernel
theorem dL_law_229 : decode cL_law 229 = .ok (.ireturn, 1) := by decide +kernel
theorem dL_law_230 : decode cL_law 230 = .ok (.aload_n 0, 1) := by decide +kernel
theorem dL_law_231 : decode cL_law 231 = .ok (.bipush 22, 2) := by decide +kernel
theorem dL_law_233 : decode cL_law 233 = .ok (.bipush 6, 2) := by decide +kernel
theorem dL_law_235 : decode cL_law 235 = .ok (.invokestatic 51, 3) := by decide +kernel
theorem dL_law_238 : decode cL_law 238 = .ok (.istore_n 3, 1) := by decide +kernel
theorem dL_law_239 : decode cL_law 239 = .ok (.iconst 0, 1) := by decide +kernel
theorem dL_law_240 : decode cL_law 240 = .ok (.istore 4, 2) := by decide +kernel
theorem dL_law_242 : decode cL_law 242 = .ok (.iload 4, 2) := by decide +kernel
theorem dL_law_244 : decode cL_law 244 = .ok (.iload_n 3, 1) := by decide +kernel
theorem dL_law_245 : decode cL_law 245 = .ok (.if_icmp .ge 56, 3) := by decide +kernel
theorem dL_law_248 : decode cL_law 248 = .ok (.aload_n 1, 1) := by decide +kernel
theorem dL_law_249 : decode cL_law 249 = .ok (.iconst 1, 1) := by decide +kernel
theorem dL_law_250 : decode cL_law 250 = .ok (.aload_n 0, 1) := by decide +kernel
theorem dL_law_251 : decode cL_law 251 = .ok (.bipush 23, 2) := by decide +kernel
theorem dL_law_253 : decode cL_law 253 = .ok (.iload 4, 2) := by decide +kernel
theorem dL_law_255 : decode cL_law 255 = .ok (.iadd, 1) := by decide +kernel
theorem dL_law_256 : decode cL_law 256 = .ok (.bipush 100, 2) := by decide +kernel
theorem dL_law_258 : decode cL_law 258 = .ok (.invokestatic 51, 3) := by decide +kernel
theorem dL_law_261 : decode cL_law 261 = .ok (.iadd, 1) := by decide +kernel
theorem dL_law_262 : decode cL_law 262 = .ok (.aload_n 0, 1) := by decide +kernel
theorem dL_law_263 : decode cL_law 263 = .ok (.bipush 30, 2) := by decide +kernel
theorem dL_law_265 : decode cL_law 265 = .ok (.iload 4, 2) := by decide +kernel
theorem dL_law_267 : decode cL_law 267 = .ok (.iadd, 1) := by decide +kernel
theorem dL_law_268 : decode cL_law 268 = .ok (.sipush 1000, 3) := by decide +kernel
theorem dL_law_271 : decode cL_law 271 = .ok (.invokestatic 51, 3) := by decide +kernel
theorem dL_law_274 : decode cL_law 274 = .ok (.aload_n 0, 1) := by decide +kernel
theorem dL_law_275 : decode cL_law 275 = .ok (.bipush 37, 2) := by decide +kernel
theorem dL_law_277 : decode cL_law 277 = .ok (.iload 4, 2) := by decide +kernel
theorem dL_law_279 : decode cL_law 279 = .ok (.iadd, 1) := by decide +kernel
theorem dL_law_280 : decode cL_law 280 = .ok (.ldc 85, 2) := by decide +kernel
theorem dL_law_282 : decode cL_law 282 = .ok (.invokestatic 51, 3) := by decide +kernel
theorem dL_law_285 : decode cL_law 285 = .ok (.invokevirtual 56, 3) := by decide +kernel
theorem dL_law_288 : decode cL_law 288 = .ok (.iload 4, 2) := by decide +kernel
theorem dL_law_290 : decode cL_law 290 = .ok (.if_icmp .eq 5, 3) := by decide +kernel
theorem dL_law_293 : decode cL_law 293 = .ok (.iconst 0, 1) := by decide +kernel
theorem dL_law_294 : decode cL_law 294 = .ok (.ireturn, 1) := by decide +kernel
theorem dL_law_295 : decode cL_law 295 = .ok (.iinc 4 1, 3) := by decide +kernel
theorem dL_law_298 : decode cL_law 298 = .ok (.goto (-56), 3) := by decide +kernel
theorem dL_law_301 : decode cL_law 301 = .ok (.iconst 0, 1) := by decide +kernel
theorem dL_law_302 : decode cL_law 302 = .ok (.istore 4, 2) := by decide +kernel
theorem dL_law_304 : decode cL_law 304 = .ok (.iconst 0, 1) := by decide +kernel
theorem dL_law_305 : decode cL_law 305 = .ok (.istore 5, 2) := by decide +kernel
theorem dL_law_307 : decode cL_law 307 = .ok (.iload 5, 2) := by decide +kernel
theorem dL_law_309 : decode cL_law 309 = .ok (.bipush 24, 2) := by decide +kernel
theorem dL_law_311 : decode cL_law 311 = .ok (.if_icmp .ge 370, 3) := by decide +kernel
theorem dL_law_314 : decode cL_law 314 = .ok (.bipush 45, 2) := by decide +kernel
theorem dL_law_316 : decode cL_law 316 = .ok (.bipush 6, 2) := by decide +kernel
theorem dL_law_318 : decode cL_law 318 = .ok (.iload 5, 2) := by decide +kernel
theorem dL_law_320 : decode cL_law 320 = .ok (.imul, 1) := by decide +kernel
theorem dL_law_321 : decode cL_law 321 = .ok (.iadd, 1) := by decide +kernel
theorem dL_law_322 : decode cL_law 322 = .ok (.istore 6, 2) := by decide +kernel
theorem dL_law_324 : decode cL_law 324 = .ok (.aload_n 0, 1) := by decide +kernel
theorem dL_law_325 : decode cL_law 325 = .ok (.iload 6, 2) := by decide +kernel
theorem dL_law_327 : decode cL_law 327 = .ok (.bipush 8, 2) := by decide +kernel
theorem dL_law_329 : decode cL_law 329 = .ok (.invokestatic 51, 3) := by decide +kernel
theorem dL_law_332 : decode cL_law 332 = .ok (.istore 7, 2) := by decide +kernel
theorem dL_law_334 : decode cL_law 334 = .ok (.iload 7, 2) := by decide +kernel
theorem dL_law_336 : decode cL_law 336 = .ok (.ifCond .ne 22, 3) := by decide +kernel
theorem dL_law_339 : decode cL_law 339 = .ok (.aload_n 1, 1) := by decide +kernel
theorem dL_law_340 : decode cL_law 340 = .ok (.iconst 1, 1) := by decide +kernel
theorem dL_law_341 : decode cL_law 341 = .ok (.aload_n 0, 1) := by decide +kernel
theorem dL_law_342 : decode cL_law 342 = .ok (.iload 6, 2) := by decide +kernel
theorem dL_law_344 : decode cL_law 344 = .ok (.iconst 1, 1) := by decide +kernel
theorem dL_law_345 : decode cL_law 345 = .ok (.iadd, 1) := by decide +kernel
theorem dL_law_346 : decode cL_law 346 = .ok (.ldc 86, 2) := by decide +kernel
theorem dL_law_348 : decode cL_law 348 = .ok (.invokestatic 51, 3) := by decide +kernel
theorem dL_law_351 : decode cL_law 351 = .ok (.iadd, 1) := by decide +kernel
theorem dL_law_352 : decode cL_law 352 = .ok (.invokestatic 87, 3) := by decide +kernel
theorem dL_law_355 : decode cL_law 355 = .ok (.ifCond .eq 34, 3) := by decide +kernel
theorem dL_law_358 : decode cL_law 358 = .ok (.iload 7, 2) := by decide +kernel
theorem dL_law_360 : decode cL_law 360 = .ok (.iconst 1, 1) := by decide +kernel
theorem dL_law_361 : decode cL_law 361 = .ok (.if_icmp .ne 10, 3) := by decide +kernel
theorem dL_law_364 : decode cL_law 364 = .ok (.aload_n 1, 1) := by decide +kernel
theorem dL_law_365 : decode cL_law 365 = .ok (.invokestatic 91, 3) := by decide +kernel
theorem dL_law_368 : decode cL_law 368 = .ok (.ifCond .eq 21, 3) := by decide +kernel
theorem dL_law_371 : decode cL_law 371 = .ok (.iload 7, 2) := by decide +kernel
theorem dL_law_373 : decode cL_law 373 = .ok (.iconst 2, 1) := by decide +kernel
theorem dL_law_374 : decode cL_law 374 = .ok (.if_icmp .ne 17, 3) := by decide +kernel
theorem dL_law_377 : decode cL_law 377 = .ok (.aload_n 1, 1) := by decide +kernel
theorem dL_law_378 : decode cL_law 378 = .ok (.aload_n 0, 1) := by decide +kernel
theorem dL_law_379 : decode cL_law 379 = .ok (.iload 6, 2) := by decide +kernel
theorem dL_law_381 : decode cL_law 381 = .ok (.iconst 1, 1) := by decide +kernel
theorem dL_law_382 : decode cL_law 382 = .ok (.iadd, 1) := by decide +kernel
theorem dL_law_383 : decode cL_law 383 = .ok (.invokestatic 95, 3) := by decide +kernel
theorem dL_law_386 : decode cL_law 386 = .ok (.ifCond .ne 5, 3) := by decide +kernel
theorem dL_law_389 : decode cL_law 389 = .ok (.iconst 0, 1) := by decide +kernel
theorem dL_law_390 : decode cL_law 390 = .ok (.ireturn, 1) := by decide +kernel
theorem dL_law_391 : decode cL_law 391 = .ok (.iload 7, 2) := by decide +kernel
theorem dL_law_393 : decode cL_law 393 = .ok (.iconst 3, 1) := by decide +kernel
theorem dL_law_394 : decode cL_law 394 = .ok (.if_icmp .ne 117, 3) := by decide +kernel
theorem dL_law_397 : decode cL_law 397 = .ok (.aload_n 1, 1) := by decide +kernel
theorem dL_law_398 : decode cL_law 398 = .ok (.bipush 10, 2) := by decide +kernel
theorem dL_law_400 : decode cL_law 400 = .ok (.invokevirtual 8, 3) := by decide +kernel
theorem dL_law_403 : decode cL_law 403 = .ok (.ifCond .ne 22, 3) := by decide +kernel
theorem dL_law_406 : decode cL_law 406 = .ok (.aload_n 1, 1) := by decide +kernel
theorem dL_law_407 : decode cL_law 407 = .ok (.bipush 8, 2) := by decide +kernel
theorem dL_law_409 : decode cL_law 409 = .ok (.invokevirtual 8, 3) := by decide +kernel
theorem dL_law_412 : decode cL_law 412 = .ok (.ifCond .ne 13, 3) := by decide +kernel
theorem dL_law_415 : decode cL_law 415 = .ok (.iload 4, 2) := by decide +kernel
theorem dL_law_417 : decode cL_law 417 = .ok (.iload_n 2, 1) := by decide +kernel
theorem dL_law_418 : decode cL_law 418 = .ok (.if_icmp .ge 7, 3) := by decide +kernel
theorem dL_law_421 : decode cL_law 421 = .ok (.iconst 1, 1) := by decide +kernel
theorem dL_law_422 : decode cL_law 422 = .ok (.goto 4, 3) := by decide +kernel
theorem dL_law_425 : decode cL_law 425 = .ok (.iconst 0, 1) := by decide +kernel
theorem dL_law_426 : decode cL_law 426 = .ok (.istore 8, 2) := by decide +kernel
theorem dL_law_428 : decode cL_law 428 = .ok (.aload_n 1, 1) := by decide +kernel
theorem dL_law_429 : decode cL_law 429 = .ok (.invokevirtual 99, 3) := by decide +kernel
theorem dL_law_432 : decode cL_law 432 = .ok (.iload 8, 2) := by decide +kernel
theorem dL_law_434 : decode cL_law 434 = .ok (.ifCond .eq 8, 3) := by decide +kernel
theorem dL_law_437 : decode cL_law 437 = .ok (.iload 4, 2) := by decide +kernel
theorem dL_law_439 : decode cL_law 439 = .ok (.goto 5, 3) := by decide +kernel
theorem dL_law_442 : decode cL_law 442 = .ok (.bipush (-5), 2) := by decide +kernel
theorem dL_law_444 : decode cL_law 444 = .ok (.if_icmp .ne 50, 3) := by decide +kernel
theorem dL_law_447 : decode cL_law 447 = .ok (.iload 8, 2) := by decide +kernel
theorem dL_law_449 : decode cL_law 449 = .ok (.ifCond .eq 47, 3) := by decide +kernel
theorem dL_law_452 : decode cL_law 452 = .ok (.aload_n 1, 1) := by decide +kernel
theorem dL_law_453 : decode cL_law 453 = .ok (.bipush 9, 2) := by decide +kernel
theorem dL_law_455 : decode cL_law 455 = .ok (.invokevirtual 8, 3) := by decide +kernel
theorem dL_law_458 : decode cL_law 458 = .ok (.iload 4, 2) := by decide +kernel
theorem dL_law_460 : decode cL_law 460 = .ok (.if_icmp .ne 34, 3) := by decide +kernel
theorem dL_law_463 : decode cL_law 463 = .ok (.aload_n 1, 1) := by decide +kernel
theorem dL_law_464 : decode cL_law 464 = .ok (.bipush 10, 2) := by decide +kernel
theorem dL_law_466 : decode cL_law 466 = .ok (.invokevirtual 8, 3) := by decide +kernel
theorem dL_law_469 : decode cL_law 469 = .ok (.aload_n 1, 1) := by decide +kernel
theorem dL_law_470 : decode cL_law 470 = .ok (.iload 4, 2) := by decide +kernel
theorem dL_law_472 : decode cL_law 472 = .ok (.iconst 0, 1) := by decide +kernel
theorem dL_law_473 : decode cL_law 473 = .ok (.invokevirtual 102, 3) := by decide +kernel
theorem dL_law_476 : decode cL_law 476 = .ok (.if_icmp .ne 18, 3) := by decide +kernel
theorem dL_law_479 : decode cL_law 479 = .ok (.aload_n 1, 1) := by decide +kernel
theorem dL_law_480 : decode cL_law 480 = .ok (.iconst 2, 1) := by decide +kernel
theorem dL_law_481 : decode cL_law 481 = .ok (.invokevirtual 8, 3) := by decide +kernel
theorem dL_law_484 : decode cL_law 484 = .ok (.aload_n 1, 1) := by decide +kernel
theorem dL_law_485 : decode cL_law 485 = .ok (.iload 4, 2) := by decide +kernel
theorem dL_law_487 : decode cL_law 487 = .ok (.iconst 1, 1) := by decide +kernel
theorem dL_law_488 : decode cL_law 488 = .ok (.invokevirtual 102, 3) := by decide +kernel
theorem dL_law_491 : decode cL_law 491 = .ok (.if_icmp .eq 5, 3) := by decide +kernel
theorem dL_law_494 : decode cL_law 494 = .ok (.iconst 0, 1) := by decide +kernel
theorem dL_law_495 : decode cL_law 495 = .ok (.ireturn, 1) := by decide +kernel
theorem dL_law_496 : decode cL_law 496 = .ok (.iload 4, 2) := by decide +kernel
theorem dL_law_498 : decode cL_law 498 = .ok (.iload 8, 2) := by decide +kernel
theorem dL_law_500 : decode cL_law 500 = .ok (.ifCond .eq 7, 3) := by decide +kernel
theorem dL_law_503 : decode cL_law 503 = .ok (.iconst 1, 1) := by decide +kernel
theorem dL_law_504 : decode cL_law 504 = .ok (.goto 4, 3) := by decide +kernel
theorem dL_law_507 : decode cL_law 507 = .ok (.iconst 0, 1) := by decide +kernel
theorem dL_law_508 : decode cL_law 508 = .ok (.iadd, 1) := by decide +kernel
theorem dL_law_509 : decode cL_law 509 = .ok (.istore 4, 2) := by decide +kernel
theorem dL_law_511 : decode cL_law 511 = .ok (.iload 7, 2) := by decide +kernel
theorem dL_law_513 : decode cL_law 513 = .ok (.iconst 4, 1) := by decide +kernel
theorem dL_law_514 : decode cL_law 514 = .ok (.if_icmp .ne 115, 3) := by decide +kernel
theorem dL_law_517 : decode cL_law 517 = .ok (.aload_n 0, 1) := by decide +kernel
theorem dL_law_518 : decode cL_law 518 = .ok (.iload 6, 2) := by decide +kernel
theorem dL_law_520 : decode cL_law 520 = .ok (.iconst 1, 1) := by decide +kernel
theorem dL_law_521 : decode cL_law 521 = .ok (.iadd, 1) := by decide +kernel
theorem dL_law_522 : decode cL_law 522 = .ok (.iconst 3, 1) := by decide +kernel
theorem dL_law_523 : decode cL_law 523 = .ok (.invokestatic 51, 3) := by decide +kernel
theorem dL_law_526 : decode cL_law 526 = .ok (.istore 8, 2) := by decide +kernel
theorem dL_law_528 : decode cL_law 528 = .ok (.aload_n 1, 1) := by decide +kernel
theorem dL_law_529 : decode cL_law 529 = .ok (.iconst 5, 1) := by decide +kernel
theorem dL_law_530 : decode cL_law 530 = .ok (.invokevirtual 8, 3) := by decide +kernel
theorem dL_law_533 : decode cL_law 533 = .ok (.istore 9, 2) := by decide +kernel
theorem dL_law_535 : decode cL_law 535 = .ok (.aload_n 1, 1) := by decide +kernel
theorem dL_law_536 : decode cL_law 536 = .ok (.bipush 6, 2) := by decide +kernel
theorem dL_law_538 : decode cL_law 538 = .ok (.invokevirtual 8, 3) := by decide +kernel
theorem dL_law_541 : decode cL_law 541 = .ok (.istore 10, 2) := by decide +kernel
theorem dL_law_543 : decode cL_law 543 = .ok (.aload_n 1, 1) := by decide +kernel
theorem dL_law_544 : decode cL_law 544 = .ok (.bipush 7, 2) := by decide +kernel
theorem dL_law_546 : decode cL_law 546 = .ok (.invokevirtual 8, 3) := by decide +kernel
theorem dL_law_549 : decode cL_law 549 = .ok (.istore 11, 2) := by decide +kernel
theorem dL_law_551 : decode cL_law 551 = .ok (.aload_n 1, 1) := by decide +kernel
theorem dL_law_552 : decode cL_law 552 = .ok (.iload 8, 2) := by decide +kernel
theorem dL_law_554 : decode cL_law 554 = .ok (.invokevirtual 105, 3) := by decide +kernel
theorem dL_law_557 : decode cL_law 557 = .ok (.iload 9, 2) := by decide +kernel
theorem dL_law_559 : decode cL_law 559 = .ok (.if_icmp .ne 68, 3) := by decide +kernel
theorem dL_law_562 : decode cL_law 562 = .ok (.aload_n 1, 1) := by decide +kernel
theorem dL_law_563 : decode cL_law 563 = .ok (.iconst 5, 1) := by decide +kernel
theorem dL_law_564 : decode cL_law 564 = .ok (.invokevirtual 8, 3) := by decide +kernel
theorem dL_law_567 : decode cL_law 567 = .ok (.iload 8, 2) := by decide +kernel
theorem dL_law_569 : decode cL_law 569 = .ok (.if_icmp .ne 58, 3) := by decide +kernel
theorem dL_law_572 : decode cL_law 572 = .ok (.aload_n 1, 1) := by decide +kernel
theorem dL_law_573 : decode cL_law 573 = .ok (.bipush 6, 2) := by decide +kernel
theorem dL_law_575 : decode cL_law 575 = .ok (.invokevirtual 8, 3) := by decide +kernel
theorem dL_law_578 : decode cL_law 578 = .ok (.iload 8, 2) := by decide +kernel
theorem dL_law_580 : decode cL_law 580 = .ok (.ifCond .ne 8, 3) := by decide +kernel
theorem dL_law_583 : decode cL_law 583 = .ok (.iload 10, 2) := by decide +kernel
theorem dL_law_585 : decode cL_law 585 = .ok (.goto 7, 3) := by decide +kernel
theorem dL_law_588 : decode cL_law 588 = .ok (.iload 8, 2) := by decide +kernel
theorem dL_law_590 : decode cL_law 590 = .ok (.iconst 1, 1) := by decide +kernel
theorem dL_law_591 : decode cL_law 591 = .ok (.isub, 1) := by decide +kernel
theorem dL_law_592 : decode cL_law 592 = .ok (.if_icmp .ne 35, 3) := by decide +kernel
theorem dL_law_595 : decode cL_law 595 = .ok (.aload_n 1, 1) := by decide +kernel
theorem dL_law_596 : decode cL_law 596 = .ok (.bipush 7, 2) := by decide +kernel
theorem dL_law_598 : decode cL_law 598 = .ok (.invokevirtual 8, 3) := by decide +kernel
theorem dL_law_601 : decode cL_law 601 = .ok (.iload 8, 2) := by decide +kernel
theorem dL_law_603 : decode cL_law 603 = .ok (.ifCond .eq 15, 3) := by decide +kernel
theorem dL_law_606 : decode cL_law 606 = .ok (.iload 8, 2) := by decide +kernel
theorem dL_law_608 : decode cL_law 608 = .ok (.iconst 2, 1) := by decide +kernel
theorem dL_law_609 : decode cL_law 609 = .ok (.if_icmp .ne 14, 3) := by decide +kernel
theorem dL_law_612 : decode cL_law 612 = .ok (.iload 10, 2) := by decide +kernel
theorem dL_law_614 : decode cL_law 614 = .ok (.iconst 1, 1) := by decide +kernel
theorem dL_law_615 : decode cL_law 615 = .ok (.if_icmp .ne 8, 3) := by decide +kernel
theorem dL_law_618 : decode cL_law 618 = .ok (.iload 11, 2) := by decide +kernel
theorem dL_law_620 : decode cL_law 620 = .ok (.goto 4, 3) := by decide +kernel
theorem dL_law_623 : decode cL_law 623 = .ok (.iconst 0, 1) := by decide +kernel
theorem dL_law_624 : decode cL_law 624 = .ok (.if_icmp .eq 5, 3) := by decide +kernel
theorem dL_law_627 : decode cL_law 627 = .ok (.iconst 0, 1) := by decide +kernel
theorem dL_law_628 : decode cL_law 628 = .ok (.ireturn, 1) := by decide +kernel
theorem dL_law_629 : decode cL_law 629 = .ok (.aload_n 0, 1) := by decide +kernel
theorem dL_law_630 : decode cL_law 630 = .ok (.iload 6, 2) := by decide +kernel
theorem dL_law_632 : decode cL_law 632 = .ok (.iconst 5, 1) := by decide +kernel
theorem dL_law_633 : decode cL_law 633 = .ok (.iadd, 1) := by decide +kernel
theorem dL_law_634 : decode cL_law 634 = .ok (.bipush 6, 2) := by decide +kernel
theorem dL_law_636 : decode cL_law 636 = .ok (.invokestatic 51, 3) := by decide +kernel
theorem dL_law_639 : decode cL_law 639 = .ok (.istore 8, 2) := by decide +kernel
theorem dL_law_641 : decode cL_law 641 = .ok (.iconst 0, 1) := by decide +kernel
theorem dL_law_642 : decode cL_law 642 = .ok (.istore 9, 2) := by decide +kernel
theorem dL_law_644 : decode cL_law 644 = .ok (.iload 9, 2) := by decide +kernel
theorem dL_law_646 : decode cL_law 646 = .ok (.iload 8, 2) := by decide +kernel
theorem dL_law_648 : decode cL_law 648 = .ok (.if_icmp .ge 18, 3) := by decide +kernel
theorem dL_law_651 : decode cL_law 651 = .ok (.aload_n 1, 1) := by decide +kernel
theorem dL_law_652 : decode cL_law 652 = .ok (.invokestatic 108, 3) := by decide +kernel
theorem dL_law_655 : decode cL_law 655 = .ok (.ifCond .ne 5, 3) := by decide +kernel
theorem dL_law_658 : decode cL_law 658 = .ok (.iconst 0, 1) := by decide +kernel
theorem dL_law_659 : decode cL_law 659 = .ok (.ireturn, 1) := by decide +kernel
theorem dL_law_660 : decode cL_law 660 = .ok (.iinc 9 1, 3) := by decide +kernel
theorem dL_law_663 : decode cL_law 663 = .ok (.goto (-19), 3) := by decide +kernel
theorem dL_law_666 : decode cL_law 666 = .ok (.aload_n 1, 1) := by decide +kernel
theorem dL_law_667 : decode cL_law 667 = .ok (.invokestatic 111, 3) := by decide +kernel
theorem dL_law_670 : decode cL_law 670 = .ok (.ifCond .ne 5, 3) := by decide +kernel
theorem dL_law_673 : decode cL_law 673 = .ok (.iconst 0, 1) := by decide +kernel
theorem dL_law_674 : decode cL_law 674 = .ok (.ireturn, 1) := by decide +kernel
theorem dL_law_675 : decode cL_law 675 = .ok (.iinc 5 1, 3) := by decide +kernel
theorem dL_law_678 : decode cL_law 678 = .ok (.goto (-371), 3) := by decide +kernel
theorem dL_law_681 : decode cL_law 681 = .ok (.iconst 1, 1) := by decide +kernel
theorem dL_law_682 : decode cL_law 682 = .ok (.ireturn, 1) := by decide +kernel
end
