section
-- ===== PART A: goes FIRST, ahead of the names: the tables' words, and 'selects' of the private methods out of them =====
/-- a private method of a class that the tables say can be made, by its rows of tables_1 -/
def lw_okq (q : MethodName × Nat) : Prop := (q.1.cls ≠ "java/lang/invoke/MethodHandle" ∧ q.1.cls ≠ "java/lang/invoke/VarHandle") ∧ Cond.instantiable q.1.cls q.2 ∈ tables_1 ∧ Cond.privateMethod q.1 ∈ tables_1 ∧ Cond.instanceMethod q.1 ∈ tables_1
theorem lw_p0 : lw_okq (⟨"SeaGates", "found", "(I)I"⟩, 8) := ⟨⟨by decide +kernel, by decide +kernel⟩, List.mem_of_getElem? (i := 18) (by decide +kernel), List.mem_of_getElem? (i := 214) (by decide +kernel), List.mem_of_getElem? (i := 215) (by decide +kernel)⟩
theorem lw_p1 : lw_okq (⟨"SeaGates", "fine", "(I)I"⟩, 8) := ⟨⟨by decide +kernel, by decide +kernel⟩, List.mem_of_getElem? (i := 18) (by decide +kernel), List.mem_of_getElem? (i := 223) (by decide +kernel), List.mem_of_getElem? (i := 224) (by decide +kernel)⟩
theorem lw_p2 : lw_okq (⟨"SeaGates$Sheets", "hasPlaces", "(III)Z"⟩, 3) := ⟨⟨by decide +kernel, by decide +kernel⟩, List.mem_of_getElem? (i := 26) (by decide +kernel), List.mem_of_getElem? (i := 239) (by decide +kernel), List.mem_of_getElem? (i := 240) (by decide +kernel)⟩
theorem lw_p3 : lw_okq (⟨"SeaGates$Sea", "headOf", "(II)I"⟩, 4) := ⟨⟨by decide +kernel, by decide +kernel⟩, List.mem_of_getElem? (i := 49) (by decide +kernel), List.mem_of_getElem? (i := 289) (by decide +kernel), List.mem_of_getElem? (i := 290) (by decide +kernel)⟩
theorem lw_p4 : lw_okq (⟨"SeaGates$Sea", "areAlike", "(III)Z"⟩, 4) := ⟨⟨by decide +kernel, by decide +kernel⟩, List.mem_of_getElem? (i := 49) (by decide +kernel), List.mem_of_getElem? (i := 293) (by decide +kernel), List.mem_of_getElem? (i := 294) (by decide +kernel)⟩
theorem lw_p5 : lw_okq (⟨"SeaGates$Plan", "decideHour", "(I)V"⟩, 7) := ⟨⟨by decide +kernel, by decide +kernel⟩, List.mem_of_getElem? (i := 93) (by decide +kernel), List.mem_of_getElem? (i := 316) (by decide +kernel), List.mem_of_getElem? (i := 317) (by decide +kernel)⟩
theorem lw_p6 : lw_okq (⟨"SeaGates$Plan", "decideGroup", "(II)V"⟩, 7) := ⟨⟨by decide +kernel, by decide +kernel⟩, List.mem_of_getElem? (i := 93) (by decide +kernel), List.mem_of_getElem? (i := 321) (by decide +kernel), List.mem_of_getElem? (i := 322) (by decide +kernel)⟩
theorem lw_p7 : lw_okq (⟨"SeaGates$Plan", "lossFrom", "(IIIIZ)J"⟩, 7) := ⟨⟨by decide +kernel, by decide +kernel⟩, List.mem_of_getElem? (i := 93) (by decide +kernel), List.mem_of_getElem? (i := 329) (by decide +kernel), List.mem_of_getElem? (i := 330) (by decide +kernel)⟩
theorem lw_p8 : lw_okq (⟨"SeaGates", "becomes", "(IZ)I"⟩, 8) := ⟨⟨by decide +kernel, by decide +kernel⟩, List.mem_of_getElem? (i := 18) (by decide +kernel), List.mem_of_getElem? (i := 477) (by decide +kernel), List.mem_of_getElem? (i := 478) (by decide +kernel)⟩
theorem lw_p9 : lw_okq (⟨"SeaGates$Row", "endByHand", "(II)I"⟩, 3) := ⟨⟨by decide +kernel, by decide +kernel⟩, List.mem_of_getElem? (i := 127) (by decide +kernel), List.mem_of_getElem? (i := 500) (by decide +kernel), List.mem_of_getElem? (i := 501) (by decide +kernel)⟩
theorem lw_p10 : lw_okq (⟨"SeaGatesModel", "found", "(I)I"⟩, 22) := ⟨⟨by decide +kernel, by decide +kernel⟩, List.mem_of_getElem? (i := 640) (by decide +kernel), List.mem_of_getElem? (i := 727) (by decide +kernel), List.mem_of_getElem? (i := 728) (by decide +kernel)⟩
theorem lw_p11 : lw_okq (⟨"SeaGatesModel", "findBest", "()V"⟩, 22) := ⟨⟨by decide +kernel, by decide +kernel⟩, List.mem_of_getElem? (i := 640) (by decide +kernel), List.mem_of_getElem? (i := 766) (by decide +kernel), List.mem_of_getElem? (i := 767) (by decide +kernel)⟩
theorem lw_p12 : lw_okq (⟨"SeaGatesModel", "groupOf", "(II)I"⟩, 22) := ⟨⟨by decide +kernel, by decide +kernel⟩, List.mem_of_getElem? (i := 640) (by decide +kernel), List.mem_of_getElem? (i := 770) (by decide +kernel), List.mem_of_getElem? (i := 771) (by decide +kernel)⟩
theorem lw_p13 : lw_okq (⟨"SeaGatesModel", "lossBy", "(IIZI)J"⟩, 22) := ⟨⟨by decide +kernel, by decide +kernel⟩, List.mem_of_getElem? (i := 640) (by decide +kernel), List.mem_of_getElem? (i := 774) (by decide +kernel), List.mem_of_getElem? (i := 775) (by decide +kernel)⟩
theorem lw_p14 : lw_okq (⟨"SeaGatesModel", "after", "(IZI)I"⟩, 22) := ⟨⟨by decide +kernel, by decide +kernel⟩, List.mem_of_getElem? (i := 640) (by decide +kernel), List.mem_of_getElem? (i := 778) (by decide +kernel), List.mem_of_getElem? (i := 779) (by decide +kernel)⟩
theorem lw_p15 : lw_okq (⟨"SeaGatesModel", "lostIn", "(IIZI)I"⟩, 22) := ⟨⟨by decide +kernel, by decide +kernel⟩, List.mem_of_getElem? (i := 640) (by decide +kernel), List.mem_of_getElem? (i := 782) (by decide +kernel), List.mem_of_getElem? (i := 783) (by decide +kernel)⟩
def lw_privs_1 : List (MethodName × Nat) := [(⟨"SeaGates", "found", "(I)I"⟩, 8), (⟨"SeaGates", "fine", "(I)I"⟩, 8), (⟨"SeaGates$Sheets", "hasPlaces", "(III)Z"⟩, 3), (⟨"SeaGates$Sea", "headOf", "(II)I"⟩, 4), (⟨"SeaGates$Sea", "areAlike", "(III)Z"⟩, 4), (⟨"SeaGates$Plan", "decideHour", "(I)V"⟩, 7), (⟨"SeaGates$Plan", "decideGroup", "(II)V"⟩, 7), (⟨"SeaGates$Plan", "lossFrom", "(IIIIZ)J"⟩, 7), (⟨"SeaGates", "becomes", "(IZ)I"⟩, 8), (⟨"SeaGates$Row", "endByHand", "(II)I"⟩, 3), (⟨"SeaGatesModel", "found", "(I)I"⟩, 22), (⟨"SeaGatesModel", "findBest", "()V"⟩, 22), (⟨"SeaGatesModel", "groupOf", "(II)I"⟩, 22), (⟨"SeaGatesModel", "lossBy", "(IIZI)J"⟩, 22), (⟨"SeaGatesModel", "after", "(IZI)I"⟩, 22), (⟨"SeaGatesModel", "lostIn", "(IIZI)I"⟩, 22)]
theorem lw_r1 : ∀ q ∈ lw_privs_1, lw_okq q := List.forall_mem_cons.mpr ⟨lw_p0, List.forall_mem_cons.mpr ⟨lw_p1, List.forall_mem_cons.mpr ⟨lw_p2, List.forall_mem_cons.mpr ⟨lw_p3, List.forall_mem_cons.mpr ⟨lw_p4, List.forall_mem_cons.mpr ⟨lw_p5, List.forall_mem_cons.mpr ⟨lw_p6, List.forall_mem_cons.mpr ⟨lw_p7, List.forall_mem_cons.mpr ⟨lw_p8, List.forall_mem_cons.mpr ⟨lw_p9, List.forall_mem_cons.mpr ⟨lw_p10, List.forall_mem_cons.mpr ⟨lw_p11, List.forall_mem_cons.mpr ⟨lw_p12, List.forall_mem_cons.mpr ⟨lw_p13, List.forall_mem_cons.mpr ⟨lw_p14, List.forall_mem_cons.mpr ⟨lw_p15, fun _ h => absurd h List.not_mem_nil⟩⟩⟩⟩⟩⟩⟩⟩⟩⟩⟩⟩⟩⟩⟩⟩
theorem lw_p16 : lw_okq (⟨"SeaGatesModel", "waterIn", "(IIZI)I"⟩, 22) := ⟨⟨by decide +kernel, by decide +kernel⟩, List.mem_of_getElem? (i := 640) (by decide +kernel), List.mem_of_getElem? (i := 789) (by decide +kernel), List.mem_of_getElem? (i := 790) (by decide +kernel)⟩
theorem lw_p17 : lw_okq (⟨"SeaGatesModel", "isGate", "(I)Z"⟩, 22) := ⟨⟨by decide +kernel, by decide +kernel⟩, List.mem_of_getElem? (i := 640) (by decide +kernel), List.mem_of_getElem? (i := 821) (by decide +kernel), List.mem_of_getElem? (i := 822) (by decide +kernel)⟩
theorem lw_p18 : lw_okq (⟨"SeaGatesModel", "timeBy", "(II)I"⟩, 22) := ⟨⟨by decide +kernel, by decide +kernel⟩, List.mem_of_getElem? (i := 640) (by decide +kernel), List.mem_of_getElem? (i := 833) (by decide +kernel), List.mem_of_getElem? (i := 834) (by decide +kernel)⟩
theorem lw_p19 : lw_okq (⟨"SeaGatesModel", "closingsOf", "(IIIIII)I"⟩, 22) := ⟨⟨by decide +kernel, by decide +kernel⟩, List.mem_of_getElem? (i := 640) (by decide +kernel), List.mem_of_getElem? (i := 852) (by decide +kernel), List.mem_of_getElem? (i := 853) (by decide +kernel)⟩
theorem lw_p20 : lw_okq (⟨"SeaGatesModel", "kindOf", "(I)I"⟩, 22) := ⟨⟨by decide +kernel, by decide +kernel⟩, List.mem_of_getElem? (i := 640) (by decide +kernel), List.mem_of_getElem? (i := 864) (by decide +kernel), List.mem_of_getElem? (i := 865) (by decide +kernel)⟩
theorem lw_p21 : lw_okq (⟨"SeaGatesModel", "cost", "(I)I"⟩, 22) := ⟨⟨by decide +kernel, by decide +kernel⟩, List.mem_of_getElem? (i := 640) (by decide +kernel), List.mem_of_getElem? (i := 876) (by decide +kernel), List.mem_of_getElem? (i := 877) (by decide +kernel)⟩
theorem lw_p22 : lw_okq (⟨"SeaGatesModel", "began", "(I)V"⟩, 22) := ⟨⟨by decide +kernel, by decide +kernel⟩, List.mem_of_getElem? (i := 640) (by decide +kernel), List.mem_of_getElem? (i := 880) (by decide +kernel), List.mem_of_getElem? (i := 881) (by decide +kernel)⟩
theorem lw_p23 : lw_okq (⟨"SeaGatesModel", "marked", "(I)I"⟩, 22) := ⟨⟨by decide +kernel, by decide +kernel⟩, List.mem_of_getElem? (i := 640) (by decide +kernel), List.mem_of_getElem? (i := 884) (by decide +kernel), List.mem_of_getElem? (i := 885) (by decide +kernel)⟩
def lw_privs_2 : List (MethodName × Nat) := [(⟨"SeaGatesModel", "waterIn", "(IIZI)I"⟩, 22), (⟨"SeaGatesModel", "isGate", "(I)Z"⟩, 22), (⟨"SeaGatesModel", "timeBy", "(II)I"⟩, 22), (⟨"SeaGatesModel", "closingsOf", "(IIIIII)I"⟩, 22), (⟨"SeaGatesModel", "kindOf", "(I)I"⟩, 22), (⟨"SeaGatesModel", "cost", "(I)I"⟩, 22), (⟨"SeaGatesModel", "began", "(I)V"⟩, 22), (⟨"SeaGatesModel", "marked", "(I)I"⟩, 22)]
theorem lw_r2 : ∀ q ∈ lw_privs_2, lw_okq q := List.forall_mem_cons.mpr ⟨lw_p16, List.forall_mem_cons.mpr ⟨lw_p17, List.forall_mem_cons.mpr ⟨lw_p18, List.forall_mem_cons.mpr ⟨lw_p19, List.forall_mem_cons.mpr ⟨lw_p20, List.forall_mem_cons.mpr ⟨lw_p21, List.forall_mem_cons.mpr ⟨lw_p22, List.forall_mem_cons.mpr ⟨lw_p23, fun _ h => absurd h List.not_mem_nil⟩⟩⟩⟩⟩⟩⟩⟩
def lw_privs : List (MethodName × Nat) := lw_privs_1 ++ (lw_privs_2)
def lw_tbl : List Cond := k2_sels lw_privs ++ tables_1
theorem lw_privs_ok : ∀ q ∈ lw_privs, lw_okq q := by
  show ∀ q ∈ lw_privs_1 ++ (lw_privs_2), lw_okq q
  exact List.forall_mem_append.mpr ⟨lw_r1, lw_r2⟩
-- ===== end of PART A; then your names; then what follows =====
end
section
/-! ===== BEGIN words of one list among another's, by their places ===== -/
theorem goodIn_r {big : List Cond} (ws : List Cond) (ps : List Nat) (hp : ws = ps.filterMap (fun i => big[i]?)) (h : ws.all goodWord = true) : GoodIn big ws := by
  intro w hw
  have h1 := List.all_eq_true.mp h w hw
  rw [hp] at hw
  obtain ⟨i, -, hi⟩ := List.mem_filterMap.mp hw
  have hm : w ∈ big := by first | exact List.mem_of_getElem? hi | exact List.getElem?_mem hi
  exact ⟨hm, good_of_word h1⟩
theorem goodIn_app {big a b : List Cond} (ha : GoodIn big a) (hb : GoodIn big b) : GoodIn big (a ++ b) := fun w h => (List.mem_append.mp h).elim (ha w) (hb w)
theorem goodIn_ca {big a b : List Cond} {c : Cond} (ha : GoodIn big (c :: a)) (hb : GoodIn big b) : GoodIn big (c :: (a ++ b)) := fun w h => (List.mem_cons.mp h).elim (fun e => ha w (List.mem_cons.mpr (Or.inl e))) (fun h => (List.mem_append.mp h).elim (fun h => ha w (List.mem_cons.mpr (Or.inr h))) (hb w))
theorem goodIn_sub {big ws : List Cond} (hm : ∀ w ∈ ws, w ∈ big) (h : ws.all goodWord = true) : GoodIn big ws := fun w hw => ⟨hm w hw, good_of_word (List.all_eq_true.mp h w hw)⟩
/-! ===== END ===== -/

/-! ===== BEGIN printed: names, fields, word lists, decode rows ===== -/
def RX0 : String := "SeaGates$Barrier"
def TX0 : u_T := fun k => match k with
  | 0 => ("SeaGates$Barrier", "rules", "[I", true)
  | 1 => ("SeaGates$Barrier", "rivers", "[I", true)
  | _ => ("SeaGates$Barrier", "sea", "LSeaGates$Sea;", true)
def tyX0 : Nat → FieldType := fun k => match k with
  | 0 => .array .int
  | 1 => .array .int
  | _ => .object "SeaGates$Sea"
abbrev wsX00 : List Cond := u_ws RX0 TX0 3
theorem nmX0 : ∀ a, a < 3 → ∀ b, b < 3 → a ≠ b → (TX0 a).2.1 ≠ (TX0 b).2.1 := by decide +kernel
theorem tyX0_ok : ∀ k, k < 3 → parseFieldDescriptor (TX0 k).2.2.1 = some (tyX0 k) := by decide +kernel
abbrev cX0_init : ByteArray := prog_2_method_1_code
def yX0_init : MethodName := ⟨RX0, "<init>", "(LSeaGates$Sea;)V"⟩
abbrev cX0_mayBeTold : ByteArray := prog_2_method_2_code
def yX0_mayBeTold : MethodName := ⟨RX0, "mayBeTold", "(I)Z"⟩
abbrev cX0_order : ByteArray := prog_2_method_3_code
def yX0_order : MethodName := ⟨RX0, "order", "(IZ)I"⟩
abbrev cX0_how : ByteArray := prog_2_method_4_code
def yX0_how : MethodName := ⟨RX0, "how", "(I)I"⟩
abbrev cX0_stands : ByteArray := prog_2_method_5_code
def yX0_stands : MethodName := ⟨RX0, "stands", "(IZ)I"⟩
abbrev cX0_next : ByteArray := prog_2_method_6_code
def yX0_next : MethodName := ⟨RX0, "next", "(II)I"⟩
abbrev cX0_water : ByteArray := prog_2_method_7_code
def yX0_water : MethodName := ⟨RX0, "water", "(III)I"⟩
abbrev cX0_lost : ByteArray := prog_2_method_8_code
def yX0_lost : MethodName := ⟨RX0, "lost", "(IIIZ)I"⟩
abbrev cX0_lossOfOneOrder : ByteArray := prog_2_method_9_code
def yX0_lossOfOneOrder : MethodName := ⟨RX0, "lossOfOneOrder", "(I)J"⟩
def RX1 : String := "SeaGates$Fairway"
def TX1 : u_T := fun k => match k with
  | 0 => ("SeaGates$Fairway", "minutes", "[I", true)
  | 1 => ("SeaGates$Fairway", "passing", "[I", true)
  | 2 => ("SeaGates$Fairway", "inTurn", "[I", true)
  | _ => ("SeaGates$Fairway", "size", "I", false)
def tyX1 : Nat → FieldType := fun k => match k with
  | 0 => .array .int
  | 1 => .array .int
  | 2 => .array .int
  | _ => .int
abbrev wsX10 : List Cond := u_ws RX1 TX1 4
theorem nmX1 : ∀ a, a < 4 → ∀ b, b < 4 → a ≠ b → (TX1 a).2.1 ≠ (TX1 b).2.1 := by decide +kernel
theorem tyX1_ok : ∀ k, k < 4 → parseFieldDescriptor (TX1 k).2.2.1 = some (tyX1 k) := by decide +kernel
abbrev cX1_init : ByteArray := prog_3_method_1_code
def yX1_init : MethodName := ⟨RX1, "<init>", "()V"⟩
abbrev cX1_add : ByteArray := prog_3_method_2_code
def yX1_add : MethodName := ⟨RX1, "add", "(II)I"⟩
abbrev cX1_waitOf : ByteArray := prog_3_method_3_code
def yX1_waitOf : MethodName := ⟨RX1, "waitOf", "(III)I"⟩
def RX2 : String := "SeaGates$Gate"
def TX2 : u_T := fun k => match k with
  | 0 => ("SeaGates$Gate", "minutes", "I", true)
  | 1 => ("SeaGates$Gate", "hand", "I", true)
  | _ => ("SeaGates$Gate", "failed", "Z", false)
def tyX2 : Nat → FieldType := fun k => match k with
  | 0 => .int
  | 1 => .int
  | _ => .boolean
abbrev wsX20 : List Cond := u_ws RX2 TX2 3
theorem nmX2 : ∀ a, a < 3 → ∀ b, b < 3 → a ≠ b → (TX2 a).2.1 ≠ (TX2 b).2.1 := by decide +kernel
theorem tyX2_ok : ∀ k, k < 3 → parseFieldDescriptor (TX2 k).2.2.1 = some (tyX2 k) := by decide +kernel
abbrev cX2_init : ByteArray := prog_4_method_1_code
def yX2_init : MethodName := ⟨RX2, "<init>", "(II)V"⟩
abbrev cX2_toldAs : ByteArray := prog_4_method_2_code
def yX2_toldAs : MethodName := ⟨RX2, "toldAs", "()I"⟩
abbrev cX2_cost : ByteArray := prog_4_method_3_code
def yX2_cost : MethodName := ⟨RX2, "cost", "(LSeaGates$Trace;)I"⟩
abbrev cX2_mark : ByteArray := prog_4_method_4_code
def yX2_mark : MethodName := ⟨RX2, "mark", "(LSeaGates$Trace;)I"⟩
def RX3 : String := "SeaGates$Handed"
def TX3 : u_T := fun k => match k with
  | 0 => ("SeaGates$Gate", "minutes", "I", true)
  | 1 => ("SeaGates$Gate", "hand", "I", true)
  | _ => ("SeaGates$Gate", "failed", "Z", false)
def tyX3 : Nat → FieldType := fun k => match k with
  | 0 => .int
  | 1 => .int
  | _ => .boolean
abbrev wsX30 : List Cond := u_ws RX3 TX3 3
theorem nmX3 : ∀ a, a < 3 → ∀ b, b < 3 → a ≠ b → (TX3 a).2.1 ≠ (TX3 b).2.1 := by decide +kernel
theorem tyX3_ok : ∀ k, k < 3 → parseFieldDescriptor (TX3 k).2.2.1 = some (tyX3 k) := by decide +kernel
abbrev cX3_init : ByteArray := prog_5_method_1_code
def yX3_init : MethodName := ⟨RX3, "<init>", "(II)V"⟩
abbrev cX3_toldAs : ByteArray := prog_5_method_2_code
def yX3_toldAs : MethodName := ⟨RX3, "toldAs", "()I"⟩
abbrev cX3_cost : ByteArray := prog_5_method_3_code
def yX3_cost : MethodName := ⟨RX3, "cost", "(LSeaGates$Trace;)I"⟩
abbrev cX3_mark : ByteArray := prog_5_method_4_code
def yX3_mark : MethodName := ⟨RX3, "mark", "(LSeaGates$Trace;)I"⟩
def RX4 : String := "SeaGates$Plan"
def TX4 : u_T := fun k => match k with
  | 0 => ("SeaGates$Plan", "sea", "LSeaGates$Sea;", true)
  | 1 => ("SeaGates$Plan", "barrier", "LSeaGates$Barrier;", true)
  | 2 => ("SeaGates$Plan", "orders", "[[I", true)
  | 3 => ("SeaGates$Plan", "now", "[[J", true)
  | 4 => ("SeaGates$Plan", "then", "[[J", true)
  | 5 => ("SeaGates$Plan", "loss", "J", false)
  | _ => ("SeaGates$Plan", "stale", "Z", false)
def tyX4 : Nat → FieldType := fun k => match k with
  | 0 => .object "SeaGates$Sea"
  | 1 => .object "SeaGates$Barrier"
  | 2 => .array (.array .int)
  | 3 => .array (.array .long)
  | 4 => .array (.array .long)
  | 5 => .long
  | _ => .boolean
abbrev wsX40 : List Cond := u_ws RX4 TX4 7
theorem nmX4 : ∀ a, a < 7 → ∀ b, b < 7 → a ≠ b → (TX4 a).2.1 ≠ (TX4 b).2.1 := by decide +kernel
theorem tyX4_ok : ∀ k, k < 7 → parseFieldDescriptor (TX4 k).2.2.1 = some (tyX4 k) := by decide +kernel
abbrev cX4_init : ByteArray := prog_6_method_1_code
def yX4_init : MethodName := ⟨RX4, "<init>", "(LSeaGates$Sea;LSeaGates$Barrier;)V"⟩
abbrev cX4_refresh : ByteArray := prog_6_method_2_code
def yX4_refresh : MethodName := ⟨RX4, "refresh", "()V"⟩
abbrev cX4_decideHour : ByteArray := prog_6_method_3_code
def yX4_decideHour : MethodName := ⟨RX4, "decideHour", "(I)V"⟩
abbrev cX4_decideGroup : ByteArray := prog_6_method_4_code
def yX4_decideGroup : MethodName := ⟨RX4, "decideGroup", "(II)V"⟩
abbrev cX4_lossFrom : ByteArray := prog_6_method_5_code
def yX4_lossFrom : MethodName := ⟨RX4, "lossFrom", "(IIIIZ)J"⟩
abbrev cX4_tells : ByteArray := prog_6_method_6_code
def yX4_tells : MethodName := ⟨RX4, "tells", "(III)Z"⟩
abbrev cX4_stateAt : ByteArray := prog_6_method_7_code
def yX4_stateAt : MethodName := ⟨RX4, "stateAt", "(II)I"⟩
def RX5 : String := "SeaGates$Row"
def TX5 : u_T := fun k => match k with
  | 0 => ("SeaGates$Row", "gates", "[LSeaGates$Gate;", true)
  | 1 => ("SeaGates$Row", "free", "[I", true)
  | _ => ("SeaGates$Row", "size", "I", false)
def tyX5 : Nat → FieldType := fun k => match k with
  | 0 => .array (.object "SeaGates$Gate")
  | 1 => .array .int
  | _ => .int
abbrev wsX50 : List Cond := u_ws RX5 TX5 3
theorem nmX5 : ∀ a, a < 3 → ∀ b, b < 3 → a ≠ b → (TX5 a).2.1 ≠ (TX5 b).2.1 := by decide +kernel
theorem tyX5_ok : ∀ k, k < 3 → parseFieldDescriptor (TX5 k).2.2.1 = some (tyX5 k) := by decide +kernel
abbrev cX5_init : ByteArray := prog_7_method_1_code
def yX5_init : MethodName := ⟨RX5, "<init>", "()V"⟩
abbrev cX5_add : ByteArray := prog_7_method_2_code
def yX5_add : MethodName := ⟨RX5, "add", "(LSeaGates$Gate;)I"⟩
abbrev cX5_at : ByteArray := prog_7_method_3_code
def yX5_at : MethodName := ⟨RX5, "at", "(I)LSeaGates$Gate;"⟩
abbrev cX5_failedOnes : ByteArray := prog_7_method_4_code
def yX5_failedOnes : MethodName := ⟨RX5, "failedOnes", "()I"⟩
abbrev cX5_timeToShut : ByteArray := prog_7_method_5_code
def yX5_timeToShut : MethodName := ⟨RX5, "timeToShut", "(II)I"⟩
abbrev cX5_endByHand : ByteArray := prog_7_method_6_code
def yX5_endByHand : MethodName := ⟨RX5, "endByHand", "(II)I"⟩
abbrev cX5_worstTime : ByteArray := prog_7_method_7_code
def yX5_worstTime : MethodName := ⟨RX5, "worstTime", "(I)I"⟩
def RX6 : String := "SeaGates$Sea"
def TX6 : u_T := fun k => match k with
  | 0 => ("SeaGates$Sea", "weights", "[I", true)
  | 1 => ("SeaGates$Sea", "levels", "[[I", true)
  | 2 => ("SeaGates$Sea", "heads", "[[I", true)
  | _ => ("SeaGates$Sea", "size", "I", false)
def tyX6 : Nat → FieldType := fun k => match k with
  | 0 => .array .int
  | 1 => .array (.array .int)
  | 2 => .array (.array .int)
  | _ => .int
abbrev wsX60 : List Cond := u_ws RX6 TX6 4
theorem nmX6 : ∀ a, a < 4 → ∀ b, b < 4 → a ≠ b → (TX6 a).2.1 ≠ (TX6 b).2.1 := by decide +kernel
theorem tyX6_ok : ∀ k, k < 4 → parseFieldDescriptor (TX6 k).2.2.1 = some (tyX6 k) := by decide +kernel
abbrev cX6_init : ByteArray := prog_8_method_1_code
def yX6_init : MethodName := ⟨RX6, "<init>", "()V"⟩
abbrev cX6_add : ByteArray := prog_8_method_2_code
def yX6_add : MethodName := ⟨RX6, "add", "(I[II)I"⟩
abbrev cX6_headOf : ByteArray := prog_8_method_3_code
def yX6_headOf : MethodName := ⟨RX6, "headOf", "(II)I"⟩
abbrev cX6_areAlike : ByteArray := prog_8_method_4_code
def yX6_areAlike : MethodName := ⟨RX6, "areAlike", "(III)Z"⟩
abbrev cX6_groupsAt : ByteArray := prog_8_method_5_code
def yX6_groupsAt : MethodName := ⟨RX6, "groupsAt", "(I)I"⟩
abbrev cX6_weightOfGroup : ByteArray := prog_8_method_6_code
def yX6_weightOfGroup : MethodName := ⟨RX6, "weightOfGroup", "(II)I"⟩
abbrev cX6_allWeights : ByteArray := prog_8_method_7_code
def yX6_allWeights : MethodName := ⟨RX6, "allWeights", "()I"⟩
abbrev cX6_firstAbove : ByteArray := prog_8_method_8_code
def yX6_firstAbove : MethodName := ⟨RX6, "firstAbove", "(I)I"⟩
def RX7 : String := "SeaGates$Sheets"
def TX7 : u_T := fun k => match k with
  | 0 => ("SeaGates$Sheets", "items", "[[I", true)
  | 1 => ("SeaGates$Sheets", "lanes", "[I", true)
  | _ => ("SeaGates$Sheets", "sizes", "[I", true)
def tyX7 : Nat → FieldType := fun k => match k with
  | 0 => .array (.array .int)
  | 1 => .array .int
  | _ => .array .int
abbrev wsX70 : List Cond := u_ws RX7 TX7 3
theorem nmX7 : ∀ a, a < 3 → ∀ b, b < 3 → a ≠ b → (TX7 a).2.1 ≠ (TX7 b).2.1 := by decide +kernel
theorem tyX7_ok : ∀ k, k < 3 → parseFieldDescriptor (TX7 k).2.2.1 = some (tyX7 k) := by decide +kernel
abbrev cX7_init : ByteArray := prog_9_method_1_code
def yX7_init : MethodName := ⟨RX7, "<init>", "()V"⟩
abbrev cX7_isMissing : ByteArray := prog_9_method_2_code
def yX7_isMissing : MethodName := ⟨RX7, "isMissing", "(I)Z"⟩
abbrev cX7_lay : ByteArray := prog_9_method_3_code
def yX7_lay : MethodName := ⟨RX7, "lay", "(III)V"⟩
abbrev cX7_takeAway : ByteArray := prog_9_method_4_code
def yX7_takeAway : MethodName := ⟨RX7, "takeAway", "(I)I"⟩
abbrev cX7_look : ByteArray := prog_9_method_5_code
def yX7_look : MethodName := ⟨RX7, "look", "(III)I"⟩
abbrev cX7_lookAtBoth : ByteArray := prog_9_method_6_code
def yX7_lookAtBoth : MethodName := ⟨RX7, "lookAtBoth", "(IIIII)I"⟩
abbrev cX7_hasPlaces : ByteArray := prog_9_method_7_code
def yX7_hasPlaces : MethodName := ⟨RX7, "hasPlaces", "(III)Z"⟩
abbrev cX7_put : ByteArray := prog_9_method_8_code
def yX7_put : MethodName := ⟨RX7, "put", "(III)I"⟩
abbrev cX7_narrowed : ByteArray := prog_9_method_9_code
def yX7_narrowed : MethodName := ⟨RX7, "narrowed", "(II)I"⟩
abbrev cX7_move : ByteArray := prog_9_method_10_code
def yX7_move : MethodName := ⟨RX7, "move", "(IIIII)V"⟩
abbrev cX7_areWithin : ByteArray := prog_9_method_11_code
def yX7_areWithin : MethodName := ⟨RX7, "areWithin", "(IIII)Z"⟩
abbrev cX7_above : ByteArray := prog_9_method_12_code
def yX7_above : MethodName := ⟨RX7, "above", "(IIIJ)I"⟩
abbrev cX7_present : ByteArray := prog_9_method_13_code
def yX7_present : MethodName := ⟨RX7, "present", "()I"⟩
def RX8 : String := "SeaGates$Slow"
def TX8 : u_T := fun k => match k with
  | 0 => ("SeaGates$Gate", "minutes", "I", true)
  | 1 => ("SeaGates$Gate", "hand", "I", true)
  | _ => ("SeaGates$Gate", "failed", "Z", false)
def tyX8 : Nat → FieldType := fun k => match k with
  | 0 => .int
  | 1 => .int
  | _ => .boolean
abbrev wsX80 : List Cond := u_ws RX8 TX8 3
theorem nmX8 : ∀ a, a < 3 → ∀ b, b < 3 → a ≠ b → (TX8 a).2.1 ≠ (TX8 b).2.1 := by decide +kernel
theorem tyX8_ok : ∀ k, k < 3 → parseFieldDescriptor (TX8 k).2.2.1 = some (tyX8 k) := by decide +kernel
abbrev cX8_init : ByteArray := prog_10_method_1_code
def yX8_init : MethodName := ⟨RX8, "<init>", "(I)V"⟩
abbrev cX8_toldAs : ByteArray := prog_10_method_2_code
def yX8_toldAs : MethodName := ⟨RX8, "toldAs", "()I"⟩
abbrev cX8_cost : ByteArray := prog_10_method_3_code
def yX8_cost : MethodName := ⟨RX8, "cost", "(LSeaGates$Trace;)I"⟩
abbrev cX8_mark : ByteArray := prog_10_method_4_code
def yX8_mark : MethodName := ⟨RX8, "mark", "(LSeaGates$Trace;)I"⟩
def RX9 : String := "SeaGates$Trace"
def TX9 : u_T := fun k => match k with
  | 0 => ("SeaGates$Trace", "numbers", "[I", true)
  | _ => ("SeaGates$Trace", "length", "I", false)
def tyX9 : Nat → FieldType := fun k => match k with
  | 0 => .array .int
  | _ => .int
abbrev wsX90 : List Cond := u_ws RX9 TX9 2
theorem nmX9 : ∀ a, a < 2 → ∀ b, b < 2 → a ≠ b → (TX9 a).2.1 ≠ (TX9 b).2.1 := by decide +kernel
theorem tyX9_ok : ∀ k, k < 2 → parseFieldDescriptor (TX9 k).2.2.1 = some (tyX9 k) := by decide +kernel
abbrev cX9_init : ByteArray := prog_11_method_1_code
def yX9_init : MethodName := ⟨RX9, "<init>", "()V"⟩
abbrev cX9_leave : ByteArray := prog_11_method_2_code
def yX9_leave : MethodName := ⟨RX9, "leave", "(I)V"⟩
def RX10 : String := "SeaGates$Twin"
def TX10 : u_T := fun k => match k with
  | 0 => ("SeaGates$Gate", "minutes", "I", true)
  | 1 => ("SeaGates$Gate", "hand", "I", true)
  | _ => ("SeaGates$Gate", "failed", "Z", false)
def tyX10 : Nat → FieldType := fun k => match k with
  | 0 => .int
  | 1 => .int
  | _ => .boolean
abbrev wsX100 : List Cond := u_ws RX10 TX10 3
theorem nmX10 : ∀ a, a < 3 → ∀ b, b < 3 → a ≠ b → (TX10 a).2.1 ≠ (TX10 b).2.1 := by decide +kernel
theorem tyX10_ok : ∀ k, k < 3 → parseFieldDescriptor (TX10 k).2.2.1 = some (tyX10 k) := by decide +kernel
abbrev cX10_init : ByteArray := prog_12_method_1_code
def yX10_init : MethodName := ⟨RX10, "<init>", "(II)V"⟩
abbrev cX10_toldAs : ByteArray := prog_12_method_2_code
def yX10_toldAs : MethodName := ⟨RX10, "toldAs", "()I"⟩
abbrev cX10_cost : ByteArray := prog_12_method_3_code
def yX10_cost : MethodName := ⟨RX10, "cost", "(LSeaGates$Trace;)I"⟩
def RX11 : String := "SeaGates"
def TX11 : u_T := fun k => match k with
  | 0 => ("SeaGates", "sheets", "LSeaGates$Sheets;", true)
  | 1 => ("SeaGates", "sea", "LSeaGates$Sea;", true)
  | 2 => ("SeaGates", "barrier", "LSeaGates$Barrier;", true)
  | 3 => ("SeaGates", "plan", "LSeaGates$Plan;", true)
  | 4 => ("SeaGates", "row", "LSeaGates$Row;", true)
  | 5 => ("SeaGates", "fairway", "LSeaGates$Fairway;", true)
  | 6 => ("SeaGates", "bodies", "LSeaGates$Trace;", true)
  | _ => ("SeaGates", "finding", "I", false)
def tyX11 : Nat → FieldType := fun k => match k with
  | 0 => .object "SeaGates$Sheets"
  | 1 => .object "SeaGates$Sea"
  | 2 => .object "SeaGates$Barrier"
  | 3 => .object "SeaGates$Plan"
  | 4 => .object "SeaGates$Row"
  | 5 => .object "SeaGates$Fairway"
  | 6 => .object "SeaGates$Trace"
  | _ => .int
abbrev wsX110 : List Cond := u_ws RX11 TX11 8
theorem nmX11 : ∀ a, a < 8 → ∀ b, b < 8 → a ≠ b → (TX11 a).2.1 ≠ (TX11 b).2.1 := by decide +kernel
theorem tyX11_ok : ∀ k, k < 8 → parseFieldDescriptor (TX11 k).2.2.1 = some (tyX11 k) := by decide +kernel
abbrev cX11_init : ByteArray := prog_1_method_1_code
def yX11_init : MethodName := ⟨RX11, "<init>", "()V"⟩
abbrev cX11_sheet : ByteArray := prog_1_method_2_code
def yX11_sheet : MethodName := ⟨RX11, "sheet", "(III)I"⟩
abbrev cX11_set : ByteArray := prog_1_method_3_code
def yX11_set : MethodName := ⟨RX11, "set", "(III)I"⟩
abbrev cX11_copy : ByteArray := prog_1_method_4_code
def yX11_copy : MethodName := ⟨RX11, "copy", "(IIIII)I"⟩
abbrev cX11_drop : ByteArray := prog_1_method_5_code
def yX11_drop : MethodName := ⟨RX11, "drop", "(I)I"⟩
abbrev cX11_world : ByteArray := prog_1_method_6_code
def yX11_world : MethodName := ⟨RX11, "world", "(III)I"⟩
abbrev cX11_river : ByteArray := prog_1_method_7_code
def yX11_river : MethodName := ⟨RX11, "river", "(II)I"⟩
abbrev cX11_rule : ByteArray := prog_1_method_8_code
def yX11_rule : MethodName := ⟨RX11, "rule", "(II)I"⟩
abbrev cX11_mayBeRule : ByteArray := prog_1_method_9_code
def yX11_mayBeRule : MethodName := ⟨RX11, "mayBeRule", "(II)Z"⟩
abbrev cX11_best : ByteArray := prog_1_method_10_code
def yX11_best : MethodName := ⟨RX11, "best", "()J"⟩
abbrev cX11_hour : ByteArray := prog_1_method_11_code
def yX11_hour : MethodName := ⟨RX11, "hour", "(III)I"⟩
abbrev cX11_shutAt : ByteArray := prog_1_method_12_code
def yX11_shutAt : MethodName := ⟨RX11, "shutAt", "(I)J"⟩
abbrev cX11_alarm : ByteArray := prog_1_method_13_code
def yX11_alarm : MethodName := ⟨RX11, "alarm", "()I"⟩
abbrev cX11_groups : ByteArray := prog_1_method_14_code
def yX11_groups : MethodName := ⟨RX11, "groups", "(I)I"⟩
abbrev cX11_gate : ByteArray := prog_1_method_15_code
def yX11_gate : MethodName := ⟨RX11, "gate", "(II)I"⟩
abbrev cX11_gateOf : ByteArray := prog_1_method_16_code
def yX11_gateOf : MethodName := ⟨RX11, "gateOf", "(II)LSeaGates$Gate;"⟩
abbrev cX11_fail : ByteArray := prog_1_method_17_code
def yX11_fail : MethodName := ⟨RX11, "fail", "(I)I"⟩
abbrev cX11_mend : ByteArray := prog_1_method_18_code
def yX11_mend : MethodName := ⟨RX11, "mend", "(I)I"⟩
abbrev cX11_becomes : ByteArray := prog_1_method_19_code
def yX11_becomes : MethodName := ⟨RX11, "becomes", "(IZ)I"⟩
abbrev cX11_time : ByteArray := prog_1_method_20_code
def yX11_time : MethodName := ⟨RX11, "time", "(II)I"⟩
abbrev cX11_ship : ByteArray := prog_1_method_21_code
def yX11_ship : MethodName := ⟨RX11, "ship", "(II)I"⟩
abbrev cX11_waits : ByteArray := prog_1_method_22_code
def yX11_waits : MethodName := ⟨RX11, "waits", "(III)I"⟩
abbrev cX11_closings : ByteArray := prog_1_method_23_code
def yX11_closings : MethodName := ⟨RX11, "closings", "(IIIIII)I"⟩
abbrev cX11_tooMany : ByteArray := prog_1_method_24_code
def yX11_tooMany : MethodName := ⟨RX11, "tooMany", "(IIIIII)I"⟩
abbrev cX11_arePeaks : ByteArray := prog_1_method_25_code
def yX11_arePeaks : MethodName := ⟨RX11, "arePeaks", "(III)Z"⟩
abbrev cX11_levelIn : ByteArray := prog_1_method_26_code
def yX11_levelIn : MethodName := ⟨RX11, "levelIn", "(III)J"⟩
abbrev cX11_kind : ByteArray := prog_1_method_27_code
def yX11_kind : MethodName := ⟨RX11, "kind", "(I)I"⟩
abbrev cX11_as : ByteArray := prog_1_method_28_code
def yX11_as : MethodName := ⟨RX11, "as", "(II)I"⟩
abbrev cX11_isOf : ByteArray := prog_1_method_29_code
def yX11_isOf : MethodName := ⟨RX11, "isOf", "(LSeaGates$Gate;I)Z"⟩
abbrev cX11_ask : ByteArray := prog_1_method_30_code
def yX11_ask : MethodName := ⟨RX11, "ask", "(II)I"⟩
abbrev cX11_trace : ByteArray := prog_1_method_31_code
def yX11_trace : MethodName := ⟨RX11, "trace", "(I)I"⟩
abbrev cX11_count : ByteArray := prog_1_method_32_code
def yX11_count : MethodName := ⟨RX11, "count", "(I)I"⟩
abbrev cX11_status : ByteArray := prog_1_method_33_code
def yX11_status : MethodName := ⟨RX11, "status", "()I"⟩
abbrev cX11_found : ByteArray := prog_1_method_34_code
def yX11_found : MethodName := ⟨RX11, "found", "(I)I"⟩
abbrev cX11_fine : ByteArray := prog_1_method_35_code
def yX11_fine : MethodName := ⟨RX11, "fine", "(I)I"⟩
abbrev cX11_within : ByteArray := prog_1_method_36_code
def yX11_within : MethodName := ⟨RX11, "within", "(III)Z"⟩
def RX12 : String := "SeaGatesModel"
def TX12 : u_T := fun k => match k with
  | 0 => ("SeaGatesModel", "thrown", "I", false)
  | 1 => ("SeaGatesModel", "status", "I", false)
  | 2 => ("SeaGatesModel", "rule", "[I", true)
  | 3 => ("SeaGatesModel", "river", "[I", true)
  | 4 => ("SeaGatesModel", "lane", "[I", true)
  | 5 => ("SeaGatesModel", "many", "[I", true)
  | 6 => ("SeaGatesModel", "item", "[I", true)
  | 7 => ("SeaGatesModel", "worlds", "I", false)
  | 8 => ("SeaGatesModel", "weight", "[I", true)
  | 9 => ("SeaGatesModel", "sea", "[I", true)
  | 10 => ("SeaGatesModel", "least", "[J", true)
  | 11 => ("SeaGatesModel", "isTold", "[Z", true)
  | 12 => ("SeaGatesModel", "gates", "I", false)
  | 13 => ("SeaGatesModel", "minutes", "[I", true)
  | 14 => ("SeaGatesModel", "hand", "[I", true)
  | 15 => ("SeaGatesModel", "hasFailed", "[Z", true)
  | 16 => ("SeaGatesModel", "crew", "[I", true)
  | 17 => ("SeaGatesModel", "ships", "I", false)
  | 18 => ("SeaGatesModel", "comes", "[I", true)
  | 19 => ("SeaGatesModel", "takes", "[I", true)
  | 20 => ("SeaGatesModel", "trace", "[I", true)
  | _ => ("SeaGatesModel", "traced", "I", false)
def tyX12 : Nat → FieldType := fun k => match k with
  | 0 => .int
  | 1 => .int
  | 2 => .array .int
  | 3 => .array .int
  | 4 => .array .int
  | 5 => .array .int
  | 6 => .array .int
  | 7 => .int
  | 8 => .array .int
  | 9 => .array .int
  | 10 => .array .long
  | 11 => .array .boolean
  | 12 => .int
  | 13 => .array .int
  | 14 => .array .int
  | 15 => .array .boolean
  | 16 => .array .int
  | 17 => .int
  | 18 => .array .int
  | 19 => .array .int
  | 20 => .array .int
  | _ => .int
abbrev wsX120 : List Cond := u_ws RX12 TX12 22
theorem nmX12 : ∀ a, a < 22 → ∀ b, b < 22 → a ≠ b → (TX12 a).2.1 ≠ (TX12 b).2.1 := by decide +kernel
theorem tyX12_ok : ∀ k, k < 22 → parseFieldDescriptor (TX12 k).2.2.1 = some (tyX12 k) := by decide +kernel
abbrev cX12_init : ByteArray := prog_14_method_1_code
def yX12_init : MethodName := ⟨RX12, "<init>", "()V"⟩
abbrev cX12_in : ByteArray := prog_14_method_3_code
def yX12_in : MethodName := ⟨RX12, "in", "(JJJ)Z"⟩
abbrev cX12_found : ByteArray := prog_14_method_4_code
def yX12_found : MethodName := ⟨RX12, "found", "(I)I"⟩
abbrev cX12_isSheet : ByteArray := prog_14_method_5_code
def yX12_isSheet : MethodName := ⟨RX12, "isSheet", "(I)Z"⟩
abbrev cX12_sheet : ByteArray := prog_14_method_6_code
def yX12_sheet : MethodName := ⟨RX12, "sheet", "(III)I"⟩
abbrev cX12_set : ByteArray := prog_14_method_7_code
def yX12_set : MethodName := ⟨RX12, "set", "(III)I"⟩
abbrev cX12_copy : ByteArray := prog_14_method_8_code
def yX12_copy : MethodName := ⟨RX12, "copy", "(IIIII)I"⟩
abbrev cX12_drop : ByteArray := prog_14_method_9_code
def yX12_drop : MethodName := ⟨RX12, "drop", "(I)I"⟩
abbrev cX12_world : ByteArray := prog_14_method_10_code
def yX12_world : MethodName := ⟨RX12, "world", "(III)I"⟩
abbrev cX12_river : ByteArray := prog_14_method_11_code
def yX12_river : MethodName := ⟨RX12, "river", "(II)I"⟩
abbrev cX12_rule : ByteArray := prog_14_method_12_code
def yX12_rule : MethodName := ⟨RX12, "rule", "(II)I"⟩
abbrev cX12_groupOf : ByteArray := prog_14_method_13_code
def yX12_groupOf : MethodName := ⟨RX12, "groupOf", "(II)I"⟩
abbrev cX12_stateIn : ByteArray := prog_14_method_14_code
def yX12_stateIn : MethodName := ⟨RX12, "stateIn", "(IZ)I"⟩
abbrev cX12_after : ByteArray := prog_14_method_15_code
def yX12_after : MethodName := ⟨RX12, "after", "(IZI)I"⟩
abbrev cX12_waterIn : ByteArray := prog_14_method_16_code
def yX12_waterIn : MethodName := ⟨RX12, "waterIn", "(IIZI)I"⟩
abbrev cX12_lostIn : ByteArray := prog_14_method_17_code
def yX12_lostIn : MethodName := ⟨RX12, "lostIn", "(IIZI)I"⟩
abbrev cX12_lossBy : ByteArray := prog_14_method_18_code
def yX12_lossBy : MethodName := ⟨RX12, "lossBy", "(IIZI)J"⟩
abbrev cX12_findBest : ByteArray := prog_14_method_19_code
def yX12_findBest : MethodName := ⟨RX12, "findBest", "()V"⟩
abbrev cX12_best : ByteArray := prog_14_method_20_code
def yX12_best : MethodName := ⟨RX12, "best", "()J"⟩
abbrev cX12_hour : ByteArray := prog_14_method_21_code
def yX12_hour : MethodName := ⟨RX12, "hour", "(III)I"⟩
abbrev cX12_shutAt : ByteArray := prog_14_method_22_code
def yX12_shutAt : MethodName := ⟨RX12, "shutAt", "(I)J"⟩
abbrev cX12_alarm : ByteArray := prog_14_method_23_code
def yX12_alarm : MethodName := ⟨RX12, "alarm", "()I"⟩
abbrev cX12_groups : ByteArray := prog_14_method_24_code
def yX12_groups : MethodName := ⟨RX12, "groups", "(I)I"⟩
abbrev cX12_isGate : ByteArray := prog_14_method_25_code
def yX12_isGate : MethodName := ⟨RX12, "isGate", "(I)Z"⟩
abbrev cX12_gate : ByteArray := prog_14_method_26_code
def yX12_gate : MethodName := ⟨RX12, "gate", "(II)I"⟩
abbrev cX12_fail : ByteArray := prog_14_method_27_code
def yX12_fail : MethodName := ⟨RX12, "fail", "(I)I"⟩
abbrev cX12_mend : ByteArray := prog_14_method_28_code
def yX12_mend : MethodName := ⟨RX12, "mend", "(I)I"⟩
abbrev cX12_timeBy : ByteArray := prog_14_method_29_code
def yX12_timeBy : MethodName := ⟨RX12, "timeBy", "(II)I"⟩
abbrev cX12_time : ByteArray := prog_14_method_30_code
def yX12_time : MethodName := ⟨RX12, "time", "(II)I"⟩
abbrev cX12_ship : ByteArray := prog_14_method_31_code
def yX12_ship : MethodName := ⟨RX12, "ship", "(II)I"⟩
abbrev cX12_waits : ByteArray := prog_14_method_32_code
def yX12_waits : MethodName := ⟨RX12, "waits", "(III)I"⟩
abbrev cX12_closingsOf : ByteArray := prog_14_method_33_code
def yX12_closingsOf : MethodName := ⟨RX12, "closingsOf", "(IIIIII)I"⟩
abbrev cX12_closings : ByteArray := prog_14_method_34_code
def yX12_closings : MethodName := ⟨RX12, "closings", "(IIIIII)I"⟩
abbrev cX12_tooMany : ByteArray := prog_14_method_35_code
def yX12_tooMany : MethodName := ⟨RX12, "tooMany", "(IIIIII)I"⟩
abbrev cX12_kindOf : ByteArray := prog_14_method_36_code
def yX12_kindOf : MethodName := ⟨RX12, "kindOf", "(I)I"⟩
abbrev cX12_kind : ByteArray := prog_14_method_37_code
def yX12_kind : MethodName := ⟨RX12, "kind", "(I)I"⟩
abbrev cX12_as : ByteArray := prog_14_method_38_code
def yX12_as : MethodName := ⟨RX12, "as", "(II)I"⟩
abbrev cX12_began : ByteArray := prog_14_method_39_code
def yX12_began : MethodName := ⟨RX12, "began", "(I)V"⟩
abbrev cX12_cost : ByteArray := prog_14_method_40_code
def yX12_cost : MethodName := ⟨RX12, "cost", "(I)I"⟩
abbrev cX12_marked : ByteArray := prog_14_method_41_code
def yX12_marked : MethodName := ⟨RX12, "marked", "(I)I"⟩
abbrev cX12_ask : ByteArray := prog_14_method_42_code
def yX12_ask : MethodName := ⟨RX12, "ask", "(II)I"⟩
abbrev cX12_trace : ByteArray := prog_14_method_43_code
def yX12_trace : MethodName := ⟨RX12, "trace", "(I)I"⟩
abbrev cX12_count : ByteArray := prog_14_method_44_code
def yX12_count : MethodName := ⟨RX12, "count", "(I)I"⟩
abbrev cX12_status : ByteArray := prog_14_method_45_code
def yX12_status : MethodName := ⟨RX12, "status", "()I"⟩
def RJ9 : String := "java/lang/Math"
def TJ9 : u_T := fun k => match k with
  | _ => ("", "", "", false)
def tyJ9 : Nat → FieldType := fun k => match k with
  | _ => .int
abbrev wsJ90 : List Cond := u_ws RJ9 TJ9 0
theorem nmJ9 : ∀ a, a < 0 → ∀ b, b < 0 → a ≠ b → (TJ9 a).2.1 ≠ (TJ9 b).2.1 := by decide +kernel
theorem tyJ9_ok : ∀ k, k < 0 → parseFieldDescriptor (TJ9 k).2.2.1 = some (tyJ9 k) := by decide +kernel
abbrev cJ9_max_7cf53 : ByteArray := prog_15_method_65_code
def yJ9_max_7cf53 : MethodName := ⟨RJ9, "max", "(II)I"⟩
abbrev cJ9_min_7cf53 : ByteArray := prog_15_method_69_code
def yJ9_min_7cf53 : MethodName := ⟨RJ9, "min", "(II)I"⟩
def RJ10 : String := "java/lang/System"
def TJ10 : u_T := fun k => match k with
  | _ => ("", "", "", false)
def tyJ10 : Nat → FieldType := fun k => match k with
  | _ => .int
abbrev wsJ100 : List Cond := u_ws RJ10 TJ10 0
theorem nmJ10 : ∀ a, a < 0 → ∀ b, b < 0 → a ≠ b → (TJ10 a).2.1 ≠ (TJ10 b).2.1 := by decide +kernel
theorem tyJ10_ok : ∀ k, k < 0 → parseFieldDescriptor (TJ10 k).2.2.1 = some (tyJ10 k) := by decide +kernel
def RJ7 : String := "java/util/Arrays"
def TJ7 : u_T := fun k => match k with
  | _ => ("", "", "", false)
def tyJ7 : Nat → FieldType := fun k => match k with
  | _ => .int
abbrev wsJ70 : List Cond := u_ws RJ7 TJ7 0
theorem nmJ7 : ∀ a, a < 0 → ∀ b, b < 0 → a ≠ b → (TJ7 a).2.1 ≠ (TJ7 b).2.1 := by decide +kernel
theorem tyJ7_ok : ∀ k, k < 0 → parseFieldDescriptor (TJ7 k).2.2.1 = some (tyJ7 k) := by decide +kernel
abbrev cJ7_fill_53178 : ByteArray := prog_17_method_103_code
def yJ7_fill_53178 : MethodName := ⟨RJ7, "fill", "([II)V"⟩
def RL : String := "SeaGatesLaw"
abbrev cL_law : ByteArray := code
def yL_law : MethodName := ⟨RL, "law", "([I)Z"⟩
def wsX0_init : List Cond := .code yX0_init cX0_init 2 none :: ([.methodLink RX0 3 objectInit, .instanceMethod objectInit, .code objectInit ⟨#[0xb1]⟩ 1 none, .arrayClass .int, .fieldLink RX0 9 "SeaGates$Barrier" "rules" "[I", .fieldLink RX0 15 "SeaGates$Barrier" "rivers" "[I", .fieldLink RX0 18 "SeaGates$Barrier" "sea" "LSeaGates$Sea;"] ++ wsX00)
def wsX0_mayBeTold : List Cond := .code yX0_mayBeTold cX0_mayBeTold 1 (some .boolean) :: ([])
def wsX0_order : List Cond := .code yX0_order cX0_order 2 (some .int) :: ([])
def wsX0_how : List Cond := .code yX0_how cX0_how 1 (some .int) :: ([])
def wsX0_stands : List Cond := .code yX0_stands cX0_stands 3 (some .int) :: ([.fieldLink RX0 9 "SeaGates$Barrier" "rules" "[I"] ++ wsX00)
def wsX0_next : List Cond := .code yX0_next cX0_next 2 (some .int) :: ([.methodLink RX0 22 yX0_mayBeTold, .static yX0_mayBeTold, .initialized RX0, .code yX0_mayBeTold cX0_mayBeTold 1 (some .boolean)])
def wsX0_water : List Cond := .code yX0_water cX0_water 7 (some .int) :: ([.fieldLink RX0 18 "SeaGates$Barrier" "sea" "LSeaGates$Sea;", .fieldLink RX0 26 "SeaGates$Sea" "levels" "[[I", .methodLink RX0 32 Lib.Math.min.name, .static Lib.Math.min.name, .initialized "java/lang/Math", .code Lib.Math.min.name Lib.Math.min.code 2 (some .int), .fieldLink RX0 15 "SeaGates$Barrier" "rivers" "[I"] ++ wsX00 ++ wsX60)
def wsX0_lost : List Cond := .code yX0_lost cX0_lost 8 (some .int) :: ([.fieldLink RX0 9 "SeaGates$Barrier" "rules" "[I", .methodLink RX0 46 Lib.Math.max.name, .static Lib.Math.max.name, .initialized "java/lang/Math", .code Lib.Math.max.name Lib.Math.max.code 2 (some .int), .methodLink RX0 38 yX0_stands, .instanceMethod yX0_stands, .selects RX0 yX0_stands yX0_stands, .initialized RX0, .code yX0_stands cX0_stands 3 (some .int), .methodLink RX0 42 yX0_water, .instanceMethod yX0_water, .selects RX0 yX0_water yX0_water, .code yX0_water cX0_water 7 (some .int), .fieldLink RX0 18 "SeaGates$Barrier" "sea" "LSeaGates$Sea;", .fieldLink RX0 26 "SeaGates$Sea" "levels" "[[I", .methodLink RX0 32 Lib.Math.min.name, .static Lib.Math.min.name, .code Lib.Math.min.name Lib.Math.min.code 2 (some .int), .fieldLink RX0 15 "SeaGates$Barrier" "rivers" "[I"] ++ wsX00 ++ wsX60)
def wsX0_lossOfOneOrder_r1 : List Cond := [Cond.fieldLink RX0 18 "SeaGates$Barrier" "sea" "LSeaGates$Sea;", Cond.fieldLink RX0 49 "SeaGates$Sea" "size" "I", Cond.fieldLink RX0 53 "SeaGates$Sea" "weights" "[I", Cond.methodLink RX0 56 yX0_lost, Cond.instanceMethod yX0_lost, Cond.selects RX0 yX0_lost yX0_lost, Cond.initialized RX0, Cond.code yX0_lost cX0_lost 8 (some .int), Cond.fieldLink RX0 9 "SeaGates$Barrier" "rules" "[I", Cond.methodLink RX0 46 Lib.Math.max.name, Cond.static Lib.Math.max.name, Cond.initialized "java/lang/Math", Cond.code Lib.Math.max.name Lib.Math.max.code 2 (some .int), Cond.methodLink RX0 38 yX0_stands, Cond.instanceMethod yX0_stands, Cond.selects RX0 yX0_stands yX0_stands, Cond.code yX0_stands cX0_stands 3 (some .int), Cond.methodLink RX0 42 yX0_water, Cond.instanceMethod yX0_water, Cond.selects RX0 yX0_water yX0_water, Cond.code yX0_water cX0_water 7 (some .int), Cond.fieldLink RX0 26 "SeaGates$Sea" "levels" "[[I", Cond.methodLink RX0 32 Lib.Math.min.name, Cond.static Lib.Math.min.name]
def wsX0_lossOfOneOrder_r2 : List Cond := [Cond.code Lib.Math.min.name Lib.Math.min.code 2 (some .int), Cond.fieldLink RX0 15 "SeaGates$Barrier" "rivers" "[I", Cond.methodLink RX0 60 yX0_next, Cond.static yX0_next, Cond.code yX0_next cX0_next 2 (some .int), Cond.methodLink RX0 22 yX0_mayBeTold, Cond.static yX0_mayBeTold, Cond.code yX0_mayBeTold cX0_mayBeTold 1 (some .boolean)]
def wsX0_lossOfOneOrder : List Cond := .code yX0_lossOfOneOrder cX0_lossOfOneOrder 8 (some .long) :: ((wsX0_lossOfOneOrder_r1 ++ wsX0_lossOfOneOrder_r2) ++ wsX00 ++ wsX60)
def wsX1_init : List Cond := .code yX1_init cX1_init 1 none :: ([.methodLink RX1 3 objectInit, .instanceMethod objectInit, .code objectInit ⟨#[0xb1]⟩ 1 none, .arrayClass .int, .fieldLink RX1 9 "SeaGates$Fairway" "minutes" "[I", .fieldLink RX1 15 "SeaGates$Fairway" "passing" "[I", .fieldLink RX1 18 "SeaGates$Fairway" "inTurn" "[I", .fieldLink RX1 21 "SeaGates$Fairway" "size" "I"] ++ wsX10)
def wsX1_add : List Cond := .code yX1_add cX1_add 5 (some .int) :: ([.fieldLink RX1 21 "SeaGates$Fairway" "size" "I", .fieldLink RX1 9 "SeaGates$Fairway" "minutes" "[I", .fieldLink RX1 15 "SeaGates$Fairway" "passing" "[I", .fieldLink RX1 18 "SeaGates$Fairway" "inTurn" "[I"] ++ wsX10)
def wsX1_waitOf : List Cond := .code yX1_waitOf cX1_waitOf 9 (some .int) :: ([.fieldLink RX1 21 "SeaGates$Fairway" "size" "I", .fieldLink RX1 18 "SeaGates$Fairway" "inTurn" "[I", .fieldLink RX1 9 "SeaGates$Fairway" "minutes" "[I", .methodLink RX1 25 Lib.Math.max.name, .static Lib.Math.max.name, .initialized "java/lang/Math", .code Lib.Math.max.name Lib.Math.max.code 2 (some .int), .fieldLink RX1 15 "SeaGates$Fairway" "passing" "[I"] ++ wsX10)
def wsX2_init : List Cond := .code yX2_init cX2_init 3 none :: ([.methodLink RX2 3 objectInit, .instanceMethod objectInit, .code objectInit ⟨#[0xb1]⟩ 1 none, .fieldLink RX2 9 "SeaGates$Gate" "failed" "Z", .fieldLink RX2 15 "SeaGates$Gate" "minutes" "I", .fieldLink RX2 19 "SeaGates$Gate" "hand" "I"] ++ wsX20 ++ wsX30 ++ wsX80 ++ wsX100)
def wsX2_toldAs : List Cond := .code yX2_toldAs cX2_toldAs 1 (some .int) :: ([])
def wsX9_leave : List Cond := .code yX9_leave cX9_leave 2 none :: ([.fieldLink RX9 15 "SeaGates$Trace" "length" "I", .fieldLink RX9 9 "SeaGates$Trace" "numbers" "[I"] ++ wsX90)
def wsX2_cost : List Cond := .code yX2_cost cX2_cost 2 (some .int) :: ([.fieldLink RX2 15 "SeaGates$Gate" "minutes" "I", .methodLink RX2 22 yX9_leave, .instanceMethod yX9_leave, .selects RX9 yX9_leave yX9_leave, .initialized RX9, .code yX9_leave cX9_leave 2 none, .fieldLink RX9 15 "SeaGates$Trace" "length" "I", .fieldLink RX9 9 "SeaGates$Trace" "numbers" "[I"] ++ wsX20 ++ wsX30 ++ wsX80 ++ wsX100 ++ wsX90)
def wsX2_mark : List Cond := .code yX2_mark cX2_mark 2 (some .int) :: ([.fieldLink RX2 9 "SeaGates$Gate" "failed" "Z", .methodLink RX2 22 yX9_leave, .instanceMethod yX9_leave, .selects RX9 yX9_leave yX9_leave, .initialized RX9, .code yX9_leave cX9_leave 2 none, .fieldLink RX9 15 "SeaGates$Trace" "length" "I", .fieldLink RX9 9 "SeaGates$Trace" "numbers" "[I"] ++ wsX20 ++ wsX30 ++ wsX80 ++ wsX100 ++ wsX90)
def wsX3_init : List Cond := .code yX3_init cX3_init 3 none :: ([.methodLink RX3 3 yX2_init, .instanceMethod yX2_init, .initialized RX2, .code yX2_init cX2_init 3 none, .methodLink RX2 3 objectInit, .instanceMethod objectInit, .code objectInit ⟨#[0xb1]⟩ 1 none, .fieldLink RX2 9 "SeaGates$Gate" "failed" "Z", .fieldLink RX2 15 "SeaGates$Gate" "minutes" "I", .fieldLink RX2 19 "SeaGates$Gate" "hand" "I"] ++ wsX20 ++ wsX30 ++ wsX80 ++ wsX100)
def wsX3_toldAs : List Cond := .code yX3_toldAs cX3_toldAs 1 (some .int) :: ([])
def wsX3_cost : List Cond := .code yX3_cost cX3_cost 2 (some .int) :: ([.fieldLink RX3 19 "SeaGates$Handed" "hand" "I", .sameField "SeaGates$Handed" "SeaGates$Gate" "hand" "I", .methodLink RX3 9 yX9_leave, .instanceMethod yX9_leave, .selects RX9 yX9_leave yX9_leave, .initialized RX9, .code yX9_leave cX9_leave 2 none, .fieldLink RX9 15 "SeaGates$Trace" "length" "I", .fieldLink RX9 9 "SeaGates$Trace" "numbers" "[I", .methodLink RX3 15 yX2_cost, .sameMethod "SeaGates$Gate" "SeaGates$Gate" "cost" "(LSeaGates$Trace;)I", .superclass RX3 RX2, .instanceMethod yX2_cost, .initialized RX2, .code yX2_cost cX2_cost 2 (some .int), .fieldLink RX2 15 "SeaGates$Gate" "minutes" "I", .methodLink RX2 22 yX9_leave] ++ wsX20 ++ wsX30 ++ wsX80 ++ wsX100 ++ wsX90)
def wsX10_cost : List Cond := .code yX10_cost cX10_cost 2 (some .int) :: ([.methodLink RX10 9 yX9_leave, .instanceMethod yX9_leave, .selects RX9 yX9_leave yX9_leave, .initialized RX9, .code yX9_leave cX9_leave 2 none, .fieldLink RX9 15 "SeaGates$Trace" "length" "I", .fieldLink RX9 9 "SeaGates$Trace" "numbers" "[I", .methodLink RX10 15 yX3_cost, .sameMethod "SeaGates$Handed" "SeaGates$Handed" "cost" "(LSeaGates$Trace;)I", .superclass RX10 RX3, .instanceMethod yX3_cost, .initialized RX3, .code yX3_cost cX3_cost 2 (some .int), .fieldLink RX3 19 "SeaGates$Handed" "hand" "I", .sameField "SeaGates$Handed" "SeaGates$Gate" "hand" "I", .methodLink RX3 9 yX9_leave, .methodLink RX3 15 yX2_cost, .sameMethod "SeaGates$Gate" "SeaGates$Gate" "cost" "(LSeaGates$Trace;)I", .superclass RX3 RX2, .instanceMethod yX2_cost, .initialized RX2, .code yX2_cost cX2_cost 2 (some .int), .fieldLink RX2 15 "SeaGates$Gate" "minutes" "I", .methodLink RX2 22 yX9_leave] ++ wsX90 ++ wsX20 ++ wsX30 ++ wsX80 ++ wsX100)
def wsX3_mark_r1 : List Cond := [Cond.methodLink RX3 9 yX9_leave, Cond.instanceMethod yX9_leave, Cond.selects RX9 yX9_leave yX9_leave, Cond.initialized RX9, Cond.code yX9_leave cX9_leave 2 none, Cond.fieldLink RX9 15 "SeaGates$Trace" "length" "I", Cond.fieldLink RX9 9 "SeaGates$Trace" "numbers" "[I", Cond.methodLink RX3 25 yX2_mark, Cond.sameMethod "SeaGates$Gate" "SeaGates$Gate" "mark" "(LSeaGates$Trace;)I", Cond.superclass RX3 RX2, Cond.instanceMethod yX2_mark, Cond.initialized RX2, Cond.code yX2_mark cX2_mark 2 (some .int), Cond.fieldLink RX2 9 "SeaGates$Gate" "failed" "Z", Cond.methodLink RX2 22 yX9_leave, Cond.methodLink RX3 28 yX3_cost, Cond.instanceMethod yX3_cost, Cond.selects RX3 yX3_cost yX3_cost, Cond.initialized RX3, Cond.code yX3_cost cX3_cost 2 (some .int), Cond.fieldLink RX3 19 "SeaGates$Handed" "hand" "I", Cond.sameField "SeaGates$Handed" "SeaGates$Gate" "hand" "I", Cond.methodLink RX3 15 yX2_cost, Cond.sameMethod "SeaGates$Gate" "SeaGates$Gate" "cost" "(LSeaGates$Trace;)I"]
def wsX3_mark_r2 : List Cond := [Cond.instanceMethod yX2_cost, Cond.code yX2_cost cX2_cost 2 (some .int), Cond.fieldLink RX2 15 "SeaGates$Gate" "minutes" "I", Cond.methodLink RX3 28 ⟨"SeaGates$Handed", "cost", "(LSeaGates$Trace;)I"⟩, Cond.sameMethod "SeaGates$Handed" "SeaGates$Handed" "cost" "(LSeaGates$Trace;)I", Cond.instanceMethod ⟨"SeaGates$Handed", "cost", "(LSeaGates$Trace;)I"⟩, Cond.selects RX10 ⟨"SeaGates$Handed", "cost", "(LSeaGates$Trace;)I"⟩ yX10_cost, Cond.instanceMethod yX10_cost, Cond.initialized RX10, Cond.code yX10_cost cX10_cost 2 (some .int), Cond.methodLink RX10 9 yX9_leave, Cond.methodLink RX10 15 yX3_cost, Cond.superclass RX10 RX3]
def wsX3_mark : List Cond := .code yX3_mark cX3_mark 2 (some .int) :: ((wsX3_mark_r1 ++ wsX3_mark_r2) ++ wsX90 ++ wsX20 ++ wsX30 ++ wsX80 ++ wsX100)
def wsX4_init : List Cond := .code yX4_init cX4_init 3 none :: ([.methodLink RX4 3 objectInit, .instanceMethod objectInit, .code objectInit ⟨#[0xb1]⟩ 1 none, .classLink RX4 9 "[[I", .arrayClass .int, .fieldLink RX4 11 "SeaGates$Plan" "orders" "[[I", .classLink RX4 16 "[[J", .arrayClass .long, .fieldLink RX4 18 "SeaGates$Plan" "now" "[[J", .fieldLink RX4 21 "SeaGates$Plan" "then" "[[J", .fieldLink RX4 24 "SeaGates$Plan" "loss" "J", .fieldLink RX4 28 "SeaGates$Plan" "stale" "Z", .fieldLink RX4 32 "SeaGates$Plan" "sea" "LSeaGates$Sea;", .fieldLink RX4 36 "SeaGates$Plan" "barrier" "LSeaGates$Barrier;"] ++ wsX40)
def wsX6_weightOfGroup : List Cond := .code yX6_weightOfGroup cX6_weightOfGroup 5 (some .int) :: ([.fieldLink RX6 23 "SeaGates$Sea" "size" "I", .fieldLink RX6 20 "SeaGates$Sea" "heads" "[[I", .fieldLink RX6 9 "SeaGates$Sea" "weights" "[I"] ++ wsX60)
def wsX4_lossFrom_r1 : List Cond := [Cond.fieldLink RX4 36 "SeaGates$Plan" "barrier" "LSeaGates$Barrier;", Cond.fieldLink RX4 32 "SeaGates$Plan" "sea" "LSeaGates$Sea;", Cond.fieldLink RX4 44 "SeaGates$Sea" "size" "I", Cond.fieldLink RX4 50 "SeaGates$Sea" "heads" "[[I", Cond.fieldLink RX4 21 "SeaGates$Plan" "then" "[[J", Cond.methodLink RX4 77 yX0_lost, Cond.instanceMethod yX0_lost, Cond.selects RX0 yX0_lost yX0_lost, Cond.initialized RX0, Cond.code yX0_lost cX0_lost 8 (some .int), Cond.fieldLink RX0 9 "SeaGates$Barrier" "rules" "[I", Cond.methodLink RX0 46 Lib.Math.max.name, Cond.static Lib.Math.max.name, Cond.initialized "java/lang/Math", Cond.code Lib.Math.max.name Lib.Math.max.code 2 (some .int), Cond.methodLink RX0 38 yX0_stands, Cond.instanceMethod yX0_stands, Cond.selects RX0 yX0_stands yX0_stands, Cond.code yX0_stands cX0_stands 3 (some .int), Cond.methodLink RX0 42 yX0_water, Cond.instanceMethod yX0_water, Cond.selects RX0 yX0_water yX0_water, Cond.code yX0_water cX0_water 7 (some .int), Cond.fieldLink RX0 18 "SeaGates$Barrier" "sea" "LSeaGates$Sea;"]
def wsX4_lossFrom_r2 : List Cond := [Cond.fieldLink RX0 26 "SeaGates$Sea" "levels" "[[I", Cond.methodLink RX0 32 Lib.Math.min.name, Cond.static Lib.Math.min.name, Cond.code Lib.Math.min.name Lib.Math.min.code 2 (some .int), Cond.fieldLink RX0 15 "SeaGates$Barrier" "rivers" "[I", Cond.methodLink RX4 81 yX0_stands, Cond.methodLink RX4 85 yX0_next, Cond.static yX0_next, Cond.code yX0_next cX0_next 2 (some .int), Cond.methodLink RX0 22 yX0_mayBeTold, Cond.static yX0_mayBeTold, Cond.code yX0_mayBeTold cX0_mayBeTold 1 (some .boolean)]
def wsX4_lossFrom : List Cond := .code yX4_lossFrom cX4_lossFrom 10 (some .long) :: ((wsX4_lossFrom_r1 ++ wsX4_lossFrom_r2) ++ wsX40 ++ wsX60 ++ wsX00)
def wsX4_decideGroup_r1 : List Cond := [Cond.fieldLink RX4 32 "SeaGates$Plan" "sea" "LSeaGates$Sea;", Cond.fieldLink RX4 11 "SeaGates$Plan" "orders" "[[I", Cond.fieldLink RX4 18 "SeaGates$Plan" "now" "[[J", Cond.methodLink RX4 63 yX6_weightOfGroup, Cond.instanceMethod yX6_weightOfGroup, Cond.selects RX6 yX6_weightOfGroup yX6_weightOfGroup, Cond.initialized RX6, Cond.code yX6_weightOfGroup cX6_weightOfGroup 5 (some .int), Cond.fieldLink RX6 23 "SeaGates$Sea" "size" "I", Cond.fieldLink RX6 20 "SeaGates$Sea" "heads" "[[I", Cond.fieldLink RX6 9 "SeaGates$Sea" "weights" "[I", Cond.methodLink RX4 67 yX4_lossFrom, Cond.instanceMethod yX4_lossFrom, Cond.selects RX4 yX4_lossFrom yX4_lossFrom, Cond.initialized RX4, Cond.code yX4_lossFrom cX4_lossFrom 10 (some .long), Cond.fieldLink RX4 36 "SeaGates$Plan" "barrier" "LSeaGates$Barrier;", Cond.fieldLink RX4 44 "SeaGates$Sea" "size" "I", Cond.fieldLink RX4 50 "SeaGates$Sea" "heads" "[[I", Cond.fieldLink RX4 21 "SeaGates$Plan" "then" "[[J", Cond.methodLink RX4 77 yX0_lost, Cond.instanceMethod yX0_lost, Cond.selects RX0 yX0_lost yX0_lost, Cond.initialized RX0]
def wsX4_decideGroup_r2 : List Cond := [Cond.code yX0_lost cX0_lost 8 (some .int), Cond.fieldLink RX0 9 "SeaGates$Barrier" "rules" "[I", Cond.methodLink RX0 46 Lib.Math.max.name, Cond.static Lib.Math.max.name, Cond.initialized "java/lang/Math", Cond.code Lib.Math.max.name Lib.Math.max.code 2 (some .int), Cond.methodLink RX0 38 yX0_stands, Cond.instanceMethod yX0_stands, Cond.selects RX0 yX0_stands yX0_stands, Cond.code yX0_stands cX0_stands 3 (some .int), Cond.methodLink RX0 42 yX0_water, Cond.instanceMethod yX0_water, Cond.selects RX0 yX0_water yX0_water, Cond.code yX0_water cX0_water 7 (some .int), Cond.fieldLink RX0 18 "SeaGates$Barrier" "sea" "LSeaGates$Sea;", Cond.fieldLink RX0 26 "SeaGates$Sea" "levels" "[[I", Cond.methodLink RX0 32 Lib.Math.min.name, Cond.static Lib.Math.min.name, Cond.code Lib.Math.min.name Lib.Math.min.code 2 (some .int), Cond.fieldLink RX0 15 "SeaGates$Barrier" "rivers" "[I", Cond.methodLink RX4 81 yX0_stands, Cond.methodLink RX4 85 yX0_next, Cond.static yX0_next, Cond.code yX0_next cX0_next 2 (some .int)]
def wsX4_decideGroup_r3 : List Cond := [Cond.methodLink RX0 22 yX0_mayBeTold, Cond.static yX0_mayBeTold, Cond.code yX0_mayBeTold cX0_mayBeTold 1 (some .boolean), Cond.methodLink RX4 71 yX0_mayBeTold]
def wsX4_decideGroup : List Cond := .code yX4_decideGroup cX4_decideGroup 9 none :: ((wsX4_decideGroup_r1 ++ (wsX4_decideGroup_r2 ++ wsX4_decideGroup_r3)) ++ wsX40 ++ wsX60 ++ wsX00)
def wsX4_decideHour_r1 : List Cond := [Cond.fieldLink RX4 32 "SeaGates$Plan" "sea" "LSeaGates$Sea;", Cond.fieldLink RX4 44 "SeaGates$Sea" "size" "I", Cond.fieldLink RX4 18 "SeaGates$Plan" "now" "[[J", Cond.fieldLink RX4 21 "SeaGates$Plan" "then" "[[J", Cond.methodLink RX4 53 arraycopyName, Cond.native arraycopyName, Cond.static arraycopyName, Cond.initialized "java/lang/System", Cond.fieldLink RX4 11 "SeaGates$Plan" "orders" "[[I", Cond.fieldLink RX4 50 "SeaGates$Sea" "heads" "[[I", Cond.methodLink RX4 59 yX4_decideGroup, Cond.instanceMethod yX4_decideGroup, Cond.selects RX4 yX4_decideGroup yX4_decideGroup, Cond.initialized RX4, Cond.code yX4_decideGroup cX4_decideGroup 9 none, Cond.methodLink RX4 63 yX6_weightOfGroup, Cond.instanceMethod yX6_weightOfGroup, Cond.selects RX6 yX6_weightOfGroup yX6_weightOfGroup, Cond.initialized RX6, Cond.code yX6_weightOfGroup cX6_weightOfGroup 5 (some .int), Cond.fieldLink RX6 23 "SeaGates$Sea" "size" "I", Cond.fieldLink RX6 20 "SeaGates$Sea" "heads" "[[I", Cond.fieldLink RX6 9 "SeaGates$Sea" "weights" "[I", Cond.methodLink RX4 67 yX4_lossFrom]
def wsX4_decideHour_r2 : List Cond := [Cond.instanceMethod yX4_lossFrom, Cond.selects RX4 yX4_lossFrom yX4_lossFrom, Cond.code yX4_lossFrom cX4_lossFrom 10 (some .long), Cond.fieldLink RX4 36 "SeaGates$Plan" "barrier" "LSeaGates$Barrier;", Cond.methodLink RX4 77 yX0_lost, Cond.instanceMethod yX0_lost, Cond.selects RX0 yX0_lost yX0_lost, Cond.initialized RX0, Cond.code yX0_lost cX0_lost 8 (some .int), Cond.fieldLink RX0 9 "SeaGates$Barrier" "rules" "[I", Cond.methodLink RX0 46 Lib.Math.max.name, Cond.static Lib.Math.max.name, Cond.initialized "java/lang/Math", Cond.code Lib.Math.max.name Lib.Math.max.code 2 (some .int), Cond.methodLink RX0 38 yX0_stands, Cond.instanceMethod yX0_stands, Cond.selects RX0 yX0_stands yX0_stands, Cond.code yX0_stands cX0_stands 3 (some .int), Cond.methodLink RX0 42 yX0_water, Cond.instanceMethod yX0_water, Cond.selects RX0 yX0_water yX0_water, Cond.code yX0_water cX0_water 7 (some .int), Cond.fieldLink RX0 18 "SeaGates$Barrier" "sea" "LSeaGates$Sea;", Cond.fieldLink RX0 26 "SeaGates$Sea" "levels" "[[I"]
def wsX4_decideHour_r3 : List Cond := [Cond.methodLink RX0 32 Lib.Math.min.name, Cond.static Lib.Math.min.name, Cond.code Lib.Math.min.name Lib.Math.min.code 2 (some .int), Cond.fieldLink RX0 15 "SeaGates$Barrier" "rivers" "[I", Cond.methodLink RX4 81 yX0_stands, Cond.methodLink RX4 85 yX0_next, Cond.static yX0_next, Cond.code yX0_next cX0_next 2 (some .int), Cond.methodLink RX0 22 yX0_mayBeTold, Cond.static yX0_mayBeTold, Cond.code yX0_mayBeTold cX0_mayBeTold 1 (some .boolean), Cond.methodLink RX4 71 yX0_mayBeTold]
def wsX4_decideHour : List Cond := .code yX4_decideHour cX4_decideHour 3 none :: ((wsX4_decideHour_r1 ++ (wsX4_decideHour_r2 ++ wsX4_decideHour_r3)) ++ wsX40 ++ wsX60 ++ wsX00)
def wsX4_refresh_r1 : List Cond := [Cond.fieldLink RX4 28 "SeaGates$Plan" "stale" "Z", Cond.fieldLink RX4 24 "SeaGates$Plan" "loss" "J", Cond.fieldLink RX4 32 "SeaGates$Plan" "sea" "LSeaGates$Sea;", Cond.fieldLink RX4 44 "SeaGates$Sea" "size" "I", Cond.fieldLink RX4 50 "SeaGates$Sea" "heads" "[[I", Cond.fieldLink RX4 18 "SeaGates$Plan" "now" "[[J", Cond.methodLink RX4 40 yX4_decideHour, Cond.instanceMethod yX4_decideHour, Cond.selects RX4 yX4_decideHour yX4_decideHour, Cond.initialized RX4, Cond.code yX4_decideHour cX4_decideHour 3 none, Cond.fieldLink RX4 21 "SeaGates$Plan" "then" "[[J", Cond.methodLink RX4 53 arraycopyName, Cond.native arraycopyName, Cond.static arraycopyName, Cond.initialized "java/lang/System", Cond.fieldLink RX4 11 "SeaGates$Plan" "orders" "[[I", Cond.methodLink RX4 59 yX4_decideGroup, Cond.instanceMethod yX4_decideGroup, Cond.selects RX4 yX4_decideGroup yX4_decideGroup, Cond.code yX4_decideGroup cX4_decideGroup 9 none, Cond.methodLink RX4 63 yX6_weightOfGroup, Cond.instanceMethod yX6_weightOfGroup, Cond.selects RX6 yX6_weightOfGroup yX6_weightOfGroup]
def wsX4_refresh_r2 : List Cond := [Cond.initialized RX6, Cond.code yX6_weightOfGroup cX6_weightOfGroup 5 (some .int), Cond.fieldLink RX6 23 "SeaGates$Sea" "size" "I", Cond.fieldLink RX6 20 "SeaGates$Sea" "heads" "[[I", Cond.fieldLink RX6 9 "SeaGates$Sea" "weights" "[I", Cond.methodLink RX4 67 yX4_lossFrom, Cond.instanceMethod yX4_lossFrom, Cond.selects RX4 yX4_lossFrom yX4_lossFrom, Cond.code yX4_lossFrom cX4_lossFrom 10 (some .long), Cond.fieldLink RX4 36 "SeaGates$Plan" "barrier" "LSeaGates$Barrier;", Cond.methodLink RX4 77 yX0_lost, Cond.instanceMethod yX0_lost, Cond.selects RX0 yX0_lost yX0_lost, Cond.initialized RX0, Cond.code yX0_lost cX0_lost 8 (some .int), Cond.fieldLink RX0 9 "SeaGates$Barrier" "rules" "[I", Cond.methodLink RX0 46 Lib.Math.max.name, Cond.static Lib.Math.max.name, Cond.initialized "java/lang/Math", Cond.code Lib.Math.max.name Lib.Math.max.code 2 (some .int), Cond.methodLink RX0 38 yX0_stands, Cond.instanceMethod yX0_stands, Cond.selects RX0 yX0_stands yX0_stands, Cond.code yX0_stands cX0_stands 3 (some .int)]
def wsX4_refresh_r3 : List Cond := [Cond.methodLink RX0 42 yX0_water, Cond.instanceMethod yX0_water, Cond.selects RX0 yX0_water yX0_water, Cond.code yX0_water cX0_water 7 (some .int), Cond.fieldLink RX0 18 "SeaGates$Barrier" "sea" "LSeaGates$Sea;", Cond.fieldLink RX0 26 "SeaGates$Sea" "levels" "[[I", Cond.methodLink RX0 32 Lib.Math.min.name, Cond.static Lib.Math.min.name, Cond.code Lib.Math.min.name Lib.Math.min.code 2 (some .int), Cond.fieldLink RX0 15 "SeaGates$Barrier" "rivers" "[I", Cond.methodLink RX4 81 yX0_stands, Cond.methodLink RX4 85 yX0_next, Cond.static yX0_next, Cond.code yX0_next cX0_next 2 (some .int), Cond.methodLink RX0 22 yX0_mayBeTold, Cond.static yX0_mayBeTold, Cond.code yX0_mayBeTold cX0_mayBeTold 1 (some .boolean), Cond.methodLink RX4 71 yX0_mayBeTold]
def wsX4_refresh : List Cond := .code yX4_refresh cX4_refresh 2 none :: ((wsX4_refresh_r1 ++ (wsX4_refresh_r2 ++ wsX4_refresh_r3)) ++ wsX40 ++ wsX60 ++ wsX00)
def wsX4_tells : List Cond := .code yX4_tells cX4_tells 4 (some .boolean) :: ([.fieldLink RX4 11 "SeaGates$Plan" "orders" "[[I", .fieldLink RX4 32 "SeaGates$Plan" "sea" "LSeaGates$Sea;", .fieldLink RX4 50 "SeaGates$Sea" "heads" "[[I"] ++ wsX40 ++ wsX60)
def wsX4_stateAt : List Cond := .code yX4_stateAt cX4_stateAt 5 (some .int) :: ([.fieldLink RX4 36 "SeaGates$Plan" "barrier" "LSeaGates$Barrier;", .methodLink RX4 88 yX4_tells, .instanceMethod yX4_tells, .selects RX4 yX4_tells yX4_tells, .initialized RX4, .code yX4_tells cX4_tells 4 (some .boolean), .fieldLink RX4 11 "SeaGates$Plan" "orders" "[[I", .fieldLink RX4 32 "SeaGates$Plan" "sea" "LSeaGates$Sea;", .fieldLink RX4 50 "SeaGates$Sea" "heads" "[[I", .methodLink RX4 81 yX0_stands, .instanceMethod yX0_stands, .selects RX0 yX0_stands yX0_stands, .initialized RX0, .code yX0_stands cX0_stands 3 (some .int), .fieldLink RX0 9 "SeaGates$Barrier" "rules" "[I", .methodLink RX4 85 yX0_next, .static yX0_next, .code yX0_next cX0_next 2 (some .int), .methodLink RX0 22 yX0_mayBeTold, .static yX0_mayBeTold, .code yX0_mayBeTold cX0_mayBeTold 1 (some .boolean)] ++ wsX40 ++ wsX60 ++ wsX00)
def wsX5_init : List Cond := .code yX5_init cX5_init 1 none :: ([.methodLink RX5 3 objectInit, .instanceMethod objectInit, .code objectInit ⟨#[0xb1]⟩ 1 none, .classLink RX5 9 RX2, .fieldLink RX5 11 "SeaGates$Row" "gates" "[LSeaGates$Gate;", .arrayClass .int, .fieldLink RX5 17 "SeaGates$Row" "free" "[I", .fieldLink RX5 21 "SeaGates$Row" "size" "I"] ++ wsX50)
def wsX5_add : List Cond := .code yX5_add cX5_add 2 (some .int) :: ([.fieldLink RX5 11 "SeaGates$Row" "gates" "[LSeaGates$Gate;", .fieldLink RX5 21 "SeaGates$Row" "size" "I"] ++ wsX50)
def wsX11_within : List Cond := .code yX11_within cX11_within 3 (some .boolean) :: ([])
def wsX5_at : List Cond := .code yX5_at cX5_at 2 (some (.object "SeaGates$Gate")) :: ([.fieldLink RX5 21 "SeaGates$Row" "size" "I", .fieldLink RX5 11 "SeaGates$Row" "gates" "[LSeaGates$Gate;", .static yX11_within, .initialized RX11, .code yX11_within cX11_within 3 (some .boolean)] ++ wsX50)
def wsX5_failedOnes : List Cond := .code yX5_failedOnes cX5_failedOnes 6 (some .int) :: ([.fieldLink RX5 11 "SeaGates$Row" "gates" "[LSeaGates$Gate;", .fieldLink RX5 29 "SeaGates$Gate" "failed" "Z"] ++ wsX50 ++ wsX20 ++ wsX30 ++ wsX80 ++ wsX100)
def wsJ7_fill_53178 : List Cond := .code yJ7_fill_53178 cJ7_fill_53178 4 none :: ([])
def wsX5_endByHand : List Cond := .code yX5_endByHand cX5_endByHand 5 (some .int) :: ([.fieldLink RX5 17 "SeaGates$Row" "free" "[I"] ++ wsX50)
def wsX5_timeToShut : List Cond := .code yX5_timeToShut cX5_timeToShut 7 (some .int) :: ([.fieldLink RX5 17 "SeaGates$Row" "free" "[I", .fieldLink RX5 11 "SeaGates$Row" "gates" "[LSeaGates$Gate;", .fieldLink RX5 39 "SeaGates$Gate" "minutes" "I", .fieldLink RX5 29 "SeaGates$Gate" "failed" "Z", .fieldLink RX5 42 "SeaGates$Gate" "hand" "I", .constant RX5 45 (-1000000), .methodLink RX5 50 Lib.Math.max.name, .static Lib.Math.max.name, .initialized "java/lang/Math", .code Lib.Math.max.name Lib.Math.max.code 2 (some .int), .methodLink RX5 33 yJ7_fill_53178, .static yJ7_fill_53178, .initialized RJ7, .code yJ7_fill_53178 cJ7_fill_53178 4 none, .methodLink RX5 46 yX5_endByHand, .instanceMethod yX5_endByHand, .selects RX5 yX5_endByHand yX5_endByHand, .initialized RX5, .code yX5_endByHand cX5_endByHand 5 (some .int)] ++ wsX50 ++ wsX20 ++ wsX30 ++ wsX80 ++ wsX100)
def wsX5_worstTime_r1 : List Cond := [Cond.fieldLink RX5 21 "SeaGates$Row" "size" "I", Cond.constant RX5 45 (-1000000), Cond.fieldLink RX5 11 "SeaGates$Row" "gates" "[LSeaGates$Gate;", Cond.fieldLink RX5 29 "SeaGates$Gate" "failed" "Z", Cond.methodLink RX5 50 Lib.Math.max.name, Cond.static Lib.Math.max.name, Cond.initialized "java/lang/Math", Cond.code Lib.Math.max.name Lib.Math.max.code 2 (some .int), Cond.methodLink RX5 55 yX5_failedOnes, Cond.instanceMethod yX5_failedOnes, Cond.selects RX5 yX5_failedOnes yX5_failedOnes, Cond.initialized RX5, Cond.code yX5_failedOnes cX5_failedOnes 6 (some .int), Cond.methodLink RX5 59 yX5_timeToShut, Cond.instanceMethod yX5_timeToShut, Cond.selects RX5 yX5_timeToShut yX5_timeToShut, Cond.code yX5_timeToShut cX5_timeToShut 7 (some .int), Cond.fieldLink RX5 17 "SeaGates$Row" "free" "[I", Cond.fieldLink RX5 39 "SeaGates$Gate" "minutes" "I", Cond.fieldLink RX5 42 "SeaGates$Gate" "hand" "I", Cond.methodLink RX5 33 yJ7_fill_53178, Cond.static yJ7_fill_53178, Cond.initialized RJ7, Cond.code yJ7_fill_53178 cJ7_fill_53178 4 none]
def wsX5_worstTime_r2 : List Cond := [Cond.methodLink RX5 46 yX5_endByHand, Cond.instanceMethod yX5_endByHand, Cond.selects RX5 yX5_endByHand yX5_endByHand, Cond.code yX5_endByHand cX5_endByHand 5 (some .int)]
def wsX5_worstTime : List Cond := .code yX5_worstTime cX5_worstTime 6 (some .int) :: ((wsX5_worstTime_r1 ++ wsX5_worstTime_r2) ++ wsX50 ++ wsX20 ++ wsX30 ++ wsX80 ++ wsX100)
def wsX6_init : List Cond := .code yX6_init cX6_init 1 none :: ([.methodLink RX6 3 objectInit, .instanceMethod objectInit, .code objectInit ⟨#[0xb1]⟩ 1 none, .arrayClass .int, .fieldLink RX6 9 "SeaGates$Sea" "weights" "[I", .classLink RX6 15 "[[I", .fieldLink RX6 17 "SeaGates$Sea" "levels" "[[I", .fieldLink RX6 20 "SeaGates$Sea" "heads" "[[I", .fieldLink RX6 23 "SeaGates$Sea" "size" "I"] ++ wsX60)
def wsX6_areAlike : List Cond := .code yX6_areAlike cX6_areAlike 5 (some .boolean) :: ([.fieldLink RX6 17 "SeaGates$Sea" "levels" "[[I"] ++ wsX60)
def wsX6_headOf : List Cond := .code yX6_headOf cX6_headOf 4 (some .int) :: ([.methodLink RX6 37 yX6_areAlike, .instanceMethod yX6_areAlike, .selects RX6 yX6_areAlike yX6_areAlike, .initialized RX6, .code yX6_areAlike cX6_areAlike 5 (some .boolean), .fieldLink RX6 17 "SeaGates$Sea" "levels" "[[I"] ++ wsX60)
def wsX6_add : List Cond := .code yX6_add cX6_add 6 (some .int) :: ([.fieldLink RX6 23 "SeaGates$Sea" "size" "I", .fieldLink RX6 17 "SeaGates$Sea" "levels" "[[I", .methodLink RX6 27 arraycopyName, .native arraycopyName, .static arraycopyName, .initialized "java/lang/System", .fieldLink RX6 9 "SeaGates$Sea" "weights" "[I", .fieldLink RX6 20 "SeaGates$Sea" "heads" "[[I", .methodLink RX6 33 yX6_headOf, .instanceMethod yX6_headOf, .selects RX6 yX6_headOf yX6_headOf, .initialized RX6, .code yX6_headOf cX6_headOf 4 (some .int), .methodLink RX6 37 yX6_areAlike, .instanceMethod yX6_areAlike, .selects RX6 yX6_areAlike yX6_areAlike, .code yX6_areAlike cX6_areAlike 5 (some .boolean)] ++ wsX60)
def wsX6_groupsAt : List Cond := .code yX6_groupsAt cX6_groupsAt 4 (some .int) :: ([.fieldLink RX6 23 "SeaGates$Sea" "size" "I", .fieldLink RX6 20 "SeaGates$Sea" "heads" "[[I"] ++ wsX60)
def wsX6_allWeights : List Cond := .code yX6_allWeights cX6_allWeights 3 (some .int) :: ([.fieldLink RX6 23 "SeaGates$Sea" "size" "I", .fieldLink RX6 9 "SeaGates$Sea" "weights" "[I"] ++ wsX60)
def wsX6_firstAbove : List Cond := .code yX6_firstAbove cX6_firstAbove 4 (some .int) :: ([.fieldLink RX6 23 "SeaGates$Sea" "size" "I", .fieldLink RX6 17 "SeaGates$Sea" "levels" "[[I"] ++ wsX60)
def wsX7_init : List Cond := .code yX7_init cX7_init 1 none :: ([.methodLink RX7 3 objectInit, .instanceMethod objectInit, .code objectInit ⟨#[0xb1]⟩ 1 none, .classLink RX7 9 "[[I", .arrayClass .int, .fieldLink RX7 11 "SeaGates$Sheets" "items" "[[I", .fieldLink RX7 16 "SeaGates$Sheets" "lanes" "[I", .fieldLink RX7 20 "SeaGates$Sheets" "sizes" "[I", .methodLink RX7 23 yJ7_fill_53178, .static yJ7_fill_53178, .initialized RJ7, .code yJ7_fill_53178 cJ7_fill_53178 4 none] ++ wsX70)
def wsX7_isMissing : List Cond := .code yX7_isMissing cX7_isMissing 2 (some .boolean) :: ([.fieldLink RX7 20 "SeaGates$Sheets" "sizes" "[I"] ++ wsX70)
def wsX7_lay : List Cond := .code yX7_lay cX7_lay 4 none :: ([.fieldLink RX7 16 "SeaGates$Sheets" "lanes" "[I", .fieldLink RX7 20 "SeaGates$Sheets" "sizes" "[I", .fieldLink RX7 11 "SeaGates$Sheets" "items" "[[I", .methodLink RX7 23 yJ7_fill_53178, .static yJ7_fill_53178, .initialized RJ7, .code yJ7_fill_53178 cJ7_fill_53178 4 none] ++ wsX70)
def wsX7_takeAway : List Cond := .code yX7_takeAway cX7_takeAway 3 (some .int) :: ([.fieldLink RX7 20 "SeaGates$Sheets" "sizes" "[I"] ++ wsX70)
def wsX7_hasPlaces : List Cond := .code yX7_hasPlaces cX7_hasPlaces 4 (some .boolean) :: ([.fieldLink RX7 20 "SeaGates$Sheets" "sizes" "[I"] ++ wsX70)
def wsX7_look : List Cond := .code yX7_look cX7_look 4 (some .int) :: ([.methodLink RX7 29 yX7_isMissing, .instanceMethod yX7_isMissing, .selects RX7 yX7_isMissing yX7_isMissing, .initialized RX7, .code yX7_isMissing cX7_isMissing 2 (some .boolean), .fieldLink RX7 20 "SeaGates$Sheets" "sizes" "[I", .methodLink RX7 33 yX7_hasPlaces, .instanceMethod yX7_hasPlaces, .selects RX7 yX7_hasPlaces yX7_hasPlaces, .code yX7_hasPlaces cX7_hasPlaces 4 (some .boolean)] ++ wsX70)
def wsX7_lookAtBoth : List Cond := .code yX7_lookAtBoth cX7_lookAtBoth 6 (some .int) :: ([.fieldLink RX7 16 "SeaGates$Sheets" "lanes" "[I", .methodLink RX7 29 yX7_isMissing, .instanceMethod yX7_isMissing, .selects RX7 yX7_isMissing yX7_isMissing, .initialized RX7, .code yX7_isMissing cX7_isMissing 2 (some .boolean), .fieldLink RX7 20 "SeaGates$Sheets" "sizes" "[I", .methodLink RX7 33 yX7_hasPlaces, .instanceMethod yX7_hasPlaces, .selects RX7 yX7_hasPlaces yX7_hasPlaces, .code yX7_hasPlaces cX7_hasPlaces 4 (some .boolean)] ++ wsX70)
def wsX7_narrowed : List Cond := .code yX7_narrowed cX7_narrowed 2 (some .int) :: ([])
def wsX7_put : List Cond := .code yX7_put cX7_put 4 (some .int) :: ([.fieldLink RX7 11 "SeaGates$Sheets" "items" "[[I", .fieldLink RX7 16 "SeaGates$Sheets" "lanes" "[I", .methodLink RX7 37 yX7_narrowed, .static yX7_narrowed, .initialized RX7, .code yX7_narrowed cX7_narrowed 2 (some .int)] ++ wsX70)
def wsX7_move : List Cond := .code yX7_move cX7_move 6 none :: ([.fieldLink RX7 11 "SeaGates$Sheets" "items" "[[I", .methodLink RX7 41 arraycopyName, .native arraycopyName, .static arraycopyName, .initialized "java/lang/System"] ++ wsX70)
def wsX7_areWithin : List Cond := .code yX7_areWithin cX7_areWithin 6 (some .boolean) :: ([.fieldLink RX7 11 "SeaGates$Sheets" "items" "[[I", .static yX11_within, .initialized RX11, .code yX11_within cX11_within 3 (some .boolean)] ++ wsX70)
def wsX7_above : List Cond := .code yX7_above cX7_above 8 (some .int) :: ([.fieldLink RX7 11 "SeaGates$Sheets" "items" "[[I"] ++ wsX70)
def wsX7_present : List Cond := .code yX7_present cX7_present 3 (some .int) :: ([.methodLink RX7 29 yX7_isMissing, .instanceMethod yX7_isMissing, .selects RX7 yX7_isMissing yX7_isMissing, .initialized RX7, .code yX7_isMissing cX7_isMissing 2 (some .boolean), .fieldLink RX7 20 "SeaGates$Sheets" "sizes" "[I"] ++ wsX70)
def wsX8_init : List Cond := .code yX8_init cX8_init 2 none :: ([.methodLink RX8 3 yX2_init, .instanceMethod yX2_init, .initialized RX2, .code yX2_init cX2_init 3 none, .methodLink RX2 3 objectInit, .instanceMethod objectInit, .code objectInit ⟨#[0xb1]⟩ 1 none, .fieldLink RX2 9 "SeaGates$Gate" "failed" "Z", .fieldLink RX2 15 "SeaGates$Gate" "minutes" "I", .fieldLink RX2 19 "SeaGates$Gate" "hand" "I"] ++ wsX20 ++ wsX30 ++ wsX80 ++ wsX100)
def wsX8_toldAs : List Cond := .code yX8_toldAs cX8_toldAs 1 (some .int) :: ([])
def wsX8_cost : List Cond := .code yX8_cost cX8_cost 2 (some .int) :: ([.methodLink RX8 9 yX9_leave, .instanceMethod yX9_leave, .selects RX9 yX9_leave yX9_leave, .initialized RX9, .code yX9_leave cX9_leave 2 none, .fieldLink RX9 15 "SeaGates$Trace" "length" "I", .fieldLink RX9 9 "SeaGates$Trace" "numbers" "[I", .methodLink RX8 15 yX2_cost, .sameMethod "SeaGates$Gate" "SeaGates$Gate" "cost" "(LSeaGates$Trace;)I", .superclass RX8 RX2, .instanceMethod yX2_cost, .initialized RX2, .code yX2_cost cX2_cost 2 (some .int), .fieldLink RX2 15 "SeaGates$Gate" "minutes" "I", .methodLink RX2 22 yX9_leave] ++ wsX90 ++ wsX20 ++ wsX30 ++ wsX80 ++ wsX100)
def wsX8_mark_r1 : List Cond := [Cond.methodLink RX8 9 yX9_leave, Cond.instanceMethod yX9_leave, Cond.selects RX9 yX9_leave yX9_leave, Cond.initialized RX9, Cond.code yX9_leave cX9_leave 2 none, Cond.fieldLink RX9 15 "SeaGates$Trace" "length" "I", Cond.fieldLink RX9 9 "SeaGates$Trace" "numbers" "[I", Cond.methodLink RX8 19 yX2_mark, Cond.sameMethod "SeaGates$Gate" "SeaGates$Gate" "mark" "(LSeaGates$Trace;)I", Cond.superclass RX8 RX2, Cond.instanceMethod yX2_mark, Cond.initialized RX2, Cond.code yX2_mark cX2_mark 2 (some .int), Cond.fieldLink RX2 9 "SeaGates$Gate" "failed" "Z", Cond.methodLink RX2 22 yX9_leave, Cond.methodLink RX8 22 yX8_cost, Cond.instanceMethod yX8_cost, Cond.selects RX8 yX8_cost yX8_cost, Cond.initialized RX8, Cond.code yX8_cost cX8_cost 2 (some .int), Cond.methodLink RX8 15 yX2_cost, Cond.sameMethod "SeaGates$Gate" "SeaGates$Gate" "cost" "(LSeaGates$Trace;)I", Cond.instanceMethod yX2_cost, Cond.code yX2_cost cX2_cost 2 (some .int)]
def wsX8_mark_r2 : List Cond := [Cond.fieldLink RX2 15 "SeaGates$Gate" "minutes" "I"]
def wsX8_mark : List Cond := .code yX8_mark cX8_mark 2 (some .int) :: ((wsX8_mark_r1 ++ wsX8_mark_r2) ++ wsX90 ++ wsX20 ++ wsX30 ++ wsX80 ++ wsX100)
def wsX9_init : List Cond := .code yX9_init cX9_init 1 none :: ([.methodLink RX9 3 objectInit, .instanceMethod objectInit, .code objectInit ⟨#[0xb1]⟩ 1 none, .arrayClass .int, .fieldLink RX9 9 "SeaGates$Trace" "numbers" "[I", .fieldLink RX9 15 "SeaGates$Trace" "length" "I"] ++ wsX90)
def wsX10_init : List Cond := .code yX10_init cX10_init 3 none :: ([.methodLink RX10 3 yX3_init, .instanceMethod yX3_init, .initialized RX3, .code yX3_init cX3_init 3 none, .methodLink RX3 3 yX2_init, .instanceMethod yX2_init, .initialized RX2, .code yX2_init cX2_init 3 none, .methodLink RX2 3 objectInit, .instanceMethod objectInit, .code objectInit ⟨#[0xb1]⟩ 1 none, .fieldLink RX2 9 "SeaGates$Gate" "failed" "Z", .fieldLink RX2 15 "SeaGates$Gate" "minutes" "I", .fieldLink RX2 19 "SeaGates$Gate" "hand" "I"] ++ wsX20 ++ wsX30 ++ wsX80 ++ wsX100)
def wsX10_toldAs : List Cond := .code yX10_toldAs cX10_toldAs 1 (some .int) :: ([])
def wsX11_init_r1 : List Cond := [Cond.methodLink RX11 3 objectInit, Cond.instanceMethod objectInit, Cond.code objectInit ⟨#[0xb1]⟩ 1 none, Cond.classLink RX11 9 RX7, Cond.instantiable RX7 3, Cond.initialized RX7, Cond.fieldLink RX11 12 "SeaGates" "sheets" "LSeaGates$Sheets;", Cond.classLink RX11 16 RX6, Cond.instantiable RX6 4, Cond.initialized RX6, Cond.fieldLink RX11 19 "SeaGates" "sea" "LSeaGates$Sea;", Cond.classLink RX11 23 RX0, Cond.instantiable RX0 3, Cond.initialized RX0, Cond.fieldLink RX11 28 "SeaGates" "barrier" "LSeaGates$Barrier;", Cond.classLink RX11 32 RX4, Cond.instantiable RX4 7, Cond.initialized RX4, Cond.fieldLink RX11 37 "SeaGates" "plan" "LSeaGates$Plan;", Cond.classLink RX11 41 RX5, Cond.instantiable RX5 3, Cond.initialized RX5, Cond.fieldLink RX11 44 "SeaGates" "row" "LSeaGates$Row;", Cond.classLink RX11 48 RX1]
def wsX11_init_r2 : List Cond := [Cond.instantiable RX1 4, Cond.initialized RX1, Cond.fieldLink RX11 51 "SeaGates" "fairway" "LSeaGates$Fairway;", Cond.classLink RX11 55 RX9, Cond.instantiable RX9 2, Cond.initialized RX9, Cond.fieldLink RX11 58 "SeaGates" "bodies" "LSeaGates$Trace;", Cond.fieldLink RX11 62 "SeaGates" "finding" "I", Cond.methodLink RX11 11 yX7_init, Cond.instanceMethod yX7_init, Cond.code yX7_init cX7_init 1 none, Cond.methodLink RX7 3 objectInit, Cond.classLink RX7 9 "[[I", Cond.arrayClass .int, Cond.fieldLink RX7 11 "SeaGates$Sheets" "items" "[[I", Cond.fieldLink RX7 16 "SeaGates$Sheets" "lanes" "[I", Cond.fieldLink RX7 20 "SeaGates$Sheets" "sizes" "[I", Cond.methodLink RX7 23 yJ7_fill_53178, Cond.static yJ7_fill_53178, Cond.initialized RJ7, Cond.code yJ7_fill_53178 cJ7_fill_53178 4 none, Cond.instanceMethod yX6_init, Cond.code yX6_init cX6_init 1 none, Cond.methodLink RX6 3 objectInit]
def wsX11_init_r3 : List Cond := [Cond.fieldLink RX6 9 "SeaGates$Sea" "weights" "[I", Cond.classLink RX6 15 "[[I", Cond.fieldLink RX6 17 "SeaGates$Sea" "levels" "[[I", Cond.fieldLink RX6 20 "SeaGates$Sea" "heads" "[[I", Cond.fieldLink RX6 23 "SeaGates$Sea" "size" "I", Cond.methodLink RX11 25 yX0_init, Cond.instanceMethod yX0_init, Cond.code yX0_init cX0_init 2 none, Cond.methodLink RX0 3 objectInit, Cond.fieldLink RX0 9 "SeaGates$Barrier" "rules" "[I", Cond.fieldLink RX0 15 "SeaGates$Barrier" "rivers" "[I", Cond.fieldLink RX0 18 "SeaGates$Barrier" "sea" "LSeaGates$Sea;", Cond.methodLink RX11 34 yX4_init, Cond.instanceMethod yX4_init, Cond.code yX4_init cX4_init 3 none, Cond.methodLink RX4 3 objectInit, Cond.classLink RX4 9 "[[I", Cond.fieldLink RX4 11 "SeaGates$Plan" "orders" "[[I", Cond.classLink RX4 16 "[[J", Cond.arrayClass .long, Cond.fieldLink RX4 18 "SeaGates$Plan" "now" "[[J", Cond.fieldLink RX4 21 "SeaGates$Plan" "then" "[[J", Cond.fieldLink RX4 24 "SeaGates$Plan" "loss" "J", Cond.fieldLink RX4 28 "SeaGates$Plan" "stale" "Z"]
def wsX11_init_r4 : List Cond := [Cond.fieldLink RX4 32 "SeaGates$Plan" "sea" "LSeaGates$Sea;", Cond.fieldLink RX4 36 "SeaGates$Plan" "barrier" "LSeaGates$Barrier;", Cond.instanceMethod yX5_init, Cond.code yX5_init cX5_init 1 none, Cond.methodLink RX5 3 objectInit, Cond.classLink RX5 9 RX2, Cond.fieldLink RX5 11 "SeaGates$Row" "gates" "[LSeaGates$Gate;", Cond.fieldLink RX5 17 "SeaGates$Row" "free" "[I", Cond.fieldLink RX5 21 "SeaGates$Row" "size" "I", Cond.instanceMethod yX1_init, Cond.code yX1_init cX1_init 1 none, Cond.methodLink RX1 3 objectInit, Cond.fieldLink RX1 9 "SeaGates$Fairway" "minutes" "[I", Cond.fieldLink RX1 15 "SeaGates$Fairway" "passing" "[I", Cond.fieldLink RX1 18 "SeaGates$Fairway" "inTurn" "[I", Cond.fieldLink RX1 21 "SeaGates$Fairway" "size" "I", Cond.instanceMethod yX9_init, Cond.code yX9_init cX9_init 1 none, Cond.methodLink RX9 3 objectInit, Cond.fieldLink RX9 9 "SeaGates$Trace" "numbers" "[I", Cond.fieldLink RX9 15 "SeaGates$Trace" "length" "I"]
def wsX11_init : List Cond := .code yX11_init cX11_init 1 none :: ((wsX11_init_r1 ++ (wsX11_init_r2 ++ (wsX11_init_r3 ++ wsX11_init_r4))) ++ wsX70 ++ wsX110 ++ wsX60 ++ wsX00 ++ wsX40 ++ wsX50 ++ wsX10 ++ wsX90)
def wsX11_found : List Cond := .code yX11_found cX11_found 2 (some .int) :: ([.fieldLink RX11 62 "SeaGates" "finding" "I", .constant RX11 270 (-1000010)] ++ wsX110)
def wsX11_fine : List Cond := .code yX11_fine cX11_fine 2 (some .int) :: ([.fieldLink RX11 62 "SeaGates" "finding" "I"] ++ wsX110)
def wsX11_sheet_r1 : List Cond := [Cond.constant RX11 70 (-1000001), Cond.fieldLink RX11 12 "SeaGates" "sheets" "LSeaGates$Sheets;", Cond.methodLink RX11 66 yX11_within, Cond.static yX11_within, Cond.initialized RX11, Cond.code yX11_within cX11_within 3 (some .boolean), Cond.methodLink RX11 71 yX11_found, Cond.instanceMethod yX11_found, Cond.selects RX11 yX11_found yX11_found, Cond.code yX11_found cX11_found 2 (some .int), Cond.fieldLink RX11 62 "SeaGates" "finding" "I", Cond.constant RX11 270 (-1000010), Cond.methodLink RX11 75 yX7_lay, Cond.instanceMethod yX7_lay, Cond.selects RX7 yX7_lay yX7_lay, Cond.initialized RX7, Cond.code yX7_lay cX7_lay 4 none, Cond.fieldLink RX7 16 "SeaGates$Sheets" "lanes" "[I", Cond.fieldLink RX7 20 "SeaGates$Sheets" "sizes" "[I", Cond.fieldLink RX7 11 "SeaGates$Sheets" "items" "[[I", Cond.methodLink RX7 23 yJ7_fill_53178, Cond.static yJ7_fill_53178, Cond.initialized RJ7, Cond.code yJ7_fill_53178 cJ7_fill_53178 4 none]
def wsX11_sheet_r2 : List Cond := [Cond.methodLink RX11 79 yX11_fine, Cond.instanceMethod yX11_fine, Cond.selects RX11 yX11_fine yX11_fine, Cond.code yX11_fine cX11_fine 2 (some .int)]
def wsX11_sheet : List Cond := .code yX11_sheet cX11_sheet 4 (some .int) :: ((wsX11_sheet_r1 ++ wsX11_sheet_r2) ++ wsX110 ++ wsX70)
def wsX11_set_r1 : List Cond := [Cond.constant RX11 70 (-1000001), Cond.fieldLink RX11 12 "SeaGates" "sheets" "LSeaGates$Sheets;", Cond.methodLink RX11 66 yX11_within, Cond.static yX11_within, Cond.initialized RX11, Cond.code yX11_within cX11_within 3 (some .boolean), Cond.methodLink RX11 82 yX7_look, Cond.instanceMethod yX7_look, Cond.selects RX7 yX7_look yX7_look, Cond.initialized RX7, Cond.code yX7_look cX7_look 4 (some .int), Cond.methodLink RX7 29 yX7_isMissing, Cond.instanceMethod yX7_isMissing, Cond.selects RX7 yX7_isMissing yX7_isMissing, Cond.code yX7_isMissing cX7_isMissing 2 (some .boolean), Cond.fieldLink RX7 20 "SeaGates$Sheets" "sizes" "[I", Cond.methodLink RX7 33 yX7_hasPlaces, Cond.instanceMethod yX7_hasPlaces, Cond.selects RX7 yX7_hasPlaces yX7_hasPlaces, Cond.code yX7_hasPlaces cX7_hasPlaces 4 (some .boolean), Cond.methodLink RX11 71 yX11_found, Cond.instanceMethod yX11_found, Cond.selects RX11 yX11_found yX11_found, Cond.code yX11_found cX11_found 2 (some .int)]
def wsX11_set_r2 : List Cond := [Cond.fieldLink RX11 62 "SeaGates" "finding" "I", Cond.constant RX11 270 (-1000010), Cond.methodLink RX11 86 yX7_put, Cond.instanceMethod yX7_put, Cond.selects RX7 yX7_put yX7_put, Cond.code yX7_put cX7_put 4 (some .int), Cond.fieldLink RX7 11 "SeaGates$Sheets" "items" "[[I", Cond.fieldLink RX7 16 "SeaGates$Sheets" "lanes" "[I", Cond.methodLink RX7 37 yX7_narrowed, Cond.static yX7_narrowed, Cond.code yX7_narrowed cX7_narrowed 2 (some .int), Cond.methodLink RX11 79 yX11_fine, Cond.instanceMethod yX11_fine, Cond.selects RX11 yX11_fine yX11_fine, Cond.code yX11_fine cX11_fine 2 (some .int)]
def wsX11_set : List Cond := .code yX11_set cX11_set 5 (some .int) :: ((wsX11_set_r1 ++ wsX11_set_r2) ++ wsX110 ++ wsX70)
def wsX11_copy_r1 : List Cond := [Cond.constant RX11 70 (-1000001), Cond.fieldLink RX11 12 "SeaGates" "sheets" "LSeaGates$Sheets;", Cond.methodLink RX11 66 yX11_within, Cond.static yX11_within, Cond.initialized RX11, Cond.code yX11_within cX11_within 3 (some .boolean), Cond.methodLink RX11 89 yX7_lookAtBoth, Cond.instanceMethod yX7_lookAtBoth, Cond.selects RX7 yX7_lookAtBoth yX7_lookAtBoth, Cond.initialized RX7, Cond.code yX7_lookAtBoth cX7_lookAtBoth 6 (some .int), Cond.fieldLink RX7 16 "SeaGates$Sheets" "lanes" "[I", Cond.methodLink RX7 29 yX7_isMissing, Cond.instanceMethod yX7_isMissing, Cond.selects RX7 yX7_isMissing yX7_isMissing, Cond.code yX7_isMissing cX7_isMissing 2 (some .boolean), Cond.fieldLink RX7 20 "SeaGates$Sheets" "sizes" "[I", Cond.methodLink RX7 33 yX7_hasPlaces, Cond.instanceMethod yX7_hasPlaces, Cond.selects RX7 yX7_hasPlaces yX7_hasPlaces, Cond.code yX7_hasPlaces cX7_hasPlaces 4 (some .boolean), Cond.methodLink RX11 71 yX11_found, Cond.instanceMethod yX11_found, Cond.selects RX11 yX11_found yX11_found]
def wsX11_copy_r2 : List Cond := [Cond.code yX11_found cX11_found 2 (some .int), Cond.fieldLink RX11 62 "SeaGates" "finding" "I", Cond.constant RX11 270 (-1000010), Cond.methodLink RX11 93 yX7_move, Cond.instanceMethod yX7_move, Cond.selects RX7 yX7_move yX7_move, Cond.code yX7_move cX7_move 6 none, Cond.fieldLink RX7 11 "SeaGates$Sheets" "items" "[[I", Cond.methodLink RX7 41 arraycopyName, Cond.native arraycopyName, Cond.static arraycopyName, Cond.initialized "java/lang/System", Cond.methodLink RX11 79 yX11_fine, Cond.instanceMethod yX11_fine, Cond.selects RX11 yX11_fine yX11_fine, Cond.code yX11_fine cX11_fine 2 (some .int)]
def wsX11_copy : List Cond := .code yX11_copy cX11_copy 7 (some .int) :: ((wsX11_copy_r1 ++ wsX11_copy_r2) ++ wsX110 ++ wsX70)
def wsX11_drop_r1 : List Cond := [Cond.constant RX11 70 (-1000001), Cond.fieldLink RX11 12 "SeaGates" "sheets" "LSeaGates$Sheets;", Cond.methodLink RX11 66 yX11_within, Cond.static yX11_within, Cond.initialized RX11, Cond.code yX11_within cX11_within 3 (some .boolean), Cond.methodLink RX11 97 yX7_isMissing, Cond.instanceMethod yX7_isMissing, Cond.selects RX7 yX7_isMissing yX7_isMissing, Cond.initialized RX7, Cond.code yX7_isMissing cX7_isMissing 2 (some .boolean), Cond.fieldLink RX7 20 "SeaGates$Sheets" "sizes" "[I", Cond.methodLink RX11 71 yX11_found, Cond.instanceMethod yX11_found, Cond.selects RX11 yX11_found yX11_found, Cond.code yX11_found cX11_found 2 (some .int), Cond.fieldLink RX11 62 "SeaGates" "finding" "I", Cond.constant RX11 270 (-1000010), Cond.methodLink RX11 101 yX7_takeAway, Cond.instanceMethod yX7_takeAway, Cond.selects RX7 yX7_takeAway yX7_takeAway, Cond.code yX7_takeAway cX7_takeAway 3 (some .int), Cond.methodLink RX11 79 yX11_fine, Cond.instanceMethod yX11_fine]
def wsX11_drop_r2 : List Cond := [Cond.selects RX11 yX11_fine yX11_fine, Cond.code yX11_fine cX11_fine 2 (some .int)]
def wsX11_drop : List Cond := .code yX11_drop cX11_drop 2 (some .int) :: ((wsX11_drop_r1 ++ wsX11_drop_r2) ++ wsX110 ++ wsX70)
def wsX11_world_r1 : List Cond := [Cond.constant RX11 70 (-1000001), Cond.fieldLink RX11 19 "SeaGates" "sea" "LSeaGates$Sea;", Cond.fieldLink RX11 104 "SeaGates$Sea" "size" "I", Cond.constant RX11 107 (-1000003), Cond.fieldLink RX11 12 "SeaGates" "sheets" "LSeaGates$Sheets;", Cond.fieldLink RX11 37 "SeaGates" "plan" "LSeaGates$Plan;", Cond.fieldLink RX11 112 "SeaGates$Plan" "stale" "Z", Cond.fieldLink RX11 116 "SeaGates$Sheets" "items" "[[I", Cond.methodLink RX11 66 yX11_within, Cond.static yX11_within, Cond.initialized RX11, Cond.code yX11_within cX11_within 3 (some .boolean), Cond.methodLink RX11 82 yX7_look, Cond.instanceMethod yX7_look, Cond.selects RX7 yX7_look yX7_look, Cond.initialized RX7, Cond.code yX7_look cX7_look 4 (some .int), Cond.methodLink RX7 29 yX7_isMissing, Cond.instanceMethod yX7_isMissing, Cond.selects RX7 yX7_isMissing yX7_isMissing, Cond.code yX7_isMissing cX7_isMissing 2 (some .boolean), Cond.fieldLink RX7 20 "SeaGates$Sheets" "sizes" "[I", Cond.methodLink RX7 33 yX7_hasPlaces, Cond.instanceMethod yX7_hasPlaces]
def wsX11_world_r2 : List Cond := [Cond.selects RX7 yX7_hasPlaces yX7_hasPlaces, Cond.code yX7_hasPlaces cX7_hasPlaces 4 (some .boolean), Cond.methodLink RX11 71 yX11_found, Cond.instanceMethod yX11_found, Cond.selects RX11 yX11_found yX11_found, Cond.code yX11_found cX11_found 2 (some .int), Cond.fieldLink RX11 62 "SeaGates" "finding" "I", Cond.constant RX11 270 (-1000010), Cond.methodLink RX11 108 yX7_areWithin, Cond.instanceMethod yX7_areWithin, Cond.selects RX7 yX7_areWithin yX7_areWithin, Cond.code yX7_areWithin cX7_areWithin 6 (some .boolean), Cond.fieldLink RX7 11 "SeaGates$Sheets" "items" "[[I", Cond.methodLink RX11 120 yX6_add, Cond.instanceMethod yX6_add, Cond.selects RX6 yX6_add yX6_add, Cond.initialized RX6, Cond.code yX6_add cX6_add 6 (some .int), Cond.fieldLink RX6 23 "SeaGates$Sea" "size" "I", Cond.fieldLink RX6 17 "SeaGates$Sea" "levels" "[[I", Cond.methodLink RX6 27 arraycopyName, Cond.native arraycopyName, Cond.static arraycopyName, Cond.initialized "java/lang/System"]
def wsX11_world_r3 : List Cond := [Cond.fieldLink RX6 9 "SeaGates$Sea" "weights" "[I", Cond.fieldLink RX6 20 "SeaGates$Sea" "heads" "[[I", Cond.methodLink RX6 33 yX6_headOf, Cond.instanceMethod yX6_headOf, Cond.selects RX6 yX6_headOf yX6_headOf, Cond.code yX6_headOf cX6_headOf 4 (some .int), Cond.methodLink RX6 37 yX6_areAlike, Cond.instanceMethod yX6_areAlike, Cond.selects RX6 yX6_areAlike yX6_areAlike, Cond.code yX6_areAlike cX6_areAlike 5 (some .boolean), Cond.methodLink RX11 79 yX11_fine, Cond.instanceMethod yX11_fine, Cond.selects RX11 yX11_fine yX11_fine, Cond.code yX11_fine cX11_fine 2 (some .int)]
def wsX11_world : List Cond := .code yX11_world cX11_world 5 (some .int) :: ((wsX11_world_r1 ++ (wsX11_world_r2 ++ wsX11_world_r3)) ++ wsX110 ++ wsX60 ++ wsX40 ++ wsX70)
def wsX11_river : List Cond := .code yX11_river cX11_river 4 (some .int) :: ([.constant RX11 70 (-1000001), .fieldLink RX11 28 "SeaGates" "barrier" "LSeaGates$Barrier;", .fieldLink RX11 124 "SeaGates$Barrier" "rivers" "[I", .fieldLink RX11 37 "SeaGates" "plan" "LSeaGates$Plan;", .fieldLink RX11 112 "SeaGates$Plan" "stale" "Z", .methodLink RX11 66 yX11_within, .static yX11_within, .initialized RX11, .code yX11_within cX11_within 3 (some .boolean)] ++ wsX110 ++ wsX00 ++ wsX40)
def wsX11_mayBeRule : List Cond := .code yX11_mayBeRule cX11_mayBeRule 2 (some .boolean) :: ([.methodLink RX11 66 yX11_within, .static yX11_within, .initialized RX11, .code yX11_within cX11_within 3 (some .boolean)])
def wsX11_rule : List Cond := .code yX11_rule cX11_rule 4 (some .int) :: ([.constant RX11 70 (-1000001), .fieldLink RX11 28 "SeaGates" "barrier" "LSeaGates$Barrier;", .fieldLink RX11 132 "SeaGates$Barrier" "rules" "[I", .fieldLink RX11 37 "SeaGates" "plan" "LSeaGates$Plan;", .fieldLink RX11 112 "SeaGates$Plan" "stale" "Z", .methodLink RX11 66 yX11_within, .static yX11_within, .initialized RX11, .code yX11_within cX11_within 3 (some .boolean), .methodLink RX11 128 yX11_mayBeRule, .static yX11_mayBeRule, .code yX11_mayBeRule cX11_mayBeRule 2 (some .boolean)] ++ wsX110 ++ wsX00 ++ wsX40)
def wsX11_best_r1 : List Cond := [Cond.fieldLink RX11 37 "SeaGates" "plan" "LSeaGates$Plan;", Cond.fieldLink RX11 138 "SeaGates$Plan" "loss" "J", Cond.methodLink RX11 135 yX4_refresh, Cond.instanceMethod yX4_refresh, Cond.selects RX4 yX4_refresh yX4_refresh, Cond.initialized RX4, Cond.code yX4_refresh cX4_refresh 2 none, Cond.fieldLink RX4 28 "SeaGates$Plan" "stale" "Z", Cond.fieldLink RX4 24 "SeaGates$Plan" "loss" "J", Cond.fieldLink RX4 32 "SeaGates$Plan" "sea" "LSeaGates$Sea;", Cond.fieldLink RX4 44 "SeaGates$Sea" "size" "I", Cond.fieldLink RX4 50 "SeaGates$Sea" "heads" "[[I", Cond.fieldLink RX4 18 "SeaGates$Plan" "now" "[[J", Cond.methodLink RX4 40 yX4_decideHour, Cond.instanceMethod yX4_decideHour, Cond.selects RX4 yX4_decideHour yX4_decideHour, Cond.code yX4_decideHour cX4_decideHour 3 none, Cond.fieldLink RX4 21 "SeaGates$Plan" "then" "[[J", Cond.methodLink RX4 53 arraycopyName, Cond.native arraycopyName, Cond.static arraycopyName, Cond.initialized "java/lang/System", Cond.fieldLink RX4 11 "SeaGates$Plan" "orders" "[[I", Cond.methodLink RX4 59 yX4_decideGroup]
def wsX11_best_r2 : List Cond := [Cond.instanceMethod yX4_decideGroup, Cond.selects RX4 yX4_decideGroup yX4_decideGroup, Cond.code yX4_decideGroup cX4_decideGroup 9 none, Cond.methodLink RX4 63 yX6_weightOfGroup, Cond.instanceMethod yX6_weightOfGroup, Cond.selects RX6 yX6_weightOfGroup yX6_weightOfGroup, Cond.initialized RX6, Cond.code yX6_weightOfGroup cX6_weightOfGroup 5 (some .int), Cond.fieldLink RX6 23 "SeaGates$Sea" "size" "I", Cond.fieldLink RX6 20 "SeaGates$Sea" "heads" "[[I", Cond.fieldLink RX6 9 "SeaGates$Sea" "weights" "[I", Cond.methodLink RX4 67 yX4_lossFrom, Cond.instanceMethod yX4_lossFrom, Cond.selects RX4 yX4_lossFrom yX4_lossFrom, Cond.code yX4_lossFrom cX4_lossFrom 10 (some .long), Cond.fieldLink RX4 36 "SeaGates$Plan" "barrier" "LSeaGates$Barrier;", Cond.methodLink RX4 77 yX0_lost, Cond.instanceMethod yX0_lost, Cond.selects RX0 yX0_lost yX0_lost, Cond.initialized RX0, Cond.code yX0_lost cX0_lost 8 (some .int), Cond.fieldLink RX0 9 "SeaGates$Barrier" "rules" "[I", Cond.methodLink RX0 46 Lib.Math.max.name, Cond.static Lib.Math.max.name]
def wsX11_best_r3 : List Cond := [Cond.initialized "java/lang/Math", Cond.code Lib.Math.max.name Lib.Math.max.code 2 (some .int), Cond.methodLink RX0 38 yX0_stands, Cond.instanceMethod yX0_stands, Cond.selects RX0 yX0_stands yX0_stands, Cond.code yX0_stands cX0_stands 3 (some .int), Cond.methodLink RX0 42 yX0_water, Cond.instanceMethod yX0_water, Cond.selects RX0 yX0_water yX0_water, Cond.code yX0_water cX0_water 7 (some .int), Cond.fieldLink RX0 18 "SeaGates$Barrier" "sea" "LSeaGates$Sea;", Cond.fieldLink RX0 26 "SeaGates$Sea" "levels" "[[I", Cond.methodLink RX0 32 Lib.Math.min.name, Cond.static Lib.Math.min.name, Cond.code Lib.Math.min.name Lib.Math.min.code 2 (some .int), Cond.fieldLink RX0 15 "SeaGates$Barrier" "rivers" "[I", Cond.methodLink RX4 81 yX0_stands, Cond.methodLink RX4 85 yX0_next, Cond.static yX0_next, Cond.code yX0_next cX0_next 2 (some .int), Cond.methodLink RX0 22 yX0_mayBeTold, Cond.static yX0_mayBeTold, Cond.code yX0_mayBeTold cX0_mayBeTold 1 (some .boolean), Cond.methodLink RX4 71 yX0_mayBeTold]
def wsX11_best : List Cond := .code yX11_best cX11_best 1 (some .long) :: ((wsX11_best_r1 ++ (wsX11_best_r2 ++ wsX11_best_r3)) ++ wsX110 ++ wsX40 ++ wsX60 ++ wsX00)
def wsX11_hour_r1 : List Cond := [Cond.fieldLink RX11 19 "SeaGates" "sea" "LSeaGates$Sea;", Cond.fieldLink RX11 104 "SeaGates$Sea" "size" "I", Cond.constant RX11 70 (-1000001), Cond.fieldLink RX11 37 "SeaGates" "plan" "LSeaGates$Plan;", Cond.fieldLink RX11 28 "SeaGates" "barrier" "LSeaGates$Barrier;", Cond.methodLink RX11 66 yX11_within, Cond.static yX11_within, Cond.initialized RX11, Cond.code yX11_within cX11_within 3 (some .boolean), Cond.methodLink RX11 135 yX4_refresh, Cond.instanceMethod yX4_refresh, Cond.selects RX4 yX4_refresh yX4_refresh, Cond.initialized RX4, Cond.code yX4_refresh cX4_refresh 2 none, Cond.fieldLink RX4 28 "SeaGates$Plan" "stale" "Z", Cond.fieldLink RX4 24 "SeaGates$Plan" "loss" "J", Cond.fieldLink RX4 32 "SeaGates$Plan" "sea" "LSeaGates$Sea;", Cond.fieldLink RX4 44 "SeaGates$Sea" "size" "I", Cond.fieldLink RX4 50 "SeaGates$Sea" "heads" "[[I", Cond.fieldLink RX4 18 "SeaGates$Plan" "now" "[[J", Cond.methodLink RX4 40 yX4_decideHour, Cond.instanceMethod yX4_decideHour, Cond.selects RX4 yX4_decideHour yX4_decideHour, Cond.code yX4_decideHour cX4_decideHour 3 none]
def wsX11_hour_r2 : List Cond := [Cond.fieldLink RX4 21 "SeaGates$Plan" "then" "[[J", Cond.methodLink RX4 53 arraycopyName, Cond.native arraycopyName, Cond.static arraycopyName, Cond.initialized "java/lang/System", Cond.fieldLink RX4 11 "SeaGates$Plan" "orders" "[[I", Cond.methodLink RX4 59 yX4_decideGroup, Cond.instanceMethod yX4_decideGroup, Cond.selects RX4 yX4_decideGroup yX4_decideGroup, Cond.code yX4_decideGroup cX4_decideGroup 9 none, Cond.methodLink RX4 63 yX6_weightOfGroup, Cond.instanceMethod yX6_weightOfGroup, Cond.selects RX6 yX6_weightOfGroup yX6_weightOfGroup, Cond.initialized RX6, Cond.code yX6_weightOfGroup cX6_weightOfGroup 5 (some .int), Cond.fieldLink RX6 23 "SeaGates$Sea" "size" "I", Cond.fieldLink RX6 20 "SeaGates$Sea" "heads" "[[I", Cond.fieldLink RX6 9 "SeaGates$Sea" "weights" "[I", Cond.methodLink RX4 67 yX4_lossFrom, Cond.instanceMethod yX4_lossFrom, Cond.selects RX4 yX4_lossFrom yX4_lossFrom, Cond.code yX4_lossFrom cX4_lossFrom 10 (some .long), Cond.fieldLink RX4 36 "SeaGates$Plan" "barrier" "LSeaGates$Barrier;", Cond.methodLink RX4 77 yX0_lost]
def wsX11_hour_r3 : List Cond := [Cond.instanceMethod yX0_lost, Cond.selects RX0 yX0_lost yX0_lost, Cond.initialized RX0, Cond.code yX0_lost cX0_lost 8 (some .int), Cond.fieldLink RX0 9 "SeaGates$Barrier" "rules" "[I", Cond.methodLink RX0 46 Lib.Math.max.name, Cond.static Lib.Math.max.name, Cond.initialized "java/lang/Math", Cond.code Lib.Math.max.name Lib.Math.max.code 2 (some .int), Cond.methodLink RX0 38 yX0_stands, Cond.instanceMethod yX0_stands, Cond.selects RX0 yX0_stands yX0_stands, Cond.code yX0_stands cX0_stands 3 (some .int), Cond.methodLink RX0 42 yX0_water, Cond.instanceMethod yX0_water, Cond.selects RX0 yX0_water yX0_water, Cond.code yX0_water cX0_water 7 (some .int), Cond.fieldLink RX0 18 "SeaGates$Barrier" "sea" "LSeaGates$Sea;", Cond.fieldLink RX0 26 "SeaGates$Sea" "levels" "[[I", Cond.methodLink RX0 32 Lib.Math.min.name, Cond.static Lib.Math.min.name, Cond.code Lib.Math.min.name Lib.Math.min.code 2 (some .int), Cond.fieldLink RX0 15 "SeaGates$Barrier" "rivers" "[I", Cond.methodLink RX4 81 yX0_stands]
def wsX11_hour_r4 : List Cond := [Cond.methodLink RX4 85 yX0_next, Cond.static yX0_next, Cond.code yX0_next cX0_next 2 (some .int), Cond.methodLink RX0 22 yX0_mayBeTold, Cond.static yX0_mayBeTold, Cond.code yX0_mayBeTold cX0_mayBeTold 1 (some .boolean), Cond.methodLink RX4 71 yX0_mayBeTold, Cond.methodLink RX11 142 yX4_stateAt, Cond.instanceMethod yX4_stateAt, Cond.selects RX4 yX4_stateAt yX4_stateAt, Cond.code yX4_stateAt cX4_stateAt 5 (some .int), Cond.methodLink RX4 88 yX4_tells, Cond.instanceMethod yX4_tells, Cond.selects RX4 yX4_tells yX4_tells, Cond.code yX4_tells cX4_tells 4 (some .boolean), Cond.methodLink RX11 146 yX4_tells, Cond.methodLink RX11 149 yX0_order, Cond.static yX0_order, Cond.code yX0_order cX0_order 2 (some .int), Cond.methodLink RX11 153 yX0_stands, Cond.methodLink RX11 156 yX0_how, Cond.static yX0_how, Cond.code yX0_how cX0_how 1 (some .int), Cond.methodLink RX11 159 yX0_water]
def wsX11_hour_r5 : List Cond := [Cond.methodLink RX11 162 yX0_lost]
def wsX11_hour : List Cond := .code yX11_hour cX11_hour 6 (some .int) :: ((wsX11_hour_r1 ++ (wsX11_hour_r2 ++ (wsX11_hour_r3 ++ (wsX11_hour_r4 ++ wsX11_hour_r5)))) ++ wsX110 ++ wsX60 ++ wsX40 ++ wsX00)
def wsX11_shutAt_r1 : List Cond := [Cond.fieldLink RX11 28 "SeaGates" "barrier" "LSeaGates$Barrier;", Cond.constantLong RX11 170 (-1000001), Cond.methodLink RX11 66 yX11_within, Cond.static yX11_within, Cond.initialized RX11, Cond.code yX11_within cX11_within 3 (some .boolean), Cond.methodLink RX11 166 yX0_lossOfOneOrder, Cond.instanceMethod yX0_lossOfOneOrder, Cond.selects RX0 yX0_lossOfOneOrder yX0_lossOfOneOrder, Cond.initialized RX0, Cond.code yX0_lossOfOneOrder cX0_lossOfOneOrder 8 (some .long), Cond.fieldLink RX0 18 "SeaGates$Barrier" "sea" "LSeaGates$Sea;", Cond.fieldLink RX0 49 "SeaGates$Sea" "size" "I", Cond.fieldLink RX0 53 "SeaGates$Sea" "weights" "[I", Cond.methodLink RX0 56 yX0_lost, Cond.instanceMethod yX0_lost, Cond.selects RX0 yX0_lost yX0_lost, Cond.code yX0_lost cX0_lost 8 (some .int), Cond.fieldLink RX0 9 "SeaGates$Barrier" "rules" "[I", Cond.methodLink RX0 46 Lib.Math.max.name, Cond.static Lib.Math.max.name, Cond.initialized "java/lang/Math", Cond.code Lib.Math.max.name Lib.Math.max.code 2 (some .int), Cond.methodLink RX0 38 yX0_stands]
def wsX11_shutAt_r2 : List Cond := [Cond.instanceMethod yX0_stands, Cond.selects RX0 yX0_stands yX0_stands, Cond.code yX0_stands cX0_stands 3 (some .int), Cond.methodLink RX0 42 yX0_water, Cond.instanceMethod yX0_water, Cond.selects RX0 yX0_water yX0_water, Cond.code yX0_water cX0_water 7 (some .int), Cond.fieldLink RX0 26 "SeaGates$Sea" "levels" "[[I", Cond.methodLink RX0 32 Lib.Math.min.name, Cond.static Lib.Math.min.name, Cond.code Lib.Math.min.name Lib.Math.min.code 2 (some .int), Cond.fieldLink RX0 15 "SeaGates$Barrier" "rivers" "[I", Cond.methodLink RX0 60 yX0_next, Cond.static yX0_next, Cond.code yX0_next cX0_next 2 (some .int), Cond.methodLink RX0 22 yX0_mayBeTold, Cond.static yX0_mayBeTold, Cond.code yX0_mayBeTold cX0_mayBeTold 1 (some .boolean)]
def wsX11_shutAt : List Cond := .code yX11_shutAt cX11_shutAt 2 (some .long) :: ((wsX11_shutAt_r1 ++ wsX11_shutAt_r2) ++ wsX110 ++ wsX00 ++ wsX60)
def wsX11_alarm : List Cond := .code yX11_alarm cX11_alarm 3 (some .int) :: ([.fieldLink RX11 19 "SeaGates" "sea" "LSeaGates$Sea;", .fieldLink RX11 28 "SeaGates" "barrier" "LSeaGates$Barrier;", .fieldLink RX11 132 "SeaGates$Barrier" "rules" "[I", .constant RX11 175 (-1000000), .methodLink RX11 172 yX6_firstAbove, .instanceMethod yX6_firstAbove, .selects RX6 yX6_firstAbove yX6_firstAbove, .initialized RX6, .code yX6_firstAbove cX6_firstAbove 4 (some .int), .fieldLink RX6 23 "SeaGates$Sea" "size" "I", .fieldLink RX6 17 "SeaGates$Sea" "levels" "[[I"] ++ wsX110 ++ wsX00 ++ wsX60)
def wsX11_groups : List Cond := .code yX11_groups cX11_groups 2 (some .int) :: ([.fieldLink RX11 19 "SeaGates" "sea" "LSeaGates$Sea;", .constant RX11 70 (-1000001), .methodLink RX11 66 yX11_within, .static yX11_within, .initialized RX11, .code yX11_within cX11_within 3 (some .boolean), .methodLink RX11 176 yX6_groupsAt, .instanceMethod yX6_groupsAt, .selects RX6 yX6_groupsAt yX6_groupsAt, .initialized RX6, .code yX6_groupsAt cX6_groupsAt 4 (some .int), .fieldLink RX6 23 "SeaGates$Sea" "size" "I", .fieldLink RX6 20 "SeaGates$Sea" "heads" "[[I"] ++ wsX110 ++ wsX60)
def wsX11_gateOf_r1 : List Cond := [Cond.classLink RX11 187 RX10, Cond.instantiable RX10 3, Cond.initialized RX10, Cond.classLink RX11 192 RX3, Cond.instantiable RX3 3, Cond.initialized RX3, Cond.classLink RX11 195 RX8, Cond.instantiable RX8 3, Cond.initialized RX8, Cond.classLink RX11 200 RX2, Cond.instantiable RX2 3, Cond.initialized RX2, Cond.methodLink RX11 189 yX10_init, Cond.instanceMethod yX10_init, Cond.code yX10_init cX10_init 3 none, Cond.methodLink RX10 3 yX3_init, Cond.instanceMethod yX3_init, Cond.code yX3_init cX3_init 3 none, Cond.methodLink RX3 3 yX2_init, Cond.instanceMethod yX2_init, Cond.code yX2_init cX2_init 3 none, Cond.methodLink RX2 3 objectInit, Cond.instanceMethod objectInit, Cond.code objectInit ⟨#[0xb1]⟩ 1 none]
def wsX11_gateOf_r2 : List Cond := [Cond.fieldLink RX2 9 "SeaGates$Gate" "failed" "Z", Cond.fieldLink RX2 15 "SeaGates$Gate" "minutes" "I", Cond.fieldLink RX2 19 "SeaGates$Gate" "hand" "I", Cond.methodLink RX11 194 yX3_init, Cond.methodLink RX11 197 yX8_init, Cond.instanceMethod yX8_init, Cond.code yX8_init cX8_init 2 none, Cond.methodLink RX8 3 yX2_init, Cond.methodLink RX11 202 yX2_init]
def wsX11_gateOf : List Cond := .code yX11_gateOf cX11_gateOf 2 (some (.object "SeaGates$Gate")) :: ((wsX11_gateOf_r1 ++ wsX11_gateOf_r2) ++ wsX100 ++ wsX30 ++ wsX80 ++ wsX20)
def wsX11_gate_r1 : List Cond := [Cond.constant RX11 70 (-1000001), Cond.fieldLink RX11 44 "SeaGates" "row" "LSeaGates$Row;", Cond.fieldLink RX11 179 "SeaGates$Row" "size" "I", Cond.constant RX11 107 (-1000003), Cond.methodLink RX11 66 yX11_within, Cond.static yX11_within, Cond.initialized RX11, Cond.code yX11_within cX11_within 3 (some .boolean), Cond.methodLink RX11 180 yX11_gateOf, Cond.static yX11_gateOf, Cond.code yX11_gateOf cX11_gateOf 2 (some (.object "SeaGates$Gate")), Cond.classLink RX11 187 RX10, Cond.instantiable RX10 3, Cond.initialized RX10, Cond.classLink RX11 192 RX3, Cond.instantiable RX3 3, Cond.initialized RX3, Cond.classLink RX11 195 RX8, Cond.instantiable RX8 3, Cond.initialized RX8, Cond.classLink RX11 200 RX2, Cond.instantiable RX2 3, Cond.initialized RX2, Cond.methodLink RX11 189 yX10_init]
def wsX11_gate_r2 : List Cond := [Cond.instanceMethod yX10_init, Cond.code yX10_init cX10_init 3 none, Cond.methodLink RX10 3 yX3_init, Cond.instanceMethod yX3_init, Cond.code yX3_init cX3_init 3 none, Cond.methodLink RX3 3 yX2_init, Cond.instanceMethod yX2_init, Cond.code yX2_init cX2_init 3 none, Cond.methodLink RX2 3 objectInit, Cond.instanceMethod objectInit, Cond.code objectInit ⟨#[0xb1]⟩ 1 none, Cond.fieldLink RX2 9 "SeaGates$Gate" "failed" "Z", Cond.fieldLink RX2 15 "SeaGates$Gate" "minutes" "I", Cond.fieldLink RX2 19 "SeaGates$Gate" "hand" "I", Cond.methodLink RX11 194 yX3_init, Cond.methodLink RX11 197 yX8_init, Cond.instanceMethod yX8_init, Cond.code yX8_init cX8_init 2 none, Cond.methodLink RX8 3 yX2_init, Cond.methodLink RX11 202 yX2_init, Cond.methodLink RX11 184 yX5_add, Cond.instanceMethod yX5_add, Cond.selects RX5 yX5_add yX5_add, Cond.initialized RX5]
def wsX11_gate_r3 : List Cond := [Cond.code yX5_add cX5_add 2 (some .int), Cond.fieldLink RX5 11 "SeaGates$Row" "gates" "[LSeaGates$Gate;", Cond.fieldLink RX5 21 "SeaGates$Row" "size" "I"]
def wsX11_gate : List Cond := .code yX11_gate cX11_gate 3 (some .int) :: ((wsX11_gate_r1 ++ (wsX11_gate_r2 ++ wsX11_gate_r3)) ++ wsX110 ++ wsX50 ++ wsX100 ++ wsX30 ++ wsX80 ++ wsX20)
def wsX11_becomes : List Cond := .code yX11_becomes cX11_becomes 5 (some .int) :: ([.fieldLink RX11 44 "SeaGates" "row" "LSeaGates$Row;", .constant RX11 70 (-1000001), .fieldLink RX11 210 "SeaGates$Gate" "failed" "Z", .methodLink RX11 206 yX5_at, .instanceMethod yX5_at, .selects RX5 yX5_at yX5_at, .initialized RX5, .code yX5_at cX5_at 2 (some (.object "SeaGates$Gate")), .fieldLink RX5 21 "SeaGates$Row" "size" "I", .fieldLink RX5 11 "SeaGates$Row" "gates" "[LSeaGates$Gate;", .static yX11_within, .initialized RX11, .code yX11_within cX11_within 3 (some .boolean)] ++ wsX110 ++ wsX20 ++ wsX30 ++ wsX80 ++ wsX100 ++ wsX50)
def wsX11_fail : List Cond := .code yX11_fail cX11_fail 2 (some .int) :: ([.methodLink RX11 203 yX11_becomes, .instanceMethod yX11_becomes, .selects RX11 yX11_becomes yX11_becomes, .initialized RX11, .code yX11_becomes cX11_becomes 5 (some .int), .fieldLink RX11 44 "SeaGates" "row" "LSeaGates$Row;", .constant RX11 70 (-1000001), .fieldLink RX11 210 "SeaGates$Gate" "failed" "Z", .methodLink RX11 206 yX5_at, .instanceMethod yX5_at, .selects RX5 yX5_at yX5_at, .initialized RX5, .code yX5_at cX5_at 2 (some (.object "SeaGates$Gate")), .fieldLink RX5 21 "SeaGates$Row" "size" "I", .fieldLink RX5 11 "SeaGates$Row" "gates" "[LSeaGates$Gate;", .static yX11_within, .code yX11_within cX11_within 3 (some .boolean)] ++ wsX110 ++ wsX20 ++ wsX30 ++ wsX80 ++ wsX100 ++ wsX50)
def wsX11_mend : List Cond := .code yX11_mend cX11_mend 2 (some .int) :: ([.methodLink RX11 203 yX11_becomes, .instanceMethod yX11_becomes, .selects RX11 yX11_becomes yX11_becomes, .initialized RX11, .code yX11_becomes cX11_becomes 5 (some .int), .fieldLink RX11 44 "SeaGates" "row" "LSeaGates$Row;", .constant RX11 70 (-1000001), .fieldLink RX11 210 "SeaGates$Gate" "failed" "Z", .methodLink RX11 206 yX5_at, .instanceMethod yX5_at, .selects RX5 yX5_at yX5_at, .initialized RX5, .code yX5_at cX5_at 2 (some (.object "SeaGates$Gate")), .fieldLink RX5 21 "SeaGates$Row" "size" "I", .fieldLink RX5 11 "SeaGates$Row" "gates" "[LSeaGates$Gate;", .static yX11_within, .code yX11_within cX11_within 3 (some .boolean)] ++ wsX110 ++ wsX20 ++ wsX30 ++ wsX80 ++ wsX100 ++ wsX50)
def wsX11_time_r1 : List Cond := [Cond.constant RX11 70 (-1000001), Cond.fieldLink RX11 44 "SeaGates" "row" "LSeaGates$Row;", Cond.constant RX11 175 (-1000000), Cond.methodLink RX11 66 yX11_within, Cond.static yX11_within, Cond.initialized RX11, Cond.code yX11_within cX11_within 3 (some .boolean), Cond.methodLink RX11 213 yX5_timeToShut, Cond.instanceMethod yX5_timeToShut, Cond.selects RX5 yX5_timeToShut yX5_timeToShut, Cond.initialized RX5, Cond.code yX5_timeToShut cX5_timeToShut 7 (some .int), Cond.fieldLink RX5 17 "SeaGates$Row" "free" "[I", Cond.fieldLink RX5 11 "SeaGates$Row" "gates" "[LSeaGates$Gate;", Cond.fieldLink RX5 39 "SeaGates$Gate" "minutes" "I", Cond.fieldLink RX5 29 "SeaGates$Gate" "failed" "Z", Cond.fieldLink RX5 42 "SeaGates$Gate" "hand" "I", Cond.constant RX5 45 (-1000000), Cond.methodLink RX5 50 Lib.Math.max.name, Cond.static Lib.Math.max.name, Cond.initialized "java/lang/Math", Cond.code Lib.Math.max.name Lib.Math.max.code 2 (some .int), Cond.methodLink RX5 33 yJ7_fill_53178, Cond.static yJ7_fill_53178]
def wsX11_time_r2 : List Cond := [Cond.initialized RJ7, Cond.code yJ7_fill_53178 cJ7_fill_53178 4 none, Cond.methodLink RX5 46 yX5_endByHand, Cond.instanceMethod yX5_endByHand, Cond.selects RX5 yX5_endByHand yX5_endByHand, Cond.code yX5_endByHand cX5_endByHand 5 (some .int), Cond.methodLink RX11 216 yX5_worstTime, Cond.instanceMethod yX5_worstTime, Cond.selects RX5 yX5_worstTime yX5_worstTime, Cond.code yX5_worstTime cX5_worstTime 6 (some .int), Cond.fieldLink RX5 21 "SeaGates$Row" "size" "I", Cond.methodLink RX5 55 yX5_failedOnes, Cond.instanceMethod yX5_failedOnes, Cond.selects RX5 yX5_failedOnes yX5_failedOnes, Cond.code yX5_failedOnes cX5_failedOnes 6 (some .int), Cond.methodLink RX5 59 yX5_timeToShut]
def wsX11_time : List Cond := .code yX11_time cX11_time 3 (some .int) :: ((wsX11_time_r1 ++ wsX11_time_r2) ++ wsX110 ++ wsX50 ++ wsX20 ++ wsX30 ++ wsX80 ++ wsX100)
def wsX11_ship : List Cond := .code yX11_ship cX11_ship 3 (some .int) :: ([.constant RX11 219 (100000), .constant RX11 70 (-1000001), .fieldLink RX11 51 "SeaGates" "fairway" "LSeaGates$Fairway;", .fieldLink RX11 220 "SeaGates$Fairway" "size" "I", .constant RX11 107 (-1000003), .methodLink RX11 66 yX11_within, .static yX11_within, .initialized RX11, .code yX11_within cX11_within 3 (some .boolean), .methodLink RX11 221 yX1_add, .instanceMethod yX1_add, .selects RX1 yX1_add yX1_add, .initialized RX1, .code yX1_add cX1_add 5 (some .int), .fieldLink RX1 21 "SeaGates$Fairway" "size" "I", .fieldLink RX1 9 "SeaGates$Fairway" "minutes" "[I", .fieldLink RX1 15 "SeaGates$Fairway" "passing" "[I", .fieldLink RX1 18 "SeaGates$Fairway" "inTurn" "[I"] ++ wsX110 ++ wsX10)
def wsX11_waits : List Cond := .code yX11_waits cX11_waits 4 (some .int) :: ([.fieldLink RX11 51 "SeaGates" "fairway" "LSeaGates$Fairway;", .fieldLink RX11 220 "SeaGates$Fairway" "size" "I", .constant RX11 219 (100000), .constant RX11 70 (-1000001), .methodLink RX11 66 yX11_within, .static yX11_within, .initialized RX11, .code yX11_within cX11_within 3 (some .boolean), .methodLink RX11 223 yX1_waitOf, .instanceMethod yX1_waitOf, .selects RX1 yX1_waitOf yX1_waitOf, .initialized RX1, .code yX1_waitOf cX1_waitOf 9 (some .int), .fieldLink RX1 21 "SeaGates$Fairway" "size" "I", .fieldLink RX1 18 "SeaGates$Fairway" "inTurn" "[I", .fieldLink RX1 9 "SeaGates$Fairway" "minutes" "[I", .methodLink RX1 25 Lib.Math.max.name, .static Lib.Math.max.name, .initialized "java/lang/Math", .code Lib.Math.max.name Lib.Math.max.code 2 (some .int), .fieldLink RX1 15 "SeaGates$Fairway" "passing" "[I"] ++ wsX110 ++ wsX10)
def wsX11_arePeaks : List Cond := .code yX11_arePeaks cX11_arePeaks 3 (some .boolean) :: ([.methodLink RX11 66 yX11_within, .static yX11_within, .initialized RX11, .code yX11_within cX11_within 3 (some .boolean)])
def wsX11_levelIn : List Cond := .code yX11_levelIn cX11_levelIn 3 (some .long) :: ([])
def wsX11_closings_r1 : List Cond := [Cond.constant RX11 70 (-1000001), Cond.fieldLink RX11 12 "SeaGates" "sheets" "LSeaGates$Sheets;", Cond.methodLink RX11 226 yX11_arePeaks, Cond.static yX11_arePeaks, Cond.initialized RX11, Cond.code yX11_arePeaks cX11_arePeaks 3 (some .boolean), Cond.methodLink RX11 66 yX11_within, Cond.static yX11_within, Cond.code yX11_within cX11_within 3 (some .boolean), Cond.methodLink RX11 82 yX7_look, Cond.instanceMethod yX7_look, Cond.selects RX7 yX7_look yX7_look, Cond.initialized RX7, Cond.code yX7_look cX7_look 4 (some .int), Cond.methodLink RX7 29 yX7_isMissing, Cond.instanceMethod yX7_isMissing, Cond.selects RX7 yX7_isMissing yX7_isMissing, Cond.code yX7_isMissing cX7_isMissing 2 (some .boolean), Cond.fieldLink RX7 20 "SeaGates$Sheets" "sizes" "[I", Cond.methodLink RX7 33 yX7_hasPlaces, Cond.instanceMethod yX7_hasPlaces, Cond.selects RX7 yX7_hasPlaces yX7_hasPlaces, Cond.code yX7_hasPlaces cX7_hasPlaces 4 (some .boolean), Cond.methodLink RX11 71 yX11_found]
def wsX11_closings_r2 : List Cond := [Cond.instanceMethod yX11_found, Cond.selects RX11 yX11_found yX11_found, Cond.code yX11_found cX11_found 2 (some .int), Cond.fieldLink RX11 62 "SeaGates" "finding" "I", Cond.constant RX11 270 (-1000010), Cond.methodLink RX11 229 yX11_levelIn, Cond.static yX11_levelIn, Cond.code yX11_levelIn cX11_levelIn 3 (some .long), Cond.methodLink RX11 233 yX7_above, Cond.instanceMethod yX7_above, Cond.selects RX7 yX7_above yX7_above, Cond.code yX7_above cX7_above 8 (some .int), Cond.fieldLink RX7 11 "SeaGates$Sheets" "items" "[[I", Cond.methodLink RX11 79 yX11_fine, Cond.instanceMethod yX11_fine, Cond.selects RX11 yX11_fine yX11_fine, Cond.code yX11_fine cX11_fine 2 (some .int)]
def wsX11_closings : List Cond := .code yX11_closings cX11_closings 8 (some .int) :: ((wsX11_closings_r1 ++ wsX11_closings_r2) ++ wsX110 ++ wsX70)
def wsX11_tooMany_r1 : List Cond := [Cond.constant RX11 70 (-1000001), Cond.fieldLink RX11 12 "SeaGates" "sheets" "LSeaGates$Sheets;", Cond.constant RX11 175 (-1000000), Cond.methodLink RX11 226 yX11_arePeaks, Cond.static yX11_arePeaks, Cond.initialized RX11, Cond.code yX11_arePeaks cX11_arePeaks 3 (some .boolean), Cond.methodLink RX11 66 yX11_within, Cond.static yX11_within, Cond.code yX11_within cX11_within 3 (some .boolean), Cond.methodLink RX11 82 yX7_look, Cond.instanceMethod yX7_look, Cond.selects RX7 yX7_look yX7_look, Cond.initialized RX7, Cond.code yX7_look cX7_look 4 (some .int), Cond.methodLink RX7 29 yX7_isMissing, Cond.instanceMethod yX7_isMissing, Cond.selects RX7 yX7_isMissing yX7_isMissing, Cond.code yX7_isMissing cX7_isMissing 2 (some .boolean), Cond.fieldLink RX7 20 "SeaGates$Sheets" "sizes" "[I", Cond.methodLink RX7 33 yX7_hasPlaces, Cond.instanceMethod yX7_hasPlaces, Cond.selects RX7 yX7_hasPlaces yX7_hasPlaces, Cond.code yX7_hasPlaces cX7_hasPlaces 4 (some .boolean)]
def wsX11_tooMany_r2 : List Cond := [Cond.methodLink RX11 71 yX11_found, Cond.instanceMethod yX11_found, Cond.selects RX11 yX11_found yX11_found, Cond.code yX11_found cX11_found 2 (some .int), Cond.fieldLink RX11 62 "SeaGates" "finding" "I", Cond.constant RX11 270 (-1000010), Cond.methodLink RX11 229 yX11_levelIn, Cond.static yX11_levelIn, Cond.code yX11_levelIn cX11_levelIn 3 (some .long), Cond.methodLink RX11 233 yX7_above, Cond.instanceMethod yX7_above, Cond.selects RX7 yX7_above yX7_above, Cond.code yX7_above cX7_above 8 (some .int), Cond.fieldLink RX7 11 "SeaGates$Sheets" "items" "[[I", Cond.methodLink RX11 79 yX11_fine, Cond.instanceMethod yX11_fine, Cond.selects RX11 yX11_fine yX11_fine, Cond.code yX11_fine cX11_fine 2 (some .int)]
def wsX11_tooMany : List Cond := .code yX11_tooMany cX11_tooMany 12 (some .int) :: ((wsX11_tooMany_r1 ++ wsX11_tooMany_r2) ++ wsX110 ++ wsX70)
def wsX11_kind_r1 : List Cond := [Cond.fieldLink RX11 44 "SeaGates" "row" "LSeaGates$Row;", Cond.constant RX11 70 (-1000001), Cond.methodLink RX11 206 yX5_at, Cond.instanceMethod yX5_at, Cond.selects RX5 yX5_at yX5_at, Cond.initialized RX5, Cond.code yX5_at cX5_at 2 (some (.object "SeaGates$Gate")), Cond.fieldLink RX5 21 "SeaGates$Row" "size" "I", Cond.fieldLink RX5 11 "SeaGates$Row" "gates" "[LSeaGates$Gate;", Cond.static yX11_within, Cond.initialized RX11, Cond.code yX11_within cX11_within 3 (some .boolean), Cond.methodLink RX11 237 yX2_toldAs, Cond.instanceMethod yX2_toldAs, Cond.selects RX2 yX2_toldAs yX2_toldAs, Cond.initialized RX2, Cond.code yX2_toldAs cX2_toldAs 1 (some .int), Cond.methodLink RX11 237 ⟨"SeaGates$Gate", "toldAs", "()I"⟩, Cond.sameMethod "SeaGates$Gate" "SeaGates$Gate" "toldAs" "()I", Cond.instanceMethod ⟨"SeaGates$Gate", "toldAs", "()I"⟩, Cond.selects RX3 ⟨"SeaGates$Gate", "toldAs", "()I"⟩ yX3_toldAs, Cond.instanceMethod yX3_toldAs, Cond.initialized RX3, Cond.code yX3_toldAs cX3_toldAs 1 (some .int)]
def wsX11_kind_r2 : List Cond := [Cond.selects RX8 ⟨"SeaGates$Gate", "toldAs", "()I"⟩ yX8_toldAs, Cond.instanceMethod yX8_toldAs, Cond.initialized RX8, Cond.code yX8_toldAs cX8_toldAs 1 (some .int), Cond.selects RX10 ⟨"SeaGates$Gate", "toldAs", "()I"⟩ yX10_toldAs, Cond.instanceMethod yX10_toldAs, Cond.initialized RX10, Cond.code yX10_toldAs cX10_toldAs 1 (some .int)]
def wsX11_kind : List Cond := .code yX11_kind cX11_kind 3 (some .int) :: ((wsX11_kind_r1 ++ wsX11_kind_r2) ++ wsX110 ++ wsX50)
def wsX11_isOf : List Cond := .code yX11_isOf cX11_isOf 2 (some .boolean) :: ([.classLink RX11 192 "SeaGates$Handed", .classLink RX11 187 "SeaGates$Twin", .classLink RX11 195 "SeaGates$Slow"])
def wsX11_as_r1 : List Cond := [Cond.fieldLink RX11 44 "SeaGates" "row" "LSeaGates$Row;", Cond.constant RX11 70 (-1000001), Cond.fieldLink RX11 245 "SeaGates$Gate" "minutes" "I", Cond.methodLink RX11 206 yX5_at, Cond.instanceMethod yX5_at, Cond.selects RX5 yX5_at yX5_at, Cond.initialized RX5, Cond.code yX5_at cX5_at 2 (some (.object "SeaGates$Gate")), Cond.fieldLink RX5 21 "SeaGates$Row" "size" "I", Cond.fieldLink RX5 11 "SeaGates$Row" "gates" "[LSeaGates$Gate;", Cond.static yX11_within, Cond.initialized RX11, Cond.code yX11_within cX11_within 3 (some .boolean), Cond.methodLink RX11 66 yX11_within, Cond.methodLink RX11 241 yX11_isOf, Cond.static yX11_isOf, Cond.code yX11_isOf cX11_isOf 2 (some .boolean), Cond.classLink RX11 192 "SeaGates$Handed", Cond.classLink RX11 187 "SeaGates$Twin", Cond.classLink RX11 195 "SeaGates$Slow", Cond.methodLink RX11 79 yX11_fine, Cond.instanceMethod yX11_fine, Cond.selects RX11 yX11_fine yX11_fine, Cond.code yX11_fine cX11_fine 2 (some .int)]
def wsX11_as_r2 : List Cond := [Cond.fieldLink RX11 62 "SeaGates" "finding" "I", Cond.methodLink RX11 71 yX11_found, Cond.instanceMethod yX11_found, Cond.selects RX11 yX11_found yX11_found, Cond.code yX11_found cX11_found 2 (some .int), Cond.constant RX11 270 (-1000010)]
def wsX11_as : List Cond := .code yX11_as cX11_as 4 (some .int) :: ((wsX11_as_r1 ++ wsX11_as_r2) ++ wsX110 ++ wsX20 ++ wsX30 ++ wsX80 ++ wsX100 ++ wsX50)
def wsX11_ask_r1 : List Cond := [Cond.fieldLink RX11 44 "SeaGates" "row" "LSeaGates$Row;", Cond.constant RX11 70 (-1000001), Cond.fieldLink RX11 58 "SeaGates" "bodies" "LSeaGates$Trace;", Cond.fieldLink RX11 248 "SeaGates$Trace" "length" "I", Cond.methodLink RX11 206 yX5_at, Cond.instanceMethod yX5_at, Cond.selects RX5 yX5_at yX5_at, Cond.initialized RX5, Cond.code yX5_at cX5_at 2 (some (.object "SeaGates$Gate")), Cond.fieldLink RX5 21 "SeaGates$Row" "size" "I", Cond.fieldLink RX5 11 "SeaGates$Row" "gates" "[LSeaGates$Gate;", Cond.static yX11_within, Cond.initialized RX11, Cond.code yX11_within cX11_within 3 (some .boolean), Cond.methodLink RX11 66 yX11_within, Cond.methodLink RX11 251 yX2_cost, Cond.instanceMethod yX2_cost, Cond.selects RX2 yX2_cost yX2_cost, Cond.initialized RX2, Cond.code yX2_cost cX2_cost 2 (some .int), Cond.fieldLink RX2 15 "SeaGates$Gate" "minutes" "I", Cond.methodLink RX2 22 yX9_leave, Cond.instanceMethod yX9_leave, Cond.selects RX9 yX9_leave yX9_leave]
def wsX11_ask_r2 : List Cond := [Cond.initialized RX9, Cond.code yX9_leave cX9_leave 2 none, Cond.fieldLink RX9 15 "SeaGates$Trace" "length" "I", Cond.fieldLink RX9 9 "SeaGates$Trace" "numbers" "[I", Cond.methodLink RX11 251 ⟨"SeaGates$Gate", "cost", "(LSeaGates$Trace;)I"⟩, Cond.sameMethod "SeaGates$Gate" "SeaGates$Gate" "cost" "(LSeaGates$Trace;)I", Cond.instanceMethod ⟨"SeaGates$Gate", "cost", "(LSeaGates$Trace;)I"⟩, Cond.selects RX3 ⟨"SeaGates$Gate", "cost", "(LSeaGates$Trace;)I"⟩ yX3_cost, Cond.instanceMethod yX3_cost, Cond.initialized RX3, Cond.code yX3_cost cX3_cost 2 (some .int), Cond.fieldLink RX3 19 "SeaGates$Handed" "hand" "I", Cond.sameField "SeaGates$Handed" "SeaGates$Gate" "hand" "I", Cond.methodLink RX3 9 yX9_leave, Cond.methodLink RX3 15 yX2_cost, Cond.superclass RX3 RX2, Cond.selects RX8 ⟨"SeaGates$Gate", "cost", "(LSeaGates$Trace;)I"⟩ yX8_cost, Cond.instanceMethod yX8_cost, Cond.initialized RX8, Cond.code yX8_cost cX8_cost 2 (some .int), Cond.methodLink RX8 9 yX9_leave, Cond.methodLink RX8 15 yX2_cost, Cond.superclass RX8 RX2, Cond.selects RX10 ⟨"SeaGates$Gate", "cost", "(LSeaGates$Trace;)I"⟩ yX10_cost]
def wsX11_ask_r3 : List Cond := [Cond.instanceMethod yX10_cost, Cond.initialized RX10, Cond.code yX10_cost cX10_cost 2 (some .int), Cond.methodLink RX10 9 yX9_leave, Cond.methodLink RX10 15 yX3_cost, Cond.sameMethod "SeaGates$Handed" "SeaGates$Handed" "cost" "(LSeaGates$Trace;)I", Cond.superclass RX10 RX3, Cond.methodLink RX11 255 yX2_mark, Cond.instanceMethod yX2_mark, Cond.selects RX2 yX2_mark yX2_mark, Cond.code yX2_mark cX2_mark 2 (some .int), Cond.fieldLink RX2 9 "SeaGates$Gate" "failed" "Z", Cond.methodLink RX11 255 ⟨"SeaGates$Gate", "mark", "(LSeaGates$Trace;)I"⟩, Cond.sameMethod "SeaGates$Gate" "SeaGates$Gate" "mark" "(LSeaGates$Trace;)I", Cond.instanceMethod ⟨"SeaGates$Gate", "mark", "(LSeaGates$Trace;)I"⟩, Cond.selects RX3 ⟨"SeaGates$Gate", "mark", "(LSeaGates$Trace;)I"⟩ yX3_mark, Cond.instanceMethod yX3_mark, Cond.code yX3_mark cX3_mark 2 (some .int), Cond.methodLink RX3 25 yX2_mark, Cond.methodLink RX3 28 yX3_cost, Cond.selects RX3 yX3_cost yX3_cost, Cond.methodLink RX3 28 ⟨"SeaGates$Handed", "cost", "(LSeaGates$Trace;)I"⟩, Cond.instanceMethod ⟨"SeaGates$Handed", "cost", "(LSeaGates$Trace;)I"⟩, Cond.selects RX10 ⟨"SeaGates$Handed", "cost", "(LSeaGates$Trace;)I"⟩ yX10_cost]
def wsX11_ask_r4 : List Cond := [Cond.selects RX8 ⟨"SeaGates$Gate", "mark", "(LSeaGates$Trace;)I"⟩ yX8_mark, Cond.instanceMethod yX8_mark, Cond.code yX8_mark cX8_mark 2 (some .int), Cond.methodLink RX8 19 yX2_mark, Cond.methodLink RX8 22 yX8_cost, Cond.selects RX8 yX8_cost yX8_cost, Cond.selects RX10 ⟨"SeaGates$Gate", "mark", "(LSeaGates$Trace;)I"⟩ yX3_mark]
def wsX11_ask : List Cond := .code yX11_ask cX11_ask 4 (some .int) :: ((wsX11_ask_r1 ++ (wsX11_ask_r2 ++ (wsX11_ask_r3 ++ wsX11_ask_r4))) ++ wsX110 ++ wsX90 ++ wsX50 ++ wsX20 ++ wsX30 ++ wsX80 ++ wsX100)
def wsX11_trace : List Cond := .code yX11_trace cX11_trace 2 (some .int) :: ([.fieldLink RX11 58 "SeaGates" "bodies" "LSeaGates$Trace;", .fieldLink RX11 248 "SeaGates$Trace" "length" "I", .fieldLink RX11 258 "SeaGates$Trace" "numbers" "[I", .constant RX11 175 (-1000000), .methodLink RX11 66 yX11_within, .static yX11_within, .initialized RX11, .code yX11_within cX11_within 3 (some .boolean)] ++ wsX110 ++ wsX90)
def wsX11_count_r1 : List Cond := [Cond.fieldLink RX11 12 "SeaGates" "sheets" "LSeaGates$Sheets;", Cond.fieldLink RX11 19 "SeaGates" "sea" "LSeaGates$Sea;", Cond.fieldLink RX11 104 "SeaGates$Sea" "size" "I", Cond.fieldLink RX11 44 "SeaGates" "row" "LSeaGates$Row;", Cond.fieldLink RX11 179 "SeaGates$Row" "size" "I", Cond.fieldLink RX11 51 "SeaGates" "fairway" "LSeaGates$Fairway;", Cond.fieldLink RX11 220 "SeaGates$Fairway" "size" "I", Cond.constant RX11 70 (-1000001), Cond.methodLink RX11 261 yX7_present, Cond.instanceMethod yX7_present, Cond.selects RX7 yX7_present yX7_present, Cond.initialized RX7, Cond.code yX7_present cX7_present 3 (some .int), Cond.methodLink RX7 29 yX7_isMissing, Cond.instanceMethod yX7_isMissing, Cond.selects RX7 yX7_isMissing yX7_isMissing, Cond.code yX7_isMissing cX7_isMissing 2 (some .boolean), Cond.fieldLink RX7 20 "SeaGates$Sheets" "sizes" "[I", Cond.methodLink RX11 264 yX6_allWeights, Cond.instanceMethod yX6_allWeights, Cond.selects RX6 yX6_allWeights yX6_allWeights, Cond.initialized RX6, Cond.code yX6_allWeights cX6_allWeights 3 (some .int), Cond.fieldLink RX6 23 "SeaGates$Sea" "size" "I"]
def wsX11_count_r2 : List Cond := [Cond.fieldLink RX6 9 "SeaGates$Sea" "weights" "[I", Cond.methodLink RX11 267 yX5_failedOnes, Cond.instanceMethod yX5_failedOnes, Cond.selects RX5 yX5_failedOnes yX5_failedOnes, Cond.initialized RX5, Cond.code yX5_failedOnes cX5_failedOnes 6 (some .int), Cond.fieldLink RX5 11 "SeaGates$Row" "gates" "[LSeaGates$Gate;", Cond.fieldLink RX5 29 "SeaGates$Gate" "failed" "Z"]
def wsX11_count : List Cond := .code yX11_count cX11_count 2 (some .int) :: ((wsX11_count_r1 ++ wsX11_count_r2) ++ wsX110 ++ wsX60 ++ wsX50 ++ wsX10 ++ wsX70 ++ wsX20 ++ wsX30 ++ wsX80 ++ wsX100)
def wsX11_status : List Cond := .code yX11_status cX11_status 1 (some .int) :: ([.fieldLink RX11 62 "SeaGates" "finding" "I"] ++ wsX110)
def wsX12_init : List Cond := .code yX12_init cX12_init 1 none :: ([.methodLink RX12 1 objectInit, .instanceMethod objectInit, .code objectInit ⟨#[0xb1]⟩ 1 none, .arrayClass .int, .fieldLink RX12 7 "SeaGatesModel" "rule" "[I", .fieldLink RX12 13 "SeaGatesModel" "river" "[I", .fieldLink RX12 16 "SeaGatesModel" "lane" "[I", .fieldLink RX12 19 "SeaGatesModel" "many" "[I", .fieldLink RX12 22 "SeaGatesModel" "item" "[I", .fieldLink RX12 25 "SeaGatesModel" "weight" "[I", .fieldLink RX12 28 "SeaGatesModel" "sea" "[I", .arrayClass .long, .fieldLink RX12 31 "SeaGatesModel" "least" "[J", .arrayClass .boolean, .fieldLink RX12 35 "SeaGatesModel" "isTold" "[Z", .fieldLink RX12 39 "SeaGatesModel" "minutes" "[I", .fieldLink RX12 42 "SeaGatesModel" "hand" "[I", .fieldLink RX12 45 "SeaGatesModel" "hasFailed" "[Z", .fieldLink RX12 48 "SeaGatesModel" "crew" "[I", .fieldLink RX12 51 "SeaGatesModel" "comes" "[I", .fieldLink RX12 54 "SeaGatesModel" "takes" "[I", .fieldLink RX12 57 "SeaGatesModel" "trace" "[I"] ++ wsX120)
def wsX12_in : List Cond := .code yX12_in cX12_in 6 (some .boolean) :: ([])
def wsX12_found : List Cond := .code yX12_found cX12_found 2 (some .int) :: ([.fieldLink RX12 64 "SeaGatesModel" "status" "I", .constant RX12 67 (-1000010)] ++ wsX120)
def wsX12_isSheet : List Cond := .code yX12_isSheet cX12_isSheet 1 (some .boolean) :: ([.constantLong RX12 68 (7), .methodLink RX12 70 yX12_in, .static yX12_in, .initialized RX12, .code yX12_in cX12_in 6 (some .boolean)])
def wsX12_sheet : List Cond := .code yX12_sheet cX12_sheet 5 (some .int) :: ([.fieldLink RX12 60 "SeaGatesModel" "thrown" "I", .constantLong RX12 78 (2), .constant RX12 80 (-1000001), .fieldLink RX12 64 "SeaGatesModel" "status" "I", .fieldLink RX12 16 "SeaGatesModel" "lane" "[I", .fieldLink RX12 19 "SeaGatesModel" "many" "[I", .fieldLink RX12 22 "SeaGatesModel" "item" "[I", .methodLink RX12 74 yX12_isSheet, .static yX12_isSheet, .initialized RX12, .code yX12_isSheet cX12_isSheet 1 (some .boolean), .constantLong RX12 68 (7), .methodLink RX12 70 yX12_in, .static yX12_in, .code yX12_in cX12_in 6 (some .boolean), .methodLink RX12 81 yX12_found, .instanceMethod yX12_found, .selects RX12 yX12_found yX12_found, .code yX12_found cX12_found 2 (some .int), .constant RX12 67 (-1000010)] ++ wsX120)
def wsX12_set : List Cond := .code yX12_set cX12_set 4 (some .int) :: ([.fieldLink RX12 60 "SeaGatesModel" "thrown" "I", .constant RX12 80 (-1000001), .fieldLink RX12 64 "SeaGatesModel" "status" "I", .fieldLink RX12 16 "SeaGatesModel" "lane" "[I", .fieldLink RX12 19 "SeaGatesModel" "many" "[I", .fieldLink RX12 22 "SeaGatesModel" "item" "[I", .methodLink RX12 74 yX12_isSheet, .static yX12_isSheet, .initialized RX12, .code yX12_isSheet cX12_isSheet 1 (some .boolean), .constantLong RX12 68 (7), .methodLink RX12 70 yX12_in, .static yX12_in, .code yX12_in cX12_in 6 (some .boolean), .methodLink RX12 81 yX12_found, .instanceMethod yX12_found, .selects RX12 yX12_found yX12_found, .code yX12_found cX12_found 2 (some .int), .constant RX12 67 (-1000010)] ++ wsX120)
def wsX12_copy : List Cond := .code yX12_copy cX12_copy 9 (some .int) :: ([.fieldLink RX12 60 "SeaGatesModel" "thrown" "I", .constant RX12 80 (-1000001), .fieldLink RX12 64 "SeaGatesModel" "status" "I", .fieldLink RX12 16 "SeaGatesModel" "lane" "[I", .fieldLink RX12 19 "SeaGatesModel" "many" "[I", .fieldLink RX12 22 "SeaGatesModel" "item" "[I", .methodLink RX12 74 yX12_isSheet, .static yX12_isSheet, .initialized RX12, .code yX12_isSheet cX12_isSheet 1 (some .boolean), .constantLong RX12 68 (7), .methodLink RX12 70 yX12_in, .static yX12_in, .code yX12_in cX12_in 6 (some .boolean), .methodLink RX12 81 yX12_found, .instanceMethod yX12_found, .selects RX12 yX12_found yX12_found, .code yX12_found cX12_found 2 (some .int), .constant RX12 67 (-1000010)] ++ wsX120)
def wsX12_drop : List Cond := .code yX12_drop cX12_drop 2 (some .int) :: ([.fieldLink RX12 60 "SeaGatesModel" "thrown" "I", .constant RX12 80 (-1000001), .fieldLink RX12 64 "SeaGatesModel" "status" "I", .fieldLink RX12 16 "SeaGatesModel" "lane" "[I", .fieldLink RX12 19 "SeaGatesModel" "many" "[I", .methodLink RX12 74 yX12_isSheet, .static yX12_isSheet, .initialized RX12, .code yX12_isSheet cX12_isSheet 1 (some .boolean), .constantLong RX12 68 (7), .methodLink RX12 70 yX12_in, .static yX12_in, .code yX12_in cX12_in 6 (some .boolean), .methodLink RX12 81 yX12_found, .instanceMethod yX12_found, .selects RX12 yX12_found yX12_found, .code yX12_found cX12_found 2 (some .int), .constant RX12 67 (-1000010)] ++ wsX120)
def wsX12_world_r1 : List Cond := [Cond.fieldLink RX12 60 "SeaGatesModel" "thrown" "I", Cond.constantLong RX12 85 (20), Cond.constant RX12 80 (-1000001), Cond.fieldLink RX12 87 "SeaGatesModel" "worlds" "I", Cond.constant RX12 90 (-1000003), Cond.fieldLink RX12 16 "SeaGatesModel" "lane" "[I", Cond.constantLong RX12 91 (8), Cond.fieldLink RX12 19 "SeaGatesModel" "many" "[I", Cond.fieldLink RX12 22 "SeaGatesModel" "item" "[I", Cond.constantLong RX12 93 (1000), Cond.fieldLink RX12 64 "SeaGatesModel" "status" "I", Cond.fieldLink RX12 28 "SeaGatesModel" "sea" "[I", Cond.fieldLink RX12 25 "SeaGatesModel" "weight" "[I", Cond.methodLink RX12 70 yX12_in, Cond.static yX12_in, Cond.initialized RX12, Cond.code yX12_in cX12_in 6 (some .boolean), Cond.methodLink RX12 74 yX12_isSheet, Cond.static yX12_isSheet, Cond.code yX12_isSheet cX12_isSheet 1 (some .boolean), Cond.constantLong RX12 68 (7), Cond.methodLink RX12 81 yX12_found, Cond.instanceMethod yX12_found, Cond.selects RX12 yX12_found yX12_found]
def wsX12_world_r2 : List Cond := [Cond.code yX12_found cX12_found 2 (some .int), Cond.constant RX12 67 (-1000010)]
def wsX12_world : List Cond := .code yX12_world cX12_world 5 (some .int) :: ((wsX12_world_r1 ++ wsX12_world_r2) ++ wsX120)
def wsX12_river : List Cond := .code yX12_river cX12_river 4 (some .int) :: ([.fieldLink RX12 60 "SeaGatesModel" "thrown" "I", .constantLong RX12 68 (7), .constantLong RX12 95 (100), .constant RX12 80 (-1000001), .fieldLink RX12 13 "SeaGatesModel" "river" "[I", .methodLink RX12 70 yX12_in, .static yX12_in, .initialized RX12, .code yX12_in cX12_in 6 (some .boolean)] ++ wsX120)
def wsX12_rule : List Cond := .code yX12_rule cX12_rule 4 (some .int) :: ([.fieldLink RX12 60 "SeaGatesModel" "thrown" "I", .constantLong RX12 68 (7), .constantLong RX12 97 (3), .constantLong RX12 93 (1000), .constant RX12 80 (-1000001), .fieldLink RX12 7 "SeaGatesModel" "rule" "[I", .methodLink RX12 70 yX12_in, .static yX12_in, .initialized RX12, .code yX12_in cX12_in 6 (some .boolean)] ++ wsX120)
def wsX12_groupOf : List Cond := .code yX12_groupOf cX12_groupOf 6 (some .int) :: ([.fieldLink RX12 28 "SeaGatesModel" "sea" "[I"] ++ wsX120)
def wsX12_stateIn : List Cond := .code yX12_stateIn cX12_stateIn 2 (some .int) :: ([])
def wsX12_after : List Cond := .code yX12_after cX12_after 4 (some .int) :: ([.fieldLink RX12 7 "SeaGatesModel" "rule" "[I"] ++ wsX120)
def wsX12_waterIn : List Cond := .code yX12_waterIn cX12_waterIn 8 (some .int) :: ([.fieldLink RX12 28 "SeaGatesModel" "sea" "[I", .fieldLink RX12 13 "SeaGatesModel" "river" "[I", .methodLink RX12 99 yX12_stateIn, .static yX12_stateIn, .initialized RX12, .code yX12_stateIn cX12_stateIn 2 (some .int)] ++ wsX120)
def wsX12_lostIn : List Cond := .code yX12_lostIn cX12_lostIn 7 (some .int) :: ([.fieldLink RX12 7 "SeaGatesModel" "rule" "[I", .fieldLink RX12 28 "SeaGatesModel" "sea" "[I", .methodLink RX12 99 yX12_stateIn, .static yX12_stateIn, .initialized RX12, .code yX12_stateIn cX12_stateIn 2 (some .int), .methodLink RX12 103 yX12_waterIn, .instanceMethod yX12_waterIn, .selects RX12 yX12_waterIn yX12_waterIn, .code yX12_waterIn cX12_waterIn 8 (some .int), .fieldLink RX12 13 "SeaGatesModel" "river" "[I"] ++ wsX120)
def wsX12_lossBy_r1 : List Cond := [Cond.fieldLink RX12 87 "SeaGatesModel" "worlds" "I", Cond.fieldLink RX12 25 "SeaGatesModel" "weight" "[I", Cond.fieldLink RX12 31 "SeaGatesModel" "least" "[J", Cond.methodLink RX12 107 yX12_after, Cond.instanceMethod yX12_after, Cond.selects RX12 yX12_after yX12_after, Cond.initialized RX12, Cond.code yX12_after cX12_after 4 (some .int), Cond.fieldLink RX12 7 "SeaGatesModel" "rule" "[I", Cond.methodLink RX12 111 yX12_groupOf, Cond.instanceMethod yX12_groupOf, Cond.selects RX12 yX12_groupOf yX12_groupOf, Cond.code yX12_groupOf cX12_groupOf 6 (some .int), Cond.fieldLink RX12 28 "SeaGatesModel" "sea" "[I", Cond.methodLink RX12 115 yX12_lostIn, Cond.instanceMethod yX12_lostIn, Cond.selects RX12 yX12_lostIn yX12_lostIn, Cond.code yX12_lostIn cX12_lostIn 7 (some .int), Cond.methodLink RX12 99 yX12_stateIn, Cond.static yX12_stateIn, Cond.code yX12_stateIn cX12_stateIn 2 (some .int), Cond.methodLink RX12 103 yX12_waterIn, Cond.instanceMethod yX12_waterIn, Cond.selects RX12 yX12_waterIn yX12_waterIn]
def wsX12_lossBy_r2 : List Cond := [Cond.code yX12_waterIn cX12_waterIn 8 (some .int), Cond.fieldLink RX12 13 "SeaGatesModel" "river" "[I"]
def wsX12_lossBy : List Cond := .code yX12_lossBy cX12_lossBy 9 (some .long) :: ((wsX12_lossBy_r1 ++ wsX12_lossBy_r2) ++ wsX120)
def wsX12_findBest_r1 : List Cond := [Cond.fieldLink RX12 87 "SeaGatesModel" "worlds" "I", Cond.fieldLink RX12 31 "SeaGatesModel" "least" "[J", Cond.fieldLink RX12 35 "SeaGatesModel" "isTold" "[Z", Cond.methodLink RX12 111 yX12_groupOf, Cond.instanceMethod yX12_groupOf, Cond.selects RX12 yX12_groupOf yX12_groupOf, Cond.initialized RX12, Cond.code yX12_groupOf cX12_groupOf 6 (some .int), Cond.fieldLink RX12 28 "SeaGatesModel" "sea" "[I", Cond.methodLink RX12 118 yX12_lossBy, Cond.instanceMethod yX12_lossBy, Cond.selects RX12 yX12_lossBy yX12_lossBy, Cond.code yX12_lossBy cX12_lossBy 9 (some .long), Cond.fieldLink RX12 25 "SeaGatesModel" "weight" "[I", Cond.methodLink RX12 107 yX12_after, Cond.instanceMethod yX12_after, Cond.selects RX12 yX12_after yX12_after, Cond.code yX12_after cX12_after 4 (some .int), Cond.fieldLink RX12 7 "SeaGatesModel" "rule" "[I", Cond.methodLink RX12 115 yX12_lostIn, Cond.instanceMethod yX12_lostIn, Cond.selects RX12 yX12_lostIn yX12_lostIn, Cond.code yX12_lostIn cX12_lostIn 7 (some .int), Cond.methodLink RX12 99 yX12_stateIn]
def wsX12_findBest_r2 : List Cond := [Cond.static yX12_stateIn, Cond.code yX12_stateIn cX12_stateIn 2 (some .int), Cond.methodLink RX12 103 yX12_waterIn, Cond.instanceMethod yX12_waterIn, Cond.selects RX12 yX12_waterIn yX12_waterIn, Cond.code yX12_waterIn cX12_waterIn 8 (some .int), Cond.fieldLink RX12 13 "SeaGatesModel" "river" "[I"]
def wsX12_findBest : List Cond := .code yX12_findBest cX12_findBest 8 none :: ((wsX12_findBest_r1 ++ wsX12_findBest_r2) ++ wsX120)
def wsX12_best_r1 : List Cond := [Cond.fieldLink RX12 60 "SeaGatesModel" "thrown" "I", Cond.fieldLink RX12 87 "SeaGatesModel" "worlds" "I", Cond.fieldLink RX12 31 "SeaGatesModel" "least" "[J", Cond.methodLink RX12 122 yX12_findBest, Cond.instanceMethod yX12_findBest, Cond.selects RX12 yX12_findBest yX12_findBest, Cond.initialized RX12, Cond.code yX12_findBest cX12_findBest 8 none, Cond.fieldLink RX12 35 "SeaGatesModel" "isTold" "[Z", Cond.methodLink RX12 111 yX12_groupOf, Cond.instanceMethod yX12_groupOf, Cond.selects RX12 yX12_groupOf yX12_groupOf, Cond.code yX12_groupOf cX12_groupOf 6 (some .int), Cond.fieldLink RX12 28 "SeaGatesModel" "sea" "[I", Cond.methodLink RX12 118 yX12_lossBy, Cond.instanceMethod yX12_lossBy, Cond.selects RX12 yX12_lossBy yX12_lossBy, Cond.code yX12_lossBy cX12_lossBy 9 (some .long), Cond.fieldLink RX12 25 "SeaGatesModel" "weight" "[I", Cond.methodLink RX12 107 yX12_after, Cond.instanceMethod yX12_after, Cond.selects RX12 yX12_after yX12_after, Cond.code yX12_after cX12_after 4 (some .int), Cond.fieldLink RX12 7 "SeaGatesModel" "rule" "[I"]
def wsX12_best_r2 : List Cond := [Cond.methodLink RX12 115 yX12_lostIn, Cond.instanceMethod yX12_lostIn, Cond.selects RX12 yX12_lostIn yX12_lostIn, Cond.code yX12_lostIn cX12_lostIn 7 (some .int), Cond.methodLink RX12 99 yX12_stateIn, Cond.static yX12_stateIn, Cond.code yX12_stateIn cX12_stateIn 2 (some .int), Cond.methodLink RX12 103 yX12_waterIn, Cond.instanceMethod yX12_waterIn, Cond.selects RX12 yX12_waterIn yX12_waterIn, Cond.code yX12_waterIn cX12_waterIn 8 (some .int), Cond.fieldLink RX12 13 "SeaGatesModel" "river" "[I"]
def wsX12_best : List Cond := .code yX12_best cX12_best 4 (some .long) :: ((wsX12_best_r1 ++ wsX12_best_r2) ++ wsX120)
def wsX12_hour_r1 : List Cond := [Cond.fieldLink RX12 60 "SeaGatesModel" "thrown" "I", Cond.fieldLink RX12 87 "SeaGatesModel" "worlds" "I", Cond.constantLong RX12 68 (7), Cond.constantLong RX12 97 (3), Cond.constant RX12 80 (-1000001), Cond.fieldLink RX12 35 "SeaGatesModel" "isTold" "[Z", Cond.methodLink RX12 70 yX12_in, Cond.static yX12_in, Cond.initialized RX12, Cond.code yX12_in cX12_in 6 (some .boolean), Cond.methodLink RX12 122 yX12_findBest, Cond.instanceMethod yX12_findBest, Cond.selects RX12 yX12_findBest yX12_findBest, Cond.code yX12_findBest cX12_findBest 8 none, Cond.fieldLink RX12 31 "SeaGatesModel" "least" "[J", Cond.methodLink RX12 111 yX12_groupOf, Cond.instanceMethod yX12_groupOf, Cond.selects RX12 yX12_groupOf yX12_groupOf, Cond.code yX12_groupOf cX12_groupOf 6 (some .int), Cond.fieldLink RX12 28 "SeaGatesModel" "sea" "[I", Cond.methodLink RX12 118 yX12_lossBy, Cond.instanceMethod yX12_lossBy, Cond.selects RX12 yX12_lossBy yX12_lossBy, Cond.code yX12_lossBy cX12_lossBy 9 (some .long)]
def wsX12_hour_r2 : List Cond := [Cond.fieldLink RX12 25 "SeaGatesModel" "weight" "[I", Cond.methodLink RX12 107 yX12_after, Cond.instanceMethod yX12_after, Cond.selects RX12 yX12_after yX12_after, Cond.code yX12_after cX12_after 4 (some .int), Cond.fieldLink RX12 7 "SeaGatesModel" "rule" "[I", Cond.methodLink RX12 115 yX12_lostIn, Cond.instanceMethod yX12_lostIn, Cond.selects RX12 yX12_lostIn yX12_lostIn, Cond.code yX12_lostIn cX12_lostIn 7 (some .int), Cond.methodLink RX12 99 yX12_stateIn, Cond.static yX12_stateIn, Cond.code yX12_stateIn cX12_stateIn 2 (some .int), Cond.methodLink RX12 103 yX12_waterIn, Cond.instanceMethod yX12_waterIn, Cond.selects RX12 yX12_waterIn yX12_waterIn, Cond.code yX12_waterIn cX12_waterIn 8 (some .int), Cond.fieldLink RX12 13 "SeaGatesModel" "river" "[I"]
def wsX12_hour : List Cond := .code yX12_hour cX12_hour 6 (some .int) :: ((wsX12_hour_r1 ++ wsX12_hour_r2) ++ wsX120)
def wsX12_shutAt_r1 : List Cond := [Cond.fieldLink RX12 60 "SeaGatesModel" "thrown" "I", Cond.constantLong RX12 91 (8), Cond.constantLong RX12 125 (-1000001), Cond.fieldLink RX12 87 "SeaGatesModel" "worlds" "I", Cond.fieldLink RX12 25 "SeaGatesModel" "weight" "[I", Cond.methodLink RX12 70 yX12_in, Cond.static yX12_in, Cond.initialized RX12, Cond.code yX12_in cX12_in 6 (some .boolean), Cond.methodLink RX12 115 yX12_lostIn, Cond.instanceMethod yX12_lostIn, Cond.selects RX12 yX12_lostIn yX12_lostIn, Cond.code yX12_lostIn cX12_lostIn 7 (some .int), Cond.fieldLink RX12 7 "SeaGatesModel" "rule" "[I", Cond.fieldLink RX12 28 "SeaGatesModel" "sea" "[I", Cond.methodLink RX12 99 yX12_stateIn, Cond.static yX12_stateIn, Cond.code yX12_stateIn cX12_stateIn 2 (some .int), Cond.methodLink RX12 103 yX12_waterIn, Cond.instanceMethod yX12_waterIn, Cond.selects RX12 yX12_waterIn yX12_waterIn, Cond.code yX12_waterIn cX12_waterIn 8 (some .int), Cond.fieldLink RX12 13 "SeaGatesModel" "river" "[I", Cond.methodLink RX12 107 yX12_after]
def wsX12_shutAt_r2 : List Cond := [Cond.instanceMethod yX12_after, Cond.selects RX12 yX12_after yX12_after, Cond.code yX12_after cX12_after 4 (some .int)]
def wsX12_shutAt : List Cond := .code yX12_shutAt cX12_shutAt 7 (some .long) :: ((wsX12_shutAt_r1 ++ wsX12_shutAt_r2) ++ wsX120)
def wsX12_alarm : List Cond := .code yX12_alarm cX12_alarm 3 (some .int) :: ([.fieldLink RX12 60 "SeaGatesModel" "thrown" "I", .fieldLink RX12 87 "SeaGatesModel" "worlds" "I", .fieldLink RX12 28 "SeaGatesModel" "sea" "[I", .fieldLink RX12 7 "SeaGatesModel" "rule" "[I", .constant RX12 127 (-1000000)] ++ wsX120)
def wsX12_groups : List Cond := .code yX12_groups cX12_groups 4 (some .int) :: ([.fieldLink RX12 60 "SeaGatesModel" "thrown" "I", .constantLong RX12 68 (7), .constant RX12 80 (-1000001), .fieldLink RX12 87 "SeaGatesModel" "worlds" "I", .methodLink RX12 70 yX12_in, .static yX12_in, .initialized RX12, .code yX12_in cX12_in 6 (some .boolean), .methodLink RX12 111 yX12_groupOf, .instanceMethod yX12_groupOf, .selects RX12 yX12_groupOf yX12_groupOf, .code yX12_groupOf cX12_groupOf 6 (some .int), .fieldLink RX12 28 "SeaGatesModel" "sea" "[I"] ++ wsX120)
def wsX12_isGate : List Cond := .code yX12_isGate cX12_isGate 2 (some .boolean) :: ([.fieldLink RX12 128 "SeaGatesModel" "gates" "I", .methodLink RX12 70 yX12_in, .static yX12_in, .initialized RX12, .code yX12_in cX12_in 6 (some .boolean)] ++ wsX120)
def wsX12_gate : List Cond := .code yX12_gate cX12_gate 3 (some .int) :: ([.fieldLink RX12 60 "SeaGatesModel" "thrown" "I", .constantLong RX12 131 (500), .constantLong RX12 133 (2000), .constant RX12 80 (-1000001), .fieldLink RX12 128 "SeaGatesModel" "gates" "I", .constant RX12 90 (-1000003), .fieldLink RX12 39 "SeaGatesModel" "minutes" "[I", .fieldLink RX12 42 "SeaGatesModel" "hand" "[I", .methodLink RX12 70 yX12_in, .static yX12_in, .initialized RX12, .code yX12_in cX12_in 6 (some .boolean)] ++ wsX120)
def wsX12_fail : List Cond := .code yX12_fail cX12_fail 3 (some .int) :: ([.fieldLink RX12 60 "SeaGatesModel" "thrown" "I", .constant RX12 80 (-1000001), .fieldLink RX12 45 "SeaGatesModel" "hasFailed" "[Z", .methodLink RX12 135 yX12_isGate, .instanceMethod yX12_isGate, .selects RX12 yX12_isGate yX12_isGate, .initialized RX12, .code yX12_isGate cX12_isGate 2 (some .boolean), .fieldLink RX12 128 "SeaGatesModel" "gates" "I", .methodLink RX12 70 yX12_in, .static yX12_in, .code yX12_in cX12_in 6 (some .boolean)] ++ wsX120)
def wsX12_mend : List Cond := .code yX12_mend cX12_mend 3 (some .int) :: ([.fieldLink RX12 60 "SeaGatesModel" "thrown" "I", .constant RX12 80 (-1000001), .fieldLink RX12 45 "SeaGatesModel" "hasFailed" "[Z", .methodLink RX12 135 yX12_isGate, .instanceMethod yX12_isGate, .selects RX12 yX12_isGate yX12_isGate, .initialized RX12, .code yX12_isGate cX12_isGate 2 (some .boolean), .fieldLink RX12 128 "SeaGatesModel" "gates" "I", .methodLink RX12 70 yX12_in, .static yX12_in, .code yX12_in cX12_in 6 (some .boolean)] ++ wsX120)
def wsX12_timeBy : List Cond := .code yX12_timeBy cX12_timeBy 7 (some .int) :: ([.fieldLink RX12 48 "SeaGatesModel" "crew" "[I", .fieldLink RX12 128 "SeaGatesModel" "gates" "I", .fieldLink RX12 45 "SeaGatesModel" "hasFailed" "[Z", .fieldLink RX12 42 "SeaGatesModel" "hand" "[I", .constant RX12 127 (-1000000), .fieldLink RX12 39 "SeaGatesModel" "minutes" "[I"] ++ wsX120)
def wsX12_time : List Cond := .code yX12_time cX12_time 7 (some .int) :: ([.fieldLink RX12 60 "SeaGatesModel" "thrown" "I", .constantLong RX12 97 (3), .constant RX12 80 (-1000001), .constant RX12 127 (-1000000), .fieldLink RX12 128 "SeaGatesModel" "gates" "I", .fieldLink RX12 45 "SeaGatesModel" "hasFailed" "[Z", .methodLink RX12 70 yX12_in, .static yX12_in, .initialized RX12, .code yX12_in cX12_in 6 (some .boolean), .methodLink RX12 138 yX12_timeBy, .instanceMethod yX12_timeBy, .selects RX12 yX12_timeBy yX12_timeBy, .code yX12_timeBy cX12_timeBy 7 (some .int), .fieldLink RX12 48 "SeaGatesModel" "crew" "[I", .fieldLink RX12 42 "SeaGatesModel" "hand" "[I", .fieldLink RX12 39 "SeaGatesModel" "minutes" "[I"] ++ wsX120)
def wsX12_ship : List Cond := .code yX12_ship cX12_ship 3 (some .int) :: ([.fieldLink RX12 60 "SeaGatesModel" "thrown" "I", .constantLong RX12 141 (100000), .constantLong RX12 131 (500), .constant RX12 80 (-1000001), .fieldLink RX12 143 "SeaGatesModel" "ships" "I", .constant RX12 90 (-1000003), .fieldLink RX12 51 "SeaGatesModel" "comes" "[I", .fieldLink RX12 54 "SeaGatesModel" "takes" "[I", .methodLink RX12 70 yX12_in, .static yX12_in, .initialized RX12, .code yX12_in cX12_in 6 (some .boolean)] ++ wsX120)
def wsX12_waits : List Cond := .code yX12_waits cX12_waits 8 (some .int) :: ([.fieldLink RX12 60 "SeaGatesModel" "thrown" "I", .fieldLink RX12 143 "SeaGatesModel" "ships" "I", .constantLong RX12 141 (100000), .constant RX12 80 (-1000001), .constant RX12 127 (-1000000), .fieldLink RX12 51 "SeaGatesModel" "comes" "[I", .fieldLink RX12 54 "SeaGatesModel" "takes" "[I", .methodLink RX12 70 yX12_in, .static yX12_in, .initialized RX12, .code yX12_in cX12_in 6 (some .boolean)] ++ wsX120)
def wsX12_closingsOf : List Cond := .code yX12_closingsOf cX12_closingsOf 9 (some .int) :: ([.fieldLink RX12 22 "SeaGatesModel" "item" "[I"] ++ wsX120)
def wsX12_closings_r1 : List Cond := [Cond.fieldLink RX12 60 "SeaGatesModel" "thrown" "I", Cond.constantLong RX12 146 (60), Cond.constantLong RX12 148 (300), Cond.constantLong RX12 95 (100), Cond.constant RX12 80 (-1000001), Cond.fieldLink RX12 64 "SeaGatesModel" "status" "I", Cond.fieldLink RX12 16 "SeaGatesModel" "lane" "[I", Cond.fieldLink RX12 19 "SeaGatesModel" "many" "[I", Cond.methodLink RX12 74 yX12_isSheet, Cond.static yX12_isSheet, Cond.initialized RX12, Cond.code yX12_isSheet cX12_isSheet 1 (some .boolean), Cond.constantLong RX12 68 (7), Cond.methodLink RX12 70 yX12_in, Cond.static yX12_in, Cond.code yX12_in cX12_in 6 (some .boolean), Cond.methodLink RX12 81 yX12_found, Cond.instanceMethod yX12_found, Cond.selects RX12 yX12_found yX12_found, Cond.code yX12_found cX12_found 2 (some .int), Cond.constant RX12 67 (-1000010), Cond.methodLink RX12 150 yX12_closingsOf, Cond.instanceMethod yX12_closingsOf, Cond.selects RX12 yX12_closingsOf yX12_closingsOf]
def wsX12_closings_r2 : List Cond := [Cond.code yX12_closingsOf cX12_closingsOf 9 (some .int), Cond.fieldLink RX12 22 "SeaGatesModel" "item" "[I"]
def wsX12_closings : List Cond := .code yX12_closings cX12_closings 7 (some .int) :: ((wsX12_closings_r1 ++ wsX12_closings_r2) ++ wsX120)
def wsX12_tooMany_r1 : List Cond := [Cond.fieldLink RX12 60 "SeaGatesModel" "thrown" "I", Cond.constantLong RX12 146 (60), Cond.constantLong RX12 95 (100), Cond.constant RX12 80 (-1000001), Cond.fieldLink RX12 64 "SeaGatesModel" "status" "I", Cond.fieldLink RX12 16 "SeaGatesModel" "lane" "[I", Cond.fieldLink RX12 19 "SeaGatesModel" "many" "[I", Cond.constant RX12 127 (-1000000), Cond.methodLink RX12 74 yX12_isSheet, Cond.static yX12_isSheet, Cond.initialized RX12, Cond.code yX12_isSheet cX12_isSheet 1 (some .boolean), Cond.constantLong RX12 68 (7), Cond.methodLink RX12 70 yX12_in, Cond.static yX12_in, Cond.code yX12_in cX12_in 6 (some .boolean), Cond.methodLink RX12 81 yX12_found, Cond.instanceMethod yX12_found, Cond.selects RX12 yX12_found yX12_found, Cond.code yX12_found cX12_found 2 (some .int), Cond.constant RX12 67 (-1000010), Cond.methodLink RX12 150 yX12_closingsOf, Cond.instanceMethod yX12_closingsOf, Cond.selects RX12 yX12_closingsOf yX12_closingsOf]
def wsX12_tooMany_r2 : List Cond := [Cond.code yX12_closingsOf cX12_closingsOf 9 (some .int), Cond.fieldLink RX12 22 "SeaGatesModel" "item" "[I"]
def wsX12_tooMany : List Cond := .code yX12_tooMany cX12_tooMany 8 (some .int) :: ((wsX12_tooMany_r1 ++ wsX12_tooMany_r2) ++ wsX120)
def wsX12_kindOf : List Cond := .code yX12_kindOf cX12_kindOf 2 (some .int) :: ([.fieldLink RX12 42 "SeaGatesModel" "hand" "[I", .fieldLink RX12 39 "SeaGatesModel" "minutes" "[I"] ++ wsX120)
def wsX12_kind : List Cond := .code yX12_kind cX12_kind 2 (some .int) :: ([.fieldLink RX12 60 "SeaGatesModel" "thrown" "I", .constant RX12 80 (-1000001), .methodLink RX12 135 yX12_isGate, .instanceMethod yX12_isGate, .selects RX12 yX12_isGate yX12_isGate, .initialized RX12, .code yX12_isGate cX12_isGate 2 (some .boolean), .fieldLink RX12 128 "SeaGatesModel" "gates" "I", .methodLink RX12 70 yX12_in, .static yX12_in, .code yX12_in cX12_in 6 (some .boolean), .methodLink RX12 154 yX12_kindOf, .instanceMethod yX12_kindOf, .selects RX12 yX12_kindOf yX12_kindOf, .code yX12_kindOf cX12_kindOf 2 (some .int), .fieldLink RX12 42 "SeaGatesModel" "hand" "[I", .fieldLink RX12 39 "SeaGatesModel" "minutes" "[I"] ++ wsX120)
def wsX12_as : List Cond := .code yX12_as cX12_as 4 (some .int) :: ([.fieldLink RX12 60 "SeaGatesModel" "thrown" "I", .constantLong RX12 97 (3), .constant RX12 80 (-1000001), .fieldLink RX12 64 "SeaGatesModel" "status" "I", .fieldLink RX12 39 "SeaGatesModel" "minutes" "[I", .methodLink RX12 135 yX12_isGate, .instanceMethod yX12_isGate, .selects RX12 yX12_isGate yX12_isGate, .initialized RX12, .code yX12_isGate cX12_isGate 2 (some .boolean), .fieldLink RX12 128 "SeaGatesModel" "gates" "I", .methodLink RX12 70 yX12_in, .static yX12_in, .code yX12_in cX12_in 6 (some .boolean), .methodLink RX12 154 yX12_kindOf, .instanceMethod yX12_kindOf, .selects RX12 yX12_kindOf yX12_kindOf, .code yX12_kindOf cX12_kindOf 2 (some .int), .fieldLink RX12 42 "SeaGatesModel" "hand" "[I", .methodLink RX12 81 yX12_found, .instanceMethod yX12_found, .selects RX12 yX12_found yX12_found, .code yX12_found cX12_found 2 (some .int), .constant RX12 67 (-1000010)] ++ wsX120)
def wsX12_began : List Cond := .code yX12_began cX12_began 2 none :: ([.fieldLink RX12 157 "SeaGatesModel" "traced" "I", .fieldLink RX12 57 "SeaGatesModel" "trace" "[I"] ++ wsX120)
def wsX12_cost : List Cond := .code yX12_cost cX12_cost 5 (some .int) :: ([.fieldLink RX12 39 "SeaGatesModel" "minutes" "[I", .fieldLink RX12 42 "SeaGatesModel" "hand" "[I", .methodLink RX12 154 yX12_kindOf, .instanceMethod yX12_kindOf, .selects RX12 yX12_kindOf yX12_kindOf, .initialized RX12, .code yX12_kindOf cX12_kindOf 2 (some .int), .methodLink RX12 160 yX12_began, .instanceMethod yX12_began, .selects RX12 yX12_began yX12_began, .code yX12_began cX12_began 2 none, .fieldLink RX12 157 "SeaGatesModel" "traced" "I", .fieldLink RX12 57 "SeaGatesModel" "trace" "[I"] ++ wsX120)
def wsX12_marked : List Cond := .code yX12_marked cX12_marked 5 (some .int) :: ([.fieldLink RX12 45 "SeaGatesModel" "hasFailed" "[Z", .methodLink RX12 154 yX12_kindOf, .instanceMethod yX12_kindOf, .selects RX12 yX12_kindOf yX12_kindOf, .initialized RX12, .code yX12_kindOf cX12_kindOf 2 (some .int), .fieldLink RX12 42 "SeaGatesModel" "hand" "[I", .fieldLink RX12 39 "SeaGatesModel" "minutes" "[I", .methodLink RX12 160 yX12_began, .instanceMethod yX12_began, .selects RX12 yX12_began yX12_began, .code yX12_began cX12_began 2 none, .fieldLink RX12 157 "SeaGatesModel" "traced" "I", .fieldLink RX12 57 "SeaGatesModel" "trace" "[I", .methodLink RX12 164 yX12_cost, .instanceMethod yX12_cost, .selects RX12 yX12_cost yX12_cost, .code yX12_cost cX12_cost 5 (some .int)] ++ wsX120)
def wsX12_ask_r1 : List Cond := [Cond.fieldLink RX12 60 "SeaGatesModel" "thrown" "I", Cond.constant RX12 80 (-1000001), Cond.fieldLink RX12 157 "SeaGatesModel" "traced" "I", Cond.methodLink RX12 135 yX12_isGate, Cond.instanceMethod yX12_isGate, Cond.selects RX12 yX12_isGate yX12_isGate, Cond.initialized RX12, Cond.code yX12_isGate cX12_isGate 2 (some .boolean), Cond.fieldLink RX12 128 "SeaGatesModel" "gates" "I", Cond.methodLink RX12 70 yX12_in, Cond.static yX12_in, Cond.code yX12_in cX12_in 6 (some .boolean), Cond.methodLink RX12 164 yX12_cost, Cond.instanceMethod yX12_cost, Cond.selects RX12 yX12_cost yX12_cost, Cond.code yX12_cost cX12_cost 5 (some .int), Cond.fieldLink RX12 39 "SeaGatesModel" "minutes" "[I", Cond.fieldLink RX12 42 "SeaGatesModel" "hand" "[I", Cond.methodLink RX12 154 yX12_kindOf, Cond.instanceMethod yX12_kindOf, Cond.selects RX12 yX12_kindOf yX12_kindOf, Cond.code yX12_kindOf cX12_kindOf 2 (some .int), Cond.methodLink RX12 160 yX12_began, Cond.instanceMethod yX12_began]
def wsX12_ask_r2 : List Cond := [Cond.selects RX12 yX12_began yX12_began, Cond.code yX12_began cX12_began 2 none, Cond.fieldLink RX12 57 "SeaGatesModel" "trace" "[I", Cond.methodLink RX12 167 yX12_marked, Cond.instanceMethod yX12_marked, Cond.selects RX12 yX12_marked yX12_marked, Cond.code yX12_marked cX12_marked 5 (some .int), Cond.fieldLink RX12 45 "SeaGatesModel" "hasFailed" "[Z"]
def wsX12_ask : List Cond := .code yX12_ask cX12_ask 3 (some .int) :: ((wsX12_ask_r1 ++ wsX12_ask_r2) ++ wsX120)
def wsX12_trace : List Cond := .code yX12_trace cX12_trace 2 (some .int) :: ([.fieldLink RX12 60 "SeaGatesModel" "thrown" "I", .fieldLink RX12 157 "SeaGatesModel" "traced" "I", .fieldLink RX12 57 "SeaGatesModel" "trace" "[I", .constant RX12 127 (-1000000), .methodLink RX12 70 yX12_in, .static yX12_in, .initialized RX12, .code yX12_in cX12_in 6 (some .boolean)] ++ wsX120)
def wsX12_count : List Cond := .code yX12_count cX12_count 4 (some .int) :: ([.fieldLink RX12 60 "SeaGatesModel" "thrown" "I", .fieldLink RX12 16 "SeaGatesModel" "lane" "[I", .fieldLink RX12 87 "SeaGatesModel" "worlds" "I", .fieldLink RX12 25 "SeaGatesModel" "weight" "[I", .fieldLink RX12 128 "SeaGatesModel" "gates" "I", .fieldLink RX12 45 "SeaGatesModel" "hasFailed" "[Z", .fieldLink RX12 143 "SeaGatesModel" "ships" "I", .constant RX12 80 (-1000001)] ++ wsX120)
def wsX12_status : List Cond := .code yX12_status cX12_status 1 (some .int) :: ([.fieldLink RX12 60 "SeaGatesModel" "thrown" "I", .fieldLink RX12 64 "SeaGatesModel" "status" "I"] ++ wsX120)
def wsJ9_max_7cf53 : List Cond := .code yJ9_max_7cf53 cJ9_max_7cf53 2 (some .int) :: ([])
def wsJ9_min_7cf53 : List Cond := .code yJ9_min_7cf53 cJ9_min_7cf53 2 (some .int) :: ([])
abbrev vwCl : List vw_C := [(RX0, TX0, 3), (RX1, TX1, 4), (RX2, TX2, 3), (RX3, TX3, 3), (RX4, TX4, 7), (RX5, TX5, 3), (RX6, TX6, 4), (RX7, TX7, 3), (RX8, TX8, 3), (RX9, TX9, 2), (RX10, TX10, 3), (RX11, TX11, 8), (RX12, TX12, 22)]
end
section
/-! ===== the judgement of a method's walk: J; the worlds are lists of cells ===== -/
abbrev jG : Type := Program × Launch × Env × Room × State × MethodId × Array Value × List Frame × Method × Code × (Nat → Prop) × (State → Prop)
/-- words of the tables that go along with the world -/
def jNw : List Cond := [.methodLinkNest RX11 18 yX6_init RX11, .methodLinkNest RX11 43 yX5_init RX11, .methodLinkNest RX11 50 yX1_init RX11, .methodLinkNest RX11 57 yX9_init RX11, .methodLinkNest RX5 25 yX11_within RX11, .methodLinkNest RX7 47 yX11_within RX11]
def jCa : List (String × String) := [(RX3, RX2), (RX10, RX2), (RX8, RX2), (RX10, RX3)]
def jNc : List (String × String) := [(RX2, RX3), (RX8, RX3), (RX2, RX10), (RX3, RX10), (RX8, RX10), (RX2, RX8), (RX3, RX8), (RX10, RX8)]
def jK (D : va_G) (tys : List (ClassId × FieldType)) (U : State) : Prop := va_K D vwCl tys U ∧ (∀ w ∈ jNw, va_Nw w U) ∧ (∀ q ∈ jCa, va_Nw (.castable q.1 q.2) U) ∧ (∀ q ∈ jNc, va_Nc q.1 q.2 U)
theorem jNw_warm {s U : State} (hW : s.WarmedH U.vm) (h : ∀ w ∈ jNw, va_Nw w s) : ∀ w ∈ jNw, va_Nw w U := by
  intro w hw
  have h9 := h w hw
  simp only [jNw, List.mem_cons, List.not_mem_nil, or_false] at hw
  rcases hw with rfl | rfl | rfl | rfl | rfl | rfl <;> exact va_Nw.warmM hW h9
theorem jNw_same {u U : State} (hv : u.vm = U.vm) (h : ∀ w ∈ jNw, va_Nw w u) : ∀ w ∈ jNw, va_Nw w U := by
  intro w hw
  have h9 := h w hw
  simp only [jNw, List.mem_cons, List.not_mem_nil, or_false] at hw
  rcases hw with rfl | rfl | rfl | rfl | rfl | rfl <;> exact va_Nw.same rfl hv h9
theorem va_Nc_alike {C T : String} {u U : State} (hv : u.vm.Alike U.vm) (h : va_Nc C T u) : va_Nc C T U := by
  obtain ⟨c, t, h1, h2, h3⟩ := h
  exact ⟨c, t, by rw [hv.findClass]; exact h1, by rw [hv.findClass]; exact h2, by rw [← h3]; exact hv.assignable c t⟩
theorem jK.warm {D : va_G} {tys : List (ClassId × FieldType)} {s U : State} (hW : s.WarmedH U.vm) (h : jK D tys s) : jK D tys U :=
  ⟨va_K.moved hW.alike h.1, jNw_warm hW h.2.1, fun q hq => va_Nw.warmC hW (h.2.2.1 q hq), fun q hq => va_Nc_alike hW.alike (h.2.2.2 q hq)⟩
theorem jK.blind {D : va_G} {tys : List (ClassId × FieldType)} {U : State} {g : JFrame} {mk : MethodId} {a : Array Value} (h : jK D tys U) : jK D tys (U.calling g mk a) :=
  ⟨va_K.moved (u := U) (U := U.calling g mk a) (Vm.Alike.refl U.vm) h.1, jNw_same (u := U) (U := U.calling g mk a) rfl h.2.1, fun q hq => va_Nw.same (u := U) (U := U.calling g mk a) rfl rfl (h.2.2.1 q hq), fun q hq => va_Nc_alike (u := U) (U := U.calling g mk a) (Vm.Alike.refl U.vm) (h.2.2.2 q hq)⟩
def J (Γ : jG) (D : va_G) (nL cs sl : Nat) (ws : va_W) (pc : Nat) (lv : List (Nat × Value)) (st : List Value) : Prop := match Γ with
  | (p, l, e, R, s, m, args, below, meth, c, A, Q) => ∀ (H : Heap) (locs : List Loc) (ls : Array Slot), va_P D vwCl ws H → va_D A ws → va_S A s.heap H locs → lv_has ls nL lv → W p l e R s m args below meth c H locs cs sl Q (F0 m pc ls st)
def jC (Γ : jG) (l0 : Launch) (rm : Room) (D : va_G) (nL : Nat) (own : String) (cc : ByteArray) (Ts : List Cond) (tys : List (ClassId × FieldType)) : Prop := match Γ with
  | (p, l, e, R, s, m, args, below, meth, c, A, Q) => l = l0 ∧ R = rm ∧ p.tables.exec = Jvm.exec ∧ c.code = cc ∧ c.maxLocals = nL ∧ s.vm.findClass own = some m.cls ∧ (∀ w ∈ Ts, w.before args s = true) ∧ jK D tys s ∧ (∀ q : Nat, s.heap.size ≤ q → A q) ∧ meth.locks = false
/-- a contract's start, its end -/
def jPre (D : va_G) (tys : List (ClassId × FieldType)) (av : List Value) (ws : va_W) (sz : Nat) : Array Value → State → Prop := va_Pc av (fun U => U.heap.size = sz ∧ va_P D vwCl ws U.heap ∧ jK D tys U ∧ va_D (fun _ => True) ws)
def jB {S : Type} (D : va_G) (wf : S → va_W) (A : Nat → Prop) : S → State → Prop := fun u t => va_P D vwCl (wf u) t.heap ∧ va_D A (wf u)

abbrev jMi {S : Type} (l : Launch) (y : MethodName) (ws : List Cond) (rm : Room) (D : va_G) (tys : List (ClassId × FieldType)) (av : List Value) (w0 : va_W) (wf : S → va_W) (post : Int32 → S → Prop) (mc ms : Nat) : Prop := ∀ sz : Nat, Met l y ws rm (jPre D tys av w0 sz) (va_Qi post (jB D wf (va_A w0 sz)) (va_A w0 sz)) mc ms (va_A w0 sz)
def jQi {S : Type} (Γ : jG) (D : va_G) (wf : S → va_W) (post : Int32 → S → Prop) (rt : Option FieldType) (mc ms : Nat) : Prop := match Γ with
  | (p, l, e, R, s, m, args, below, meth, c, A, Q) => Q = MQ below (va_Qi post (jB D wf A) A) args s mc ms A ∧ meth.sig.returnType = rt
theorem j_meti {S : Type} {l : Launch} {y : MethodName} {ws' : List Cond} {rm : Room} {D : va_G} {tys : List (ClassId × FieldType)} {av : List Value} {w0 : va_W} {wf : S → va_W} {post : Int32 → S → Prop} {mc ms : Nat} {cc : ByteArray} {nL : Nat} {rt : Option FieldType} (hy : plainName y.cls = true) (hn : (lg_sl av).length ≤ nL)
    (body : ∀ Γ : jG, jC Γ l rm D nL y.cls cc (.code y cc nL rt :: ws') tys → jQi Γ D wf post rt mc ms → (match Γ with | (_, _, _, _, _, _, _, _, meth, _, _, _) => meth.name = y.name) → J Γ D nL 0 0 w0 0 (lv_args 0 av) []) : jMi l y (.code y cc nL rt :: ws') rm D tys av w0 wf post mc ms := by
  intro sz
  refine Met.ofW (cc := cc) (maxL := nL) (ret := rt) hy rfl ?_
  intro p e s m args below meth c s₁ B hml hv
  obtain ⟨rfl, hsz, hP, hK, hD0⟩ := hv
  subst hsz
  have hts := atoms_spec (ws := .code y cc nL rt :: ws') B.pre
  have hown : s.vm.findClass y.cls = some m.cls := findClass_of_methodNamed B.named
  have hl := lv_entry av (n := nL) hn
  rw [lg_entry_eq]
  exact body (p, l, e, rm, s, m, av.toArray, below, meth, c, va_A w0 s.heap.size, _) ⟨rfl, rfl, B.exec, B.bytes, hml, hown, hts, hK, fun q h => Or.inr h, B.notSynchronized⟩ ⟨rfl, B.returns⟩ (name_of_methodNamed B.named B.method).1 s.heap [] _ hP (hD0.self (sz := s.heap.size)) va_S.rf hl

abbrev jMl {S : Type} (l : Launch) (y : MethodName) (ws : List Cond) (rm : Room) (D : va_G) (tys : List (ClassId × FieldType)) (av : List Value) (w0 : va_W) (wf : S → va_W) (post : Int64 → S → Prop) (mc ms : Nat) : Prop := ∀ sz : Nat, Met l y ws rm (jPre D tys av w0 sz) (va_Ql post (jB D wf (va_A w0 sz)) (va_A w0 sz)) mc ms (va_A w0 sz)
def jQl {S : Type} (Γ : jG) (D : va_G) (wf : S → va_W) (post : Int64 → S → Prop) (rt : Option FieldType) (mc ms : Nat) : Prop := match Γ with
  | (p, l, e, R, s, m, args, below, meth, c, A, Q) => Q = MQ below (va_Ql post (jB D wf A) A) args s mc ms A ∧ meth.sig.returnType = rt
theorem j_metl {S : Type} {l : Launch} {y : MethodName} {ws' : List Cond} {rm : Room} {D : va_G} {tys : List (ClassId × FieldType)} {av : List Value} {w0 : va_W} {wf : S → va_W} {post : Int64 → S → Prop} {mc ms : Nat} {cc : ByteArray} {nL : Nat} {rt : Option FieldType} (hy : plainName y.cls = true) (hn : (lg_sl av).length ≤ nL)
    (body : ∀ Γ : jG, jC Γ l rm D nL y.cls cc (.code y cc nL rt :: ws') tys → jQl Γ D wf post rt mc ms → (match Γ with | (_, _, _, _, _, _, _, _, meth, _, _, _) => meth.name = y.name) → J Γ D nL 0 0 w0 0 (lv_args 0 av) []) : jMl l y (.code y cc nL rt :: ws') rm D tys av w0 wf post mc ms := by
  intro sz
  refine Met.ofW (cc := cc) (maxL := nL) (ret := rt) hy rfl ?_
  intro p e s m args below meth c s₁ B hml hv
  obtain ⟨rfl, hsz, hP, hK, hD0⟩ := hv
  subst hsz
  have hts := atoms_spec (ws := .code y cc nL rt :: ws') B.pre
  have hown : s.vm.findClass y.cls = some m.cls := findClass_of_methodNamed B.named
  have hl := lv_entry av (n := nL) hn
  rw [lg_entry_eq]
  exact body (p, l, e, rm, s, m, av.toArray, below, meth, c, va_A w0 s.heap.size, _) ⟨rfl, rfl, B.exec, B.bytes, hml, hown, hts, hK, fun q h => Or.inr h, B.notSynchronized⟩ ⟨rfl, B.returns⟩ (name_of_methodNamed B.named B.method).1 s.heap [] _ hP (hD0.self (sz := s.heap.size)) va_S.rf hl

abbrev jMv {S : Type} (l : Launch) (y : MethodName) (ws : List Cond) (rm : Room) (D : va_G) (tys : List (ClassId × FieldType)) (av : List Value) (w0 : va_W) (wf : S → va_W) (post : S → Prop) (mc ms : Nat) : Prop := ∀ sz : Nat, Met l y ws rm (jPre D tys av w0 sz) (va_Qv post (jB D wf (va_A w0 sz)) (va_A w0 sz)) mc ms (va_A w0 sz)
def jQv {S : Type} (Γ : jG) (D : va_G) (wf : S → va_W) (post : S → Prop) (rt : Option FieldType) (mc ms : Nat) : Prop := match Γ with
  | (p, l, e, R, s, m, args, below, meth, c, A, Q) => Q = MQ below (va_Qv post (jB D wf A) A) args s mc ms A ∧ meth.sig.returnType = rt
theorem j_metv {S : Type} {l : Launch} {y : MethodName} {ws' : List Cond} {rm : Room} {D : va_G} {tys : List (ClassId × FieldType)} {av : List Value} {w0 : va_W} {wf : S → va_W} {post : S → Prop} {mc ms : Nat} {cc : ByteArray} {nL : Nat} {rt : Option FieldType} (hy : plainName y.cls = true) (hn : (lg_sl av).length ≤ nL)
    (body : ∀ Γ : jG, jC Γ l rm D nL y.cls cc (.code y cc nL rt :: ws') tys → jQv Γ D wf post rt mc ms → (match Γ with | (_, _, _, _, _, _, _, _, meth, _, _, _) => meth.name = y.name) → J Γ D nL 0 0 w0 0 (lv_args 0 av) []) : jMv l y (.code y cc nL rt :: ws') rm D tys av w0 wf post mc ms := by
  intro sz
  refine Met.ofW (cc := cc) (maxL := nL) (ret := rt) hy rfl ?_
  intro p e s m args below meth c s₁ B hml hv
  obtain ⟨rfl, hsz, hP, hK, hD0⟩ := hv
  subst hsz
  have hts := atoms_spec (ws := .code y cc nL rt :: ws') B.pre
  have hown : s.vm.findClass y.cls = some m.cls := findClass_of_methodNamed B.named
  have hl := lv_entry av (n := nL) hn
  rw [lg_entry_eq]
  exact body (p, l, e, rm, s, m, av.toArray, below, meth, c, va_A w0 s.heap.size, _) ⟨rfl, rfl, B.exec, B.bytes, hml, hown, hts, hK, fun q h => Or.inr h, B.notSynchronized⟩ ⟨rfl, B.returns⟩ (name_of_methodNamed B.named B.method).1 s.heap [] _ hP (hD0.self (sz := s.heap.size)) va_S.rf hl

abbrev jMq {S : Type} (l : Launch) (y : MethodName) (ws : List Cond) (rm : Room) (D : va_G) (tys : List (ClassId × FieldType)) (av : List Value) (w0 : va_W) (wf : S → va_W) (post : Option Nat → S → Prop) (mc ms : Nat) : Prop := ∀ sz : Nat, Met l y ws rm (jPre D tys av w0 sz) (va_Qq post (jB D wf (va_A w0 sz)) (va_A w0 sz)) mc ms (va_A w0 sz)
def jQq {S : Type} (Γ : jG) (D : va_G) (wf : S → va_W) (post : Option Nat → S → Prop) (rt : Option FieldType) (mc ms : Nat) : Prop := match Γ with
  | (p, l, e, R, s, m, args, below, meth, c, A, Q) => Q = MQ below (va_Qq post (jB D wf A) A) args s mc ms A ∧ meth.sig.returnType = rt
theorem j_metq {S : Type} {l : Launch} {y : MethodName} {ws' : List Cond} {rm : Room} {D : va_G} {tys : List (ClassId × FieldType)} {av : List Value} {w0 : va_W} {wf : S → va_W} {post : Option Nat → S → Prop} {mc ms : Nat} {cc : ByteArray} {nL : Nat} {rt : Option FieldType} (hy : plainName y.cls = true) (hn : (lg_sl av).length ≤ nL)
    (body : ∀ Γ : jG, jC Γ l rm D nL y.cls cc (.code y cc nL rt :: ws') tys → jQq Γ D wf post rt mc ms → (match Γ with | (_, _, _, _, _, _, _, _, meth, _, _, _) => meth.name = y.name) → J Γ D nL 0 0 w0 0 (lv_args 0 av) []) : jMq l y (.code y cc nL rt :: ws') rm D tys av w0 wf post mc ms := by
  intro sz
  refine Met.ofW (cc := cc) (maxL := nL) (ret := rt) hy rfl ?_
  intro p e s m args below meth c s₁ B hml hv
  obtain ⟨rfl, hsz, hP, hK, hD0⟩ := hv
  subst hsz
  have hts := atoms_spec (ws := .code y cc nL rt :: ws') B.pre
  have hown : s.vm.findClass y.cls = some m.cls := findClass_of_methodNamed B.named
  have hl := lv_entry av (n := nL) hn
  rw [lg_entry_eq]
  exact body (p, l, e, rm, s, m, av.toArray, below, meth, c, va_A w0 s.heap.size, _) ⟨rfl, rfl, B.exec, B.bytes, hml, hown, hts, hK, fun q h => Or.inr h, B.notSynchronized⟩ ⟨rfl, B.returns⟩ (name_of_methodNamed B.named B.method).1 s.heap [] _ hP (hD0.self (sz := s.heap.size)) va_S.rf hl


theorem jl_eq {x y : Int64} : lg_cmp x y = 0 ↔ x = y := by
  unfold lg_cmp
  by_cases h1 : y < x
  · rw [if_pos h1]; exact ⟨fun h => absurd h (by decide), fun h => absurd h1 (by rw [h]; exact Int64.lt_irrefl)⟩
  · rw [if_neg h1]
    by_cases h2 : x = y
    · simp [h2]
    · rw [if_neg h2]; exact ⟨fun h => absurd h (by decide), fun h => absurd h h2⟩
theorem jl_ne {x y : Int64} : ¬ lg_cmp x y = 0 ↔ ¬ x = y := not_congr jl_eq
theorem jl_gt {x y : Int64} : 0 < lg_cmp x y ↔ y < x := by
  unfold lg_cmp
  by_cases h1 : y < x
  · rw [if_pos h1]; exact ⟨fun _ => h1, fun _ => by decide⟩
  · rw [if_neg h1]
    by_cases h2 : x = y
    · rw [if_pos h2]; exact ⟨fun h => absurd h (by decide), fun h => absurd h h1⟩
    · rw [if_neg h2]; exact ⟨fun h => absurd h (by decide), fun h => absurd h h1⟩
theorem jl_le {x y : Int64} : lg_cmp x y ≤ 0 ↔ x ≤ y := by
  have h := @jl_gt x y
  rw [← Int32.not_lt, ← Int64.not_lt]
  exact not_congr h
theorem jl_lt {x y : Int64} : lg_cmp x y < 0 ↔ x < y := by
  unfold lg_cmp
  by_cases h1 : y < x
  · rw [if_pos h1]; exact ⟨fun h => absurd h (by decide), fun h => absurd (Int64.lt_trans h h1) Int64.lt_irrefl⟩
  · rw [if_neg h1]
    by_cases h2 : x = y
    · rw [if_pos h2]; exact ⟨fun h => absurd h (by decide), fun h => absurd h (by rw [h2]; exact Int64.lt_irrefl)⟩
    · rw [if_neg h2]; refine ⟨fun _ => ?_, fun _ => by decide⟩
      rw [Int64.lt_iff_toInt_lt]
      rw [Int64.lt_iff_toInt_lt] at h1
      have h3 : x.toInt ≠ y.toInt := fun h => h2 (Int64.toInt_inj.mp h)
      omega
theorem jl_ge {x y : Int64} : 0 ≤ lg_cmp x y ↔ y ≤ x := by
  have h := @jl_lt x y
  rw [← Int32.not_lt, ← Int64.not_lt]
  exact not_congr h
theorem mw {α : Type} {l : List α} {a : α} (i : Nat) (h : l[i]? = some a) : a ∈ l := List.mem_of_getElem? h
theorem jin_lit {i : Int32} {n : Nat} (h : 0 ≤ i.toInt ∧ i.toInt < (n : Int)) : vp_in i n := vp_in_iff.mpr h
def jz (v : Int32) : Prop := v = 0 ∨ v = 1
theorem jz_n {v : Int32} (h : jz v) : narrow .boolean (.int v) = .int v := by rcases h with rfl | rfl <;> rfl
theorem jz_f {v : Int32} (h : jz v) : fits .boolean (.int v) = true := by rcases h with rfl | rfl <;> rfl

section JR
variable {Γ : jG} {l0 : Launch} {rm : Room} {D : va_G} {nL cs sl : Nat} {own : String} {cc : ByteArray} {Ts : List Cond} {tys : List (ClassId × FieldType)} {ws : va_W} {pc : Nat} {lv : List (Nat × Value)} {st : List Value}
theorem j_iconst (hC : jC Γ l0 rm D nL own cc Ts tys) {n : Int} (hd : decode cc pc = .ok (.iconst n, 1)) {v : Int32} (hv : Int32.ofInt n = v) (kk : J Γ D nL cs sl ws (pc + 1) lv (.int v :: st)) : J Γ D nL cs sl ws pc lv (st) := by
  obtain ⟨p, l, e, R, s, m, args, below, meth, c, A, Q⟩ := Γ
  obtain ⟨rfl, rfl, hx, hb, hml, hown, hts, hK, hA, hlk⟩ := hC
  intro H locs ls hP hD hS hl
  exact lv_iconst hx hb hd hv (kk H locs ls hP hD hS hl)
theorem j_bipush (hC : jC Γ l0 rm D nL own cc Ts tys) {n : Int} (hd : decode cc pc = .ok (.bipush n, 2)) {v : Int32} (hv : (Int8.ofInt n).toInt32 = v) (kk : J Γ D nL cs sl ws (pc + 2) lv (.int v :: st)) : J Γ D nL cs sl ws pc lv (st) := by
  obtain ⟨p, l, e, R, s, m, args, below, meth, c, A, Q⟩ := Γ
  obtain ⟨rfl, rfl, hx, hb, hml, hown, hts, hK, hA, hlk⟩ := hC
  intro H locs ls hP hD hS hl
  exact lv_bipush hx hb hd hv (kk H locs ls hP hD hS hl)
theorem j_sipush (hC : jC Γ l0 rm D nL own cc Ts tys) {n : Int} (hd : decode cc pc = .ok (.sipush n, 3)) {v : Int32} (hv : (Int16.ofInt n).toInt32 = v) (kk : J Γ D nL cs sl ws (pc + 3) lv (.int v :: st)) : J Γ D nL cs sl ws pc lv (st) := by
  obtain ⟨p, l, e, R, s, m, args, below, meth, c, A, Q⟩ := Γ
  obtain ⟨rfl, rfl, hx, hb, hml, hown, hts, hK, hA, hlk⟩ := hC
  intro H locs ls hP hD hS hl
  exact lv_sipush hx hb hd hv (kk H locs ls hP hD hS hl)
theorem j_lconst (hC : jC Γ l0 rm D nL own cc Ts tys) {n : Fin 2} (hd : decode cc pc = .ok (.lconst n, 1)) {v : Int64} (hv : Int64.ofNat (n : Nat) = v) (kk : J Γ D nL cs sl ws (pc + 1) lv (.long v :: st)) : J Γ D nL cs sl ws pc lv (st) := by
  obtain ⟨p, l, e, R, s, m, args, below, meth, c, A, Q⟩ := Γ
  obtain ⟨rfl, rfl, hx, hb, hml, hown, hts, hK, hA, hlk⟩ := hC
  intro H locs ls hP hD hS hl
  exact lv_lconst hx hb hd hv (kk H locs ls hP hD hS hl)
theorem j_iload_n (hC : jC Γ l0 rm D nL own cc Ts tys) {k : Fin 4} (hd : decode cc pc = .ok (.iload_n k, 1)) {i : Nat} {x : Int32} (hi : (k : Nat) = i) (n : Nat) (h : lv[n]? = some (i, .int x)) (kk : J Γ D nL cs sl ws (pc + 1) lv (.int x :: st)) : J Γ D nL cs sl ws pc lv (st) := by
  obtain ⟨p, l, e, R, s, m, args, below, meth, c, A, Q⟩ := Γ
  obtain ⟨rfl, rfl, hx, hb, hml, hown, hts, hK, hA, hlk⟩ := hC
  intro H locs ls hP hD hS hl
  exact lv_iload_n hx hb hd hi (lv_at hl n h) (kk H locs ls hP hD hS hl)
theorem j_iload (hC : jC Γ l0 rm D nL own cc Ts tys) {i : Nat} (hd : decode cc pc = .ok (.iload i, 2)) {x : Int32} (n : Nat) (h : lv[n]? = some (i, .int x)) (kk : J Γ D nL cs sl ws (pc + 2) lv (.int x :: st)) : J Γ D nL cs sl ws pc lv (st) := by
  obtain ⟨p, l, e, R, s, m, args, below, meth, c, A, Q⟩ := Γ
  obtain ⟨rfl, rfl, hx, hb, hml, hown, hts, hK, hA, hlk⟩ := hC
  intro H locs ls hP hD hS hl
  exact lv_iload hx hb hd (lv_at hl n h) (kk H locs ls hP hD hS hl)
theorem j_lload_n (hC : jC Γ l0 rm D nL own cc Ts tys) {k : Fin 4} (hd : decode cc pc = .ok (.lload_n k, 1)) {i : Nat} {x : Int64} (hi : (k : Nat) = i) (n : Nat) (h : lv[n]? = some (i, .long x)) (kk : J Γ D nL cs sl ws (pc + 1) lv (.long x :: st)) : J Γ D nL cs sl ws pc lv (st) := by
  obtain ⟨p, l, e, R, s, m, args, below, meth, c, A, Q⟩ := Γ
  obtain ⟨rfl, rfl, hx, hb, hml, hown, hts, hK, hA, hlk⟩ := hC
  intro H locs ls hP hD hS hl
  exact lv_lload_n hx hb hd hi (lv_at hl n h) (kk H locs ls hP hD hS hl)
theorem j_lload (hC : jC Γ l0 rm D nL own cc Ts tys) {i : Nat} (hd : decode cc pc = .ok (.lload i, 2)) {x : Int64} (n : Nat) (h : lv[n]? = some (i, .long x)) (kk : J Γ D nL cs sl ws (pc + 2) lv (.long x :: st)) : J Γ D nL cs sl ws pc lv (st) := by
  obtain ⟨p, l, e, R, s, m, args, below, meth, c, A, Q⟩ := Γ
  obtain ⟨rfl, rfl, hx, hb, hml, hown, hts, hK, hA, hlk⟩ := hC
  intro H locs ls hP hD hS hl
  exact lv_lload hx hb hd (lv_at hl n h) (kk H locs ls hP hD hS hl)
theorem j_aload_n (hC : jC Γ l0 rm D nL own cc Ts tys) {k : Fin 4} (hd : decode cc pc = .ok (.aload_n k, 1)) {i : Nat} {x : Nat} (hi : (k : Nat) = i) (n : Nat) (h : lv[n]? = some (i, .ref x)) (kk : J Γ D nL cs sl ws (pc + 1) lv (.ref x :: st)) : J Γ D nL cs sl ws pc lv (st) := by
  obtain ⟨p, l, e, R, s, m, args, below, meth, c, A, Q⟩ := Γ
  obtain ⟨rfl, rfl, hx, hb, hml, hown, hts, hK, hA, hlk⟩ := hC
  intro H locs ls hP hD hS hl
  exact lv_aload_n hx hb hd hi (lv_at hl n h) (kk H locs ls hP hD hS hl)
theorem j_aload (hC : jC Γ l0 rm D nL own cc Ts tys) {i : Nat} (hd : decode cc pc = .ok (.aload i, 2)) {x : Nat} (n : Nat) (h : lv[n]? = some (i, .ref x)) (kk : J Γ D nL cs sl ws (pc + 2) lv (.ref x :: st)) : J Γ D nL cs sl ws pc lv (st) := by
  obtain ⟨p, l, e, R, s, m, args, below, meth, c, A, Q⟩ := Γ
  obtain ⟨rfl, rfl, hx, hb, hml, hown, hts, hK, hA, hlk⟩ := hC
  intro H locs ls hP hD hS hl
  exact lv_aload hx hb hd (lv_at hl n h) (kk H locs ls hP hD hS hl)
theorem j_aload_nN (hC : jC Γ l0 rm D nL own cc Ts tys) {k : Fin 4} (hd : decode cc pc = .ok (.aload_n k, 1)) {i : Nat} (hi : (k : Nat) = i) (n : Nat) (h : lv[n]? = some (i, .null)) (kk : J Γ D nL cs sl ws (pc + 1) lv (.null :: st)) : J Γ D nL cs sl ws pc lv (st) := by
  obtain ⟨p, l, e, R, s, m, args, below, meth, c, A, Q⟩ := Γ
  obtain ⟨rfl, rfl, hx, hb, hml, hown, hts, hK, hA, hlk⟩ := hC
  intro H locs ls hP hD hS hl
  exact lv_aload_nN hx hb hd hi (lv_at hl n h) (kk H locs ls hP hD hS hl)
theorem j_aloadN (hC : jC Γ l0 rm D nL own cc Ts tys) {i : Nat} (hd : decode cc pc = .ok (.aload i, 2)) (n : Nat) (h : lv[n]? = some (i, .null)) (kk : J Γ D nL cs sl ws (pc + 2) lv (.null :: st)) : J Γ D nL cs sl ws pc lv (st) := by
  obtain ⟨p, l, e, R, s, m, args, below, meth, c, A, Q⟩ := Γ
  obtain ⟨rfl, rfl, hx, hb, hml, hown, hts, hK, hA, hlk⟩ := hC
  intro H locs ls hP hD hS hl
  exact lv_aloadN hx hb hd (lv_at hl n h) (kk H locs ls hP hD hS hl)
theorem j_istore_n (hC : jC Γ l0 rm D nL own cc Ts tys) {k : Fin 4} {i : Nat} {lv' : List (Nat × Value)} {x : Int32} (hd : decode cc pc = .ok (.istore_n k, 1)) (hi : (k : Nat) = i) (hn : i < nL) (hf : (i, Value.int x) :: lv.filter (fun q => !(q.1 == i) && !(q.1 + 1 == i && q.2.category == 2)) = lv') (kk : J Γ D nL cs sl ws (pc + 1) lv' (st)) : J Γ D nL cs sl ws pc lv (.int x :: st) := by
  obtain ⟨p, l, e, R, s, m, args, below, meth, c, A, Q⟩ := Γ
  obtain ⟨rfl, rfl, hx, hb, hml, hown, hts, hK, hA, hlk⟩ := hC
  intro H locs ls hP hD hS hl
  exact lv_istore_n hx hb hd hi hl hn hf (fun ls hl => kk H locs ls hP hD hS hl)
theorem j_istore (hC : jC Γ l0 rm D nL own cc Ts tys) {i : Nat} {lv' : List (Nat × Value)} {x : Int32} (hd : decode cc pc = .ok (.istore i, 2)) (hn : i < nL) (hf : (i, Value.int x) :: lv.filter (fun q => !(q.1 == i) && !(q.1 + 1 == i && q.2.category == 2)) = lv') (kk : J Γ D nL cs sl ws (pc + 2) lv' (st)) : J Γ D nL cs sl ws pc lv (.int x :: st) := by
  obtain ⟨p, l, e, R, s, m, args, below, meth, c, A, Q⟩ := Γ
  obtain ⟨rfl, rfl, hx, hb, hml, hown, hts, hK, hA, hlk⟩ := hC
  intro H locs ls hP hD hS hl
  exact lv_istore hx hb hd hl hn hf (fun ls hl => kk H locs ls hP hD hS hl)
theorem j_lstore_n (hC : jC Γ l0 rm D nL own cc Ts tys) {k : Fin 4} {i : Nat} {lv' : List (Nat × Value)} {x : Int64} (hd : decode cc pc = .ok (.lstore_n k, 1)) (hi : (k : Nat) = i) (hn : i + 1 < nL) (hf : (i, Value.long x) :: lv.filter (fun q => !(q.1 == i) && (!(q.1 == i + 1) && !(q.1 + 1 == i && q.2.category == 2))) = lv') (kk : J Γ D nL cs sl ws (pc + 1) lv' (st)) : J Γ D nL cs sl ws pc lv (.long x :: st) := by
  obtain ⟨p, l, e, R, s, m, args, below, meth, c, A, Q⟩ := Γ
  obtain ⟨rfl, rfl, hx, hb, hml, hown, hts, hK, hA, hlk⟩ := hC
  intro H locs ls hP hD hS hl
  exact lv_lstore_n hx hb hd hi hl hn hf (fun ls hl => kk H locs ls hP hD hS hl)
theorem j_lstore (hC : jC Γ l0 rm D nL own cc Ts tys) {i : Nat} {lv' : List (Nat × Value)} {x : Int64} (hd : decode cc pc = .ok (.lstore i, 2)) (hn : i + 1 < nL) (hf : (i, Value.long x) :: lv.filter (fun q => !(q.1 == i) && (!(q.1 == i + 1) && !(q.1 + 1 == i && q.2.category == 2))) = lv') (kk : J Γ D nL cs sl ws (pc + 2) lv' (st)) : J Γ D nL cs sl ws pc lv (.long x :: st) := by
  obtain ⟨p, l, e, R, s, m, args, below, meth, c, A, Q⟩ := Γ
  obtain ⟨rfl, rfl, hx, hb, hml, hown, hts, hK, hA, hlk⟩ := hC
  intro H locs ls hP hD hS hl
  exact lv_lstore hx hb hd hl hn hf (fun ls hl => kk H locs ls hP hD hS hl)
theorem j_astore_n (hC : jC Γ l0 rm D nL own cc Ts tys) {k : Fin 4} {i : Nat} {lv' : List (Nat × Value)} {x : Nat} (hd : decode cc pc = .ok (.astore_n k, 1)) (hi : (k : Nat) = i) (hn : i < nL) (hf : (i, Value.ref x) :: lv.filter (fun q => !(q.1 == i) && !(q.1 + 1 == i && q.2.category == 2)) = lv') (kk : J Γ D nL cs sl ws (pc + 1) lv' (st)) : J Γ D nL cs sl ws pc lv (.ref x :: st) := by
  obtain ⟨p, l, e, R, s, m, args, below, meth, c, A, Q⟩ := Γ
  obtain ⟨rfl, rfl, hx, hb, hml, hown, hts, hK, hA, hlk⟩ := hC
  intro H locs ls hP hD hS hl
  exact lv_astore_n hx hb hd hi hl hn hf (fun ls hl => kk H locs ls hP hD hS hl)
theorem j_astore (hC : jC Γ l0 rm D nL own cc Ts tys) {i : Nat} {lv' : List (Nat × Value)} {x : Nat} (hd : decode cc pc = .ok (.astore i, 2)) (hn : i < nL) (hf : (i, Value.ref x) :: lv.filter (fun q => !(q.1 == i) && !(q.1 + 1 == i && q.2.category == 2)) = lv') (kk : J Γ D nL cs sl ws (pc + 2) lv' (st)) : J Γ D nL cs sl ws pc lv (.ref x :: st) := by
  obtain ⟨p, l, e, R, s, m, args, below, meth, c, A, Q⟩ := Γ
  obtain ⟨rfl, rfl, hx, hb, hml, hown, hts, hK, hA, hlk⟩ := hC
  intro H locs ls hP hD hS hl
  exact lv_astore hx hb hd hl hn hf (fun ls hl => kk H locs ls hP hD hS hl)
theorem j_astore_nN (hC : jC Γ l0 rm D nL own cc Ts tys) {k : Fin 4} {i : Nat} {lv' : List (Nat × Value)} (hd : decode cc pc = .ok (.astore_n k, 1)) (hi : (k : Nat) = i) (hn : i < nL) (hf : (i, Value.null) :: lv.filter (fun q => !(q.1 == i) && !(q.1 + 1 == i && q.2.category == 2)) = lv') (kk : J Γ D nL cs sl ws (pc + 1) lv' (st)) : J Γ D nL cs sl ws pc lv (.null :: st) := by
  obtain ⟨p, l, e, R, s, m, args, below, meth, c, A, Q⟩ := Γ
  obtain ⟨rfl, rfl, hx, hb, hml, hown, hts, hK, hA, hlk⟩ := hC
  intro H locs ls hP hD hS hl
  exact lv_astore_nN hx hb hd hi hl hn hf (fun ls hl => kk H locs ls hP hD hS hl)
theorem j_astoreN (hC : jC Γ l0 rm D nL own cc Ts tys) {i : Nat} {lv' : List (Nat × Value)} (hd : decode cc pc = .ok (.astore i, 2)) (hn : i < nL) (hf : (i, Value.null) :: lv.filter (fun q => !(q.1 == i) && !(q.1 + 1 == i && q.2.category == 2)) = lv') (kk : J Γ D nL cs sl ws (pc + 2) lv' (st)) : J Γ D nL cs sl ws pc lv (.null :: st) := by
  obtain ⟨p, l, e, R, s, m, args, below, meth, c, A, Q⟩ := Γ
  obtain ⟨rfl, rfl, hx, hb, hml, hown, hts, hK, hA, hlk⟩ := hC
  intro H locs ls hP hD hS hl
  exact lv_astoreN hx hb hd hl hn hf (fun ls hl => kk H locs ls hP hD hS hl)
theorem j_iinc (hC : jC Γ l0 rm D nL own cc Ts tys) {i k : Nat} {n : Int} {x v : Int32} {lv' : List (Nat × Value)} (hd : decode cc pc = .ok (.iinc i n, 3)) (hk : lv[k]? = some (i, .int x)) (hv : x + Int32.ofInt n = v) (hn : i < nL) (hf : (i, Value.int v) :: lv.filter (fun q => !(q.1 == i) && !(q.1 + 1 == i && q.2.category == 2)) = lv') (kk : J Γ D nL cs sl ws (pc + 3) lv' (st)) : J Γ D nL cs sl ws pc lv (st) := by
  obtain ⟨p, l, e, R, s, m, args, below, meth, c, A, Q⟩ := Γ
  obtain ⟨rfl, rfl, hx, hb, hml, hown, hts, hK, hA, hlk⟩ := hC
  intro H locs ls hP hD hS hl
  exact lv_iinc hx hb hd hl hk hv hn hf (fun ls hl => kk H locs ls hP hD hS hl)
theorem j_iadd (hC : jC Γ l0 rm D nL own cc Ts tys) {x y : Int32} (hd : decode cc pc = .ok (.iadd, 1))  (kk : J Γ D nL cs sl ws (pc + 1) lv (.int (x + y) :: st)) : J Γ D nL cs sl ws pc lv (.int y :: .int x :: st) := by
  obtain ⟨p, l, e, R, s, m, args, below, meth, c, A, Q⟩ := Γ
  obtain ⟨rfl, rfl, hx, hb, hml, hown, hts, hK, hA, hlk⟩ := hC
  intro H locs ls hP hD hS hl
  exact lv_iadd hx hb hd (kk H locs ls hP hD hS hl)
theorem j_isub (hC : jC Γ l0 rm D nL own cc Ts tys) {x y : Int32} (hd : decode cc pc = .ok (.isub, 1))  (kk : J Γ D nL cs sl ws (pc + 1) lv (.int (x - y) :: st)) : J Γ D nL cs sl ws pc lv (.int y :: .int x :: st) := by
  obtain ⟨p, l, e, R, s, m, args, below, meth, c, A, Q⟩ := Γ
  obtain ⟨rfl, rfl, hx, hb, hml, hown, hts, hK, hA, hlk⟩ := hC
  intro H locs ls hP hD hS hl
  exact lv_isub hx hb hd (kk H locs ls hP hD hS hl)
theorem j_imul (hC : jC Γ l0 rm D nL own cc Ts tys) {x y : Int32} (hd : decode cc pc = .ok (.imul, 1))  (kk : J Γ D nL cs sl ws (pc + 1) lv (.int (x * y) :: st)) : J Γ D nL cs sl ws pc lv (.int y :: .int x :: st) := by
  obtain ⟨p, l, e, R, s, m, args, below, meth, c, A, Q⟩ := Γ
  obtain ⟨rfl, rfl, hx, hb, hml, hown, hts, hK, hA, hlk⟩ := hC
  intro H locs ls hP hD hS hl
  exact lv_imul hx hb hd (kk H locs ls hP hD hS hl)
theorem j_iand (hC : jC Γ l0 rm D nL own cc Ts tys) {x y : Int32} (hd : decode cc pc = .ok (.iand, 1))  (kk : J Γ D nL cs sl ws (pc + 1) lv (.int (x &&& y) :: st)) : J Γ D nL cs sl ws pc lv (.int y :: .int x :: st) := by
  obtain ⟨p, l, e, R, s, m, args, below, meth, c, A, Q⟩ := Γ
  obtain ⟨rfl, rfl, hx, hb, hml, hown, hts, hK, hA, hlk⟩ := hC
  intro H locs ls hP hD hS hl
  exact lv_iand hx hb hd (kk H locs ls hP hD hS hl)
theorem j_ior (hC : jC Γ l0 rm D nL own cc Ts tys) {x y : Int32} (hd : decode cc pc = .ok (.ior, 1))  (kk : J Γ D nL cs sl ws (pc + 1) lv (.int (x ||| y) :: st)) : J Γ D nL cs sl ws pc lv (.int y :: .int x :: st) := by
  obtain ⟨p, l, e, R, s, m, args, below, meth, c, A, Q⟩ := Γ
  obtain ⟨rfl, rfl, hx, hb, hml, hown, hts, hK, hA, hlk⟩ := hC
  intro H locs ls hP hD hS hl
  exact lv_ior hx hb hd (kk H locs ls hP hD hS hl)
theorem j_ishl (hC : jC Γ l0 rm D nL own cc Ts tys) {x y : Int32} (hd : decode cc pc = .ok (.ishl, 1))  (kk : J Γ D nL cs sl ws (pc + 1) lv (.int (x <<< (y &&& 31)) :: st)) : J Γ D nL cs sl ws pc lv (.int y :: .int x :: st) := by
  obtain ⟨p, l, e, R, s, m, args, below, meth, c, A, Q⟩ := Γ
  obtain ⟨rfl, rfl, hx, hb, hml, hown, hts, hK, hA, hlk⟩ := hC
  intro H locs ls hP hD hS hl
  exact lv_ishl hx hb hd (kk H locs ls hP hD hS hl)
theorem j_ishr (hC : jC Γ l0 rm D nL own cc Ts tys) {x y : Int32} (hd : decode cc pc = .ok (.ishr, 1))  (kk : J Γ D nL cs sl ws (pc + 1) lv (.int (x >>> (y &&& 31)) :: st)) : J Γ D nL cs sl ws pc lv (.int y :: .int x :: st) := by
  obtain ⟨p, l, e, R, s, m, args, below, meth, c, A, Q⟩ := Γ
  obtain ⟨rfl, rfl, hx, hb, hml, hown, hts, hK, hA, hlk⟩ := hC
  intro H locs ls hP hD hS hl
  exact lv_ishr hx hb hd (kk H locs ls hP hD hS hl)
theorem j_idiv (hC : jC Γ l0 rm D nL own cc Ts tys) {x y : Int32} (hd : decode cc pc = .ok (.idiv, 1)) (hne : ¬ y = 0) (kk : J Γ D nL cs sl ws (pc + 1) lv (.int (x / y) :: st)) : J Γ D nL cs sl ws pc lv (.int y :: .int x :: st) := by
  obtain ⟨p, l, e, R, s, m, args, below, meth, c, A, Q⟩ := Γ
  obtain ⟨rfl, rfl, hx, hb, hml, hown, hts, hK, hA, hlk⟩ := hC
  intro H locs ls hP hD hS hl
  exact lv_idiv hx hb hd hne (kk H locs ls hP hD hS hl)
theorem j_irem (hC : jC Γ l0 rm D nL own cc Ts tys) {x y : Int32} (hd : decode cc pc = .ok (.irem, 1)) (hne : ¬ y = 0) (kk : J Γ D nL cs sl ws (pc + 1) lv (.int (x - x / y * y) :: st)) : J Γ D nL cs sl ws pc lv (.int y :: .int x :: st) := by
  obtain ⟨p, l, e, R, s, m, args, below, meth, c, A, Q⟩ := Γ
  obtain ⟨rfl, rfl, hx, hb, hml, hown, hts, hK, hA, hlk⟩ := hC
  intro H locs ls hP hD hS hl
  exact lv_irem hx hb hd hne (kk H locs ls hP hD hS hl)
theorem j_ladd (hC : jC Γ l0 rm D nL own cc Ts tys) {x y : Int64} (hd : decode cc pc = .ok (.ladd, 1))  (kk : J Γ D nL cs sl ws (pc + 1) lv (.long (x + y) :: st)) : J Γ D nL cs sl ws pc lv (.long y :: .long x :: st) := by
  obtain ⟨p, l, e, R, s, m, args, below, meth, c, A, Q⟩ := Γ
  obtain ⟨rfl, rfl, hx, hb, hml, hown, hts, hK, hA, hlk⟩ := hC
  intro H locs ls hP hD hS hl
  exact lv_ladd hx hb hd (kk H locs ls hP hD hS hl)
theorem j_lsub (hC : jC Γ l0 rm D nL own cc Ts tys) {x y : Int64} (hd : decode cc pc = .ok (.lsub, 1))  (kk : J Γ D nL cs sl ws (pc + 1) lv (.long (x - y) :: st)) : J Γ D nL cs sl ws pc lv (.long y :: .long x :: st) := by
  obtain ⟨p, l, e, R, s, m, args, below, meth, c, A, Q⟩ := Γ
  obtain ⟨rfl, rfl, hx, hb, hml, hown, hts, hK, hA, hlk⟩ := hC
  intro H locs ls hP hD hS hl
  exact lv_lsub hx hb hd (kk H locs ls hP hD hS hl)
theorem j_lmul (hC : jC Γ l0 rm D nL own cc Ts tys) {x y : Int64} (hd : decode cc pc = .ok (.lmul, 1))  (kk : J Γ D nL cs sl ws (pc + 1) lv (.long (x * y) :: st)) : J Γ D nL cs sl ws pc lv (.long y :: .long x :: st) := by
  obtain ⟨p, l, e, R, s, m, args, below, meth, c, A, Q⟩ := Γ
  obtain ⟨rfl, rfl, hx, hb, hml, hown, hts, hK, hA, hlk⟩ := hC
  intro H locs ls hP hD hS hl
  exact lv_lmul hx hb hd (kk H locs ls hP hD hS hl)
theorem j_i2l (hC : jC Γ l0 rm D nL own cc Ts tys) {x : Int32} (hd : decode cc pc = .ok (.i2l, 1))  (kk : J Γ D nL cs sl ws (pc + 1) lv (.long x.toInt64 :: st)) : J Γ D nL cs sl ws pc lv (.int x :: st) := by
  obtain ⟨p, l, e, R, s, m, args, below, meth, c, A, Q⟩ := Γ
  obtain ⟨rfl, rfl, hx, hb, hml, hown, hts, hK, hA, hlk⟩ := hC
  intro H locs ls hP hD hS hl
  exact lv_i2l hx hb hd rfl (kk H locs ls hP hD hS hl)
theorem j_i2b (hC : jC Γ l0 rm D nL own cc Ts tys) {x : Int32} (hd : decode cc pc = .ok (.i2b, 1))  (kk : J Γ D nL cs sl ws (pc + 1) lv (.int x.toInt8.toInt32 :: st)) : J Γ D nL cs sl ws pc lv (.int x :: st) := by
  obtain ⟨p, l, e, R, s, m, args, below, meth, c, A, Q⟩ := Γ
  obtain ⟨rfl, rfl, hx, hb, hml, hown, hts, hK, hA, hlk⟩ := hC
  intro H locs ls hP hD hS hl
  exact lv_i2b hx hb hd rfl (kk H locs ls hP hD hS hl)
theorem j_i2s (hC : jC Γ l0 rm D nL own cc Ts tys) {x : Int32} (hd : decode cc pc = .ok (.i2s, 1))  (kk : J Γ D nL cs sl ws (pc + 1) lv (.int x.toInt16.toInt32 :: st)) : J Γ D nL cs sl ws pc lv (.int x :: st) := by
  obtain ⟨p, l, e, R, s, m, args, below, meth, c, A, Q⟩ := Γ
  obtain ⟨rfl, rfl, hx, hb, hml, hown, hts, hK, hA, hlk⟩ := hC
  intro H locs ls hP hD hS hl
  exact lv_i2s hx hb hd rfl (kk H locs ls hP hD hS hl)
theorem j_lcmp (hC : jC Γ l0 rm D nL own cc Ts tys) {x y : Int64} (hd : decode cc pc = .ok (.lcmp, 1)) (kk : J Γ D nL cs sl ws (pc + 1) lv (.int (lg_cmp x y) :: st)) : J Γ D nL cs sl ws pc lv (.long y :: .long x :: st) := by
  obtain ⟨p, l, e, R, s, m, args, below, meth, c, A, Q⟩ := Γ
  obtain ⟨rfl, rfl, hx, hb, hml, hown, hts, hK, hA, hlk⟩ := hC
  intro H locs ls hP hD hS hl
  exact W.lcmp hx hb hd (kk H locs ls hP hD hS hl)
theorem j_dup (hC : jC Γ l0 rm D nL own cc Ts tys) {va : Value} (hd : decode cc pc = .ok (.dup, 1)) (hv : va.category = 1) (kk : J Γ D nL cs sl ws (pc + 1) lv (va :: va :: st)) : J Γ D nL cs sl ws pc lv (va :: st) := by
  obtain ⟨p, l, e, R, s, m, args, below, meth, c, A, Q⟩ := Γ
  obtain ⟨rfl, rfl, hx, hb, hml, hown, hts, hK, hA, hlk⟩ := hC
  intro H locs ls hP hD hS hl
  exact lv_dup hx hb hd hv (kk H locs ls hP hD hS hl)
theorem j_dup2_11 (hC : jC Γ l0 rm D nL own cc Ts tys) {va vb : Value} (hd : decode cc pc = .ok (.dup2, 1)) (hv : va.category = 1) (hw : vb.category = 1) (kk : J Γ D nL cs sl ws (pc + 1) lv (va :: vb :: va :: vb :: st)) : J Γ D nL cs sl ws pc lv (va :: vb :: st) := by
  obtain ⟨p, l, e, R, s, m, args, below, meth, c, A, Q⟩ := Γ
  obtain ⟨rfl, rfl, hx, hb, hml, hown, hts, hK, hA, hlk⟩ := hC
  intro H locs ls hP hD hS hl
  exact lv_dup2_11 hx hb hd hv hw (kk H locs ls hP hD hS hl)
theorem j_dup_x1 (hC : jC Γ l0 rm D nL own cc Ts tys) {va vb : Value} (hd : decode cc pc = .ok (.dup_x1, 1)) (hv : va.category = 1) (hw : vb.category = 1) (kk : J Γ D nL cs sl ws (pc + 1) lv (va :: vb :: va :: st)) : J Γ D nL cs sl ws pc lv (va :: vb :: st) := by
  obtain ⟨p, l, e, R, s, m, args, below, meth, c, A, Q⟩ := Γ
  obtain ⟨rfl, rfl, hx, hb, hml, hown, hts, hK, hA, hlk⟩ := hC
  intro H locs ls hP hD hS hl
  exact lv_dup_x1 hx hb hd hv hw (kk H locs ls hP hD hS hl)
theorem j_ldc (hC : jC Γ l0 rm D nL own cc Ts tys) {index : Nat} {v : Int32} (hd : decode cc pc = .ok (.ldc index, 2)) (hw : Cond.constant own index v ∈ Ts) (kk : J Γ D nL cs sl ws (pc + 2) lv (.int v :: st)) : J Γ D nL cs sl ws pc lv (st) := by
  obtain ⟨p, l, e, R, s, m, args, below, meth, c, A, Q⟩ := Γ
  obtain ⟨rfl, rfl, hx, hb, hml, hown, hts, hK, hA, hlk⟩ := hC
  intro H locs ls hP hD hS hl
  exact lv_ldc hx hb hown (hts _ hw) hd (kk H locs ls hP hD hS hl)
theorem j_ldc2 (hC : jC Γ l0 rm D nL own cc Ts tys) {index : Nat} {v : Int64} (hd : decode cc pc = .ok (.ldc2_w index, 3)) (hw : Cond.constantLong own index v ∈ Ts) (kk : J Γ D nL cs sl ws (pc + 3) lv (.long v :: st)) : J Γ D nL cs sl ws pc lv (st) := by
  obtain ⟨p, l, e, R, s, m, args, below, meth, c, A, Q⟩ := Γ
  obtain ⟨rfl, rfl, hx, hb, hml, hown, hts, hK, hA, hlk⟩ := hC
  intro H locs ls hP hD hS hl
  exact lv_ldc2 hx hb hown (hts _ hw) hd (kk H locs ls hP hD hS hl)
theorem j_if_eq (hC : jC Γ l0 rm D nL own cc Ts tys) {x : Int32} {off : Int} {tgt : Nat} (hd : decode cc pc = .ok (.ifCond .eq off, 3)) (ht : (pc : Int) + off = (tgt : Int)) (kt : x = 0 → J Γ D nL cs sl ws (tgt) lv (st)) (kf : ¬ x = 0 → J Γ D nL cs sl ws (pc + 3) lv (st)) : J Γ D nL cs sl ws pc lv (.int x :: st) := by
  obtain ⟨p, l, e, R, s, m, args, below, meth, c, A, Q⟩ := Γ
  obtain ⟨rfl, rfl, hx, hb, hml, hown, hts, hK, hA, hlk⟩ := hC
  intro H locs ls hP hD hS hl
  exact lv_if_eq hx hb hd ht (fun h9 => kt h9 H locs ls hP hD hS hl) (fun h9 => kf h9 H locs ls hP hD hS hl)
theorem j_icmp_eq (hC : jC Γ l0 rm D nL own cc Ts tys) {x y : Int32} {off : Int} {tgt : Nat} (hd : decode cc pc = .ok (.if_icmp .eq off, 3)) (ht : (pc : Int) + off = (tgt : Int)) (kt : x = y → J Γ D nL cs sl ws (tgt) lv (st)) (kf : ¬ x = y → J Γ D nL cs sl ws (pc + 3) lv (st)) : J Γ D nL cs sl ws pc lv (.int y :: .int x :: st) := by
  obtain ⟨p, l, e, R, s, m, args, below, meth, c, A, Q⟩ := Γ
  obtain ⟨rfl, rfl, hx, hb, hml, hown, hts, hK, hA, hlk⟩ := hC
  intro H locs ls hP hD hS hl
  exact lv_icmp_eq hx hb hd ht (fun h9 => kt h9 H locs ls hP hD hS hl) (fun h9 => kf h9 H locs ls hP hD hS hl)
theorem j_if_ne (hC : jC Γ l0 rm D nL own cc Ts tys) {x : Int32} {off : Int} {tgt : Nat} (hd : decode cc pc = .ok (.ifCond .ne off, 3)) (ht : (pc : Int) + off = (tgt : Int)) (kt : ¬ x = 0 → J Γ D nL cs sl ws (tgt) lv (st)) (kf : x = 0 → J Γ D nL cs sl ws (pc + 3) lv (st)) : J Γ D nL cs sl ws pc lv (.int x :: st) := by
  obtain ⟨p, l, e, R, s, m, args, below, meth, c, A, Q⟩ := Γ
  obtain ⟨rfl, rfl, hx, hb, hml, hown, hts, hK, hA, hlk⟩ := hC
  intro H locs ls hP hD hS hl
  exact lv_if_ne hx hb hd ht (fun h9 => kt h9 H locs ls hP hD hS hl) (fun h9 => kf h9 H locs ls hP hD hS hl)
theorem j_icmp_ne (hC : jC Γ l0 rm D nL own cc Ts tys) {x y : Int32} {off : Int} {tgt : Nat} (hd : decode cc pc = .ok (.if_icmp .ne off, 3)) (ht : (pc : Int) + off = (tgt : Int)) (kt : ¬ x = y → J Γ D nL cs sl ws (tgt) lv (st)) (kf : x = y → J Γ D nL cs sl ws (pc + 3) lv (st)) : J Γ D nL cs sl ws pc lv (.int y :: .int x :: st) := by
  obtain ⟨p, l, e, R, s, m, args, below, meth, c, A, Q⟩ := Γ
  obtain ⟨rfl, rfl, hx, hb, hml, hown, hts, hK, hA, hlk⟩ := hC
  intro H locs ls hP hD hS hl
  exact lv_icmp_ne hx hb hd ht (fun h9 => kt h9 H locs ls hP hD hS hl) (fun h9 => kf h9 H locs ls hP hD hS hl)
theorem j_if_lt (hC : jC Γ l0 rm D nL own cc Ts tys) {x : Int32} {off : Int} {tgt : Nat} (hd : decode cc pc = .ok (.ifCond .lt off, 3)) (ht : (pc : Int) + off = (tgt : Int)) (kt : x < 0 → J Γ D nL cs sl ws (tgt) lv (st)) (kf : ¬ x < 0 → J Γ D nL cs sl ws (pc + 3) lv (st)) : J Γ D nL cs sl ws pc lv (.int x :: st) := by
  obtain ⟨p, l, e, R, s, m, args, below, meth, c, A, Q⟩ := Γ
  obtain ⟨rfl, rfl, hx, hb, hml, hown, hts, hK, hA, hlk⟩ := hC
  intro H locs ls hP hD hS hl
  exact lv_if_lt hx hb hd ht (fun h9 => kt h9 H locs ls hP hD hS hl) (fun h9 => kf h9 H locs ls hP hD hS hl)
theorem j_icmp_lt (hC : jC Γ l0 rm D nL own cc Ts tys) {x y : Int32} {off : Int} {tgt : Nat} (hd : decode cc pc = .ok (.if_icmp .lt off, 3)) (ht : (pc : Int) + off = (tgt : Int)) (kt : x < y → J Γ D nL cs sl ws (tgt) lv (st)) (kf : ¬ x < y → J Γ D nL cs sl ws (pc + 3) lv (st)) : J Γ D nL cs sl ws pc lv (.int y :: .int x :: st) := by
  obtain ⟨p, l, e, R, s, m, args, below, meth, c, A, Q⟩ := Γ
  obtain ⟨rfl, rfl, hx, hb, hml, hown, hts, hK, hA, hlk⟩ := hC
  intro H locs ls hP hD hS hl
  exact lv_icmp_lt hx hb hd ht (fun h9 => kt h9 H locs ls hP hD hS hl) (fun h9 => kf h9 H locs ls hP hD hS hl)
theorem j_if_ge (hC : jC Γ l0 rm D nL own cc Ts tys) {x : Int32} {off : Int} {tgt : Nat} (hd : decode cc pc = .ok (.ifCond .ge off, 3)) (ht : (pc : Int) + off = (tgt : Int)) (kt : 0 ≤ x → J Γ D nL cs sl ws (tgt) lv (st)) (kf : ¬ 0 ≤ x → J Γ D nL cs sl ws (pc + 3) lv (st)) : J Γ D nL cs sl ws pc lv (.int x :: st) := by
  obtain ⟨p, l, e, R, s, m, args, below, meth, c, A, Q⟩ := Γ
  obtain ⟨rfl, rfl, hx, hb, hml, hown, hts, hK, hA, hlk⟩ := hC
  intro H locs ls hP hD hS hl
  exact lv_if_ge hx hb hd ht (fun h9 => kt h9 H locs ls hP hD hS hl) (fun h9 => kf h9 H locs ls hP hD hS hl)
theorem j_icmp_ge (hC : jC Γ l0 rm D nL own cc Ts tys) {x y : Int32} {off : Int} {tgt : Nat} (hd : decode cc pc = .ok (.if_icmp .ge off, 3)) (ht : (pc : Int) + off = (tgt : Int)) (kt : y ≤ x → J Γ D nL cs sl ws (tgt) lv (st)) (kf : ¬ y ≤ x → J Γ D nL cs sl ws (pc + 3) lv (st)) : J Γ D nL cs sl ws pc lv (.int y :: .int x :: st) := by
  obtain ⟨p, l, e, R, s, m, args, below, meth, c, A, Q⟩ := Γ
  obtain ⟨rfl, rfl, hx, hb, hml, hown, hts, hK, hA, hlk⟩ := hC
  intro H locs ls hP hD hS hl
  exact lv_icmp_ge hx hb hd ht (fun h9 => kt h9 H locs ls hP hD hS hl) (fun h9 => kf h9 H locs ls hP hD hS hl)
theorem j_if_gt (hC : jC Γ l0 rm D nL own cc Ts tys) {x : Int32} {off : Int} {tgt : Nat} (hd : decode cc pc = .ok (.ifCond .gt off, 3)) (ht : (pc : Int) + off = (tgt : Int)) (kt : 0 < x → J Γ D nL cs sl ws (tgt) lv (st)) (kf : ¬ 0 < x → J Γ D nL cs sl ws (pc + 3) lv (st)) : J Γ D nL cs sl ws pc lv (.int x :: st) := by
  obtain ⟨p, l, e, R, s, m, args, below, meth, c, A, Q⟩ := Γ
  obtain ⟨rfl, rfl, hx, hb, hml, hown, hts, hK, hA, hlk⟩ := hC
  intro H locs ls hP hD hS hl
  exact lv_if_gt hx hb hd ht (fun h9 => kt h9 H locs ls hP hD hS hl) (fun h9 => kf h9 H locs ls hP hD hS hl)
theorem j_icmp_gt (hC : jC Γ l0 rm D nL own cc Ts tys) {x y : Int32} {off : Int} {tgt : Nat} (hd : decode cc pc = .ok (.if_icmp .gt off, 3)) (ht : (pc : Int) + off = (tgt : Int)) (kt : y < x → J Γ D nL cs sl ws (tgt) lv (st)) (kf : ¬ y < x → J Γ D nL cs sl ws (pc + 3) lv (st)) : J Γ D nL cs sl ws pc lv (.int y :: .int x :: st) := by
  obtain ⟨p, l, e, R, s, m, args, below, meth, c, A, Q⟩ := Γ
  obtain ⟨rfl, rfl, hx, hb, hml, hown, hts, hK, hA, hlk⟩ := hC
  intro H locs ls hP hD hS hl
  exact lv_icmp_gt hx hb hd ht (fun h9 => kt h9 H locs ls hP hD hS hl) (fun h9 => kf h9 H locs ls hP hD hS hl)
theorem j_if_le (hC : jC Γ l0 rm D nL own cc Ts tys) {x : Int32} {off : Int} {tgt : Nat} (hd : decode cc pc = .ok (.ifCond .le off, 3)) (ht : (pc : Int) + off = (tgt : Int)) (kt : x ≤ 0 → J Γ D nL cs sl ws (tgt) lv (st)) (kf : ¬ x ≤ 0 → J Γ D nL cs sl ws (pc + 3) lv (st)) : J Γ D nL cs sl ws pc lv (.int x :: st) := by
  obtain ⟨p, l, e, R, s, m, args, below, meth, c, A, Q⟩ := Γ
  obtain ⟨rfl, rfl, hx, hb, hml, hown, hts, hK, hA, hlk⟩ := hC
  intro H locs ls hP hD hS hl
  exact lv_if_le hx hb hd ht (fun h9 => kt h9 H locs ls hP hD hS hl) (fun h9 => kf h9 H locs ls hP hD hS hl)
theorem j_icmp_le (hC : jC Γ l0 rm D nL own cc Ts tys) {x y : Int32} {off : Int} {tgt : Nat} (hd : decode cc pc = .ok (.if_icmp .le off, 3)) (ht : (pc : Int) + off = (tgt : Int)) (kt : x ≤ y → J Γ D nL cs sl ws (tgt) lv (st)) (kf : ¬ x ≤ y → J Γ D nL cs sl ws (pc + 3) lv (st)) : J Γ D nL cs sl ws pc lv (.int y :: .int x :: st) := by
  obtain ⟨p, l, e, R, s, m, args, below, meth, c, A, Q⟩ := Γ
  obtain ⟨rfl, rfl, hx, hb, hml, hown, hts, hK, hA, hlk⟩ := hC
  intro H locs ls hP hD hS hl
  exact lv_icmp_le hx hb hd ht (fun h9 => kt h9 H locs ls hP hD hS hl) (fun h9 => kf h9 H locs ls hP hD hS hl)
theorem j_goto (hC : jC Γ l0 rm D nL own cc Ts tys) {off : Int} {tgt : Nat} (hd : decode cc pc = .ok (.goto off, 3)) (ht : (pc : Int) + off = (tgt : Int)) (kk : J Γ D nL cs sl ws (tgt) lv (st)) : J Γ D nL cs sl ws pc lv (st) := by
  obtain ⟨p, l, e, R, s, m, args, below, meth, c, A, Q⟩ := Γ
  obtain ⟨rfl, rfl, hx, hb, hml, hown, hts, hK, hA, hlk⟩ := hC
  intro H locs ls hP hD hS hl
  exact lv_goto hx hb hd ht (kk H locs ls hP hD hS hl)
theorem j_tableIn (hC : jC Γ l0 rm D nL own cc Ts tys) {dflt lo hi : Int} {offs : Array Int} {len : Nat} {x : Int32} {off : Int} {tgt : Nat} (hd : decode cc pc = .ok (.tableswitch dflt lo hi offs, len)) (h1 : ¬ x.toInt < lo) (h2 : ¬ hi < x.toInt) (ho : offs[(x.toInt - lo).toNat]? = some off) (ht : (pc : Int) + off = (tgt : Int)) (kk : J Γ D nL cs sl ws (tgt) lv (st)) : J Γ D nL cs sl ws pc lv (.int x :: st) := by
  obtain ⟨p, l, e, R, s, m, args, below, meth, c, A, Q⟩ := Γ
  obtain ⟨rfl, rfl, hx, hb, hml, hown, hts, hK, hA, hlk⟩ := hC
  intro H locs ls hP hD hS hl
  exact lv_tableIn hx hb hd h1 h2 ho ht (kk H locs ls hP hD hS hl)
theorem j_tableOut (hC : jC Γ l0 rm D nL own cc Ts tys) {dflt lo hi : Int} {offs : Array Int} {len : Nat} {x : Int32} {tgt : Nat} (hd : decode cc pc = .ok (.tableswitch dflt lo hi offs, len)) (h : x.toInt < lo ∨ hi < x.toInt) (ht : (pc : Int) + dflt = (tgt : Int)) (kk : J Γ D nL cs sl ws (tgt) lv (st)) : J Γ D nL cs sl ws pc lv (.int x :: st) := by
  obtain ⟨p, l, e, R, s, m, args, below, meth, c, A, Q⟩ := Γ
  obtain ⟨rfl, rfl, hx, hb, hml, hown, hts, hK, hA, hlk⟩ := hC
  intro H locs ls hP hD hS hl
  exact lv_tableOut hx hb hd h ht (kk H locs ls hP hD hS hl)
theorem j_ifnull (hC : jC Γ l0 rm D nL own cc Ts tys) {a : Nat} {off : Int} (hd : decode cc pc = .ok (.ifnull off, 3)) (kk : J Γ D nL cs sl ws (pc + 3) lv (st)) : J Γ D nL cs sl ws pc lv (.ref a :: st) := by
  obtain ⟨p, l, e, R, s, m, args, below, meth, c, A, Q⟩ := Γ
  obtain ⟨rfl, rfl, hx, hb, hml, hown, hts, hK, hA, hlk⟩ := hC
  intro H locs ls hP hD hS hl
  exact lv_ifnull hx hb hd (kk H locs ls hP hD hS hl)
theorem j_ifnonnull (hC : jC Γ l0 rm D nL own cc Ts tys) {a tgt : Nat} {off : Int} (hd : decode cc pc = .ok (.ifnonnull off, 3)) (ht : (pc : Int) + off = (tgt : Int)) (kk : J Γ D nL cs sl ws (tgt) lv (st)) : J Γ D nL cs sl ws pc lv (.ref a :: st) := by
  obtain ⟨p, l, e, R, s, m, args, below, meth, c, A, Q⟩ := Γ
  obtain ⟨rfl, rfl, hx, hb, hml, hown, hts, hK, hA, hlk⟩ := hC
  intro H locs ls hP hD hS hl
  exact lv_ifnonnull hx hb hd ht (kk H locs ls hP hD hS hl)
theorem j_ifnullN (hC : jC Γ l0 rm D nL own cc Ts tys) {tgt : Nat} {off : Int} (hd : decode cc pc = .ok (.ifnull off, 3)) (ht : (pc : Int) + off = (tgt : Int)) (kk : J Γ D nL cs sl ws (tgt) lv (st)) : J Γ D nL cs sl ws pc lv (.null :: st) := by
  obtain ⟨p, l, e, R, s, m, args, below, meth, c, A, Q⟩ := Γ
  obtain ⟨rfl, rfl, hx, hb, hml, hown, hts, hK, hA, hlk⟩ := hC
  intro H locs ls hP hD hS hl
  exact lv_ifnullN hx hb hd ht (kk H locs ls hP hD hS hl)
theorem j_ifnonnullN (hC : jC Γ l0 rm D nL own cc Ts tys) {off : Int} (hd : decode cc pc = .ok (.ifnonnull off, 3)) (kk : J Γ D nL cs sl ws (pc + 3) lv (st)) : J Γ D nL cs sl ws pc lv (.null :: st) := by
  obtain ⟨p, l, e, R, s, m, args, below, meth, c, A, Q⟩ := Γ
  obtain ⟨rfl, rfl, hx, hb, hml, hown, hts, hK, hA, hlk⟩ := hC
  intro H locs ls hP hD hS hl
  exact lv_ifnonnullN hx hb hd (kk H locs ls hP hD hS hl)
theorem j_null (hC : jC Γ l0 rm D nL own cc Ts tys) (hd : decode cc pc = .ok (.aconst_null, 1)) (kk : J Γ D nL cs sl ws (pc + 1) lv (.null :: st)) : J Γ D nL cs sl ws pc lv (st) := by
  obtain ⟨p, l, e, R, s, m, args, below, meth, c, A, Q⟩ := Γ
  obtain ⟨rfl, rfl, hx, hb, hml, hown, hts, hK, hA, hlk⟩ := hC
  intro H locs ls hP hD hS hl
  exact lv_null hx hb hd (kk H locs ls hP hD hS hl)
theorem j_get (hC : jC Γ l0 rm D nL own cc Ts tys) {ref C : String} {T : u_T} {N ci index : Nat} {a : Nat} {fs : List Value} {v : Value} (hin : ∀ w ∈ u_ws C T N, w ∈ Ts) (q0 : Nat) (he : ws[q0]? = some (a, .inr (ci, fs))) (hc : vwCl[ci]? = some (C, T, N)) (k : Nat) (hk : k < N) (hw : Cond.fieldLink own index ref (T k).2.1 (T k).2.2.1 ∈ Ts) (hr : (T k).1 = ref) (hv : fs[k]? = some v) (hd : decode cc pc = .ok (.getfield index, 3)) (kk : J Γ D nL cs sl ws (pc + 3) lv (v :: st)) : J Γ D nL cs sl ws pc lv (.ref a :: st) := by
  obtain ⟨p, l, e, R, s, m, args, below, meth, c, A, Q⟩ := Γ
  obtain ⟨rfl, rfl, hx, hb, hml, hown, hts, hK, hA, hlk⟩ := hC
  intro H locs ls hP hD hS hl
  exact va_get hx hb hts hin hown hK.1 hP q0 he hc k hk (hts _ hw) (fun _ h9 => by rw [← hr]; exact h9) hv hd (kk H locs ls hP hD hS hl)
theorem j_put (hC : jC Γ l0 rm D nL own cc Ts tys) {ref C : String} {T : u_T} {N ci index : Nat} {a : Nat} {fs : List Value} {v : Value} {ty : FieldType} {ws' : va_W} (hin : ∀ w ∈ u_ws C T N, w ∈ Ts) (ty0 : Nat → FieldType) (hty : ∀ k, k < N → parseFieldDescriptor (T k).2.2.1 = some (ty0 k)) (hnm : ∀ a, a < N → ∀ b, b < N → a ≠ b → (T a).2.1 ≠ (T b).2.1) (q0 : Nat) (he : ws[q0]? = some (a, .inr (ci, fs))) (hc : vwCl[ci]? = some (C, T, N)) (k : Nat) (hk : k < N) (hw : Cond.fieldLink own index ref (T k).2.1 (T k).2.2.1 ∈ Ts) (hr : (T k).1 = ref) (hfin : (T k).2.2.2 = false) (hd0 : parseFieldDescriptor (T k).2.2.1 = some ty) (hn : narrow ty v = v) (hfit : fits ty v = true) (hl9 : k < fs.length) (hws : ws.set q0 (a, .inr (ci, fs.set k v)) = ws') (hd : decode cc pc = .ok (.putfield index, 3)) (kk : J Γ D nL cs sl ws' (pc + 3) lv (st)) : J Γ D nL cs sl ws pc lv (v :: .ref a :: st) := by
  obtain ⟨p, l, e, R, s, m, args, below, meth, c, A, Q⟩ := Γ
  obtain ⟨rfl, rfl, hx, hb, hml, hown, hts, hK, hA, hlk⟩ := hC
  intro H locs ls hP hD hS hl
  exact va_put hx hb hts hin ty0 hty hnm hown hK.1 hP hD hS q0 he hc k hk (hts _ hw) (fun _ h9 => by rw [← hr]; exact h9) hfin hd0 hn hfit hl9 hd (fun H locs hP hD hS => kk H locs ls (hws ▸ hP) (hws ▸ hD) hS hl)
theorem j_putF (hC : jC Γ l0 rm D nL own cc Ts tys) {ref C : String} {T : u_T} {N ci index : Nat} {a : Nat} {fs : List Value} {v : Value} {ty : FieldType} {ws' : va_W} (hin : ∀ w ∈ u_ws C T N, w ∈ Ts) (ty0 : Nat → FieldType) (hty : ∀ k, k < N → parseFieldDescriptor (T k).2.2.1 = some (ty0 k)) (hnm : ∀ a, a < N → ∀ b, b < N → a ≠ b → (T a).2.1 ≠ (T b).2.1) (q0 : Nat) (he : ws[q0]? = some (a, .inr (ci, fs))) (hc : vwCl[ci]? = some (C, T, N)) (k : Nat) (hk : k < N) (hw : Cond.fieldLink own index ref (T k).2.1 (T k).2.2.1 ∈ Ts) (hr : (T k).1 = ref) (hfin : (T k).2.2.2 = true) (hmn : match Γ with | (_, _, _, _, _, _, _, _, meth, _, _, _) => meth.name = "<init>") (hdecl : (T k).1 = own) (hd0 : parseFieldDescriptor (T k).2.2.1 = some ty) (hn : narrow ty v = v) (hfit : fits ty v = true) (hl9 : k < fs.length) (hws : ws.set q0 (a, .inr (ci, fs.set k v)) = ws') (hd : decode cc pc = .ok (.putfield index, 3)) (kk : J Γ D nL cs sl ws' (pc + 3) lv (st)) : J Γ D nL cs sl ws pc lv (v :: .ref a :: st) := by
  obtain ⟨p, l, e, R, s, m, args, below, meth, c, A, Q⟩ := Γ
  obtain ⟨rfl, rfl, hx, hb, hml, hown, hts, hK, hA, hlk⟩ := hC
  intro H locs ls hP hD hS hl
  exact va_putF hx hb hts hin ty0 hty hnm hown hK.1 hP hD hS q0 he hc k hk (hts _ hw) (fun _ h9 => by rw [← hr]; exact h9) hfin hmn hdecl hd0 hn hfit hl9 hd (fun H locs hP hD hS => kk H locs ls (hws ▸ hP) (hws ▸ hD) hS hl)
theorem j_iald (hC : jC Γ l0 rm D nL own cc Ts tys) {a n : Nat} {cA : ClassId} {f : Nat → Int32} {i : Int32} {v : Int32} (q0 t0 : Nat) (ha : ws[q0]? = some (a, .inl (cA, n, .inl f))) (ht : tys[t0]? = some (cA, .int)) (hin : vp_in i n) (hv : f i.toNatClampNeg = v) (hd : decode cc pc = .ok (.iaload, 1)) (kk : J Γ D nL cs sl ws (pc + 1) lv (.int v :: st)) : J Γ D nL cs sl ws pc lv (.int i :: .ref a :: st) := by
  obtain ⟨p, l, e, R, s, m, args, below, meth, c, A, Q⟩ := Γ
  obtain ⟨rfl, rfl, hx, hb, hml, hown, hts, hK, hA, hlk⟩ := hC
  intro H locs ls hP hD hS hl
  subst hv; exact va_iald hx hb hK.1 hP q0 t0 ha ht hin hd (kk H locs ls hP hD hS hl)
theorem j_zald (hC : jC Γ l0 rm D nL own cc Ts tys) {a n : Nat} {cA : ClassId} {f : Nat → Int32} {i : Int32} {v : Int32} (q0 t0 : Nat) (ha : ws[q0]? = some (a, .inl (cA, n, .inl f))) (ht : tys[t0]? = some (cA, .boolean)) (hin : vp_in i n) (hv : f i.toNatClampNeg = v) (hd : decode cc pc = .ok (.baload, 1)) (kk : J Γ D nL cs sl ws (pc + 1) lv (.int v :: st)) : J Γ D nL cs sl ws pc lv (.int i :: .ref a :: st) := by
  obtain ⟨p, l, e, R, s, m, args, below, meth, c, A, Q⟩ := Γ
  obtain ⟨rfl, rfl, hx, hb, hml, hown, hts, hK, hA, hlk⟩ := hC
  intro H locs ls hP hD hS hl
  subst hv; exact va_zald hx hb hK.1 hP q0 t0 ha ht hin hd (kk H locs ls hP hD hS hl)
theorem j_lald (hC : jC Γ l0 rm D nL own cc Ts tys) {a n : Nat} {cA : ClassId} {f : Nat → Int64} {i : Int32} {v : Int64} (q0 t0 : Nat) (ha : ws[q0]? = some (a, .inl (cA, n, .inr (.inl f)))) (ht : tys[t0]? = some (cA, .long)) (hin : vp_in i n) (hv : f i.toNatClampNeg = v) (hd : decode cc pc = .ok (.laload, 1)) (kk : J Γ D nL cs sl ws (pc + 1) lv (.long v :: st)) : J Γ D nL cs sl ws pc lv (.int i :: .ref a :: st) := by
  obtain ⟨p, l, e, R, s, m, args, below, meth, c, A, Q⟩ := Γ
  obtain ⟨rfl, rfl, hx, hb, hml, hown, hts, hK, hA, hlk⟩ := hC
  intro H locs ls hP hD hS hl
  subst hv; exact va_lald hx hb hK.1 hP q0 t0 ha ht hin hd (kk H locs ls hP hD hS hl)
theorem j_iast (hC : jC Γ l0 rm D nL own cc Ts tys) {a n : Nat} {cA : ClassId} {f : Nat → Int32} {i : Int32} {x : Int32} {ws' : va_W} (q0 t0 : Nat) (ha : ws[q0]? = some (a, .inl (cA, n, .inl f))) (ht : tys[t0]? = some (cA, .int)) (hin : vp_in i n) (hws : ws.set q0 (a, .inl (cA, n, .inl (upd f i.toNatClampNeg x))) = ws') (hd : decode cc pc = .ok (.iastore, 1)) (kk : J Γ D nL cs sl ws' (pc + 1) lv (st)) : J Γ D nL cs sl ws pc lv (.int x :: .int i :: .ref a :: st) := by
  obtain ⟨p, l, e, R, s, m, args, below, meth, c, A, Q⟩ := Γ
  obtain ⟨rfl, rfl, hx, hb, hml, hown, hts, hK, hA, hlk⟩ := hC
  intro H locs ls hP hD hS hl
  exact va_iast hx hb hK.1 hP hD hS q0 t0 ha ht hin hd (fun H locs hP hD hS => kk H locs ls (hws ▸ hP) (hws ▸ hD) hS hl)
theorem j_zast (hC : jC Γ l0 rm D nL own cc Ts tys) {a n : Nat} {cA : ClassId} {f : Nat → Int32} {i : Int32} {x : Int32} {ws' : va_W} (q0 t0 : Nat) (ha : ws[q0]? = some (a, .inl (cA, n, .inl f))) (ht : tys[t0]? = some (cA, .boolean)) (hin : vp_in i n) (hws : ws.set q0 (a, .inl (cA, n, .inl (upd f i.toNatClampNeg (vp_nar .boolean x)))) = ws') (hd : decode cc pc = .ok (.bastore, 1)) (kk : J Γ D nL cs sl ws' (pc + 1) lv (st)) : J Γ D nL cs sl ws pc lv (.int x :: .int i :: .ref a :: st) := by
  obtain ⟨p, l, e, R, s, m, args, below, meth, c, A, Q⟩ := Γ
  obtain ⟨rfl, rfl, hx, hb, hml, hown, hts, hK, hA, hlk⟩ := hC
  intro H locs ls hP hD hS hl
  exact va_zast hx hb hK.1 hP hD hS q0 t0 ha ht hin hd (fun H locs hP hD hS => kk H locs ls (hws ▸ hP) (hws ▸ hD) hS hl)
theorem j_last (hC : jC Γ l0 rm D nL own cc Ts tys) {a n : Nat} {cA : ClassId} {f : Nat → Int64} {i : Int32} {x : Int64} {ws' : va_W} (q0 t0 : Nat) (ha : ws[q0]? = some (a, .inl (cA, n, .inr (.inl f)))) (ht : tys[t0]? = some (cA, .long)) (hin : vp_in i n) (hws : ws.set q0 (a, .inl (cA, n, .inr (.inl (vp_updL f i.toNatClampNeg x)))) = ws') (hd : decode cc pc = .ok (.lastore, 1)) (kk : J Γ D nL cs sl ws' (pc + 1) lv (st)) : J Γ D nL cs sl ws pc lv (.long x :: .int i :: .ref a :: st) := by
  obtain ⟨p, l, e, R, s, m, args, below, meth, c, A, Q⟩ := Γ
  obtain ⟨rfl, rfl, hx, hb, hml, hown, hts, hK, hA, hlk⟩ := hC
  intro H locs ls hP hD hS hl
  exact va_last hx hb hK.1 hP hD hS q0 t0 ha ht hin hd (fun H locs hP hD hS => kk H locs ls (hws ▸ hP) (hws ▸ hD) hS hl)
theorem j_alen (hC : jC Γ l0 rm D nL own cc Ts tys) {a : Nat} {cA : ClassId} {x : vp_A} {ty : FieldType} {v : Int32} (q0 t0 : Nat) (ha : ws[q0]? = some (a, .inl (cA, x))) (ht : tys[t0]? = some (cA, ty)) (hv : Int32.ofNat x.1 = v) (hd : decode cc pc = .ok (.arraylength, 1)) (kk : J Γ D nL cs sl ws (pc + 1) lv (.int v :: st)) : J Γ D nL cs sl ws pc lv (.ref a :: st) := by
  obtain ⟨p, l, e, R, s, m, args, below, meth, c, A, Q⟩ := Γ
  obtain ⟨rfl, rfl, hx, hb, hml, hown, hts, hK, hA, hlk⟩ := hC
  intro H locs ls hP hD hS hl
  exact va_alen hx hb hK.1 hP q0 t0 ha ht hv hd (kk H locs ls hP hD hS hl)
theorem j_mmax (hC : jC Γ l0 rm D nL own cc Ts tys) {index : Nat} {x y : Int32} (hw1 : Cond.methodLink own index Lib.Math.max.name ∈ Ts) (hw2 : Cond.static Lib.Math.max.name ∈ Ts) (hw3 : Cond.initialized "java/lang/Math" ∈ Ts) (hw4 : Cond.code Lib.Math.max.name Lib.Math.max.code 2 (some .int) ∈ Ts) (hfr : 1 ≤ rm.frames) (hlo : (st.map fun v => v.category).sum + 13 ≤ rm.locals) (hcs : cs ≤ rm.cells) (hsl : sl ≤ rm.slots) (hd : decode cc pc = .ok (.invokestatic index, 3)) (kk : J Γ D nL cs sl ws (pc + 3) lv (.int (if x < y then y else x) :: st)) : J Γ D nL cs sl ws pc lv (.int y :: .int x :: st) := by
  obtain ⟨p, l, e, R, s, m, args, below, meth, c, A, Q⟩ := Γ
  obtain ⟨rfl, rfl, hx, hb, hml, hown, hts, hK, hA, hlk⟩ := hC
  intro H locs ls hP hD hS hl
  exact va_mmax hx hb (hml.trans hl.1.symm) hown (hts _ hw1) (hts _ hw2) (hts _ hw3) (hts _ hw4) hfr hlo hcs hsl hd (kk H locs ls hP hD hS hl)
theorem j_mmin (hC : jC Γ l0 rm D nL own cc Ts tys) {index : Nat} {x y : Int32} (hw1 : Cond.methodLink own index Lib.Math.min.name ∈ Ts) (hw2 : Cond.static Lib.Math.min.name ∈ Ts) (hw3 : Cond.initialized "java/lang/Math" ∈ Ts) (hw4 : Cond.code Lib.Math.min.name Lib.Math.min.code 2 (some .int) ∈ Ts) (hfr : 1 ≤ rm.frames) (hlo : (st.map fun v => v.category).sum + 13 ≤ rm.locals) (hcs : cs ≤ rm.cells) (hsl : sl ≤ rm.slots) (hd : decode cc pc = .ok (.invokestatic index, 3)) (kk : J Γ D nL cs sl ws (pc + 3) lv (.int (if y < x then y else x) :: st)) : J Γ D nL cs sl ws pc lv (.int y :: .int x :: st) := by
  obtain ⟨p, l, e, R, s, m, args, below, meth, c, A, Q⟩ := Γ
  obtain ⟨rfl, rfl, hx, hb, hml, hown, hts, hK, hA, hlk⟩ := hC
  intro H locs ls hP hD hS hl
  exact va_mmin hx hb (hml.trans hl.1.symm) hown (hts _ hw1) (hts _ hw2) (hts _ hw3) (hts _ hw4) hfr hlo hcs hsl hd (kk H locs ls hP hD hS hl)
theorem j_aald (hC : jC Γ l0 rm D nL own cc Ts tys) {a n : Nat} {cA : ClassId} {ty : FieldType} {f : Nat → Option Nat} {i : Int32} {v : Value} (q0 t0 : Nat) (ha : ws[q0]? = some (a, .inl (cA, n, .inr (.inr (.inr (.inr f)))))) (ht : tys[t0]? = some (cA, ty)) (hty : ty.isReference = true) (hin : vp_in i n) (hv : va_rf (f i.toNatClampNeg) = v) (hd : decode cc pc = .ok (.aaload, 1)) (kk : J Γ D nL cs sl ws (pc + 1) lv (v :: st)) : J Γ D nL cs sl ws pc lv (.int i :: .ref a :: st) := by
  obtain ⟨p, l, e, R, s, m, args, below, meth, c, A, Q⟩ := Γ
  obtain ⟨rfl, rfl, hx, hb, hml, hown, hts, hK, hA, hlk⟩ := hC
  intro H locs ls hP hD hS hl
  have hlt : i.toNatClampNeg < n := Nat.not_le.mp fun q => hin (Or.inr q)
  exact W.aald (v := v) (ty := ty) hx hb (hP q0 _ ha) ((hK.1.2 t0 _ ht).1 n (fun j => va_rf (f j))) hty (fun q => by cases q) (by show ¬ (i < 0 ∨ (arrV _ _ _).slots.size ≤ _); rw [arrV_size]; exact hin) (by show (arrV _ _ _).slots[_]? = _; rw [arrV_read _ _ hlt, hv]) rfl rfl hd (kk H locs ls hP hD hS hl)
theorem j_astqO (hC : jC Γ l0 rm D nL own cc Ts tys) {a n v : Nat} {cA : ClassId} {E : String} {r : vw_C} {vs : List Value} {f : Nat → Option Nat} {i : Int32} {ws' : va_W} (q0 t0 qk ci : Nat) (ha : ws[q0]? = some (a, .inl (cA, n, .inr (.inr (.inr (.inr f)))))) (ht : tys[t0]? = some (cA, .object E)) (hca : (r.1, E) ∈ jCa) (hv : ws[qk]? = some (v, .inr (ci, vs))) (hc : vwCl[ci]? = some r) (hin : vp_in i n) (hws : ws.set q0 (a, .inl (cA, n, .inr (.inr (.inr (.inr (va_up f i.toNatClampNeg (some v))))))) = ws') (hd : decode cc pc = .ok (.aastore, 1)) (kk : J Γ D nL cs sl ws' (pc + 1) lv (st)) : J Γ D nL cs sl ws pc lv (.ref v :: .int i :: .ref a :: st) := by
  obtain ⟨p, l, e, R, s, m, args, below, meth, c, A, Q⟩ := Γ
  obtain ⟨rfl, rfl, hx, hb, hml, hown, hts, hK, hA, hlk⟩ := hC
  intro H locs ls hP hD hS hl
  exact va_astqO hx hb hK.1 hP hD hS q0 t0 qk ci ha ht (hK.2.2.1 _ hca) hv hc hin hd (fun H locs hP hD hS => kk H locs ls (hws ▸ hP) (hws ▸ hD) hS hl)
theorem j_astqS (hC : jC Γ l0 rm D nL own cc Ts tys) {a n v : Nat} {cA : ClassId} {r : vw_C} {vs : List Value} {f : Nat → Option Nat} {i : Int32} {ws' : va_W} (q0 t0 qk ci : Nat) (ha : ws[q0]? = some (a, .inl (cA, n, .inr (.inr (.inr (.inr f)))))) (ht : tys[t0]? = some (cA, .object r.1)) (hv : ws[qk]? = some (v, .inr (ci, vs))) (hc : vwCl[ci]? = some r) (hin : vp_in i n) (hws : ws.set q0 (a, .inl (cA, n, .inr (.inr (.inr (.inr (va_up f i.toNatClampNeg (some v))))))) = ws') (hd : decode cc pc = .ok (.aastore, 1)) (kk : J Γ D nL cs sl ws' (pc + 1) lv (st)) : J Γ D nL cs sl ws pc lv (.ref v :: .int i :: .ref a :: st) := by
  obtain ⟨p, l, e, R, s, m, args, below, meth, c, A, Q⟩ := Γ
  obtain ⟨rfl, rfl, hx, hb, hml, hown, hts, hK, hA, hlk⟩ := hC
  intro H locs ls hP hD hS hl
  exact va_astq hx hb hK.1 hP hD hS q0 t0 qk ci ha ht hv hc hin hd (fun H locs hP hD hS => kk H locs ls (hws ▸ hP) (hws ▸ hD) hS hl)
theorem j_instY (hC : jC Γ l0 rm D nL own cc Ts tys) {a index : Nat} {r : vw_C} {nm : String} {vs : List Value} (qk ci : Nat) (hw : Cond.classLink own index nm ∈ Ts) (hca : (r.1, nm) ∈ jCa) (hv : ws[qk]? = some (a, .inr (ci, vs))) (hc : vwCl[ci]? = some r) (hd : decode cc pc = .ok (.instanceof index, 3)) (kk : J Γ D nL cs sl ws (pc + 3) lv (.int 1 :: st)) : J Γ D nL cs sl ws pc lv (.ref a :: st) := by
  obtain ⟨p, l, e, R, s, m, args, below, meth, c, A, Q⟩ := Γ
  obtain ⟨rfl, rfl, hx, hb, hml, hown, hts, hK, hA, hlk⟩ := hC
  intro H locs ls hP hD hS hl
  exact va_instY hx hb hown (hts _ hw) (hK.2.2.1 _ hca) (va_recv hK.1 hP hc hv) hd (kk H locs ls hP hD hS hl)
theorem j_instNo (hC : jC Γ l0 rm D nL own cc Ts tys) {a index : Nat} {r : vw_C} {nm : String} {vs : List Value} (qk ci : Nat) (hw : Cond.classLink own index nm ∈ Ts) (hca : (r.1, nm) ∈ jNc) (hv : ws[qk]? = some (a, .inr (ci, vs))) (hc : vwCl[ci]? = some r) (hd : decode cc pc = .ok (.instanceof index, 3)) (kk : J Γ D nL cs sl ws (pc + 3) lv (.int 0 :: st)) : J Γ D nL cs sl ws pc lv (.ref a :: st) := by
  obtain ⟨p, l, e, R, s, m, args, below, meth, c, A, Q⟩ := Γ
  obtain ⟨rfl, rfl, hx, hb, hml, hown, hts, hK, hA, hlk⟩ := hC
  intro H locs ls hP hD hS hl
  exact va_instNo hx hb hown (hts _ hw) (hK.2.2.2 _ hca) (va_recv hK.1 hP hc hv) hd (kk H locs ls hP hD hS hl)
theorem j_instS (hC : jC Γ l0 rm D nL own cc Ts tys) {a index : Nat} {r : vw_C} {vs : List Value} (qk ci : Nat) (hw : Cond.classLink own index r.1 ∈ Ts) (hv : ws[qk]? = some (a, .inr (ci, vs))) (hc : vwCl[ci]? = some r) (hd : decode cc pc = .ok (.instanceof index, 3)) (kk : J Γ D nL cs sl ws (pc + 3) lv (.int 1 :: st)) : J Γ D nL cs sl ws pc lv (.ref a :: st) := by
  obtain ⟨p, l, e, R, s, m, args, below, meth, c, A, Q⟩ := Γ
  obtain ⟨rfl, rfl, hx, hb, hml, hown, hts, hK, hA, hlk⟩ := hC
  intro H locs ls hP hD hS hl
  exact va_instS hx hb hown (hts _ hw) (hK.1.1 ci _ hc).2 (va_recv hK.1 hP hc hv) hd (kk H locs ls hP hD hS hl)
theorem j_copyi (hC : jC Γ l0 rm D nL own cc Ts tys) {index a a0 n0 n1 : Nat} {c0 c1 : ClassId} {f g : Nat → Int32} {ty : FieldType} {sp dp n : Int32} {ws' : va_W} (q0 q1 t0 t1 : Nat) (hw1 : Cond.methodLink own index arraycopyName ∈ Ts) (hw2 : Cond.native arraycopyName ∈ Ts) (hw3 : Cond.static arraycopyName ∈ Ts) (hw4 : Cond.initialized "java/lang/System" ∈ Ts) (ha0 : ws[q0]? = some (a0, .inl (c0, n0, .inl f))) (ha1 : ws[q1]? = some (a, .inl (c1, n1, .inl g))) (ht0 : tys[t0]? = some (c0, ty)) (ht1 : tys[t1]? = some (c1, ty)) (hprim : refKind ty = false) (h1 : ¬ sp < 0) (h2 : ¬ dp < 0) (h3 : ¬ n < 0) (h4 : sp.toNatClampNeg + n.toNatClampNeg ≤ n0) (h5 : dp.toNatClampNeg + n.toNatClampNeg ≤ n1) (hfit : ∀ x : Int32, fits ty (.int x) = true) (hfr : 1 ≤ rm.frames) (hlo : (st.map fun v => v.category).sum + (nativeFrameWords "java/lang/System" "arraycopy" 5 + 11) ≤ rm.locals) (hws : ws.set q1 (a, .inl (c1, n1, .inl (va_cpy f g sp.toNatClampNeg dp.toNatClampNeg n.toNatClampNeg))) = ws') (hd : decode cc pc = .ok (.invokestatic index, 3)) (kk : J Γ D nL cs sl ws' (pc + 3) lv (st)) : J Γ D nL cs sl ws pc lv (.int n :: .int dp :: .ref a :: .int sp :: .ref a0 :: st) := by
  obtain ⟨p, l, e, R, s, m, args, below, meth, c, A, Q⟩ := Γ
  obtain ⟨rfl, rfl, hx, hb, hml, hown, hts, hK, hA, hlk⟩ := hC
  intro H locs ls hP hD hS hl
  exact va_copyi hx hb (hml.trans hl.1.symm) hown (hts _ hw1) (hts _ hw2) (hts _ hw3) (hts _ hw4) hK.1 hP hD hS q0 q1 t0 t1 ha0 ha1 ht0 ht1 hprim h1 h2 h3 h4 h5 (fun i _ => hfit _) hfr hlo hd (fun H locs hP hD hS => kk H locs ls (hws ▸ hP) (hws ▸ hD) hS hl)
theorem j_copyl (hC : jC Γ l0 rm D nL own cc Ts tys) {index a a0 n0 n1 : Nat} {c0 c1 : ClassId} {f g : Nat → Int64} {ty : FieldType} {sp dp n : Int32} {ws' : va_W} (q0 q1 t0 t1 : Nat) (hw1 : Cond.methodLink own index arraycopyName ∈ Ts) (hw2 : Cond.native arraycopyName ∈ Ts) (hw3 : Cond.static arraycopyName ∈ Ts) (hw4 : Cond.initialized "java/lang/System" ∈ Ts) (ha0 : ws[q0]? = some (a0, .inl (c0, n0, .inr (.inl f)))) (ha1 : ws[q1]? = some (a, .inl (c1, n1, .inr (.inl g)))) (ht0 : tys[t0]? = some (c0, ty)) (ht1 : tys[t1]? = some (c1, ty)) (hprim : refKind ty = false) (h1 : ¬ sp < 0) (h2 : ¬ dp < 0) (h3 : ¬ n < 0) (h4 : sp.toNatClampNeg + n.toNatClampNeg ≤ n0) (h5 : dp.toNatClampNeg + n.toNatClampNeg ≤ n1) (hfit : ∀ x : Int64, fits ty (.long x) = true) (hfr : 1 ≤ rm.frames) (hlo : (st.map fun v => v.category).sum + (nativeFrameWords "java/lang/System" "arraycopy" 5 + 11) ≤ rm.locals) (hws : ws.set q1 (a, .inl (c1, n1, .inr (.inl (va_cpy f g sp.toNatClampNeg dp.toNatClampNeg n.toNatClampNeg)))) = ws') (hd : decode cc pc = .ok (.invokestatic index, 3)) (kk : J Γ D nL cs sl ws' (pc + 3) lv (st)) : J Γ D nL cs sl ws pc lv (.int n :: .int dp :: .ref a :: .int sp :: .ref a0 :: st) := by
  obtain ⟨p, l, e, R, s, m, args, below, meth, c, A, Q⟩ := Γ
  obtain ⟨rfl, rfl, hx, hb, hml, hown, hts, hK, hA, hlk⟩ := hC
  intro H locs ls hP hD hS hl
  exact va_copyl hx hb (hml.trans hl.1.symm) hown (hts _ hw1) (hts _ hw2) (hts _ hw3) (hts _ hw4) hK.1 hP hD hS q0 q1 t0 t1 ha0 ha1 ht0 ht1 hprim h1 h2 h3 h4 h5 (fun i _ => hfit _) hfr hlo hd (fun H locs hP hD hS => kk H locs ls (hws ▸ hP) (hws ▸ hD) hS hl)
theorem j_lcmp_eq (hC : jC Γ l0 rm D nL own cc Ts tys) {x y : Int64} {off : Int} {tgt : Nat} (hd : decode cc pc = .ok (.lcmp, 1)) (hd2 : decode cc (pc + 1) = .ok (.ifCond .eq off, 3)) (ht : ((pc + 1 : Nat) : Int) + off = (tgt : Int)) (kt : x = y → J Γ D nL cs sl ws (tgt) lv (st)) (kf : ¬ x = y → J Γ D nL cs sl ws (pc + 1 + 3) lv (st)) : J Γ D nL cs sl ws pc lv (.long y :: .long x :: st) :=
  j_lcmp hC hd (j_if_eq hC hd2 ht (fun h => kt (jl_eq.mp h)) (fun h => kf (fun q => h (jl_eq.mpr q))))
theorem j_lcmp_ne (hC : jC Γ l0 rm D nL own cc Ts tys) {x y : Int64} {off : Int} {tgt : Nat} (hd : decode cc pc = .ok (.lcmp, 1)) (hd2 : decode cc (pc + 1) = .ok (.ifCond .ne off, 3)) (ht : ((pc + 1 : Nat) : Int) + off = (tgt : Int)) (kt : ¬ x = y → J Γ D nL cs sl ws (tgt) lv (st)) (kf : x = y → J Γ D nL cs sl ws (pc + 1 + 3) lv (st)) : J Γ D nL cs sl ws pc lv (.long y :: .long x :: st) :=
  j_lcmp hC hd (j_if_ne hC hd2 ht (fun h => kt (jl_ne.mp h)) (fun h => kf (jl_eq.mp h)))
theorem j_lcmp_lt (hC : jC Γ l0 rm D nL own cc Ts tys) {x y : Int64} {off : Int} {tgt : Nat} (hd : decode cc pc = .ok (.lcmp, 1)) (hd2 : decode cc (pc + 1) = .ok (.ifCond .lt off, 3)) (ht : ((pc + 1 : Nat) : Int) + off = (tgt : Int)) (kt : x < y → J Γ D nL cs sl ws (tgt) lv (st)) (kf : ¬ x < y → J Γ D nL cs sl ws (pc + 1 + 3) lv (st)) : J Γ D nL cs sl ws pc lv (.long y :: .long x :: st) :=
  j_lcmp hC hd (j_if_lt hC hd2 ht (fun h => kt (jl_lt.mp h)) (fun h => kf (fun q => h (jl_lt.mpr q))))
theorem j_lcmp_ge (hC : jC Γ l0 rm D nL own cc Ts tys) {x y : Int64} {off : Int} {tgt : Nat} (hd : decode cc pc = .ok (.lcmp, 1)) (hd2 : decode cc (pc + 1) = .ok (.ifCond .ge off, 3)) (ht : ((pc + 1 : Nat) : Int) + off = (tgt : Int)) (kt : y ≤ x → J Γ D nL cs sl ws (tgt) lv (st)) (kf : ¬ y ≤ x → J Γ D nL cs sl ws (pc + 1 + 3) lv (st)) : J Γ D nL cs sl ws pc lv (.long y :: .long x :: st) :=
  j_lcmp hC hd (j_if_ge hC hd2 ht (fun h => kt (jl_ge.mp h)) (fun h => kf (fun q => h (jl_ge.mpr q))))
theorem j_lcmp_gt (hC : jC Γ l0 rm D nL own cc Ts tys) {x y : Int64} {off : Int} {tgt : Nat} (hd : decode cc pc = .ok (.lcmp, 1)) (hd2 : decode cc (pc + 1) = .ok (.ifCond .gt off, 3)) (ht : ((pc + 1 : Nat) : Int) + off = (tgt : Int)) (kt : y < x → J Γ D nL cs sl ws (tgt) lv (st)) (kf : ¬ y < x → J Γ D nL cs sl ws (pc + 1 + 3) lv (st)) : J Γ D nL cs sl ws pc lv (.long y :: .long x :: st) :=
  j_lcmp hC hd (j_if_gt hC hd2 ht (fun h => kt (jl_gt.mp h)) (fun h => kf (fun q => h (jl_gt.mpr q))))
theorem j_lcmp_le (hC : jC Γ l0 rm D nL own cc Ts tys) {x y : Int64} {off : Int} {tgt : Nat} (hd : decode cc pc = .ok (.lcmp, 1)) (hd2 : decode cc (pc + 1) = .ok (.ifCond .le off, 3)) (ht : ((pc + 1 : Nat) : Int) + off = (tgt : Int)) (kt : x ≤ y → J Γ D nL cs sl ws (tgt) lv (st)) (kf : ¬ x ≤ y → J Γ D nL cs sl ws (pc + 1 + 3) lv (st)) : J Γ D nL cs sl ws pc lv (.long y :: .long x :: st) :=
  j_lcmp hC hd (j_if_le hC hd2 ht (fun h => kt (jl_le.mp h)) (fun h => kf (fun q => h (jl_le.mpr q))))
theorem j_iret {S : Type} {wf : S → va_W} {post : Int32 → S → Prop} {v : Int32} {u : S} (hC : jC Γ l0 rm D nL own cc Ts tys) (hQ : jQi Γ D wf post (some .int) cs sl) (hd : decode cc pc = .ok (.ireturn, 1)) (hw : ws = wf u) (hp : post v u) : J Γ D nL cs sl ws pc lv [.int v] := by
  obtain ⟨p, l, e, R, s, m, args, below, meth, c, A, Q⟩ := Γ
  obtain ⟨rfl, rfl, hx, hb, hml, hown, hts, hK, hA, hlk⟩ := hC
  obtain ⟨rfl, hr⟩ := hQ
  subst hw
  intro H locs ls hP hD hS hl
  exact W.iret hx hb hr (fun t ht _ => ⟨⟨v, u, rfl, hp, by rw [ht]; exact hP, hD⟩, hS.F ht⟩) hS.2.2 hd
theorem j_zret {S : Type} {wf : S → va_W} {post : Int32 → S → Prop} {v : Int32} {u : S} (hC : jC Γ l0 rm D nL own cc Ts tys) (hQ : jQi Γ D wf post (some .boolean) cs sl) (hd : decode cc pc = .ok (.ireturn, 1)) (hw : ws = wf u) (hn : narrow .boolean (.int v) = .int v) (hp : post v u) : J Γ D nL cs sl ws pc lv [.int v] := by
  obtain ⟨p, l, e, R, s, m, args, below, meth, c, A, Q⟩ := Γ
  obtain ⟨rfl, rfl, hx, hb, hml, hown, hts, hK, hA, hlk⟩ := hC
  obtain ⟨rfl, hr⟩ := hQ
  subst hw
  intro H locs ls hP hD hS hl
  exact W.zret hx hb hr hn (fun t ht _ => ⟨⟨v, u, rfl, hp, by rw [ht]; exact hP, hD⟩, hS.F ht⟩) hS.2.2 hd
theorem j_lret {S : Type} {wf : S → va_W} {post : Int64 → S → Prop} {v : Int64} {u : S} (hC : jC Γ l0 rm D nL own cc Ts tys) (hQ : jQl Γ D wf post (some .long) cs sl) (hd : decode cc pc = .ok (.lreturn, 1)) (hw : ws = wf u) (hp : post v u) : J Γ D nL cs sl ws pc lv [.long v] := by
  obtain ⟨p, l, e, R, s, m, args, below, meth, c, A, Q⟩ := Γ
  obtain ⟨rfl, rfl, hx, hb, hml, hown, hts, hK, hA, hlk⟩ := hC
  obtain ⟨rfl, hr⟩ := hQ
  subst hw
  intro H locs ls hP hD hS hl
  exact W.lret hx hb hr (fun t ht _ => ⟨⟨v, u, rfl, hp, by rw [ht]; exact hP, hD⟩, hS.F ht⟩) hS.2.2 hd
theorem j_vret {S : Type} {wf : S → va_W} {post : S → Prop} {u : S} (hC : jC Γ l0 rm D nL own cc Ts tys) (hQ : jQv Γ D wf post none cs sl) (hd : decode cc pc = .ok (.return_, 1)) (hw : ws = wf u) (hp : post u) : J Γ D nL cs sl ws pc lv [] := by
  obtain ⟨p, l, e, R, s, m, args, below, meth, c, A, Q⟩ := Γ
  obtain ⟨rfl, rfl, hx, hb, hml, hown, hts, hK, hA, hlk⟩ := hC
  obtain ⟨rfl, hr⟩ := hQ
  subst hw
  intro H locs ls hP hD hS hl
  exact W.vret hx hb hr (fun t ht _ => ⟨⟨u, rfl, hp, by rw [ht]; exact hP, hD⟩, hS.F ht⟩) hS.2.2 hd
theorem j_qret {S : Type} {wf : S → va_W} {post : Option Nat → S → Prop} {v : Option Nat} {u : S} {C : String} (hC : jC Γ l0 rm D nL own cc Ts tys) (hQ : jQq Γ D wf post (some (.object C)) cs sl) (hd : decode cc pc = .ok (.areturn, 1)) (hw : ws = wf u) (hp : post v u) : J Γ D nL cs sl ws pc lv [va_rf v] := by
  obtain ⟨p, l, e, R, s, m, args, below, meth, c, A, Q⟩ := Γ
  obtain ⟨rfl, rfl, hx, hb, hml, hown, hts, hK, hA, hlk⟩ := hC
  obtain ⟨rfl, hr⟩ := hQ
  subst hw
  intro H locs ls hP hD hS hl
  exact W.aret hx hb hr (Or.inl ⟨C, rfl⟩) (by cases v with | none => exact Or.inl rfl | some a => exact Or.inr ⟨a, rfl⟩) (fun t ht _ => ⟨⟨v, u, rfl, hp, by rw [ht]; exact hP, hD⟩, hS.F ht⟩) hS.2.2 hd
theorem j_widen {k n : Nat} (h1 : cs ≤ k) (h2 : sl ≤ n) (kk : J Γ D nL k n ws pc lv st) : J Γ D nL cs sl ws pc lv st := by
  obtain ⟨p, l, e, R, s, m, args, below, meth, c, A, Q⟩ := Γ
  intro H locs ls hP hD hS hl
  exact W.widen h1 h2 (kk H locs ls hP hD hS hl)
theorem j_lv {lv' : List (Nat × Value)} (ks : List Nat) (hf : lv_pick lv ks = lv') (kk : J Γ D nL cs sl ws pc lv' st) : J Γ D nL cs sl ws pc lv st := by
  obtain ⟨p, l, e, R, s, m, args, below, meth, c, A, Q⟩ := Γ
  intro H locs ls hP hD hS hl
  exact kk H locs ls hP hD hS (lv_sub hl ks hf)

theorem jA_free {A0 : Nat → Prop} {ws : va_W} {H0 H : Heap} {locs : List Loc} (hD : va_D A0 ws) (hS : va_S A0 H0 H locs) (hA : ∀ q, H0.size ≤ q → A0 q) : ∀ q, va_A ws H.size q → A0 q := by
  intro q h
  rcases h with ⟨k, e, hk⟩ | h
  · exact hD.2 k _ hk
  · exact hA q (Nat.le_trans hS.1 h)
theorem jPre_blind {D : va_G} {tys : List (ClassId × FieldType)} {av : List Value} {w0 : va_W} {sz : Nat} : FrameBlind (jPre D tys av w0 sz) := fun a U g mk q => by
  obtain ⟨q0, q1, qP, qK, qD⟩ := q
  exact ⟨q0, q1, qP, qK.blind, qD⟩
theorem jPre_in {D : va_G} {tys : List (ClassId × FieldType)} {av : List Value} {w0 : va_W} {A : Nat → Prop} {s : State} {H : Heap} (hK : jK D tys s) (hP : va_P D vwCl w0 H) (hD : va_D A w0) : ∀ U : State, U.heap = H → s.WarmedH U.vm → jPre D tys av w0 H.size av.toArray U := fun U hU hW => ⟨rfl, by rw [hU], by rw [hU]; exact hP, hK.warm hW, hD.weaken (fun _ _ _ _ => trivial)⟩

theorem j_callV_i (hC : jC Γ l0 rm D nL own cc Ts tys) {S : Type} {wf : S → va_W} {post : Int32 → S → Prop} {y : MethodName} {wy wy' : List Cond} {ry : Room} {mc ms maxL index : Nat} {bytes : ByteArray} {rt : Option FieldType} {As rest : List Value} {b q0 ci : Nat} {fs : List Value} (hM : jMi l0 y wy ry D tys (.ref b :: As) ws wf post mc ms) {C : String} {T : u_T} {N : Nat} (n : Nat) (hG : GoodIn Ts (wsV own index C y wy)) (hwy : wy = Cond.code y bytes maxL rt :: wy') (hrc : ry.cells = mc) (hrs : ry.slots = ms) (hR : ry.frames + 1 ≤ rm.frames ∧ 8 + (maxL + 11) + ry.locals ≤ rm.locals) (hd0 : y.cls = C ∧ y.cls ≠ "java/lang/invoke/MethodHandle" ∧ y.cls ≠ "java/lang/invoke/VarHandle" ∧ (parseMethodDescriptor y.desc).map (fun d => d.parameters.length) = some n) (hn : As.length = n) (he : ws[q0]? = some (b, .inr (ci, fs))) (hc : vwCl[ci]? = some (C, T, N)) (hst : st = As.reverse ++ .ref b :: rest) (hlo : (rest.map fun v => v.category).sum ≤ 8) (hcc : cs + mc ≤ rm.cells ∧ sl + ms ≤ rm.slots) (hd : decode cc pc = .ok (.invokevirtual index, 3)) (kk : ∀ (r : Int32) (u : S), post r u → J Γ D nL (cs + mc) (sl + ms) (wf u) (pc + 3) lv (.int r :: rest)) : J Γ D nL cs sl ws pc lv st := by
  obtain ⟨p, l, e, R, s, m, args, below, meth, c, A, Q⟩ := Γ
  obtain ⟨rfl, rfl, hx, hb, hml, hown, hts, hK, hA, hlk⟩ := hC
  intro H locs ls hP hD hS hl
  subst hst
  have hF := jA_free hD hS hA
  exact va_calli (va_runV ⟨hx, hb, hml, hown, hts⟩ (hM H.size) (cwV n hts hG hwy hrc hrs hd0 hR) ⟨jPre_blind, va_recv hK.1 hP hc he, jPre_in hK hP hD⟩ rfl hn hl.1 rfl (lv_room hlo) hd hcc) hS (fun q _ h => hF q h) hF (fun r u t H1 locs ht hvm hw hB hz1 hk1 hS => kk r u hw H1 locs ls (ht ▸ hB.1) (hB.2.weaken (fun _ q _ h => hF _ h)) hS hl)
theorem j_callS_i (hC : jC Γ l0 rm D nL own cc Ts tys) {S : Type} {wf : S → va_W} {post : Int32 → S → Prop} {y : MethodName} {wy wy' : List Cond} {ry : Room} {mc ms maxL index : Nat} {bytes : ByteArray} {rt : Option FieldType} {As rest : List Value} (hM : jMi l0 y wy ry D tys As ws wf post mc ms) (n : Nat) (hG : GoodIn Ts (va_wsS own index y wy)) (hwy : wy = Cond.code y bytes maxL rt :: wy') (hrc : ry.cells = mc) (hrs : ry.slots = ms) (hR : ry.frames + 1 ≤ rm.frames ∧ 8 + (maxL + 11) + ry.locals ≤ rm.locals) (hd0 : y.cls ≠ "java/lang/invoke/MethodHandle" ∧ y.cls ≠ "java/lang/invoke/VarHandle" ∧ (parseMethodDescriptor y.desc).map (fun d => d.parameters.length) = some n) (hn : As.length = n) (hst : st = As.reverse ++ rest) (hlo : (rest.map fun v => v.category).sum ≤ 8) (hcc : cs + mc ≤ rm.cells ∧ sl + ms ≤ rm.slots) (hd : decode cc pc = .ok (.invokestatic index, 3)) (kk : ∀ (r : Int32) (u : S), post r u → J Γ D nL (cs + mc) (sl + ms) (wf u) (pc + 3) lv (.int r :: rest)) : J Γ D nL cs sl ws pc lv st := by
  obtain ⟨p, l, e, R, s, m, args, below, meth, c, A, Q⟩ := Γ
  obtain ⟨rfl, rfl, hx, hb, hml, hown, hts, hK, hA, hlk⟩ := hC
  intro H locs ls hP hD hS hl
  subst hst
  have hF := jA_free hD hS hA
  exact va_calli (va_runS ⟨hx, hb, hml, hown, hts⟩ (hM H.size) (va_cwS n hts hG hwy hrc hrs hd0 hR) ⟨jPre_blind, jPre_in hK hP hD⟩ rfl hn hl.1 rfl (lv_room hlo) hd hcc) hS (fun q _ h => hF q h) hF (fun r u t H1 locs ht hvm hw hB hz1 hk1 hS => kk r u hw H1 locs ls (ht ▸ hB.1) (hB.2.weaken (fun _ q _ h => hF _ h)) hS hl)
theorem j_callSN_i (hC : jC Γ l0 rm D nL own cc Ts tys) {S : Type} {wf : S → va_W} {post : Int32 → S → Prop} {y : MethodName} {wy wy' : List Cond} {ry : Room} {mc ms maxL index : Nat} {bytes : ByteArray} {rt : Option FieldType} {As rest : List Value} (hM : jMi l0 y wy ry D tys As ws wf post mc ms) {host : String} (n : Nat) (hG : GoodIn Ts wy) (hwy : wy = Cond.code y bytes maxL rt :: wy') (hrc : ry.cells = mc) (hrs : ry.slots = ms) (hR : ry.frames + 1 ≤ rm.frames ∧ 8 + (maxL + 11) + ry.locals ≤ rm.locals) (hnw : Cond.methodLinkNest own index y host ∈ jNw) (hws1 : Cond.initialized y.cls ∈ Ts) (hws2 : Cond.static y ∈ Ts) (hd0 : y.cls ≠ "java/lang/invoke/MethodHandle" ∧ y.cls ≠ "java/lang/invoke/VarHandle" ∧ (parseMethodDescriptor y.desc).map (fun d => d.parameters.length) = some n) (hn : As.length = n) (hst : st = As.reverse ++ rest) (hlo : (rest.map fun v => v.category).sum ≤ 8) (hcc : cs + mc ≤ rm.cells ∧ sl + ms ≤ rm.slots) (hd : decode cc pc = .ok (.invokestatic index, 3)) (kk : ∀ (r : Int32) (u : S), post r u → J Γ D nL (cs + mc) (sl + ms) (wf u) (pc + 3) lv (.int r :: rest)) : J Γ D nL cs sl ws pc lv st := by
  obtain ⟨p, l, e, R, s, m, args, below, meth, c, A, Q⟩ := Γ
  obtain ⟨rfl, rfl, hx, hb, hml, hown, hts, hK, hA, hlk⟩ := hC
  intro H locs ls hP hD hS hl
  subst hst
  have hF := jA_free hD hS hA
  exact va_calli (va_runSN ⟨hx, hb, hml, hown, hts⟩ (hM H.size) ⟨va_cnB n hts hG hwy hrc hrs (hK.2.1 _ hnw) (hts _ hws1) hd0 hR, hts _ hws2, trivial⟩ ⟨jPre_blind, jPre_in hK hP hD⟩ rfl hn hl.1 rfl (lv_room hlo) hd hcc) hS (fun q _ h => hF q h) hF (fun r u t H1 locs ht hvm hw hB hz1 hk1 hS => kk r u hw H1 locs ls (ht ▸ hB.1) (hB.2.weaken (fun _ q _ h => hF _ h)) hS hl)
theorem j_callVO_i (hC : jC Γ l0 rm D nL own cc Ts tys) {S : Type} {wf : S → va_W} {post : Int32 → S → Prop} {y : MethodName} {wy wy' : List Cond} {ry : Room} {mc ms maxL index : Nat} {bytes : ByteArray} {rt : Option FieldType} {As rest : List Value} {b q0 ci : Nat} {fs : List Value} (hM : jMi l0 y wy ry D tys (.ref b :: As) ws wf post mc ms) {C owner : String} {T : u_T} {N : Nat} {x : MethodName} {b0 : ByteArray} {m0 : Nat} {r0 : Option FieldType} (n : Nat) (hG : GoodIn Ts (va_wsO own index C owner x y wy)) (hwy : wy = Cond.code y bytes maxL rt :: wy') (hrc : ry.cells = mc) (hrs : ry.slots = ms) (hR : ry.frames + 1 ≤ rm.frames ∧ 8 + (maxL + 11) + ry.locals ≤ rm.locals) (h0 : Cond.code ⟨owner, x.name, x.desc⟩ b0 m0 r0 ∈ Ts) (hd0 : owner ≠ "java/lang/invoke/MethodHandle" ∧ owner ≠ "java/lang/invoke/VarHandle" ∧ (parseMethodDescriptor x.desc).map (fun d => d.parameters.length) = some n) (hn : As.length = n) (he : ws[q0]? = some (b, .inr (ci, fs))) (hc : vwCl[ci]? = some (C, T, N)) (hst : st = As.reverse ++ .ref b :: rest) (hlo : (rest.map fun v => v.category).sum ≤ 8) (hcc : cs + mc ≤ rm.cells ∧ sl + ms ≤ rm.slots) (hd : decode cc pc = .ok (.invokevirtual index, 3)) (kk : ∀ (r : Int32) (u : S), post r u → J Γ D nL (cs + mc) (sl + ms) (wf u) (pc + 3) lv (.int r :: rest)) : J Γ D nL cs sl ws pc lv st := by
  obtain ⟨p, l, e, R, s, m, args, below, meth, c, A, Q⟩ := Γ
  obtain ⟨rfl, rfl, hx, hb, hml, hown, hts, hK, hA, hlk⟩ := hC
  intro H locs ls hP hD hS hl
  subst hst
  have hF := jA_free hD hS hA
  exact va_calli (va_runU ⟨hx, hb, hml, hown, hts⟩ (hM H.size) (va_cwO n hts hG hwy hrc hrs h0 hd0 hR) ⟨jPre_blind, va_recv hK.1 hP hc he, jPre_in hK hP hD⟩ rfl hn hl.1 rfl (lv_room hlo) hd hcc) hS (fun q _ h => hF q h) hF (fun r u t H1 locs ht hvm hw hB hz1 hk1 hS => kk r u hw H1 locs ls (ht ▸ hB.1) (hB.2.weaken (fun _ q _ h => hF _ h)) hS hl)
theorem j_callSU_i (hC : jC Γ l0 rm D nL own cc Ts tys) {S : Type} {wf : S → va_W} {post : Int32 → S → Prop} {y : MethodName} {wy wy' : List Cond} {ry : Room} {mc ms maxL index : Nat} {bytes : ByteArray} {rt : Option FieldType} {As rest : List Value} {b q0 ci : Nat} {fs : List Value} (hM : jMi l0 y wy ry D tys (.ref b :: As) ws wf post mc ms) {C : String} {T : u_T} {N : Nat} (n : Nat) (hG : GoodIn Ts (va_wsSU own index y wy)) (hwy : wy = Cond.code y bytes maxL rt :: wy') (hrc : ry.cells = mc) (hrs : ry.slots = ms) (hR : ry.frames + 1 ≤ rm.frames ∧ 8 + (maxL + 11) + ry.locals ≤ rm.locals) (hd0 : y.name ≠ "<init>" ∧ (parseMethodDescriptor y.desc).map (fun d => d.parameters.length) = some n) (hn : As.length = n) (he : ws[q0]? = some (b, .inr (ci, fs))) (hc : vwCl[ci]? = some (C, T, N)) (hst : st = As.reverse ++ .ref b :: rest) (hlo : (rest.map fun v => v.category).sum ≤ 8) (hcc : cs + mc ≤ rm.cells ∧ sl + ms ≤ rm.slots) (hd : decode cc pc = .ok (.invokespecial index, 3)) (kk : ∀ (r : Int32) (u : S), post r u → J Γ D nL (cs + mc) (sl + ms) (wf u) (pc + 3) lv (.int r :: rest)) : J Γ D nL cs sl ws pc lv st := by
  obtain ⟨p, l, e, R, s, m, args, below, meth, c, A, Q⟩ := Γ
  obtain ⟨rfl, rfl, hx, hb, hml, hown, hts, hK, hA, hlk⟩ := hC
  intro H locs ls hP hD hS hl
  subst hst
  have hF := jA_free hD hS hA
  exact va_calli (va_runSU (hK.1.1 ci _ hc).2 ⟨hx, hb, hml, hown, hts⟩ (hM H.size) (va_cwSU n hts hG hwy hrc hrs hd0 hR) ⟨jPre_blind, va_recv hK.1 hP hc he, jPre_in hK hP hD⟩ rfl hn hl.1 rfl (lv_room hlo) hd hcc) hS (fun q _ h => hF q h) hF (fun r u t H1 locs ht hvm hw hB hz1 hk1 hS => kk r u hw H1 locs ls (ht ▸ hB.1) (hB.2.weaken (fun _ q _ h => hF _ h)) hS hl)
theorem j_callV_l (hC : jC Γ l0 rm D nL own cc Ts tys) {S : Type} {wf : S → va_W} {post : Int64 → S → Prop} {y : MethodName} {wy wy' : List Cond} {ry : Room} {mc ms maxL index : Nat} {bytes : ByteArray} {rt : Option FieldType} {As rest : List Value} {b q0 ci : Nat} {fs : List Value} (hM : jMl l0 y wy ry D tys (.ref b :: As) ws wf post mc ms) {C : String} {T : u_T} {N : Nat} (n : Nat) (hG : GoodIn Ts (wsV own index C y wy)) (hwy : wy = Cond.code y bytes maxL rt :: wy') (hrc : ry.cells = mc) (hrs : ry.slots = ms) (hR : ry.frames + 1 ≤ rm.frames ∧ 8 + (maxL + 11) + ry.locals ≤ rm.locals) (hd0 : y.cls = C ∧ y.cls ≠ "java/lang/invoke/MethodHandle" ∧ y.cls ≠ "java/lang/invoke/VarHandle" ∧ (parseMethodDescriptor y.desc).map (fun d => d.parameters.length) = some n) (hn : As.length = n) (he : ws[q0]? = some (b, .inr (ci, fs))) (hc : vwCl[ci]? = some (C, T, N)) (hst : st = As.reverse ++ .ref b :: rest) (hlo : (rest.map fun v => v.category).sum ≤ 8) (hcc : cs + mc ≤ rm.cells ∧ sl + ms ≤ rm.slots) (hd : decode cc pc = .ok (.invokevirtual index, 3)) (kk : ∀ (r : Int64) (u : S), post r u → J Γ D nL (cs + mc) (sl + ms) (wf u) (pc + 3) lv (.long r :: rest)) : J Γ D nL cs sl ws pc lv st := by
  obtain ⟨p, l, e, R, s, m, args, below, meth, c, A, Q⟩ := Γ
  obtain ⟨rfl, rfl, hx, hb, hml, hown, hts, hK, hA, hlk⟩ := hC
  intro H locs ls hP hD hS hl
  subst hst
  have hF := jA_free hD hS hA
  exact va_calll (va_runV ⟨hx, hb, hml, hown, hts⟩ (hM H.size) (cwV n hts hG hwy hrc hrs hd0 hR) ⟨jPre_blind, va_recv hK.1 hP hc he, jPre_in hK hP hD⟩ rfl hn hl.1 rfl (lv_room hlo) hd hcc) hS (fun q _ h => hF q h) hF (fun r u t H1 locs ht hvm hw hB hz1 hk1 hS => kk r u hw H1 locs ls (ht ▸ hB.1) (hB.2.weaken (fun _ q _ h => hF _ h)) hS hl)
theorem j_callS_l (hC : jC Γ l0 rm D nL own cc Ts tys) {S : Type} {wf : S → va_W} {post : Int64 → S → Prop} {y : MethodName} {wy wy' : List Cond} {ry : Room} {mc ms maxL index : Nat} {bytes : ByteArray} {rt : Option FieldType} {As rest : List Value} (hM : jMl l0 y wy ry D tys As ws wf post mc ms) (n : Nat) (hG : GoodIn Ts (va_wsS own index y wy)) (hwy : wy = Cond.code y bytes maxL rt :: wy') (hrc : ry.cells = mc) (hrs : ry.slots = ms) (hR : ry.frames + 1 ≤ rm.frames ∧ 8 + (maxL + 11) + ry.locals ≤ rm.locals) (hd0 : y.cls ≠ "java/lang/invoke/MethodHandle" ∧ y.cls ≠ "java/lang/invoke/VarHandle" ∧ (parseMethodDescriptor y.desc).map (fun d => d.parameters.length) = some n) (hn : As.length = n) (hst : st = As.reverse ++ rest) (hlo : (rest.map fun v => v.category).sum ≤ 8) (hcc : cs + mc ≤ rm.cells ∧ sl + ms ≤ rm.slots) (hd : decode cc pc = .ok (.invokestatic index, 3)) (kk : ∀ (r : Int64) (u : S), post r u → J Γ D nL (cs + mc) (sl + ms) (wf u) (pc + 3) lv (.long r :: rest)) : J Γ D nL cs sl ws pc lv st := by
  obtain ⟨p, l, e, R, s, m, args, below, meth, c, A, Q⟩ := Γ
  obtain ⟨rfl, rfl, hx, hb, hml, hown, hts, hK, hA, hlk⟩ := hC
  intro H locs ls hP hD hS hl
  subst hst
  have hF := jA_free hD hS hA
  exact va_calll (va_runS ⟨hx, hb, hml, hown, hts⟩ (hM H.size) (va_cwS n hts hG hwy hrc hrs hd0 hR) ⟨jPre_blind, jPre_in hK hP hD⟩ rfl hn hl.1 rfl (lv_room hlo) hd hcc) hS (fun q _ h => hF q h) hF (fun r u t H1 locs ht hvm hw hB hz1 hk1 hS => kk r u hw H1 locs ls (ht ▸ hB.1) (hB.2.weaken (fun _ q _ h => hF _ h)) hS hl)
theorem j_callSN_l (hC : jC Γ l0 rm D nL own cc Ts tys) {S : Type} {wf : S → va_W} {post : Int64 → S → Prop} {y : MethodName} {wy wy' : List Cond} {ry : Room} {mc ms maxL index : Nat} {bytes : ByteArray} {rt : Option FieldType} {As rest : List Value} (hM : jMl l0 y wy ry D tys As ws wf post mc ms) {host : String} (n : Nat) (hG : GoodIn Ts wy) (hwy : wy = Cond.code y bytes maxL rt :: wy') (hrc : ry.cells = mc) (hrs : ry.slots = ms) (hR : ry.frames + 1 ≤ rm.frames ∧ 8 + (maxL + 11) + ry.locals ≤ rm.locals) (hnw : Cond.methodLinkNest own index y host ∈ jNw) (hws1 : Cond.initialized y.cls ∈ Ts) (hws2 : Cond.static y ∈ Ts) (hd0 : y.cls ≠ "java/lang/invoke/MethodHandle" ∧ y.cls ≠ "java/lang/invoke/VarHandle" ∧ (parseMethodDescriptor y.desc).map (fun d => d.parameters.length) = some n) (hn : As.length = n) (hst : st = As.reverse ++ rest) (hlo : (rest.map fun v => v.category).sum ≤ 8) (hcc : cs + mc ≤ rm.cells ∧ sl + ms ≤ rm.slots) (hd : decode cc pc = .ok (.invokestatic index, 3)) (kk : ∀ (r : Int64) (u : S), post r u → J Γ D nL (cs + mc) (sl + ms) (wf u) (pc + 3) lv (.long r :: rest)) : J Γ D nL cs sl ws pc lv st := by
  obtain ⟨p, l, e, R, s, m, args, below, meth, c, A, Q⟩ := Γ
  obtain ⟨rfl, rfl, hx, hb, hml, hown, hts, hK, hA, hlk⟩ := hC
  intro H locs ls hP hD hS hl
  subst hst
  have hF := jA_free hD hS hA
  exact va_calll (va_runSN ⟨hx, hb, hml, hown, hts⟩ (hM H.size) ⟨va_cnB n hts hG hwy hrc hrs (hK.2.1 _ hnw) (hts _ hws1) hd0 hR, hts _ hws2, trivial⟩ ⟨jPre_blind, jPre_in hK hP hD⟩ rfl hn hl.1 rfl (lv_room hlo) hd hcc) hS (fun q _ h => hF q h) hF (fun r u t H1 locs ht hvm hw hB hz1 hk1 hS => kk r u hw H1 locs ls (ht ▸ hB.1) (hB.2.weaken (fun _ q _ h => hF _ h)) hS hl)
theorem j_callVO_l (hC : jC Γ l0 rm D nL own cc Ts tys) {S : Type} {wf : S → va_W} {post : Int64 → S → Prop} {y : MethodName} {wy wy' : List Cond} {ry : Room} {mc ms maxL index : Nat} {bytes : ByteArray} {rt : Option FieldType} {As rest : List Value} {b q0 ci : Nat} {fs : List Value} (hM : jMl l0 y wy ry D tys (.ref b :: As) ws wf post mc ms) {C owner : String} {T : u_T} {N : Nat} {x : MethodName} {b0 : ByteArray} {m0 : Nat} {r0 : Option FieldType} (n : Nat) (hG : GoodIn Ts (va_wsO own index C owner x y wy)) (hwy : wy = Cond.code y bytes maxL rt :: wy') (hrc : ry.cells = mc) (hrs : ry.slots = ms) (hR : ry.frames + 1 ≤ rm.frames ∧ 8 + (maxL + 11) + ry.locals ≤ rm.locals) (h0 : Cond.code ⟨owner, x.name, x.desc⟩ b0 m0 r0 ∈ Ts) (hd0 : owner ≠ "java/lang/invoke/MethodHandle" ∧ owner ≠ "java/lang/invoke/VarHandle" ∧ (parseMethodDescriptor x.desc).map (fun d => d.parameters.length) = some n) (hn : As.length = n) (he : ws[q0]? = some (b, .inr (ci, fs))) (hc : vwCl[ci]? = some (C, T, N)) (hst : st = As.reverse ++ .ref b :: rest) (hlo : (rest.map fun v => v.category).sum ≤ 8) (hcc : cs + mc ≤ rm.cells ∧ sl + ms ≤ rm.slots) (hd : decode cc pc = .ok (.invokevirtual index, 3)) (kk : ∀ (r : Int64) (u : S), post r u → J Γ D nL (cs + mc) (sl + ms) (wf u) (pc + 3) lv (.long r :: rest)) : J Γ D nL cs sl ws pc lv st := by
  obtain ⟨p, l, e, R, s, m, args, below, meth, c, A, Q⟩ := Γ
  obtain ⟨rfl, rfl, hx, hb, hml, hown, hts, hK, hA, hlk⟩ := hC
  intro H locs ls hP hD hS hl
  subst hst
  have hF := jA_free hD hS hA
  exact va_calll (va_runU ⟨hx, hb, hml, hown, hts⟩ (hM H.size) (va_cwO n hts hG hwy hrc hrs h0 hd0 hR) ⟨jPre_blind, va_recv hK.1 hP hc he, jPre_in hK hP hD⟩ rfl hn hl.1 rfl (lv_room hlo) hd hcc) hS (fun q _ h => hF q h) hF (fun r u t H1 locs ht hvm hw hB hz1 hk1 hS => kk r u hw H1 locs ls (ht ▸ hB.1) (hB.2.weaken (fun _ q _ h => hF _ h)) hS hl)
theorem j_callSU_l (hC : jC Γ l0 rm D nL own cc Ts tys) {S : Type} {wf : S → va_W} {post : Int64 → S → Prop} {y : MethodName} {wy wy' : List Cond} {ry : Room} {mc ms maxL index : Nat} {bytes : ByteArray} {rt : Option FieldType} {As rest : List Value} {b q0 ci : Nat} {fs : List Value} (hM : jMl l0 y wy ry D tys (.ref b :: As) ws wf post mc ms) {C : String} {T : u_T} {N : Nat} (n : Nat) (hG : GoodIn Ts (va_wsSU own index y wy)) (hwy : wy = Cond.code y bytes maxL rt :: wy') (hrc : ry.cells = mc) (hrs : ry.slots = ms) (hR : ry.frames + 1 ≤ rm.frames ∧ 8 + (maxL + 11) + ry.locals ≤ rm.locals) (hd0 : y.name ≠ "<init>" ∧ (parseMethodDescriptor y.desc).map (fun d => d.parameters.length) = some n) (hn : As.length = n) (he : ws[q0]? = some (b, .inr (ci, fs))) (hc : vwCl[ci]? = some (C, T, N)) (hst : st = As.reverse ++ .ref b :: rest) (hlo : (rest.map fun v => v.category).sum ≤ 8) (hcc : cs + mc ≤ rm.cells ∧ sl + ms ≤ rm.slots) (hd : decode cc pc = .ok (.invokespecial index, 3)) (kk : ∀ (r : Int64) (u : S), post r u → J Γ D nL (cs + mc) (sl + ms) (wf u) (pc + 3) lv (.long r :: rest)) : J Γ D nL cs sl ws pc lv st := by
  obtain ⟨p, l, e, R, s, m, args, below, meth, c, A, Q⟩ := Γ
  obtain ⟨rfl, rfl, hx, hb, hml, hown, hts, hK, hA, hlk⟩ := hC
  intro H locs ls hP hD hS hl
  subst hst
  have hF := jA_free hD hS hA
  exact va_calll (va_runSU (hK.1.1 ci _ hc).2 ⟨hx, hb, hml, hown, hts⟩ (hM H.size) (va_cwSU n hts hG hwy hrc hrs hd0 hR) ⟨jPre_blind, va_recv hK.1 hP hc he, jPre_in hK hP hD⟩ rfl hn hl.1 rfl (lv_room hlo) hd hcc) hS (fun q _ h => hF q h) hF (fun r u t H1 locs ht hvm hw hB hz1 hk1 hS => kk r u hw H1 locs ls (ht ▸ hB.1) (hB.2.weaken (fun _ q _ h => hF _ h)) hS hl)
theorem j_callV_v (hC : jC Γ l0 rm D nL own cc Ts tys) {S : Type} {wf : S → va_W} {post : S → Prop} {y : MethodName} {wy wy' : List Cond} {ry : Room} {mc ms maxL index : Nat} {bytes : ByteArray} {rt : Option FieldType} {As rest : List Value} {b q0 ci : Nat} {fs : List Value} (hM : jMv l0 y wy ry D tys (.ref b :: As) ws wf post mc ms) {C : String} {T : u_T} {N : Nat} (n : Nat) (hG : GoodIn Ts (wsV own index C y wy)) (hwy : wy = Cond.code y bytes maxL rt :: wy') (hrc : ry.cells = mc) (hrs : ry.slots = ms) (hR : ry.frames + 1 ≤ rm.frames ∧ 8 + (maxL + 11) + ry.locals ≤ rm.locals) (hd0 : y.cls = C ∧ y.cls ≠ "java/lang/invoke/MethodHandle" ∧ y.cls ≠ "java/lang/invoke/VarHandle" ∧ (parseMethodDescriptor y.desc).map (fun d => d.parameters.length) = some n) (hn : As.length = n) (he : ws[q0]? = some (b, .inr (ci, fs))) (hc : vwCl[ci]? = some (C, T, N)) (hst : st = As.reverse ++ .ref b :: rest) (hlo : (rest.map fun v => v.category).sum ≤ 8) (hcc : cs + mc ≤ rm.cells ∧ sl + ms ≤ rm.slots) (hd : decode cc pc = .ok (.invokevirtual index, 3)) (kk : ∀ (u : S), post u → J Γ D nL (cs + mc) (sl + ms) (wf u) (pc + 3) lv (rest)) : J Γ D nL cs sl ws pc lv st := by
  obtain ⟨p, l, e, R, s, m, args, below, meth, c, A, Q⟩ := Γ
  obtain ⟨rfl, rfl, hx, hb, hml, hown, hts, hK, hA, hlk⟩ := hC
  intro H locs ls hP hD hS hl
  subst hst
  have hF := jA_free hD hS hA
  exact va_callv (va_runV ⟨hx, hb, hml, hown, hts⟩ (hM H.size) (cwV n hts hG hwy hrc hrs hd0 hR) ⟨jPre_blind, va_recv hK.1 hP hc he, jPre_in hK hP hD⟩ rfl hn hl.1 rfl (lv_room hlo) hd hcc) hS (fun q _ h => hF q h) hF (fun u t H1 locs ht hvm hw hB hz1 hk1 hS => kk u hw H1 locs ls (ht ▸ hB.1) (hB.2.weaken (fun _ q _ h => hF _ h)) hS hl)
theorem j_callS_v (hC : jC Γ l0 rm D nL own cc Ts tys) {S : Type} {wf : S → va_W} {post : S → Prop} {y : MethodName} {wy wy' : List Cond} {ry : Room} {mc ms maxL index : Nat} {bytes : ByteArray} {rt : Option FieldType} {As rest : List Value} (hM : jMv l0 y wy ry D tys As ws wf post mc ms) (n : Nat) (hG : GoodIn Ts (va_wsS own index y wy)) (hwy : wy = Cond.code y bytes maxL rt :: wy') (hrc : ry.cells = mc) (hrs : ry.slots = ms) (hR : ry.frames + 1 ≤ rm.frames ∧ 8 + (maxL + 11) + ry.locals ≤ rm.locals) (hd0 : y.cls ≠ "java/lang/invoke/MethodHandle" ∧ y.cls ≠ "java/lang/invoke/VarHandle" ∧ (parseMethodDescriptor y.desc).map (fun d => d.parameters.length) = some n) (hn : As.length = n) (hst : st = As.reverse ++ rest) (hlo : (rest.map fun v => v.category).sum ≤ 8) (hcc : cs + mc ≤ rm.cells ∧ sl + ms ≤ rm.slots) (hd : decode cc pc = .ok (.invokestatic index, 3)) (kk : ∀ (u : S), post u → J Γ D nL (cs + mc) (sl + ms) (wf u) (pc + 3) lv (rest)) : J Γ D nL cs sl ws pc lv st := by
  obtain ⟨p, l, e, R, s, m, args, below, meth, c, A, Q⟩ := Γ
  obtain ⟨rfl, rfl, hx, hb, hml, hown, hts, hK, hA, hlk⟩ := hC
  intro H locs ls hP hD hS hl
  subst hst
  have hF := jA_free hD hS hA
  exact va_callv (va_runS ⟨hx, hb, hml, hown, hts⟩ (hM H.size) (va_cwS n hts hG hwy hrc hrs hd0 hR) ⟨jPre_blind, jPre_in hK hP hD⟩ rfl hn hl.1 rfl (lv_room hlo) hd hcc) hS (fun q _ h => hF q h) hF (fun u t H1 locs ht hvm hw hB hz1 hk1 hS => kk u hw H1 locs ls (ht ▸ hB.1) (hB.2.weaken (fun _ q _ h => hF _ h)) hS hl)
theorem j_callSN_v (hC : jC Γ l0 rm D nL own cc Ts tys) {S : Type} {wf : S → va_W} {post : S → Prop} {y : MethodName} {wy wy' : List Cond} {ry : Room} {mc ms maxL index : Nat} {bytes : ByteArray} {rt : Option FieldType} {As rest : List Value} (hM : jMv l0 y wy ry D tys As ws wf post mc ms) {host : String} (n : Nat) (hG : GoodIn Ts wy) (hwy : wy = Cond.code y bytes maxL rt :: wy') (hrc : ry.cells = mc) (hrs : ry.slots = ms) (hR : ry.frames + 1 ≤ rm.frames ∧ 8 + (maxL + 11) + ry.locals ≤ rm.locals) (hnw : Cond.methodLinkNest own index y host ∈ jNw) (hws1 : Cond.initialized y.cls ∈ Ts) (hws2 : Cond.static y ∈ Ts) (hd0 : y.cls ≠ "java/lang/invoke/MethodHandle" ∧ y.cls ≠ "java/lang/invoke/VarHandle" ∧ (parseMethodDescriptor y.desc).map (fun d => d.parameters.length) = some n) (hn : As.length = n) (hst : st = As.reverse ++ rest) (hlo : (rest.map fun v => v.category).sum ≤ 8) (hcc : cs + mc ≤ rm.cells ∧ sl + ms ≤ rm.slots) (hd : decode cc pc = .ok (.invokestatic index, 3)) (kk : ∀ (u : S), post u → J Γ D nL (cs + mc) (sl + ms) (wf u) (pc + 3) lv (rest)) : J Γ D nL cs sl ws pc lv st := by
  obtain ⟨p, l, e, R, s, m, args, below, meth, c, A, Q⟩ := Γ
  obtain ⟨rfl, rfl, hx, hb, hml, hown, hts, hK, hA, hlk⟩ := hC
  intro H locs ls hP hD hS hl
  subst hst
  have hF := jA_free hD hS hA
  exact va_callv (va_runSN ⟨hx, hb, hml, hown, hts⟩ (hM H.size) ⟨va_cnB n hts hG hwy hrc hrs (hK.2.1 _ hnw) (hts _ hws1) hd0 hR, hts _ hws2, trivial⟩ ⟨jPre_blind, jPre_in hK hP hD⟩ rfl hn hl.1 rfl (lv_room hlo) hd hcc) hS (fun q _ h => hF q h) hF (fun u t H1 locs ht hvm hw hB hz1 hk1 hS => kk u hw H1 locs ls (ht ▸ hB.1) (hB.2.weaken (fun _ q _ h => hF _ h)) hS hl)
theorem j_callVO_v (hC : jC Γ l0 rm D nL own cc Ts tys) {S : Type} {wf : S → va_W} {post : S → Prop} {y : MethodName} {wy wy' : List Cond} {ry : Room} {mc ms maxL index : Nat} {bytes : ByteArray} {rt : Option FieldType} {As rest : List Value} {b q0 ci : Nat} {fs : List Value} (hM : jMv l0 y wy ry D tys (.ref b :: As) ws wf post mc ms) {C owner : String} {T : u_T} {N : Nat} {x : MethodName} {b0 : ByteArray} {m0 : Nat} {r0 : Option FieldType} (n : Nat) (hG : GoodIn Ts (va_wsO own index C owner x y wy)) (hwy : wy = Cond.code y bytes maxL rt :: wy') (hrc : ry.cells = mc) (hrs : ry.slots = ms) (hR : ry.frames + 1 ≤ rm.frames ∧ 8 + (maxL + 11) + ry.locals ≤ rm.locals) (h0 : Cond.code ⟨owner, x.name, x.desc⟩ b0 m0 r0 ∈ Ts) (hd0 : owner ≠ "java/lang/invoke/MethodHandle" ∧ owner ≠ "java/lang/invoke/VarHandle" ∧ (parseMethodDescriptor x.desc).map (fun d => d.parameters.length) = some n) (hn : As.length = n) (he : ws[q0]? = some (b, .inr (ci, fs))) (hc : vwCl[ci]? = some (C, T, N)) (hst : st = As.reverse ++ .ref b :: rest) (hlo : (rest.map fun v => v.category).sum ≤ 8) (hcc : cs + mc ≤ rm.cells ∧ sl + ms ≤ rm.slots) (hd : decode cc pc = .ok (.invokevirtual index, 3)) (kk : ∀ (u : S), post u → J Γ D nL (cs + mc) (sl + ms) (wf u) (pc + 3) lv (rest)) : J Γ D nL cs sl ws pc lv st := by
  obtain ⟨p, l, e, R, s, m, args, below, meth, c, A, Q⟩ := Γ
  obtain ⟨rfl, rfl, hx, hb, hml, hown, hts, hK, hA, hlk⟩ := hC
  intro H locs ls hP hD hS hl
  subst hst
  have hF := jA_free hD hS hA
  exact va_callv (va_runU ⟨hx, hb, hml, hown, hts⟩ (hM H.size) (va_cwO n hts hG hwy hrc hrs h0 hd0 hR) ⟨jPre_blind, va_recv hK.1 hP hc he, jPre_in hK hP hD⟩ rfl hn hl.1 rfl (lv_room hlo) hd hcc) hS (fun q _ h => hF q h) hF (fun u t H1 locs ht hvm hw hB hz1 hk1 hS => kk u hw H1 locs ls (ht ▸ hB.1) (hB.2.weaken (fun _ q _ h => hF _ h)) hS hl)
theorem j_callSU_v (hC : jC Γ l0 rm D nL own cc Ts tys) {S : Type} {wf : S → va_W} {post : S → Prop} {y : MethodName} {wy wy' : List Cond} {ry : Room} {mc ms maxL index : Nat} {bytes : ByteArray} {rt : Option FieldType} {As rest : List Value} {b q0 ci : Nat} {fs : List Value} (hM : jMv l0 y wy ry D tys (.ref b :: As) ws wf post mc ms) {C : String} {T : u_T} {N : Nat} (n : Nat) (hG : GoodIn Ts (va_wsSU own index y wy)) (hwy : wy = Cond.code y bytes maxL rt :: wy') (hrc : ry.cells = mc) (hrs : ry.slots = ms) (hR : ry.frames + 1 ≤ rm.frames ∧ 8 + (maxL + 11) + ry.locals ≤ rm.locals) (hd0 : y.name ≠ "<init>" ∧ (parseMethodDescriptor y.desc).map (fun d => d.parameters.length) = some n) (hn : As.length = n) (he : ws[q0]? = some (b, .inr (ci, fs))) (hc : vwCl[ci]? = some (C, T, N)) (hst : st = As.reverse ++ .ref b :: rest) (hlo : (rest.map fun v => v.category).sum ≤ 8) (hcc : cs + mc ≤ rm.cells ∧ sl + ms ≤ rm.slots) (hd : decode cc pc = .ok (.invokespecial index, 3)) (kk : ∀ (u : S), post u → J Γ D nL (cs + mc) (sl + ms) (wf u) (pc + 3) lv (rest)) : J Γ D nL cs sl ws pc lv st := by
  obtain ⟨p, l, e, R, s, m, args, below, meth, c, A, Q⟩ := Γ
  obtain ⟨rfl, rfl, hx, hb, hml, hown, hts, hK, hA, hlk⟩ := hC
  intro H locs ls hP hD hS hl
  subst hst
  have hF := jA_free hD hS hA
  exact va_callv (va_runSU (hK.1.1 ci _ hc).2 ⟨hx, hb, hml, hown, hts⟩ (hM H.size) (va_cwSU n hts hG hwy hrc hrs hd0 hR) ⟨jPre_blind, va_recv hK.1 hP hc he, jPre_in hK hP hD⟩ rfl hn hl.1 rfl (lv_room hlo) hd hcc) hS (fun q _ h => hF q h) hF (fun u t H1 locs ht hvm hw hB hz1 hk1 hS => kk u hw H1 locs ls (ht ▸ hB.1) (hB.2.weaken (fun _ q _ h => hF _ h)) hS hl)
theorem j_callI_v (hC : jC Γ l0 rm D nL own cc Ts tys) {S : Type} {wf : S → va_W} {post : S → Prop} {y : MethodName} {wy wy' : List Cond} {ry : Room} {mc ms maxL index : Nat} {bytes : ByteArray} {As rest : List Value} {b : Nat} (hM : jMv l0 y wy ry D tys (.ref b :: As) ws wf post mc ms) (n : Nat) (hG : GoodIn Ts wy) (hwy : wy = Cond.code y bytes maxL none :: wy') (hrc : ry.cells = mc) (hrs : ry.slots = ms) (hR : ry.frames + 1 ≤ rm.frames ∧ 8 + (maxL + 11) + ry.locals ≤ rm.locals) (hws1 : Cond.initialized y.cls ∈ Ts) (hws2 : Cond.methodLink own index y ∈ Ts) (hws3 : Cond.instanceMethod y ∈ Ts) (hnm : y.name = "<init>") (hd0 : y.cls ≠ "java/lang/invoke/MethodHandle" ∧ y.cls ≠ "java/lang/invoke/VarHandle" ∧ (parseMethodDescriptor y.desc).map (fun d => d.parameters.length) = some n) (hn : As.length = n) (hst : st = As.reverse ++ .ref b :: rest) (hlo : (rest.map fun v => v.category).sum ≤ 8) (hcc : cs + mc ≤ rm.cells ∧ sl + ms ≤ rm.slots) (hd : decode cc pc = .ok (.invokespecial index, 3)) (kk : ∀ (u : S), post u → J Γ D nL (cs + mc) (sl + ms) (wf u) (pc + 3) lv (rest)) : J Γ D nL cs sl ws pc lv st := by
  obtain ⟨p, l, e, R, s, m, args, below, meth, c, A, Q⟩ := Γ
  obtain ⟨rfl, rfl, hx, hb, hml, hown, hts, hK, hA, hlk⟩ := hC
  intro H locs ls hP hD hS hl
  subst hst
  have hF := jA_free hD hS hA
  exact va_callv (va_runI ⟨hx, hb, hml, hown, hts⟩ (hM H.size) (cwI n hts hG hwy hrc hrs (hts _ hws1) (hts _ hws2) (hts _ hws3) hnm hd0 hR) ⟨jPre_blind, jPre_in hK hP hD⟩ rfl hn hl.1 rfl (lv_room hlo) hd hcc) hS (fun q _ h => hF q h) hF (fun u t H1 locs ht hvm hw hB hz1 hk1 hS => kk u hw H1 locs ls (ht ▸ hB.1) (hB.2.weaken (fun _ q _ h => hF _ h)) hS hl)
theorem j_callIN_v (hC : jC Γ l0 rm D nL own cc Ts tys) {S : Type} {wf : S → va_W} {post : S → Prop} {y : MethodName} {wy wy' : List Cond} {ry : Room} {mc ms maxL index : Nat} {bytes : ByteArray} {As rest : List Value} {b : Nat} (hM : jMv l0 y wy ry D tys (.ref b :: As) ws wf post mc ms) {host : String} (n : Nat) (hG : GoodIn Ts wy) (hwy : wy = Cond.code y bytes maxL none :: wy') (hrc : ry.cells = mc) (hrs : ry.slots = ms) (hR : ry.frames + 1 ≤ rm.frames ∧ 8 + (maxL + 11) + ry.locals ≤ rm.locals) (hnw : Cond.methodLinkNest own index y host ∈ jNw) (hws1 : Cond.initialized y.cls ∈ Ts) (hws3 : Cond.instanceMethod y ∈ Ts) (hnm : y.name = "<init>") (hd0 : y.cls ≠ "java/lang/invoke/MethodHandle" ∧ y.cls ≠ "java/lang/invoke/VarHandle" ∧ (parseMethodDescriptor y.desc).map (fun d => d.parameters.length) = some n) (hn : As.length = n) (hst : st = As.reverse ++ .ref b :: rest) (hlo : (rest.map fun v => v.category).sum ≤ 8) (hcc : cs + mc ≤ rm.cells ∧ sl + ms ≤ rm.slots) (hd : decode cc pc = .ok (.invokespecial index, 3)) (kk : ∀ (u : S), post u → J Γ D nL (cs + mc) (sl + ms) (wf u) (pc + 3) lv (rest)) : J Γ D nL cs sl ws pc lv st := by
  obtain ⟨p, l, e, R, s, m, args, below, meth, c, A, Q⟩ := Γ
  obtain ⟨rfl, rfl, hx, hb, hml, hown, hts, hK, hA, hlk⟩ := hC
  intro H locs ls hP hD hS hl
  subst hst
  have hF := jA_free hD hS hA
  exact va_callv (va_runIN ⟨hx, hb, hml, hown, hts⟩ (hM H.size) ⟨va_cnB n hts hG hwy hrc hrs (hK.2.1 _ hnw) (hts _ hws1) hd0 hR, hnm, hts _ hws3⟩ ⟨jPre_blind, jPre_in hK hP hD⟩ rfl hn hl.1 rfl (lv_room hlo) hd hcc) hS (fun q _ h => hF q h) hF (fun u t H1 locs ht hvm hw hB hz1 hk1 hS => kk u hw H1 locs ls (ht ▸ hB.1) (hB.2.weaken (fun _ q _ h => hF _ h)) hS hl)
theorem j_callV_q (hC : jC Γ l0 rm D nL own cc Ts tys) {S : Type} {wf : S → va_W} {post : Option Nat → S → Prop} {y : MethodName} {wy wy' : List Cond} {ry : Room} {mc ms maxL index : Nat} {bytes : ByteArray} {rt : Option FieldType} {As rest : List Value} {b q0 ci : Nat} {fs : List Value} (hM : jMq l0 y wy ry D tys (.ref b :: As) ws wf post mc ms) {C : String} {T : u_T} {N : Nat} (n : Nat) (hG : GoodIn Ts (wsV own index C y wy)) (hwy : wy = Cond.code y bytes maxL rt :: wy') (hrc : ry.cells = mc) (hrs : ry.slots = ms) (hR : ry.frames + 1 ≤ rm.frames ∧ 8 + (maxL + 11) + ry.locals ≤ rm.locals) (hd0 : y.cls = C ∧ y.cls ≠ "java/lang/invoke/MethodHandle" ∧ y.cls ≠ "java/lang/invoke/VarHandle" ∧ (parseMethodDescriptor y.desc).map (fun d => d.parameters.length) = some n) (hn : As.length = n) (he : ws[q0]? = some (b, .inr (ci, fs))) (hc : vwCl[ci]? = some (C, T, N)) (hst : st = As.reverse ++ .ref b :: rest) (hlo : (rest.map fun v => v.category).sum ≤ 8) (hcc : cs + mc ≤ rm.cells ∧ sl + ms ≤ rm.slots) (hd : decode cc pc = .ok (.invokevirtual index, 3)) (kk : ∀ (r : Option Nat) (u : S), post r u → J Γ D nL (cs + mc) (sl + ms) (wf u) (pc + 3) lv (va_rf r :: rest)) : J Γ D nL cs sl ws pc lv st := by
  obtain ⟨p, l, e, R, s, m, args, below, meth, c, A, Q⟩ := Γ
  obtain ⟨rfl, rfl, hx, hb, hml, hown, hts, hK, hA, hlk⟩ := hC
  intro H locs ls hP hD hS hl
  subst hst
  have hF := jA_free hD hS hA
  exact va_callq (va_runV ⟨hx, hb, hml, hown, hts⟩ (hM H.size) (cwV n hts hG hwy hrc hrs hd0 hR) ⟨jPre_blind, va_recv hK.1 hP hc he, jPre_in hK hP hD⟩ rfl hn hl.1 rfl (lv_room hlo) hd hcc) hS (fun q _ h => hF q h) hF (fun r u t H1 locs ht hvm hw hB hz1 hk1 hS => kk r u hw H1 locs ls (ht ▸ hB.1) (hB.2.weaken (fun _ q _ h => hF _ h)) hS hl)
theorem j_callS_q (hC : jC Γ l0 rm D nL own cc Ts tys) {S : Type} {wf : S → va_W} {post : Option Nat → S → Prop} {y : MethodName} {wy wy' : List Cond} {ry : Room} {mc ms maxL index : Nat} {bytes : ByteArray} {rt : Option FieldType} {As rest : List Value} (hM : jMq l0 y wy ry D tys As ws wf post mc ms) (n : Nat) (hG : GoodIn Ts (va_wsS own index y wy)) (hwy : wy = Cond.code y bytes maxL rt :: wy') (hrc : ry.cells = mc) (hrs : ry.slots = ms) (hR : ry.frames + 1 ≤ rm.frames ∧ 8 + (maxL + 11) + ry.locals ≤ rm.locals) (hd0 : y.cls ≠ "java/lang/invoke/MethodHandle" ∧ y.cls ≠ "java/lang/invoke/VarHandle" ∧ (parseMethodDescriptor y.desc).map (fun d => d.parameters.length) = some n) (hn : As.length = n) (hst : st = As.reverse ++ rest) (hlo : (rest.map fun v => v.category).sum ≤ 8) (hcc : cs + mc ≤ rm.cells ∧ sl + ms ≤ rm.slots) (hd : decode cc pc = .ok (.invokestatic index, 3)) (kk : ∀ (r : Option Nat) (u : S), post r u → J Γ D nL (cs + mc) (sl + ms) (wf u) (pc + 3) lv (va_rf r :: rest)) : J Γ D nL cs sl ws pc lv st := by
  obtain ⟨p, l, e, R, s, m, args, below, meth, c, A, Q⟩ := Γ
  obtain ⟨rfl, rfl, hx, hb, hml, hown, hts, hK, hA, hlk⟩ := hC
  intro H locs ls hP hD hS hl
  subst hst
  have hF := jA_free hD hS hA
  exact va_callq (va_runS ⟨hx, hb, hml, hown, hts⟩ (hM H.size) (va_cwS n hts hG hwy hrc hrs hd0 hR) ⟨jPre_blind, jPre_in hK hP hD⟩ rfl hn hl.1 rfl (lv_room hlo) hd hcc) hS (fun q _ h => hF q h) hF (fun r u t H1 locs ht hvm hw hB hz1 hk1 hS => kk r u hw H1 locs ls (ht ▸ hB.1) (hB.2.weaken (fun _ q _ h => hF _ h)) hS hl)
theorem j_callSN_q (hC : jC Γ l0 rm D nL own cc Ts tys) {S : Type} {wf : S → va_W} {post : Option Nat → S → Prop} {y : MethodName} {wy wy' : List Cond} {ry : Room} {mc ms maxL index : Nat} {bytes : ByteArray} {rt : Option FieldType} {As rest : List Value} (hM : jMq l0 y wy ry D tys As ws wf post mc ms) {host : String} (n : Nat) (hG : GoodIn Ts wy) (hwy : wy = Cond.code y bytes maxL rt :: wy') (hrc : ry.cells = mc) (hrs : ry.slots = ms) (hR : ry.frames + 1 ≤ rm.frames ∧ 8 + (maxL + 11) + ry.locals ≤ rm.locals) (hnw : Cond.methodLinkNest own index y host ∈ jNw) (hws1 : Cond.initialized y.cls ∈ Ts) (hws2 : Cond.static y ∈ Ts) (hd0 : y.cls ≠ "java/lang/invoke/MethodHandle" ∧ y.cls ≠ "java/lang/invoke/VarHandle" ∧ (parseMethodDescriptor y.desc).map (fun d => d.parameters.length) = some n) (hn : As.length = n) (hst : st = As.reverse ++ rest) (hlo : (rest.map fun v => v.category).sum ≤ 8) (hcc : cs + mc ≤ rm.cells ∧ sl + ms ≤ rm.slots) (hd : decode cc pc = .ok (.invokestatic index, 3)) (kk : ∀ (r : Option Nat) (u : S), post r u → J Γ D nL (cs + mc) (sl + ms) (wf u) (pc + 3) lv (va_rf r :: rest)) : J Γ D nL cs sl ws pc lv st := by
  obtain ⟨p, l, e, R, s, m, args, below, meth, c, A, Q⟩ := Γ
  obtain ⟨rfl, rfl, hx, hb, hml, hown, hts, hK, hA, hlk⟩ := hC
  intro H locs ls hP hD hS hl
  subst hst
  have hF := jA_free hD hS hA
  exact va_callq (va_runSN ⟨hx, hb, hml, hown, hts⟩ (hM H.size) ⟨va_cnB n hts hG hwy hrc hrs (hK.2.1 _ hnw) (hts _ hws1) hd0 hR, hts _ hws2, trivial⟩ ⟨jPre_blind, jPre_in hK hP hD⟩ rfl hn hl.1 rfl (lv_room hlo) hd hcc) hS (fun q _ h => hF q h) hF (fun r u t H1 locs ht hvm hw hB hz1 hk1 hS => kk r u hw H1 locs ls (ht ▸ hB.1) (hB.2.weaken (fun _ q _ h => hF _ h)) hS hl)
theorem j_callVO_q (hC : jC Γ l0 rm D nL own cc Ts tys) {S : Type} {wf : S → va_W} {post : Option Nat → S → Prop} {y : MethodName} {wy wy' : List Cond} {ry : Room} {mc ms maxL index : Nat} {bytes : ByteArray} {rt : Option FieldType} {As rest : List Value} {b q0 ci : Nat} {fs : List Value} (hM : jMq l0 y wy ry D tys (.ref b :: As) ws wf post mc ms) {C owner : String} {T : u_T} {N : Nat} {x : MethodName} {b0 : ByteArray} {m0 : Nat} {r0 : Option FieldType} (n : Nat) (hG : GoodIn Ts (va_wsO own index C owner x y wy)) (hwy : wy = Cond.code y bytes maxL rt :: wy') (hrc : ry.cells = mc) (hrs : ry.slots = ms) (hR : ry.frames + 1 ≤ rm.frames ∧ 8 + (maxL + 11) + ry.locals ≤ rm.locals) (h0 : Cond.code ⟨owner, x.name, x.desc⟩ b0 m0 r0 ∈ Ts) (hd0 : owner ≠ "java/lang/invoke/MethodHandle" ∧ owner ≠ "java/lang/invoke/VarHandle" ∧ (parseMethodDescriptor x.desc).map (fun d => d.parameters.length) = some n) (hn : As.length = n) (he : ws[q0]? = some (b, .inr (ci, fs))) (hc : vwCl[ci]? = some (C, T, N)) (hst : st = As.reverse ++ .ref b :: rest) (hlo : (rest.map fun v => v.category).sum ≤ 8) (hcc : cs + mc ≤ rm.cells ∧ sl + ms ≤ rm.slots) (hd : decode cc pc = .ok (.invokevirtual index, 3)) (kk : ∀ (r : Option Nat) (u : S), post r u → J Γ D nL (cs + mc) (sl + ms) (wf u) (pc + 3) lv (va_rf r :: rest)) : J Γ D nL cs sl ws pc lv st := by
  obtain ⟨p, l, e, R, s, m, args, below, meth, c, A, Q⟩ := Γ
  obtain ⟨rfl, rfl, hx, hb, hml, hown, hts, hK, hA, hlk⟩ := hC
  intro H locs ls hP hD hS hl
  subst hst
  have hF := jA_free hD hS hA
  exact va_callq (va_runU ⟨hx, hb, hml, hown, hts⟩ (hM H.size) (va_cwO n hts hG hwy hrc hrs h0 hd0 hR) ⟨jPre_blind, va_recv hK.1 hP hc he, jPre_in hK hP hD⟩ rfl hn hl.1 rfl (lv_room hlo) hd hcc) hS (fun q _ h => hF q h) hF (fun r u t H1 locs ht hvm hw hB hz1 hk1 hS => kk r u hw H1 locs ls (ht ▸ hB.1) (hB.2.weaken (fun _ q _ h => hF _ h)) hS hl)
theorem j_callSU_q (hC : jC Γ l0 rm D nL own cc Ts tys) {S : Type} {wf : S → va_W} {post : Option Nat → S → Prop} {y : MethodName} {wy wy' : List Cond} {ry : Room} {mc ms maxL index : Nat} {bytes : ByteArray} {rt : Option FieldType} {As rest : List Value} {b q0 ci : Nat} {fs : List Value} (hM : jMq l0 y wy ry D tys (.ref b :: As) ws wf post mc ms) {C : String} {T : u_T} {N : Nat} (n : Nat) (hG : GoodIn Ts (va_wsSU own index y wy)) (hwy : wy = Cond.code y bytes maxL rt :: wy') (hrc : ry.cells = mc) (hrs : ry.slots = ms) (hR : ry.frames + 1 ≤ rm.frames ∧ 8 + (maxL + 11) + ry.locals ≤ rm.locals) (hd0 : y.name ≠ "<init>" ∧ (parseMethodDescriptor y.desc).map (fun d => d.parameters.length) = some n) (hn : As.length = n) (he : ws[q0]? = some (b, .inr (ci, fs))) (hc : vwCl[ci]? = some (C, T, N)) (hst : st = As.reverse ++ .ref b :: rest) (hlo : (rest.map fun v => v.category).sum ≤ 8) (hcc : cs + mc ≤ rm.cells ∧ sl + ms ≤ rm.slots) (hd : decode cc pc = .ok (.invokespecial index, 3)) (kk : ∀ (r : Option Nat) (u : S), post r u → J Γ D nL (cs + mc) (sl + ms) (wf u) (pc + 3) lv (va_rf r :: rest)) : J Γ D nL cs sl ws pc lv st := by
  obtain ⟨p, l, e, R, s, m, args, below, meth, c, A, Q⟩ := Γ
  obtain ⟨rfl, rfl, hx, hb, hml, hown, hts, hK, hA, hlk⟩ := hC
  intro H locs ls hP hD hS hl
  subst hst
  have hF := jA_free hD hS hA
  exact va_callq (va_runSU (hK.1.1 ci _ hc).2 ⟨hx, hb, hml, hown, hts⟩ (hM H.size) (va_cwSU n hts hG hwy hrc hrs hd0 hR) ⟨jPre_blind, va_recv hK.1 hP hc he, jPre_in hK hP hD⟩ rfl hn hl.1 rfl (lv_room hlo) hd hcc) hS (fun q _ h => hF q h) hF (fun r u t H1 locs ht hvm hw hB hz1 hk1 hS => kk r u hw H1 locs ls (ht ▸ hB.1) (hB.2.weaken (fun _ q _ h => hF _ h)) hS hl)
end JR
end
section
theorem dX12_init_0 : decode cX12_init 0 = .ok (.aload_n 0, 1) := by decide +kernel
theorem dX12_init_1 : decode cX12_init 1 = .ok (.invokespecial 1, 3) := by decide +kernel
theorem dX12_init_4 : decode cX12_init 4 = .ok (.aload_n 0, 1) := by decide +kernel
theorem dX12_init_5 : decode cX12_init 5 = .ok (.bipush 8, 2) := by decide +kernel
theorem dX12_init_7 : decode cX12_init 7 = .ok (.newarray .int, 2) := by decide +kernel
theorem dX12_init_9 : decode cX12_init 9 = .ok (.dup, 1) := by decide +kernel
theorem dX12_init_10 : decode cX12_init 10 = .ok (.iconst 0, 1) := by decide +kernel
theorem dX12_init_11 : decode cX12_init 11 = .ok (.iconst 1, 1) := by decide +kernel
theorem dX12_init_12 : decode cX12_init 12 = .ok (.iastore, 1) := by decide +kernel
theorem dX12_init_13 : decode cX12_init 13 = .ok (.dup, 1) := by decide +kernel
theorem dX12_init_14 : decode cX12_init 14 = .ok (.iconst 1, 1) := by decide +kernel
theorem dX12_init_15 : decode cX12_init 15 = .ok (.iconst 1, 1) := by decide +kernel
theorem dX12_init_16 : decode cX12_init 16 = .ok (.iastore, 1) := by decide +kernel
theorem dX12_init_17 : decode cX12_init 17 = .ok (.dup, 1) := by decide +kernel
theorem dX12_init_18 : decode cX12_init 18 = .ok (.iconst 2, 1) := by decide +kernel
theorem dX12_init_19 : decode cX12_init 19 = .ok (.sipush 300, 3) := by decide +kernel
theorem dX12_init_22 : decode cX12_init 22 = .ok (.iastore, 1) := by decide +kernel
theorem dX12_init_23 : decode cX12_init 23 = .ok (.dup, 1) := by decide +kernel
theorem dX12_init_24 : decode cX12_init 24 = .ok (.iconst 3, 1) := by decide +kernel
theorem dX12_init_25 : decode cX12_init 25 = .ok (.sipush 200, 3) := by decide +kernel
theorem dX12_init_28 : decode cX12_init 28 = .ok (.iastore, 1) := by decide +kernel
theorem dX12_init_29 : decode cX12_init 29 = .ok (.dup, 1) := by decide +kernel
theorem dX12_init_30 : decode cX12_init 30 = .ok (.iconst 4, 1) := by decide +kernel
theorem dX12_init_31 : decode cX12_init 31 = .ok (.bipush 50, 2) := by decide +kernel
theorem dX12_init_33 : decode cX12_init 33 = .ok (.iastore, 1) := by decide +kernel
theorem dX12_init_34 : decode cX12_init 34 = .ok (.dup, 1) := by decide +kernel
theorem dX12_init_35 : decode cX12_init 35 = .ok (.iconst 5, 1) := by decide +kernel
theorem dX12_init_36 : decode cX12_init 36 = .ok (.iconst 5, 1) := by decide +kernel
theorem dX12_init_37 : decode cX12_init 37 = .ok (.iastore, 1) := by decide +kernel
theorem dX12_init_38 : decode cX12_init 38 = .ok (.dup, 1) := by decide +kernel
theorem dX12_init_39 : decode cX12_init 39 = .ok (.bipush 6, 2) := by decide +kernel
theorem dX12_init_41 : decode cX12_init 41 = .ok (.bipush 10, 2) := by decide +kernel
theorem dX12_init_43 : decode cX12_init 43 = .ok (.iastore, 1) := by decide +kernel
theorem dX12_init_44 : decode cX12_init 44 = .ok (.dup, 1) := by decide +kernel
theorem dX12_init_45 : decode cX12_init 45 = .ok (.bipush 7, 2) := by decide +kernel
theorem dX12_init_47 : decode cX12_init 47 = .ok (.iconst 3, 1) := by decide +kernel
theorem dX12_init_48 : decode cX12_init 48 = .ok (.iastore, 1) := by decide +kernel
theorem dX12_init_49 : decode cX12_init 49 = .ok (.putfield 7, 3) := by decide +kernel
theorem dX12_init_52 : decode cX12_init 52 = .ok (.aload_n 0, 1) := by decide +kernel
theorem dX12_init_53 : decode cX12_init 53 = .ok (.bipush 8, 2) := by decide +kernel
theorem dX12_init_55 : decode cX12_init 55 = .ok (.newarray .int, 2) := by decide +kernel
theorem dX12_init_57 : decode cX12_init 57 = .ok (.dup, 1) := by decide +kernel
theorem dX12_init_58 : decode cX12_init 58 = .ok (.iconst 0, 1) := by decide +kernel
theorem dX12_init_59 : decode cX12_init 59 = .ok (.bipush 10, 2) := by decide +kernel
theorem dX12_init_61 : decode cX12_init 61 = .ok (.iastore, 1) := by decide +kernel
theorem dX12_init_62 : decode cX12_init 62 = .ok (.dup, 1) := by decide +kernel
theorem dX12_init_63 : decode cX12_init 63 = .ok (.iconst 1, 1) := by decide +kernel
theorem dX12_init_64 : decode cX12_init 64 = .ok (.bipush 10, 2) := by decide +kernel
theorem dX12_init_66 : decode cX12_init 66 = .ok (.iastore, 1) := by decide +kernel
theorem dX12_init_67 : decode cX12_init 67 = .ok (.dup, 1) := by decide +kernel
theorem dX12_init_68 : decode cX12_init 68 = .ok (.iconst 2, 1) := by decide +kernel
theorem dX12_init_69 : decode cX12_init 69 = .ok (.bipush 10, 2) := by decide +kernel
theorem dX12_init_71 : decode cX12_init 71 = .ok (.iastore, 1) := by decide +kernel
theorem dX12_init_72 : decode cX12_init 72 = .ok (.dup, 1) := by decide +kernel
theorem dX12_init_73 : decode cX12_init 73 = .ok (.iconst 3, 1) := by decide +kernel
theorem dX12_init_74 : decode cX12_init 74 = .ok (.bipush 10, 2) := by decide +kernel
theorem dX12_init_76 : decode cX12_init 76 = .ok (.iastore, 1) := by decide +kernel
theorem dX12_init_77 : decode cX12_init 77 = .ok (.dup, 1) := by decide +kernel
theorem dX12_init_78 : decode cX12_init 78 = .ok (.iconst 4, 1) := by decide +kernel
theorem dX12_init_79 : decode cX12_init 79 = .ok (.bipush 10, 2) := by decide +kernel
theorem dX12_init_81 : decode cX12_init 81 = .ok (.iastore, 1) := by decide +kernel
theorem dX12_init_82 : decode cX12_init 82 = .ok (.dup, 1) := by decide +kernel
theorem dX12_init_83 : decode cX12_init 83 = .ok (.iconst 5, 1) := by decide +kernel
theorem dX12_init_84 : decode cX12_init 84 = .ok (.bipush 10, 2) := by decide +kernel
theorem dX12_init_86 : decode cX12_init 86 = .ok (.iastore, 1) := by decide +kernel
theorem dX12_init_87 : decode cX12_init 87 = .ok (.dup, 1) := by decide +kernel
theorem dX12_init_88 : decode cX12_init 88 = .ok (.bipush 6, 2) := by decide +kernel
theorem dX12_init_90 : decode cX12_init 90 = .ok (.bipush 10, 2) := by decide +kernel
theorem dX12_init_92 : decode cX12_init 92 = .ok (.iastore, 1) := by decide +kernel
theorem dX12_init_93 : decode cX12_init 93 = .ok (.dup, 1) := by decide +kernel
theorem dX12_init_94 : decode cX12_init 94 = .ok (.bipush 7, 2) := by decide +kernel
theorem dX12_init_96 : decode cX12_init 96 = .ok (.bipush 10, 2) := by decide +kernel
theorem dX12_init_98 : decode cX12_init 98 = .ok (.iastore, 1) := by decide +kernel
theorem dX12_init_99 : decode cX12_init 99 = .ok (.putfield 13, 3) := by decide +kernel
theorem dX12_init_102 : decode cX12_init 102 = .ok (.aload_n 0, 1) := by decide +kernel
theorem dX12_init_103 : decode cX12_init 103 = .ok (.bipush 8, 2) := by decide +kernel
theorem dX12_init_105 : decode cX12_init 105 = .ok (.newarray .int, 2) := by decide +kernel
theorem dX12_init_107 : decode cX12_init 107 = .ok (.dup, 1) := by decide +kernel
theorem dX12_init_108 : decode cX12_init 108 = .ok (.iconst 0, 1) := by decide +kernel
theorem dX12_init_109 : decode cX12_init 109 = .ok (.iconst (-1), 1) := by decide +kernel
theorem dX12_init_110 : decode cX12_init 110 = .ok (.iastore, 1) := by decide +kernel
theorem dX12_init_111 : decode cX12_init 111 = .ok (.dup, 1) := by decide +kernel
theorem dX12_init_112 : decode cX12_init 112 = .ok (.iconst 1, 1) := by decide +kernel
theorem dX12_init_113 : decode cX12_init 113 = .ok (.iconst (-1), 1) := by decide +kernel
theorem dX12_init_114 : decode cX12_init 114 = .ok (.iastore, 1) := by decide +kernel
theorem dX12_init_115 : decode cX12_init 115 = .ok (.dup, 1) := by decide +kernel
theorem dX12_init_116 : decode cX12_init 116 = .ok (.iconst 2, 1) := by decide +kernel
theorem dX12_init_117 : decode cX12_init 117 = .ok (.iconst (-1), 1) := by decide +kernel
theorem dX12_init_118 : decode cX12_init 118 = .ok (.iastore, 1) := by decide +kernel
theorem dX12_init_119 : decode cX12_init 119 = .ok (.dup, 1) := by decide +kernel
theorem dX12_init_120 : decode cX12_init 120 = .ok (.iconst 3, 1) := by decide +kernel
theorem dX12_init_121 : decode cX12_init 121 = .ok (.iconst (-1), 1) := by decide +kernel
theorem dX12_init_122 : decode cX12_init 122 = .ok (.iastore, 1) := by decide +kernel
theorem dX12_init_123 : decode cX12_init 123 = .ok (.dup, 1) := by decide +kernel
theorem dX12_init_124 : decode cX12_init 124 = .ok (.iconst 4, 1) := by decide +kernel
theorem dX12_init_125 : decode cX12_init 125 = .ok (.iconst (-1), 1) := by decide +kernel
theorem dX12_init_126 : decode cX12_init 126 = .ok (.iastore, 1) := by decide +kernel
theorem dX12_init_127 : decode cX12_init 127 = .ok (.dup, 1) := by decide +kernel
theorem dX12_init_128 : decode cX12_init 128 = .ok (.iconst 5, 1) := by decide +kernel
theorem dX12_init_129 : decode cX12_init 129 = .ok (.iconst (-1), 1) := by decide +kernel
theorem dX12_init_130 : decode cX12_init 130 = .ok (.iastore, 1) := by decide +kernel
theorem dX12_init_131 : decode cX12_init 131 = .ok (.dup, 1) := by decide +kernel
theorem dX12_init_132 : decode cX12_init 132 = .ok (.bipush 6, 2) := by decide +kernel
theorem dX12_init_134 : decode cX12_init 134 = .ok (.iconst (-1), 1) := by decide +kernel
theorem dX12_init_135 : decode cX12_init 135 = .ok (.iastore, 1) := by decide +kernel
theorem dX12_init_136 : decode cX12_init 136 = .ok (.dup, 1) := by decide +kernel
theorem dX12_init_137 : decode cX12_init 137 = .ok (.bipush 7, 2) := by decide +kernel
theorem dX12_init_139 : decode cX12_init 139 = .ok (.iconst (-1), 1) := by decide +kernel
theorem dX12_init_140 : decode cX12_init 140 = .ok (.iastore, 1) := by decide +kernel
theorem dX12_init_141 : decode cX12_init 141 = .ok (.putfield 16, 3) := by decide +kernel
theorem dX12_init_144 : decode cX12_init 144 = .ok (.aload_n 0, 1) := by decide +kernel
theorem dX12_init_145 : decode cX12_init 145 = .ok (.bipush 8, 2) := by decide +kernel
theorem dX12_init_147 : decode cX12_init 147 = .ok (.newarray .int, 2) := by decide +kernel
theorem dX12_init_149 : decode cX12_init 149 = .ok (.putfield 19, 3) := by decide +kernel
theorem dX12_init_152 : decode cX12_init 152 = .ok (.aload_n 0, 1) := by decide +kernel
theorem dX12_init_153 : decode cX12_init 153 = .ok (.sipush 480, 3) := by decide +kernel
theorem dX12_init_156 : decode cX12_init 156 = .ok (.newarray .int, 2) := by decide +kernel
theorem dX12_init_158 : decode cX12_init 158 = .ok (.putfield 22, 3) := by decide +kernel
theorem dX12_init_161 : decode cX12_init 161 = .ok (.aload_n 0, 1) := by decide +kernel
theorem dX12_init_162 : decode cX12_init 162 = .ok (.bipush 8, 2) := by decide +kernel
theorem dX12_init_164 : decode cX12_init 164 = .ok (.newarray .int, 2) := by decide +kernel
theorem dX12_init_166 : decode cX12_init 166 = .ok (.putfield 25, 3) := by decide +kernel
theorem dX12_init_169 : decode cX12_init 169 = .ok (.aload_n 0, 1) := by decide +kernel
theorem dX12_init_170 : decode cX12_init 170 = .ok (.bipush 64, 2) := by decide +kernel
theorem dX12_init_172 : decode cX12_init 172 = .ok (.newarray .int, 2) := by decide +kernel
theorem dX12_init_174 : decode cX12_init 174 = .ok (.putfield 28, 3) := by decide +kernel
theorem dX12_init_177 : decode cX12_init 177 = .ok (.aload_n 0, 1) := by decide +kernel
theorem dX12_init_178 : decode cX12_init 178 = .ok (.sipush 1152, 3) := by decide +kernel
theorem dX12_init_181 : decode cX12_init 181 = .ok (.newarray .long, 2) := by decide +kernel
theorem dX12_init_183 : decode cX12_init 183 = .ok (.putfield 31, 3) := by decide +kernel
theorem dX12_init_186 : decode cX12_init 186 = .ok (.aload_n 0, 1) := by decide +kernel
theorem dX12_init_187 : decode cX12_init 187 = .ok (.sipush 1152, 3) := by decide +kernel
theorem dX12_init_190 : decode cX12_init 190 = .ok (.newarray .boolean, 2) := by decide +kernel
theorem dX12_init_192 : decode cX12_init 192 = .ok (.putfield 35, 3) := by decide +kernel
theorem dX12_init_195 : decode cX12_init 195 = .ok (.aload_n 0, 1) := by decide +kernel
theorem dX12_init_196 : decode cX12_init 196 = .ok (.bipush 6, 2) := by decide +kernel
theorem dX12_init_198 : decode cX12_init 198 = .ok (.newarray .int, 2) := by decide +kernel
theorem dX12_init_200 : decode cX12_init 200 = .ok (.putfield 39, 3) := by decide +kernel
theorem dX12_init_203 : decode cX12_init 203 = .ok (.aload_n 0, 1) := by decide +kernel
theorem dX12_init_204 : decode cX12_init 204 = .ok (.bipush 6, 2) := by decide +kernel
theorem dX12_init_206 : decode cX12_init 206 = .ok (.newarray .int, 2) := by decide +kernel
theorem dX12_init_208 : decode cX12_init 208 = .ok (.putfield 42, 3) := by decide +kernel
theorem dX12_init_211 : decode cX12_init 211 = .ok (.aload_n 0, 1) := by decide +kernel
theorem dX12_init_212 : decode cX12_init 212 = .ok (.bipush 6, 2) := by decide +kernel
theorem dX12_init_214 : decode cX12_init 214 = .ok (.newarray .boolean, 2) := by decide +kernel
theorem dX12_init_216 : decode cX12_init 216 = .ok (.putfield 45, 3) := by decide +kernel
theorem dX12_init_219 : decode cX12_init 219 = .ok (.aload_n 0, 1) := by decide +kernel
theorem dX12_init_220 : decode cX12_init 220 = .ok (.iconst 3, 1) := by decide +kernel
theorem dX12_init_221 : decode cX12_init 221 = .ok (.newarray .int, 2) := by decide +kernel
theorem dX12_init_223 : decode cX12_init 223 = .ok (.putfield 48, 3) := by decide +kernel
theorem dX12_init_226 : decode cX12_init 226 = .ok (.aload_n 0, 1) := by decide +kernel
theorem dX12_init_227 : decode cX12_init 227 = .ok (.bipush 20, 2) := by decide +kernel
theorem dX12_init_229 : decode cX12_init 229 = .ok (.newarray .int, 2) := by decide +kernel
theorem dX12_init_231 : decode cX12_init 231 = .ok (.putfield 51, 3) := by decide +kernel
theorem dX12_init_234 : decode cX12_init 234 = .ok (.aload_n 0, 1) := by decide +kernel
theorem dX12_init_235 : decode cX12_init 235 = .ok (.bipush 20, 2) := by decide +kernel
theorem dX12_init_237 : decode cX12_init 237 = .ok (.newarray .int, 2) := by decide +kernel
theorem dX12_init_239 : decode cX12_init 239 = .ok (.putfield 54, 3) := by decide +kernel
theorem dX12_init_242 : decode cX12_init 242 = .ok (.aload_n 0, 1) := by decide +kernel
theorem dX12_init_243 : decode cX12_init 243 = .ok (.bipush 16, 2) := by decide +kernel
theorem dX12_init_245 : decode cX12_init 245 = .ok (.newarray .int, 2) := by decide +kernel
theorem dX12_init_247 : decode cX12_init 247 = .ok (.putfield 57, 3) := by decide +kernel
theorem dX12_init_250 : decode cX12_init 250 = .ok (.return_, 1) := by decide +kernel
theorem dX12_in_0 : decode cX12_in 0 = .ok (.lload_n 0, 1) := by decide +kernel
theorem dX12_in_1 : decode cX12_in 1 = .ok (.lload_n 2, 1) := by decide +kernel
theorem dX12_in_2 : decode cX12_in 2 = .ok (.lcmp, 1) := by decide +kernel
theorem dX12_in_3 : decode cX12_in 3 = .ok (.ifCond .lt 14, 3) := by decide +kernel
theorem dX12_in_6 : decode cX12_in 6 = .ok (.lload_n 0, 1) := by decide +kernel
theorem dX12_in_7 : decode cX12_in 7 = .ok (.lload 4, 2) := by decide +kernel
theorem dX12_in_9 : decode cX12_in 9 = .ok (.lcmp, 1) := by decide +kernel
theorem dX12_in_10 : decode cX12_in 10 = .ok (.ifCond .gt 7, 3) := by decide +kernel
theorem dX12_in_13 : decode cX12_in 13 = .ok (.iconst 1, 1) := by decide +kernel
theorem dX12_in_14 : decode cX12_in 14 = .ok (.goto 4, 3) := by decide +kernel
theorem dX12_in_17 : decode cX12_in 17 = .ok (.iconst 0, 1) := by decide +kernel
theorem dX12_in_18 : decode cX12_in 18 = .ok (.ireturn, 1) := by decide +kernel
theorem dX12_found_0 : decode cX12_found 0 = .ok (.aload_n 0, 1) := by decide +kernel
theorem dX12_found_1 : decode cX12_found 1 = .ok (.iload_n 1, 1) := by decide +kernel
theorem dX12_found_2 : decode cX12_found 2 = .ok (.putfield 64, 3) := by decide +kernel
theorem dX12_found_5 : decode cX12_found 5 = .ok (.ldc 67, 2) := by decide +kernel
theorem dX12_found_7 : decode cX12_found 7 = .ok (.iload_n 1, 1) := by decide +kernel
theorem dX12_found_8 : decode cX12_found 8 = .ok (.isub, 1) := by decide +kernel
theorem dX12_found_9 : decode cX12_found 9 = .ok (.ireturn, 1) := by decide +kernel
set_option maxRecDepth 20000 in
theorem ggX12_isSheet_X12_in : GoodIn wsX12_isSheet wsX12_in := goodIn_r _ [5] (by decide +kernel) (by decide +kernel)
set_option maxRecDepth 20000 in
theorem gX12_isSheet_X12_in : GoodIn wsX12_isSheet (va_wsS RX12 70 yX12_in wsX12_in) := goodIn_app (goodIn_of _ (by decide +kernel)) ggX12_isSheet_X12_in
theorem dX12_isSheet_0 : decode cX12_isSheet 0 = .ok (.iload_n 0, 1) := by decide +kernel
theorem dX12_isSheet_1 : decode cX12_isSheet 1 = .ok (.i2l, 1) := by decide +kernel
theorem dX12_isSheet_2 : decode cX12_isSheet 2 = .ok (.lconst 0, 1) := by decide +kernel
theorem dX12_isSheet_3 : decode cX12_isSheet 3 = .ok (.ldc2_w 68, 3) := by decide +kernel
theorem dX12_isSheet_6 : decode cX12_isSheet 6 = .ok (.invokestatic 70, 3) := by decide +kernel
theorem dX12_isSheet_9 : decode cX12_isSheet 9 = .ok (.ireturn, 1) := by decide +kernel
set_option maxRecDepth 20000 in
theorem ggX12_sheet_X12_isSheet : GoodIn wsX12_sheet wsX12_isSheet := goodIn_r _ [11, 12, 13, 14, 10, 15] (by decide +kernel) (by decide +kernel)
set_option maxRecDepth 20000 in
theorem gX12_sheet_X12_isSheet : GoodIn wsX12_sheet (va_wsS RX12 74 yX12_isSheet wsX12_isSheet) := goodIn_app (goodIn_of _ (by decide +kernel)) ggX12_sheet_X12_isSheet
set_option maxRecDepth 20000 in
theorem ggX12_sheet_X12_in : GoodIn wsX12_sheet wsX12_in := goodIn_r _ [15] (by decide +kernel) (by decide +kernel)
set_option maxRecDepth 20000 in
theorem gX12_sheet_X12_in : GoodIn wsX12_sheet (va_wsS RX12 70 yX12_in wsX12_in) := goodIn_app (goodIn_of _ (by decide +kernel)) ggX12_sheet_X12_in
set_option maxRecDepth 20000 in
theorem ggX12_sheet_X12_found : GoodIn wsX12_sheet wsX12_found := goodIn_r _ [19, 4, 20, 21, 22, 23, 24, 25, 26, 27, 28, 29, 30, 31, 32, 33, 34, 35, 36, 37, 38, 39, 40, 41, 42] (by decide +kernel) (by decide +kernel)
set_option maxRecDepth 20000 in
theorem gX12_sheet_X12_found : GoodIn wsX12_sheet (wsV RX12 81 RX12 yX12_found wsX12_found) := goodIn_app (goodIn_of _ (by decide +kernel)) ggX12_sheet_X12_found
theorem dX12_sheet_0 : decode cX12_sheet 0 = .ok (.aload_n 0, 1) := by decide +kernel
theorem dX12_sheet_1 : decode cX12_sheet 1 = .ok (.iconst 0, 1) := by decide +kernel
theorem dX12_sheet_2 : decode cX12_sheet 2 = .ok (.putfield 60, 3) := by decide +kernel
theorem dX12_sheet_5 : decode cX12_sheet 5 = .ok (.iload_n 1, 1) := by decide +kernel
theorem dX12_sheet_6 : decode cX12_sheet 6 = .ok (.invokestatic 74, 3) := by decide +kernel
theorem dX12_sheet_9 : decode cX12_sheet 9 = .ok (.ifCond .eq 21, 3) := by decide +kernel
theorem dX12_sheet_12 : decode cX12_sheet 12 = .ok (.iload_n 2, 1) := by decide +kernel
theorem dX12_sheet_13 : decode cX12_sheet 13 = .ok (.i2l, 1) := by decide +kernel
theorem dX12_sheet_14 : decode cX12_sheet 14 = .ok (.lconst 0, 1) := by decide +kernel
theorem dX12_sheet_15 : decode cX12_sheet 15 = .ok (.ldc2_w 78, 3) := by decide +kernel
theorem dX12_sheet_18 : decode cX12_sheet 18 = .ok (.invokestatic 70, 3) := by decide +kernel
theorem dX12_sheet_21 : decode cX12_sheet 21 = .ok (.ifCond .eq 9, 3) := by decide +kernel
theorem dX12_sheet_24 : decode cX12_sheet 24 = .ok (.iload_n 3, 1) := by decide +kernel
theorem dX12_sheet_25 : decode cX12_sheet 25 = .ok (.bipush 60, 2) := by decide +kernel
theorem dX12_sheet_27 : decode cX12_sheet 27 = .ok (.if_icmp .le 6, 3) := by decide +kernel
theorem dX12_sheet_30 : decode cX12_sheet 30 = .ok (.ldc 80, 2) := by decide +kernel
theorem dX12_sheet_32 : decode cX12_sheet 32 = .ok (.ireturn, 1) := by decide +kernel
theorem dX12_sheet_33 : decode cX12_sheet 33 = .ok (.aload_n 0, 1) := by decide +kernel
theorem dX12_sheet_34 : decode cX12_sheet 34 = .ok (.iconst 0, 1) := by decide +kernel
theorem dX12_sheet_35 : decode cX12_sheet 35 = .ok (.putfield 64, 3) := by decide +kernel
theorem dX12_sheet_38 : decode cX12_sheet 38 = .ok (.iload_n 3, 1) := by decide +kernel
theorem dX12_sheet_39 : decode cX12_sheet 39 = .ok (.ifCond .ge 9, 3) := by decide +kernel
theorem dX12_sheet_42 : decode cX12_sheet 42 = .ok (.aload_n 0, 1) := by decide +kernel
theorem dX12_sheet_43 : decode cX12_sheet 43 = .ok (.iconst 4, 1) := by decide +kernel
theorem dX12_sheet_44 : decode cX12_sheet 44 = .ok (.invokevirtual 81, 3) := by decide +kernel
theorem dX12_sheet_47 : decode cX12_sheet 47 = .ok (.ireturn, 1) := by decide +kernel
theorem dX12_sheet_48 : decode cX12_sheet 48 = .ok (.aload_n 0, 1) := by decide +kernel
theorem dX12_sheet_49 : decode cX12_sheet 49 = .ok (.getfield 16, 3) := by decide +kernel
theorem dX12_sheet_52 : decode cX12_sheet 52 = .ok (.iload_n 1, 1) := by decide +kernel
theorem dX12_sheet_53 : decode cX12_sheet 53 = .ok (.iload_n 2, 1) := by decide +kernel
theorem dX12_sheet_54 : decode cX12_sheet 54 = .ok (.iastore, 1) := by decide +kernel
theorem dX12_sheet_55 : decode cX12_sheet 55 = .ok (.aload_n 0, 1) := by decide +kernel
theorem dX12_sheet_56 : decode cX12_sheet 56 = .ok (.getfield 19, 3) := by decide +kernel
theorem dX12_sheet_59 : decode cX12_sheet 59 = .ok (.iload_n 1, 1) := by decide +kernel
theorem dX12_sheet_60 : decode cX12_sheet 60 = .ok (.iload_n 3, 1) := by decide +kernel
theorem dX12_sheet_61 : decode cX12_sheet 61 = .ok (.iastore, 1) := by decide +kernel
theorem dX12_sheet_62 : decode cX12_sheet 62 = .ok (.iconst 0, 1) := by decide +kernel
theorem dX12_sheet_63 : decode cX12_sheet 63 = .ok (.istore 4, 2) := by decide +kernel
theorem dX12_sheet_65 : decode cX12_sheet 65 = .ok (.iload 4, 2) := by decide +kernel
theorem dX12_sheet_67 : decode cX12_sheet 67 = .ok (.bipush 60, 2) := by decide +kernel
theorem dX12_sheet_69 : decode cX12_sheet 69 = .ok (.if_icmp .ge 22, 3) := by decide +kernel
theorem dX12_sheet_72 : decode cX12_sheet 72 = .ok (.aload_n 0, 1) := by decide +kernel
theorem dX12_sheet_73 : decode cX12_sheet 73 = .ok (.getfield 22, 3) := by decide +kernel
theorem dX12_sheet_76 : decode cX12_sheet 76 = .ok (.bipush 60, 2) := by decide +kernel
theorem dX12_sheet_78 : decode cX12_sheet 78 = .ok (.iload_n 1, 1) := by decide +kernel
theorem dX12_sheet_79 : decode cX12_sheet 79 = .ok (.imul, 1) := by decide +kernel
theorem dX12_sheet_80 : decode cX12_sheet 80 = .ok (.iload 4, 2) := by decide +kernel
theorem dX12_sheet_82 : decode cX12_sheet 82 = .ok (.iadd, 1) := by decide +kernel
theorem dX12_sheet_83 : decode cX12_sheet 83 = .ok (.iconst 0, 1) := by decide +kernel
theorem dX12_sheet_84 : decode cX12_sheet 84 = .ok (.iastore, 1) := by decide +kernel
theorem dX12_sheet_85 : decode cX12_sheet 85 = .ok (.iinc 4 1, 3) := by decide +kernel
theorem dX12_sheet_88 : decode cX12_sheet 88 = .ok (.goto (-23), 3) := by decide +kernel
theorem dX12_sheet_91 : decode cX12_sheet 91 = .ok (.iload_n 3, 1) := by decide +kernel
theorem dX12_sheet_92 : decode cX12_sheet 92 = .ok (.ireturn, 1) := by decide +kernel
set_option maxRecDepth 20000 in
theorem ggX12_set_X12_isSheet : GoodIn wsX12_set wsX12_isSheet := goodIn_r _ [10, 11, 12, 13, 9, 14] (by decide +kernel) (by decide +kernel)
set_option maxRecDepth 20000 in
theorem gX12_set_X12_isSheet : GoodIn wsX12_set (va_wsS RX12 74 yX12_isSheet wsX12_isSheet) := goodIn_app (goodIn_of _ (by decide +kernel)) ggX12_set_X12_isSheet
set_option maxRecDepth 20000 in
theorem ggX12_set_X12_found : GoodIn wsX12_set wsX12_found := goodIn_r _ [18, 3, 19, 20, 21, 22, 23, 24, 25, 26, 27, 28, 29, 30, 31, 32, 33, 34, 35, 36, 37, 38, 39, 40, 41] (by decide +kernel) (by decide +kernel)
set_option maxRecDepth 20000 in
theorem gX12_set_X12_found : GoodIn wsX12_set (wsV RX12 81 RX12 yX12_found wsX12_found) := goodIn_app (goodIn_of _ (by decide +kernel)) ggX12_set_X12_found
set_option maxRecDepth 20000 in
theorem ggX12_set_X12_in : GoodIn wsX12_set wsX12_in := goodIn_r _ [14] (by decide +kernel) (by decide +kernel)
set_option maxRecDepth 20000 in
theorem gX12_set_X12_in : GoodIn wsX12_set (va_wsS RX12 70 yX12_in wsX12_in) := goodIn_app (goodIn_of _ (by decide +kernel)) ggX12_set_X12_in
theorem dX12_set_0 : decode cX12_set 0 = .ok (.aload_n 0, 1) := by decide +kernel
theorem dX12_set_1 : decode cX12_set 1 = .ok (.iconst 0, 1) := by decide +kernel
theorem dX12_set_2 : decode cX12_set 2 = .ok (.putfield 60, 3) := by decide +kernel
theorem dX12_set_5 : decode cX12_set 5 = .ok (.iload_n 1, 1) := by decide +kernel
theorem dX12_set_6 : decode cX12_set 6 = .ok (.invokestatic 74, 3) := by decide +kernel
theorem dX12_set_9 : decode cX12_set 9 = .ok (.ifCond .ne 6, 3) := by decide +kernel
theorem dX12_set_12 : decode cX12_set 12 = .ok (.ldc 80, 2) := by decide +kernel
theorem dX12_set_14 : decode cX12_set 14 = .ok (.ireturn, 1) := by decide +kernel
theorem dX12_set_15 : decode cX12_set 15 = .ok (.aload_n 0, 1) := by decide +kernel
theorem dX12_set_16 : decode cX12_set 16 = .ok (.iconst 0, 1) := by decide +kernel
theorem dX12_set_17 : decode cX12_set 17 = .ok (.putfield 64, 3) := by decide +kernel
theorem dX12_set_20 : decode cX12_set 20 = .ok (.aload_n 0, 1) := by decide +kernel
theorem dX12_set_21 : decode cX12_set 21 = .ok (.getfield 16, 3) := by decide +kernel
theorem dX12_set_24 : decode cX12_set 24 = .ok (.iload_n 1, 1) := by decide +kernel
theorem dX12_set_25 : decode cX12_set 25 = .ok (.iaload, 1) := by decide +kernel
theorem dX12_set_26 : decode cX12_set 26 = .ok (.ifCond .ge 9, 3) := by decide +kernel
theorem dX12_set_29 : decode cX12_set 29 = .ok (.aload_n 0, 1) := by decide +kernel
theorem dX12_set_30 : decode cX12_set 30 = .ok (.iconst 1, 1) := by decide +kernel
theorem dX12_set_31 : decode cX12_set 31 = .ok (.invokevirtual 81, 3) := by decide +kernel
theorem dX12_set_34 : decode cX12_set 34 = .ok (.ireturn, 1) := by decide +kernel
theorem dX12_set_35 : decode cX12_set 35 = .ok (.iload_n 2, 1) := by decide +kernel
theorem dX12_set_36 : decode cX12_set 36 = .ok (.i2l, 1) := by decide +kernel
theorem dX12_set_37 : decode cX12_set 37 = .ok (.lconst 0, 1) := by decide +kernel
theorem dX12_set_38 : decode cX12_set 38 = .ok (.aload_n 0, 1) := by decide +kernel
theorem dX12_set_39 : decode cX12_set 39 = .ok (.getfield 19, 3) := by decide +kernel
theorem dX12_set_42 : decode cX12_set 42 = .ok (.iload_n 1, 1) := by decide +kernel
theorem dX12_set_43 : decode cX12_set 43 = .ok (.iaload, 1) := by decide +kernel
theorem dX12_set_44 : decode cX12_set 44 = .ok (.iconst 1, 1) := by decide +kernel
theorem dX12_set_45 : decode cX12_set 45 = .ok (.isub, 1) := by decide +kernel
theorem dX12_set_46 : decode cX12_set 46 = .ok (.i2l, 1) := by decide +kernel
theorem dX12_set_47 : decode cX12_set 47 = .ok (.invokestatic 70, 3) := by decide +kernel
theorem dX12_set_50 : decode cX12_set 50 = .ok (.ifCond .ne 9, 3) := by decide +kernel
theorem dX12_set_53 : decode cX12_set 53 = .ok (.aload_n 0, 1) := by decide +kernel
theorem dX12_set_54 : decode cX12_set 54 = .ok (.iconst 2, 1) := by decide +kernel
theorem dX12_set_55 : decode cX12_set 55 = .ok (.invokevirtual 81, 3) := by decide +kernel
theorem dX12_set_58 : decode cX12_set 58 = .ok (.ireturn, 1) := by decide +kernel
theorem dX12_set_59 : decode cX12_set 59 = .ok (.aload_n 0, 1) := by decide +kernel
theorem dX12_set_60 : decode cX12_set 60 = .ok (.getfield 22, 3) := by decide +kernel
theorem dX12_set_63 : decode cX12_set 63 = .ok (.bipush 60, 2) := by decide +kernel
theorem dX12_set_65 : decode cX12_set 65 = .ok (.iload_n 1, 1) := by decide +kernel
theorem dX12_set_66 : decode cX12_set 66 = .ok (.imul, 1) := by decide +kernel
theorem dX12_set_67 : decode cX12_set 67 = .ok (.iload_n 2, 1) := by decide +kernel
theorem dX12_set_68 : decode cX12_set 68 = .ok (.iadd, 1) := by decide +kernel
theorem dX12_set_69 : decode cX12_set 69 = .ok (.aload_n 0, 1) := by decide +kernel
theorem dX12_set_70 : decode cX12_set 70 = .ok (.getfield 16, 3) := by decide +kernel
theorem dX12_set_73 : decode cX12_set 73 = .ok (.iload_n 1, 1) := by decide +kernel
theorem dX12_set_74 : decode cX12_set 74 = .ok (.iaload, 1) := by decide +kernel
theorem dX12_set_75 : decode cX12_set 75 = .ok (.ifCond .ne 8, 3) := by decide +kernel
theorem dX12_set_78 : decode cX12_set 78 = .ok (.iload_n 3, 1) := by decide +kernel
theorem dX12_set_79 : decode cX12_set 79 = .ok (.i2b, 1) := by decide +kernel
theorem dX12_set_80 : decode cX12_set 80 = .ok (.goto 19, 3) := by decide +kernel
theorem dX12_set_83 : decode cX12_set 83 = .ok (.aload_n 0, 1) := by decide +kernel
theorem dX12_set_84 : decode cX12_set 84 = .ok (.getfield 16, 3) := by decide +kernel
theorem dX12_set_87 : decode cX12_set 87 = .ok (.iload_n 1, 1) := by decide +kernel
theorem dX12_set_88 : decode cX12_set 88 = .ok (.iaload, 1) := by decide +kernel
theorem dX12_set_89 : decode cX12_set 89 = .ok (.iconst 1, 1) := by decide +kernel
theorem dX12_set_90 : decode cX12_set 90 = .ok (.if_icmp .ne 8, 3) := by decide +kernel
theorem dX12_set_93 : decode cX12_set 93 = .ok (.iload_n 3, 1) := by decide +kernel
theorem dX12_set_94 : decode cX12_set 94 = .ok (.i2s, 1) := by decide +kernel
theorem dX12_set_95 : decode cX12_set 95 = .ok (.goto 4, 3) := by decide +kernel
theorem dX12_set_98 : decode cX12_set 98 = .ok (.iload_n 3, 1) := by decide +kernel
theorem dX12_set_99 : decode cX12_set 99 = .ok (.iastore, 1) := by decide +kernel
theorem dX12_set_100 : decode cX12_set 100 = .ok (.aload_n 0, 1) := by decide +kernel
theorem dX12_set_101 : decode cX12_set 101 = .ok (.getfield 22, 3) := by decide +kernel
theorem dX12_set_104 : decode cX12_set 104 = .ok (.bipush 60, 2) := by decide +kernel
theorem dX12_set_106 : decode cX12_set 106 = .ok (.iload_n 1, 1) := by decide +kernel
theorem dX12_set_107 : decode cX12_set 107 = .ok (.imul, 1) := by decide +kernel
theorem dX12_set_108 : decode cX12_set 108 = .ok (.iload_n 2, 1) := by decide +kernel
theorem dX12_set_109 : decode cX12_set 109 = .ok (.iadd, 1) := by decide +kernel
theorem dX12_set_110 : decode cX12_set 110 = .ok (.iaload, 1) := by decide +kernel
theorem dX12_set_111 : decode cX12_set 111 = .ok (.ireturn, 1) := by decide +kernel
set_option maxRecDepth 20000 in
theorem ggX12_copy_X12_isSheet : GoodIn wsX12_copy wsX12_isSheet := goodIn_r _ [10, 11, 12, 13, 9, 14] (by decide +kernel) (by decide +kernel)
set_option maxRecDepth 20000 in
theorem gX12_copy_X12_isSheet : GoodIn wsX12_copy (va_wsS RX12 74 yX12_isSheet wsX12_isSheet) := goodIn_app (goodIn_of _ (by decide +kernel)) ggX12_copy_X12_isSheet
set_option maxRecDepth 20000 in
theorem ggX12_copy_X12_found : GoodIn wsX12_copy wsX12_found := goodIn_r _ [18, 3, 19, 20, 21, 22, 23, 24, 25, 26, 27, 28, 29, 30, 31, 32, 33, 34, 35, 36, 37, 38, 39, 40, 41] (by decide +kernel) (by decide +kernel)
set_option maxRecDepth 20000 in
theorem gX12_copy_X12_found : GoodIn wsX12_copy (wsV RX12 81 RX12 yX12_found wsX12_found) := goodIn_app (goodIn_of _ (by decide +kernel)) ggX12_copy_X12_found
theorem dX12_copy_0 : decode cX12_copy 0 = .ok (.aload_n 0, 1) := by decide +kernel
theorem dX12_copy_1 : decode cX12_copy 1 = .ok (.iconst 0, 1) := by decide +kernel
theorem dX12_copy_2 : decode cX12_copy 2 = .ok (.putfield 60, 3) := by decide +kernel
theorem dX12_copy_5 : decode cX12_copy 5 = .ok (.iload_n 1, 1) := by decide +kernel
theorem dX12_copy_6 : decode cX12_copy 6 = .ok (.invokestatic 74, 3) := by decide +kernel
theorem dX12_copy_9 : decode cX12_copy 9 = .ok (.ifCond .eq 10, 3) := by decide +kernel
theorem dX12_copy_12 : decode cX12_copy 12 = .ok (.iload_n 3, 1) := by decide +kernel
theorem dX12_copy_13 : decode cX12_copy 13 = .ok (.invokestatic 74, 3) := by decide +kernel
theorem dX12_copy_16 : decode cX12_copy 16 = .ok (.ifCond .ne 6, 3) := by decide +kernel
theorem dX12_copy_19 : decode cX12_copy 19 = .ok (.ldc 80, 2) := by decide +kernel
theorem dX12_copy_21 : decode cX12_copy 21 = .ok (.ireturn, 1) := by decide +kernel
theorem dX12_copy_22 : decode cX12_copy 22 = .ok (.aload_n 0, 1) := by decide +kernel
theorem dX12_copy_23 : decode cX12_copy 23 = .ok (.iconst 0, 1) := by decide +kernel
theorem dX12_copy_24 : decode cX12_copy 24 = .ok (.putfield 64, 3) := by decide +kernel
theorem dX12_copy_27 : decode cX12_copy 27 = .ok (.aload_n 0, 1) := by decide +kernel
theorem dX12_copy_28 : decode cX12_copy 28 = .ok (.getfield 16, 3) := by decide +kernel
theorem dX12_copy_31 : decode cX12_copy 31 = .ok (.iload_n 1, 1) := by decide +kernel
theorem dX12_copy_32 : decode cX12_copy 32 = .ok (.iaload, 1) := by decide +kernel
theorem dX12_copy_33 : decode cX12_copy 33 = .ok (.ifCond .lt 12, 3) := by decide +kernel
theorem dX12_copy_36 : decode cX12_copy 36 = .ok (.aload_n 0, 1) := by decide +kernel
theorem dX12_copy_37 : decode cX12_copy 37 = .ok (.getfield 16, 3) := by decide +kernel
theorem dX12_copy_40 : decode cX12_copy 40 = .ok (.iload_n 3, 1) := by decide +kernel
theorem dX12_copy_41 : decode cX12_copy 41 = .ok (.iaload, 1) := by decide +kernel
theorem dX12_copy_42 : decode cX12_copy 42 = .ok (.ifCond .ge 9, 3) := by decide +kernel
theorem dX12_copy_45 : decode cX12_copy 45 = .ok (.aload_n 0, 1) := by decide +kernel
theorem dX12_copy_46 : decode cX12_copy 46 = .ok (.iconst 1, 1) := by decide +kernel
theorem dX12_copy_47 : decode cX12_copy 47 = .ok (.invokevirtual 81, 3) := by decide +kernel
theorem dX12_copy_50 : decode cX12_copy 50 = .ok (.ireturn, 1) := by decide +kernel
theorem dX12_copy_51 : decode cX12_copy 51 = .ok (.aload_n 0, 1) := by decide +kernel
theorem dX12_copy_52 : decode cX12_copy 52 = .ok (.getfield 16, 3) := by decide +kernel
theorem dX12_copy_55 : decode cX12_copy 55 = .ok (.iload_n 1, 1) := by decide +kernel
theorem dX12_copy_56 : decode cX12_copy 56 = .ok (.iaload, 1) := by decide +kernel
theorem dX12_copy_57 : decode cX12_copy 57 = .ok (.aload_n 0, 1) := by decide +kernel
theorem dX12_copy_58 : decode cX12_copy 58 = .ok (.getfield 16, 3) := by decide +kernel
theorem dX12_copy_61 : decode cX12_copy 61 = .ok (.iload_n 3, 1) := by decide +kernel
theorem dX12_copy_62 : decode cX12_copy 62 = .ok (.iaload, 1) := by decide +kernel
theorem dX12_copy_63 : decode cX12_copy 63 = .ok (.if_icmp .eq 9, 3) := by decide +kernel
theorem dX12_copy_66 : decode cX12_copy 66 = .ok (.aload_n 0, 1) := by decide +kernel
theorem dX12_copy_67 : decode cX12_copy 67 = .ok (.iconst 5, 1) := by decide +kernel
theorem dX12_copy_68 : decode cX12_copy 68 = .ok (.invokevirtual 81, 3) := by decide +kernel
theorem dX12_copy_71 : decode cX12_copy 71 = .ok (.ireturn, 1) := by decide +kernel
theorem dX12_copy_72 : decode cX12_copy 72 = .ok (.iload_n 2, 1) := by decide +kernel
theorem dX12_copy_73 : decode cX12_copy 73 = .ok (.ifCond .lt 48, 3) := by decide +kernel
theorem dX12_copy_76 : decode cX12_copy 76 = .ok (.iload 4, 2) := by decide +kernel
theorem dX12_copy_78 : decode cX12_copy 78 = .ok (.ifCond .lt 43, 3) := by decide +kernel
theorem dX12_copy_81 : decode cX12_copy 81 = .ok (.iload 5, 2) := by decide +kernel
theorem dX12_copy_83 : decode cX12_copy 83 = .ok (.ifCond .lt 38, 3) := by decide +kernel
theorem dX12_copy_86 : decode cX12_copy 86 = .ok (.iload_n 2, 1) := by decide +kernel
theorem dX12_copy_87 : decode cX12_copy 87 = .ok (.i2l, 1) := by decide +kernel
theorem dX12_copy_88 : decode cX12_copy 88 = .ok (.iload 5, 2) := by decide +kernel
theorem dX12_copy_90 : decode cX12_copy 90 = .ok (.i2l, 1) := by decide +kernel
theorem dX12_copy_91 : decode cX12_copy 91 = .ok (.ladd, 1) := by decide +kernel
theorem dX12_copy_92 : decode cX12_copy 92 = .ok (.aload_n 0, 1) := by decide +kernel
theorem dX12_copy_93 : decode cX12_copy 93 = .ok (.getfield 19, 3) := by decide +kernel
theorem dX12_copy_96 : decode cX12_copy 96 = .ok (.iload_n 1, 1) := by decide +kernel
theorem dX12_copy_97 : decode cX12_copy 97 = .ok (.iaload, 1) := by decide +kernel
theorem dX12_copy_98 : decode cX12_copy 98 = .ok (.i2l, 1) := by decide +kernel
theorem dX12_copy_99 : decode cX12_copy 99 = .ok (.lcmp, 1) := by decide +kernel
theorem dX12_copy_100 : decode cX12_copy 100 = .ok (.ifCond .gt 21, 3) := by decide +kernel
theorem dX12_copy_103 : decode cX12_copy 103 = .ok (.iload 4, 2) := by decide +kernel
theorem dX12_copy_105 : decode cX12_copy 105 = .ok (.i2l, 1) := by decide +kernel
theorem dX12_copy_106 : decode cX12_copy 106 = .ok (.iload 5, 2) := by decide +kernel
theorem dX12_copy_108 : decode cX12_copy 108 = .ok (.i2l, 1) := by decide +kernel
theorem dX12_copy_109 : decode cX12_copy 109 = .ok (.ladd, 1) := by decide +kernel
theorem dX12_copy_110 : decode cX12_copy 110 = .ok (.aload_n 0, 1) := by decide +kernel
theorem dX12_copy_111 : decode cX12_copy 111 = .ok (.getfield 19, 3) := by decide +kernel
theorem dX12_copy_114 : decode cX12_copy 114 = .ok (.iload_n 3, 1) := by decide +kernel
theorem dX12_copy_115 : decode cX12_copy 115 = .ok (.iaload, 1) := by decide +kernel
theorem dX12_copy_116 : decode cX12_copy 116 = .ok (.i2l, 1) := by decide +kernel
theorem dX12_copy_117 : decode cX12_copy 117 = .ok (.lcmp, 1) := by decide +kernel
theorem dX12_copy_118 : decode cX12_copy 118 = .ok (.ifCond .le 9, 3) := by decide +kernel
theorem dX12_copy_121 : decode cX12_copy 121 = .ok (.aload_n 0, 1) := by decide +kernel
theorem dX12_copy_122 : decode cX12_copy 122 = .ok (.iconst 2, 1) := by decide +kernel
theorem dX12_copy_123 : decode cX12_copy 123 = .ok (.invokevirtual 81, 3) := by decide +kernel
theorem dX12_copy_126 : decode cX12_copy 126 = .ok (.ireturn, 1) := by decide +kernel
theorem dX12_copy_127 : decode cX12_copy 127 = .ok (.iload_n 2, 1) := by decide +kernel
theorem dX12_copy_128 : decode cX12_copy 128 = .ok (.iload 4, 2) := by decide +kernel
theorem dX12_copy_130 : decode cX12_copy 130 = .ok (.if_icmp .lt 7, 3) := by decide +kernel
theorem dX12_copy_133 : decode cX12_copy 133 = .ok (.iconst 1, 1) := by decide +kernel
theorem dX12_copy_134 : decode cX12_copy 134 = .ok (.goto 4, 3) := by decide +kernel
theorem dX12_copy_137 : decode cX12_copy 137 = .ok (.iconst 0, 1) := by decide +kernel
theorem dX12_copy_138 : decode cX12_copy 138 = .ok (.istore 6, 2) := by decide +kernel
theorem dX12_copy_140 : decode cX12_copy 140 = .ok (.iconst 0, 1) := by decide +kernel
theorem dX12_copy_141 : decode cX12_copy 141 = .ok (.istore 7, 2) := by decide +kernel
theorem dX12_copy_143 : decode cX12_copy 143 = .ok (.iload 7, 2) := by decide +kernel
theorem dX12_copy_145 : decode cX12_copy 145 = .ok (.iload 5, 2) := by decide +kernel
theorem dX12_copy_147 : decode cX12_copy 147 = .ok (.if_icmp .ge 57, 3) := by decide +kernel
theorem dX12_copy_150 : decode cX12_copy 150 = .ok (.iload 6, 2) := by decide +kernel
theorem dX12_copy_152 : decode cX12_copy 152 = .ok (.ifCond .eq 8, 3) := by decide +kernel
theorem dX12_copy_155 : decode cX12_copy 155 = .ok (.iload 7, 2) := by decide +kernel
theorem dX12_copy_157 : decode cX12_copy 157 = .ok (.goto 10, 3) := by decide +kernel
theorem dX12_copy_160 : decode cX12_copy 160 = .ok (.iload 5, 2) := by decide +kernel
theorem dX12_copy_162 : decode cX12_copy 162 = .ok (.iconst 1, 1) := by decide +kernel
theorem dX12_copy_163 : decode cX12_copy 163 = .ok (.isub, 1) := by decide +kernel
theorem dX12_copy_164 : decode cX12_copy 164 = .ok (.iload 7, 2) := by decide +kernel
theorem dX12_copy_166 : decode cX12_copy 166 = .ok (.isub, 1) := by decide +kernel
theorem dX12_copy_167 : decode cX12_copy 167 = .ok (.istore 8, 2) := by decide +kernel
theorem dX12_copy_169 : decode cX12_copy 169 = .ok (.aload_n 0, 1) := by decide +kernel
theorem dX12_copy_170 : decode cX12_copy 170 = .ok (.getfield 22, 3) := by decide +kernel
theorem dX12_copy_173 : decode cX12_copy 173 = .ok (.bipush 60, 2) := by decide +kernel
theorem dX12_copy_175 : decode cX12_copy 175 = .ok (.iload_n 3, 1) := by decide +kernel
theorem dX12_copy_176 : decode cX12_copy 176 = .ok (.imul, 1) := by decide +kernel
theorem dX12_copy_177 : decode cX12_copy 177 = .ok (.iload 4, 2) := by decide +kernel
theorem dX12_copy_179 : decode cX12_copy 179 = .ok (.iadd, 1) := by decide +kernel
theorem dX12_copy_180 : decode cX12_copy 180 = .ok (.iload 8, 2) := by decide +kernel
theorem dX12_copy_182 : decode cX12_copy 182 = .ok (.iadd, 1) := by decide +kernel
theorem dX12_copy_183 : decode cX12_copy 183 = .ok (.aload_n 0, 1) := by decide +kernel
theorem dX12_copy_184 : decode cX12_copy 184 = .ok (.getfield 22, 3) := by decide +kernel
theorem dX12_copy_187 : decode cX12_copy 187 = .ok (.bipush 60, 2) := by decide +kernel
theorem dX12_copy_189 : decode cX12_copy 189 = .ok (.iload_n 1, 1) := by decide +kernel
theorem dX12_copy_190 : decode cX12_copy 190 = .ok (.imul, 1) := by decide +kernel
theorem dX12_copy_191 : decode cX12_copy 191 = .ok (.iload_n 2, 1) := by decide +kernel
theorem dX12_copy_192 : decode cX12_copy 192 = .ok (.iadd, 1) := by decide +kernel
theorem dX12_copy_193 : decode cX12_copy 193 = .ok (.iload 8, 2) := by decide +kernel
theorem dX12_copy_195 : decode cX12_copy 195 = .ok (.iadd, 1) := by decide +kernel
theorem dX12_copy_196 : decode cX12_copy 196 = .ok (.iaload, 1) := by decide +kernel
theorem dX12_copy_197 : decode cX12_copy 197 = .ok (.iastore, 1) := by decide +kernel
theorem dX12_copy_198 : decode cX12_copy 198 = .ok (.iinc 7 1, 3) := by decide +kernel
theorem dX12_copy_201 : decode cX12_copy 201 = .ok (.goto (-58), 3) := by decide +kernel
theorem dX12_copy_204 : decode cX12_copy 204 = .ok (.iload 5, 2) := by decide +kernel
theorem dX12_copy_206 : decode cX12_copy 206 = .ok (.ireturn, 1) := by decide +kernel
set_option maxRecDepth 20000 in
theorem ggX12_drop_X12_isSheet : GoodIn wsX12_drop wsX12_isSheet := goodIn_r _ [9, 10, 11, 12, 8, 13] (by decide +kernel) (by decide +kernel)
set_option maxRecDepth 20000 in
theorem gX12_drop_X12_isSheet : GoodIn wsX12_drop (va_wsS RX12 74 yX12_isSheet wsX12_isSheet) := goodIn_app (goodIn_of _ (by decide +kernel)) ggX12_drop_X12_isSheet
set_option maxRecDepth 20000 in
theorem ggX12_drop_X12_found : GoodIn wsX12_drop wsX12_found := goodIn_r _ [17, 3, 18, 19, 20, 21, 22, 23, 24, 25, 26, 27, 28, 29, 30, 31, 32, 33, 34, 35, 36, 37, 38, 39, 40] (by decide +kernel) (by decide +kernel)
set_option maxRecDepth 20000 in
theorem gX12_drop_X12_found : GoodIn wsX12_drop (wsV RX12 81 RX12 yX12_found wsX12_found) := goodIn_app (goodIn_of _ (by decide +kernel)) ggX12_drop_X12_found
theorem dX12_drop_0 : decode cX12_drop 0 = .ok (.aload_n 0, 1) := by decide +kernel
theorem dX12_drop_1 : decode cX12_drop 1 = .ok (.iconst 0, 1) := by decide +kernel
theorem dX12_drop_2 : decode cX12_drop 2 = .ok (.putfield 60, 3) := by decide +kernel
theorem dX12_drop_5 : decode cX12_drop 5 = .ok (.iload_n 1, 1) := by decide +kernel
theorem dX12_drop_6 : decode cX12_drop 6 = .ok (.invokestatic 74, 3) := by decide +kernel
theorem dX12_drop_9 : decode cX12_drop 9 = .ok (.ifCond .ne 6, 3) := by decide +kernel
theorem dX12_drop_12 : decode cX12_drop 12 = .ok (.ldc 80, 2) := by decide +kernel
theorem dX12_drop_14 : decode cX12_drop 14 = .ok (.ireturn, 1) := by decide +kernel
theorem dX12_drop_15 : decode cX12_drop 15 = .ok (.aload_n 0, 1) := by decide +kernel
theorem dX12_drop_16 : decode cX12_drop 16 = .ok (.iconst 0, 1) := by decide +kernel
theorem dX12_drop_17 : decode cX12_drop 17 = .ok (.putfield 64, 3) := by decide +kernel
theorem dX12_drop_20 : decode cX12_drop 20 = .ok (.aload_n 0, 1) := by decide +kernel
theorem dX12_drop_21 : decode cX12_drop 21 = .ok (.getfield 16, 3) := by decide +kernel
theorem dX12_drop_24 : decode cX12_drop 24 = .ok (.iload_n 1, 1) := by decide +kernel
theorem dX12_drop_25 : decode cX12_drop 25 = .ok (.iaload, 1) := by decide +kernel
theorem dX12_drop_26 : decode cX12_drop 26 = .ok (.ifCond .ge 9, 3) := by decide +kernel
theorem dX12_drop_29 : decode cX12_drop 29 = .ok (.aload_n 0, 1) := by decide +kernel
theorem dX12_drop_30 : decode cX12_drop 30 = .ok (.iconst 1, 1) := by decide +kernel
theorem dX12_drop_31 : decode cX12_drop 31 = .ok (.invokevirtual 81, 3) := by decide +kernel
theorem dX12_drop_34 : decode cX12_drop 34 = .ok (.ireturn, 1) := by decide +kernel
theorem dX12_drop_35 : decode cX12_drop 35 = .ok (.aload_n 0, 1) := by decide +kernel
theorem dX12_drop_36 : decode cX12_drop 36 = .ok (.getfield 16, 3) := by decide +kernel
theorem dX12_drop_39 : decode cX12_drop 39 = .ok (.iload_n 1, 1) := by decide +kernel
theorem dX12_drop_40 : decode cX12_drop 40 = .ok (.iconst (-1), 1) := by decide +kernel
theorem dX12_drop_41 : decode cX12_drop 41 = .ok (.iastore, 1) := by decide +kernel
theorem dX12_drop_42 : decode cX12_drop 42 = .ok (.aload_n 0, 1) := by decide +kernel
theorem dX12_drop_43 : decode cX12_drop 43 = .ok (.getfield 19, 3) := by decide +kernel
theorem dX12_drop_46 : decode cX12_drop 46 = .ok (.iload_n 1, 1) := by decide +kernel
theorem dX12_drop_47 : decode cX12_drop 47 = .ok (.iaload, 1) := by decide +kernel
theorem dX12_drop_48 : decode cX12_drop 48 = .ok (.ireturn, 1) := by decide +kernel
set_option maxRecDepth 20000 in
theorem ggX12_world_X12_in : GoodIn wsX12_world wsX12_in := goodIn_r _ [17] (by decide +kernel) (by decide +kernel)
set_option maxRecDepth 20000 in
theorem gX12_world_X12_in : GoodIn wsX12_world (va_wsS RX12 70 yX12_in wsX12_in) := goodIn_app (goodIn_of _ (by decide +kernel)) ggX12_world_X12_in
set_option maxRecDepth 20000 in
theorem ggX12_world_X12_isSheet : GoodIn wsX12_world wsX12_isSheet := goodIn_r _ [20, 21, 14, 15, 16, 17] (by decide +kernel) (by decide +kernel)
set_option maxRecDepth 20000 in
theorem gX12_world_X12_isSheet : GoodIn wsX12_world (va_wsS RX12 74 yX12_isSheet wsX12_isSheet) := goodIn_app (goodIn_of _ (by decide +kernel)) ggX12_world_X12_isSheet
set_option maxRecDepth 20000 in
theorem ggX12_world_X12_found : GoodIn wsX12_world wsX12_found := goodIn_r _ [25, 11, 26, 27, 28, 29, 30, 31, 32, 33, 34, 35, 36, 37, 38, 39, 40, 41, 42, 43, 44, 45, 46, 47, 48] (by decide +kernel) (by decide +kernel)
set_option maxRecDepth 20000 in
theorem gX12_world_X12_found : GoodIn wsX12_world (wsV RX12 81 RX12 yX12_found wsX12_found) := goodIn_app (goodIn_of _ (by decide +kernel)) ggX12_world_X12_found
theorem dX12_world_0 : decode cX12_world 0 = .ok (.aload_n 0, 1) := by decide +kernel
theorem dX12_world_1 : decode cX12_world 1 = .ok (.iconst 0, 1) := by decide +kernel
theorem dX12_world_2 : decode cX12_world 2 = .ok (.putfield 60, 3) := by decide +kernel
theorem dX12_world_5 : decode cX12_world 5 = .ok (.iload_n 1, 1) := by decide +kernel
theorem dX12_world_6 : decode cX12_world 6 = .ok (.i2l, 1) := by decide +kernel
theorem dX12_world_7 : decode cX12_world 7 = .ok (.lconst 1, 1) := by decide +kernel
theorem dX12_world_8 : decode cX12_world 8 = .ok (.ldc2_w 85, 3) := by decide +kernel
theorem dX12_world_11 : decode cX12_world 11 = .ok (.invokestatic 70, 3) := by decide +kernel
theorem dX12_world_14 : decode cX12_world 14 = .ok (.ifCond .eq 10, 3) := by decide +kernel
theorem dX12_world_17 : decode cX12_world 17 = .ok (.iload_n 2, 1) := by decide +kernel
theorem dX12_world_18 : decode cX12_world 18 = .ok (.invokestatic 74, 3) := by decide +kernel
theorem dX12_world_21 : decode cX12_world 21 = .ok (.ifCond .ne 6, 3) := by decide +kernel
theorem dX12_world_24 : decode cX12_world 24 = .ok (.ldc 80, 2) := by decide +kernel
theorem dX12_world_26 : decode cX12_world 26 = .ok (.ireturn, 1) := by decide +kernel
theorem dX12_world_27 : decode cX12_world 27 = .ok (.aload_n 0, 1) := by decide +kernel
theorem dX12_world_28 : decode cX12_world 28 = .ok (.getfield 87, 3) := by decide +kernel
theorem dX12_world_31 : decode cX12_world 31 = .ok (.bipush 8, 2) := by decide +kernel
theorem dX12_world_33 : decode cX12_world 33 = .ok (.if_icmp .ne 6, 3) := by decide +kernel
theorem dX12_world_36 : decode cX12_world 36 = .ok (.ldc 90, 2) := by decide +kernel
theorem dX12_world_38 : decode cX12_world 38 = .ok (.ireturn, 1) := by decide +kernel
theorem dX12_world_39 : decode cX12_world 39 = .ok (.aload_n 0, 1) := by decide +kernel
theorem dX12_world_40 : decode cX12_world 40 = .ok (.getfield 16, 3) := by decide +kernel
theorem dX12_world_43 : decode cX12_world 43 = .ok (.iload_n 2, 1) := by decide +kernel
theorem dX12_world_44 : decode cX12_world 44 = .ok (.iaload, 1) := by decide +kernel
theorem dX12_world_45 : decode cX12_world 45 = .ok (.ifCond .ge 9, 3) := by decide +kernel
theorem dX12_world_48 : decode cX12_world 48 = .ok (.aload_n 0, 1) := by decide +kernel
theorem dX12_world_49 : decode cX12_world 49 = .ok (.iconst 1, 1) := by decide +kernel
theorem dX12_world_50 : decode cX12_world 50 = .ok (.invokevirtual 81, 3) := by decide +kernel
theorem dX12_world_53 : decode cX12_world 53 = .ok (.ireturn, 1) := by decide +kernel
theorem dX12_world_54 : decode cX12_world 54 = .ok (.iload_n 3, 1) := by decide +kernel
theorem dX12_world_55 : decode cX12_world 55 = .ok (.ifCond .lt 20, 3) := by decide +kernel
theorem dX12_world_58 : decode cX12_world 58 = .ok (.iload_n 3, 1) := by decide +kernel
theorem dX12_world_59 : decode cX12_world 59 = .ok (.i2l, 1) := by decide +kernel
theorem dX12_world_60 : decode cX12_world 60 = .ok (.ldc2_w 91, 3) := by decide +kernel
theorem dX12_world_63 : decode cX12_world 63 = .ok (.ladd, 1) := by decide +kernel
theorem dX12_world_64 : decode cX12_world 64 = .ok (.aload_n 0, 1) := by decide +kernel
theorem dX12_world_65 : decode cX12_world 65 = .ok (.getfield 19, 3) := by decide +kernel
theorem dX12_world_68 : decode cX12_world 68 = .ok (.iload_n 2, 1) := by decide +kernel
theorem dX12_world_69 : decode cX12_world 69 = .ok (.iaload, 1) := by decide +kernel
theorem dX12_world_70 : decode cX12_world 70 = .ok (.i2l, 1) := by decide +kernel
theorem dX12_world_71 : decode cX12_world 71 = .ok (.lcmp, 1) := by decide +kernel
theorem dX12_world_72 : decode cX12_world 72 = .ok (.ifCond .le 9, 3) := by decide +kernel
theorem dX12_world_75 : decode cX12_world 75 = .ok (.aload_n 0, 1) := by decide +kernel
theorem dX12_world_76 : decode cX12_world 76 = .ok (.iconst 2, 1) := by decide +kernel
theorem dX12_world_77 : decode cX12_world 77 = .ok (.invokevirtual 81, 3) := by decide +kernel
theorem dX12_world_80 : decode cX12_world 80 = .ok (.ireturn, 1) := by decide +kernel
theorem dX12_world_81 : decode cX12_world 81 = .ok (.iconst 0, 1) := by decide +kernel
theorem dX12_world_82 : decode cX12_world 82 = .ok (.istore 4, 2) := by decide +kernel
theorem dX12_world_84 : decode cX12_world 84 = .ok (.iload 4, 2) := by decide +kernel
theorem dX12_world_86 : decode cX12_world 86 = .ok (.bipush 8, 2) := by decide +kernel
theorem dX12_world_88 : decode cX12_world 88 = .ok (.if_icmp .ge 37, 3) := by decide +kernel
theorem dX12_world_91 : decode cX12_world 91 = .ok (.aload_n 0, 1) := by decide +kernel
theorem dX12_world_92 : decode cX12_world 92 = .ok (.getfield 22, 3) := by decide +kernel
theorem dX12_world_95 : decode cX12_world 95 = .ok (.bipush 60, 2) := by decide +kernel
theorem dX12_world_97 : decode cX12_world 97 = .ok (.iload_n 2, 1) := by decide +kernel
theorem dX12_world_98 : decode cX12_world 98 = .ok (.imul, 1) := by decide +kernel
theorem dX12_world_99 : decode cX12_world 99 = .ok (.iload_n 3, 1) := by decide +kernel
theorem dX12_world_100 : decode cX12_world 100 = .ok (.iadd, 1) := by decide +kernel
theorem dX12_world_101 : decode cX12_world 101 = .ok (.iload 4, 2) := by decide +kernel
theorem dX12_world_103 : decode cX12_world 103 = .ok (.iadd, 1) := by decide +kernel
theorem dX12_world_104 : decode cX12_world 104 = .ok (.iaload, 1) := by decide +kernel
theorem dX12_world_105 : decode cX12_world 105 = .ok (.i2l, 1) := by decide +kernel
theorem dX12_world_106 : decode cX12_world 106 = .ok (.lconst 0, 1) := by decide +kernel
theorem dX12_world_107 : decode cX12_world 107 = .ok (.ldc2_w 93, 3) := by decide +kernel
theorem dX12_world_110 : decode cX12_world 110 = .ok (.invokestatic 70, 3) := by decide +kernel
theorem dX12_world_113 : decode cX12_world 113 = .ok (.ifCond .ne 6, 3) := by decide +kernel
theorem dX12_world_116 : decode cX12_world 116 = .ok (.ldc 80, 2) := by decide +kernel
theorem dX12_world_118 : decode cX12_world 118 = .ok (.ireturn, 1) := by decide +kernel
theorem dX12_world_119 : decode cX12_world 119 = .ok (.iinc 4 1, 3) := by decide +kernel
theorem dX12_world_122 : decode cX12_world 122 = .ok (.goto (-38), 3) := by decide +kernel
theorem dX12_world_125 : decode cX12_world 125 = .ok (.aload_n 0, 1) := by decide +kernel
theorem dX12_world_126 : decode cX12_world 126 = .ok (.iconst 0, 1) := by decide +kernel
theorem dX12_world_127 : decode cX12_world 127 = .ok (.putfield 64, 3) := by decide +kernel
theorem dX12_world_130 : decode cX12_world 130 = .ok (.iconst 0, 1) := by decide +kernel
theorem dX12_world_131 : decode cX12_world 131 = .ok (.istore 4, 2) := by decide +kernel
theorem dX12_world_133 : decode cX12_world 133 = .ok (.iload 4, 2) := by decide +kernel
theorem dX12_world_135 : decode cX12_world 135 = .ok (.bipush 8, 2) := by decide +kernel
theorem dX12_world_137 : decode cX12_world 137 = .ok (.if_icmp .ge 38, 3) := by decide +kernel
theorem dX12_world_140 : decode cX12_world 140 = .ok (.aload_n 0, 1) := by decide +kernel
theorem dX12_world_141 : decode cX12_world 141 = .ok (.getfield 28, 3) := by decide +kernel
theorem dX12_world_144 : decode cX12_world 144 = .ok (.bipush 8, 2) := by decide +kernel
theorem dX12_world_146 : decode cX12_world 146 = .ok (.aload_n 0, 1) := by decide +kernel
theorem dX12_world_147 : decode cX12_world 147 = .ok (.getfield 87, 3) := by decide +kernel
theorem dX12_world_150 : decode cX12_world 150 = .ok (.imul, 1) := by decide +kernel
theorem dX12_world_151 : decode cX12_world 151 = .ok (.iload 4, 2) := by decide +kernel
theorem dX12_world_153 : decode cX12_world 153 = .ok (.iadd, 1) := by decide +kernel
theorem dX12_world_154 : decode cX12_world 154 = .ok (.aload_n 0, 1) := by decide +kernel
theorem dX12_world_155 : decode cX12_world 155 = .ok (.getfield 22, 3) := by decide +kernel
theorem dX12_world_158 : decode cX12_world 158 = .ok (.bipush 60, 2) := by decide +kernel
theorem dX12_world_160 : decode cX12_world 160 = .ok (.iload_n 2, 1) := by decide +kernel
theorem dX12_world_161 : decode cX12_world 161 = .ok (.imul, 1) := by decide +kernel
theorem dX12_world_162 : decode cX12_world 162 = .ok (.iload_n 3, 1) := by decide +kernel
theorem dX12_world_163 : decode cX12_world 163 = .ok (.iadd, 1) := by decide +kernel
theorem dX12_world_164 : decode cX12_world 164 = .ok (.iload 4, 2) := by decide +kernel
theorem dX12_world_166 : decode cX12_world 166 = .ok (.iadd, 1) := by decide +kernel
theorem dX12_world_167 : decode cX12_world 167 = .ok (.iaload, 1) := by decide +kernel
theorem dX12_world_168 : decode cX12_world 168 = .ok (.iastore, 1) := by decide +kernel
theorem dX12_world_169 : decode cX12_world 169 = .ok (.iinc 4 1, 3) := by decide +kernel
theorem dX12_world_172 : decode cX12_world 172 = .ok (.goto (-39), 3) := by decide +kernel
theorem dX12_world_175 : decode cX12_world 175 = .ok (.aload_n 0, 1) := by decide +kernel
theorem dX12_world_176 : decode cX12_world 176 = .ok (.getfield 25, 3) := by decide +kernel
theorem dX12_world_179 : decode cX12_world 179 = .ok (.aload_n 0, 1) := by decide +kernel
theorem dX12_world_180 : decode cX12_world 180 = .ok (.getfield 87, 3) := by decide +kernel
theorem dX12_world_183 : decode cX12_world 183 = .ok (.iload_n 1, 1) := by decide +kernel
theorem dX12_world_184 : decode cX12_world 184 = .ok (.iastore, 1) := by decide +kernel
theorem dX12_world_185 : decode cX12_world 185 = .ok (.aload_n 0, 1) := by decide +kernel
theorem dX12_world_186 : decode cX12_world 186 = .ok (.dup, 1) := by decide +kernel
theorem dX12_world_187 : decode cX12_world 187 = .ok (.getfield 87, 3) := by decide +kernel
theorem dX12_world_190 : decode cX12_world 190 = .ok (.iconst 1, 1) := by decide +kernel
theorem dX12_world_191 : decode cX12_world 191 = .ok (.iadd, 1) := by decide +kernel
theorem dX12_world_192 : decode cX12_world 192 = .ok (.putfield 87, 3) := by decide +kernel
theorem dX12_world_195 : decode cX12_world 195 = .ok (.aload_n 0, 1) := by decide +kernel
theorem dX12_world_196 : decode cX12_world 196 = .ok (.getfield 87, 3) := by decide +kernel
theorem dX12_world_199 : decode cX12_world 199 = .ok (.iconst 1, 1) := by decide +kernel
theorem dX12_world_200 : decode cX12_world 200 = .ok (.isub, 1) := by decide +kernel
theorem dX12_world_201 : decode cX12_world 201 = .ok (.ireturn, 1) := by decide +kernel
set_option maxRecDepth 20000 in
theorem ggX12_river_X12_in : GoodIn wsX12_river wsX12_in := goodIn_r _ [9] (by decide +kernel) (by decide +kernel)
set_option maxRecDepth 20000 in
theorem gX12_river_X12_in : GoodIn wsX12_river (va_wsS RX12 70 yX12_in wsX12_in) := goodIn_app (goodIn_of _ (by decide +kernel)) ggX12_river_X12_in
theorem dX12_river_0 : decode cX12_river 0 = .ok (.aload_n 0, 1) := by decide +kernel
theorem dX12_river_1 : decode cX12_river 1 = .ok (.iconst 0, 1) := by decide +kernel
theorem dX12_river_2 : decode cX12_river 2 = .ok (.putfield 60, 3) := by decide +kernel
theorem dX12_river_5 : decode cX12_river 5 = .ok (.iload_n 1, 1) := by decide +kernel
theorem dX12_river_6 : decode cX12_river 6 = .ok (.i2l, 1) := by decide +kernel
theorem dX12_river_7 : decode cX12_river 7 = .ok (.lconst 0, 1) := by decide +kernel
theorem dX12_river_8 : decode cX12_river 8 = .ok (.ldc2_w 68, 3) := by decide +kernel
theorem dX12_river_11 : decode cX12_river 11 = .ok (.invokestatic 70, 3) := by decide +kernel
theorem dX12_river_14 : decode cX12_river 14 = .ok (.ifCond .eq 15, 3) := by decide +kernel
theorem dX12_river_17 : decode cX12_river 17 = .ok (.iload_n 2, 1) := by decide +kernel
theorem dX12_river_18 : decode cX12_river 18 = .ok (.i2l, 1) := by decide +kernel
theorem dX12_river_19 : decode cX12_river 19 = .ok (.lconst 0, 1) := by decide +kernel
theorem dX12_river_20 : decode cX12_river 20 = .ok (.ldc2_w 95, 3) := by decide +kernel
theorem dX12_river_23 : decode cX12_river 23 = .ok (.invokestatic 70, 3) := by decide +kernel
theorem dX12_river_26 : decode cX12_river 26 = .ok (.ifCond .ne 6, 3) := by decide +kernel
theorem dX12_river_29 : decode cX12_river 29 = .ok (.ldc 80, 2) := by decide +kernel
theorem dX12_river_31 : decode cX12_river 31 = .ok (.ireturn, 1) := by decide +kernel
theorem dX12_river_32 : decode cX12_river 32 = .ok (.aload_n 0, 1) := by decide +kernel
theorem dX12_river_33 : decode cX12_river 33 = .ok (.getfield 13, 3) := by decide +kernel
theorem dX12_river_36 : decode cX12_river 36 = .ok (.iload_n 1, 1) := by decide +kernel
theorem dX12_river_37 : decode cX12_river 37 = .ok (.iaload, 1) := by decide +kernel
theorem dX12_river_38 : decode cX12_river 38 = .ok (.istore_n 3, 1) := by decide +kernel
theorem dX12_river_39 : decode cX12_river 39 = .ok (.aload_n 0, 1) := by decide +kernel
theorem dX12_river_40 : decode cX12_river 40 = .ok (.getfield 13, 3) := by decide +kernel
theorem dX12_river_43 : decode cX12_river 43 = .ok (.iload_n 1, 1) := by decide +kernel
theorem dX12_river_44 : decode cX12_river 44 = .ok (.iload_n 2, 1) := by decide +kernel
theorem dX12_river_45 : decode cX12_river 45 = .ok (.iastore, 1) := by decide +kernel
theorem dX12_river_46 : decode cX12_river 46 = .ok (.iload_n 3, 1) := by decide +kernel
theorem dX12_river_47 : decode cX12_river 47 = .ok (.ireturn, 1) := by decide +kernel
set_option maxRecDepth 20000 in
theorem ggX12_rule_X12_in : GoodIn wsX12_rule wsX12_in := goodIn_r _ [10] (by decide +kernel) (by decide +kernel)
set_option maxRecDepth 20000 in
theorem gX12_rule_X12_in : GoodIn wsX12_rule (va_wsS RX12 70 yX12_in wsX12_in) := goodIn_app (goodIn_of _ (by decide +kernel)) ggX12_rule_X12_in
theorem dX12_rule_0 : decode cX12_rule 0 = .ok (.aload_n 0, 1) := by decide +kernel
theorem dX12_rule_1 : decode cX12_rule 1 = .ok (.iconst 0, 1) := by decide +kernel
theorem dX12_rule_2 : decode cX12_rule 2 = .ok (.putfield 60, 3) := by decide +kernel
theorem dX12_rule_5 : decode cX12_rule 5 = .ok (.iload_n 1, 1) := by decide +kernel
theorem dX12_rule_6 : decode cX12_rule 6 = .ok (.i2l, 1) := by decide +kernel
theorem dX12_rule_7 : decode cX12_rule 7 = .ok (.lconst 0, 1) := by decide +kernel
theorem dX12_rule_8 : decode cX12_rule 8 = .ok (.ldc2_w 68, 3) := by decide +kernel
theorem dX12_rule_11 : decode cX12_rule 11 = .ok (.invokestatic 70, 3) := by decide +kernel
theorem dX12_rule_14 : decode cX12_rule 14 = .ok (.ifCond .eq 35, 3) := by decide +kernel
theorem dX12_rule_17 : decode cX12_rule 17 = .ok (.iload_n 1, 1) := by decide +kernel
theorem dX12_rule_18 : decode cX12_rule 18 = .ok (.iconst 2, 1) := by decide +kernel
theorem dX12_rule_19 : decode cX12_rule 19 = .ok (.if_icmp .ge 18, 3) := by decide +kernel
theorem dX12_rule_22 : decode cX12_rule 22 = .ok (.iload_n 2, 1) := by decide +kernel
theorem dX12_rule_23 : decode cX12_rule 23 = .ok (.i2l, 1) := by decide +kernel
theorem dX12_rule_24 : decode cX12_rule 24 = .ok (.lconst 1, 1) := by decide +kernel
theorem dX12_rule_25 : decode cX12_rule 25 = .ok (.ldc2_w 97, 3) := by decide +kernel
theorem dX12_rule_28 : decode cX12_rule 28 = .ok (.invokestatic 70, 3) := by decide +kernel
theorem dX12_rule_31 : decode cX12_rule 31 = .ok (.ifCond .ne 21, 3) := by decide +kernel
theorem dX12_rule_34 : decode cX12_rule 34 = .ok (.goto 15, 3) := by decide +kernel
theorem dX12_rule_37 : decode cX12_rule 37 = .ok (.iload_n 2, 1) := by decide +kernel
theorem dX12_rule_38 : decode cX12_rule 38 = .ok (.i2l, 1) := by decide +kernel
theorem dX12_rule_39 : decode cX12_rule 39 = .ok (.lconst 0, 1) := by decide +kernel
theorem dX12_rule_40 : decode cX12_rule 40 = .ok (.ldc2_w 93, 3) := by decide +kernel
theorem dX12_rule_43 : decode cX12_rule 43 = .ok (.invokestatic 70, 3) := by decide +kernel
theorem dX12_rule_46 : decode cX12_rule 46 = .ok (.ifCond .ne 6, 3) := by decide +kernel
theorem dX12_rule_49 : decode cX12_rule 49 = .ok (.ldc 80, 2) := by decide +kernel
theorem dX12_rule_51 : decode cX12_rule 51 = .ok (.ireturn, 1) := by decide +kernel
theorem dX12_rule_52 : decode cX12_rule 52 = .ok (.aload_n 0, 1) := by decide +kernel
theorem dX12_rule_53 : decode cX12_rule 53 = .ok (.getfield 7, 3) := by decide +kernel
theorem dX12_rule_56 : decode cX12_rule 56 = .ok (.iload_n 1, 1) := by decide +kernel
theorem dX12_rule_57 : decode cX12_rule 57 = .ok (.iaload, 1) := by decide +kernel
theorem dX12_rule_58 : decode cX12_rule 58 = .ok (.istore_n 3, 1) := by decide +kernel
theorem dX12_rule_59 : decode cX12_rule 59 = .ok (.aload_n 0, 1) := by decide +kernel
theorem dX12_rule_60 : decode cX12_rule 60 = .ok (.getfield 7, 3) := by decide +kernel
theorem dX12_rule_63 : decode cX12_rule 63 = .ok (.iload_n 1, 1) := by decide +kernel
theorem dX12_rule_64 : decode cX12_rule 64 = .ok (.iload_n 2, 1) := by decide +kernel
theorem dX12_rule_65 : decode cX12_rule 65 = .ok (.iastore, 1) := by decide +kernel
theorem dX12_rule_66 : decode cX12_rule 66 = .ok (.iload_n 3, 1) := by decide +kernel
theorem dX12_rule_67 : decode cX12_rule 67 = .ok (.ireturn, 1) := by decide +kernel
theorem dX12_groupOf_0 : decode cX12_groupOf 0 = .ok (.iconst 0, 1) := by decide +kernel
theorem dX12_groupOf_1 : decode cX12_groupOf 1 = .ok (.istore_n 3, 1) := by decide +kernel
theorem dX12_groupOf_2 : decode cX12_groupOf 2 = .ok (.iload_n 3, 1) := by decide +kernel
theorem dX12_groupOf_3 : decode cX12_groupOf 3 = .ok (.iload_n 1, 1) := by decide +kernel
theorem dX12_groupOf_4 : decode cX12_groupOf 4 = .ok (.if_icmp .ge 73, 3) := by decide +kernel
theorem dX12_groupOf_7 : decode cX12_groupOf 7 = .ok (.iconst 1, 1) := by decide +kernel
theorem dX12_groupOf_8 : decode cX12_groupOf 8 = .ok (.istore 4, 2) := by decide +kernel
theorem dX12_groupOf_10 : decode cX12_groupOf 10 = .ok (.iconst 0, 1) := by decide +kernel
theorem dX12_groupOf_11 : decode cX12_groupOf 11 = .ok (.istore 5, 2) := by decide +kernel
theorem dX12_groupOf_13 : decode cX12_groupOf 13 = .ok (.iload 5, 2) := by decide +kernel
theorem dX12_groupOf_15 : decode cX12_groupOf 15 = .ok (.iload_n 2, 1) := by decide +kernel
theorem dX12_groupOf_16 : decode cX12_groupOf 16 = .ok (.if_icmp .gt 48, 3) := by decide +kernel
theorem dX12_groupOf_19 : decode cX12_groupOf 19 = .ok (.iload 4, 2) := by decide +kernel
theorem dX12_groupOf_21 : decode cX12_groupOf 21 = .ok (.ifCond .eq 34, 3) := by decide +kernel
theorem dX12_groupOf_24 : decode cX12_groupOf 24 = .ok (.aload_n 0, 1) := by decide +kernel
theorem dX12_groupOf_25 : decode cX12_groupOf 25 = .ok (.getfield 28, 3) := by decide +kernel
theorem dX12_groupOf_28 : decode cX12_groupOf 28 = .ok (.bipush 8, 2) := by decide +kernel
theorem dX12_groupOf_30 : decode cX12_groupOf 30 = .ok (.iload_n 3, 1) := by decide +kernel
theorem dX12_groupOf_31 : decode cX12_groupOf 31 = .ok (.imul, 1) := by decide +kernel
theorem dX12_groupOf_32 : decode cX12_groupOf 32 = .ok (.iload 5, 2) := by decide +kernel
theorem dX12_groupOf_34 : decode cX12_groupOf 34 = .ok (.iadd, 1) := by decide +kernel
theorem dX12_groupOf_35 : decode cX12_groupOf 35 = .ok (.iaload, 1) := by decide +kernel
theorem dX12_groupOf_36 : decode cX12_groupOf 36 = .ok (.aload_n 0, 1) := by decide +kernel
theorem dX12_groupOf_37 : decode cX12_groupOf 37 = .ok (.getfield 28, 3) := by decide +kernel
theorem dX12_groupOf_40 : decode cX12_groupOf 40 = .ok (.bipush 8, 2) := by decide +kernel
theorem dX12_groupOf_42 : decode cX12_groupOf 42 = .ok (.iload_n 1, 1) := by decide +kernel
theorem dX12_groupOf_43 : decode cX12_groupOf 43 = .ok (.imul, 1) := by decide +kernel
theorem dX12_groupOf_44 : decode cX12_groupOf 44 = .ok (.iload 5, 2) := by decide +kernel
theorem dX12_groupOf_46 : decode cX12_groupOf 46 = .ok (.iadd, 1) := by decide +kernel
theorem dX12_groupOf_47 : decode cX12_groupOf 47 = .ok (.iaload, 1) := by decide +kernel
theorem dX12_groupOf_48 : decode cX12_groupOf 48 = .ok (.if_icmp .ne 7, 3) := by decide +kernel
theorem dX12_groupOf_51 : decode cX12_groupOf 51 = .ok (.iconst 1, 1) := by decide +kernel
theorem dX12_groupOf_52 : decode cX12_groupOf 52 = .ok (.goto 4, 3) := by decide +kernel
theorem dX12_groupOf_55 : decode cX12_groupOf 55 = .ok (.iconst 0, 1) := by decide +kernel
theorem dX12_groupOf_56 : decode cX12_groupOf 56 = .ok (.istore 4, 2) := by decide +kernel
theorem dX12_groupOf_58 : decode cX12_groupOf 58 = .ok (.iinc 5 1, 3) := by decide +kernel
theorem dX12_groupOf_61 : decode cX12_groupOf 61 = .ok (.goto (-48), 3) := by decide +kernel
theorem dX12_groupOf_64 : decode cX12_groupOf 64 = .ok (.iload 4, 2) := by decide +kernel
theorem dX12_groupOf_66 : decode cX12_groupOf 66 = .ok (.ifCond .eq 5, 3) := by decide +kernel
theorem dX12_groupOf_69 : decode cX12_groupOf 69 = .ok (.iload_n 3, 1) := by decide +kernel
theorem dX12_groupOf_70 : decode cX12_groupOf 70 = .ok (.ireturn, 1) := by decide +kernel
theorem dX12_groupOf_71 : decode cX12_groupOf 71 = .ok (.iinc 3 1, 3) := by decide +kernel
theorem dX12_groupOf_74 : decode cX12_groupOf 74 = .ok (.goto (-72), 3) := by decide +kernel
theorem dX12_groupOf_77 : decode cX12_groupOf 77 = .ok (.iload_n 1, 1) := by decide +kernel
theorem dX12_groupOf_78 : decode cX12_groupOf 78 = .ok (.ireturn, 1) := by decide +kernel
theorem dX12_stateIn_0 : decode cX12_stateIn 0 = .ok (.iload_n 0, 1) := by decide +kernel
theorem dX12_stateIn_1 : decode cX12_stateIn 1 = .ok (.ifCond .ne 13, 3) := by decide +kernel
theorem dX12_stateIn_4 : decode cX12_stateIn 4 = .ok (.iload_n 1, 1) := by decide +kernel
theorem dX12_stateIn_5 : decode cX12_stateIn 5 = .ok (.ifCond .eq 7, 3) := by decide +kernel
theorem dX12_stateIn_8 : decode cX12_stateIn 8 = .ok (.iconst 1, 1) := by decide +kernel
theorem dX12_stateIn_9 : decode cX12_stateIn 9 = .ok (.goto 4, 3) := by decide +kernel
theorem dX12_stateIn_12 : decode cX12_stateIn 12 = .ok (.iconst 0, 1) := by decide +kernel
theorem dX12_stateIn_13 : decode cX12_stateIn 13 = .ok (.ireturn, 1) := by decide +kernel
theorem dX12_stateIn_14 : decode cX12_stateIn 14 = .ok (.iload_n 0, 1) := by decide +kernel
theorem dX12_stateIn_15 : decode cX12_stateIn 15 = .ok (.iconst 3, 1) := by decide +kernel
theorem dX12_stateIn_16 : decode cX12_stateIn 16 = .ok (.if_icmp .ge 7, 3) := by decide +kernel
theorem dX12_stateIn_19 : decode cX12_stateIn 19 = .ok (.iconst 1, 1) := by decide +kernel
theorem dX12_stateIn_20 : decode cX12_stateIn 20 = .ok (.goto 22, 3) := by decide +kernel
theorem dX12_stateIn_23 : decode cX12_stateIn 23 = .ok (.iload_n 0, 1) := by decide +kernel
theorem dX12_stateIn_24 : decode cX12_stateIn 24 = .ok (.bipush 6, 2) := by decide +kernel
theorem dX12_stateIn_26 : decode cX12_stateIn 26 = .ok (.if_icmp .ge 7, 3) := by decide +kernel
theorem dX12_stateIn_29 : decode cX12_stateIn 29 = .ok (.iconst 3, 1) := by decide +kernel
theorem dX12_stateIn_30 : decode cX12_stateIn 30 = .ok (.goto 12, 3) := by decide +kernel
theorem dX12_stateIn_33 : decode cX12_stateIn 33 = .ok (.iload_n 1, 1) := by decide +kernel
theorem dX12_stateIn_34 : decode cX12_stateIn 34 = .ok (.ifCond .eq 7, 3) := by decide +kernel
theorem dX12_stateIn_37 : decode cX12_stateIn 37 = .ok (.iconst 3, 1) := by decide +kernel
theorem dX12_stateIn_38 : decode cX12_stateIn 38 = .ok (.goto 4, 3) := by decide +kernel
theorem dX12_stateIn_41 : decode cX12_stateIn 41 = .ok (.iconst 2, 1) := by decide +kernel
theorem dX12_stateIn_42 : decode cX12_stateIn 42 = .ok (.ireturn, 1) := by decide +kernel
theorem dX12_after_0 : decode cX12_after 0 = .ok (.iload_n 1, 1) := by decide +kernel
theorem dX12_after_1 : decode cX12_after 1 = .ok (.ifCond .ne 41, 3) := by decide +kernel
theorem dX12_after_4 : decode cX12_after 4 = .ok (.iload_n 2, 1) := by decide +kernel
theorem dX12_after_5 : decode cX12_after 5 = .ok (.ifCond .ne 7, 3) := by decide +kernel
theorem dX12_after_8 : decode cX12_after 8 = .ok (.iconst 0, 1) := by decide +kernel
theorem dX12_after_9 : decode cX12_after 9 = .ok (.goto 32, 3) := by decide +kernel
theorem dX12_after_12 : decode cX12_after 12 = .ok (.aload_n 0, 1) := by decide +kernel
theorem dX12_after_13 : decode cX12_after 13 = .ok (.getfield 7, 3) := by decide +kernel
theorem dX12_after_16 : decode cX12_after 16 = .ok (.iconst 0, 1) := by decide +kernel
theorem dX12_after_17 : decode cX12_after 17 = .ok (.iaload, 1) := by decide +kernel
theorem dX12_after_18 : decode cX12_after 18 = .ok (.iconst 1, 1) := by decide +kernel
theorem dX12_after_19 : decode cX12_after 19 = .ok (.if_icmp .ne 12, 3) := by decide +kernel
theorem dX12_after_22 : decode cX12_after 22 = .ok (.bipush 8, 2) := by decide +kernel
theorem dX12_after_24 : decode cX12_after 24 = .ok (.iload_n 3, 1) := by decide +kernel
theorem dX12_after_25 : decode cX12_after 25 = .ok (.iadd, 1) := by decide +kernel
theorem dX12_after_26 : decode cX12_after 26 = .ok (.iconst 1, 1) := by decide +kernel
theorem dX12_after_27 : decode cX12_after 27 = .ok (.iadd, 1) := by decide +kernel
theorem dX12_after_28 : decode cX12_after 28 = .ok (.goto 13, 3) := by decide +kernel
theorem dX12_after_31 : decode cX12_after 31 = .ok (.iconst 0, 1) := by decide +kernel
theorem dX12_after_32 : decode cX12_after 32 = .ok (.aload_n 0, 1) := by decide +kernel
theorem dX12_after_33 : decode cX12_after 33 = .ok (.getfield 7, 3) := by decide +kernel
theorem dX12_after_36 : decode cX12_after 36 = .ok (.iconst 0, 1) := by decide +kernel
theorem dX12_after_37 : decode cX12_after 37 = .ok (.iaload, 1) := by decide +kernel
theorem dX12_after_38 : decode cX12_after 38 = .ok (.iadd, 1) := by decide +kernel
theorem dX12_after_39 : decode cX12_after 39 = .ok (.iconst 1, 1) := by decide +kernel
theorem dX12_after_40 : decode cX12_after 40 = .ok (.isub, 1) := by decide +kernel
theorem dX12_after_41 : decode cX12_after 41 = .ok (.ireturn, 1) := by decide +kernel
theorem dX12_after_42 : decode cX12_after 42 = .ok (.iload_n 1, 1) := by decide +kernel
theorem dX12_after_43 : decode cX12_after 43 = .ok (.iconst 3, 1) := by decide +kernel
theorem dX12_after_44 : decode cX12_after 44 = .ok (.if_icmp .ge 21, 3) := by decide +kernel
theorem dX12_after_47 : decode cX12_after 47 = .ok (.iload_n 1, 1) := by decide +kernel
theorem dX12_after_48 : decode cX12_after 48 = .ok (.iconst 1, 1) := by decide +kernel
theorem dX12_after_49 : decode cX12_after 49 = .ok (.if_icmp .ne 12, 3) := by decide +kernel
theorem dX12_after_52 : decode cX12_after 52 = .ok (.bipush 8, 2) := by decide +kernel
theorem dX12_after_54 : decode cX12_after 54 = .ok (.iload_n 3, 1) := by decide +kernel
theorem dX12_after_55 : decode cX12_after 55 = .ok (.iadd, 1) := by decide +kernel
theorem dX12_after_56 : decode cX12_after 56 = .ok (.iconst 1, 1) := by decide +kernel
theorem dX12_after_57 : decode cX12_after 57 = .ok (.iadd, 1) := by decide +kernel
theorem dX12_after_58 : decode cX12_after 58 = .ok (.goto 6, 3) := by decide +kernel
theorem dX12_after_61 : decode cX12_after 61 = .ok (.iload_n 1, 1) := by decide +kernel
theorem dX12_after_62 : decode cX12_after 62 = .ok (.iconst 1, 1) := by decide +kernel
theorem dX12_after_63 : decode cX12_after 63 = .ok (.isub, 1) := by decide +kernel
theorem dX12_after_64 : decode cX12_after 64 = .ok (.ireturn, 1) := by decide +kernel
theorem dX12_after_65 : decode cX12_after 65 = .ok (.iload_n 1, 1) := by decide +kernel
theorem dX12_after_66 : decode cX12_after 66 = .ok (.bipush 6, 2) := by decide +kernel
theorem dX12_after_68 : decode cX12_after 68 = .ok (.if_icmp .ge 16, 3) := by decide +kernel
theorem dX12_after_71 : decode cX12_after 71 = .ok (.iload_n 1, 1) := by decide +kernel
theorem dX12_after_72 : decode cX12_after 72 = .ok (.iconst 4, 1) := by decide +kernel
theorem dX12_after_73 : decode cX12_after 73 = .ok (.if_icmp .ne 7, 3) := by decide +kernel
theorem dX12_after_76 : decode cX12_after 76 = .ok (.iconst 0, 1) := by decide +kernel
theorem dX12_after_77 : decode cX12_after 77 = .ok (.goto 6, 3) := by decide +kernel
theorem dX12_after_80 : decode cX12_after 80 = .ok (.iload_n 1, 1) := by decide +kernel
theorem dX12_after_81 : decode cX12_after 81 = .ok (.iconst 1, 1) := by decide +kernel
theorem dX12_after_82 : decode cX12_after 82 = .ok (.isub, 1) := by decide +kernel
theorem dX12_after_83 : decode cX12_after 83 = .ok (.ireturn, 1) := by decide +kernel
theorem dX12_after_84 : decode cX12_after 84 = .ok (.iload_n 2, 1) := by decide +kernel
theorem dX12_after_85 : decode cX12_after 85 = .ok (.ifCond .ne 7, 3) := by decide +kernel
theorem dX12_after_88 : decode cX12_after 88 = .ok (.iload_n 1, 1) := by decide +kernel
theorem dX12_after_89 : decode cX12_after 89 = .ok (.goto 27, 3) := by decide +kernel
theorem dX12_after_92 : decode cX12_after 92 = .ok (.aload_n 0, 1) := by decide +kernel
theorem dX12_after_93 : decode cX12_after 93 = .ok (.getfield 7, 3) := by decide +kernel
theorem dX12_after_96 : decode cX12_after 96 = .ok (.iconst 1, 1) := by decide +kernel
theorem dX12_after_97 : decode cX12_after 97 = .ok (.iaload, 1) := by decide +kernel
theorem dX12_after_98 : decode cX12_after 98 = .ok (.iconst 1, 1) := by decide +kernel
theorem dX12_after_99 : decode cX12_after 99 = .ok (.if_icmp .ne 7, 3) := by decide +kernel
theorem dX12_after_102 : decode cX12_after 102 = .ok (.iconst 0, 1) := by decide +kernel
theorem dX12_after_103 : decode cX12_after 103 = .ok (.goto 13, 3) := by decide +kernel
theorem dX12_after_106 : decode cX12_after 106 = .ok (.iconst 3, 1) := by decide +kernel
theorem dX12_after_107 : decode cX12_after 107 = .ok (.aload_n 0, 1) := by decide +kernel
theorem dX12_after_108 : decode cX12_after 108 = .ok (.getfield 7, 3) := by decide +kernel
theorem dX12_after_111 : decode cX12_after 111 = .ok (.iconst 1, 1) := by decide +kernel
theorem dX12_after_112 : decode cX12_after 112 = .ok (.iaload, 1) := by decide +kernel
theorem dX12_after_113 : decode cX12_after 113 = .ok (.iadd, 1) := by decide +kernel
theorem dX12_after_114 : decode cX12_after 114 = .ok (.iconst 1, 1) := by decide +kernel
theorem dX12_after_115 : decode cX12_after 115 = .ok (.isub, 1) := by decide +kernel
theorem dX12_after_116 : decode cX12_after 116 = .ok (.ireturn, 1) := by decide +kernel
set_option maxRecDepth 20000 in
theorem ggX12_waterIn_X12_stateIn : GoodIn wsX12_waterIn wsX12_stateIn := goodIn_r _ [6] (by decide +kernel) (by decide +kernel)
set_option maxRecDepth 20000 in
theorem gX12_waterIn_X12_stateIn : GoodIn wsX12_waterIn (va_wsS RX12 99 yX12_stateIn wsX12_stateIn) := goodIn_app (goodIn_of _ (by decide +kernel)) ggX12_waterIn_X12_stateIn
theorem dX12_waterIn_0 : decode cX12_waterIn 0 = .ok (.iload_n 2, 1) := by decide +kernel
theorem dX12_waterIn_1 : decode cX12_waterIn 1 = .ok (.iload_n 3, 1) := by decide +kernel
theorem dX12_waterIn_2 : decode cX12_waterIn 2 = .ok (.invokestatic 99, 3) := by decide +kernel
theorem dX12_waterIn_5 : decode cX12_waterIn 5 = .ok (.iconst 2, 1) := by decide +kernel
theorem dX12_waterIn_6 : decode cX12_waterIn 6 = .ok (.if_icmp .eq 16, 3) := by decide +kernel
theorem dX12_waterIn_9 : decode cX12_waterIn 9 = .ok (.aload_n 0, 1) := by decide +kernel
theorem dX12_waterIn_10 : decode cX12_waterIn 10 = .ok (.getfield 28, 3) := by decide +kernel
theorem dX12_waterIn_13 : decode cX12_waterIn 13 = .ok (.bipush 8, 2) := by decide +kernel
theorem dX12_waterIn_15 : decode cX12_waterIn 15 = .ok (.iload_n 1, 1) := by decide +kernel
theorem dX12_waterIn_16 : decode cX12_waterIn 16 = .ok (.imul, 1) := by decide +kernel
theorem dX12_waterIn_17 : decode cX12_waterIn 17 = .ok (.iload 4, 2) := by decide +kernel
theorem dX12_waterIn_19 : decode cX12_waterIn 19 = .ok (.iadd, 1) := by decide +kernel
theorem dX12_waterIn_20 : decode cX12_waterIn 20 = .ok (.iaload, 1) := by decide +kernel
theorem dX12_waterIn_21 : decode cX12_waterIn 21 = .ok (.ireturn, 1) := by decide +kernel
theorem dX12_waterIn_22 : decode cX12_waterIn 22 = .ok (.iload_n 2, 1) := by decide +kernel
theorem dX12_waterIn_23 : decode cX12_waterIn 23 = .ok (.bipush 8, 2) := by decide +kernel
theorem dX12_waterIn_25 : decode cX12_waterIn 25 = .ok (.isub, 1) := by decide +kernel
theorem dX12_waterIn_26 : decode cX12_waterIn 26 = .ok (.istore 5, 2) := by decide +kernel
theorem dX12_waterIn_28 : decode cX12_waterIn 28 = .ok (.aload_n 0, 1) := by decide +kernel
theorem dX12_waterIn_29 : decode cX12_waterIn 29 = .ok (.getfield 28, 3) := by decide +kernel
theorem dX12_waterIn_32 : decode cX12_waterIn 32 = .ok (.bipush 8, 2) := by decide +kernel
theorem dX12_waterIn_34 : decode cX12_waterIn 34 = .ok (.iload_n 1, 1) := by decide +kernel
theorem dX12_waterIn_35 : decode cX12_waterIn 35 = .ok (.imul, 1) := by decide +kernel
theorem dX12_waterIn_36 : decode cX12_waterIn 36 = .ok (.iload 5, 2) := by decide +kernel
theorem dX12_waterIn_38 : decode cX12_waterIn 38 = .ok (.iadd, 1) := by decide +kernel
theorem dX12_waterIn_39 : decode cX12_waterIn 39 = .ok (.iconst 1, 1) := by decide +kernel
theorem dX12_waterIn_40 : decode cX12_waterIn 40 = .ok (.isub, 1) := by decide +kernel
theorem dX12_waterIn_41 : decode cX12_waterIn 41 = .ok (.iaload, 1) := by decide +kernel
theorem dX12_waterIn_42 : decode cX12_waterIn 42 = .ok (.istore 6, 2) := by decide +kernel
theorem dX12_waterIn_44 : decode cX12_waterIn 44 = .ok (.iload 5, 2) := by decide +kernel
theorem dX12_waterIn_46 : decode cX12_waterIn 46 = .ok (.istore 7, 2) := by decide +kernel
theorem dX12_waterIn_48 : decode cX12_waterIn 48 = .ok (.iload 7, 2) := by decide +kernel
theorem dX12_waterIn_50 : decode cX12_waterIn 50 = .ok (.iload 4, 2) := by decide +kernel
theorem dX12_waterIn_52 : decode cX12_waterIn 52 = .ok (.if_icmp .gt 21, 3) := by decide +kernel
theorem dX12_waterIn_55 : decode cX12_waterIn 55 = .ok (.iload 6, 2) := by decide +kernel
theorem dX12_waterIn_57 : decode cX12_waterIn 57 = .ok (.aload_n 0, 1) := by decide +kernel
theorem dX12_waterIn_58 : decode cX12_waterIn 58 = .ok (.getfield 13, 3) := by decide +kernel
theorem dX12_waterIn_61 : decode cX12_waterIn 61 = .ok (.iload 7, 2) := by decide +kernel
theorem dX12_waterIn_63 : decode cX12_waterIn 63 = .ok (.iaload, 1) := by decide +kernel
theorem dX12_waterIn_64 : decode cX12_waterIn 64 = .ok (.iadd, 1) := by decide +kernel
theorem dX12_waterIn_65 : decode cX12_waterIn 65 = .ok (.istore 6, 2) := by decide +kernel
theorem dX12_waterIn_67 : decode cX12_waterIn 67 = .ok (.iinc 7 1, 3) := by decide +kernel
theorem dX12_waterIn_70 : decode cX12_waterIn 70 = .ok (.goto (-22), 3) := by decide +kernel
theorem dX12_waterIn_73 : decode cX12_waterIn 73 = .ok (.iload 6, 2) := by decide +kernel
theorem dX12_waterIn_75 : decode cX12_waterIn 75 = .ok (.ireturn, 1) := by decide +kernel
set_option maxRecDepth 20000 in
theorem ggX12_lostIn_X12_stateIn : GoodIn wsX12_lostIn wsX12_stateIn := goodIn_r _ [6] (by decide +kernel) (by decide +kernel)
set_option maxRecDepth 20000 in
theorem gX12_lostIn_X12_stateIn : GoodIn wsX12_lostIn (va_wsS RX12 99 yX12_stateIn wsX12_stateIn) := goodIn_app (goodIn_of _ (by decide +kernel)) ggX12_lostIn_X12_stateIn
set_option maxRecDepth 20000 in
theorem ggX12_lostIn_X12_waterIn : GoodIn wsX12_lostIn wsX12_waterIn := goodIn_r _ [10, 2, 11, 3, 4, 5, 6, 12, 13, 14, 15, 16, 17, 18, 19, 20, 21, 22, 23, 24, 25, 26, 27, 28, 29, 30, 31, 32, 33] (by decide +kernel) (by decide +kernel)
set_option maxRecDepth 20000 in
theorem gX12_lostIn_X12_waterIn : GoodIn wsX12_lostIn (wsV RX12 103 RX12 yX12_waterIn wsX12_waterIn) := goodIn_app (goodIn_of _ (by decide +kernel)) ggX12_lostIn_X12_waterIn
theorem dX12_lostIn_0 : decode cX12_lostIn 0 = .ok (.iload_n 2, 1) := by decide +kernel
theorem dX12_lostIn_1 : decode cX12_lostIn 1 = .ok (.ifCond .ne 16, 3) := by decide +kernel
theorem dX12_lostIn_4 : decode cX12_lostIn 4 = .ok (.iload_n 3, 1) := by decide +kernel
theorem dX12_lostIn_5 : decode cX12_lostIn 5 = .ok (.ifCond .eq 12, 3) := by decide +kernel
theorem dX12_lostIn_8 : decode cX12_lostIn 8 = .ok (.aload_n 0, 1) := by decide +kernel
theorem dX12_lostIn_9 : decode cX12_lostIn 9 = .ok (.getfield 7, 3) := by decide +kernel
theorem dX12_lostIn_12 : decode cX12_lostIn 12 = .ok (.iconst 4, 1) := by decide +kernel
theorem dX12_lostIn_13 : decode cX12_lostIn 13 = .ok (.iaload, 1) := by decide +kernel
theorem dX12_lostIn_14 : decode cX12_lostIn 14 = .ok (.goto 4, 3) := by decide +kernel
theorem dX12_lostIn_17 : decode cX12_lostIn 17 = .ok (.iconst 0, 1) := by decide +kernel
theorem dX12_lostIn_18 : decode cX12_lostIn 18 = .ok (.istore 5, 2) := by decide +kernel
theorem dX12_lostIn_20 : decode cX12_lostIn 20 = .ok (.iload_n 2, 1) := by decide +kernel
theorem dX12_lostIn_21 : decode cX12_lostIn 21 = .ok (.iload_n 3, 1) := by decide +kernel
theorem dX12_lostIn_22 : decode cX12_lostIn 22 = .ok (.invokestatic 99, 3) := by decide +kernel
theorem dX12_lostIn_25 : decode cX12_lostIn 25 = .ok (.iconst 2, 1) := by decide +kernel
theorem dX12_lostIn_26 : decode cX12_lostIn 26 = .ok (.if_icmp .ne 57, 3) := by decide +kernel
theorem dX12_lostIn_29 : decode cX12_lostIn 29 = .ok (.aload_n 0, 1) := by decide +kernel
theorem dX12_lostIn_30 : decode cX12_lostIn 30 = .ok (.iload_n 1, 1) := by decide +kernel
theorem dX12_lostIn_31 : decode cX12_lostIn 31 = .ok (.iload_n 2, 1) := by decide +kernel
theorem dX12_lostIn_32 : decode cX12_lostIn 32 = .ok (.iload_n 3, 1) := by decide +kernel
theorem dX12_lostIn_33 : decode cX12_lostIn 33 = .ok (.iload 4, 2) := by decide +kernel
theorem dX12_lostIn_35 : decode cX12_lostIn 35 = .ok (.invokevirtual 103, 3) := by decide +kernel
theorem dX12_lostIn_38 : decode cX12_lostIn 38 = .ok (.istore 6, 2) := by decide +kernel
theorem dX12_lostIn_40 : decode cX12_lostIn 40 = .ok (.iload 5, 2) := by decide +kernel
theorem dX12_lostIn_42 : decode cX12_lostIn 42 = .ok (.aload_n 0, 1) := by decide +kernel
theorem dX12_lostIn_43 : decode cX12_lostIn 43 = .ok (.getfield 7, 3) := by decide +kernel
theorem dX12_lostIn_46 : decode cX12_lostIn 46 = .ok (.iconst 5, 1) := by decide +kernel
theorem dX12_lostIn_47 : decode cX12_lostIn 47 = .ok (.iaload, 1) := by decide +kernel
theorem dX12_lostIn_48 : decode cX12_lostIn 48 = .ok (.iadd, 1) := by decide +kernel
theorem dX12_lostIn_49 : decode cX12_lostIn 49 = .ok (.iload 6, 2) := by decide +kernel
theorem dX12_lostIn_51 : decode cX12_lostIn 51 = .ok (.aload_n 0, 1) := by decide +kernel
theorem dX12_lostIn_52 : decode cX12_lostIn 52 = .ok (.getfield 7, 3) := by decide +kernel
theorem dX12_lostIn_55 : decode cX12_lostIn 55 = .ok (.iconst 3, 1) := by decide +kernel
theorem dX12_lostIn_56 : decode cX12_lostIn 56 = .ok (.iaload, 1) := by decide +kernel
theorem dX12_lostIn_57 : decode cX12_lostIn 57 = .ok (.if_icmp .le 23, 3) := by decide +kernel
theorem dX12_lostIn_60 : decode cX12_lostIn 60 = .ok (.aload_n 0, 1) := by decide +kernel
theorem dX12_lostIn_61 : decode cX12_lostIn 61 = .ok (.getfield 7, 3) := by decide +kernel
theorem dX12_lostIn_64 : decode cX12_lostIn 64 = .ok (.bipush 7, 2) := by decide +kernel
theorem dX12_lostIn_66 : decode cX12_lostIn 66 = .ok (.iaload, 1) := by decide +kernel
theorem dX12_lostIn_67 : decode cX12_lostIn 67 = .ok (.iload 6, 2) := by decide +kernel
theorem dX12_lostIn_69 : decode cX12_lostIn 69 = .ok (.aload_n 0, 1) := by decide +kernel
theorem dX12_lostIn_70 : decode cX12_lostIn 70 = .ok (.getfield 7, 3) := by decide +kernel
theorem dX12_lostIn_73 : decode cX12_lostIn 73 = .ok (.iconst 3, 1) := by decide +kernel
theorem dX12_lostIn_74 : decode cX12_lostIn 74 = .ok (.iaload, 1) := by decide +kernel
theorem dX12_lostIn_75 : decode cX12_lostIn 75 = .ok (.isub, 1) := by decide +kernel
theorem dX12_lostIn_76 : decode cX12_lostIn 76 = .ok (.imul, 1) := by decide +kernel
theorem dX12_lostIn_77 : decode cX12_lostIn 77 = .ok (.goto 4, 3) := by decide +kernel
theorem dX12_lostIn_80 : decode cX12_lostIn 80 = .ok (.iconst 0, 1) := by decide +kernel
theorem dX12_lostIn_81 : decode cX12_lostIn 81 = .ok (.iadd, 1) := by decide +kernel
theorem dX12_lostIn_82 : decode cX12_lostIn 82 = .ok (.ireturn, 1) := by decide +kernel
theorem dX12_lostIn_83 : decode cX12_lostIn 83 = .ok (.aload_n 0, 1) := by decide +kernel
theorem dX12_lostIn_84 : decode cX12_lostIn 84 = .ok (.getfield 28, 3) := by decide +kernel
theorem dX12_lostIn_87 : decode cX12_lostIn 87 = .ok (.bipush 8, 2) := by decide +kernel
theorem dX12_lostIn_89 : decode cX12_lostIn 89 = .ok (.iload_n 1, 1) := by decide +kernel
theorem dX12_lostIn_90 : decode cX12_lostIn 90 = .ok (.imul, 1) := by decide +kernel
theorem dX12_lostIn_91 : decode cX12_lostIn 91 = .ok (.iload 4, 2) := by decide +kernel
theorem dX12_lostIn_93 : decode cX12_lostIn 93 = .ok (.iadd, 1) := by decide +kernel
theorem dX12_lostIn_94 : decode cX12_lostIn 94 = .ok (.iaload, 1) := by decide +kernel
theorem dX12_lostIn_95 : decode cX12_lostIn 95 = .ok (.istore 6, 2) := by decide +kernel
theorem dX12_lostIn_97 : decode cX12_lostIn 97 = .ok (.iload 5, 2) := by decide +kernel
theorem dX12_lostIn_99 : decode cX12_lostIn 99 = .ok (.iload 6, 2) := by decide +kernel
theorem dX12_lostIn_101 : decode cX12_lostIn 101 = .ok (.aload_n 0, 1) := by decide +kernel
theorem dX12_lostIn_102 : decode cX12_lostIn 102 = .ok (.getfield 7, 3) := by decide +kernel
theorem dX12_lostIn_105 : decode cX12_lostIn 105 = .ok (.iconst 2, 1) := by decide +kernel
theorem dX12_lostIn_106 : decode cX12_lostIn 106 = .ok (.iaload, 1) := by decide +kernel
theorem dX12_lostIn_107 : decode cX12_lostIn 107 = .ok (.if_icmp .le 23, 3) := by decide +kernel
theorem dX12_lostIn_110 : decode cX12_lostIn 110 = .ok (.aload_n 0, 1) := by decide +kernel
theorem dX12_lostIn_111 : decode cX12_lostIn 111 = .ok (.getfield 7, 3) := by decide +kernel
theorem dX12_lostIn_114 : decode cX12_lostIn 114 = .ok (.bipush 6, 2) := by decide +kernel
theorem dX12_lostIn_116 : decode cX12_lostIn 116 = .ok (.iaload, 1) := by decide +kernel
theorem dX12_lostIn_117 : decode cX12_lostIn 117 = .ok (.iload 6, 2) := by decide +kernel
theorem dX12_lostIn_119 : decode cX12_lostIn 119 = .ok (.aload_n 0, 1) := by decide +kernel
theorem dX12_lostIn_120 : decode cX12_lostIn 120 = .ok (.getfield 7, 3) := by decide +kernel
theorem dX12_lostIn_123 : decode cX12_lostIn 123 = .ok (.iconst 2, 1) := by decide +kernel
theorem dX12_lostIn_124 : decode cX12_lostIn 124 = .ok (.iaload, 1) := by decide +kernel
theorem dX12_lostIn_125 : decode cX12_lostIn 125 = .ok (.isub, 1) := by decide +kernel
theorem dX12_lostIn_126 : decode cX12_lostIn 126 = .ok (.imul, 1) := by decide +kernel
theorem dX12_lostIn_127 : decode cX12_lostIn 127 = .ok (.goto 4, 3) := by decide +kernel
theorem dX12_lostIn_130 : decode cX12_lostIn 130 = .ok (.iconst 0, 1) := by decide +kernel
theorem dX12_lostIn_131 : decode cX12_lostIn 131 = .ok (.iadd, 1) := by decide +kernel
theorem dX12_lostIn_132 : decode cX12_lostIn 132 = .ok (.ireturn, 1) := by decide +kernel
set_option maxRecDepth 20000 in
theorem ggX12_lossBy_X12_after : GoodIn wsX12_lossBy wsX12_after := goodIn_r _ [8, 9, 27, 28, 29, 30, 31, 32, 33, 34, 35, 36, 37, 38, 39, 40, 41, 42, 43, 44, 45, 46, 47, 48] (by decide +kernel) (by decide +kernel)
set_option maxRecDepth 20000 in
theorem gX12_lossBy_X12_after : GoodIn wsX12_lossBy (wsV RX12 107 RX12 yX12_after wsX12_after) := goodIn_app (goodIn_of _ (by decide +kernel)) ggX12_lossBy_X12_after
set_option maxRecDepth 20000 in
theorem ggX12_lossBy_X12_groupOf : GoodIn wsX12_lossBy wsX12_groupOf := goodIn_r _ [13, 14, 27, 28, 29, 30, 31, 32, 33, 34, 35, 36, 37, 38, 39, 40, 41, 42, 43, 44, 45, 46, 47, 48] (by decide +kernel) (by decide +kernel)
set_option maxRecDepth 20000 in
theorem gX12_lossBy_X12_groupOf : GoodIn wsX12_lossBy (wsV RX12 111 RX12 yX12_groupOf wsX12_groupOf) := goodIn_app (goodIn_of _ (by decide +kernel)) ggX12_lossBy_X12_groupOf
set_option maxRecDepth 20000 in
theorem ggX12_lossBy_X12_lostIn : GoodIn wsX12_lossBy wsX12_lostIn := goodIn_r _ [18, 9, 14, 19, 20, 7, 21, 22, 23, 24, 25, 26, 27, 28, 29, 30, 31, 32, 33, 34, 35, 36, 37, 38, 39, 40, 41, 42, 43, 44, 45, 46, 47, 48] (by decide +kernel) (by decide +kernel)
set_option maxRecDepth 20000 in
theorem gX12_lossBy_X12_lostIn : GoodIn wsX12_lossBy (wsV RX12 115 RX12 yX12_lostIn wsX12_lostIn) := goodIn_app (goodIn_of _ (by decide +kernel)) ggX12_lossBy_X12_lostIn
theorem dX12_lossBy_0 : decode cX12_lossBy 0 = .ok (.lconst 0, 1) := by decide +kernel
theorem dX12_lossBy_1 : decode cX12_lossBy 1 = .ok (.lstore 5, 2) := by decide +kernel
theorem dX12_lossBy_3 : decode cX12_lossBy 3 = .ok (.aload_n 0, 1) := by decide +kernel
theorem dX12_lossBy_4 : decode cX12_lossBy 4 = .ok (.iload_n 2, 1) := by decide +kernel
theorem dX12_lossBy_5 : decode cX12_lossBy 5 = .ok (.iload_n 3, 1) := by decide +kernel
theorem dX12_lossBy_6 : decode cX12_lossBy 6 = .ok (.iload 4, 2) := by decide +kernel
theorem dX12_lossBy_8 : decode cX12_lossBy 8 = .ok (.invokevirtual 107, 3) := by decide +kernel
theorem dX12_lossBy_11 : decode cX12_lossBy 11 = .ok (.istore 7, 2) := by decide +kernel
theorem dX12_lossBy_13 : decode cX12_lossBy 13 = .ok (.iload_n 1, 1) := by decide +kernel
theorem dX12_lossBy_14 : decode cX12_lossBy 14 = .ok (.istore 8, 2) := by decide +kernel
theorem dX12_lossBy_16 : decode cX12_lossBy 16 = .ok (.iload 8, 2) := by decide +kernel
theorem dX12_lossBy_18 : decode cX12_lossBy 18 = .ok (.aload_n 0, 1) := by decide +kernel
theorem dX12_lossBy_19 : decode cX12_lossBy 19 = .ok (.getfield 87, 3) := by decide +kernel
theorem dX12_lossBy_22 : decode cX12_lossBy 22 = .ok (.if_icmp .ge 99, 3) := by decide +kernel
theorem dX12_lossBy_25 : decode cX12_lossBy 25 = .ok (.aload_n 0, 1) := by decide +kernel
theorem dX12_lossBy_26 : decode cX12_lossBy 26 = .ok (.iload 8, 2) := by decide +kernel
theorem dX12_lossBy_28 : decode cX12_lossBy 28 = .ok (.iload 4, 2) := by decide +kernel
theorem dX12_lossBy_30 : decode cX12_lossBy 30 = .ok (.invokevirtual 111, 3) := by decide +kernel
theorem dX12_lossBy_33 : decode cX12_lossBy 33 = .ok (.iload_n 1, 1) := by decide +kernel
theorem dX12_lossBy_34 : decode cX12_lossBy 34 = .ok (.if_icmp .ne 81, 3) := by decide +kernel
theorem dX12_lossBy_37 : decode cX12_lossBy 37 = .ok (.lload 5, 2) := by decide +kernel
theorem dX12_lossBy_39 : decode cX12_lossBy 39 = .ok (.aload_n 0, 1) := by decide +kernel
theorem dX12_lossBy_40 : decode cX12_lossBy 40 = .ok (.getfield 25, 3) := by decide +kernel
theorem dX12_lossBy_43 : decode cX12_lossBy 43 = .ok (.iload 8, 2) := by decide +kernel
theorem dX12_lossBy_45 : decode cX12_lossBy 45 = .ok (.iaload, 1) := by decide +kernel
theorem dX12_lossBy_46 : decode cX12_lossBy 46 = .ok (.i2l, 1) := by decide +kernel
theorem dX12_lossBy_47 : decode cX12_lossBy 47 = .ok (.aload_n 0, 1) := by decide +kernel
theorem dX12_lossBy_48 : decode cX12_lossBy 48 = .ok (.iload 8, 2) := by decide +kernel
theorem dX12_lossBy_50 : decode cX12_lossBy 50 = .ok (.iload_n 2, 1) := by decide +kernel
theorem dX12_lossBy_51 : decode cX12_lossBy 51 = .ok (.iload_n 3, 1) := by decide +kernel
theorem dX12_lossBy_52 : decode cX12_lossBy 52 = .ok (.iload 4, 2) := by decide +kernel
theorem dX12_lossBy_54 : decode cX12_lossBy 54 = .ok (.invokevirtual 115, 3) := by decide +kernel
theorem dX12_lossBy_57 : decode cX12_lossBy 57 = .ok (.i2l, 1) := by decide +kernel
theorem dX12_lossBy_58 : decode cX12_lossBy 58 = .ok (.lmul, 1) := by decide +kernel
theorem dX12_lossBy_59 : decode cX12_lossBy 59 = .ok (.ladd, 1) := by decide +kernel
theorem dX12_lossBy_60 : decode cX12_lossBy 60 = .ok (.lstore 5, 2) := by decide +kernel
theorem dX12_lossBy_62 : decode cX12_lossBy 62 = .ok (.lload 5, 2) := by decide +kernel
theorem dX12_lossBy_64 : decode cX12_lossBy 64 = .ok (.iload 4, 2) := by decide +kernel
theorem dX12_lossBy_66 : decode cX12_lossBy 66 = .ok (.bipush 7, 2) := by decide +kernel
theorem dX12_lossBy_68 : decode cX12_lossBy 68 = .ok (.if_icmp .ge 43, 3) := by decide +kernel
theorem dX12_lossBy_71 : decode cX12_lossBy 71 = .ok (.aload_n 0, 1) := by decide +kernel
theorem dX12_lossBy_72 : decode cX12_lossBy 72 = .ok (.iload 8, 2) := by decide +kernel
theorem dX12_lossBy_74 : decode cX12_lossBy 74 = .ok (.iload 4, 2) := by decide +kernel
theorem dX12_lossBy_76 : decode cX12_lossBy 76 = .ok (.iconst 1, 1) := by decide +kernel
theorem dX12_lossBy_77 : decode cX12_lossBy 77 = .ok (.iadd, 1) := by decide +kernel
theorem dX12_lossBy_78 : decode cX12_lossBy 78 = .ok (.invokevirtual 111, 3) := by decide +kernel
theorem dX12_lossBy_81 : decode cX12_lossBy 81 = .ok (.iload 8, 2) := by decide +kernel
theorem dX12_lossBy_83 : decode cX12_lossBy 83 = .ok (.if_icmp .ne 28, 3) := by decide +kernel
theorem dX12_lossBy_86 : decode cX12_lossBy 86 = .ok (.aload_n 0, 1) := by decide +kernel
theorem dX12_lossBy_87 : decode cX12_lossBy 87 = .ok (.getfield 31, 3) := by decide +kernel
theorem dX12_lossBy_90 : decode cX12_lossBy 90 = .ok (.sipush 128, 3) := by decide +kernel
theorem dX12_lossBy_93 : decode cX12_lossBy 93 = .ok (.iload 4, 2) := by decide +kernel
theorem dX12_lossBy_95 : decode cX12_lossBy 95 = .ok (.iconst 1, 1) := by decide +kernel
theorem dX12_lossBy_96 : decode cX12_lossBy 96 = .ok (.iadd, 1) := by decide +kernel
theorem dX12_lossBy_97 : decode cX12_lossBy 97 = .ok (.imul, 1) := by decide +kernel
theorem dX12_lossBy_98 : decode cX12_lossBy 98 = .ok (.bipush 16, 2) := by decide +kernel
theorem dX12_lossBy_100 : decode cX12_lossBy 100 = .ok (.iload 8, 2) := by decide +kernel
theorem dX12_lossBy_102 : decode cX12_lossBy 102 = .ok (.imul, 1) := by decide +kernel
theorem dX12_lossBy_103 : decode cX12_lossBy 103 = .ok (.iadd, 1) := by decide +kernel
theorem dX12_lossBy_104 : decode cX12_lossBy 104 = .ok (.iload 7, 2) := by decide +kernel
theorem dX12_lossBy_106 : decode cX12_lossBy 106 = .ok (.iadd, 1) := by decide +kernel
theorem dX12_lossBy_107 : decode cX12_lossBy 107 = .ok (.laload, 1) := by decide +kernel
theorem dX12_lossBy_108 : decode cX12_lossBy 108 = .ok (.goto 4, 3) := by decide +kernel
theorem dX12_lossBy_111 : decode cX12_lossBy 111 = .ok (.lconst 0, 1) := by decide +kernel
theorem dX12_lossBy_112 : decode cX12_lossBy 112 = .ok (.ladd, 1) := by decide +kernel
theorem dX12_lossBy_113 : decode cX12_lossBy 113 = .ok (.lstore 5, 2) := by decide +kernel
theorem dX12_lossBy_115 : decode cX12_lossBy 115 = .ok (.iinc 8 1, 3) := by decide +kernel
theorem dX12_lossBy_118 : decode cX12_lossBy 118 = .ok (.goto (-102), 3) := by decide +kernel
theorem dX12_lossBy_121 : decode cX12_lossBy 121 = .ok (.lload 5, 2) := by decide +kernel
theorem dX12_lossBy_123 : decode cX12_lossBy 123 = .ok (.lreturn, 1) := by decide +kernel
set_option maxRecDepth 20000 in
theorem ggX12_findBest_X12_groupOf : GoodIn wsX12_findBest wsX12_groupOf := goodIn_r _ [8, 9, 32, 33, 34, 35, 36, 37, 38, 39, 40, 41, 42, 43, 44, 45, 46, 47, 48, 49, 50, 51, 52, 53] (by decide +kernel) (by decide +kernel)
set_option maxRecDepth 20000 in
theorem gX12_findBest_X12_groupOf : GoodIn wsX12_findBest (wsV RX12 111 RX12 yX12_groupOf wsX12_groupOf) := goodIn_app (goodIn_of _ (by decide +kernel)) ggX12_findBest_X12_groupOf
set_option maxRecDepth 20000 in
theorem ggX12_findBest_X12_lossBy : GoodIn wsX12_findBest wsX12_lossBy := goodIn_r _ [13, 1, 14, 2, 15, 16, 17, 7, 18, 19, 4, 5, 6, 8, 9, 20, 21, 22, 23, 24, 25, 26, 27, 28, 29, 30, 31, 32, 33, 34, 35, 36, 37, 38, 39, 40, 41, 42, 43, 44, 45, 46, 47, 48, 49, 50, 51, 52, 53] (by decide +kernel) (by decide +kernel)
set_option maxRecDepth 20000 in
theorem gX12_findBest_X12_lossBy : GoodIn wsX12_findBest (wsV RX12 118 RX12 yX12_lossBy wsX12_lossBy) := goodIn_app (goodIn_of _ (by decide +kernel)) ggX12_findBest_X12_lossBy
theorem dX12_findBest_0 : decode cX12_findBest 0 = .ok (.bipush 7, 2) := by decide +kernel
theorem dX12_findBest_2 : decode cX12_findBest 2 = .ok (.istore_n 1, 1) := by decide +kernel
theorem dX12_findBest_3 : decode cX12_findBest 3 = .ok (.iload_n 1, 1) := by decide +kernel
theorem dX12_findBest_4 : decode cX12_findBest 4 = .ok (.ifCond .lt 187, 3) := by decide +kernel
theorem dX12_findBest_7 : decode cX12_findBest 7 = .ok (.iconst 0, 1) := by decide +kernel
theorem dX12_findBest_8 : decode cX12_findBest 8 = .ok (.istore_n 2, 1) := by decide +kernel
theorem dX12_findBest_9 : decode cX12_findBest 9 = .ok (.iload_n 2, 1) := by decide +kernel
theorem dX12_findBest_10 : decode cX12_findBest 10 = .ok (.aload_n 0, 1) := by decide +kernel
theorem dX12_findBest_11 : decode cX12_findBest 11 = .ok (.getfield 87, 3) := by decide +kernel
theorem dX12_findBest_14 : decode cX12_findBest 14 = .ok (.if_icmp .ge 171, 3) := by decide +kernel
theorem dX12_findBest_17 : decode cX12_findBest 17 = .ok (.iconst 0, 1) := by decide +kernel
theorem dX12_findBest_18 : decode cX12_findBest 18 = .ok (.istore_n 3, 1) := by decide +kernel
theorem dX12_findBest_19 : decode cX12_findBest 19 = .ok (.iload_n 3, 1) := by decide +kernel
theorem dX12_findBest_20 : decode cX12_findBest 20 = .ok (.bipush 16, 2) := by decide +kernel
theorem dX12_findBest_22 : decode cX12_findBest 22 = .ok (.if_icmp .ge 157, 3) := by decide +kernel
theorem dX12_findBest_25 : decode cX12_findBest 25 = .ok (.iload_n 3, 1) := by decide +kernel
theorem dX12_findBest_26 : decode cX12_findBest 26 = .ok (.iconst 3, 1) := by decide +kernel
theorem dX12_findBest_27 : decode cX12_findBest 27 = .ok (.if_icmp .lt 27, 3) := by decide +kernel
theorem dX12_findBest_30 : decode cX12_findBest 30 = .ok (.iload_n 3, 1) := by decide +kernel
theorem dX12_findBest_31 : decode cX12_findBest 31 = .ok (.iconst 4, 1) := by decide +kernel
theorem dX12_findBest_32 : decode cX12_findBest 32 = .ok (.if_icmp .eq 22, 3) := by decide +kernel
theorem dX12_findBest_35 : decode cX12_findBest 35 = .ok (.iload_n 3, 1) := by decide +kernel
theorem dX12_findBest_36 : decode cX12_findBest 36 = .ok (.iconst 5, 1) := by decide +kernel
theorem dX12_findBest_37 : decode cX12_findBest 37 = .ok (.if_icmp .eq 17, 3) := by decide +kernel
theorem dX12_findBest_40 : decode cX12_findBest 40 = .ok (.iload_n 3, 1) := by decide +kernel
theorem dX12_findBest_41 : decode cX12_findBest 41 = .ok (.bipush 8, 2) := by decide +kernel
theorem dX12_findBest_43 : decode cX12_findBest 43 = .ok (.if_icmp .le 15, 3) := by decide +kernel
theorem dX12_findBest_46 : decode cX12_findBest 46 = .ok (.iload_n 3, 1) := by decide +kernel
theorem dX12_findBest_47 : decode cX12_findBest 47 = .ok (.bipush 8, 2) := by decide +kernel
theorem dX12_findBest_49 : decode cX12_findBest 49 = .ok (.iload_n 1, 1) := by decide +kernel
theorem dX12_findBest_50 : decode cX12_findBest 50 = .ok (.iadd, 1) := by decide +kernel
theorem dX12_findBest_51 : decode cX12_findBest 51 = .ok (.if_icmp .gt 7, 3) := by decide +kernel
theorem dX12_findBest_54 : decode cX12_findBest 54 = .ok (.iconst 1, 1) := by decide +kernel
theorem dX12_findBest_55 : decode cX12_findBest 55 = .ok (.goto 4, 3) := by decide +kernel
theorem dX12_findBest_58 : decode cX12_findBest 58 = .ok (.iconst 0, 1) := by decide +kernel
theorem dX12_findBest_59 : decode cX12_findBest 59 = .ok (.istore 4, 2) := by decide +kernel
theorem dX12_findBest_61 : decode cX12_findBest 61 = .ok (.iload 4, 2) := by decide +kernel
theorem dX12_findBest_63 : decode cX12_findBest 63 = .ok (.ifCond .eq 110, 3) := by decide +kernel
theorem dX12_findBest_66 : decode cX12_findBest 66 = .ok (.aload_n 0, 1) := by decide +kernel
theorem dX12_findBest_67 : decode cX12_findBest 67 = .ok (.iload_n 2, 1) := by decide +kernel
theorem dX12_findBest_68 : decode cX12_findBest 68 = .ok (.iload_n 1, 1) := by decide +kernel
theorem dX12_findBest_69 : decode cX12_findBest 69 = .ok (.invokevirtual 111, 3) := by decide +kernel
theorem dX12_findBest_72 : decode cX12_findBest 72 = .ok (.iload_n 2, 1) := by decide +kernel
theorem dX12_findBest_73 : decode cX12_findBest 73 = .ok (.if_icmp .ne 100, 3) := by decide +kernel
theorem dX12_findBest_76 : decode cX12_findBest 76 = .ok (.sipush 128, 3) := by decide +kernel
theorem dX12_findBest_79 : decode cX12_findBest 79 = .ok (.iload_n 1, 1) := by decide +kernel
theorem dX12_findBest_80 : decode cX12_findBest 80 = .ok (.imul, 1) := by decide +kernel
theorem dX12_findBest_81 : decode cX12_findBest 81 = .ok (.bipush 16, 2) := by decide +kernel
theorem dX12_findBest_83 : decode cX12_findBest 83 = .ok (.iload_n 2, 1) := by decide +kernel
theorem dX12_findBest_84 : decode cX12_findBest 84 = .ok (.imul, 1) := by decide +kernel
theorem dX12_findBest_85 : decode cX12_findBest 85 = .ok (.iadd, 1) := by decide +kernel
theorem dX12_findBest_86 : decode cX12_findBest 86 = .ok (.iload_n 3, 1) := by decide +kernel
theorem dX12_findBest_87 : decode cX12_findBest 87 = .ok (.iadd, 1) := by decide +kernel
theorem dX12_findBest_88 : decode cX12_findBest 88 = .ok (.istore 5, 2) := by decide +kernel
theorem dX12_findBest_90 : decode cX12_findBest 90 = .ok (.aload_n 0, 1) := by decide +kernel
theorem dX12_findBest_91 : decode cX12_findBest 91 = .ok (.getfield 31, 3) := by decide +kernel
theorem dX12_findBest_94 : decode cX12_findBest 94 = .ok (.iload 5, 2) := by decide +kernel
theorem dX12_findBest_96 : decode cX12_findBest 96 = .ok (.aload_n 0, 1) := by decide +kernel
theorem dX12_findBest_97 : decode cX12_findBest 97 = .ok (.iload_n 2, 1) := by decide +kernel
theorem dX12_findBest_98 : decode cX12_findBest 98 = .ok (.iload_n 3, 1) := by decide +kernel
theorem dX12_findBest_99 : decode cX12_findBest 99 = .ok (.iconst 0, 1) := by decide +kernel
theorem dX12_findBest_100 : decode cX12_findBest 100 = .ok (.iload_n 1, 1) := by decide +kernel
theorem dX12_findBest_101 : decode cX12_findBest 101 = .ok (.invokevirtual 118, 3) := by decide +kernel
theorem dX12_findBest_104 : decode cX12_findBest 104 = .ok (.lastore, 1) := by decide +kernel
theorem dX12_findBest_105 : decode cX12_findBest 105 = .ok (.aload_n 0, 1) := by decide +kernel
theorem dX12_findBest_106 : decode cX12_findBest 106 = .ok (.getfield 35, 3) := by decide +kernel
theorem dX12_findBest_109 : decode cX12_findBest 109 = .ok (.iload 5, 2) := by decide +kernel
theorem dX12_findBest_111 : decode cX12_findBest 111 = .ok (.iconst 0, 1) := by decide +kernel
theorem dX12_findBest_112 : decode cX12_findBest 112 = .ok (.bastore, 1) := by decide +kernel
theorem dX12_findBest_113 : decode cX12_findBest 113 = .ok (.iload_n 3, 1) := by decide +kernel
theorem dX12_findBest_114 : decode cX12_findBest 114 = .ok (.ifCond .eq 9, 3) := by decide +kernel
theorem dX12_findBest_117 : decode cX12_findBest 117 = .ok (.iload_n 3, 1) := by decide +kernel
theorem dX12_findBest_118 : decode cX12_findBest 118 = .ok (.bipush 8, 2) := by decide +kernel
theorem dX12_findBest_120 : decode cX12_findBest 120 = .ok (.if_icmp .le 14, 3) := by decide +kernel
theorem dX12_findBest_123 : decode cX12_findBest 123 = .ok (.aload_n 0, 1) := by decide +kernel
theorem dX12_findBest_124 : decode cX12_findBest 124 = .ok (.iload_n 2, 1) := by decide +kernel
theorem dX12_findBest_125 : decode cX12_findBest 125 = .ok (.iload_n 3, 1) := by decide +kernel
theorem dX12_findBest_126 : decode cX12_findBest 126 = .ok (.iconst 1, 1) := by decide +kernel
theorem dX12_findBest_127 : decode cX12_findBest 127 = .ok (.iload_n 1, 1) := by decide +kernel
theorem dX12_findBest_128 : decode cX12_findBest 128 = .ok (.invokevirtual 118, 3) := by decide +kernel
theorem dX12_findBest_131 : decode cX12_findBest 131 = .ok (.goto 10, 3) := by decide +kernel
theorem dX12_findBest_134 : decode cX12_findBest 134 = .ok (.aload_n 0, 1) := by decide +kernel
theorem dX12_findBest_135 : decode cX12_findBest 135 = .ok (.getfield 31, 3) := by decide +kernel
theorem dX12_findBest_138 : decode cX12_findBest 138 = .ok (.iload 5, 2) := by decide +kernel
theorem dX12_findBest_140 : decode cX12_findBest 140 = .ok (.laload, 1) := by decide +kernel
theorem dX12_findBest_141 : decode cX12_findBest 141 = .ok (.lstore 6, 2) := by decide +kernel
theorem dX12_findBest_143 : decode cX12_findBest 143 = .ok (.lload 6, 2) := by decide +kernel
theorem dX12_findBest_145 : decode cX12_findBest 145 = .ok (.aload_n 0, 1) := by decide +kernel
theorem dX12_findBest_146 : decode cX12_findBest 146 = .ok (.getfield 31, 3) := by decide +kernel
theorem dX12_findBest_149 : decode cX12_findBest 149 = .ok (.iload 5, 2) := by decide +kernel
theorem dX12_findBest_151 : decode cX12_findBest 151 = .ok (.laload, 1) := by decide +kernel
theorem dX12_findBest_152 : decode cX12_findBest 152 = .ok (.lcmp, 1) := by decide +kernel
theorem dX12_findBest_153 : decode cX12_findBest 153 = .ok (.ifCond .ge 20, 3) := by decide +kernel
theorem dX12_findBest_156 : decode cX12_findBest 156 = .ok (.aload_n 0, 1) := by decide +kernel
theorem dX12_findBest_157 : decode cX12_findBest 157 = .ok (.getfield 31, 3) := by decide +kernel
theorem dX12_findBest_160 : decode cX12_findBest 160 = .ok (.iload 5, 2) := by decide +kernel
theorem dX12_findBest_162 : decode cX12_findBest 162 = .ok (.lload 6, 2) := by decide +kernel
theorem dX12_findBest_164 : decode cX12_findBest 164 = .ok (.lastore, 1) := by decide +kernel
theorem dX12_findBest_165 : decode cX12_findBest 165 = .ok (.aload_n 0, 1) := by decide +kernel
theorem dX12_findBest_166 : decode cX12_findBest 166 = .ok (.getfield 35, 3) := by decide +kernel
theorem dX12_findBest_169 : decode cX12_findBest 169 = .ok (.iload 5, 2) := by decide +kernel
theorem dX12_findBest_171 : decode cX12_findBest 171 = .ok (.iconst 1, 1) := by decide +kernel
theorem dX12_findBest_172 : decode cX12_findBest 172 = .ok (.bastore, 1) := by decide +kernel
theorem dX12_findBest_173 : decode cX12_findBest 173 = .ok (.iinc 3 1, 3) := by decide +kernel
theorem dX12_findBest_176 : decode cX12_findBest 176 = .ok (.goto (-157), 3) := by decide +kernel
theorem dX12_findBest_179 : decode cX12_findBest 179 = .ok (.iinc 2 1, 3) := by decide +kernel
theorem dX12_findBest_182 : decode cX12_findBest 182 = .ok (.goto (-173), 3) := by decide +kernel
theorem dX12_findBest_185 : decode cX12_findBest 185 = .ok (.iinc 1 (-1), 3) := by decide +kernel
theorem dX12_findBest_188 : decode cX12_findBest 188 = .ok (.goto (-185), 3) := by decide +kernel
theorem dX12_findBest_191 : decode cX12_findBest 191 = .ok (.return_, 1) := by decide +kernel
set_option maxRecDepth 20000 in
theorem ggX12_best_X12_findBest : GoodIn wsX12_best wsX12_findBest := goodIn_r _ [8, 2, 3, 9, 10, 11, 12, 7, 13, 14, 15, 16, 17, 18, 19, 20, 21, 22, 23, 24, 25, 26, 27, 28, 29, 30, 31, 32, 33, 34, 35, 36, 37, 38, 39, 40, 41, 42, 43, 44, 45, 46, 47, 48, 49, 50, 51, 52, 53, 54, 55, 56, 57, 58] (by decide +kernel) (by decide +kernel)
set_option maxRecDepth 20000 in
theorem gX12_best_X12_findBest : GoodIn wsX12_best (wsV RX12 122 RX12 yX12_findBest wsX12_findBest) := goodIn_app (goodIn_of _ (by decide +kernel)) ggX12_best_X12_findBest
set_option maxRecDepth 20000 in
theorem ggX12_best_X12_groupOf : GoodIn wsX12_best wsX12_groupOf := goodIn_r _ [13, 14, 37, 38, 39, 40, 41, 42, 43, 44, 45, 46, 47, 48, 49, 50, 51, 52, 53, 54, 55, 56, 57, 58] (by decide +kernel) (by decide +kernel)
set_option maxRecDepth 20000 in
theorem gX12_best_X12_groupOf : GoodIn wsX12_best (wsV RX12 111 RX12 yX12_groupOf wsX12_groupOf) := goodIn_app (goodIn_of _ (by decide +kernel)) ggX12_best_X12_groupOf
theorem dX12_best_0 : decode cX12_best 0 = .ok (.aload_n 0, 1) := by decide +kernel
theorem dX12_best_1 : decode cX12_best 1 = .ok (.iconst 0, 1) := by decide +kernel
theorem dX12_best_2 : decode cX12_best 2 = .ok (.putfield 60, 3) := by decide +kernel
theorem dX12_best_5 : decode cX12_best 5 = .ok (.aload_n 0, 1) := by decide +kernel
theorem dX12_best_6 : decode cX12_best 6 = .ok (.invokevirtual 122, 3) := by decide +kernel
theorem dX12_best_9 : decode cX12_best 9 = .ok (.lconst 0, 1) := by decide +kernel
theorem dX12_best_10 : decode cX12_best 10 = .ok (.lstore_n 1, 1) := by decide +kernel
theorem dX12_best_11 : decode cX12_best 11 = .ok (.iconst 0, 1) := by decide +kernel
theorem dX12_best_12 : decode cX12_best 12 = .ok (.istore_n 3, 1) := by decide +kernel
theorem dX12_best_13 : decode cX12_best 13 = .ok (.iload_n 3, 1) := by decide +kernel
theorem dX12_best_14 : decode cX12_best 14 = .ok (.aload_n 0, 1) := by decide +kernel
theorem dX12_best_15 : decode cX12_best 15 = .ok (.getfield 87, 3) := by decide +kernel
theorem dX12_best_18 : decode cX12_best 18 = .ok (.if_icmp .ge 35, 3) := by decide +kernel
theorem dX12_best_21 : decode cX12_best 21 = .ok (.lload_n 1, 1) := by decide +kernel
theorem dX12_best_22 : decode cX12_best 22 = .ok (.aload_n 0, 1) := by decide +kernel
theorem dX12_best_23 : decode cX12_best 23 = .ok (.iload_n 3, 1) := by decide +kernel
theorem dX12_best_24 : decode cX12_best 24 = .ok (.iconst 0, 1) := by decide +kernel
theorem dX12_best_25 : decode cX12_best 25 = .ok (.invokevirtual 111, 3) := by decide +kernel
theorem dX12_best_28 : decode cX12_best 28 = .ok (.iload_n 3, 1) := by decide +kernel
theorem dX12_best_29 : decode cX12_best 29 = .ok (.if_icmp .ne 15, 3) := by decide +kernel
theorem dX12_best_32 : decode cX12_best 32 = .ok (.aload_n 0, 1) := by decide +kernel
theorem dX12_best_33 : decode cX12_best 33 = .ok (.getfield 31, 3) := by decide +kernel
theorem dX12_best_36 : decode cX12_best 36 = .ok (.bipush 16, 2) := by decide +kernel
theorem dX12_best_38 : decode cX12_best 38 = .ok (.iload_n 3, 1) := by decide +kernel
theorem dX12_best_39 : decode cX12_best 39 = .ok (.imul, 1) := by decide +kernel
theorem dX12_best_40 : decode cX12_best 40 = .ok (.laload, 1) := by decide +kernel
theorem dX12_best_41 : decode cX12_best 41 = .ok (.goto 4, 3) := by decide +kernel
theorem dX12_best_44 : decode cX12_best 44 = .ok (.lconst 0, 1) := by decide +kernel
theorem dX12_best_45 : decode cX12_best 45 = .ok (.ladd, 1) := by decide +kernel
theorem dX12_best_46 : decode cX12_best 46 = .ok (.lstore_n 1, 1) := by decide +kernel
theorem dX12_best_47 : decode cX12_best 47 = .ok (.iinc 3 1, 3) := by decide +kernel
theorem dX12_best_50 : decode cX12_best 50 = .ok (.goto (-37), 3) := by decide +kernel
theorem dX12_best_53 : decode cX12_best 53 = .ok (.lload_n 1, 1) := by decide +kernel
theorem dX12_best_54 : decode cX12_best 54 = .ok (.lreturn, 1) := by decide +kernel
set_option maxRecDepth 20000 in
theorem ggX12_hour_X12_in : GoodIn wsX12_hour wsX12_in := goodIn_r _ [10] (by decide +kernel) (by decide +kernel)
set_option maxRecDepth 20000 in
theorem gX12_hour_X12_in : GoodIn wsX12_hour (va_wsS RX12 70 yX12_in wsX12_in) := goodIn_app (goodIn_of _ (by decide +kernel)) ggX12_hour_X12_in
set_option maxRecDepth 20000 in
theorem ggX12_hour_X12_findBest : GoodIn wsX12_hour wsX12_findBest := goodIn_r _ [14, 2, 15, 6, 16, 17, 18, 9, 19, 20, 21, 22, 23, 24, 25, 26, 27, 28, 29, 30, 31, 32, 33, 34, 35, 36, 37, 38, 39, 40, 41, 42, 43, 44, 45, 46, 47, 48, 49, 50, 51, 52, 53, 54, 55, 56, 57, 58, 59, 60, 61, 62, 63, 64] (by decide +kernel) (by decide +kernel)
set_option maxRecDepth 20000 in
theorem gX12_hour_X12_findBest : GoodIn wsX12_hour (wsV RX12 122 RX12 yX12_findBest wsX12_findBest) := goodIn_app (goodIn_of _ (by decide +kernel)) ggX12_hour_X12_findBest
set_option maxRecDepth 20000 in
theorem ggX12_hour_X12_groupOf : GoodIn wsX12_hour wsX12_groupOf := goodIn_r _ [19, 20, 43, 44, 45, 46, 47, 48, 49, 50, 51, 52, 53, 54, 55, 56, 57, 58, 59, 60, 61, 62, 63, 64] (by decide +kernel) (by decide +kernel)
set_option maxRecDepth 20000 in
theorem gX12_hour_X12_groupOf : GoodIn wsX12_hour (wsV RX12 111 RX12 yX12_groupOf wsX12_groupOf) := goodIn_app (goodIn_of _ (by decide +kernel)) ggX12_hour_X12_groupOf
set_option maxRecDepth 20000 in
theorem ggX12_hour_X12_after : GoodIn wsX12_hour wsX12_after := goodIn_r _ [29, 30, 43, 44, 45, 46, 47, 48, 49, 50, 51, 52, 53, 54, 55, 56, 57, 58, 59, 60, 61, 62, 63, 64] (by decide +kernel) (by decide +kernel)
set_option maxRecDepth 20000 in
theorem gX12_hour_X12_after : GoodIn wsX12_hour (wsV RX12 107 RX12 yX12_after wsX12_after) := goodIn_app (goodIn_of _ (by decide +kernel)) ggX12_hour_X12_after
set_option maxRecDepth 20000 in
theorem ggX12_hour_X12_stateIn : GoodIn wsX12_hour wsX12_stateIn := goodIn_r _ [37] (by decide +kernel) (by decide +kernel)
set_option maxRecDepth 20000 in
theorem gX12_hour_X12_stateIn : GoodIn wsX12_hour (va_wsS RX12 99 yX12_stateIn wsX12_stateIn) := goodIn_app (goodIn_of _ (by decide +kernel)) ggX12_hour_X12_stateIn
set_option maxRecDepth 20000 in
theorem ggX12_hour_X12_waterIn : GoodIn wsX12_hour wsX12_waterIn := goodIn_r _ [41, 20, 42, 35, 36, 9, 37, 43, 44, 45, 46, 47, 48, 49, 50, 51, 52, 53, 54, 55, 56, 57, 58, 59, 60, 61, 62, 63, 64] (by decide +kernel) (by decide +kernel)
set_option maxRecDepth 20000 in
theorem gX12_hour_X12_waterIn : GoodIn wsX12_hour (wsV RX12 103 RX12 yX12_waterIn wsX12_waterIn) := goodIn_app (goodIn_of _ (by decide +kernel)) ggX12_hour_X12_waterIn
set_option maxRecDepth 20000 in
theorem ggX12_hour_X12_lostIn : GoodIn wsX12_hour wsX12_lostIn := goodIn_r _ [34, 30, 20, 35, 36, 9, 37, 38, 39, 40, 41, 42, 43, 44, 45, 46, 47, 48, 49, 50, 51, 52, 53, 54, 55, 56, 57, 58, 59, 60, 61, 62, 63, 64] (by decide +kernel) (by decide +kernel)
set_option maxRecDepth 20000 in
theorem gX12_hour_X12_lostIn : GoodIn wsX12_hour (wsV RX12 115 RX12 yX12_lostIn wsX12_lostIn) := goodIn_app (goodIn_of _ (by decide +kernel)) ggX12_hour_X12_lostIn
theorem dX12_hour_0 : decode cX12_hour 0 = .ok (.aload_n 0, 1) := by decide +kernel
theorem dX12_hour_1 : decode cX12_hour 1 = .ok (.iconst 0, 1) := by decide +kernel
theorem dX12_hour_2 : decode cX12_hour 2 = .ok (.putfield 60, 3) := by decide +kernel
theorem dX12_hour_5 : decode cX12_hour 5 = .ok (.iload_n 1, 1) := by decide +kernel
theorem dX12_hour_6 : decode cX12_hour 6 = .ok (.i2l, 1) := by decide +kernel
theorem dX12_hour_7 : decode cX12_hour 7 = .ok (.lconst 0, 1) := by decide +kernel
theorem dX12_hour_8 : decode cX12_hour 8 = .ok (.aload_n 0, 1) := by decide +kernel
theorem dX12_hour_9 : decode cX12_hour 9 = .ok (.getfield 87, 3) := by decide +kernel
theorem dX12_hour_12 : decode cX12_hour 12 = .ok (.iconst 1, 1) := by decide +kernel
theorem dX12_hour_13 : decode cX12_hour 13 = .ok (.isub, 1) := by decide +kernel
theorem dX12_hour_14 : decode cX12_hour 14 = .ok (.i2l, 1) := by decide +kernel
theorem dX12_hour_15 : decode cX12_hour 15 = .ok (.invokestatic 70, 3) := by decide +kernel
theorem dX12_hour_18 : decode cX12_hour 18 = .ok (.ifCond .eq 27, 3) := by decide +kernel
theorem dX12_hour_21 : decode cX12_hour 21 = .ok (.iload_n 2, 1) := by decide +kernel
theorem dX12_hour_22 : decode cX12_hour 22 = .ok (.i2l, 1) := by decide +kernel
theorem dX12_hour_23 : decode cX12_hour 23 = .ok (.lconst 0, 1) := by decide +kernel
theorem dX12_hour_24 : decode cX12_hour 24 = .ok (.ldc2_w 68, 3) := by decide +kernel
theorem dX12_hour_27 : decode cX12_hour 27 = .ok (.invokestatic 70, 3) := by decide +kernel
theorem dX12_hour_30 : decode cX12_hour 30 = .ok (.ifCond .eq 15, 3) := by decide +kernel
theorem dX12_hour_33 : decode cX12_hour 33 = .ok (.iload_n 3, 1) := by decide +kernel
theorem dX12_hour_34 : decode cX12_hour 34 = .ok (.i2l, 1) := by decide +kernel
theorem dX12_hour_35 : decode cX12_hour 35 = .ok (.lconst 0, 1) := by decide +kernel
theorem dX12_hour_36 : decode cX12_hour 36 = .ok (.ldc2_w 97, 3) := by decide +kernel
theorem dX12_hour_39 : decode cX12_hour 39 = .ok (.invokestatic 70, 3) := by decide +kernel
theorem dX12_hour_42 : decode cX12_hour 42 = .ok (.ifCond .ne 6, 3) := by decide +kernel
theorem dX12_hour_45 : decode cX12_hour 45 = .ok (.ldc 80, 2) := by decide +kernel
theorem dX12_hour_47 : decode cX12_hour 47 = .ok (.ireturn, 1) := by decide +kernel
theorem dX12_hour_48 : decode cX12_hour 48 = .ok (.aload_n 0, 1) := by decide +kernel
theorem dX12_hour_49 : decode cX12_hour 49 = .ok (.invokevirtual 122, 3) := by decide +kernel
theorem dX12_hour_52 : decode cX12_hour 52 = .ok (.iconst 0, 1) := by decide +kernel
theorem dX12_hour_53 : decode cX12_hour 53 = .ok (.istore 4, 2) := by decide +kernel
theorem dX12_hour_55 : decode cX12_hour 55 = .ok (.iconst 0, 1) := by decide +kernel
theorem dX12_hour_56 : decode cX12_hour 56 = .ok (.istore 5, 2) := by decide +kernel
theorem dX12_hour_58 : decode cX12_hour 58 = .ok (.iload 5, 2) := by decide +kernel
theorem dX12_hour_60 : decode cX12_hour 60 = .ok (.iload_n 2, 1) := by decide +kernel
theorem dX12_hour_61 : decode cX12_hour 61 = .ok (.if_icmp .ge 44, 3) := by decide +kernel
theorem dX12_hour_64 : decode cX12_hour 64 = .ok (.aload_n 0, 1) := by decide +kernel
theorem dX12_hour_65 : decode cX12_hour 65 = .ok (.iload 4, 2) := by decide +kernel
theorem dX12_hour_67 : decode cX12_hour 67 = .ok (.aload_n 0, 1) := by decide +kernel
theorem dX12_hour_68 : decode cX12_hour 68 = .ok (.getfield 35, 3) := by decide +kernel
theorem dX12_hour_71 : decode cX12_hour 71 = .ok (.sipush 128, 3) := by decide +kernel
theorem dX12_hour_74 : decode cX12_hour 74 = .ok (.iload 5, 2) := by decide +kernel
theorem dX12_hour_76 : decode cX12_hour 76 = .ok (.imul, 1) := by decide +kernel
theorem dX12_hour_77 : decode cX12_hour 77 = .ok (.bipush 16, 2) := by decide +kernel
theorem dX12_hour_79 : decode cX12_hour 79 = .ok (.aload_n 0, 1) := by decide +kernel
theorem dX12_hour_80 : decode cX12_hour 80 = .ok (.iload_n 1, 1) := by decide +kernel
theorem dX12_hour_81 : decode cX12_hour 81 = .ok (.iload 5, 2) := by decide +kernel
theorem dX12_hour_83 : decode cX12_hour 83 = .ok (.invokevirtual 111, 3) := by decide +kernel
theorem dX12_hour_86 : decode cX12_hour 86 = .ok (.imul, 1) := by decide +kernel
theorem dX12_hour_87 : decode cX12_hour 87 = .ok (.iadd, 1) := by decide +kernel
theorem dX12_hour_88 : decode cX12_hour 88 = .ok (.iload 4, 2) := by decide +kernel
theorem dX12_hour_90 : decode cX12_hour 90 = .ok (.iadd, 1) := by decide +kernel
theorem dX12_hour_91 : decode cX12_hour 91 = .ok (.baload, 1) := by decide +kernel
theorem dX12_hour_92 : decode cX12_hour 92 = .ok (.iload 5, 2) := by decide +kernel
theorem dX12_hour_94 : decode cX12_hour 94 = .ok (.invokevirtual 107, 3) := by decide +kernel
theorem dX12_hour_97 : decode cX12_hour 97 = .ok (.istore 4, 2) := by decide +kernel
theorem dX12_hour_99 : decode cX12_hour 99 = .ok (.iinc 5 1, 3) := by decide +kernel
theorem dX12_hour_102 : decode cX12_hour 102 = .ok (.goto (-44), 3) := by decide +kernel
theorem dX12_hour_105 : decode cX12_hour 105 = .ok (.aload_n 0, 1) := by decide +kernel
theorem dX12_hour_106 : decode cX12_hour 106 = .ok (.getfield 35, 3) := by decide +kernel
theorem dX12_hour_109 : decode cX12_hour 109 = .ok (.sipush 128, 3) := by decide +kernel
theorem dX12_hour_112 : decode cX12_hour 112 = .ok (.iload_n 2, 1) := by decide +kernel
theorem dX12_hour_113 : decode cX12_hour 113 = .ok (.imul, 1) := by decide +kernel
theorem dX12_hour_114 : decode cX12_hour 114 = .ok (.bipush 16, 2) := by decide +kernel
theorem dX12_hour_116 : decode cX12_hour 116 = .ok (.aload_n 0, 1) := by decide +kernel
theorem dX12_hour_117 : decode cX12_hour 117 = .ok (.iload_n 1, 1) := by decide +kernel
theorem dX12_hour_118 : decode cX12_hour 118 = .ok (.iload_n 2, 1) := by decide +kernel
theorem dX12_hour_119 : decode cX12_hour 119 = .ok (.invokevirtual 111, 3) := by decide +kernel
theorem dX12_hour_122 : decode cX12_hour 122 = .ok (.imul, 1) := by decide +kernel
theorem dX12_hour_123 : decode cX12_hour 123 = .ok (.iadd, 1) := by decide +kernel
theorem dX12_hour_124 : decode cX12_hour 124 = .ok (.iload 4, 2) := by decide +kernel
theorem dX12_hour_126 : decode cX12_hour 126 = .ok (.iadd, 1) := by decide +kernel
theorem dX12_hour_127 : decode cX12_hour 127 = .ok (.baload, 1) := by decide +kernel
theorem dX12_hour_128 : decode cX12_hour 128 = .ok (.istore 5, 2) := by decide +kernel
theorem dX12_hour_130 : decode cX12_hour 130 = .ok (.iload_n 3, 1) := by decide +kernel
theorem dX12_hour_131 : decode cX12_hour 131 = .ok (.ifCond .ne 25, 3) := by decide +kernel
theorem dX12_hour_134 : decode cX12_hour 134 = .ok (.iload 5, 2) := by decide +kernel
theorem dX12_hour_136 : decode cX12_hour 136 = .ok (.ifCond .ne 7, 3) := by decide +kernel
theorem dX12_hour_139 : decode cX12_hour 139 = .ok (.iconst 0, 1) := by decide +kernel
theorem dX12_hour_140 : decode cX12_hour 140 = .ok (.goto 59, 3) := by decide +kernel
theorem dX12_hour_143 : decode cX12_hour 143 = .ok (.iload 4, 2) := by decide +kernel
theorem dX12_hour_145 : decode cX12_hour 145 = .ok (.ifCond .ne 7, 3) := by decide +kernel
theorem dX12_hour_148 : decode cX12_hour 148 = .ok (.iconst 1, 1) := by decide +kernel
theorem dX12_hour_149 : decode cX12_hour 149 = .ok (.goto 50, 3) := by decide +kernel
theorem dX12_hour_152 : decode cX12_hour 152 = .ok (.iconst 2, 1) := by decide +kernel
theorem dX12_hour_153 : decode cX12_hour 153 = .ok (.goto 46, 3) := by decide +kernel
theorem dX12_hour_156 : decode cX12_hour 156 = .ok (.iload_n 3, 1) := by decide +kernel
theorem dX12_hour_157 : decode cX12_hour 157 = .ok (.iconst 1, 1) := by decide +kernel
theorem dX12_hour_158 : decode cX12_hour 158 = .ok (.if_icmp .ne 13, 3) := by decide +kernel
theorem dX12_hour_161 : decode cX12_hour 161 = .ok (.iload 4, 2) := by decide +kernel
theorem dX12_hour_163 : decode cX12_hour 163 = .ok (.iload 5, 2) := by decide +kernel
theorem dX12_hour_165 : decode cX12_hour 165 = .ok (.invokestatic 99, 3) := by decide +kernel
theorem dX12_hour_168 : decode cX12_hour 168 = .ok (.goto 31, 3) := by decide +kernel
theorem dX12_hour_171 : decode cX12_hour 171 = .ok (.iload_n 3, 1) := by decide +kernel
theorem dX12_hour_172 : decode cX12_hour 172 = .ok (.iconst 2, 1) := by decide +kernel
theorem dX12_hour_173 : decode cX12_hour 173 = .ok (.if_icmp .ne 16, 3) := by decide +kernel
theorem dX12_hour_176 : decode cX12_hour 176 = .ok (.aload_n 0, 1) := by decide +kernel
theorem dX12_hour_177 : decode cX12_hour 177 = .ok (.iload_n 1, 1) := by decide +kernel
theorem dX12_hour_178 : decode cX12_hour 178 = .ok (.iload 4, 2) := by decide +kernel
theorem dX12_hour_180 : decode cX12_hour 180 = .ok (.iload 5, 2) := by decide +kernel
theorem dX12_hour_182 : decode cX12_hour 182 = .ok (.iload_n 2, 1) := by decide +kernel
theorem dX12_hour_183 : decode cX12_hour 183 = .ok (.invokevirtual 103, 3) := by decide +kernel
theorem dX12_hour_186 : decode cX12_hour 186 = .ok (.goto 13, 3) := by decide +kernel
theorem dX12_hour_189 : decode cX12_hour 189 = .ok (.aload_n 0, 1) := by decide +kernel
theorem dX12_hour_190 : decode cX12_hour 190 = .ok (.iload_n 1, 1) := by decide +kernel
theorem dX12_hour_191 : decode cX12_hour 191 = .ok (.iload 4, 2) := by decide +kernel
theorem dX12_hour_193 : decode cX12_hour 193 = .ok (.iload 5, 2) := by decide +kernel
theorem dX12_hour_195 : decode cX12_hour 195 = .ok (.iload_n 2, 1) := by decide +kernel
theorem dX12_hour_196 : decode cX12_hour 196 = .ok (.invokevirtual 115, 3) := by decide +kernel
theorem dX12_hour_199 : decode cX12_hour 199 = .ok (.ireturn, 1) := by decide +kernel
set_option maxRecDepth 20000 in
theorem ggX12_shutAt_X12_in : GoodIn wsX12_shutAt wsX12_in := goodIn_r _ [9] (by decide +kernel) (by decide +kernel)
set_option maxRecDepth 20000 in
theorem gX12_shutAt_X12_in : GoodIn wsX12_shutAt (va_wsS RX12 70 yX12_in wsX12_in) := goodIn_app (goodIn_of _ (by decide +kernel)) ggX12_shutAt_X12_in
set_option maxRecDepth 20000 in
theorem ggX12_shutAt_X12_lostIn : GoodIn wsX12_shutAt wsX12_lostIn := goodIn_r _ [13, 14, 15, 16, 17, 8, 18, 19, 20, 21, 22, 23, 28, 29, 30, 31, 32, 33, 34, 35, 36, 37, 38, 39, 40, 41, 42, 43, 44, 45, 46, 47, 48, 49] (by decide +kernel) (by decide +kernel)
set_option maxRecDepth 20000 in
theorem gX12_shutAt_X12_lostIn : GoodIn wsX12_shutAt (wsV RX12 115 RX12 yX12_lostIn wsX12_lostIn) := goodIn_app (goodIn_of _ (by decide +kernel)) ggX12_shutAt_X12_lostIn
set_option maxRecDepth 20000 in
theorem ggX12_shutAt_X12_after : GoodIn wsX12_shutAt wsX12_after := goodIn_r _ [27, 14, 28, 29, 30, 31, 32, 33, 34, 35, 36, 37, 38, 39, 40, 41, 42, 43, 44, 45, 46, 47, 48, 49] (by decide +kernel) (by decide +kernel)
set_option maxRecDepth 20000 in
theorem gX12_shutAt_X12_after : GoodIn wsX12_shutAt (wsV RX12 107 RX12 yX12_after wsX12_after) := goodIn_app (goodIn_of _ (by decide +kernel)) ggX12_shutAt_X12_after
theorem dX12_shutAt_0 : decode cX12_shutAt 0 = .ok (.aload_n 0, 1) := by decide +kernel
theorem dX12_shutAt_1 : decode cX12_shutAt 1 = .ok (.iconst 0, 1) := by decide +kernel
theorem dX12_shutAt_2 : decode cX12_shutAt 2 = .ok (.putfield 60, 3) := by decide +kernel
theorem dX12_shutAt_5 : decode cX12_shutAt 5 = .ok (.iload_n 1, 1) := by decide +kernel
theorem dX12_shutAt_6 : decode cX12_shutAt 6 = .ok (.i2l, 1) := by decide +kernel
theorem dX12_shutAt_7 : decode cX12_shutAt 7 = .ok (.lconst 0, 1) := by decide +kernel
theorem dX12_shutAt_8 : decode cX12_shutAt 8 = .ok (.ldc2_w 91, 3) := by decide +kernel
theorem dX12_shutAt_11 : decode cX12_shutAt 11 = .ok (.invokestatic 70, 3) := by decide +kernel
theorem dX12_shutAt_14 : decode cX12_shutAt 14 = .ok (.ifCond .ne 7, 3) := by decide +kernel
theorem dX12_shutAt_17 : decode cX12_shutAt 17 = .ok (.ldc2_w 125, 3) := by decide +kernel
theorem dX12_shutAt_20 : decode cX12_shutAt 20 = .ok (.lreturn, 1) := by decide +kernel
theorem dX12_shutAt_21 : decode cX12_shutAt 21 = .ok (.lconst 0, 1) := by decide +kernel
theorem dX12_shutAt_22 : decode cX12_shutAt 22 = .ok (.lstore_n 2, 1) := by decide +kernel
theorem dX12_shutAt_23 : decode cX12_shutAt 23 = .ok (.iconst 0, 1) := by decide +kernel
theorem dX12_shutAt_24 : decode cX12_shutAt 24 = .ok (.istore 4, 2) := by decide +kernel
theorem dX12_shutAt_26 : decode cX12_shutAt 26 = .ok (.iload 4, 2) := by decide +kernel
theorem dX12_shutAt_28 : decode cX12_shutAt 28 = .ok (.aload_n 0, 1) := by decide +kernel
theorem dX12_shutAt_29 : decode cX12_shutAt 29 = .ok (.getfield 87, 3) := by decide +kernel
theorem dX12_shutAt_32 : decode cX12_shutAt 32 = .ok (.if_icmp .ge 83, 3) := by decide +kernel
theorem dX12_shutAt_35 : decode cX12_shutAt 35 = .ok (.iconst 0, 1) := by decide +kernel
theorem dX12_shutAt_36 : decode cX12_shutAt 36 = .ok (.istore 5, 2) := by decide +kernel
theorem dX12_shutAt_38 : decode cX12_shutAt 38 = .ok (.iconst 0, 1) := by decide +kernel
theorem dX12_shutAt_39 : decode cX12_shutAt 39 = .ok (.istore 6, 2) := by decide +kernel
theorem dX12_shutAt_41 : decode cX12_shutAt 41 = .ok (.iload 6, 2) := by decide +kernel
theorem dX12_shutAt_43 : decode cX12_shutAt 43 = .ok (.bipush 8, 2) := by decide +kernel
theorem dX12_shutAt_45 : decode cX12_shutAt 45 = .ok (.if_icmp .ge 64, 3) := by decide +kernel
theorem dX12_shutAt_48 : decode cX12_shutAt 48 = .ok (.lload_n 2, 1) := by decide +kernel
theorem dX12_shutAt_49 : decode cX12_shutAt 49 = .ok (.aload_n 0, 1) := by decide +kernel
theorem dX12_shutAt_50 : decode cX12_shutAt 50 = .ok (.getfield 25, 3) := by decide +kernel
theorem dX12_shutAt_53 : decode cX12_shutAt 53 = .ok (.iload 4, 2) := by decide +kernel
theorem dX12_shutAt_55 : decode cX12_shutAt 55 = .ok (.iaload, 1) := by decide +kernel
theorem dX12_shutAt_56 : decode cX12_shutAt 56 = .ok (.i2l, 1) := by decide +kernel
theorem dX12_shutAt_57 : decode cX12_shutAt 57 = .ok (.aload_n 0, 1) := by decide +kernel
theorem dX12_shutAt_58 : decode cX12_shutAt 58 = .ok (.iload 4, 2) := by decide +kernel
theorem dX12_shutAt_60 : decode cX12_shutAt 60 = .ok (.iload 5, 2) := by decide +kernel
theorem dX12_shutAt_62 : decode cX12_shutAt 62 = .ok (.iload 6, 2) := by decide +kernel
theorem dX12_shutAt_64 : decode cX12_shutAt 64 = .ok (.iload_n 1, 1) := by decide +kernel
theorem dX12_shutAt_65 : decode cX12_shutAt 65 = .ok (.if_icmp .ne 7, 3) := by decide +kernel
theorem dX12_shutAt_68 : decode cX12_shutAt 68 = .ok (.iconst 1, 1) := by decide +kernel
theorem dX12_shutAt_69 : decode cX12_shutAt 69 = .ok (.goto 4, 3) := by decide +kernel
theorem dX12_shutAt_72 : decode cX12_shutAt 72 = .ok (.iconst 0, 1) := by decide +kernel
theorem dX12_shutAt_73 : decode cX12_shutAt 73 = .ok (.iload 6, 2) := by decide +kernel
theorem dX12_shutAt_75 : decode cX12_shutAt 75 = .ok (.invokevirtual 115, 3) := by decide +kernel
theorem dX12_shutAt_78 : decode cX12_shutAt 78 = .ok (.i2l, 1) := by decide +kernel
theorem dX12_shutAt_79 : decode cX12_shutAt 79 = .ok (.lmul, 1) := by decide +kernel
theorem dX12_shutAt_80 : decode cX12_shutAt 80 = .ok (.ladd, 1) := by decide +kernel
theorem dX12_shutAt_81 : decode cX12_shutAt 81 = .ok (.lstore_n 2, 1) := by decide +kernel
theorem dX12_shutAt_82 : decode cX12_shutAt 82 = .ok (.aload_n 0, 1) := by decide +kernel
theorem dX12_shutAt_83 : decode cX12_shutAt 83 = .ok (.iload 5, 2) := by decide +kernel
theorem dX12_shutAt_85 : decode cX12_shutAt 85 = .ok (.iload 6, 2) := by decide +kernel
theorem dX12_shutAt_87 : decode cX12_shutAt 87 = .ok (.iload_n 1, 1) := by decide +kernel
theorem dX12_shutAt_88 : decode cX12_shutAt 88 = .ok (.if_icmp .ne 7, 3) := by decide +kernel
theorem dX12_shutAt_91 : decode cX12_shutAt 91 = .ok (.iconst 1, 1) := by decide +kernel
theorem dX12_shutAt_92 : decode cX12_shutAt 92 = .ok (.goto 4, 3) := by decide +kernel
theorem dX12_shutAt_95 : decode cX12_shutAt 95 = .ok (.iconst 0, 1) := by decide +kernel
theorem dX12_shutAt_96 : decode cX12_shutAt 96 = .ok (.iload 6, 2) := by decide +kernel
theorem dX12_shutAt_98 : decode cX12_shutAt 98 = .ok (.invokevirtual 107, 3) := by decide +kernel
theorem dX12_shutAt_101 : decode cX12_shutAt 101 = .ok (.istore 5, 2) := by decide +kernel
theorem dX12_shutAt_103 : decode cX12_shutAt 103 = .ok (.iinc 6 1, 3) := by decide +kernel
theorem dX12_shutAt_106 : decode cX12_shutAt 106 = .ok (.goto (-65), 3) := by decide +kernel
theorem dX12_shutAt_109 : decode cX12_shutAt 109 = .ok (.iinc 4 1, 3) := by decide +kernel
theorem dX12_shutAt_112 : decode cX12_shutAt 112 = .ok (.goto (-86), 3) := by decide +kernel
theorem dX12_shutAt_115 : decode cX12_shutAt 115 = .ok (.lload_n 2, 1) := by decide +kernel
theorem dX12_shutAt_116 : decode cX12_shutAt 116 = .ok (.lreturn, 1) := by decide +kernel
theorem dX12_alarm_0 : decode cX12_alarm 0 = .ok (.aload_n 0, 1) := by decide +kernel
theorem dX12_alarm_1 : decode cX12_alarm 1 = .ok (.iconst 0, 1) := by decide +kernel
theorem dX12_alarm_2 : decode cX12_alarm 2 = .ok (.putfield 60, 3) := by decide +kernel
theorem dX12_alarm_5 : decode cX12_alarm 5 = .ok (.bipush 8, 2) := by decide +kernel
theorem dX12_alarm_7 : decode cX12_alarm 7 = .ok (.istore_n 1, 1) := by decide +kernel
theorem dX12_alarm_8 : decode cX12_alarm 8 = .ok (.iconst 0, 1) := by decide +kernel
theorem dX12_alarm_9 : decode cX12_alarm 9 = .ok (.istore_n 2, 1) := by decide +kernel
theorem dX12_alarm_10 : decode cX12_alarm 10 = .ok (.iload_n 2, 1) := by decide +kernel
theorem dX12_alarm_11 : decode cX12_alarm 11 = .ok (.bipush 8, 2) := by decide +kernel
theorem dX12_alarm_13 : decode cX12_alarm 13 = .ok (.aload_n 0, 1) := by decide +kernel
theorem dX12_alarm_14 : decode cX12_alarm 14 = .ok (.getfield 87, 3) := by decide +kernel
theorem dX12_alarm_17 : decode cX12_alarm 17 = .ok (.imul, 1) := by decide +kernel
theorem dX12_alarm_18 : decode cX12_alarm 18 = .ok (.if_icmp .ge 41, 3) := by decide +kernel
theorem dX12_alarm_21 : decode cX12_alarm 21 = .ok (.aload_n 0, 1) := by decide +kernel
theorem dX12_alarm_22 : decode cX12_alarm 22 = .ok (.getfield 28, 3) := by decide +kernel
theorem dX12_alarm_25 : decode cX12_alarm 25 = .ok (.iload_n 2, 1) := by decide +kernel
theorem dX12_alarm_26 : decode cX12_alarm 26 = .ok (.iaload, 1) := by decide +kernel
theorem dX12_alarm_27 : decode cX12_alarm 27 = .ok (.aload_n 0, 1) := by decide +kernel
theorem dX12_alarm_28 : decode cX12_alarm 28 = .ok (.getfield 7, 3) := by decide +kernel
theorem dX12_alarm_31 : decode cX12_alarm 31 = .ok (.iconst 2, 1) := by decide +kernel
theorem dX12_alarm_32 : decode cX12_alarm 32 = .ok (.iaload, 1) := by decide +kernel
theorem dX12_alarm_33 : decode cX12_alarm 33 = .ok (.if_icmp .le 18, 3) := by decide +kernel
theorem dX12_alarm_36 : decode cX12_alarm 36 = .ok (.iload_n 2, 1) := by decide +kernel
theorem dX12_alarm_37 : decode cX12_alarm 37 = .ok (.bipush 8, 2) := by decide +kernel
theorem dX12_alarm_39 : decode cX12_alarm 39 = .ok (.irem, 1) := by decide +kernel
theorem dX12_alarm_40 : decode cX12_alarm 40 = .ok (.iload_n 1, 1) := by decide +kernel
theorem dX12_alarm_41 : decode cX12_alarm 41 = .ok (.if_icmp .ge 10, 3) := by decide +kernel
theorem dX12_alarm_44 : decode cX12_alarm 44 = .ok (.iload_n 2, 1) := by decide +kernel
theorem dX12_alarm_45 : decode cX12_alarm 45 = .ok (.bipush 8, 2) := by decide +kernel
theorem dX12_alarm_47 : decode cX12_alarm 47 = .ok (.irem, 1) := by decide +kernel
theorem dX12_alarm_48 : decode cX12_alarm 48 = .ok (.goto 4, 3) := by decide +kernel
theorem dX12_alarm_51 : decode cX12_alarm 51 = .ok (.iload_n 1, 1) := by decide +kernel
theorem dX12_alarm_52 : decode cX12_alarm 52 = .ok (.istore_n 1, 1) := by decide +kernel
theorem dX12_alarm_53 : decode cX12_alarm 53 = .ok (.iinc 2 1, 3) := by decide +kernel
theorem dX12_alarm_56 : decode cX12_alarm 56 = .ok (.goto (-46), 3) := by decide +kernel
theorem dX12_alarm_59 : decode cX12_alarm 59 = .ok (.iload_n 1, 1) := by decide +kernel
theorem dX12_alarm_60 : decode cX12_alarm 60 = .ok (.bipush 8, 2) := by decide +kernel
theorem dX12_alarm_62 : decode cX12_alarm 62 = .ok (.if_icmp .ne 8, 3) := by decide +kernel
theorem dX12_alarm_65 : decode cX12_alarm 65 = .ok (.bipush 8, 2) := by decide +kernel
theorem dX12_alarm_67 : decode cX12_alarm 67 = .ok (.goto 26, 3) := by decide +kernel
theorem dX12_alarm_70 : decode cX12_alarm 70 = .ok (.iload_n 1, 1) := by decide +kernel
theorem dX12_alarm_71 : decode cX12_alarm 71 = .ok (.aload_n 0, 1) := by decide +kernel
theorem dX12_alarm_72 : decode cX12_alarm 72 = .ok (.getfield 7, 3) := by decide +kernel
theorem dX12_alarm_75 : decode cX12_alarm 75 = .ok (.iconst 0, 1) := by decide +kernel
theorem dX12_alarm_76 : decode cX12_alarm 76 = .ok (.iaload, 1) := by decide +kernel
theorem dX12_alarm_77 : decode cX12_alarm 77 = .ok (.if_icmp .ge 8, 3) := by decide +kernel
theorem dX12_alarm_80 : decode cX12_alarm 80 = .ok (.ldc 127, 2) := by decide +kernel
theorem dX12_alarm_82 : decode cX12_alarm 82 = .ok (.goto 11, 3) := by decide +kernel
theorem dX12_alarm_85 : decode cX12_alarm 85 = .ok (.iload_n 1, 1) := by decide +kernel
theorem dX12_alarm_86 : decode cX12_alarm 86 = .ok (.aload_n 0, 1) := by decide +kernel
theorem dX12_alarm_87 : decode cX12_alarm 87 = .ok (.getfield 7, 3) := by decide +kernel
theorem dX12_alarm_90 : decode cX12_alarm 90 = .ok (.iconst 0, 1) := by decide +kernel
theorem dX12_alarm_91 : decode cX12_alarm 91 = .ok (.iaload, 1) := by decide +kernel
theorem dX12_alarm_92 : decode cX12_alarm 92 = .ok (.isub, 1) := by decide +kernel
theorem dX12_alarm_93 : decode cX12_alarm 93 = .ok (.ireturn, 1) := by decide +kernel
set_option maxRecDepth 20000 in
theorem ggX12_groups_X12_in : GoodIn wsX12_groups wsX12_in := goodIn_r _ [8] (by decide +kernel) (by decide +kernel)
set_option maxRecDepth 20000 in
theorem gX12_groups_X12_in : GoodIn wsX12_groups (va_wsS RX12 70 yX12_in wsX12_in) := goodIn_app (goodIn_of _ (by decide +kernel)) ggX12_groups_X12_in
set_option maxRecDepth 20000 in
theorem ggX12_groups_X12_groupOf : GoodIn wsX12_groups wsX12_groupOf := goodIn_r _ [12, 13, 14, 15, 16, 17, 18, 19, 20, 21, 22, 23, 24, 25, 26, 27, 28, 29, 30, 31, 32, 33, 34, 35] (by decide +kernel) (by decide +kernel)
set_option maxRecDepth 20000 in
theorem gX12_groups_X12_groupOf : GoodIn wsX12_groups (wsV RX12 111 RX12 yX12_groupOf wsX12_groupOf) := goodIn_app (goodIn_of _ (by decide +kernel)) ggX12_groups_X12_groupOf
theorem dX12_groups_0 : decode cX12_groups 0 = .ok (.aload_n 0, 1) := by decide +kernel
theorem dX12_groups_1 : decode cX12_groups 1 = .ok (.iconst 0, 1) := by decide +kernel
theorem dX12_groups_2 : decode cX12_groups 2 = .ok (.putfield 60, 3) := by decide +kernel
theorem dX12_groups_5 : decode cX12_groups 5 = .ok (.iload_n 1, 1) := by decide +kernel
theorem dX12_groups_6 : decode cX12_groups 6 = .ok (.i2l, 1) := by decide +kernel
theorem dX12_groups_7 : decode cX12_groups 7 = .ok (.lconst 0, 1) := by decide +kernel
theorem dX12_groups_8 : decode cX12_groups 8 = .ok (.ldc2_w 68, 3) := by decide +kernel
theorem dX12_groups_11 : decode cX12_groups 11 = .ok (.invokestatic 70, 3) := by decide +kernel
theorem dX12_groups_14 : decode cX12_groups 14 = .ok (.ifCond .ne 6, 3) := by decide +kernel
theorem dX12_groups_17 : decode cX12_groups 17 = .ok (.ldc 80, 2) := by decide +kernel
theorem dX12_groups_19 : decode cX12_groups 19 = .ok (.ireturn, 1) := by decide +kernel
theorem dX12_groups_20 : decode cX12_groups 20 = .ok (.iconst 0, 1) := by decide +kernel
theorem dX12_groups_21 : decode cX12_groups 21 = .ok (.istore_n 2, 1) := by decide +kernel
theorem dX12_groups_22 : decode cX12_groups 22 = .ok (.iconst 0, 1) := by decide +kernel
theorem dX12_groups_23 : decode cX12_groups 23 = .ok (.istore_n 3, 1) := by decide +kernel
theorem dX12_groups_24 : decode cX12_groups 24 = .ok (.iload_n 3, 1) := by decide +kernel
theorem dX12_groups_25 : decode cX12_groups 25 = .ok (.aload_n 0, 1) := by decide +kernel
theorem dX12_groups_26 : decode cX12_groups 26 = .ok (.getfield 87, 3) := by decide +kernel
theorem dX12_groups_29 : decode cX12_groups 29 = .ok (.if_icmp .ge 27, 3) := by decide +kernel
theorem dX12_groups_32 : decode cX12_groups 32 = .ok (.iload_n 2, 1) := by decide +kernel
theorem dX12_groups_33 : decode cX12_groups 33 = .ok (.aload_n 0, 1) := by decide +kernel
theorem dX12_groups_34 : decode cX12_groups 34 = .ok (.iload_n 3, 1) := by decide +kernel
theorem dX12_groups_35 : decode cX12_groups 35 = .ok (.iload_n 1, 1) := by decide +kernel
theorem dX12_groups_36 : decode cX12_groups 36 = .ok (.invokevirtual 111, 3) := by decide +kernel
theorem dX12_groups_39 : decode cX12_groups 39 = .ok (.iload_n 3, 1) := by decide +kernel
theorem dX12_groups_40 : decode cX12_groups 40 = .ok (.if_icmp .ne 7, 3) := by decide +kernel
theorem dX12_groups_43 : decode cX12_groups 43 = .ok (.iconst 1, 1) := by decide +kernel
theorem dX12_groups_44 : decode cX12_groups 44 = .ok (.goto 4, 3) := by decide +kernel
theorem dX12_groups_47 : decode cX12_groups 47 = .ok (.iconst 0, 1) := by decide +kernel
theorem dX12_groups_48 : decode cX12_groups 48 = .ok (.iadd, 1) := by decide +kernel
theorem dX12_groups_49 : decode cX12_groups 49 = .ok (.istore_n 2, 1) := by decide +kernel
theorem dX12_groups_50 : decode cX12_groups 50 = .ok (.iinc 3 1, 3) := by decide +kernel
theorem dX12_groups_53 : decode cX12_groups 53 = .ok (.goto (-29), 3) := by decide +kernel
theorem dX12_groups_56 : decode cX12_groups 56 = .ok (.iload_n 2, 1) := by decide +kernel
theorem dX12_groups_57 : decode cX12_groups 57 = .ok (.ireturn, 1) := by decide +kernel
set_option maxRecDepth 20000 in
theorem ggX12_isGate_X12_in : GoodIn wsX12_isGate wsX12_in := goodIn_r _ [5] (by decide +kernel) (by decide +kernel)
set_option maxRecDepth 20000 in
theorem gX12_isGate_X12_in : GoodIn wsX12_isGate (va_wsS RX12 70 yX12_in wsX12_in) := goodIn_app (goodIn_of _ (by decide +kernel)) ggX12_isGate_X12_in
theorem dX12_isGate_0 : decode cX12_isGate 0 = .ok (.iload_n 1, 1) := by decide +kernel
theorem dX12_isGate_1 : decode cX12_isGate 1 = .ok (.i2l, 1) := by decide +kernel
theorem dX12_isGate_2 : decode cX12_isGate 2 = .ok (.lconst 0, 1) := by decide +kernel
theorem dX12_isGate_3 : decode cX12_isGate 3 = .ok (.aload_n 0, 1) := by decide +kernel
theorem dX12_isGate_4 : decode cX12_isGate 4 = .ok (.getfield 128, 3) := by decide +kernel
theorem dX12_isGate_7 : decode cX12_isGate 7 = .ok (.iconst 1, 1) := by decide +kernel
theorem dX12_isGate_8 : decode cX12_isGate 8 = .ok (.isub, 1) := by decide +kernel
theorem dX12_isGate_9 : decode cX12_isGate 9 = .ok (.i2l, 1) := by decide +kernel
theorem dX12_isGate_10 : decode cX12_isGate 10 = .ok (.invokestatic 70, 3) := by decide +kernel
theorem dX12_isGate_13 : decode cX12_isGate 13 = .ok (.ireturn, 1) := by decide +kernel
set_option maxRecDepth 20000 in
theorem ggX12_gate_X12_in : GoodIn wsX12_gate wsX12_in := goodIn_r _ [12] (by decide +kernel) (by decide +kernel)
set_option maxRecDepth 20000 in
theorem gX12_gate_X12_in : GoodIn wsX12_gate (va_wsS RX12 70 yX12_in wsX12_in) := goodIn_app (goodIn_of _ (by decide +kernel)) ggX12_gate_X12_in
theorem dX12_gate_0 : decode cX12_gate 0 = .ok (.aload_n 0, 1) := by decide +kernel
theorem dX12_gate_1 : decode cX12_gate 1 = .ok (.iconst 0, 1) := by decide +kernel
theorem dX12_gate_2 : decode cX12_gate 2 = .ok (.putfield 60, 3) := by decide +kernel
theorem dX12_gate_5 : decode cX12_gate 5 = .ok (.iload_n 1, 1) := by decide +kernel
theorem dX12_gate_6 : decode cX12_gate 6 = .ok (.i2l, 1) := by decide +kernel
theorem dX12_gate_7 : decode cX12_gate 7 = .ok (.lconst 1, 1) := by decide +kernel
theorem dX12_gate_8 : decode cX12_gate 8 = .ok (.ldc2_w 131, 3) := by decide +kernel
theorem dX12_gate_11 : decode cX12_gate 11 = .ok (.invokestatic 70, 3) := by decide +kernel
theorem dX12_gate_14 : decode cX12_gate 14 = .ok (.ifCond .eq 15, 3) := by decide +kernel
theorem dX12_gate_17 : decode cX12_gate 17 = .ok (.iload_n 2, 1) := by decide +kernel
theorem dX12_gate_18 : decode cX12_gate 18 = .ok (.i2l, 1) := by decide +kernel
theorem dX12_gate_19 : decode cX12_gate 19 = .ok (.lconst 0, 1) := by decide +kernel
theorem dX12_gate_20 : decode cX12_gate 20 = .ok (.ldc2_w 133, 3) := by decide +kernel
theorem dX12_gate_23 : decode cX12_gate 23 = .ok (.invokestatic 70, 3) := by decide +kernel
theorem dX12_gate_26 : decode cX12_gate 26 = .ok (.ifCond .ne 6, 3) := by decide +kernel
theorem dX12_gate_29 : decode cX12_gate 29 = .ok (.ldc 80, 2) := by decide +kernel
theorem dX12_gate_31 : decode cX12_gate 31 = .ok (.ireturn, 1) := by decide +kernel
theorem dX12_gate_32 : decode cX12_gate 32 = .ok (.aload_n 0, 1) := by decide +kernel
theorem dX12_gate_33 : decode cX12_gate 33 = .ok (.getfield 128, 3) := by decide +kernel
theorem dX12_gate_36 : decode cX12_gate 36 = .ok (.bipush 6, 2) := by decide +kernel
theorem dX12_gate_38 : decode cX12_gate 38 = .ok (.if_icmp .ne 6, 3) := by decide +kernel
theorem dX12_gate_41 : decode cX12_gate 41 = .ok (.ldc 90, 2) := by decide +kernel
theorem dX12_gate_43 : decode cX12_gate 43 = .ok (.ireturn, 1) := by decide +kernel
theorem dX12_gate_44 : decode cX12_gate 44 = .ok (.aload_n 0, 1) := by decide +kernel
theorem dX12_gate_45 : decode cX12_gate 45 = .ok (.getfield 39, 3) := by decide +kernel
theorem dX12_gate_48 : decode cX12_gate 48 = .ok (.aload_n 0, 1) := by decide +kernel
theorem dX12_gate_49 : decode cX12_gate 49 = .ok (.getfield 128, 3) := by decide +kernel
theorem dX12_gate_52 : decode cX12_gate 52 = .ok (.iload_n 1, 1) := by decide +kernel
theorem dX12_gate_53 : decode cX12_gate 53 = .ok (.iastore, 1) := by decide +kernel
theorem dX12_gate_54 : decode cX12_gate 54 = .ok (.aload_n 0, 1) := by decide +kernel
theorem dX12_gate_55 : decode cX12_gate 55 = .ok (.getfield 42, 3) := by decide +kernel
theorem dX12_gate_58 : decode cX12_gate 58 = .ok (.aload_n 0, 1) := by decide +kernel
theorem dX12_gate_59 : decode cX12_gate 59 = .ok (.getfield 128, 3) := by decide +kernel
theorem dX12_gate_62 : decode cX12_gate 62 = .ok (.iload_n 2, 1) := by decide +kernel
theorem dX12_gate_63 : decode cX12_gate 63 = .ok (.iastore, 1) := by decide +kernel
theorem dX12_gate_64 : decode cX12_gate 64 = .ok (.aload_n 0, 1) := by decide +kernel
theorem dX12_gate_65 : decode cX12_gate 65 = .ok (.dup, 1) := by decide +kernel
theorem dX12_gate_66 : decode cX12_gate 66 = .ok (.getfield 128, 3) := by decide +kernel
theorem dX12_gate_69 : decode cX12_gate 69 = .ok (.iconst 1, 1) := by decide +kernel
theorem dX12_gate_70 : decode cX12_gate 70 = .ok (.iadd, 1) := by decide +kernel
theorem dX12_gate_71 : decode cX12_gate 71 = .ok (.putfield 128, 3) := by decide +kernel
theorem dX12_gate_74 : decode cX12_gate 74 = .ok (.aload_n 0, 1) := by decide +kernel
theorem dX12_gate_75 : decode cX12_gate 75 = .ok (.getfield 128, 3) := by decide +kernel
theorem dX12_gate_78 : decode cX12_gate 78 = .ok (.iconst 1, 1) := by decide +kernel
theorem dX12_gate_79 : decode cX12_gate 79 = .ok (.isub, 1) := by decide +kernel
theorem dX12_gate_80 : decode cX12_gate 80 = .ok (.ireturn, 1) := by decide +kernel
set_option maxRecDepth 20000 in
theorem ggX12_fail_X12_isGate : GoodIn wsX12_fail wsX12_isGate := goodIn_r _ [8, 9, 10, 11, 7, 12, 13, 14, 15, 16, 17, 18, 19, 20, 21, 22, 23, 24, 25, 26, 27, 28, 29, 30, 31, 32, 33, 34] (by decide +kernel) (by decide +kernel)
set_option maxRecDepth 20000 in
theorem gX12_fail_X12_isGate : GoodIn wsX12_fail (wsV RX12 135 RX12 yX12_isGate wsX12_isGate) := goodIn_app (goodIn_of _ (by decide +kernel)) ggX12_fail_X12_isGate
theorem dX12_fail_0 : decode cX12_fail 0 = .ok (.aload_n 0, 1) := by decide +kernel
theorem dX12_fail_1 : decode cX12_fail 1 = .ok (.iconst 0, 1) := by decide +kernel
theorem dX12_fail_2 : decode cX12_fail 2 = .ok (.putfield 60, 3) := by decide +kernel
theorem dX12_fail_5 : decode cX12_fail 5 = .ok (.aload_n 0, 1) := by decide +kernel
theorem dX12_fail_6 : decode cX12_fail 6 = .ok (.iload_n 1, 1) := by decide +kernel
theorem dX12_fail_7 : decode cX12_fail 7 = .ok (.invokevirtual 135, 3) := by decide +kernel
theorem dX12_fail_10 : decode cX12_fail 10 = .ok (.ifCond .ne 6, 3) := by decide +kernel
theorem dX12_fail_13 : decode cX12_fail 13 = .ok (.ldc 80, 2) := by decide +kernel
theorem dX12_fail_15 : decode cX12_fail 15 = .ok (.ireturn, 1) := by decide +kernel
theorem dX12_fail_16 : decode cX12_fail 16 = .ok (.aload_n 0, 1) := by decide +kernel
theorem dX12_fail_17 : decode cX12_fail 17 = .ok (.getfield 45, 3) := by decide +kernel
theorem dX12_fail_20 : decode cX12_fail 20 = .ok (.iload_n 1, 1) := by decide +kernel
theorem dX12_fail_21 : decode cX12_fail 21 = .ok (.baload, 1) := by decide +kernel
theorem dX12_fail_22 : decode cX12_fail 22 = .ok (.istore_n 2, 1) := by decide +kernel
theorem dX12_fail_23 : decode cX12_fail 23 = .ok (.aload_n 0, 1) := by decide +kernel
theorem dX12_fail_24 : decode cX12_fail 24 = .ok (.getfield 45, 3) := by decide +kernel
theorem dX12_fail_27 : decode cX12_fail 27 = .ok (.iload_n 1, 1) := by decide +kernel
theorem dX12_fail_28 : decode cX12_fail 28 = .ok (.iconst 1, 1) := by decide +kernel
theorem dX12_fail_29 : decode cX12_fail 29 = .ok (.bastore, 1) := by decide +kernel
theorem dX12_fail_30 : decode cX12_fail 30 = .ok (.iload_n 2, 1) := by decide +kernel
theorem dX12_fail_31 : decode cX12_fail 31 = .ok (.ifCond .eq 7, 3) := by decide +kernel
theorem dX12_fail_34 : decode cX12_fail 34 = .ok (.iconst 0, 1) := by decide +kernel
theorem dX12_fail_35 : decode cX12_fail 35 = .ok (.goto 4, 3) := by decide +kernel
theorem dX12_fail_38 : decode cX12_fail 38 = .ok (.iconst 1, 1) := by decide +kernel
theorem dX12_fail_39 : decode cX12_fail 39 = .ok (.ireturn, 1) := by decide +kernel
set_option maxRecDepth 20000 in
theorem ggX12_mend_X12_isGate : GoodIn wsX12_mend wsX12_isGate := goodIn_r _ [8, 9, 10, 11, 7, 12, 13, 14, 15, 16, 17, 18, 19, 20, 21, 22, 23, 24, 25, 26, 27, 28, 29, 30, 31, 32, 33, 34] (by decide +kernel) (by decide +kernel)
set_option maxRecDepth 20000 in
theorem gX12_mend_X12_isGate : GoodIn wsX12_mend (wsV RX12 135 RX12 yX12_isGate wsX12_isGate) := goodIn_app (goodIn_of _ (by decide +kernel)) ggX12_mend_X12_isGate
theorem dX12_mend_0 : decode cX12_mend 0 = .ok (.aload_n 0, 1) := by decide +kernel
theorem dX12_mend_1 : decode cX12_mend 1 = .ok (.iconst 0, 1) := by decide +kernel
theorem dX12_mend_2 : decode cX12_mend 2 = .ok (.putfield 60, 3) := by decide +kernel
theorem dX12_mend_5 : decode cX12_mend 5 = .ok (.aload_n 0, 1) := by decide +kernel
theorem dX12_mend_6 : decode cX12_mend 6 = .ok (.iload_n 1, 1) := by decide +kernel
theorem dX12_mend_7 : decode cX12_mend 7 = .ok (.invokevirtual 135, 3) := by decide +kernel
theorem dX12_mend_10 : decode cX12_mend 10 = .ok (.ifCond .ne 6, 3) := by decide +kernel
theorem dX12_mend_13 : decode cX12_mend 13 = .ok (.ldc 80, 2) := by decide +kernel
theorem dX12_mend_15 : decode cX12_mend 15 = .ok (.ireturn, 1) := by decide +kernel
theorem dX12_mend_16 : decode cX12_mend 16 = .ok (.aload_n 0, 1) := by decide +kernel
theorem dX12_mend_17 : decode cX12_mend 17 = .ok (.getfield 45, 3) := by decide +kernel
theorem dX12_mend_20 : decode cX12_mend 20 = .ok (.iload_n 1, 1) := by decide +kernel
theorem dX12_mend_21 : decode cX12_mend 21 = .ok (.baload, 1) := by decide +kernel
theorem dX12_mend_22 : decode cX12_mend 22 = .ok (.istore_n 2, 1) := by decide +kernel
theorem dX12_mend_23 : decode cX12_mend 23 = .ok (.aload_n 0, 1) := by decide +kernel
theorem dX12_mend_24 : decode cX12_mend 24 = .ok (.getfield 45, 3) := by decide +kernel
theorem dX12_mend_27 : decode cX12_mend 27 = .ok (.iload_n 1, 1) := by decide +kernel
theorem dX12_mend_28 : decode cX12_mend 28 = .ok (.iconst 0, 1) := by decide +kernel
theorem dX12_mend_29 : decode cX12_mend 29 = .ok (.bastore, 1) := by decide +kernel
theorem dX12_mend_30 : decode cX12_mend 30 = .ok (.iload_n 2, 1) := by decide +kernel
theorem dX12_mend_31 : decode cX12_mend 31 = .ok (.ifCond .eq 7, 3) := by decide +kernel
theorem dX12_mend_34 : decode cX12_mend 34 = .ok (.iconst 1, 1) := by decide +kernel
theorem dX12_mend_35 : decode cX12_mend 35 = .ok (.goto 4, 3) := by decide +kernel
theorem dX12_mend_38 : decode cX12_mend 38 = .ok (.iconst 0, 1) := by decide +kernel
theorem dX12_mend_39 : decode cX12_mend 39 = .ok (.ireturn, 1) := by decide +kernel
theorem dX12_timeBy_0 : decode cX12_timeBy 0 = .ok (.iconst 0, 1) := by decide +kernel
theorem dX12_timeBy_1 : decode cX12_timeBy 1 = .ok (.istore_n 3, 1) := by decide +kernel
theorem dX12_timeBy_2 : decode cX12_timeBy 2 = .ok (.iload_n 3, 1) := by decide +kernel
theorem dX12_timeBy_3 : decode cX12_timeBy 3 = .ok (.iconst 3, 1) := by decide +kernel
theorem dX12_timeBy_4 : decode cX12_timeBy 4 = .ok (.if_icmp .ge 16, 3) := by decide +kernel
theorem dX12_timeBy_7 : decode cX12_timeBy 7 = .ok (.aload_n 0, 1) := by decide +kernel
theorem dX12_timeBy_8 : decode cX12_timeBy 8 = .ok (.getfield 48, 3) := by decide +kernel
theorem dX12_timeBy_11 : decode cX12_timeBy 11 = .ok (.iload_n 3, 1) := by decide +kernel
theorem dX12_timeBy_12 : decode cX12_timeBy 12 = .ok (.iconst 0, 1) := by decide +kernel
theorem dX12_timeBy_13 : decode cX12_timeBy 13 = .ok (.iastore, 1) := by decide +kernel
theorem dX12_timeBy_14 : decode cX12_timeBy 14 = .ok (.iinc 3 1, 3) := by decide +kernel
theorem dX12_timeBy_17 : decode cX12_timeBy 17 = .ok (.goto (-15), 3) := by decide +kernel
theorem dX12_timeBy_20 : decode cX12_timeBy 20 = .ok (.iconst 0, 1) := by decide +kernel
theorem dX12_timeBy_21 : decode cX12_timeBy 21 = .ok (.istore_n 3, 1) := by decide +kernel
theorem dX12_timeBy_22 : decode cX12_timeBy 22 = .ok (.iconst 0, 1) := by decide +kernel
theorem dX12_timeBy_23 : decode cX12_timeBy 23 = .ok (.istore 4, 2) := by decide +kernel
theorem dX12_timeBy_25 : decode cX12_timeBy 25 = .ok (.iload 4, 2) := by decide +kernel
theorem dX12_timeBy_27 : decode cX12_timeBy 27 = .ok (.aload_n 0, 1) := by decide +kernel
theorem dX12_timeBy_28 : decode cX12_timeBy 28 = .ok (.getfield 128, 3) := by decide +kernel
theorem dX12_timeBy_31 : decode cX12_timeBy 31 = .ok (.if_icmp .ge 148, 3) := by decide +kernel
theorem dX12_timeBy_34 : decode cX12_timeBy 34 = .ok (.aload_n 0, 1) := by decide +kernel
theorem dX12_timeBy_35 : decode cX12_timeBy 35 = .ok (.getfield 45, 3) := by decide +kernel
theorem dX12_timeBy_38 : decode cX12_timeBy 38 = .ok (.iload 4, 2) := by decide +kernel
theorem dX12_timeBy_40 : decode cX12_timeBy 40 = .ok (.baload, 1) := by decide +kernel
theorem dX12_timeBy_41 : decode cX12_timeBy 41 = .ok (.ifCond .ne 9, 3) := by decide +kernel
theorem dX12_timeBy_44 : decode cX12_timeBy 44 = .ok (.iload 4, 2) := by decide +kernel
theorem dX12_timeBy_46 : decode cX12_timeBy 46 = .ok (.iload_n 2, 1) := by decide +kernel
theorem dX12_timeBy_47 : decode cX12_timeBy 47 = .ok (.if_icmp .ne 103, 3) := by decide +kernel
theorem dX12_timeBy_50 : decode cX12_timeBy 50 = .ok (.aload_n 0, 1) := by decide +kernel
theorem dX12_timeBy_51 : decode cX12_timeBy 51 = .ok (.getfield 42, 3) := by decide +kernel
theorem dX12_timeBy_54 : decode cX12_timeBy 54 = .ok (.iload 4, 2) := by decide +kernel
theorem dX12_timeBy_56 : decode cX12_timeBy 56 = .ok (.iaload, 1) := by decide +kernel
theorem dX12_timeBy_57 : decode cX12_timeBy 57 = .ok (.ifCond .ne 6, 3) := by decide +kernel
theorem dX12_timeBy_60 : decode cX12_timeBy 60 = .ok (.ldc 127, 2) := by decide +kernel
theorem dX12_timeBy_62 : decode cX12_timeBy 62 = .ok (.ireturn, 1) := by decide +kernel
theorem dX12_timeBy_63 : decode cX12_timeBy 63 = .ok (.iconst 0, 1) := by decide +kernel
theorem dX12_timeBy_64 : decode cX12_timeBy 64 = .ok (.istore 5, 2) := by decide +kernel
theorem dX12_timeBy_66 : decode cX12_timeBy 66 = .ok (.iconst 1, 1) := by decide +kernel
theorem dX12_timeBy_67 : decode cX12_timeBy 67 = .ok (.istore 6, 2) := by decide +kernel
theorem dX12_timeBy_69 : decode cX12_timeBy 69 = .ok (.iload 6, 2) := by decide +kernel
theorem dX12_timeBy_71 : decode cX12_timeBy 71 = .ok (.iload_n 1, 1) := by decide +kernel
theorem dX12_timeBy_72 : decode cX12_timeBy 72 = .ok (.if_icmp .ge 35, 3) := by decide +kernel
theorem dX12_timeBy_75 : decode cX12_timeBy 75 = .ok (.aload_n 0, 1) := by decide +kernel
theorem dX12_timeBy_76 : decode cX12_timeBy 76 = .ok (.getfield 48, 3) := by decide +kernel
theorem dX12_timeBy_79 : decode cX12_timeBy 79 = .ok (.iload 6, 2) := by decide +kernel
theorem dX12_timeBy_81 : decode cX12_timeBy 81 = .ok (.iaload, 1) := by decide +kernel
theorem dX12_timeBy_82 : decode cX12_timeBy 82 = .ok (.aload_n 0, 1) := by decide +kernel
theorem dX12_timeBy_83 : decode cX12_timeBy 83 = .ok (.getfield 48, 3) := by decide +kernel
theorem dX12_timeBy_86 : decode cX12_timeBy 86 = .ok (.iload 5, 2) := by decide +kernel
theorem dX12_timeBy_88 : decode cX12_timeBy 88 = .ok (.iaload, 1) := by decide +kernel
theorem dX12_timeBy_89 : decode cX12_timeBy 89 = .ok (.if_icmp .ge 8, 3) := by decide +kernel
theorem dX12_timeBy_92 : decode cX12_timeBy 92 = .ok (.iload 6, 2) := by decide +kernel
theorem dX12_timeBy_94 : decode cX12_timeBy 94 = .ok (.goto 5, 3) := by decide +kernel
theorem dX12_timeBy_97 : decode cX12_timeBy 97 = .ok (.iload 5, 2) := by decide +kernel
theorem dX12_timeBy_99 : decode cX12_timeBy 99 = .ok (.istore 5, 2) := by decide +kernel
theorem dX12_timeBy_101 : decode cX12_timeBy 101 = .ok (.iinc 6 1, 3) := by decide +kernel
theorem dX12_timeBy_104 : decode cX12_timeBy 104 = .ok (.goto (-35), 3) := by decide +kernel
theorem dX12_timeBy_107 : decode cX12_timeBy 107 = .ok (.aload_n 0, 1) := by decide +kernel
theorem dX12_timeBy_108 : decode cX12_timeBy 108 = .ok (.getfield 48, 3) := by decide +kernel
theorem dX12_timeBy_111 : decode cX12_timeBy 111 = .ok (.iload 5, 2) := by decide +kernel
theorem dX12_timeBy_113 : decode cX12_timeBy 113 = .ok (.dup2, 1) := by decide +kernel
theorem dX12_timeBy_114 : decode cX12_timeBy 114 = .ok (.iaload, 1) := by decide +kernel
theorem dX12_timeBy_115 : decode cX12_timeBy 115 = .ok (.aload_n 0, 1) := by decide +kernel
theorem dX12_timeBy_116 : decode cX12_timeBy 116 = .ok (.getfield 42, 3) := by decide +kernel
theorem dX12_timeBy_119 : decode cX12_timeBy 119 = .ok (.iload 4, 2) := by decide +kernel
theorem dX12_timeBy_121 : decode cX12_timeBy 121 = .ok (.iaload, 1) := by decide +kernel
theorem dX12_timeBy_122 : decode cX12_timeBy 122 = .ok (.iadd, 1) := by decide +kernel
theorem dX12_timeBy_123 : decode cX12_timeBy 123 = .ok (.iastore, 1) := by decide +kernel
theorem dX12_timeBy_124 : decode cX12_timeBy 124 = .ok (.aload_n 0, 1) := by decide +kernel
theorem dX12_timeBy_125 : decode cX12_timeBy 125 = .ok (.getfield 48, 3) := by decide +kernel
theorem dX12_timeBy_128 : decode cX12_timeBy 128 = .ok (.iload 5, 2) := by decide +kernel
theorem dX12_timeBy_130 : decode cX12_timeBy 130 = .ok (.iaload, 1) := by decide +kernel
theorem dX12_timeBy_131 : decode cX12_timeBy 131 = .ok (.iload_n 3, 1) := by decide +kernel
theorem dX12_timeBy_132 : decode cX12_timeBy 132 = .ok (.if_icmp .le 13, 3) := by decide +kernel
theorem dX12_timeBy_135 : decode cX12_timeBy 135 = .ok (.aload_n 0, 1) := by decide +kernel
theorem dX12_timeBy_136 : decode cX12_timeBy 136 = .ok (.getfield 48, 3) := by decide +kernel
theorem dX12_timeBy_139 : decode cX12_timeBy 139 = .ok (.iload 5, 2) := by decide +kernel
theorem dX12_timeBy_141 : decode cX12_timeBy 141 = .ok (.iaload, 1) := by decide +kernel
theorem dX12_timeBy_142 : decode cX12_timeBy 142 = .ok (.goto 4, 3) := by decide +kernel
theorem dX12_timeBy_145 : decode cX12_timeBy 145 = .ok (.iload_n 3, 1) := by decide +kernel
theorem dX12_timeBy_146 : decode cX12_timeBy 146 = .ok (.istore_n 3, 1) := by decide +kernel
theorem dX12_timeBy_147 : decode cX12_timeBy 147 = .ok (.goto 26, 3) := by decide +kernel
theorem dX12_timeBy_150 : decode cX12_timeBy 150 = .ok (.aload_n 0, 1) := by decide +kernel
theorem dX12_timeBy_151 : decode cX12_timeBy 151 = .ok (.getfield 39, 3) := by decide +kernel
theorem dX12_timeBy_154 : decode cX12_timeBy 154 = .ok (.iload 4, 2) := by decide +kernel
theorem dX12_timeBy_156 : decode cX12_timeBy 156 = .ok (.iaload, 1) := by decide +kernel
theorem dX12_timeBy_157 : decode cX12_timeBy 157 = .ok (.iload_n 3, 1) := by decide +kernel
theorem dX12_timeBy_158 : decode cX12_timeBy 158 = .ok (.if_icmp .le 13, 3) := by decide +kernel
theorem dX12_timeBy_161 : decode cX12_timeBy 161 = .ok (.aload_n 0, 1) := by decide +kernel
theorem dX12_timeBy_162 : decode cX12_timeBy 162 = .ok (.getfield 39, 3) := by decide +kernel
theorem dX12_timeBy_165 : decode cX12_timeBy 165 = .ok (.iload 4, 2) := by decide +kernel
theorem dX12_timeBy_167 : decode cX12_timeBy 167 = .ok (.iaload, 1) := by decide +kernel
theorem dX12_timeBy_168 : decode cX12_timeBy 168 = .ok (.goto 4, 3) := by decide +kernel
theorem dX12_timeBy_171 : decode cX12_timeBy 171 = .ok (.iload_n 3, 1) := by decide +kernel
theorem dX12_timeBy_172 : decode cX12_timeBy 172 = .ok (.istore_n 3, 1) := by decide +kernel
theorem dX12_timeBy_173 : decode cX12_timeBy 173 = .ok (.iinc 4 1, 3) := by decide +kernel
theorem dX12_timeBy_176 : decode cX12_timeBy 176 = .ok (.goto (-151), 3) := by decide +kernel
theorem dX12_timeBy_179 : decode cX12_timeBy 179 = .ok (.iload_n 3, 1) := by decide +kernel
theorem dX12_timeBy_180 : decode cX12_timeBy 180 = .ok (.ireturn, 1) := by decide +kernel
set_option maxRecDepth 20000 in
theorem ggX12_time_X12_in : GoodIn wsX12_time wsX12_in := goodIn_r _ [10] (by decide +kernel) (by decide +kernel)
set_option maxRecDepth 20000 in
theorem gX12_time_X12_in : GoodIn wsX12_time (va_wsS RX12 70 yX12_in wsX12_in) := goodIn_app (goodIn_of _ (by decide +kernel)) ggX12_time_X12_in
set_option maxRecDepth 20000 in
theorem ggX12_time_X12_timeBy : GoodIn wsX12_time wsX12_timeBy := goodIn_r _ [14, 15, 5, 6, 16, 4, 17, 18, 19, 20, 21, 22, 23, 24, 25, 26, 27, 28, 29, 30, 31, 32, 33, 34, 35, 36, 37, 38, 39] (by decide +kernel) (by decide +kernel)
set_option maxRecDepth 20000 in
theorem gX12_time_X12_timeBy : GoodIn wsX12_time (wsV RX12 138 RX12 yX12_timeBy wsX12_timeBy) := goodIn_app (goodIn_of _ (by decide +kernel)) ggX12_time_X12_timeBy
theorem dX12_time_0 : decode cX12_time 0 = .ok (.aload_n 0, 1) := by decide +kernel
theorem dX12_time_1 : decode cX12_time 1 = .ok (.iconst 0, 1) := by decide +kernel
theorem dX12_time_2 : decode cX12_time 2 = .ok (.putfield 60, 3) := by decide +kernel
theorem dX12_time_5 : decode cX12_time 5 = .ok (.iload_n 1, 1) := by decide +kernel
theorem dX12_time_6 : decode cX12_time 6 = .ok (.i2l, 1) := by decide +kernel
theorem dX12_time_7 : decode cX12_time 7 = .ok (.lconst 1, 1) := by decide +kernel
theorem dX12_time_8 : decode cX12_time 8 = .ok (.ldc2_w 97, 3) := by decide +kernel
theorem dX12_time_11 : decode cX12_time 11 = .ok (.invokestatic 70, 3) := by decide +kernel
theorem dX12_time_14 : decode cX12_time 14 = .ok (.ifCond .eq 13, 3) := by decide +kernel
theorem dX12_time_17 : decode cX12_time 17 = .ok (.iload_n 2, 1) := by decide +kernel
theorem dX12_time_18 : decode cX12_time 18 = .ok (.i2l, 1) := by decide +kernel
theorem dX12_time_19 : decode cX12_time 19 = .ok (.lconst 0, 1) := by decide +kernel
theorem dX12_time_20 : decode cX12_time 20 = .ok (.lconst 1, 1) := by decide +kernel
theorem dX12_time_21 : decode cX12_time 21 = .ok (.invokestatic 70, 3) := by decide +kernel
theorem dX12_time_24 : decode cX12_time 24 = .ok (.ifCond .ne 6, 3) := by decide +kernel
theorem dX12_time_27 : decode cX12_time 27 = .ok (.ldc 80, 2) := by decide +kernel
theorem dX12_time_29 : decode cX12_time 29 = .ok (.ireturn, 1) := by decide +kernel
theorem dX12_time_30 : decode cX12_time 30 = .ok (.ldc 127, 2) := by decide +kernel
theorem dX12_time_32 : decode cX12_time 32 = .ok (.istore_n 3, 1) := by decide +kernel
theorem dX12_time_33 : decode cX12_time 33 = .ok (.iconst 0, 1) := by decide +kernel
theorem dX12_time_34 : decode cX12_time 34 = .ok (.istore 4, 2) := by decide +kernel
theorem dX12_time_36 : decode cX12_time 36 = .ok (.iconst 0, 1) := by decide +kernel
theorem dX12_time_37 : decode cX12_time 37 = .ok (.istore 5, 2) := by decide +kernel
theorem dX12_time_39 : decode cX12_time 39 = .ok (.iload 5, 2) := by decide +kernel
theorem dX12_time_41 : decode cX12_time 41 = .ok (.aload_n 0, 1) := by decide +kernel
theorem dX12_time_42 : decode cX12_time 42 = .ok (.getfield 128, 3) := by decide +kernel
theorem dX12_time_45 : decode cX12_time 45 = .ok (.if_icmp .ge 59, 3) := by decide +kernel
theorem dX12_time_48 : decode cX12_time 48 = .ok (.iload_n 2, 1) := by decide +kernel
theorem dX12_time_49 : decode cX12_time 49 = .ok (.iconst 1, 1) := by decide +kernel
theorem dX12_time_50 : decode cX12_time 50 = .ok (.if_icmp .ne 54, 3) := by decide +kernel
theorem dX12_time_53 : decode cX12_time 53 = .ok (.aload_n 0, 1) := by decide +kernel
theorem dX12_time_54 : decode cX12_time 54 = .ok (.getfield 45, 3) := by decide +kernel
theorem dX12_time_57 : decode cX12_time 57 = .ok (.iload 5, 2) := by decide +kernel
theorem dX12_time_59 : decode cX12_time 59 = .ok (.baload, 1) := by decide +kernel
theorem dX12_time_60 : decode cX12_time 60 = .ok (.ifCond .ne 38, 3) := by decide +kernel
theorem dX12_time_63 : decode cX12_time 63 = .ok (.aload_n 0, 1) := by decide +kernel
theorem dX12_time_64 : decode cX12_time 64 = .ok (.iload_n 1, 1) := by decide +kernel
theorem dX12_time_65 : decode cX12_time 65 = .ok (.iload 5, 2) := by decide +kernel
theorem dX12_time_67 : decode cX12_time 67 = .ok (.invokevirtual 138, 3) := by decide +kernel
theorem dX12_time_70 : decode cX12_time 70 = .ok (.istore 6, 2) := by decide +kernel
theorem dX12_time_72 : decode cX12_time 72 = .ok (.iload 6, 2) := by decide +kernel
theorem dX12_time_74 : decode cX12_time 74 = .ok (.ldc 127, 2) := by decide +kernel
theorem dX12_time_76 : decode cX12_time 76 = .ok (.if_icmp .ne 6, 3) := by decide +kernel
theorem dX12_time_79 : decode cX12_time 79 = .ok (.ldc 127, 2) := by decide +kernel
theorem dX12_time_81 : decode cX12_time 81 = .ok (.ireturn, 1) := by decide +kernel
theorem dX12_time_82 : decode cX12_time 82 = .ok (.iload 6, 2) := by decide +kernel
theorem dX12_time_84 : decode cX12_time 84 = .ok (.iload_n 3, 1) := by decide +kernel
theorem dX12_time_85 : decode cX12_time 85 = .ok (.if_icmp .le 8, 3) := by decide +kernel
theorem dX12_time_88 : decode cX12_time 88 = .ok (.iload 6, 2) := by decide +kernel
theorem dX12_time_90 : decode cX12_time 90 = .ok (.goto 4, 3) := by decide +kernel
theorem dX12_time_93 : decode cX12_time 93 = .ok (.iload_n 3, 1) := by decide +kernel
theorem dX12_time_94 : decode cX12_time 94 = .ok (.istore_n 3, 1) := by decide +kernel
theorem dX12_time_95 : decode cX12_time 95 = .ok (.iconst 1, 1) := by decide +kernel
theorem dX12_time_96 : decode cX12_time 96 = .ok (.istore 4, 2) := by decide +kernel
theorem dX12_time_98 : decode cX12_time 98 = .ok (.iinc 5 1, 3) := by decide +kernel
theorem dX12_time_101 : decode cX12_time 101 = .ok (.goto (-62), 3) := by decide +kernel
theorem dX12_time_104 : decode cX12_time 104 = .ok (.iload 4, 2) := by decide +kernel
theorem dX12_time_106 : decode cX12_time 106 = .ok (.ifCond .eq 7, 3) := by decide +kernel
theorem dX12_time_109 : decode cX12_time 109 = .ok (.iload_n 3, 1) := by decide +kernel
theorem dX12_time_110 : decode cX12_time 110 = .ok (.goto 9, 3) := by decide +kernel
theorem dX12_time_113 : decode cX12_time 113 = .ok (.aload_n 0, 1) := by decide +kernel
theorem dX12_time_114 : decode cX12_time 114 = .ok (.iload_n 1, 1) := by decide +kernel
theorem dX12_time_115 : decode cX12_time 115 = .ok (.iconst (-1), 1) := by decide +kernel
theorem dX12_time_116 : decode cX12_time 116 = .ok (.invokevirtual 138, 3) := by decide +kernel
theorem dX12_time_119 : decode cX12_time 119 = .ok (.ireturn, 1) := by decide +kernel
set_option maxRecDepth 20000 in
theorem ggX12_ship_X12_in : GoodIn wsX12_ship wsX12_in := goodIn_r _ [12] (by decide +kernel) (by decide +kernel)
set_option maxRecDepth 20000 in
theorem gX12_ship_X12_in : GoodIn wsX12_ship (va_wsS RX12 70 yX12_in wsX12_in) := goodIn_app (goodIn_of _ (by decide +kernel)) ggX12_ship_X12_in
theorem dX12_ship_0 : decode cX12_ship 0 = .ok (.aload_n 0, 1) := by decide +kernel
theorem dX12_ship_1 : decode cX12_ship 1 = .ok (.iconst 0, 1) := by decide +kernel
theorem dX12_ship_2 : decode cX12_ship 2 = .ok (.putfield 60, 3) := by decide +kernel
theorem dX12_ship_5 : decode cX12_ship 5 = .ok (.iload_n 1, 1) := by decide +kernel
theorem dX12_ship_6 : decode cX12_ship 6 = .ok (.i2l, 1) := by decide +kernel
theorem dX12_ship_7 : decode cX12_ship 7 = .ok (.lconst 0, 1) := by decide +kernel
theorem dX12_ship_8 : decode cX12_ship 8 = .ok (.ldc2_w 141, 3) := by decide +kernel
theorem dX12_ship_11 : decode cX12_ship 11 = .ok (.invokestatic 70, 3) := by decide +kernel
theorem dX12_ship_14 : decode cX12_ship 14 = .ok (.ifCond .eq 15, 3) := by decide +kernel
theorem dX12_ship_17 : decode cX12_ship 17 = .ok (.iload_n 2, 1) := by decide +kernel
theorem dX12_ship_18 : decode cX12_ship 18 = .ok (.i2l, 1) := by decide +kernel
theorem dX12_ship_19 : decode cX12_ship 19 = .ok (.lconst 1, 1) := by decide +kernel
theorem dX12_ship_20 : decode cX12_ship 20 = .ok (.ldc2_w 131, 3) := by decide +kernel
theorem dX12_ship_23 : decode cX12_ship 23 = .ok (.invokestatic 70, 3) := by decide +kernel
theorem dX12_ship_26 : decode cX12_ship 26 = .ok (.ifCond .ne 6, 3) := by decide +kernel
theorem dX12_ship_29 : decode cX12_ship 29 = .ok (.ldc 80, 2) := by decide +kernel
theorem dX12_ship_31 : decode cX12_ship 31 = .ok (.ireturn, 1) := by decide +kernel
theorem dX12_ship_32 : decode cX12_ship 32 = .ok (.aload_n 0, 1) := by decide +kernel
theorem dX12_ship_33 : decode cX12_ship 33 = .ok (.getfield 143, 3) := by decide +kernel
theorem dX12_ship_36 : decode cX12_ship 36 = .ok (.bipush 20, 2) := by decide +kernel
theorem dX12_ship_38 : decode cX12_ship 38 = .ok (.if_icmp .ne 6, 3) := by decide +kernel
theorem dX12_ship_41 : decode cX12_ship 41 = .ok (.ldc 90, 2) := by decide +kernel
theorem dX12_ship_43 : decode cX12_ship 43 = .ok (.ireturn, 1) := by decide +kernel
theorem dX12_ship_44 : decode cX12_ship 44 = .ok (.aload_n 0, 1) := by decide +kernel
theorem dX12_ship_45 : decode cX12_ship 45 = .ok (.getfield 51, 3) := by decide +kernel
theorem dX12_ship_48 : decode cX12_ship 48 = .ok (.aload_n 0, 1) := by decide +kernel
theorem dX12_ship_49 : decode cX12_ship 49 = .ok (.getfield 143, 3) := by decide +kernel
theorem dX12_ship_52 : decode cX12_ship 52 = .ok (.iload_n 1, 1) := by decide +kernel
theorem dX12_ship_53 : decode cX12_ship 53 = .ok (.iastore, 1) := by decide +kernel
theorem dX12_ship_54 : decode cX12_ship 54 = .ok (.aload_n 0, 1) := by decide +kernel
theorem dX12_ship_55 : decode cX12_ship 55 = .ok (.getfield 54, 3) := by decide +kernel
theorem dX12_ship_58 : decode cX12_ship 58 = .ok (.aload_n 0, 1) := by decide +kernel
theorem dX12_ship_59 : decode cX12_ship 59 = .ok (.getfield 143, 3) := by decide +kernel
theorem dX12_ship_62 : decode cX12_ship 62 = .ok (.iload_n 2, 1) := by decide +kernel
theorem dX12_ship_63 : decode cX12_ship 63 = .ok (.iastore, 1) := by decide +kernel
theorem dX12_ship_64 : decode cX12_ship 64 = .ok (.aload_n 0, 1) := by decide +kernel
theorem dX12_ship_65 : decode cX12_ship 65 = .ok (.dup, 1) := by decide +kernel
theorem dX12_ship_66 : decode cX12_ship 66 = .ok (.getfield 143, 3) := by decide +kernel
theorem dX12_ship_69 : decode cX12_ship 69 = .ok (.iconst 1, 1) := by decide +kernel
theorem dX12_ship_70 : decode cX12_ship 70 = .ok (.iadd, 1) := by decide +kernel
theorem dX12_ship_71 : decode cX12_ship 71 = .ok (.putfield 143, 3) := by decide +kernel
theorem dX12_ship_74 : decode cX12_ship 74 = .ok (.aload_n 0, 1) := by decide +kernel
theorem dX12_ship_75 : decode cX12_ship 75 = .ok (.getfield 143, 3) := by decide +kernel
theorem dX12_ship_78 : decode cX12_ship 78 = .ok (.iconst 1, 1) := by decide +kernel
theorem dX12_ship_79 : decode cX12_ship 79 = .ok (.isub, 1) := by decide +kernel
theorem dX12_ship_80 : decode cX12_ship 80 = .ok (.ireturn, 1) := by decide +kernel
set_option maxRecDepth 20000 in
theorem ggX12_waits_X12_in : GoodIn wsX12_waits wsX12_in := goodIn_r _ [11] (by decide +kernel) (by decide +kernel)
set_option maxRecDepth 20000 in
theorem gX12_waits_X12_in : GoodIn wsX12_waits (va_wsS RX12 70 yX12_in wsX12_in) := goodIn_app (goodIn_of _ (by decide +kernel)) ggX12_waits_X12_in
theorem dX12_waits_0 : decode cX12_waits 0 = .ok (.aload_n 0, 1) := by decide +kernel
theorem dX12_waits_1 : decode cX12_waits 1 = .ok (.iconst 0, 1) := by decide +kernel
theorem dX12_waits_2 : decode cX12_waits 2 = .ok (.putfield 60, 3) := by decide +kernel
theorem dX12_waits_5 : decode cX12_waits 5 = .ok (.iload_n 1, 1) := by decide +kernel
theorem dX12_waits_6 : decode cX12_waits 6 = .ok (.i2l, 1) := by decide +kernel
theorem dX12_waits_7 : decode cX12_waits 7 = .ok (.lconst 0, 1) := by decide +kernel
theorem dX12_waits_8 : decode cX12_waits 8 = .ok (.aload_n 0, 1) := by decide +kernel
theorem dX12_waits_9 : decode cX12_waits 9 = .ok (.getfield 143, 3) := by decide +kernel
theorem dX12_waits_12 : decode cX12_waits 12 = .ok (.iconst 1, 1) := by decide +kernel
theorem dX12_waits_13 : decode cX12_waits 13 = .ok (.isub, 1) := by decide +kernel
theorem dX12_waits_14 : decode cX12_waits 14 = .ok (.i2l, 1) := by decide +kernel
theorem dX12_waits_15 : decode cX12_waits 15 = .ok (.invokestatic 70, 3) := by decide +kernel
theorem dX12_waits_18 : decode cX12_waits 18 = .ok (.ifCond .eq 28, 3) := by decide +kernel
theorem dX12_waits_21 : decode cX12_waits 21 = .ok (.iload_n 2, 1) := by decide +kernel
theorem dX12_waits_22 : decode cX12_waits 22 = .ok (.i2l, 1) := by decide +kernel
theorem dX12_waits_23 : decode cX12_waits 23 = .ok (.lconst 0, 1) := by decide +kernel
theorem dX12_waits_24 : decode cX12_waits 24 = .ok (.ldc2_w 141, 3) := by decide +kernel
theorem dX12_waits_27 : decode cX12_waits 27 = .ok (.invokestatic 70, 3) := by decide +kernel
theorem dX12_waits_30 : decode cX12_waits 30 = .ok (.ifCond .eq 16, 3) := by decide +kernel
theorem dX12_waits_33 : decode cX12_waits 33 = .ok (.iload_n 3, 1) := by decide +kernel
theorem dX12_waits_34 : decode cX12_waits 34 = .ok (.i2l, 1) := by decide +kernel
theorem dX12_waits_35 : decode cX12_waits 35 = .ok (.iload_n 2, 1) := by decide +kernel
theorem dX12_waits_36 : decode cX12_waits 36 = .ok (.i2l, 1) := by decide +kernel
theorem dX12_waits_37 : decode cX12_waits 37 = .ok (.ldc2_w 141, 3) := by decide +kernel
theorem dX12_waits_40 : decode cX12_waits 40 = .ok (.invokestatic 70, 3) := by decide +kernel
theorem dX12_waits_43 : decode cX12_waits 43 = .ok (.ifCond .ne 6, 3) := by decide +kernel
theorem dX12_waits_46 : decode cX12_waits 46 = .ok (.ldc 80, 2) := by decide +kernel
theorem dX12_waits_48 : decode cX12_waits 48 = .ok (.ireturn, 1) := by decide +kernel
theorem dX12_waits_49 : decode cX12_waits 49 = .ok (.iconst 0, 1) := by decide +kernel
theorem dX12_waits_50 : decode cX12_waits 50 = .ok (.istore 4, 2) := by decide +kernel
theorem dX12_waits_52 : decode cX12_waits 52 = .ok (.iconst 0, 1) := by decide +kernel
theorem dX12_waits_53 : decode cX12_waits 53 = .ok (.istore 5, 2) := by decide +kernel
theorem dX12_waits_55 : decode cX12_waits 55 = .ok (.ldc 127, 2) := by decide +kernel
theorem dX12_waits_57 : decode cX12_waits 57 = .ok (.istore 6, 2) := by decide +kernel
theorem dX12_waits_59 : decode cX12_waits 59 = .ok (.iconst 0, 1) := by decide +kernel
theorem dX12_waits_60 : decode cX12_waits 60 = .ok (.istore 7, 2) := by decide +kernel
theorem dX12_waits_62 : decode cX12_waits 62 = .ok (.iload 7, 2) := by decide +kernel
theorem dX12_waits_64 : decode cX12_waits 64 = .ok (.aload_n 0, 1) := by decide +kernel
theorem dX12_waits_65 : decode cX12_waits 65 = .ok (.getfield 143, 3) := by decide +kernel
theorem dX12_waits_68 : decode cX12_waits 68 = .ok (.if_icmp .ge 47, 3) := by decide +kernel
theorem dX12_waits_71 : decode cX12_waits 71 = .ok (.iload 4, 2) := by decide +kernel
theorem dX12_waits_73 : decode cX12_waits 73 = .ok (.iload 7, 2) := by decide +kernel
theorem dX12_waits_75 : decode cX12_waits 75 = .ok (.ishr, 1) := by decide +kernel
theorem dX12_waits_76 : decode cX12_waits 76 = .ok (.iconst 1, 1) := by decide +kernel
theorem dX12_waits_77 : decode cX12_waits 77 = .ok (.iand, 1) := by decide +kernel
theorem dX12_waits_78 : decode cX12_waits 78 = .ok (.ifCond .ne 31, 3) := by decide +kernel
theorem dX12_waits_81 : decode cX12_waits 81 = .ok (.iload 6, 2) := by decide +kernel
theorem dX12_waits_83 : decode cX12_waits 83 = .ok (.ldc 127, 2) := by decide +kernel
theorem dX12_waits_85 : decode cX12_waits 85 = .ok (.if_icmp .eq 20, 3) := by decide +kernel
theorem dX12_waits_88 : decode cX12_waits 88 = .ok (.aload_n 0, 1) := by decide +kernel
theorem dX12_waits_89 : decode cX12_waits 89 = .ok (.getfield 51, 3) := by decide +kernel
theorem dX12_waits_92 : decode cX12_waits 92 = .ok (.iload 7, 2) := by decide +kernel
theorem dX12_waits_94 : decode cX12_waits 94 = .ok (.iaload, 1) := by decide +kernel
theorem dX12_waits_95 : decode cX12_waits 95 = .ok (.aload_n 0, 1) := by decide +kernel
theorem dX12_waits_96 : decode cX12_waits 96 = .ok (.getfield 51, 3) := by decide +kernel
theorem dX12_waits_99 : decode cX12_waits 99 = .ok (.iload 6, 2) := by decide +kernel
theorem dX12_waits_101 : decode cX12_waits 101 = .ok (.iaload, 1) := by decide +kernel
theorem dX12_waits_102 : decode cX12_waits 102 = .ok (.if_icmp .ge 7, 3) := by decide +kernel
theorem dX12_waits_105 : decode cX12_waits 105 = .ok (.iload 7, 2) := by decide +kernel
theorem dX12_waits_107 : decode cX12_waits 107 = .ok (.istore 6, 2) := by decide +kernel
theorem dX12_waits_109 : decode cX12_waits 109 = .ok (.iinc 7 1, 3) := by decide +kernel
theorem dX12_waits_112 : decode cX12_waits 112 = .ok (.goto (-50), 3) := by decide +kernel
theorem dX12_waits_115 : decode cX12_waits 115 = .ok (.aload_n 0, 1) := by decide +kernel
theorem dX12_waits_116 : decode cX12_waits 116 = .ok (.getfield 51, 3) := by decide +kernel
theorem dX12_waits_119 : decode cX12_waits 119 = .ok (.iload 6, 2) := by decide +kernel
theorem dX12_waits_121 : decode cX12_waits 121 = .ok (.iaload, 1) := by decide +kernel
theorem dX12_waits_122 : decode cX12_waits 122 = .ok (.iload 5, 2) := by decide +kernel
theorem dX12_waits_124 : decode cX12_waits 124 = .ok (.if_icmp .le 13, 3) := by decide +kernel
theorem dX12_waits_127 : decode cX12_waits 127 = .ok (.aload_n 0, 1) := by decide +kernel
theorem dX12_waits_128 : decode cX12_waits 128 = .ok (.getfield 51, 3) := by decide +kernel
theorem dX12_waits_131 : decode cX12_waits 131 = .ok (.iload 6, 2) := by decide +kernel
theorem dX12_waits_133 : decode cX12_waits 133 = .ok (.iaload, 1) := by decide +kernel
theorem dX12_waits_134 : decode cX12_waits 134 = .ok (.goto 5, 3) := by decide +kernel
theorem dX12_waits_137 : decode cX12_waits 137 = .ok (.iload 5, 2) := by decide +kernel
theorem dX12_waits_139 : decode cX12_waits 139 = .ok (.istore 7, 2) := by decide +kernel
theorem dX12_waits_141 : decode cX12_waits 141 = .ok (.iload 7, 2) := by decide +kernel
theorem dX12_waits_143 : decode cX12_waits 143 = .ok (.iload_n 2, 1) := by decide +kernel
theorem dX12_waits_144 : decode cX12_waits 144 = .ok (.if_icmp .lt 13, 3) := by decide +kernel
theorem dX12_waits_147 : decode cX12_waits 147 = .ok (.iload 7, 2) := by decide +kernel
theorem dX12_waits_149 : decode cX12_waits 149 = .ok (.iload_n 3, 1) := by decide +kernel
theorem dX12_waits_150 : decode cX12_waits 150 = .ok (.if_icmp .ge 7, 3) := by decide +kernel
theorem dX12_waits_153 : decode cX12_waits 153 = .ok (.iload_n 3, 1) := by decide +kernel
theorem dX12_waits_154 : decode cX12_waits 154 = .ok (.goto 5, 3) := by decide +kernel
theorem dX12_waits_157 : decode cX12_waits 157 = .ok (.iload 7, 2) := by decide +kernel
theorem dX12_waits_159 : decode cX12_waits 159 = .ok (.istore 7, 2) := by decide +kernel
theorem dX12_waits_161 : decode cX12_waits 161 = .ok (.iload 6, 2) := by decide +kernel
theorem dX12_waits_163 : decode cX12_waits 163 = .ok (.iload_n 1, 1) := by decide +kernel
theorem dX12_waits_164 : decode cX12_waits 164 = .ok (.if_icmp .ne 13, 3) := by decide +kernel
theorem dX12_waits_167 : decode cX12_waits 167 = .ok (.iload 7, 2) := by decide +kernel
theorem dX12_waits_169 : decode cX12_waits 169 = .ok (.aload_n 0, 1) := by decide +kernel
theorem dX12_waits_170 : decode cX12_waits 170 = .ok (.getfield 51, 3) := by decide +kernel
theorem dX12_waits_173 : decode cX12_waits 173 = .ok (.iload_n 1, 1) := by decide +kernel
theorem dX12_waits_174 : decode cX12_waits 174 = .ok (.iaload, 1) := by decide +kernel
theorem dX12_waits_175 : decode cX12_waits 175 = .ok (.isub, 1) := by decide +kernel
theorem dX12_waits_176 : decode cX12_waits 176 = .ok (.ireturn, 1) := by decide +kernel
theorem dX12_waits_177 : decode cX12_waits 177 = .ok (.iload 7, 2) := by decide +kernel
theorem dX12_waits_179 : decode cX12_waits 179 = .ok (.aload_n 0, 1) := by decide +kernel
theorem dX12_waits_180 : decode cX12_waits 180 = .ok (.getfield 54, 3) := by decide +kernel
theorem dX12_waits_183 : decode cX12_waits 183 = .ok (.iload 6, 2) := by decide +kernel
theorem dX12_waits_185 : decode cX12_waits 185 = .ok (.iaload, 1) := by decide +kernel
theorem dX12_waits_186 : decode cX12_waits 186 = .ok (.iadd, 1) := by decide +kernel
theorem dX12_waits_187 : decode cX12_waits 187 = .ok (.istore 5, 2) := by decide +kernel
theorem dX12_waits_189 : decode cX12_waits 189 = .ok (.iload 4, 2) := by decide +kernel
theorem dX12_waits_191 : decode cX12_waits 191 = .ok (.iconst 1, 1) := by decide +kernel
theorem dX12_waits_192 : decode cX12_waits 192 = .ok (.iload 6, 2) := by decide +kernel
theorem dX12_waits_194 : decode cX12_waits 194 = .ok (.ishl, 1) := by decide +kernel
theorem dX12_waits_195 : decode cX12_waits 195 = .ok (.ior, 1) := by decide +kernel
theorem dX12_waits_196 : decode cX12_waits 196 = .ok (.istore 4, 2) := by decide +kernel
theorem dX12_waits_198 : decode cX12_waits 198 = .ok (.goto (-143), 3) := by decide +kernel
theorem dX12_closingsOf_0 : decode cX12_closingsOf 0 = .ok (.iconst 0, 1) := by decide +kernel
theorem dX12_closingsOf_1 : decode cX12_closingsOf 1 = .ok (.istore 7, 2) := by decide +kernel
theorem dX12_closingsOf_3 : decode cX12_closingsOf 3 = .ok (.iconst 0, 1) := by decide +kernel
theorem dX12_closingsOf_4 : decode cX12_closingsOf 4 = .ok (.istore 8, 2) := by decide +kernel
theorem dX12_closingsOf_6 : decode cX12_closingsOf 6 = .ok (.iload 8, 2) := by decide +kernel
theorem dX12_closingsOf_8 : decode cX12_closingsOf 8 = .ok (.iload_n 3, 1) := by decide +kernel
theorem dX12_closingsOf_9 : decode cX12_closingsOf 9 = .ok (.if_icmp .ge 51, 3) := by decide +kernel
theorem dX12_closingsOf_12 : decode cX12_closingsOf 12 = .ok (.iload 7, 2) := by decide +kernel
theorem dX12_closingsOf_14 : decode cX12_closingsOf 14 = .ok (.aload_n 0, 1) := by decide +kernel
theorem dX12_closingsOf_15 : decode cX12_closingsOf 15 = .ok (.getfield 22, 3) := by decide +kernel
theorem dX12_closingsOf_18 : decode cX12_closingsOf 18 = .ok (.bipush 60, 2) := by decide +kernel
theorem dX12_closingsOf_20 : decode cX12_closingsOf 20 = .ok (.iload_n 1, 1) := by decide +kernel
theorem dX12_closingsOf_21 : decode cX12_closingsOf 21 = .ok (.imul, 1) := by decide +kernel
theorem dX12_closingsOf_22 : decode cX12_closingsOf 22 = .ok (.iload_n 2, 1) := by decide +kernel
theorem dX12_closingsOf_23 : decode cX12_closingsOf 23 = .ok (.iadd, 1) := by decide +kernel
theorem dX12_closingsOf_24 : decode cX12_closingsOf 24 = .ok (.iload 8, 2) := by decide +kernel
theorem dX12_closingsOf_26 : decode cX12_closingsOf 26 = .ok (.iadd, 1) := by decide +kernel
theorem dX12_closingsOf_27 : decode cX12_closingsOf 27 = .ok (.iaload, 1) := by decide +kernel
theorem dX12_closingsOf_28 : decode cX12_closingsOf 28 = .ok (.i2l, 1) := by decide +kernel
theorem dX12_closingsOf_29 : decode cX12_closingsOf 29 = .ok (.iload 6, 2) := by decide +kernel
theorem dX12_closingsOf_31 : decode cX12_closingsOf 31 = .ok (.iload 4, 2) := by decide +kernel
theorem dX12_closingsOf_33 : decode cX12_closingsOf 33 = .ok (.imul, 1) := by decide +kernel
theorem dX12_closingsOf_34 : decode cX12_closingsOf 34 = .ok (.bipush 10, 2) := by decide +kernel
theorem dX12_closingsOf_36 : decode cX12_closingsOf 36 = .ok (.idiv, 1) := by decide +kernel
theorem dX12_closingsOf_37 : decode cX12_closingsOf 37 = .ok (.i2l, 1) := by decide +kernel
theorem dX12_closingsOf_38 : decode cX12_closingsOf 38 = .ok (.ladd, 1) := by decide +kernel
theorem dX12_closingsOf_39 : decode cX12_closingsOf 39 = .ok (.iload 5, 2) := by decide +kernel
theorem dX12_closingsOf_41 : decode cX12_closingsOf 41 = .ok (.i2l, 1) := by decide +kernel
theorem dX12_closingsOf_42 : decode cX12_closingsOf 42 = .ok (.lcmp, 1) := by decide +kernel
theorem dX12_closingsOf_43 : decode cX12_closingsOf 43 = .ok (.ifCond .le 7, 3) := by decide +kernel
theorem dX12_closingsOf_46 : decode cX12_closingsOf 46 = .ok (.iconst 1, 1) := by decide +kernel
theorem dX12_closingsOf_47 : decode cX12_closingsOf 47 = .ok (.goto 4, 3) := by decide +kernel
theorem dX12_closingsOf_50 : decode cX12_closingsOf 50 = .ok (.iconst 0, 1) := by decide +kernel
theorem dX12_closingsOf_51 : decode cX12_closingsOf 51 = .ok (.iadd, 1) := by decide +kernel
theorem dX12_closingsOf_52 : decode cX12_closingsOf 52 = .ok (.istore 7, 2) := by decide +kernel
theorem dX12_closingsOf_54 : decode cX12_closingsOf 54 = .ok (.iinc 8 1, 3) := by decide +kernel
theorem dX12_closingsOf_57 : decode cX12_closingsOf 57 = .ok (.goto (-51), 3) := by decide +kernel
theorem dX12_closingsOf_60 : decode cX12_closingsOf 60 = .ok (.iload 7, 2) := by decide +kernel
theorem dX12_closingsOf_62 : decode cX12_closingsOf 62 = .ok (.ireturn, 1) := by decide +kernel
set_option maxRecDepth 20000 in
theorem ggX12_closings_X12_isSheet : GoodIn wsX12_closings wsX12_isSheet := goodIn_r _ [12, 13, 14, 15, 11, 16] (by decide +kernel) (by decide +kernel)
set_option maxRecDepth 20000 in
theorem gX12_closings_X12_isSheet : GoodIn wsX12_closings (va_wsS RX12 74 yX12_isSheet wsX12_isSheet) := goodIn_app (goodIn_of _ (by decide +kernel)) ggX12_closings_X12_isSheet
set_option maxRecDepth 20000 in
theorem ggX12_closings_X12_in : GoodIn wsX12_closings wsX12_in := goodIn_r _ [16] (by decide +kernel) (by decide +kernel)
set_option maxRecDepth 20000 in
theorem gX12_closings_X12_in : GoodIn wsX12_closings (va_wsS RX12 70 yX12_in wsX12_in) := goodIn_app (goodIn_of _ (by decide +kernel)) ggX12_closings_X12_in
set_option maxRecDepth 20000 in
theorem ggX12_closings_X12_found : GoodIn wsX12_closings wsX12_found := goodIn_r _ [20, 6, 21, 27, 28, 29, 30, 31, 32, 33, 34, 35, 36, 37, 38, 39, 40, 41, 42, 43, 44, 45, 46, 47, 48] (by decide +kernel) (by decide +kernel)
set_option maxRecDepth 20000 in
theorem gX12_closings_X12_found : GoodIn wsX12_closings (wsV RX12 81 RX12 yX12_found wsX12_found) := goodIn_app (goodIn_of _ (by decide +kernel)) ggX12_closings_X12_found
set_option maxRecDepth 20000 in
theorem ggX12_closings_X12_closingsOf : GoodIn wsX12_closings wsX12_closingsOf := goodIn_r _ [25, 26, 27, 28, 29, 30, 31, 32, 33, 34, 35, 36, 37, 38, 39, 40, 41, 42, 43, 44, 45, 46, 47, 48] (by decide +kernel) (by decide +kernel)
set_option maxRecDepth 20000 in
theorem gX12_closings_X12_closingsOf : GoodIn wsX12_closings (wsV RX12 150 RX12 yX12_closingsOf wsX12_closingsOf) := goodIn_app (goodIn_of _ (by decide +kernel)) ggX12_closings_X12_closingsOf
theorem dX12_closings_0 : decode cX12_closings 0 = .ok (.aload_n 0, 1) := by decide +kernel
theorem dX12_closings_1 : decode cX12_closings 1 = .ok (.iconst 0, 1) := by decide +kernel
theorem dX12_closings_2 : decode cX12_closings 2 = .ok (.putfield 60, 3) := by decide +kernel
theorem dX12_closings_5 : decode cX12_closings 5 = .ok (.iload_n 1, 1) := by decide +kernel
theorem dX12_closings_6 : decode cX12_closings 6 = .ok (.invokestatic 74, 3) := by decide +kernel
theorem dX12_closings_9 : decode cX12_closings 9 = .ok (.ifCond .eq 41, 3) := by decide +kernel
theorem dX12_closings_12 : decode cX12_closings 12 = .ok (.iload_n 3, 1) := by decide +kernel
theorem dX12_closings_13 : decode cX12_closings 13 = .ok (.i2l, 1) := by decide +kernel
theorem dX12_closings_14 : decode cX12_closings 14 = .ok (.lconst 1, 1) := by decide +kernel
theorem dX12_closings_15 : decode cX12_closings 15 = .ok (.ldc2_w 146, 3) := by decide +kernel
theorem dX12_closings_18 : decode cX12_closings 18 = .ok (.invokestatic 70, 3) := by decide +kernel
theorem dX12_closings_21 : decode cX12_closings 21 = .ok (.ifCond .eq 29, 3) := by decide +kernel
theorem dX12_closings_24 : decode cX12_closings 24 = .ok (.iload 6, 2) := by decide +kernel
theorem dX12_closings_26 : decode cX12_closings 26 = .ok (.i2l, 1) := by decide +kernel
theorem dX12_closings_27 : decode cX12_closings 27 = .ok (.lconst 0, 1) := by decide +kernel
theorem dX12_closings_28 : decode cX12_closings 28 = .ok (.ldc2_w 148, 3) := by decide +kernel
theorem dX12_closings_31 : decode cX12_closings 31 = .ok (.invokestatic 70, 3) := by decide +kernel
theorem dX12_closings_34 : decode cX12_closings 34 = .ok (.ifCond .eq 16, 3) := by decide +kernel
theorem dX12_closings_37 : decode cX12_closings 37 = .ok (.iload 4, 2) := by decide +kernel
theorem dX12_closings_39 : decode cX12_closings 39 = .ok (.i2l, 1) := by decide +kernel
theorem dX12_closings_40 : decode cX12_closings 40 = .ok (.lconst 0, 1) := by decide +kernel
theorem dX12_closings_41 : decode cX12_closings 41 = .ok (.ldc2_w 95, 3) := by decide +kernel
theorem dX12_closings_44 : decode cX12_closings 44 = .ok (.invokestatic 70, 3) := by decide +kernel
theorem dX12_closings_47 : decode cX12_closings 47 = .ok (.ifCond .ne 6, 3) := by decide +kernel
theorem dX12_closings_50 : decode cX12_closings 50 = .ok (.ldc 80, 2) := by decide +kernel
theorem dX12_closings_52 : decode cX12_closings 52 = .ok (.ireturn, 1) := by decide +kernel
theorem dX12_closings_53 : decode cX12_closings 53 = .ok (.aload_n 0, 1) := by decide +kernel
theorem dX12_closings_54 : decode cX12_closings 54 = .ok (.iconst 0, 1) := by decide +kernel
theorem dX12_closings_55 : decode cX12_closings 55 = .ok (.putfield 64, 3) := by decide +kernel
theorem dX12_closings_58 : decode cX12_closings 58 = .ok (.aload_n 0, 1) := by decide +kernel
theorem dX12_closings_59 : decode cX12_closings 59 = .ok (.getfield 16, 3) := by decide +kernel
theorem dX12_closings_62 : decode cX12_closings 62 = .ok (.iload_n 1, 1) := by decide +kernel
theorem dX12_closings_63 : decode cX12_closings 63 = .ok (.iaload, 1) := by decide +kernel
theorem dX12_closings_64 : decode cX12_closings 64 = .ok (.ifCond .ge 9, 3) := by decide +kernel
theorem dX12_closings_67 : decode cX12_closings 67 = .ok (.aload_n 0, 1) := by decide +kernel
theorem dX12_closings_68 : decode cX12_closings 68 = .ok (.iconst 1, 1) := by decide +kernel
theorem dX12_closings_69 : decode cX12_closings 69 = .ok (.invokevirtual 81, 3) := by decide +kernel
theorem dX12_closings_72 : decode cX12_closings 72 = .ok (.ireturn, 1) := by decide +kernel
theorem dX12_closings_73 : decode cX12_closings 73 = .ok (.iload_n 2, 1) := by decide +kernel
theorem dX12_closings_74 : decode cX12_closings 74 = .ok (.ifCond .lt 19, 3) := by decide +kernel
theorem dX12_closings_77 : decode cX12_closings 77 = .ok (.iload_n 2, 1) := by decide +kernel
theorem dX12_closings_78 : decode cX12_closings 78 = .ok (.i2l, 1) := by decide +kernel
theorem dX12_closings_79 : decode cX12_closings 79 = .ok (.iload_n 3, 1) := by decide +kernel
theorem dX12_closings_80 : decode cX12_closings 80 = .ok (.i2l, 1) := by decide +kernel
theorem dX12_closings_81 : decode cX12_closings 81 = .ok (.ladd, 1) := by decide +kernel
theorem dX12_closings_82 : decode cX12_closings 82 = .ok (.aload_n 0, 1) := by decide +kernel
theorem dX12_closings_83 : decode cX12_closings 83 = .ok (.getfield 19, 3) := by decide +kernel
theorem dX12_closings_86 : decode cX12_closings 86 = .ok (.iload_n 1, 1) := by decide +kernel
theorem dX12_closings_87 : decode cX12_closings 87 = .ok (.iaload, 1) := by decide +kernel
theorem dX12_closings_88 : decode cX12_closings 88 = .ok (.i2l, 1) := by decide +kernel
theorem dX12_closings_89 : decode cX12_closings 89 = .ok (.lcmp, 1) := by decide +kernel
theorem dX12_closings_90 : decode cX12_closings 90 = .ok (.ifCond .le 9, 3) := by decide +kernel
theorem dX12_closings_93 : decode cX12_closings 93 = .ok (.aload_n 0, 1) := by decide +kernel
theorem dX12_closings_94 : decode cX12_closings 94 = .ok (.iconst 2, 1) := by decide +kernel
theorem dX12_closings_95 : decode cX12_closings 95 = .ok (.invokevirtual 81, 3) := by decide +kernel
theorem dX12_closings_98 : decode cX12_closings 98 = .ok (.ireturn, 1) := by decide +kernel
theorem dX12_closings_99 : decode cX12_closings 99 = .ok (.aload_n 0, 1) := by decide +kernel
theorem dX12_closings_100 : decode cX12_closings 100 = .ok (.iload_n 1, 1) := by decide +kernel
theorem dX12_closings_101 : decode cX12_closings 101 = .ok (.iload_n 2, 1) := by decide +kernel
theorem dX12_closings_102 : decode cX12_closings 102 = .ok (.iload_n 3, 1) := by decide +kernel
theorem dX12_closings_103 : decode cX12_closings 103 = .ok (.iload 4, 2) := by decide +kernel
theorem dX12_closings_105 : decode cX12_closings 105 = .ok (.iload 5, 2) := by decide +kernel
theorem dX12_closings_107 : decode cX12_closings 107 = .ok (.iload 6, 2) := by decide +kernel
theorem dX12_closings_109 : decode cX12_closings 109 = .ok (.invokevirtual 150, 3) := by decide +kernel
theorem dX12_closings_112 : decode cX12_closings 112 = .ok (.ireturn, 1) := by decide +kernel
set_option maxRecDepth 20000 in
theorem ggX12_tooMany_X12_isSheet : GoodIn wsX12_tooMany wsX12_isSheet := goodIn_r _ [12, 13, 14, 15, 11, 16] (by decide +kernel) (by decide +kernel)
set_option maxRecDepth 20000 in
theorem gX12_tooMany_X12_isSheet : GoodIn wsX12_tooMany (va_wsS RX12 74 yX12_isSheet wsX12_isSheet) := goodIn_app (goodIn_of _ (by decide +kernel)) ggX12_tooMany_X12_isSheet
set_option maxRecDepth 20000 in
theorem ggX12_tooMany_X12_in : GoodIn wsX12_tooMany wsX12_in := goodIn_r _ [16] (by decide +kernel) (by decide +kernel)
set_option maxRecDepth 20000 in
theorem gX12_tooMany_X12_in : GoodIn wsX12_tooMany (va_wsS RX12 70 yX12_in wsX12_in) := goodIn_app (goodIn_of _ (by decide +kernel)) ggX12_tooMany_X12_in
set_option maxRecDepth 20000 in
theorem ggX12_tooMany_X12_found : GoodIn wsX12_tooMany wsX12_found := goodIn_r _ [20, 5, 21, 27, 28, 29, 30, 31, 32, 33, 34, 35, 36, 37, 38, 39, 40, 41, 42, 43, 44, 45, 46, 47, 48] (by decide +kernel) (by decide +kernel)
set_option maxRecDepth 20000 in
theorem gX12_tooMany_X12_found : GoodIn wsX12_tooMany (wsV RX12 81 RX12 yX12_found wsX12_found) := goodIn_app (goodIn_of _ (by decide +kernel)) ggX12_tooMany_X12_found
set_option maxRecDepth 20000 in
theorem ggX12_tooMany_X12_closingsOf : GoodIn wsX12_tooMany wsX12_closingsOf := goodIn_r _ [25, 26, 27, 28, 29, 30, 31, 32, 33, 34, 35, 36, 37, 38, 39, 40, 41, 42, 43, 44, 45, 46, 47, 48] (by decide +kernel) (by decide +kernel)
set_option maxRecDepth 20000 in
theorem gX12_tooMany_X12_closingsOf : GoodIn wsX12_tooMany (wsV RX12 150 RX12 yX12_closingsOf wsX12_closingsOf) := goodIn_app (goodIn_of _ (by decide +kernel)) ggX12_tooMany_X12_closingsOf
theorem dX12_tooMany_0 : decode cX12_tooMany 0 = .ok (.aload_n 0, 1) := by decide +kernel
theorem dX12_tooMany_1 : decode cX12_tooMany 1 = .ok (.iconst 0, 1) := by decide +kernel
theorem dX12_tooMany_2 : decode cX12_tooMany 2 = .ok (.putfield 60, 3) := by decide +kernel
theorem dX12_tooMany_5 : decode cX12_tooMany 5 = .ok (.iload_n 1, 1) := by decide +kernel
theorem dX12_tooMany_6 : decode cX12_tooMany 6 = .ok (.invokestatic 74, 3) := by decide +kernel
theorem dX12_tooMany_9 : decode cX12_tooMany 9 = .ok (.ifCond .eq 33, 3) := by decide +kernel
theorem dX12_tooMany_12 : decode cX12_tooMany 12 = .ok (.iload_n 3, 1) := by decide +kernel
theorem dX12_tooMany_13 : decode cX12_tooMany 13 = .ok (.i2l, 1) := by decide +kernel
theorem dX12_tooMany_14 : decode cX12_tooMany 14 = .ok (.lconst 1, 1) := by decide +kernel
theorem dX12_tooMany_15 : decode cX12_tooMany 15 = .ok (.ldc2_w 146, 3) := by decide +kernel
theorem dX12_tooMany_18 : decode cX12_tooMany 18 = .ok (.invokestatic 70, 3) := by decide +kernel
theorem dX12_tooMany_21 : decode cX12_tooMany 21 = .ok (.ifCond .eq 21, 3) := by decide +kernel
theorem dX12_tooMany_24 : decode cX12_tooMany 24 = .ok (.iload 4, 2) := by decide +kernel
theorem dX12_tooMany_26 : decode cX12_tooMany 26 = .ok (.i2l, 1) := by decide +kernel
theorem dX12_tooMany_27 : decode cX12_tooMany 27 = .ok (.lconst 0, 1) := by decide +kernel
theorem dX12_tooMany_28 : decode cX12_tooMany 28 = .ok (.ldc2_w 95, 3) := by decide +kernel
theorem dX12_tooMany_31 : decode cX12_tooMany 31 = .ok (.invokestatic 70, 3) := by decide +kernel
theorem dX12_tooMany_34 : decode cX12_tooMany 34 = .ok (.ifCond .eq 8, 3) := by decide +kernel
theorem dX12_tooMany_37 : decode cX12_tooMany 37 = .ok (.iload 6, 2) := by decide +kernel
theorem dX12_tooMany_39 : decode cX12_tooMany 39 = .ok (.ifCond .ge 6, 3) := by decide +kernel
theorem dX12_tooMany_42 : decode cX12_tooMany 42 = .ok (.ldc 80, 2) := by decide +kernel
theorem dX12_tooMany_44 : decode cX12_tooMany 44 = .ok (.ireturn, 1) := by decide +kernel
theorem dX12_tooMany_45 : decode cX12_tooMany 45 = .ok (.aload_n 0, 1) := by decide +kernel
theorem dX12_tooMany_46 : decode cX12_tooMany 46 = .ok (.iconst 0, 1) := by decide +kernel
theorem dX12_tooMany_47 : decode cX12_tooMany 47 = .ok (.putfield 64, 3) := by decide +kernel
theorem dX12_tooMany_50 : decode cX12_tooMany 50 = .ok (.aload_n 0, 1) := by decide +kernel
theorem dX12_tooMany_51 : decode cX12_tooMany 51 = .ok (.getfield 16, 3) := by decide +kernel
theorem dX12_tooMany_54 : decode cX12_tooMany 54 = .ok (.iload_n 1, 1) := by decide +kernel
theorem dX12_tooMany_55 : decode cX12_tooMany 55 = .ok (.iaload, 1) := by decide +kernel
theorem dX12_tooMany_56 : decode cX12_tooMany 56 = .ok (.ifCond .ge 9, 3) := by decide +kernel
theorem dX12_tooMany_59 : decode cX12_tooMany 59 = .ok (.aload_n 0, 1) := by decide +kernel
theorem dX12_tooMany_60 : decode cX12_tooMany 60 = .ok (.iconst 1, 1) := by decide +kernel
theorem dX12_tooMany_61 : decode cX12_tooMany 61 = .ok (.invokevirtual 81, 3) := by decide +kernel
theorem dX12_tooMany_64 : decode cX12_tooMany 64 = .ok (.ireturn, 1) := by decide +kernel
theorem dX12_tooMany_65 : decode cX12_tooMany 65 = .ok (.iload_n 2, 1) := by decide +kernel
theorem dX12_tooMany_66 : decode cX12_tooMany 66 = .ok (.ifCond .lt 19, 3) := by decide +kernel
theorem dX12_tooMany_69 : decode cX12_tooMany 69 = .ok (.iload_n 2, 1) := by decide +kernel
theorem dX12_tooMany_70 : decode cX12_tooMany 70 = .ok (.i2l, 1) := by decide +kernel
theorem dX12_tooMany_71 : decode cX12_tooMany 71 = .ok (.iload_n 3, 1) := by decide +kernel
theorem dX12_tooMany_72 : decode cX12_tooMany 72 = .ok (.i2l, 1) := by decide +kernel
theorem dX12_tooMany_73 : decode cX12_tooMany 73 = .ok (.ladd, 1) := by decide +kernel
theorem dX12_tooMany_74 : decode cX12_tooMany 74 = .ok (.aload_n 0, 1) := by decide +kernel
theorem dX12_tooMany_75 : decode cX12_tooMany 75 = .ok (.getfield 19, 3) := by decide +kernel
theorem dX12_tooMany_78 : decode cX12_tooMany 78 = .ok (.iload_n 1, 1) := by decide +kernel
theorem dX12_tooMany_79 : decode cX12_tooMany 79 = .ok (.iaload, 1) := by decide +kernel
theorem dX12_tooMany_80 : decode cX12_tooMany 80 = .ok (.i2l, 1) := by decide +kernel
theorem dX12_tooMany_81 : decode cX12_tooMany 81 = .ok (.lcmp, 1) := by decide +kernel
theorem dX12_tooMany_82 : decode cX12_tooMany 82 = .ok (.ifCond .le 9, 3) := by decide +kernel
theorem dX12_tooMany_85 : decode cX12_tooMany 85 = .ok (.aload_n 0, 1) := by decide +kernel
theorem dX12_tooMany_86 : decode cX12_tooMany 86 = .ok (.iconst 2, 1) := by decide +kernel
theorem dX12_tooMany_87 : decode cX12_tooMany 87 = .ok (.invokevirtual 81, 3) := by decide +kernel
theorem dX12_tooMany_90 : decode cX12_tooMany 90 = .ok (.ireturn, 1) := by decide +kernel
theorem dX12_tooMany_91 : decode cX12_tooMany 91 = .ok (.iconst 0, 1) := by decide +kernel
theorem dX12_tooMany_92 : decode cX12_tooMany 92 = .ok (.istore 7, 2) := by decide +kernel
theorem dX12_tooMany_94 : decode cX12_tooMany 94 = .ok (.iload 7, 2) := by decide +kernel
theorem dX12_tooMany_96 : decode cX12_tooMany 96 = .ok (.sipush 300, 3) := by decide +kernel
theorem dX12_tooMany_99 : decode cX12_tooMany 99 = .ok (.if_icmp .gt 30, 3) := by decide +kernel
theorem dX12_tooMany_102 : decode cX12_tooMany 102 = .ok (.aload_n 0, 1) := by decide +kernel
theorem dX12_tooMany_103 : decode cX12_tooMany 103 = .ok (.iload_n 1, 1) := by decide +kernel
theorem dX12_tooMany_104 : decode cX12_tooMany 104 = .ok (.iload_n 2, 1) := by decide +kernel
theorem dX12_tooMany_105 : decode cX12_tooMany 105 = .ok (.iload_n 3, 1) := by decide +kernel
theorem dX12_tooMany_106 : decode cX12_tooMany 106 = .ok (.iload 4, 2) := by decide +kernel
theorem dX12_tooMany_108 : decode cX12_tooMany 108 = .ok (.iload 5, 2) := by decide +kernel
theorem dX12_tooMany_110 : decode cX12_tooMany 110 = .ok (.iload 7, 2) := by decide +kernel
theorem dX12_tooMany_112 : decode cX12_tooMany 112 = .ok (.invokevirtual 150, 3) := by decide +kernel
theorem dX12_tooMany_115 : decode cX12_tooMany 115 = .ok (.iload 6, 2) := by decide +kernel
theorem dX12_tooMany_117 : decode cX12_tooMany 117 = .ok (.if_icmp .le 6, 3) := by decide +kernel
theorem dX12_tooMany_120 : decode cX12_tooMany 120 = .ok (.iload 7, 2) := by decide +kernel
theorem dX12_tooMany_122 : decode cX12_tooMany 122 = .ok (.ireturn, 1) := by decide +kernel
theorem dX12_tooMany_123 : decode cX12_tooMany 123 = .ok (.iinc 7 1, 3) := by decide +kernel
theorem dX12_tooMany_126 : decode cX12_tooMany 126 = .ok (.goto (-32), 3) := by decide +kernel
theorem dX12_tooMany_129 : decode cX12_tooMany 129 = .ok (.ldc 127, 2) := by decide +kernel
theorem dX12_tooMany_131 : decode cX12_tooMany 131 = .ok (.ireturn, 1) := by decide +kernel
theorem dX12_kindOf_0 : decode cX12_kindOf 0 = .ok (.aload_n 0, 1) := by decide +kernel
theorem dX12_kindOf_1 : decode cX12_kindOf 1 = .ok (.getfield 42, 3) := by decide +kernel
theorem dX12_kindOf_4 : decode cX12_kindOf 4 = .ok (.iload_n 1, 1) := by decide +kernel
theorem dX12_kindOf_5 : decode cX12_kindOf 5 = .ok (.iaload, 1) := by decide +kernel
theorem dX12_kindOf_6 : decode cX12_kindOf 6 = .ok (.ifCond .le 26, 3) := by decide +kernel
theorem dX12_kindOf_9 : decode cX12_kindOf 9 = .ok (.aload_n 0, 1) := by decide +kernel
theorem dX12_kindOf_10 : decode cX12_kindOf 10 = .ok (.getfield 42, 3) := by decide +kernel
theorem dX12_kindOf_13 : decode cX12_kindOf 13 = .ok (.iload_n 1, 1) := by decide +kernel
theorem dX12_kindOf_14 : decode cX12_kindOf 14 = .ok (.iaload, 1) := by decide +kernel
theorem dX12_kindOf_15 : decode cX12_kindOf 15 = .ok (.aload_n 0, 1) := by decide +kernel
theorem dX12_kindOf_16 : decode cX12_kindOf 16 = .ok (.getfield 39, 3) := by decide +kernel
theorem dX12_kindOf_19 : decode cX12_kindOf 19 = .ok (.iload_n 1, 1) := by decide +kernel
theorem dX12_kindOf_20 : decode cX12_kindOf 20 = .ok (.iaload, 1) := by decide +kernel
theorem dX12_kindOf_21 : decode cX12_kindOf 21 = .ok (.if_icmp .gt 7, 3) := by decide +kernel
theorem dX12_kindOf_24 : decode cX12_kindOf 24 = .ok (.iconst 2, 1) := by decide +kernel
theorem dX12_kindOf_25 : decode cX12_kindOf 25 = .ok (.goto 24, 3) := by decide +kernel
theorem dX12_kindOf_28 : decode cX12_kindOf 28 = .ok (.iconst 1, 1) := by decide +kernel
theorem dX12_kindOf_29 : decode cX12_kindOf 29 = .ok (.goto 20, 3) := by decide +kernel
theorem dX12_kindOf_32 : decode cX12_kindOf 32 = .ok (.aload_n 0, 1) := by decide +kernel
theorem dX12_kindOf_33 : decode cX12_kindOf 33 = .ok (.getfield 39, 3) := by decide +kernel
theorem dX12_kindOf_36 : decode cX12_kindOf 36 = .ok (.iload_n 1, 1) := by decide +kernel
theorem dX12_kindOf_37 : decode cX12_kindOf 37 = .ok (.iaload, 1) := by decide +kernel
theorem dX12_kindOf_38 : decode cX12_kindOf 38 = .ok (.sipush 200, 3) := by decide +kernel
theorem dX12_kindOf_41 : decode cX12_kindOf 41 = .ok (.if_icmp .lt 7, 3) := by decide +kernel
theorem dX12_kindOf_44 : decode cX12_kindOf 44 = .ok (.iconst 3, 1) := by decide +kernel
theorem dX12_kindOf_45 : decode cX12_kindOf 45 = .ok (.goto 4, 3) := by decide +kernel
theorem dX12_kindOf_48 : decode cX12_kindOf 48 = .ok (.iconst 0, 1) := by decide +kernel
theorem dX12_kindOf_49 : decode cX12_kindOf 49 = .ok (.ireturn, 1) := by decide +kernel
set_option maxRecDepth 20000 in
theorem ggX12_kind_X12_isGate : GoodIn wsX12_kind wsX12_isGate := goodIn_r _ [7, 8, 9, 10, 6, 11, 18, 19, 20, 21, 22, 23, 24, 25, 26, 27, 28, 29, 30, 31, 32, 33, 34, 35, 36, 37, 38, 39] (by decide +kernel) (by decide +kernel)
set_option maxRecDepth 20000 in
theorem gX12_kind_X12_isGate : GoodIn wsX12_kind (wsV RX12 135 RX12 yX12_isGate wsX12_isGate) := goodIn_app (goodIn_of _ (by decide +kernel)) ggX12_kind_X12_isGate
set_option maxRecDepth 20000 in
theorem ggX12_kind_X12_kindOf : GoodIn wsX12_kind wsX12_kindOf := goodIn_r _ [15, 16, 17, 18, 19, 20, 21, 22, 23, 24, 25, 26, 27, 28, 29, 30, 31, 32, 33, 34, 35, 36, 37, 38, 39] (by decide +kernel) (by decide +kernel)
set_option maxRecDepth 20000 in
theorem gX12_kind_X12_kindOf : GoodIn wsX12_kind (wsV RX12 154 RX12 yX12_kindOf wsX12_kindOf) := goodIn_app (goodIn_of _ (by decide +kernel)) ggX12_kind_X12_kindOf
theorem dX12_kind_0 : decode cX12_kind 0 = .ok (.aload_n 0, 1) := by decide +kernel
theorem dX12_kind_1 : decode cX12_kind 1 = .ok (.iconst 0, 1) := by decide +kernel
theorem dX12_kind_2 : decode cX12_kind 2 = .ok (.putfield 60, 3) := by decide +kernel
theorem dX12_kind_5 : decode cX12_kind 5 = .ok (.aload_n 0, 1) := by decide +kernel
theorem dX12_kind_6 : decode cX12_kind 6 = .ok (.iload_n 1, 1) := by decide +kernel
theorem dX12_kind_7 : decode cX12_kind 7 = .ok (.invokevirtual 135, 3) := by decide +kernel
theorem dX12_kind_10 : decode cX12_kind 10 = .ok (.ifCond .eq 11, 3) := by decide +kernel
theorem dX12_kind_13 : decode cX12_kind 13 = .ok (.aload_n 0, 1) := by decide +kernel
theorem dX12_kind_14 : decode cX12_kind 14 = .ok (.iload_n 1, 1) := by decide +kernel
theorem dX12_kind_15 : decode cX12_kind 15 = .ok (.invokevirtual 154, 3) := by decide +kernel
theorem dX12_kind_18 : decode cX12_kind 18 = .ok (.goto 5, 3) := by decide +kernel
theorem dX12_kind_21 : decode cX12_kind 21 = .ok (.ldc 80, 2) := by decide +kernel
theorem dX12_kind_23 : decode cX12_kind 23 = .ok (.ireturn, 1) := by decide +kernel
set_option maxRecDepth 20000 in
theorem ggX12_as_X12_isGate : GoodIn wsX12_as wsX12_isGate := goodIn_r _ [10, 11, 12, 13, 9, 14, 25, 26, 27, 28, 29, 30, 31, 32, 33, 34, 35, 36, 37, 38, 39, 40, 41, 42, 43, 44, 45, 46] (by decide +kernel) (by decide +kernel)
set_option maxRecDepth 20000 in
theorem gX12_as_X12_isGate : GoodIn wsX12_as (wsV RX12 135 RX12 yX12_isGate wsX12_isGate) := goodIn_app (goodIn_of _ (by decide +kernel)) ggX12_as_X12_isGate
set_option maxRecDepth 20000 in
theorem ggX12_as_X12_in : GoodIn wsX12_as wsX12_in := goodIn_r _ [14] (by decide +kernel) (by decide +kernel)
set_option maxRecDepth 20000 in
theorem gX12_as_X12_in : GoodIn wsX12_as (va_wsS RX12 70 yX12_in wsX12_in) := goodIn_app (goodIn_of _ (by decide +kernel)) ggX12_as_X12_in
set_option maxRecDepth 20000 in
theorem ggX12_as_X12_kindOf : GoodIn wsX12_as wsX12_kindOf := goodIn_r _ [18, 19, 5, 25, 26, 27, 28, 29, 30, 31, 32, 33, 34, 35, 36, 37, 38, 39, 40, 41, 42, 43, 44, 45, 46] (by decide +kernel) (by decide +kernel)
set_option maxRecDepth 20000 in
theorem gX12_as_X12_kindOf : GoodIn wsX12_as (wsV RX12 154 RX12 yX12_kindOf wsX12_kindOf) := goodIn_app (goodIn_of _ (by decide +kernel)) ggX12_as_X12_kindOf
set_option maxRecDepth 20000 in
theorem ggX12_as_X12_found : GoodIn wsX12_as wsX12_found := goodIn_r _ [23, 4, 24, 25, 26, 27, 28, 29, 30, 31, 32, 33, 34, 35, 36, 37, 38, 39, 40, 41, 42, 43, 44, 45, 46] (by decide +kernel) (by decide +kernel)
set_option maxRecDepth 20000 in
theorem gX12_as_X12_found : GoodIn wsX12_as (wsV RX12 81 RX12 yX12_found wsX12_found) := goodIn_app (goodIn_of _ (by decide +kernel)) ggX12_as_X12_found
theorem dX12_as_0 : decode cX12_as 0 = .ok (.aload_n 0, 1) := by decide +kernel
theorem dX12_as_1 : decode cX12_as 1 = .ok (.iconst 0, 1) := by decide +kernel
theorem dX12_as_2 : decode cX12_as 2 = .ok (.putfield 60, 3) := by decide +kernel
theorem dX12_as_5 : decode cX12_as 5 = .ok (.aload_n 0, 1) := by decide +kernel
theorem dX12_as_6 : decode cX12_as 6 = .ok (.iload_n 1, 1) := by decide +kernel
theorem dX12_as_7 : decode cX12_as 7 = .ok (.invokevirtual 135, 3) := by decide +kernel
theorem dX12_as_10 : decode cX12_as 10 = .ok (.ifCond .eq 15, 3) := by decide +kernel
theorem dX12_as_13 : decode cX12_as 13 = .ok (.iload_n 2, 1) := by decide +kernel
theorem dX12_as_14 : decode cX12_as 14 = .ok (.i2l, 1) := by decide +kernel
theorem dX12_as_15 : decode cX12_as 15 = .ok (.lconst 0, 1) := by decide +kernel
theorem dX12_as_16 : decode cX12_as 16 = .ok (.ldc2_w 97, 3) := by decide +kernel
theorem dX12_as_19 : decode cX12_as 19 = .ok (.invokestatic 70, 3) := by decide +kernel
theorem dX12_as_22 : decode cX12_as 22 = .ok (.ifCond .ne 6, 3) := by decide +kernel
theorem dX12_as_25 : decode cX12_as 25 = .ok (.ldc 80, 2) := by decide +kernel
theorem dX12_as_27 : decode cX12_as 27 = .ok (.ireturn, 1) := by decide +kernel
theorem dX12_as_28 : decode cX12_as 28 = .ok (.aload_n 0, 1) := by decide +kernel
theorem dX12_as_29 : decode cX12_as 29 = .ok (.iconst 0, 1) := by decide +kernel
theorem dX12_as_30 : decode cX12_as 30 = .ok (.putfield 64, 3) := by decide +kernel
theorem dX12_as_33 : decode cX12_as 33 = .ok (.aload_n 0, 1) := by decide +kernel
theorem dX12_as_34 : decode cX12_as 34 = .ok (.iload_n 1, 1) := by decide +kernel
theorem dX12_as_35 : decode cX12_as 35 = .ok (.invokevirtual 154, 3) := by decide +kernel
theorem dX12_as_38 : decode cX12_as 38 = .ok (.istore_n 3, 1) := by decide +kernel
theorem dX12_as_39 : decode cX12_as 39 = .ok (.iload_n 2, 1) := by decide +kernel
theorem dX12_as_40 : decode cX12_as 40 = .ok (.ifCond .eq 18, 3) := by decide +kernel
theorem dX12_as_43 : decode cX12_as 43 = .ok (.iload_n 3, 1) := by decide +kernel
theorem dX12_as_44 : decode cX12_as 44 = .ok (.iload_n 2, 1) := by decide +kernel
theorem dX12_as_45 : decode cX12_as 45 = .ok (.if_icmp .eq 13, 3) := by decide +kernel
theorem dX12_as_48 : decode cX12_as 48 = .ok (.iload_n 2, 1) := by decide +kernel
theorem dX12_as_49 : decode cX12_as 49 = .ok (.iconst 1, 1) := by decide +kernel
theorem dX12_as_50 : decode cX12_as 50 = .ok (.if_icmp .ne 17, 3) := by decide +kernel
theorem dX12_as_53 : decode cX12_as 53 = .ok (.iload_n 3, 1) := by decide +kernel
theorem dX12_as_54 : decode cX12_as 54 = .ok (.iconst 2, 1) := by decide +kernel
theorem dX12_as_55 : decode cX12_as 55 = .ok (.if_icmp .ne 12, 3) := by decide +kernel
theorem dX12_as_58 : decode cX12_as 58 = .ok (.aload_n 0, 1) := by decide +kernel
theorem dX12_as_59 : decode cX12_as 59 = .ok (.getfield 39, 3) := by decide +kernel
theorem dX12_as_62 : decode cX12_as 62 = .ok (.iload_n 1, 1) := by decide +kernel
theorem dX12_as_63 : decode cX12_as 63 = .ok (.iaload, 1) := by decide +kernel
theorem dX12_as_64 : decode cX12_as 64 = .ok (.goto 8, 3) := by decide +kernel
theorem dX12_as_67 : decode cX12_as 67 = .ok (.aload_n 0, 1) := by decide +kernel
theorem dX12_as_68 : decode cX12_as 68 = .ok (.iconst 3, 1) := by decide +kernel
theorem dX12_as_69 : decode cX12_as 69 = .ok (.invokevirtual 81, 3) := by decide +kernel
theorem dX12_as_72 : decode cX12_as 72 = .ok (.ireturn, 1) := by decide +kernel
theorem dX12_began_0 : decode cX12_began 0 = .ok (.aload_n 0, 1) := by decide +kernel
theorem dX12_began_1 : decode cX12_began 1 = .ok (.getfield 157, 3) := by decide +kernel
theorem dX12_began_4 : decode cX12_began 4 = .ok (.bipush 16, 2) := by decide +kernel
theorem dX12_began_6 : decode cX12_began 6 = .ok (.if_icmp .ge 23, 3) := by decide +kernel
theorem dX12_began_9 : decode cX12_began 9 = .ok (.aload_n 0, 1) := by decide +kernel
theorem dX12_began_10 : decode cX12_began 10 = .ok (.getfield 57, 3) := by decide +kernel
theorem dX12_began_13 : decode cX12_began 13 = .ok (.aload_n 0, 1) := by decide +kernel
theorem dX12_began_14 : decode cX12_began 14 = .ok (.getfield 157, 3) := by decide +kernel
theorem dX12_began_17 : decode cX12_began 17 = .ok (.iload_n 1, 1) := by decide +kernel
theorem dX12_began_18 : decode cX12_began 18 = .ok (.iastore, 1) := by decide +kernel
theorem dX12_began_19 : decode cX12_began 19 = .ok (.aload_n 0, 1) := by decide +kernel
theorem dX12_began_20 : decode cX12_began 20 = .ok (.dup, 1) := by decide +kernel
theorem dX12_began_21 : decode cX12_began 21 = .ok (.getfield 157, 3) := by decide +kernel
theorem dX12_began_24 : decode cX12_began 24 = .ok (.iconst 1, 1) := by decide +kernel
theorem dX12_began_25 : decode cX12_began 25 = .ok (.iadd, 1) := by decide +kernel
theorem dX12_began_26 : decode cX12_began 26 = .ok (.putfield 157, 3) := by decide +kernel
theorem dX12_began_29 : decode cX12_began 29 = .ok (.return_, 1) := by decide +kernel
set_option maxRecDepth 20000 in
theorem ggX12_cost_X12_kindOf : GoodIn wsX12_cost wsX12_kindOf := goodIn_r _ [7, 2, 1, 14, 15, 16, 17, 18, 19, 20, 21, 22, 23, 24, 25, 26, 27, 28, 29, 30, 31, 32, 33, 34, 35] (by decide +kernel) (by decide +kernel)
set_option maxRecDepth 20000 in
theorem gX12_cost_X12_kindOf : GoodIn wsX12_cost (wsV RX12 154 RX12 yX12_kindOf wsX12_kindOf) := goodIn_app (goodIn_of _ (by decide +kernel)) ggX12_cost_X12_kindOf
set_option maxRecDepth 20000 in
theorem ggX12_cost_X12_began : GoodIn wsX12_cost wsX12_began := goodIn_r _ [11, 12, 13, 14, 15, 16, 17, 18, 19, 20, 21, 22, 23, 24, 25, 26, 27, 28, 29, 30, 31, 32, 33, 34, 35] (by decide +kernel) (by decide +kernel)
set_option maxRecDepth 20000 in
theorem gX12_cost_X12_began : GoodIn wsX12_cost (wsV RX12 160 RX12 yX12_began wsX12_began) := goodIn_app (goodIn_of _ (by decide +kernel)) ggX12_cost_X12_began
theorem dX12_cost_0 : decode cX12_cost 0 = .ok (.aload_n 0, 1) := by decide +kernel
theorem dX12_cost_1 : decode cX12_cost 1 = .ok (.iload_n 1, 1) := by decide +kernel
theorem dX12_cost_2 : decode cX12_cost 2 = .ok (.invokevirtual 154, 3) := by decide +kernel
theorem dX12_cost_5 : decode cX12_cost 5 = .ok (.istore_n 2, 1) := by decide +kernel
theorem dX12_cost_6 : decode cX12_cost 6 = .ok (.iload_n 2, 1) := by decide +kernel
theorem dX12_cost_7 : decode cX12_cost 7 = .ok (.iconst 1, 1) := by decide +kernel
theorem dX12_cost_8 : decode cX12_cost 8 = .ok (.if_icmp .eq 8, 3) := by decide +kernel
theorem dX12_cost_11 : decode cX12_cost 11 = .ok (.iload_n 2, 1) := by decide +kernel
theorem dX12_cost_12 : decode cX12_cost 12 = .ok (.iconst 2, 1) := by decide +kernel
theorem dX12_cost_13 : decode cX12_cost 13 = .ok (.if_icmp .ne 7, 3) := by decide +kernel
theorem dX12_cost_16 : decode cX12_cost 16 = .ok (.iconst 1, 1) := by decide +kernel
theorem dX12_cost_17 : decode cX12_cost 17 = .ok (.goto 4, 3) := by decide +kernel
theorem dX12_cost_20 : decode cX12_cost 20 = .ok (.iconst 0, 1) := by decide +kernel
theorem dX12_cost_21 : decode cX12_cost 21 = .ok (.istore_n 3, 1) := by decide +kernel
theorem dX12_cost_22 : decode cX12_cost 22 = .ok (.iload_n 2, 1) := by decide +kernel
theorem dX12_cost_23 : decode cX12_cost 23 = .ok (.iconst 3, 1) := by decide +kernel
theorem dX12_cost_24 : decode cX12_cost 24 = .ok (.if_icmp .ne 9, 3) := by decide +kernel
theorem dX12_cost_27 : decode cX12_cost 27 = .ok (.aload_n 0, 1) := by decide +kernel
theorem dX12_cost_28 : decode cX12_cost 28 = .ok (.bipush 13, 2) := by decide +kernel
theorem dX12_cost_30 : decode cX12_cost 30 = .ok (.invokevirtual 160, 3) := by decide +kernel
theorem dX12_cost_33 : decode cX12_cost 33 = .ok (.iload_n 2, 1) := by decide +kernel
theorem dX12_cost_34 : decode cX12_cost 34 = .ok (.iconst 2, 1) := by decide +kernel
theorem dX12_cost_35 : decode cX12_cost 35 = .ok (.if_icmp .ne 9, 3) := by decide +kernel
theorem dX12_cost_38 : decode cX12_cost 38 = .ok (.aload_n 0, 1) := by decide +kernel
theorem dX12_cost_39 : decode cX12_cost 39 = .ok (.bipush 12, 2) := by decide +kernel
theorem dX12_cost_41 : decode cX12_cost 41 = .ok (.invokevirtual 160, 3) := by decide +kernel
theorem dX12_cost_44 : decode cX12_cost 44 = .ok (.iload_n 3, 1) := by decide +kernel
theorem dX12_cost_45 : decode cX12_cost 45 = .ok (.ifCond .eq 9, 3) := by decide +kernel
theorem dX12_cost_48 : decode cX12_cost 48 = .ok (.aload_n 0, 1) := by decide +kernel
theorem dX12_cost_49 : decode cX12_cost 49 = .ok (.bipush 11, 2) := by decide +kernel
theorem dX12_cost_51 : decode cX12_cost 51 = .ok (.invokevirtual 160, 3) := by decide +kernel
theorem dX12_cost_54 : decode cX12_cost 54 = .ok (.aload_n 0, 1) := by decide +kernel
theorem dX12_cost_55 : decode cX12_cost 55 = .ok (.bipush 10, 2) := by decide +kernel
theorem dX12_cost_57 : decode cX12_cost 57 = .ok (.invokevirtual 160, 3) := by decide +kernel
theorem dX12_cost_60 : decode cX12_cost 60 = .ok (.aload_n 0, 1) := by decide +kernel
theorem dX12_cost_61 : decode cX12_cost 61 = .ok (.getfield 39, 3) := by decide +kernel
theorem dX12_cost_64 : decode cX12_cost 64 = .ok (.iload_n 1, 1) := by decide +kernel
theorem dX12_cost_65 : decode cX12_cost 65 = .ok (.iaload, 1) := by decide +kernel
theorem dX12_cost_66 : decode cX12_cost 66 = .ok (.iload_n 3, 1) := by decide +kernel
theorem dX12_cost_67 : decode cX12_cost 67 = .ok (.ifCond .eq 12, 3) := by decide +kernel
theorem dX12_cost_70 : decode cX12_cost 70 = .ok (.aload_n 0, 1) := by decide +kernel
theorem dX12_cost_71 : decode cX12_cost 71 = .ok (.getfield 42, 3) := by decide +kernel
theorem dX12_cost_74 : decode cX12_cost 74 = .ok (.iload_n 1, 1) := by decide +kernel
theorem dX12_cost_75 : decode cX12_cost 75 = .ok (.iaload, 1) := by decide +kernel
theorem dX12_cost_76 : decode cX12_cost 76 = .ok (.goto 4, 3) := by decide +kernel
theorem dX12_cost_79 : decode cX12_cost 79 = .ok (.iconst 0, 1) := by decide +kernel
theorem dX12_cost_80 : decode cX12_cost 80 = .ok (.iadd, 1) := by decide +kernel
theorem dX12_cost_81 : decode cX12_cost 81 = .ok (.istore 4, 2) := by decide +kernel
theorem dX12_cost_83 : decode cX12_cost 83 = .ok (.iload_n 2, 1) := by decide +kernel
theorem dX12_cost_84 : decode cX12_cost 84 = .ok (.iconst 3, 1) := by decide +kernel
theorem dX12_cost_85 : decode cX12_cost 85 = .ok (.if_icmp .ne 12, 3) := by decide +kernel
theorem dX12_cost_88 : decode cX12_cost 88 = .ok (.iload 4, 2) := by decide +kernel
theorem dX12_cost_90 : decode cX12_cost 90 = .ok (.sipush 1000, 3) := by decide +kernel
theorem dX12_cost_93 : decode cX12_cost 93 = .ok (.iadd, 1) := by decide +kernel
theorem dX12_cost_94 : decode cX12_cost 94 = .ok (.goto 17, 3) := by decide +kernel
theorem dX12_cost_97 : decode cX12_cost 97 = .ok (.iload_n 2, 1) := by decide +kernel
theorem dX12_cost_98 : decode cX12_cost 98 = .ok (.iconst 2, 1) := by decide +kernel
theorem dX12_cost_99 : decode cX12_cost 99 = .ok (.if_icmp .ne 10, 3) := by decide +kernel
theorem dX12_cost_102 : decode cX12_cost 102 = .ok (.iload 4, 2) := by decide +kernel
theorem dX12_cost_104 : decode cX12_cost 104 = .ok (.iconst 2, 1) := by decide +kernel
theorem dX12_cost_105 : decode cX12_cost 105 = .ok (.idiv, 1) := by decide +kernel
theorem dX12_cost_106 : decode cX12_cost 106 = .ok (.goto 5, 3) := by decide +kernel
theorem dX12_cost_109 : decode cX12_cost 109 = .ok (.iload 4, 2) := by decide +kernel
theorem dX12_cost_111 : decode cX12_cost 111 = .ok (.ireturn, 1) := by decide +kernel
set_option maxRecDepth 20000 in
theorem ggX12_marked_X12_kindOf : GoodIn wsX12_marked wsX12_kindOf := goodIn_r _ [6, 7, 8, 19, 20, 21, 22, 23, 24, 25, 26, 27, 28, 29, 30, 31, 32, 33, 34, 35, 36, 37, 38, 39, 40] (by decide +kernel) (by decide +kernel)
set_option maxRecDepth 20000 in
theorem gX12_marked_X12_kindOf : GoodIn wsX12_marked (wsV RX12 154 RX12 yX12_kindOf wsX12_kindOf) := goodIn_app (goodIn_of _ (by decide +kernel)) ggX12_marked_X12_kindOf
set_option maxRecDepth 20000 in
theorem ggX12_marked_X12_began : GoodIn wsX12_marked wsX12_began := goodIn_r _ [12, 13, 14, 19, 20, 21, 22, 23, 24, 25, 26, 27, 28, 29, 30, 31, 32, 33, 34, 35, 36, 37, 38, 39, 40] (by decide +kernel) (by decide +kernel)
set_option maxRecDepth 20000 in
theorem gX12_marked_X12_began : GoodIn wsX12_marked (wsV RX12 160 RX12 yX12_began wsX12_began) := goodIn_app (goodIn_of _ (by decide +kernel)) ggX12_marked_X12_began
set_option maxRecDepth 20000 in
theorem ggX12_marked_X12_cost : GoodIn wsX12_marked wsX12_cost := goodIn_r _ [18, 8, 7, 2, 3, 4, 5, 6, 9, 10, 11, 12, 13, 14, 19, 20, 21, 22, 23, 24, 25, 26, 27, 28, 29, 30, 31, 32, 33, 34, 35, 36, 37, 38, 39, 40] (by decide +kernel) (by decide +kernel)
set_option maxRecDepth 20000 in
theorem gX12_marked_X12_cost : GoodIn wsX12_marked (wsV RX12 164 RX12 yX12_cost wsX12_cost) := goodIn_app (goodIn_of _ (by decide +kernel)) ggX12_marked_X12_cost
theorem dX12_marked_0 : decode cX12_marked 0 = .ok (.aload_n 0, 1) := by decide +kernel
theorem dX12_marked_1 : decode cX12_marked 1 = .ok (.iload_n 1, 1) := by decide +kernel
theorem dX12_marked_2 : decode cX12_marked 2 = .ok (.invokevirtual 154, 3) := by decide +kernel
theorem dX12_marked_5 : decode cX12_marked 5 = .ok (.istore_n 2, 1) := by decide +kernel
theorem dX12_marked_6 : decode cX12_marked 6 = .ok (.iload_n 2, 1) := by decide +kernel
theorem dX12_marked_7 : decode cX12_marked 7 = .ok (.iconst 1, 1) := by decide +kernel
theorem dX12_marked_8 : decode cX12_marked 8 = .ok (.if_icmp .eq 8, 3) := by decide +kernel
theorem dX12_marked_11 : decode cX12_marked 11 = .ok (.iload_n 2, 1) := by decide +kernel
theorem dX12_marked_12 : decode cX12_marked 12 = .ok (.iconst 2, 1) := by decide +kernel
theorem dX12_marked_13 : decode cX12_marked 13 = .ok (.if_icmp .ne 7, 3) := by decide +kernel
theorem dX12_marked_16 : decode cX12_marked 16 = .ok (.iconst 1, 1) := by decide +kernel
theorem dX12_marked_17 : decode cX12_marked 17 = .ok (.goto 4, 3) := by decide +kernel
theorem dX12_marked_20 : decode cX12_marked 20 = .ok (.iconst 0, 1) := by decide +kernel
theorem dX12_marked_21 : decode cX12_marked 21 = .ok (.istore_n 3, 1) := by decide +kernel
theorem dX12_marked_22 : decode cX12_marked 22 = .ok (.iload_n 2, 1) := by decide +kernel
theorem dX12_marked_23 : decode cX12_marked 23 = .ok (.iconst 3, 1) := by decide +kernel
theorem dX12_marked_24 : decode cX12_marked 24 = .ok (.if_icmp .ne 9, 3) := by decide +kernel
theorem dX12_marked_27 : decode cX12_marked 27 = .ok (.aload_n 0, 1) := by decide +kernel
theorem dX12_marked_28 : decode cX12_marked 28 = .ok (.bipush 22, 2) := by decide +kernel
theorem dX12_marked_30 : decode cX12_marked 30 = .ok (.invokevirtual 160, 3) := by decide +kernel
theorem dX12_marked_33 : decode cX12_marked 33 = .ok (.iload_n 3, 1) := by decide +kernel
theorem dX12_marked_34 : decode cX12_marked 34 = .ok (.ifCond .eq 9, 3) := by decide +kernel
theorem dX12_marked_37 : decode cX12_marked 37 = .ok (.aload_n 0, 1) := by decide +kernel
theorem dX12_marked_38 : decode cX12_marked 38 = .ok (.bipush 21, 2) := by decide +kernel
theorem dX12_marked_40 : decode cX12_marked 40 = .ok (.invokevirtual 160, 3) := by decide +kernel
theorem dX12_marked_43 : decode cX12_marked 43 = .ok (.aload_n 0, 1) := by decide +kernel
theorem dX12_marked_44 : decode cX12_marked 44 = .ok (.bipush 20, 2) := by decide +kernel
theorem dX12_marked_46 : decode cX12_marked 46 = .ok (.invokevirtual 160, 3) := by decide +kernel
theorem dX12_marked_49 : decode cX12_marked 49 = .ok (.aload_n 0, 1) := by decide +kernel
theorem dX12_marked_50 : decode cX12_marked 50 = .ok (.getfield 45, 3) := by decide +kernel
theorem dX12_marked_53 : decode cX12_marked 53 = .ok (.iload_n 1, 1) := by decide +kernel
theorem dX12_marked_54 : decode cX12_marked 54 = .ok (.baload, 1) := by decide +kernel
theorem dX12_marked_55 : decode cX12_marked 55 = .ok (.ifCond .eq 7, 3) := by decide +kernel
theorem dX12_marked_58 : decode cX12_marked 58 = .ok (.iconst 1, 1) := by decide +kernel
theorem dX12_marked_59 : decode cX12_marked 59 = .ok (.goto 4, 3) := by decide +kernel
theorem dX12_marked_62 : decode cX12_marked 62 = .ok (.iconst 0, 1) := by decide +kernel
theorem dX12_marked_63 : decode cX12_marked 63 = .ok (.istore 4, 2) := by decide +kernel
theorem dX12_marked_65 : decode cX12_marked 65 = .ok (.iload_n 2, 1) := by decide +kernel
theorem dX12_marked_66 : decode cX12_marked 66 = .ok (.iconst 3, 1) := by decide +kernel
theorem dX12_marked_67 : decode cX12_marked 67 = .ok (.if_icmp .ne 14, 3) := by decide +kernel
theorem dX12_marked_70 : decode cX12_marked 70 = .ok (.iload 4, 2) := by decide +kernel
theorem dX12_marked_72 : decode cX12_marked 72 = .ok (.aload_n 0, 1) := by decide +kernel
theorem dX12_marked_73 : decode cX12_marked 73 = .ok (.iload_n 1, 1) := by decide +kernel
theorem dX12_marked_74 : decode cX12_marked 74 = .ok (.invokevirtual 164, 3) := by decide +kernel
theorem dX12_marked_77 : decode cX12_marked 77 = .ok (.isub, 1) := by decide +kernel
theorem dX12_marked_78 : decode cX12_marked 78 = .ok (.goto 20, 3) := by decide +kernel
theorem dX12_marked_81 : decode cX12_marked 81 = .ok (.iload_n 3, 1) := by decide +kernel
theorem dX12_marked_82 : decode cX12_marked 82 = .ok (.ifCond .eq 14, 3) := by decide +kernel
theorem dX12_marked_85 : decode cX12_marked 85 = .ok (.iload 4, 2) := by decide +kernel
theorem dX12_marked_87 : decode cX12_marked 87 = .ok (.aload_n 0, 1) := by decide +kernel
theorem dX12_marked_88 : decode cX12_marked 88 = .ok (.iload_n 1, 1) := by decide +kernel
theorem dX12_marked_89 : decode cX12_marked 89 = .ok (.invokevirtual 164, 3) := by decide +kernel
theorem dX12_marked_92 : decode cX12_marked 92 = .ok (.iadd, 1) := by decide +kernel
theorem dX12_marked_93 : decode cX12_marked 93 = .ok (.goto 5, 3) := by decide +kernel
theorem dX12_marked_96 : decode cX12_marked 96 = .ok (.iload 4, 2) := by decide +kernel
theorem dX12_marked_98 : decode cX12_marked 98 = .ok (.ireturn, 1) := by decide +kernel
set_option maxRecDepth 20000 in
theorem ggX12_ask_X12_isGate : GoodIn wsX12_ask wsX12_isGate := goodIn_r _ [8, 9, 10, 11, 7, 12, 33, 34, 35, 36, 37, 38, 39, 40, 41, 42, 43, 44, 45, 46, 47, 48, 49, 50, 51, 52, 53, 54] (by decide +kernel) (by decide +kernel)
set_option maxRecDepth 20000 in
theorem gX12_ask_X12_isGate : GoodIn wsX12_ask (wsV RX12 135 RX12 yX12_isGate wsX12_isGate) := goodIn_app (goodIn_of _ (by decide +kernel)) ggX12_ask_X12_isGate
set_option maxRecDepth 20000 in
theorem ggX12_ask_X12_in : GoodIn wsX12_ask wsX12_in := goodIn_r _ [12] (by decide +kernel) (by decide +kernel)
set_option maxRecDepth 20000 in
theorem gX12_ask_X12_in : GoodIn wsX12_ask (va_wsS RX12 70 yX12_in wsX12_in) := goodIn_app (goodIn_of _ (by decide +kernel)) ggX12_ask_X12_in
set_option maxRecDepth 20000 in
theorem ggX12_ask_X12_cost : GoodIn wsX12_ask wsX12_cost := goodIn_r _ [16, 17, 18, 19, 20, 21, 7, 22, 23, 24, 25, 26, 3, 27, 33, 34, 35, 36, 37, 38, 39, 40, 41, 42, 43, 44, 45, 46, 47, 48, 49, 50, 51, 52, 53, 54] (by decide +kernel) (by decide +kernel)
set_option maxRecDepth 20000 in
theorem gX12_ask_X12_cost : GoodIn wsX12_ask (wsV RX12 164 RX12 yX12_cost wsX12_cost) := goodIn_app (goodIn_of _ (by decide +kernel)) ggX12_ask_X12_cost
set_option maxRecDepth 20000 in
theorem ggX12_ask_X12_marked : GoodIn wsX12_ask wsX12_marked := goodIn_r _ [31, 32, 19, 20, 21, 7, 22, 18, 17, 23, 24, 25, 26, 3, 27, 13, 14, 15, 16, 33, 34, 35, 36, 37, 38, 39, 40, 41, 42, 43, 44, 45, 46, 47, 48, 49, 50, 51, 52, 53, 54] (by decide +kernel) (by decide +kernel)
set_option maxRecDepth 20000 in
theorem gX12_ask_X12_marked : GoodIn wsX12_ask (wsV RX12 167 RX12 yX12_marked wsX12_marked) := goodIn_app (goodIn_of _ (by decide +kernel)) ggX12_ask_X12_marked
theorem dX12_ask_0 : decode cX12_ask 0 = .ok (.aload_n 0, 1) := by decide +kernel
theorem dX12_ask_1 : decode cX12_ask 1 = .ok (.iconst 0, 1) := by decide +kernel
theorem dX12_ask_2 : decode cX12_ask 2 = .ok (.putfield 60, 3) := by decide +kernel
theorem dX12_ask_5 : decode cX12_ask 5 = .ok (.aload_n 0, 1) := by decide +kernel
theorem dX12_ask_6 : decode cX12_ask 6 = .ok (.iload_n 1, 1) := by decide +kernel
theorem dX12_ask_7 : decode cX12_ask 7 = .ok (.invokevirtual 135, 3) := by decide +kernel
theorem dX12_ask_10 : decode cX12_ask 10 = .ok (.ifCond .eq 13, 3) := by decide +kernel
theorem dX12_ask_13 : decode cX12_ask 13 = .ok (.iload_n 2, 1) := by decide +kernel
theorem dX12_ask_14 : decode cX12_ask 14 = .ok (.i2l, 1) := by decide +kernel
theorem dX12_ask_15 : decode cX12_ask 15 = .ok (.lconst 0, 1) := by decide +kernel
theorem dX12_ask_16 : decode cX12_ask 16 = .ok (.lconst 1, 1) := by decide +kernel
theorem dX12_ask_17 : decode cX12_ask 17 = .ok (.invokestatic 70, 3) := by decide +kernel
theorem dX12_ask_20 : decode cX12_ask 20 = .ok (.ifCond .ne 6, 3) := by decide +kernel
theorem dX12_ask_23 : decode cX12_ask 23 = .ok (.ldc 80, 2) := by decide +kernel
theorem dX12_ask_25 : decode cX12_ask 25 = .ok (.ireturn, 1) := by decide +kernel
theorem dX12_ask_26 : decode cX12_ask 26 = .ok (.aload_n 0, 1) := by decide +kernel
theorem dX12_ask_27 : decode cX12_ask 27 = .ok (.iconst 0, 1) := by decide +kernel
theorem dX12_ask_28 : decode cX12_ask 28 = .ok (.putfield 157, 3) := by decide +kernel
theorem dX12_ask_31 : decode cX12_ask 31 = .ok (.iload_n 2, 1) := by decide +kernel
theorem dX12_ask_32 : decode cX12_ask 32 = .ok (.ifCond .ne 11, 3) := by decide +kernel
theorem dX12_ask_35 : decode cX12_ask 35 = .ok (.aload_n 0, 1) := by decide +kernel
theorem dX12_ask_36 : decode cX12_ask 36 = .ok (.iload_n 1, 1) := by decide +kernel
theorem dX12_ask_37 : decode cX12_ask 37 = .ok (.invokevirtual 164, 3) := by decide +kernel
theorem dX12_ask_40 : decode cX12_ask 40 = .ok (.goto 8, 3) := by decide +kernel
theorem dX12_ask_43 : decode cX12_ask 43 = .ok (.aload_n 0, 1) := by decide +kernel
theorem dX12_ask_44 : decode cX12_ask 44 = .ok (.iload_n 1, 1) := by decide +kernel
theorem dX12_ask_45 : decode cX12_ask 45 = .ok (.invokevirtual 167, 3) := by decide +kernel
theorem dX12_ask_48 : decode cX12_ask 48 = .ok (.ireturn, 1) := by decide +kernel
set_option maxRecDepth 20000 in
theorem ggX12_trace_X12_in : GoodIn wsX12_trace wsX12_in := goodIn_r _ [8] (by decide +kernel) (by decide +kernel)
set_option maxRecDepth 20000 in
theorem gX12_trace_X12_in : GoodIn wsX12_trace (va_wsS RX12 70 yX12_in wsX12_in) := goodIn_app (goodIn_of _ (by decide +kernel)) ggX12_trace_X12_in
theorem dX12_trace_0 : decode cX12_trace 0 = .ok (.aload_n 0, 1) := by decide +kernel
theorem dX12_trace_1 : decode cX12_trace 1 = .ok (.iconst 0, 1) := by decide +kernel
theorem dX12_trace_2 : decode cX12_trace 2 = .ok (.putfield 60, 3) := by decide +kernel
theorem dX12_trace_5 : decode cX12_trace 5 = .ok (.iload_n 1, 1) := by decide +kernel
theorem dX12_trace_6 : decode cX12_trace 6 = .ok (.i2l, 1) := by decide +kernel
theorem dX12_trace_7 : decode cX12_trace 7 = .ok (.lconst 0, 1) := by decide +kernel
theorem dX12_trace_8 : decode cX12_trace 8 = .ok (.aload_n 0, 1) := by decide +kernel
theorem dX12_trace_9 : decode cX12_trace 9 = .ok (.getfield 157, 3) := by decide +kernel
theorem dX12_trace_12 : decode cX12_trace 12 = .ok (.iconst 1, 1) := by decide +kernel
theorem dX12_trace_13 : decode cX12_trace 13 = .ok (.isub, 1) := by decide +kernel
theorem dX12_trace_14 : decode cX12_trace 14 = .ok (.i2l, 1) := by decide +kernel
theorem dX12_trace_15 : decode cX12_trace 15 = .ok (.invokestatic 70, 3) := by decide +kernel
theorem dX12_trace_18 : decode cX12_trace 18 = .ok (.ifCond .eq 12, 3) := by decide +kernel
theorem dX12_trace_21 : decode cX12_trace 21 = .ok (.aload_n 0, 1) := by decide +kernel
theorem dX12_trace_22 : decode cX12_trace 22 = .ok (.getfield 57, 3) := by decide +kernel
theorem dX12_trace_25 : decode cX12_trace 25 = .ok (.iload_n 1, 1) := by decide +kernel
theorem dX12_trace_26 : decode cX12_trace 26 = .ok (.iaload, 1) := by decide +kernel
theorem dX12_trace_27 : decode cX12_trace 27 = .ok (.goto 5, 3) := by decide +kernel
theorem dX12_trace_30 : decode cX12_trace 30 = .ok (.ldc 127, 2) := by decide +kernel
theorem dX12_trace_32 : decode cX12_trace 32 = .ok (.ireturn, 1) := by decide +kernel
theorem dX12_count_0 : decode cX12_count 0 = .ok (.aload_n 0, 1) := by decide +kernel
theorem dX12_count_1 : decode cX12_count 1 = .ok (.iconst 0, 1) := by decide +kernel
theorem dX12_count_2 : decode cX12_count 2 = .ok (.putfield 60, 3) := by decide +kernel
theorem dX12_count_5 : decode cX12_count 5 = .ok (.iconst 0, 1) := by decide +kernel
theorem dX12_count_6 : decode cX12_count 6 = .ok (.istore_n 2, 1) := by decide +kernel
theorem dX12_count_7 : decode cX12_count 7 = .ok (.iload_n 1, 1) := by decide +kernel
theorem dX12_count_8 : decode cX12_count 8 = .ok (.tableswitch 150 0 5 #[40, 73, 78, 105, 110, 145], 40) := by decide +kernel
theorem dX12_count_48 : decode cX12_count 48 = .ok (.iconst 0, 1) := by decide +kernel
theorem dX12_count_49 : decode cX12_count 49 = .ok (.istore_n 3, 1) := by decide +kernel
theorem dX12_count_50 : decode cX12_count 50 = .ok (.iload_n 3, 1) := by decide +kernel
theorem dX12_count_51 : decode cX12_count 51 = .ok (.bipush 8, 2) := by decide +kernel
theorem dX12_count_53 : decode cX12_count 53 = .ok (.if_icmp .ge 26, 3) := by decide +kernel
theorem dX12_count_56 : decode cX12_count 56 = .ok (.iload_n 2, 1) := by decide +kernel
theorem dX12_count_57 : decode cX12_count 57 = .ok (.aload_n 0, 1) := by decide +kernel
theorem dX12_count_58 : decode cX12_count 58 = .ok (.getfield 16, 3) := by decide +kernel
theorem dX12_count_61 : decode cX12_count 61 = .ok (.iload_n 3, 1) := by decide +kernel
theorem dX12_count_62 : decode cX12_count 62 = .ok (.iaload, 1) := by decide +kernel
theorem dX12_count_63 : decode cX12_count 63 = .ok (.ifCond .lt 7, 3) := by decide +kernel
theorem dX12_count_66 : decode cX12_count 66 = .ok (.iconst 1, 1) := by decide +kernel
theorem dX12_count_67 : decode cX12_count 67 = .ok (.goto 4, 3) := by decide +kernel
theorem dX12_count_70 : decode cX12_count 70 = .ok (.iconst 0, 1) := by decide +kernel
theorem dX12_count_71 : decode cX12_count 71 = .ok (.iadd, 1) := by decide +kernel
theorem dX12_count_72 : decode cX12_count 72 = .ok (.istore_n 2, 1) := by decide +kernel
theorem dX12_count_73 : decode cX12_count 73 = .ok (.iinc 3 1, 3) := by decide +kernel
theorem dX12_count_76 : decode cX12_count 76 = .ok (.goto (-26), 3) := by decide +kernel
theorem dX12_count_79 : decode cX12_count 79 = .ok (.iload_n 2, 1) := by decide +kernel
theorem dX12_count_80 : decode cX12_count 80 = .ok (.ireturn, 1) := by decide +kernel
theorem dX12_count_81 : decode cX12_count 81 = .ok (.aload_n 0, 1) := by decide +kernel
theorem dX12_count_82 : decode cX12_count 82 = .ok (.getfield 87, 3) := by decide +kernel
theorem dX12_count_85 : decode cX12_count 85 = .ok (.ireturn, 1) := by decide +kernel
theorem dX12_count_86 : decode cX12_count 86 = .ok (.iconst 0, 1) := by decide +kernel
theorem dX12_count_87 : decode cX12_count 87 = .ok (.istore_n 3, 1) := by decide +kernel
theorem dX12_count_88 : decode cX12_count 88 = .ok (.iload_n 3, 1) := by decide +kernel
theorem dX12_count_89 : decode cX12_count 89 = .ok (.aload_n 0, 1) := by decide +kernel
theorem dX12_count_90 : decode cX12_count 90 = .ok (.getfield 87, 3) := by decide +kernel
theorem dX12_count_93 : decode cX12_count 93 = .ok (.if_icmp .ge 18, 3) := by decide +kernel
theorem dX12_count_96 : decode cX12_count 96 = .ok (.iload_n 2, 1) := by decide +kernel
theorem dX12_count_97 : decode cX12_count 97 = .ok (.aload_n 0, 1) := by decide +kernel
theorem dX12_count_98 : decode cX12_count 98 = .ok (.getfield 25, 3) := by decide +kernel
theorem dX12_count_101 : decode cX12_count 101 = .ok (.iload_n 3, 1) := by decide +kernel
theorem dX12_count_102 : decode cX12_count 102 = .ok (.iaload, 1) := by decide +kernel
theorem dX12_count_103 : decode cX12_count 103 = .ok (.iadd, 1) := by decide +kernel
theorem dX12_count_104 : decode cX12_count 104 = .ok (.istore_n 2, 1) := by decide +kernel
theorem dX12_count_105 : decode cX12_count 105 = .ok (.iinc 3 1, 3) := by decide +kernel
theorem dX12_count_108 : decode cX12_count 108 = .ok (.goto (-20), 3) := by decide +kernel
theorem dX12_count_111 : decode cX12_count 111 = .ok (.iload_n 2, 1) := by decide +kernel
theorem dX12_count_112 : decode cX12_count 112 = .ok (.ireturn, 1) := by decide +kernel
theorem dX12_count_113 : decode cX12_count 113 = .ok (.aload_n 0, 1) := by decide +kernel
theorem dX12_count_114 : decode cX12_count 114 = .ok (.getfield 128, 3) := by decide +kernel
theorem dX12_count_117 : decode cX12_count 117 = .ok (.ireturn, 1) := by decide +kernel
theorem dX12_count_118 : decode cX12_count 118 = .ok (.iconst 0, 1) := by decide +kernel
theorem dX12_count_119 : decode cX12_count 119 = .ok (.istore_n 3, 1) := by decide +kernel
theorem dX12_count_120 : decode cX12_count 120 = .ok (.iload_n 3, 1) := by decide +kernel
theorem dX12_count_121 : decode cX12_count 121 = .ok (.aload_n 0, 1) := by decide +kernel
theorem dX12_count_122 : decode cX12_count 122 = .ok (.getfield 128, 3) := by decide +kernel
theorem dX12_count_125 : decode cX12_count 125 = .ok (.if_icmp .ge 26, 3) := by decide +kernel
theorem dX12_count_128 : decode cX12_count 128 = .ok (.iload_n 2, 1) := by decide +kernel
theorem dX12_count_129 : decode cX12_count 129 = .ok (.aload_n 0, 1) := by decide +kernel
theorem dX12_count_130 : decode cX12_count 130 = .ok (.getfield 45, 3) := by decide +kernel
theorem dX12_count_133 : decode cX12_count 133 = .ok (.iload_n 3, 1) := by decide +kernel
theorem dX12_count_134 : decode cX12_count 134 = .ok (.baload, 1) := by decide +kernel
theorem dX12_count_135 : decode cX12_count 135 = .ok (.ifCond .eq 7, 3) := by decide +kernel
theorem dX12_count_138 : decode cX12_count 138 = .ok (.iconst 1, 1) := by decide +kernel
theorem dX12_count_139 : decode cX12_count 139 = .ok (.goto 4, 3) := by decide +kernel
theorem dX12_count_142 : decode cX12_count 142 = .ok (.iconst 0, 1) := by decide +kernel
theorem dX12_count_143 : decode cX12_count 143 = .ok (.iadd, 1) := by decide +kernel
theorem dX12_count_144 : decode cX12_count 144 = .ok (.istore_n 2, 1) := by decide +kernel
theorem dX12_count_145 : decode cX12_count 145 = .ok (.iinc 3 1, 3) := by decide +kernel
theorem dX12_count_148 : decode cX12_count 148 = .ok (.goto (-28), 3) := by decide +kernel
theorem dX12_count_151 : decode cX12_count 151 = .ok (.iload_n 2, 1) := by decide +kernel
theorem dX12_count_152 : decode cX12_count 152 = .ok (.ireturn, 1) := by decide +kernel
theorem dX12_count_153 : decode cX12_count 153 = .ok (.aload_n 0, 1) := by decide +kernel
theorem dX12_count_154 : decode cX12_count 154 = .ok (.getfield 143, 3) := by decide +kernel
theorem dX12_count_157 : decode cX12_count 157 = .ok (.ireturn, 1) := by decide +kernel
theorem dX12_count_158 : decode cX12_count 158 = .ok (.ldc 80, 2) := by decide +kernel
theorem dX12_count_160 : decode cX12_count 160 = .ok (.ireturn, 1) := by decide +kernel
theorem dX12_status_0 : decode cX12_status 0 = .ok (.aload_n 0, 1) := by decide +kernel
theorem dX12_status_1 : decode cX12_status 1 = .ok (.iconst 0, 1) := by decide +kernel
theorem dX12_status_2 : decode cX12_status 2 = .ok (.putfield 60, 3) := by decide +kernel
theorem dX12_status_5 : decode cX12_status 5 = .ok (.aload_n 0, 1) := by decide +kernel
theorem dX12_status_6 : decode cX12_status 6 = .ok (.getfield 64, 3) := by decide +kernel
theorem dX12_status_9 : decode cX12_status 9 = .ok (.ireturn, 1) := by decide +kernel
end
section
abbrev GM : Type := Int32 × Int32 × (Nat → Int32) × (Nat → Int32) × (Nat → Int32) × (Nat → Int32) × (Nat → Int32) × Int32 × (Nat → Int32) × (Nat → Int32) × (Nat → Int64) × (Nat → Int32) × Int32 × (Nat → Int32) × (Nat → Int32) × (Nat → Int32) × (Nat → Int32) × Int32 × (Nat → Int32) × (Nat → Int32) × (Nat → Int32) × Int32
def m_thrown (g : GM) : Int32 := g.1
def m_status (g : GM) : Int32 := g.2.1
def m_rule (g : GM) : (Nat → Int32) := g.2.2.1
def m_river (g : GM) : (Nat → Int32) := g.2.2.2.1
def m_lane (g : GM) : (Nat → Int32) := g.2.2.2.2.1
def m_many (g : GM) : (Nat → Int32) := g.2.2.2.2.2.1
def m_item (g : GM) : (Nat → Int32) := g.2.2.2.2.2.2.1
def m_worlds (g : GM) : Int32 := g.2.2.2.2.2.2.2.1
def m_weight (g : GM) : (Nat → Int32) := g.2.2.2.2.2.2.2.2.1
def m_sea (g : GM) : (Nat → Int32) := g.2.2.2.2.2.2.2.2.2.1
def m_least (g : GM) : (Nat → Int64) := g.2.2.2.2.2.2.2.2.2.2.1
def m_isTold (g : GM) : (Nat → Int32) := g.2.2.2.2.2.2.2.2.2.2.2.1
def m_gates (g : GM) : Int32 := g.2.2.2.2.2.2.2.2.2.2.2.2.1
def m_minutes (g : GM) : (Nat → Int32) := g.2.2.2.2.2.2.2.2.2.2.2.2.2.1
def m_hand (g : GM) : (Nat → Int32) := g.2.2.2.2.2.2.2.2.2.2.2.2.2.2.1
def m_hasFailed (g : GM) : (Nat → Int32) := g.2.2.2.2.2.2.2.2.2.2.2.2.2.2.2.1
def m_crew (g : GM) : (Nat → Int32) := g.2.2.2.2.2.2.2.2.2.2.2.2.2.2.2.2.1
def m_ships (g : GM) : Int32 := g.2.2.2.2.2.2.2.2.2.2.2.2.2.2.2.2.2.1
def m_comes (g : GM) : (Nat → Int32) := g.2.2.2.2.2.2.2.2.2.2.2.2.2.2.2.2.2.2.1
def m_takes (g : GM) : (Nat → Int32) := g.2.2.2.2.2.2.2.2.2.2.2.2.2.2.2.2.2.2.2.1
def m_trace (g : GM) : (Nat → Int32) := g.2.2.2.2.2.2.2.2.2.2.2.2.2.2.2.2.2.2.2.2.1
def m_traced (g : GM) : Int32 := g.2.2.2.2.2.2.2.2.2.2.2.2.2.2.2.2.2.2.2.2.2
def sm_thrown (g : GM) (v : Int32) : GM := (v, g.2.1, g.2.2.1, g.2.2.2.1, g.2.2.2.2.1, g.2.2.2.2.2.1, g.2.2.2.2.2.2.1, g.2.2.2.2.2.2.2.1, g.2.2.2.2.2.2.2.2.1, g.2.2.2.2.2.2.2.2.2.1, g.2.2.2.2.2.2.2.2.2.2.1, g.2.2.2.2.2.2.2.2.2.2.2.1, g.2.2.2.2.2.2.2.2.2.2.2.2.1, g.2.2.2.2.2.2.2.2.2.2.2.2.2.1, g.2.2.2.2.2.2.2.2.2.2.2.2.2.2.1, g.2.2.2.2.2.2.2.2.2.2.2.2.2.2.2.1, g.2.2.2.2.2.2.2.2.2.2.2.2.2.2.2.2.1, g.2.2.2.2.2.2.2.2.2.2.2.2.2.2.2.2.2.1, g.2.2.2.2.2.2.2.2.2.2.2.2.2.2.2.2.2.2.1, g.2.2.2.2.2.2.2.2.2.2.2.2.2.2.2.2.2.2.2.1, g.2.2.2.2.2.2.2.2.2.2.2.2.2.2.2.2.2.2.2.2.1, g.2.2.2.2.2.2.2.2.2.2.2.2.2.2.2.2.2.2.2.2.2)
def sm_status (g : GM) (v : Int32) : GM := (g.1, v, g.2.2.1, g.2.2.2.1, g.2.2.2.2.1, g.2.2.2.2.2.1, g.2.2.2.2.2.2.1, g.2.2.2.2.2.2.2.1, g.2.2.2.2.2.2.2.2.1, g.2.2.2.2.2.2.2.2.2.1, g.2.2.2.2.2.2.2.2.2.2.1, g.2.2.2.2.2.2.2.2.2.2.2.1, g.2.2.2.2.2.2.2.2.2.2.2.2.1, g.2.2.2.2.2.2.2.2.2.2.2.2.2.1, g.2.2.2.2.2.2.2.2.2.2.2.2.2.2.1, g.2.2.2.2.2.2.2.2.2.2.2.2.2.2.2.1, g.2.2.2.2.2.2.2.2.2.2.2.2.2.2.2.2.1, g.2.2.2.2.2.2.2.2.2.2.2.2.2.2.2.2.2.1, g.2.2.2.2.2.2.2.2.2.2.2.2.2.2.2.2.2.2.1, g.2.2.2.2.2.2.2.2.2.2.2.2.2.2.2.2.2.2.2.1, g.2.2.2.2.2.2.2.2.2.2.2.2.2.2.2.2.2.2.2.2.1, g.2.2.2.2.2.2.2.2.2.2.2.2.2.2.2.2.2.2.2.2.2)
def sm_rule (g : GM) (v : (Nat → Int32)) : GM := (g.1, g.2.1, v, g.2.2.2.1, g.2.2.2.2.1, g.2.2.2.2.2.1, g.2.2.2.2.2.2.1, g.2.2.2.2.2.2.2.1, g.2.2.2.2.2.2.2.2.1, g.2.2.2.2.2.2.2.2.2.1, g.2.2.2.2.2.2.2.2.2.2.1, g.2.2.2.2.2.2.2.2.2.2.2.1, g.2.2.2.2.2.2.2.2.2.2.2.2.1, g.2.2.2.2.2.2.2.2.2.2.2.2.2.1, g.2.2.2.2.2.2.2.2.2.2.2.2.2.2.1, g.2.2.2.2.2.2.2.2.2.2.2.2.2.2.2.1, g.2.2.2.2.2.2.2.2.2.2.2.2.2.2.2.2.1, g.2.2.2.2.2.2.2.2.2.2.2.2.2.2.2.2.2.1, g.2.2.2.2.2.2.2.2.2.2.2.2.2.2.2.2.2.2.1, g.2.2.2.2.2.2.2.2.2.2.2.2.2.2.2.2.2.2.2.1, g.2.2.2.2.2.2.2.2.2.2.2.2.2.2.2.2.2.2.2.2.1, g.2.2.2.2.2.2.2.2.2.2.2.2.2.2.2.2.2.2.2.2.2)
def sm_river (g : GM) (v : (Nat → Int32)) : GM := (g.1, g.2.1, g.2.2.1, v, g.2.2.2.2.1, g.2.2.2.2.2.1, g.2.2.2.2.2.2.1, g.2.2.2.2.2.2.2.1, g.2.2.2.2.2.2.2.2.1, g.2.2.2.2.2.2.2.2.2.1, g.2.2.2.2.2.2.2.2.2.2.1, g.2.2.2.2.2.2.2.2.2.2.2.1, g.2.2.2.2.2.2.2.2.2.2.2.2.1, g.2.2.2.2.2.2.2.2.2.2.2.2.2.1, g.2.2.2.2.2.2.2.2.2.2.2.2.2.2.1, g.2.2.2.2.2.2.2.2.2.2.2.2.2.2.2.1, g.2.2.2.2.2.2.2.2.2.2.2.2.2.2.2.2.1, g.2.2.2.2.2.2.2.2.2.2.2.2.2.2.2.2.2.1, g.2.2.2.2.2.2.2.2.2.2.2.2.2.2.2.2.2.2.1, g.2.2.2.2.2.2.2.2.2.2.2.2.2.2.2.2.2.2.2.1, g.2.2.2.2.2.2.2.2.2.2.2.2.2.2.2.2.2.2.2.2.1, g.2.2.2.2.2.2.2.2.2.2.2.2.2.2.2.2.2.2.2.2.2)
def sm_lane (g : GM) (v : (Nat → Int32)) : GM := (g.1, g.2.1, g.2.2.1, g.2.2.2.1, v, g.2.2.2.2.2.1, g.2.2.2.2.2.2.1, g.2.2.2.2.2.2.2.1, g.2.2.2.2.2.2.2.2.1, g.2.2.2.2.2.2.2.2.2.1, g.2.2.2.2.2.2.2.2.2.2.1, g.2.2.2.2.2.2.2.2.2.2.2.1, g.2.2.2.2.2.2.2.2.2.2.2.2.1, g.2.2.2.2.2.2.2.2.2.2.2.2.2.1, g.2.2.2.2.2.2.2.2.2.2.2.2.2.2.1, g.2.2.2.2.2.2.2.2.2.2.2.2.2.2.2.1, g.2.2.2.2.2.2.2.2.2.2.2.2.2.2.2.2.1, g.2.2.2.2.2.2.2.2.2.2.2.2.2.2.2.2.2.1, g.2.2.2.2.2.2.2.2.2.2.2.2.2.2.2.2.2.2.1, g.2.2.2.2.2.2.2.2.2.2.2.2.2.2.2.2.2.2.2.1, g.2.2.2.2.2.2.2.2.2.2.2.2.2.2.2.2.2.2.2.2.1, g.2.2.2.2.2.2.2.2.2.2.2.2.2.2.2.2.2.2.2.2.2)
def sm_many (g : GM) (v : (Nat → Int32)) : GM := (g.1, g.2.1, g.2.2.1, g.2.2.2.1, g.2.2.2.2.1, v, g.2.2.2.2.2.2.1, g.2.2.2.2.2.2.2.1, g.2.2.2.2.2.2.2.2.1, g.2.2.2.2.2.2.2.2.2.1, g.2.2.2.2.2.2.2.2.2.2.1, g.2.2.2.2.2.2.2.2.2.2.2.1, g.2.2.2.2.2.2.2.2.2.2.2.2.1, g.2.2.2.2.2.2.2.2.2.2.2.2.2.1, g.2.2.2.2.2.2.2.2.2.2.2.2.2.2.1, g.2.2.2.2.2.2.2.2.2.2.2.2.2.2.2.1, g.2.2.2.2.2.2.2.2.2.2.2.2.2.2.2.2.1, g.2.2.2.2.2.2.2.2.2.2.2.2.2.2.2.2.2.1, g.2.2.2.2.2.2.2.2.2.2.2.2.2.2.2.2.2.2.1, g.2.2.2.2.2.2.2.2.2.2.2.2.2.2.2.2.2.2.2.1, g.2.2.2.2.2.2.2.2.2.2.2.2.2.2.2.2.2.2.2.2.1, g.2.2.2.2.2.2.2.2.2.2.2.2.2.2.2.2.2.2.2.2.2)
def sm_item (g : GM) (v : (Nat → Int32)) : GM := (g.1, g.2.1, g.2.2.1, g.2.2.2.1, g.2.2.2.2.1, g.2.2.2.2.2.1, v, g.2.2.2.2.2.2.2.1, g.2.2.2.2.2.2.2.2.1, g.2.2.2.2.2.2.2.2.2.1, g.2.2.2.2.2.2.2.2.2.2.1, g.2.2.2.2.2.2.2.2.2.2.2.1, g.2.2.2.2.2.2.2.2.2.2.2.2.1, g.2.2.2.2.2.2.2.2.2.2.2.2.2.1, g.2.2.2.2.2.2.2.2.2.2.2.2.2.2.1, g.2.2.2.2.2.2.2.2.2.2.2.2.2.2.2.1, g.2.2.2.2.2.2.2.2.2.2.2.2.2.2.2.2.1, g.2.2.2.2.2.2.2.2.2.2.2.2.2.2.2.2.2.1, g.2.2.2.2.2.2.2.2.2.2.2.2.2.2.2.2.2.2.1, g.2.2.2.2.2.2.2.2.2.2.2.2.2.2.2.2.2.2.2.1, g.2.2.2.2.2.2.2.2.2.2.2.2.2.2.2.2.2.2.2.2.1, g.2.2.2.2.2.2.2.2.2.2.2.2.2.2.2.2.2.2.2.2.2)
def sm_worlds (g : GM) (v : Int32) : GM := (g.1, g.2.1, g.2.2.1, g.2.2.2.1, g.2.2.2.2.1, g.2.2.2.2.2.1, g.2.2.2.2.2.2.1, v, g.2.2.2.2.2.2.2.2.1, g.2.2.2.2.2.2.2.2.2.1, g.2.2.2.2.2.2.2.2.2.2.1, g.2.2.2.2.2.2.2.2.2.2.2.1, g.2.2.2.2.2.2.2.2.2.2.2.2.1, g.2.2.2.2.2.2.2.2.2.2.2.2.2.1, g.2.2.2.2.2.2.2.2.2.2.2.2.2.2.1, g.2.2.2.2.2.2.2.2.2.2.2.2.2.2.2.1, g.2.2.2.2.2.2.2.2.2.2.2.2.2.2.2.2.1, g.2.2.2.2.2.2.2.2.2.2.2.2.2.2.2.2.2.1, g.2.2.2.2.2.2.2.2.2.2.2.2.2.2.2.2.2.2.1, g.2.2.2.2.2.2.2.2.2.2.2.2.2.2.2.2.2.2.2.1, g.2.2.2.2.2.2.2.2.2.2.2.2.2.2.2.2.2.2.2.2.1, g.2.2.2.2.2.2.2.2.2.2.2.2.2.2.2.2.2.2.2.2.2)
def sm_weight (g : GM) (v : (Nat → Int32)) : GM := (g.1, g.2.1, g.2.2.1, g.2.2.2.1, g.2.2.2.2.1, g.2.2.2.2.2.1, g.2.2.2.2.2.2.1, g.2.2.2.2.2.2.2.1, v, g.2.2.2.2.2.2.2.2.2.1, g.2.2.2.2.2.2.2.2.2.2.1, g.2.2.2.2.2.2.2.2.2.2.2.1, g.2.2.2.2.2.2.2.2.2.2.2.2.1, g.2.2.2.2.2.2.2.2.2.2.2.2.2.1, g.2.2.2.2.2.2.2.2.2.2.2.2.2.2.1, g.2.2.2.2.2.2.2.2.2.2.2.2.2.2.2.1, g.2.2.2.2.2.2.2.2.2.2.2.2.2.2.2.2.1, g.2.2.2.2.2.2.2.2.2.2.2.2.2.2.2.2.2.1, g.2.2.2.2.2.2.2.2.2.2.2.2.2.2.2.2.2.2.1, g.2.2.2.2.2.2.2.2.2.2.2.2.2.2.2.2.2.2.2.1, g.2.2.2.2.2.2.2.2.2.2.2.2.2.2.2.2.2.2.2.2.1, g.2.2.2.2.2.2.2.2.2.2.2.2.2.2.2.2.2.2.2.2.2)
def sm_sea (g : GM) (v : (Nat → Int32)) : GM := (g.1, g.2.1, g.2.2.1, g.2.2.2.1, g.2.2.2.2.1, g.2.2.2.2.2.1, g.2.2.2.2.2.2.1, g.2.2.2.2.2.2.2.1, g.2.2.2.2.2.2.2.2.1, v, g.2.2.2.2.2.2.2.2.2.2.1, g.2.2.2.2.2.2.2.2.2.2.2.1, g.2.2.2.2.2.2.2.2.2.2.2.2.1, g.2.2.2.2.2.2.2.2.2.2.2.2.2.1, g.2.2.2.2.2.2.2.2.2.2.2.2.2.2.1, g.2.2.2.2.2.2.2.2.2.2.2.2.2.2.2.1, g.2.2.2.2.2.2.2.2.2.2.2.2.2.2.2.2.1, g.2.2.2.2.2.2.2.2.2.2.2.2.2.2.2.2.2.1, g.2.2.2.2.2.2.2.2.2.2.2.2.2.2.2.2.2.2.1, g.2.2.2.2.2.2.2.2.2.2.2.2.2.2.2.2.2.2.2.1, g.2.2.2.2.2.2.2.2.2.2.2.2.2.2.2.2.2.2.2.2.1, g.2.2.2.2.2.2.2.2.2.2.2.2.2.2.2.2.2.2.2.2.2)
def sm_least (g : GM) (v : (Nat → Int64)) : GM := (g.1, g.2.1, g.2.2.1, g.2.2.2.1, g.2.2.2.2.1, g.2.2.2.2.2.1, g.2.2.2.2.2.2.1, g.2.2.2.2.2.2.2.1, g.2.2.2.2.2.2.2.2.1, g.2.2.2.2.2.2.2.2.2.1, v, g.2.2.2.2.2.2.2.2.2.2.2.1, g.2.2.2.2.2.2.2.2.2.2.2.2.1, g.2.2.2.2.2.2.2.2.2.2.2.2.2.1, g.2.2.2.2.2.2.2.2.2.2.2.2.2.2.1, g.2.2.2.2.2.2.2.2.2.2.2.2.2.2.2.1, g.2.2.2.2.2.2.2.2.2.2.2.2.2.2.2.2.1, g.2.2.2.2.2.2.2.2.2.2.2.2.2.2.2.2.2.1, g.2.2.2.2.2.2.2.2.2.2.2.2.2.2.2.2.2.2.1, g.2.2.2.2.2.2.2.2.2.2.2.2.2.2.2.2.2.2.2.1, g.2.2.2.2.2.2.2.2.2.2.2.2.2.2.2.2.2.2.2.2.1, g.2.2.2.2.2.2.2.2.2.2.2.2.2.2.2.2.2.2.2.2.2)
def sm_isTold (g : GM) (v : (Nat → Int32)) : GM := (g.1, g.2.1, g.2.2.1, g.2.2.2.1, g.2.2.2.2.1, g.2.2.2.2.2.1, g.2.2.2.2.2.2.1, g.2.2.2.2.2.2.2.1, g.2.2.2.2.2.2.2.2.1, g.2.2.2.2.2.2.2.2.2.1, g.2.2.2.2.2.2.2.2.2.2.1, v, g.2.2.2.2.2.2.2.2.2.2.2.2.1, g.2.2.2.2.2.2.2.2.2.2.2.2.2.1, g.2.2.2.2.2.2.2.2.2.2.2.2.2.2.1, g.2.2.2.2.2.2.2.2.2.2.2.2.2.2.2.1, g.2.2.2.2.2.2.2.2.2.2.2.2.2.2.2.2.1, g.2.2.2.2.2.2.2.2.2.2.2.2.2.2.2.2.2.1, g.2.2.2.2.2.2.2.2.2.2.2.2.2.2.2.2.2.2.1, g.2.2.2.2.2.2.2.2.2.2.2.2.2.2.2.2.2.2.2.1, g.2.2.2.2.2.2.2.2.2.2.2.2.2.2.2.2.2.2.2.2.1, g.2.2.2.2.2.2.2.2.2.2.2.2.2.2.2.2.2.2.2.2.2)
def sm_gates (g : GM) (v : Int32) : GM := (g.1, g.2.1, g.2.2.1, g.2.2.2.1, g.2.2.2.2.1, g.2.2.2.2.2.1, g.2.2.2.2.2.2.1, g.2.2.2.2.2.2.2.1, g.2.2.2.2.2.2.2.2.1, g.2.2.2.2.2.2.2.2.2.1, g.2.2.2.2.2.2.2.2.2.2.1, g.2.2.2.2.2.2.2.2.2.2.2.1, v, g.2.2.2.2.2.2.2.2.2.2.2.2.2.1, g.2.2.2.2.2.2.2.2.2.2.2.2.2.2.1, g.2.2.2.2.2.2.2.2.2.2.2.2.2.2.2.1, g.2.2.2.2.2.2.2.2.2.2.2.2.2.2.2.2.1, g.2.2.2.2.2.2.2.2.2.2.2.2.2.2.2.2.2.1, g.2.2.2.2.2.2.2.2.2.2.2.2.2.2.2.2.2.2.1, g.2.2.2.2.2.2.2.2.2.2.2.2.2.2.2.2.2.2.2.1, g.2.2.2.2.2.2.2.2.2.2.2.2.2.2.2.2.2.2.2.2.1, g.2.2.2.2.2.2.2.2.2.2.2.2.2.2.2.2.2.2.2.2.2)
def sm_minutes (g : GM) (v : (Nat → Int32)) : GM := (g.1, g.2.1, g.2.2.1, g.2.2.2.1, g.2.2.2.2.1, g.2.2.2.2.2.1, g.2.2.2.2.2.2.1, g.2.2.2.2.2.2.2.1, g.2.2.2.2.2.2.2.2.1, g.2.2.2.2.2.2.2.2.2.1, g.2.2.2.2.2.2.2.2.2.2.1, g.2.2.2.2.2.2.2.2.2.2.2.1, g.2.2.2.2.2.2.2.2.2.2.2.2.1, v, g.2.2.2.2.2.2.2.2.2.2.2.2.2.2.1, g.2.2.2.2.2.2.2.2.2.2.2.2.2.2.2.1, g.2.2.2.2.2.2.2.2.2.2.2.2.2.2.2.2.1, g.2.2.2.2.2.2.2.2.2.2.2.2.2.2.2.2.2.1, g.2.2.2.2.2.2.2.2.2.2.2.2.2.2.2.2.2.2.1, g.2.2.2.2.2.2.2.2.2.2.2.2.2.2.2.2.2.2.2.1, g.2.2.2.2.2.2.2.2.2.2.2.2.2.2.2.2.2.2.2.2.1, g.2.2.2.2.2.2.2.2.2.2.2.2.2.2.2.2.2.2.2.2.2)
def sm_hand (g : GM) (v : (Nat → Int32)) : GM := (g.1, g.2.1, g.2.2.1, g.2.2.2.1, g.2.2.2.2.1, g.2.2.2.2.2.1, g.2.2.2.2.2.2.1, g.2.2.2.2.2.2.2.1, g.2.2.2.2.2.2.2.2.1, g.2.2.2.2.2.2.2.2.2.1, g.2.2.2.2.2.2.2.2.2.2.1, g.2.2.2.2.2.2.2.2.2.2.2.1, g.2.2.2.2.2.2.2.2.2.2.2.2.1, g.2.2.2.2.2.2.2.2.2.2.2.2.2.1, v, g.2.2.2.2.2.2.2.2.2.2.2.2.2.2.2.1, g.2.2.2.2.2.2.2.2.2.2.2.2.2.2.2.2.1, g.2.2.2.2.2.2.2.2.2.2.2.2.2.2.2.2.2.1, g.2.2.2.2.2.2.2.2.2.2.2.2.2.2.2.2.2.2.1, g.2.2.2.2.2.2.2.2.2.2.2.2.2.2.2.2.2.2.2.1, g.2.2.2.2.2.2.2.2.2.2.2.2.2.2.2.2.2.2.2.2.1, g.2.2.2.2.2.2.2.2.2.2.2.2.2.2.2.2.2.2.2.2.2)
def sm_hasFailed (g : GM) (v : (Nat → Int32)) : GM := (g.1, g.2.1, g.2.2.1, g.2.2.2.1, g.2.2.2.2.1, g.2.2.2.2.2.1, g.2.2.2.2.2.2.1, g.2.2.2.2.2.2.2.1, g.2.2.2.2.2.2.2.2.1, g.2.2.2.2.2.2.2.2.2.1, g.2.2.2.2.2.2.2.2.2.2.1, g.2.2.2.2.2.2.2.2.2.2.2.1, g.2.2.2.2.2.2.2.2.2.2.2.2.1, g.2.2.2.2.2.2.2.2.2.2.2.2.2.1, g.2.2.2.2.2.2.2.2.2.2.2.2.2.2.1, v, g.2.2.2.2.2.2.2.2.2.2.2.2.2.2.2.2.1, g.2.2.2.2.2.2.2.2.2.2.2.2.2.2.2.2.2.1, g.2.2.2.2.2.2.2.2.2.2.2.2.2.2.2.2.2.2.1, g.2.2.2.2.2.2.2.2.2.2.2.2.2.2.2.2.2.2.2.1, g.2.2.2.2.2.2.2.2.2.2.2.2.2.2.2.2.2.2.2.2.1, g.2.2.2.2.2.2.2.2.2.2.2.2.2.2.2.2.2.2.2.2.2)
def sm_crew (g : GM) (v : (Nat → Int32)) : GM := (g.1, g.2.1, g.2.2.1, g.2.2.2.1, g.2.2.2.2.1, g.2.2.2.2.2.1, g.2.2.2.2.2.2.1, g.2.2.2.2.2.2.2.1, g.2.2.2.2.2.2.2.2.1, g.2.2.2.2.2.2.2.2.2.1, g.2.2.2.2.2.2.2.2.2.2.1, g.2.2.2.2.2.2.2.2.2.2.2.1, g.2.2.2.2.2.2.2.2.2.2.2.2.1, g.2.2.2.2.2.2.2.2.2.2.2.2.2.1, g.2.2.2.2.2.2.2.2.2.2.2.2.2.2.1, g.2.2.2.2.2.2.2.2.2.2.2.2.2.2.2.1, v, g.2.2.2.2.2.2.2.2.2.2.2.2.2.2.2.2.2.1, g.2.2.2.2.2.2.2.2.2.2.2.2.2.2.2.2.2.2.1, g.2.2.2.2.2.2.2.2.2.2.2.2.2.2.2.2.2.2.2.1, g.2.2.2.2.2.2.2.2.2.2.2.2.2.2.2.2.2.2.2.2.1, g.2.2.2.2.2.2.2.2.2.2.2.2.2.2.2.2.2.2.2.2.2)
def sm_ships (g : GM) (v : Int32) : GM := (g.1, g.2.1, g.2.2.1, g.2.2.2.1, g.2.2.2.2.1, g.2.2.2.2.2.1, g.2.2.2.2.2.2.1, g.2.2.2.2.2.2.2.1, g.2.2.2.2.2.2.2.2.1, g.2.2.2.2.2.2.2.2.2.1, g.2.2.2.2.2.2.2.2.2.2.1, g.2.2.2.2.2.2.2.2.2.2.2.1, g.2.2.2.2.2.2.2.2.2.2.2.2.1, g.2.2.2.2.2.2.2.2.2.2.2.2.2.1, g.2.2.2.2.2.2.2.2.2.2.2.2.2.2.1, g.2.2.2.2.2.2.2.2.2.2.2.2.2.2.2.1, g.2.2.2.2.2.2.2.2.2.2.2.2.2.2.2.2.1, v, g.2.2.2.2.2.2.2.2.2.2.2.2.2.2.2.2.2.2.1, g.2.2.2.2.2.2.2.2.2.2.2.2.2.2.2.2.2.2.2.1, g.2.2.2.2.2.2.2.2.2.2.2.2.2.2.2.2.2.2.2.2.1, g.2.2.2.2.2.2.2.2.2.2.2.2.2.2.2.2.2.2.2.2.2)
def sm_comes (g : GM) (v : (Nat → Int32)) : GM := (g.1, g.2.1, g.2.2.1, g.2.2.2.1, g.2.2.2.2.1, g.2.2.2.2.2.1, g.2.2.2.2.2.2.1, g.2.2.2.2.2.2.2.1, g.2.2.2.2.2.2.2.2.1, g.2.2.2.2.2.2.2.2.2.1, g.2.2.2.2.2.2.2.2.2.2.1, g.2.2.2.2.2.2.2.2.2.2.2.1, g.2.2.2.2.2.2.2.2.2.2.2.2.1, g.2.2.2.2.2.2.2.2.2.2.2.2.2.1, g.2.2.2.2.2.2.2.2.2.2.2.2.2.2.1, g.2.2.2.2.2.2.2.2.2.2.2.2.2.2.2.1, g.2.2.2.2.2.2.2.2.2.2.2.2.2.2.2.2.1, g.2.2.2.2.2.2.2.2.2.2.2.2.2.2.2.2.2.1, v, g.2.2.2.2.2.2.2.2.2.2.2.2.2.2.2.2.2.2.2.1, g.2.2.2.2.2.2.2.2.2.2.2.2.2.2.2.2.2.2.2.2.1, g.2.2.2.2.2.2.2.2.2.2.2.2.2.2.2.2.2.2.2.2.2)
def sm_takes (g : GM) (v : (Nat → Int32)) : GM := (g.1, g.2.1, g.2.2.1, g.2.2.2.1, g.2.2.2.2.1, g.2.2.2.2.2.1, g.2.2.2.2.2.2.1, g.2.2.2.2.2.2.2.1, g.2.2.2.2.2.2.2.2.1, g.2.2.2.2.2.2.2.2.2.1, g.2.2.2.2.2.2.2.2.2.2.1, g.2.2.2.2.2.2.2.2.2.2.2.1, g.2.2.2.2.2.2.2.2.2.2.2.2.1, g.2.2.2.2.2.2.2.2.2.2.2.2.2.1, g.2.2.2.2.2.2.2.2.2.2.2.2.2.2.1, g.2.2.2.2.2.2.2.2.2.2.2.2.2.2.2.1, g.2.2.2.2.2.2.2.2.2.2.2.2.2.2.2.2.1, g.2.2.2.2.2.2.2.2.2.2.2.2.2.2.2.2.2.1, g.2.2.2.2.2.2.2.2.2.2.2.2.2.2.2.2.2.2.1, v, g.2.2.2.2.2.2.2.2.2.2.2.2.2.2.2.2.2.2.2.2.1, g.2.2.2.2.2.2.2.2.2.2.2.2.2.2.2.2.2.2.2.2.2)
def sm_trace (g : GM) (v : (Nat → Int32)) : GM := (g.1, g.2.1, g.2.2.1, g.2.2.2.1, g.2.2.2.2.1, g.2.2.2.2.2.1, g.2.2.2.2.2.2.1, g.2.2.2.2.2.2.2.1, g.2.2.2.2.2.2.2.2.1, g.2.2.2.2.2.2.2.2.2.1, g.2.2.2.2.2.2.2.2.2.2.1, g.2.2.2.2.2.2.2.2.2.2.2.1, g.2.2.2.2.2.2.2.2.2.2.2.2.1, g.2.2.2.2.2.2.2.2.2.2.2.2.2.1, g.2.2.2.2.2.2.2.2.2.2.2.2.2.2.1, g.2.2.2.2.2.2.2.2.2.2.2.2.2.2.2.1, g.2.2.2.2.2.2.2.2.2.2.2.2.2.2.2.2.1, g.2.2.2.2.2.2.2.2.2.2.2.2.2.2.2.2.2.1, g.2.2.2.2.2.2.2.2.2.2.2.2.2.2.2.2.2.2.1, g.2.2.2.2.2.2.2.2.2.2.2.2.2.2.2.2.2.2.2.1, v, g.2.2.2.2.2.2.2.2.2.2.2.2.2.2.2.2.2.2.2.2.2)
def sm_traced (g : GM) (v : Int32) : GM := (g.1, g.2.1, g.2.2.1, g.2.2.2.1, g.2.2.2.2.1, g.2.2.2.2.2.1, g.2.2.2.2.2.2.1, g.2.2.2.2.2.2.2.1, g.2.2.2.2.2.2.2.2.1, g.2.2.2.2.2.2.2.2.2.1, g.2.2.2.2.2.2.2.2.2.2.1, g.2.2.2.2.2.2.2.2.2.2.2.1, g.2.2.2.2.2.2.2.2.2.2.2.2.1, g.2.2.2.2.2.2.2.2.2.2.2.2.2.1, g.2.2.2.2.2.2.2.2.2.2.2.2.2.2.1, g.2.2.2.2.2.2.2.2.2.2.2.2.2.2.2.1, g.2.2.2.2.2.2.2.2.2.2.2.2.2.2.2.2.1, g.2.2.2.2.2.2.2.2.2.2.2.2.2.2.2.2.2.1, g.2.2.2.2.2.2.2.2.2.2.2.2.2.2.2.2.2.2.1, g.2.2.2.2.2.2.2.2.2.2.2.2.2.2.2.2.2.2.2.1, g.2.2.2.2.2.2.2.2.2.2.2.2.2.2.2.2.2.2.2.2.1, v)
def wM (ad : Nat → Nat) (cy : Nat → ClassId) (g : GM) : va_W := [(ad 0, .inr (12, [.int (m_thrown g), .int (m_status g), .ref (ad 1), .ref (ad 2), .ref (ad 3), .ref (ad 4), .ref (ad 5), .int (m_worlds g), .ref (ad 6), .ref (ad 7), .ref (ad 8), .ref (ad 9), .int (m_gates g), .ref (ad 10), .ref (ad 11), .ref (ad 12), .ref (ad 13), .int (m_ships g), .ref (ad 14), .ref (ad 15), .ref (ad 16), .int (m_traced g)])), (ad 1, .inl (cy 0, 8, .inl (m_rule g))), (ad 2, .inl (cy 0, 8, .inl (m_river g))), (ad 3, .inl (cy 0, 8, .inl (m_lane g))), (ad 4, .inl (cy 0, 8, .inl (m_many g))), (ad 5, .inl (cy 0, 480, .inl (m_item g))), (ad 6, .inl (cy 0, 8, .inl (m_weight g))), (ad 7, .inl (cy 0, 64, .inl (m_sea g))), (ad 8, .inl (cy 1, 1152, .inr (.inl (m_least g)))), (ad 9, .inl (cy 2, 1152, .inl (m_isTold g))), (ad 10, .inl (cy 0, 6, .inl (m_minutes g))), (ad 11, .inl (cy 0, 6, .inl (m_hand g))), (ad 12, .inl (cy 2, 6, .inl (m_hasFailed g))), (ad 13, .inl (cy 0, 3, .inl (m_crew g))), (ad 14, .inl (cy 0, 20, .inl (m_comes g))), (ad 15, .inl (cy 0, 20, .inl (m_takes g))), (ad 16, .inl (cy 0, 16, .inl (m_trace g)))]
abbrev tyM (cy : Nat → ClassId) : List (ClassId × FieldType) := [(cy 0, .int), (cy 1, .long), (cy 2, .boolean)]
theorem wM_c0 (ad : Nat → Nat) (cy : Nat → ClassId) (g : GM) : (wM ad cy g)[0]? = some (ad 0, .inr (12, [.int (m_thrown g), .int (m_status g), .ref (ad 1), .ref (ad 2), .ref (ad 3), .ref (ad 4), .ref (ad 5), .int (m_worlds g), .ref (ad 6), .ref (ad 7), .ref (ad 8), .ref (ad 9), .int (m_gates g), .ref (ad 10), .ref (ad 11), .ref (ad 12), .ref (ad 13), .int (m_ships g), .ref (ad 14), .ref (ad 15), .ref (ad 16), .int (m_traced g)])) := rfl
theorem wM_c1 (ad : Nat → Nat) (cy : Nat → ClassId) (g : GM) : (wM ad cy g)[1]? = some (ad 1, .inl (cy 0, 8, .inl (m_rule g))) := rfl
theorem wM_c2 (ad : Nat → Nat) (cy : Nat → ClassId) (g : GM) : (wM ad cy g)[2]? = some (ad 2, .inl (cy 0, 8, .inl (m_river g))) := rfl
theorem wM_c3 (ad : Nat → Nat) (cy : Nat → ClassId) (g : GM) : (wM ad cy g)[3]? = some (ad 3, .inl (cy 0, 8, .inl (m_lane g))) := rfl
theorem wM_c4 (ad : Nat → Nat) (cy : Nat → ClassId) (g : GM) : (wM ad cy g)[4]? = some (ad 4, .inl (cy 0, 8, .inl (m_many g))) := rfl
theorem wM_c5 (ad : Nat → Nat) (cy : Nat → ClassId) (g : GM) : (wM ad cy g)[5]? = some (ad 5, .inl (cy 0, 480, .inl (m_item g))) := rfl
theorem wM_c6 (ad : Nat → Nat) (cy : Nat → ClassId) (g : GM) : (wM ad cy g)[6]? = some (ad 6, .inl (cy 0, 8, .inl (m_weight g))) := rfl
theorem wM_c7 (ad : Nat → Nat) (cy : Nat → ClassId) (g : GM) : (wM ad cy g)[7]? = some (ad 7, .inl (cy 0, 64, .inl (m_sea g))) := rfl
theorem wM_c8 (ad : Nat → Nat) (cy : Nat → ClassId) (g : GM) : (wM ad cy g)[8]? = some (ad 8, .inl (cy 1, 1152, .inr (.inl (m_least g)))) := rfl
theorem wM_c9 (ad : Nat → Nat) (cy : Nat → ClassId) (g : GM) : (wM ad cy g)[9]? = some (ad 9, .inl (cy 2, 1152, .inl (m_isTold g))) := rfl
theorem wM_c10 (ad : Nat → Nat) (cy : Nat → ClassId) (g : GM) : (wM ad cy g)[10]? = some (ad 10, .inl (cy 0, 6, .inl (m_minutes g))) := rfl
theorem wM_c11 (ad : Nat → Nat) (cy : Nat → ClassId) (g : GM) : (wM ad cy g)[11]? = some (ad 11, .inl (cy 0, 6, .inl (m_hand g))) := rfl
theorem wM_c12 (ad : Nat → Nat) (cy : Nat → ClassId) (g : GM) : (wM ad cy g)[12]? = some (ad 12, .inl (cy 2, 6, .inl (m_hasFailed g))) := rfl
theorem wM_c13 (ad : Nat → Nat) (cy : Nat → ClassId) (g : GM) : (wM ad cy g)[13]? = some (ad 13, .inl (cy 0, 3, .inl (m_crew g))) := rfl
theorem wM_c14 (ad : Nat → Nat) (cy : Nat → ClassId) (g : GM) : (wM ad cy g)[14]? = some (ad 14, .inl (cy 0, 20, .inl (m_comes g))) := rfl
theorem wM_c15 (ad : Nat → Nat) (cy : Nat → ClassId) (g : GM) : (wM ad cy g)[15]? = some (ad 15, .inl (cy 0, 20, .inl (m_takes g))) := rfl
theorem wM_c16 (ad : Nat → Nat) (cy : Nat → ClassId) (g : GM) : (wM ad cy g)[16]? = some (ad 16, .inl (cy 0, 16, .inl (m_trace g))) := rfl
theorem wM_p_thrown (ad : Nat → Nat) (cy : Nat → ClassId) (g : GM) (v : Int32) : (wM ad cy g).set 0 (ad 0, .inr (12, ([.int (m_thrown g), .int (m_status g), .ref (ad 1), .ref (ad 2), .ref (ad 3), .ref (ad 4), .ref (ad 5), .int (m_worlds g), .ref (ad 6), .ref (ad 7), .ref (ad 8), .ref (ad 9), .int (m_gates g), .ref (ad 10), .ref (ad 11), .ref (ad 12), .ref (ad 13), .int (m_ships g), .ref (ad 14), .ref (ad 15), .ref (ad 16), .int (m_traced g)] : List Value).set 0 (.int v))) = wM ad cy (sm_thrown g v) := rfl
theorem fdX12_0 : parseFieldDescriptor (TX12 0).2.2.1 = some .int := by decide +kernel
theorem wM_p_status (ad : Nat → Nat) (cy : Nat → ClassId) (g : GM) (v : Int32) : (wM ad cy g).set 0 (ad 0, .inr (12, ([.int (m_thrown g), .int (m_status g), .ref (ad 1), .ref (ad 2), .ref (ad 3), .ref (ad 4), .ref (ad 5), .int (m_worlds g), .ref (ad 6), .ref (ad 7), .ref (ad 8), .ref (ad 9), .int (m_gates g), .ref (ad 10), .ref (ad 11), .ref (ad 12), .ref (ad 13), .int (m_ships g), .ref (ad 14), .ref (ad 15), .ref (ad 16), .int (m_traced g)] : List Value).set 1 (.int v))) = wM ad cy (sm_status g v) := rfl
theorem fdX12_1 : parseFieldDescriptor (TX12 1).2.2.1 = some .int := by decide +kernel
theorem wM_s_rule (ad : Nat → Nat) (cy : Nat → ClassId) (g : GM) (v : (Nat → Int32)) : (wM ad cy g).set 1 (ad 1, .inl (cy 0, 8, .inl v)) = wM ad cy (sm_rule g v) := rfl
theorem wM_s_river (ad : Nat → Nat) (cy : Nat → ClassId) (g : GM) (v : (Nat → Int32)) : (wM ad cy g).set 2 (ad 2, .inl (cy 0, 8, .inl v)) = wM ad cy (sm_river g v) := rfl
theorem wM_s_lane (ad : Nat → Nat) (cy : Nat → ClassId) (g : GM) (v : (Nat → Int32)) : (wM ad cy g).set 3 (ad 3, .inl (cy 0, 8, .inl v)) = wM ad cy (sm_lane g v) := rfl
theorem wM_s_many (ad : Nat → Nat) (cy : Nat → ClassId) (g : GM) (v : (Nat → Int32)) : (wM ad cy g).set 4 (ad 4, .inl (cy 0, 8, .inl v)) = wM ad cy (sm_many g v) := rfl
theorem wM_s_item (ad : Nat → Nat) (cy : Nat → ClassId) (g : GM) (v : (Nat → Int32)) : (wM ad cy g).set 5 (ad 5, .inl (cy 0, 480, .inl v)) = wM ad cy (sm_item g v) := rfl
theorem wM_p_worlds (ad : Nat → Nat) (cy : Nat → ClassId) (g : GM) (v : Int32) : (wM ad cy g).set 0 (ad 0, .inr (12, ([.int (m_thrown g), .int (m_status g), .ref (ad 1), .ref (ad 2), .ref (ad 3), .ref (ad 4), .ref (ad 5), .int (m_worlds g), .ref (ad 6), .ref (ad 7), .ref (ad 8), .ref (ad 9), .int (m_gates g), .ref (ad 10), .ref (ad 11), .ref (ad 12), .ref (ad 13), .int (m_ships g), .ref (ad 14), .ref (ad 15), .ref (ad 16), .int (m_traced g)] : List Value).set 7 (.int v))) = wM ad cy (sm_worlds g v) := rfl
theorem fdX12_7 : parseFieldDescriptor (TX12 7).2.2.1 = some .int := by decide +kernel
theorem wM_s_weight (ad : Nat → Nat) (cy : Nat → ClassId) (g : GM) (v : (Nat → Int32)) : (wM ad cy g).set 6 (ad 6, .inl (cy 0, 8, .inl v)) = wM ad cy (sm_weight g v) := rfl
theorem wM_s_sea (ad : Nat → Nat) (cy : Nat → ClassId) (g : GM) (v : (Nat → Int32)) : (wM ad cy g).set 7 (ad 7, .inl (cy 0, 64, .inl v)) = wM ad cy (sm_sea g v) := rfl
theorem wM_s_least (ad : Nat → Nat) (cy : Nat → ClassId) (g : GM) (v : (Nat → Int64)) : (wM ad cy g).set 8 (ad 8, .inl (cy 1, 1152, .inr (.inl v))) = wM ad cy (sm_least g v) := rfl
theorem wM_s_isTold (ad : Nat → Nat) (cy : Nat → ClassId) (g : GM) (v : (Nat → Int32)) : (wM ad cy g).set 9 (ad 9, .inl (cy 2, 1152, .inl v)) = wM ad cy (sm_isTold g v) := rfl
theorem wM_p_gates (ad : Nat → Nat) (cy : Nat → ClassId) (g : GM) (v : Int32) : (wM ad cy g).set 0 (ad 0, .inr (12, ([.int (m_thrown g), .int (m_status g), .ref (ad 1), .ref (ad 2), .ref (ad 3), .ref (ad 4), .ref (ad 5), .int (m_worlds g), .ref (ad 6), .ref (ad 7), .ref (ad 8), .ref (ad 9), .int (m_gates g), .ref (ad 10), .ref (ad 11), .ref (ad 12), .ref (ad 13), .int (m_ships g), .ref (ad 14), .ref (ad 15), .ref (ad 16), .int (m_traced g)] : List Value).set 12 (.int v))) = wM ad cy (sm_gates g v) := rfl
theorem fdX12_12 : parseFieldDescriptor (TX12 12).2.2.1 = some .int := by decide +kernel
theorem wM_s_minutes (ad : Nat → Nat) (cy : Nat → ClassId) (g : GM) (v : (Nat → Int32)) : (wM ad cy g).set 10 (ad 10, .inl (cy 0, 6, .inl v)) = wM ad cy (sm_minutes g v) := rfl
theorem wM_s_hand (ad : Nat → Nat) (cy : Nat → ClassId) (g : GM) (v : (Nat → Int32)) : (wM ad cy g).set 11 (ad 11, .inl (cy 0, 6, .inl v)) = wM ad cy (sm_hand g v) := rfl
theorem wM_s_hasFailed (ad : Nat → Nat) (cy : Nat → ClassId) (g : GM) (v : (Nat → Int32)) : (wM ad cy g).set 12 (ad 12, .inl (cy 2, 6, .inl v)) = wM ad cy (sm_hasFailed g v) := rfl
theorem wM_s_crew (ad : Nat → Nat) (cy : Nat → ClassId) (g : GM) (v : (Nat → Int32)) : (wM ad cy g).set 13 (ad 13, .inl (cy 0, 3, .inl v)) = wM ad cy (sm_crew g v) := rfl
theorem wM_p_ships (ad : Nat → Nat) (cy : Nat → ClassId) (g : GM) (v : Int32) : (wM ad cy g).set 0 (ad 0, .inr (12, ([.int (m_thrown g), .int (m_status g), .ref (ad 1), .ref (ad 2), .ref (ad 3), .ref (ad 4), .ref (ad 5), .int (m_worlds g), .ref (ad 6), .ref (ad 7), .ref (ad 8), .ref (ad 9), .int (m_gates g), .ref (ad 10), .ref (ad 11), .ref (ad 12), .ref (ad 13), .int (m_ships g), .ref (ad 14), .ref (ad 15), .ref (ad 16), .int (m_traced g)] : List Value).set 17 (.int v))) = wM ad cy (sm_ships g v) := rfl
theorem fdX12_17 : parseFieldDescriptor (TX12 17).2.2.1 = some .int := by decide +kernel
theorem wM_s_comes (ad : Nat → Nat) (cy : Nat → ClassId) (g : GM) (v : (Nat → Int32)) : (wM ad cy g).set 14 (ad 14, .inl (cy 0, 20, .inl v)) = wM ad cy (sm_comes g v) := rfl
theorem wM_s_takes (ad : Nat → Nat) (cy : Nat → ClassId) (g : GM) (v : (Nat → Int32)) : (wM ad cy g).set 15 (ad 15, .inl (cy 0, 20, .inl v)) = wM ad cy (sm_takes g v) := rfl
theorem wM_s_trace (ad : Nat → Nat) (cy : Nat → ClassId) (g : GM) (v : (Nat → Int32)) : (wM ad cy g).set 16 (ad 16, .inl (cy 0, 16, .inl v)) = wM ad cy (sm_trace g v) := rfl
theorem wM_p_traced (ad : Nat → Nat) (cy : Nat → ClassId) (g : GM) (v : Int32) : (wM ad cy g).set 0 (ad 0, .inr (12, ([.int (m_thrown g), .int (m_status g), .ref (ad 1), .ref (ad 2), .ref (ad 3), .ref (ad 4), .ref (ad 5), .int (m_worlds g), .ref (ad 6), .ref (ad 7), .ref (ad 8), .ref (ad 9), .int (m_gates g), .ref (ad 10), .ref (ad 11), .ref (ad 12), .ref (ad 13), .int (m_ships g), .ref (ad 14), .ref (ad 15), .ref (ad 16), .int (m_traced g)] : List Value).set 21 (.int v))) = wM ad cy (sm_traced g v) := rfl
theorem fdX12_21 : parseFieldDescriptor (TX12 21).2.2.1 = some .int := by decide +kernel
theorem jsw (x : Int32) (n : Nat) (hn : n < 2 ^ 31) : (∀ j : Nat, j ≤ n → ¬ x = nI j) ∨ ∃ j : Nat, j ≤ n ∧ x = nI j := by
  by_cases h : ∃ j : Nat, j ≤ n ∧ x = nI j
  · exact Or.inr h
  · exact Or.inl (fun j hj e => h ⟨j, hj, e⟩)
theorem jsw_out {x : Int32} {n : Nat} {hi : Int} (h : ∀ j : Nat, j ≤ n → ¬ x = nI j) (e : hi = (n : Int)) : x.toInt < 0 ∨ hi < x.toInt := by
  subst e
  rcases Int.lt_or_le x.toInt 0 with q | q
  · exact Or.inl q
  · refine Or.inr ?_
    have h0 : ¬ x < 0 := fun q2 => by
      have := Int32.lt_iff_toInt_lt.mp q2
      rw [Int32.toInt_zero] at this
      omega
    obtain ⟨j, hj, rfl⟩ := nI_of h0
    rw [nI_toInt hj] at q ⊢
    rcases Nat.lt_or_ge n j with q2 | q2
    · omega
    · exact absurd rfl (h j q2)
end
section
theorem hdM_in : yX12_in.cls = RX12 ∧ yX12_in.cls ≠ "java/lang/invoke/MethodHandle" ∧ yX12_in.cls ≠ "java/lang/invoke/VarHandle" ∧ (parseMethodDescriptor yX12_in.desc).map (fun d => d.parameters.length) = some 3 := by decide +kernel
abbrev rM_in : Room := { frames := 0, cells := 0, slots := 0, locals := 0 }
def vM_in (g : GM) (a0 : Int64) (a2 : Int64) (a4 : Int64) (post : Int32 → GM → Prop) : Prop :=
  ((a0 < a2 → post (0 : Int32) g) ∧ (¬ a0 < a2 → ((a4 < a0 → post (0 : Int32) g) ∧ (¬ a4 < a0 → post (1 : Int32) g))))
set_option maxHeartbeats 4000000 in
set_option maxRecDepth 100000 in
theorem cM_in {l : Launch} {D : va_G} {ad : Nat → Nat} {cy : Nat → ClassId} {g : GM} {a0 : Int64} {a2 : Int64} {a4 : Int64} {post : Int32 → GM → Prop} (hv : vM_in g a0 a2 a4 post) : jMi l yX12_in wsX12_in rM_in D (tyM cy) [.long a0, .long a2, .long a4] (wM ad cy g) (wM ad cy) post 0 0 := by
  refine j_meti (cc := cX12_in) (nL := 6) (rt := (some .boolean)) (by decide) (Nat.le_of_ble_eq_true rfl) ?_
  intro Γ hC hQ _
  have hC : jC Γ l rM_in D 6 RX12 cX12_in wsX12_in (tyM cy) := hC
  refine j_lv (lv' := [(0, .long a0), (2, .long a2), (4, .long a4)]) [0, 1, 2] rfl ?_
  unfold vM_in at hv
  refine j_lload_n (i := 0) hC dX12_in_0 rfl 0 rfl ?_
  refine j_lload_n (i := 2) hC dX12_in_1 rfl 1 rfl ?_
  refine j_lcmp_lt (tgt := 17) hC dX12_in_2 dX12_in_3 (by decide) (fun h_ => ?_) (fun h_ => ?_)
  · have hv := hv.1 h_
    refine j_iconst (v := 0) hC dX12_in_17 (by decide) ?_
    exact j_zret hC hQ dX12_in_18 rfl rfl hv
  · have hv := hv.2 h_
    refine j_lload_n (i := 0) hC dX12_in_6 rfl 0 rfl ?_
    refine j_lload hC dX12_in_7 2 rfl ?_
    refine j_lcmp_gt (tgt := 17) hC dX12_in_9 dX12_in_10 (by decide) (fun h_ => ?_) (fun h_ => ?_)
    · have hv := hv.1 h_
      refine j_iconst (v := 0) hC dX12_in_17 (by decide) ?_
      exact j_zret hC hQ dX12_in_18 rfl rfl hv
    · have hv := hv.2 h_
      refine j_iconst (v := 1) hC dX12_in_13 (by decide) ?_
      refine j_goto (tgt := 18) hC dX12_in_14 (by decide) ?_
      exact j_zret hC hQ dX12_in_18 rfl rfl hv
theorem hdM_found : yX12_found.cls = RX12 ∧ yX12_found.cls ≠ "java/lang/invoke/MethodHandle" ∧ yX12_found.cls ≠ "java/lang/invoke/VarHandle" ∧ (parseMethodDescriptor yX12_found.desc).map (fun d => d.parameters.length) = some 1 := by decide +kernel
abbrev rM_found : Room := { frames := 0, cells := 0, slots := 0, locals := 0 }
def vM_found (g : GM) (a1 : Int32) (post : Int32 → GM → Prop) : Prop :=
  post ((-1000010 : Int32) - a1) (sm_status g a1)
set_option maxHeartbeats 4000000 in
set_option maxRecDepth 100000 in
theorem cM_found {l : Launch} {D : va_G} {ad : Nat → Nat} {cy : Nat → ClassId} {g : GM} {a1 : Int32} {post : Int32 → GM → Prop} (hv : vM_found g a1 post) : jMi l yX12_found wsX12_found rM_found D (tyM cy) [.ref (ad 0), .int a1] (wM ad cy g) (wM ad cy) post 0 0 := by
  refine j_meti (cc := cX12_found) (nL := 2) (rt := (some .int)) (by decide) (Nat.le_of_ble_eq_true rfl) ?_
  intro Γ hC hQ _
  have hC : jC Γ l rM_found D 2 RX12 cX12_found wsX12_found (tyM cy) := hC
  have hinX12 : ∀ w ∈ wsX120, w ∈ wsX12_found := fun w h => List.mem_cons_of_mem _ (List.mem_append_right _ h)
  refine j_lv (lv' := [(0, .ref (ad 0)), (1, .int a1)]) [0, 1] rfl ?_
  unfold vM_found at hv
  refine j_aload_n (i := 0) hC dX12_found_0 rfl 0 rfl ?_
  refine j_iload_n (i := 1) hC dX12_found_1 rfl 1 rfl ?_
  refine j_put (C := RX12) (T := TX12) (N := 22) (ty := .int) hC hinX12 tyX12 tyX12_ok nmX12 0 (wM_c0 ad cy _) rfl 1 (by decide) (mw 1 rfl) rfl rfl fdX12_1 rfl rfl (Nat.le_of_ble_eq_true rfl) (wM_p_status ad cy _ _) dX12_found_2 ?_
  refine j_ldc (v := -1000010) hC dX12_found_5 (mw 2 rfl) ?_
  refine j_iload_n (i := 1) hC dX12_found_7 rfl 1 rfl ?_
  refine j_isub hC dX12_found_8 ?_
  exact j_iret hC hQ dX12_found_9 rfl hv
theorem hdM_isSheet : yX12_isSheet.cls = RX12 ∧ yX12_isSheet.cls ≠ "java/lang/invoke/MethodHandle" ∧ yX12_isSheet.cls ≠ "java/lang/invoke/VarHandle" ∧ (parseMethodDescriptor yX12_isSheet.desc).map (fun d => d.parameters.length) = some 1 := by decide +kernel
abbrev rM_isSheet : Room := { frames := 1, cells := 0, slots := 0, locals := 25 }
def vM_isSheet (g : GM) (a0 : Int32) (post : Int32 → GM → Prop) : Prop :=
  (vM_in g (a0.toInt64) (0 : Int64) (7 : Int64) (fun r6 g6 => (jz r6 ∧ post r6 g6)))
set_option maxHeartbeats 4000000 in
set_option maxRecDepth 100000 in
theorem cM_isSheet {l : Launch} {D : va_G} {ad : Nat → Nat} {cy : Nat → ClassId} {g : GM} {a0 : Int32} {post : Int32 → GM → Prop} (hv : vM_isSheet g a0 post) : jMi l yX12_isSheet wsX12_isSheet rM_isSheet D (tyM cy) [.int a0] (wM ad cy g) (wM ad cy) post 0 0 := by
  refine j_meti (cc := cX12_isSheet) (nL := 1) (rt := (some .boolean)) (by decide) (Nat.le_of_ble_eq_true rfl) ?_
  intro Γ hC hQ _
  have hC : jC Γ l rM_isSheet D 1 RX12 cX12_isSheet wsX12_isSheet (tyM cy) := hC
  refine j_lv (lv' := [(0, .int a0)]) [0] rfl ?_
  unfold vM_isSheet at hv
  refine j_iload_n (i := 0) hC dX12_isSheet_0 rfl 0 rfl ?_
  refine j_i2l hC dX12_isSheet_1 ?_
  refine j_lconst (v := 0) hC dX12_isSheet_2 (by decide) ?_
  refine j_ldc2 (v := 7) hC dX12_isSheet_3 (mw 1 rfl) ?_
  refine j_callS_i (As := [.long (a0.toInt64), .long (0 : Int64), .long (7 : Int64)]) (rest := []) hC (cM_in hv) 3 gX12_isSheet_X12_in rfl rfl rfl ⟨Nat.le_of_ble_eq_true rfl, Nat.le_of_ble_eq_true rfl⟩ hdM_in.2 rfl rfl (Nat.le_of_ble_eq_true rfl) ⟨Nat.zero_le _, Nat.zero_le _⟩ dX12_isSheet_6 (fun r6 g6 hv => ?_)
  exact j_zret hC hQ dX12_isSheet_9 rfl (jz_n hv.1) hv.2
theorem hdM_sheet : yX12_sheet.cls = RX12 ∧ yX12_sheet.cls ≠ "java/lang/invoke/MethodHandle" ∧ yX12_sheet.cls ≠ "java/lang/invoke/VarHandle" ∧ (parseMethodDescriptor yX12_sheet.desc).map (fun d => d.parameters.length) = some 3 := by decide +kernel
abbrev rM_sheet : Room := { frames := 2, cells := 0, slots := 0, locals := 45 }
def vM_sheet_65 (post : Int32 → GM → Prop) : Nat → Int32 → Int32 → Int32 → GM → Prop
  | 0, _, _, _, _ => False
  | k_ + 1, x1, x3, x4, g =>
  (((60 : Int32) ≤ x4 → post x3 g) ∧ (¬ (60 : Int32) ≤ x4 → (vp_in (((60 : Int32) * x1) + x4) 480 ∧ (vM_sheet_65 post k_ x1 x3 (x4 + (1 : Int32)) (sm_item g (upd (m_item g) (((60 : Int32) * x1) + x4).toNatClampNeg (0 : Int32)))))))
def vM_sheet (g : GM) (a1 : Int32) (a2 : Int32) (a3 : Int32) (post : Int32 → GM → Prop) : Prop :=
  (vM_isSheet (sm_thrown g (0 : Int32)) a1 (fun r6 g6 => ((r6 = (0 : Int32) → post (-1000001 : Int32) g6) ∧ (¬ r6 = (0 : Int32) → (vM_in g6 (a2.toInt64) (0 : Int64) (2 : Int64) (fun r18 g18 => ((r18 = (0 : Int32) → post (-1000001 : Int32) g18) ∧ (¬ r18 = (0 : Int32) → ((a3 ≤ (60 : Int32) → (((0 : Int32) ≤ a3 → (vp_in a1 8 ∧ (vp_in a1 8 ∧ (∃ n_ : Nat, vM_sheet_65 post n_ a1 a3 (0 : Int32) (sm_many (sm_lane (sm_status g18 (0 : Int32)) (upd (m_lane g18) a1.toNatClampNeg a2)) (upd (m_many g18) a1.toNatClampNeg a3)))))) ∧ (¬ (0 : Int32) ≤ a3 → (vM_found (sm_status g18 (0 : Int32)) (4 : Int32) (fun r44 g44 => post r44 g44))))) ∧ (¬ a3 ≤ (60 : Int32) → post (-1000001 : Int32) g18))))))))))
set_option maxHeartbeats 4000000 in
set_option maxRecDepth 100000 in
theorem lM_sheet_65 {Γ : jG} {l : Launch} {D : va_G} {ad : Nat → Nat} {cy : Nat → ClassId} {post : Int32 → GM → Prop} (hC : jC Γ l rM_sheet D 5 RX12 cX12_sheet wsX12_sheet (tyM cy)) (hQ : jQi Γ D (wM ad cy) post (some .int) 0 0) : ∀ (n_ : Nat) (x1 : Int32) (x3 : Int32) (x4 : Int32) (g : GM), vM_sheet_65 post n_ x1 x3 x4 g → J Γ D 5 0 0 (wM ad cy g) 65 [(0, .ref (ad 0)), (1, .int x1), (3, .int x3), (4, .int x4)] [] := by
  have hinX12 : ∀ w ∈ wsX120, w ∈ wsX12_sheet := fun w h => List.mem_cons_of_mem _ (List.mem_append_right _ h)
  intro n_
  induction n_ with
  | zero => intro x1 x3 x4 g hv; exact False.elim hv
  | succ k_ ih =>
    intro x1 x3 x4 g hv
    unfold vM_sheet_65 at hv
    refine j_iload hC dX12_sheet_65 3 rfl ?_
    refine j_bipush (v := 60) hC dX12_sheet_67 (by decide) ?_
    refine j_icmp_ge (tgt := 91) hC dX12_sheet_69 (by decide) (fun h_ => ?_) (fun h_ => ?_)
    · have hv := hv.1 h_
      refine j_iload_n (i := 3) hC dX12_sheet_91 rfl 2 rfl ?_
      exact j_iret hC hQ dX12_sheet_92 rfl hv
    · have hv := hv.2 h_
      refine j_aload_n (i := 0) hC dX12_sheet_72 rfl 0 rfl ?_
      refine j_get (C := RX12) (T := TX12) (N := 22) (v := .ref (ad 5)) hC hinX12 0 (wM_c0 ad cy _) rfl 6 (by decide) (mw 7 rfl) rfl rfl dX12_sheet_73 ?_
      refine j_bipush (v := 60) hC dX12_sheet_76 (by decide) ?_
      refine j_iload_n (i := 1) hC dX12_sheet_78 rfl 1 rfl ?_
      refine j_imul hC dX12_sheet_79 ?_
      refine j_iload hC dX12_sheet_80 3 rfl ?_
      refine j_iadd hC dX12_sheet_82 ?_
      refine j_iconst (v := 0) hC dX12_sheet_83 (by decide) ?_
      refine j_iast hC 5 0 (wM_c5 ad cy _) rfl hv.1 (wM_s_item ad cy _ _) dX12_sheet_84 ?_
      have hv := hv.2
      refine j_iinc (k := 3) (v := (x4 + (1 : Int32))) (lv' := [(4, .int (x4 + (1 : Int32))), (0, .ref (ad 0)), (1, .int x1), (3, .int x3)]) hC dX12_sheet_85 rfl rfl (by decide) rfl ?_
      refine j_goto (tgt := 65) hC dX12_sheet_88 (by decide) ?_
      exact j_lv [1, 2, 3, 0] rfl (ih _ _ _ _ hv)
set_option maxHeartbeats 4000000 in
set_option maxRecDepth 100000 in
theorem cM_sheet {l : Launch} {D : va_G} {ad : Nat → Nat} {cy : Nat → ClassId} {g : GM} {a1 : Int32} {a2 : Int32} {a3 : Int32} {post : Int32 → GM → Prop} (hv : vM_sheet g a1 a2 a3 post) : jMi l yX12_sheet wsX12_sheet rM_sheet D (tyM cy) [.ref (ad 0), .int a1, .int a2, .int a3] (wM ad cy g) (wM ad cy) post 0 0 := by
  refine j_meti (cc := cX12_sheet) (nL := 5) (rt := (some .int)) (by decide) (Nat.le_of_ble_eq_true rfl) ?_
  intro Γ hC hQ _
  have hC : jC Γ l rM_sheet D 5 RX12 cX12_sheet wsX12_sheet (tyM cy) := hC
  have hinX12 : ∀ w ∈ wsX120, w ∈ wsX12_sheet := fun w h => List.mem_cons_of_mem _ (List.mem_append_right _ h)
  refine j_lv (lv' := [(0, .ref (ad 0)), (1, .int a1), (2, .int a2), (3, .int a3)]) [0, 1, 2, 3] rfl ?_
  unfold vM_sheet at hv
  refine j_aload_n (i := 0) hC dX12_sheet_0 rfl 0 rfl ?_
  refine j_iconst (v := 0) hC dX12_sheet_1 (by decide) ?_
  refine j_put (C := RX12) (T := TX12) (N := 22) (ty := .int) hC hinX12 tyX12 tyX12_ok nmX12 0 (wM_c0 ad cy _) rfl 0 (by decide) (mw 1 rfl) rfl rfl fdX12_0 rfl rfl (Nat.le_of_ble_eq_true rfl) (wM_p_thrown ad cy _ _) dX12_sheet_2 ?_
  refine j_iload_n (i := 1) hC dX12_sheet_5 rfl 1 rfl ?_
  refine j_callS_i (As := [.int a1]) (rest := []) hC (cM_isSheet hv) 1 gX12_sheet_X12_isSheet rfl rfl rfl ⟨Nat.le_of_ble_eq_true rfl, Nat.le_of_ble_eq_true rfl⟩ hdM_isSheet.2 rfl rfl (Nat.le_of_ble_eq_true rfl) ⟨Nat.zero_le _, Nat.zero_le _⟩ dX12_sheet_6 (fun r6 g6 hv => ?_)
  refine j_if_eq (tgt := 30) hC dX12_sheet_9 (by decide) (fun h_ => ?_) (fun h_ => ?_)
  · have hv := hv.1 h_
    refine j_ldc (v := -1000001) hC dX12_sheet_30 (mw 3 rfl) ?_
    exact j_iret hC hQ dX12_sheet_32 rfl hv
  · have hv := hv.2 h_
    refine j_iload_n (i := 2) hC dX12_sheet_12 rfl 2 rfl ?_
    refine j_i2l hC dX12_sheet_13 ?_
    refine j_lconst (v := 0) hC dX12_sheet_14 (by decide) ?_
    refine j_ldc2 (v := 2) hC dX12_sheet_15 (mw 2 rfl) ?_
    refine j_callS_i (As := [.long (a2.toInt64), .long (0 : Int64), .long (2 : Int64)]) (rest := []) hC (cM_in hv) 3 gX12_sheet_X12_in rfl rfl rfl ⟨Nat.le_of_ble_eq_true rfl, Nat.le_of_ble_eq_true rfl⟩ hdM_in.2 rfl rfl (Nat.le_of_ble_eq_true rfl) ⟨Nat.zero_le _, Nat.zero_le _⟩ dX12_sheet_18 (fun r18 g18 hv => ?_)
    refine j_if_eq (tgt := 30) hC dX12_sheet_21 (by decide) (fun h_ => ?_) (fun h_ => ?_)
    · have hv := hv.1 h_
      refine j_ldc (v := -1000001) hC dX12_sheet_30 (mw 3 rfl) ?_
      exact j_iret hC hQ dX12_sheet_32 rfl hv
    · have hv := hv.2 h_
      refine j_iload_n (i := 3) hC dX12_sheet_24 rfl 3 rfl ?_
      refine j_bipush (v := 60) hC dX12_sheet_25 (by decide) ?_
      refine j_icmp_le (tgt := 33) hC dX12_sheet_27 (by decide) (fun h_ => ?_) (fun h_ => ?_)
      · have hv := hv.1 h_
        refine j_aload_n (i := 0) hC dX12_sheet_33 rfl 0 rfl ?_
        refine j_iconst (v := 0) hC dX12_sheet_34 (by decide) ?_
        refine j_put (C := RX12) (T := TX12) (N := 22) (ty := .int) hC hinX12 tyX12 tyX12_ok nmX12 0 (wM_c0 ad cy _) rfl 1 (by decide) (mw 4 rfl) rfl rfl fdX12_1 rfl rfl (Nat.le_of_ble_eq_true rfl) (wM_p_status ad cy _ _) dX12_sheet_35 ?_
        refine j_iload_n (i := 3) hC dX12_sheet_38 rfl 3 rfl ?_
        refine j_if_ge (tgt := 48) hC dX12_sheet_39 (by decide) (fun h_ => ?_) (fun h_ => ?_)
        · have hv := hv.1 h_
          refine j_aload_n (i := 0) hC dX12_sheet_48 rfl 0 rfl ?_
          refine j_get (C := RX12) (T := TX12) (N := 22) (v := .ref (ad 3)) hC hinX12 0 (wM_c0 ad cy _) rfl 4 (by decide) (mw 5 rfl) rfl rfl dX12_sheet_49 ?_
          refine j_iload_n (i := 1) hC dX12_sheet_52 rfl 1 rfl ?_
          refine j_iload_n (i := 2) hC dX12_sheet_53 rfl 2 rfl ?_
          refine j_iast hC 3 0 (wM_c3 ad cy _) rfl hv.1 (wM_s_lane ad cy _ _) dX12_sheet_54 ?_
          have hv := hv.2
          refine j_aload_n (i := 0) hC dX12_sheet_55 rfl 0 rfl ?_
          refine j_get (C := RX12) (T := TX12) (N := 22) (v := .ref (ad 4)) hC hinX12 0 (wM_c0 ad cy _) rfl 5 (by decide) (mw 6 rfl) rfl rfl dX12_sheet_56 ?_
          refine j_iload_n (i := 1) hC dX12_sheet_59 rfl 1 rfl ?_
          refine j_iload_n (i := 3) hC dX12_sheet_60 rfl 3 rfl ?_
          refine j_iast hC 4 0 (wM_c4 ad cy _) rfl hv.1 (wM_s_many ad cy _ _) dX12_sheet_61 ?_
          have hv := hv.2
          refine j_iconst (v := 0) hC dX12_sheet_62 (by decide) ?_
          refine j_istore (lv' := [(4, .int (0 : Int32)), (0, .ref (ad 0)), (1, .int a1), (2, .int a2), (3, .int a3)]) hC dX12_sheet_63 (by decide) rfl ?_
          obtain ⟨n_, hv⟩ := hv
          exact j_lv [1, 2, 4, 0] rfl (lM_sheet_65 hC hQ n_ _ _ _ _ hv)
        · have hv := hv.2 h_
          refine j_aload_n (i := 0) hC dX12_sheet_42 rfl 0 rfl ?_
          refine j_iconst (v := 4) hC dX12_sheet_43 (by decide) ?_
          refine j_callV_i (C := RX12) (As := [.int (4 : Int32)]) (rest := []) (b := (ad 0)) hC (cM_found hv) 1 gX12_sheet_X12_found rfl rfl rfl ⟨Nat.le_of_ble_eq_true rfl, Nat.le_of_ble_eq_true rfl⟩ hdM_found rfl (wM_c0 ad cy _) rfl rfl (Nat.le_of_ble_eq_true rfl) ⟨Nat.zero_le _, Nat.zero_le _⟩ dX12_sheet_44 (fun r44 g44 hv => ?_)
          exact j_iret hC hQ dX12_sheet_47 rfl hv
      · have hv := hv.2 h_
        refine j_ldc (v := -1000001) hC dX12_sheet_30 (mw 3 rfl) ?_
        exact j_iret hC hQ dX12_sheet_32 rfl hv
theorem hdM_set : yX12_set.cls = RX12 ∧ yX12_set.cls ≠ "java/lang/invoke/MethodHandle" ∧ yX12_set.cls ≠ "java/lang/invoke/VarHandle" ∧ (parseMethodDescriptor yX12_set.desc).map (fun d => d.parameters.length) = some 3 := by decide +kernel
abbrev rM_set : Room := { frames := 2, cells := 0, slots := 0, locals := 45 }
def vM_set_99 (post : Int32 → GM → Prop) (x1 : Int32) (x2 : Int32) (t0 : Int32) (t1 : Int32) (g : GM) : Prop :=
  (vp_in t1 480 ∧ (vp_in (((60 : Int32) * x1) + x2) 480 ∧ post ((upd (m_item g) t1.toNatClampNeg t0) (((60 : Int32) * x1) + x2).toNatClampNeg) (sm_item g (upd (m_item g) t1.toNatClampNeg t0))))
def vM_set (g : GM) (a1 : Int32) (a2 : Int32) (a3 : Int32) (post : Int32 → GM → Prop) : Prop :=
  (vM_isSheet (sm_thrown g (0 : Int32)) a1 (fun r6 g6 => ((¬ r6 = (0 : Int32) → (vp_in a1 8 ∧ (((0 : Int32) ≤ ((m_lane g6) a1.toNatClampNeg) → (vp_in a1 8 ∧ (vM_in (sm_status g6 (0 : Int32)) (a2.toInt64) (0 : Int64) ((((m_many g6) a1.toNatClampNeg) - (1 : Int32)).toInt64) (fun r47 g47 => ((¬ r47 = (0 : Int32) → (vp_in a1 8 ∧ ((¬ ((m_lane g47) a1.toNatClampNeg) = (0 : Int32) → (vp_in a1 8 ∧ ((¬ ((m_lane g47) a1.toNatClampNeg) = (1 : Int32) → (vM_set_99 post a1 a2 a3 (((60 : Int32) * a1) + a2) g47)) ∧ (((m_lane g47) a1.toNatClampNeg) = (1 : Int32) → (vM_set_99 post a1 a2 (a3.toInt16.toInt32) (((60 : Int32) * a1) + a2) g47))))) ∧ (((m_lane g47) a1.toNatClampNeg) = (0 : Int32) → (vM_set_99 post a1 a2 (a3.toInt8.toInt32) (((60 : Int32) * a1) + a2) g47))))) ∧ (r47 = (0 : Int32) → (vM_found g47 (2 : Int32) (fun r55 g55 => post r55 g55)))))))) ∧ (¬ (0 : Int32) ≤ ((m_lane g6) a1.toNatClampNeg) → (vM_found (sm_status g6 (0 : Int32)) (1 : Int32) (fun r31 g31 => post r31 g31)))))) ∧ (r6 = (0 : Int32) → post (-1000001 : Int32) g6))))
set_option maxHeartbeats 4000000 in
set_option maxRecDepth 100000 in
theorem lM_set_99 {Γ : jG} {l : Launch} {D : va_G} {ad : Nat → Nat} {cy : Nat → ClassId} {post : Int32 → GM → Prop} (hC : jC Γ l rM_set D 4 RX12 cX12_set wsX12_set (tyM cy)) (hQ : jQi Γ D (wM ad cy) post (some .int) 0 0) : ∀ (x1 : Int32) (x2 : Int32) (t0 : Int32) (t1 : Int32) (g : GM), vM_set_99 post x1 x2 t0 t1 g → J Γ D 4 0 0 (wM ad cy g) 99 [(0, .ref (ad 0)), (1, .int x1), (2, .int x2)] [.int t0, .int t1, .ref (ad 5)] := by
  have hinX12 : ∀ w ∈ wsX120, w ∈ wsX12_set := fun w h => List.mem_cons_of_mem _ (List.mem_append_right _ h)
  intro x1 x2 t0 t1 g hv
  unfold vM_set_99 at hv
  refine j_iast hC 5 0 (wM_c5 ad cy _) rfl hv.1 (wM_s_item ad cy _ _) dX12_set_99 ?_
  have hv := hv.2
  refine j_aload_n (i := 0) hC dX12_set_100 rfl 0 rfl ?_
  refine j_get (C := RX12) (T := TX12) (N := 22) (v := .ref (ad 5)) hC hinX12 0 (wM_c0 ad cy _) rfl 6 (by decide) (mw 6 rfl) rfl rfl dX12_set_101 ?_
  refine j_bipush (v := 60) hC dX12_set_104 (by decide) ?_
  refine j_iload_n (i := 1) hC dX12_set_106 rfl 1 rfl ?_
  refine j_imul hC dX12_set_107 ?_
  refine j_iload_n (i := 2) hC dX12_set_108 rfl 2 rfl ?_
  refine j_iadd hC dX12_set_109 ?_
  refine j_iald (v := ((upd (m_item g) t1.toNatClampNeg t0) (((60 : Int32) * x1) + x2).toNatClampNeg)) hC 5 0 (wM_c5 ad cy _) rfl hv.1 rfl dX12_set_110 ?_
  have hv := hv.2
  exact j_iret hC hQ dX12_set_111 rfl hv
set_option maxHeartbeats 4000000 in
set_option maxRecDepth 100000 in
theorem cM_set {l : Launch} {D : va_G} {ad : Nat → Nat} {cy : Nat → ClassId} {g : GM} {a1 : Int32} {a2 : Int32} {a3 : Int32} {post : Int32 → GM → Prop} (hv : vM_set g a1 a2 a3 post) : jMi l yX12_set wsX12_set rM_set D (tyM cy) [.ref (ad 0), .int a1, .int a2, .int a3] (wM ad cy g) (wM ad cy) post 0 0 := by
  refine j_meti (cc := cX12_set) (nL := 4) (rt := (some .int)) (by decide) (Nat.le_of_ble_eq_true rfl) ?_
  intro Γ hC hQ _
  have hC : jC Γ l rM_set D 4 RX12 cX12_set wsX12_set (tyM cy) := hC
  have hinX12 : ∀ w ∈ wsX120, w ∈ wsX12_set := fun w h => List.mem_cons_of_mem _ (List.mem_append_right _ h)
  refine j_lv (lv' := [(0, .ref (ad 0)), (1, .int a1), (2, .int a2), (3, .int a3)]) [0, 1, 2, 3] rfl ?_
  unfold vM_set at hv
  refine j_aload_n (i := 0) hC dX12_set_0 rfl 0 rfl ?_
  refine j_iconst (v := 0) hC dX12_set_1 (by decide) ?_
  refine j_put (C := RX12) (T := TX12) (N := 22) (ty := .int) hC hinX12 tyX12 tyX12_ok nmX12 0 (wM_c0 ad cy _) rfl 0 (by decide) (mw 1 rfl) rfl rfl fdX12_0 rfl rfl (Nat.le_of_ble_eq_true rfl) (wM_p_thrown ad cy _ _) dX12_set_2 ?_
  refine j_iload_n (i := 1) hC dX12_set_5 rfl 1 rfl ?_
  refine j_callS_i (As := [.int a1]) (rest := []) hC (cM_isSheet hv) 1 gX12_set_X12_isSheet rfl rfl rfl ⟨Nat.le_of_ble_eq_true rfl, Nat.le_of_ble_eq_true rfl⟩ hdM_isSheet.2 rfl rfl (Nat.le_of_ble_eq_true rfl) ⟨Nat.zero_le _, Nat.zero_le _⟩ dX12_set_6 (fun r6 g6 hv => ?_)
  refine j_if_ne (tgt := 15) hC dX12_set_9 (by decide) (fun h_ => ?_) (fun h_ => ?_)
  · have hv := hv.1 h_
    refine j_aload_n (i := 0) hC dX12_set_15 rfl 0 rfl ?_
    refine j_iconst (v := 0) hC dX12_set_16 (by decide) ?_
    refine j_put (C := RX12) (T := TX12) (N := 22) (ty := .int) hC hinX12 tyX12 tyX12_ok nmX12 0 (wM_c0 ad cy _) rfl 1 (by decide) (mw 3 rfl) rfl rfl fdX12_1 rfl rfl (Nat.le_of_ble_eq_true rfl) (wM_p_status ad cy _ _) dX12_set_17 ?_
    refine j_aload_n (i := 0) hC dX12_set_20 rfl 0 rfl ?_
    refine j_get (C := RX12) (T := TX12) (N := 22) (v := .ref (ad 3)) hC hinX12 0 (wM_c0 ad cy _) rfl 4 (by decide) (mw 4 rfl) rfl rfl dX12_set_21 ?_
    refine j_iload_n (i := 1) hC dX12_set_24 rfl 1 rfl ?_
    refine j_iald (v := ((m_lane g6) a1.toNatClampNeg)) hC 3 0 (wM_c3 ad cy _) rfl hv.1 rfl dX12_set_25 ?_
    have hv := hv.2
    refine j_if_ge (tgt := 35) hC dX12_set_26 (by decide) (fun h_ => ?_) (fun h_ => ?_)
    · have hv := hv.1 h_
      refine j_iload_n (i := 2) hC dX12_set_35 rfl 2 rfl ?_
      refine j_i2l hC dX12_set_36 ?_
      refine j_lconst (v := 0) hC dX12_set_37 (by decide) ?_
      refine j_aload_n (i := 0) hC dX12_set_38 rfl 0 rfl ?_
      refine j_get (C := RX12) (T := TX12) (N := 22) (v := .ref (ad 4)) hC hinX12 0 (wM_c0 ad cy _) rfl 5 (by decide) (mw 5 rfl) rfl rfl dX12_set_39 ?_
      refine j_iload_n (i := 1) hC dX12_set_42 rfl 1 rfl ?_
      refine j_iald (v := ((m_many g6) a1.toNatClampNeg)) hC 4 0 (wM_c4 ad cy _) rfl hv.1 rfl dX12_set_43 ?_
      have hv := hv.2
      refine j_iconst (v := 1) hC dX12_set_44 (by decide) ?_
      refine j_isub hC dX12_set_45 ?_
      refine j_i2l hC dX12_set_46 ?_
      refine j_callS_i (As := [.long (a2.toInt64), .long (0 : Int64), .long ((((m_many g6) a1.toNatClampNeg) - (1 : Int32)).toInt64)]) (rest := []) hC (cM_in hv) 3 gX12_set_X12_in rfl rfl rfl ⟨Nat.le_of_ble_eq_true rfl, Nat.le_of_ble_eq_true rfl⟩ hdM_in.2 rfl rfl (Nat.le_of_ble_eq_true rfl) ⟨Nat.zero_le _, Nat.zero_le _⟩ dX12_set_47 (fun r47 g47 hv => ?_)
      refine j_if_ne (tgt := 59) hC dX12_set_50 (by decide) (fun h_ => ?_) (fun h_ => ?_)
      · have hv := hv.1 h_
        refine j_aload_n (i := 0) hC dX12_set_59 rfl 0 rfl ?_
        refine j_get (C := RX12) (T := TX12) (N := 22) (v := .ref (ad 5)) hC hinX12 0 (wM_c0 ad cy _) rfl 6 (by decide) (mw 6 rfl) rfl rfl dX12_set_60 ?_
        refine j_bipush (v := 60) hC dX12_set_63 (by decide) ?_
        refine j_iload_n (i := 1) hC dX12_set_65 rfl 1 rfl ?_
        refine j_imul hC dX12_set_66 ?_
        refine j_iload_n (i := 2) hC dX12_set_67 rfl 2 rfl ?_
        refine j_iadd hC dX12_set_68 ?_
        refine j_aload_n (i := 0) hC dX12_set_69 rfl 0 rfl ?_
        refine j_get (C := RX12) (T := TX12) (N := 22) (v := .ref (ad 3)) hC hinX12 0 (wM_c0 ad cy _) rfl 4 (by decide) (mw 4 rfl) rfl rfl dX12_set_70 ?_
        refine j_iload_n (i := 1) hC dX12_set_73 rfl 1 rfl ?_
        refine j_iald (v := ((m_lane g47) a1.toNatClampNeg)) hC 3 0 (wM_c3 ad cy _) rfl hv.1 rfl dX12_set_74 ?_
        have hv := hv.2
        refine j_if_ne (tgt := 83) hC dX12_set_75 (by decide) (fun h_ => ?_) (fun h_ => ?_)
        · have hv := hv.1 h_
          refine j_aload_n (i := 0) hC dX12_set_83 rfl 0 rfl ?_
          refine j_get (C := RX12) (T := TX12) (N := 22) (v := .ref (ad 3)) hC hinX12 0 (wM_c0 ad cy _) rfl 4 (by decide) (mw 4 rfl) rfl rfl dX12_set_84 ?_
          refine j_iload_n (i := 1) hC dX12_set_87 rfl 1 rfl ?_
          refine j_iald (v := ((m_lane g47) a1.toNatClampNeg)) hC 3 0 (wM_c3 ad cy _) rfl hv.1 rfl dX12_set_88 ?_
          have hv := hv.2
          refine j_iconst (v := 1) hC dX12_set_89 (by decide) ?_
          refine j_icmp_ne (tgt := 98) hC dX12_set_90 (by decide) (fun h_ => ?_) (fun h_ => ?_)
          · have hv := hv.1 h_
            refine j_iload_n (i := 3) hC dX12_set_98 rfl 3 rfl ?_
            exact j_lv [0, 1, 2] rfl (lM_set_99 hC hQ _ _ _ _ _ hv)
          · have hv := hv.2 h_
            refine j_iload_n (i := 3) hC dX12_set_93 rfl 3 rfl ?_
            refine j_i2s hC dX12_set_94 ?_
            refine j_goto (tgt := 99) hC dX12_set_95 (by decide) ?_
            exact j_lv [0, 1, 2] rfl (lM_set_99 hC hQ _ _ _ _ _ hv)
        · have hv := hv.2 h_
          refine j_iload_n (i := 3) hC dX12_set_78 rfl 3 rfl ?_
          refine j_i2b hC dX12_set_79 ?_
          refine j_goto (tgt := 99) hC dX12_set_80 (by decide) ?_
          exact j_lv [0, 1, 2] rfl (lM_set_99 hC hQ _ _ _ _ _ hv)
      · have hv := hv.2 h_
        refine j_aload_n (i := 0) hC dX12_set_53 rfl 0 rfl ?_
        refine j_iconst (v := 2) hC dX12_set_54 (by decide) ?_
        refine j_callV_i (C := RX12) (As := [.int (2 : Int32)]) (rest := []) (b := (ad 0)) hC (cM_found hv) 1 gX12_set_X12_found rfl rfl rfl ⟨Nat.le_of_ble_eq_true rfl, Nat.le_of_ble_eq_true rfl⟩ hdM_found rfl (wM_c0 ad cy _) rfl rfl (Nat.le_of_ble_eq_true rfl) ⟨Nat.zero_le _, Nat.zero_le _⟩ dX12_set_55 (fun r55 g55 hv => ?_)
        exact j_iret hC hQ dX12_set_58 rfl hv
    · have hv := hv.2 h_
      refine j_aload_n (i := 0) hC dX12_set_29 rfl 0 rfl ?_
      refine j_iconst (v := 1) hC dX12_set_30 (by decide) ?_
      refine j_callV_i (C := RX12) (As := [.int (1 : Int32)]) (rest := []) (b := (ad 0)) hC (cM_found hv) 1 gX12_set_X12_found rfl rfl rfl ⟨Nat.le_of_ble_eq_true rfl, Nat.le_of_ble_eq_true rfl⟩ hdM_found rfl (wM_c0 ad cy _) rfl rfl (Nat.le_of_ble_eq_true rfl) ⟨Nat.zero_le _, Nat.zero_le _⟩ dX12_set_31 (fun r31 g31 hv => ?_)
      exact j_iret hC hQ dX12_set_34 rfl hv
  · have hv := hv.2 h_
    refine j_ldc (v := -1000001) hC dX12_set_12 (mw 2 rfl) ?_
    exact j_iret hC hQ dX12_set_14 rfl hv
theorem hdM_copy : yX12_copy.cls = RX12 ∧ yX12_copy.cls ≠ "java/lang/invoke/MethodHandle" ∧ yX12_copy.cls ≠ "java/lang/invoke/VarHandle" ∧ (parseMethodDescriptor yX12_copy.desc).map (fun d => d.parameters.length) = some 5 := by decide +kernel
abbrev rM_copy : Room := { frames := 2, cells := 0, slots := 0, locals := 45 }
def vM_copy_45 (post : Int32 → GM → Prop) (g : GM) : Prop :=
  (vM_found g (1 : Int32) (fun r47 g47 => post r47 g47))
def vM_copy_121 (post : Int32 → GM → Prop) (g : GM) : Prop :=
  (vM_found g (2 : Int32) (fun r123 g123 => post r123 g123))
def vM_copy_167 (post : Int32 → GM → Prop) (K143 : Int32 → Int32 → Int32 → Int32 → Int32 → Int32 → Int32 → GM → Prop) (x1 : Int32) (x2 : Int32) (x3 : Int32) (x4 : Int32) (x5 : Int32) (x6 : Int32) (x7 : Int32) (t0 : Int32) (g : GM) : Prop :=
  (vp_in ((((60 : Int32) * x1) + x2) + t0) 480 ∧ (vp_in ((((60 : Int32) * x3) + x4) + t0) 480 ∧ (K143 x1 x2 x3 x4 x5 x6 (x7 + (1 : Int32)) (sm_item g (upd (m_item g) ((((60 : Int32) * x3) + x4) + t0).toNatClampNeg ((m_item g) ((((60 : Int32) * x1) + x2) + t0).toNatClampNeg))))))
def vM_copy_143 (post : Int32 → GM → Prop) : Nat → Int32 → Int32 → Int32 → Int32 → Int32 → Int32 → Int32 → GM → Prop
  | 0, _, _, _, _, _, _, _, _ => False
  | k_ + 1, x1, x2, x3, x4, x5, x6, x7, g =>
  ((x5 ≤ x7 → post x5 g) ∧ (¬ x5 ≤ x7 → ((x6 = (0 : Int32) → (vM_copy_167 post (fun x1 x2 x3 x4 x5 x6 x7 g => vM_copy_143 post k_ x1 x2 x3 x4 x5 x6 x7 g) x1 x2 x3 x4 x5 x6 x7 ((x5 - (1 : Int32)) - x7) g)) ∧ (¬ x6 = (0 : Int32) → (vM_copy_167 post (fun x1 x2 x3 x4 x5 x6 x7 g => vM_copy_143 post k_ x1 x2 x3 x4 x5 x6 x7 g) x1 x2 x3 x4 x5 x6 x7 x7 g)))))
def vM_copy_138 (post : Int32 → GM → Prop) (x1 : Int32) (x2 : Int32) (x3 : Int32) (x4 : Int32) (x5 : Int32) (t0 : Int32) (g : GM) : Prop :=
  (∃ n_ : Nat, vM_copy_143 post n_ x1 x2 x3 x4 x5 t0 (0 : Int32) g)
def vM_copy (g : GM) (a1 : Int32) (a2 : Int32) (a3 : Int32) (a4 : Int32) (a5 : Int32) (post : Int32 → GM → Prop) : Prop :=
  (vM_isSheet (sm_thrown g (0 : Int32)) a1 (fun r6 g6 => ((r6 = (0 : Int32) → post (-1000001 : Int32) g6) ∧ (¬ r6 = (0 : Int32) → (vM_isSheet g6 a3 (fun r13 g13 => ((¬ r13 = (0 : Int32) → (vp_in a1 8 ∧ ((((m_lane g13) a1.toNatClampNeg) < (0 : Int32) → (vM_copy_45 post (sm_status g13 (0 : Int32)))) ∧ (¬ ((m_lane g13) a1.toNatClampNeg) < (0 : Int32) → (vp_in a3 8 ∧ (((0 : Int32) ≤ ((m_lane g13) a3.toNatClampNeg) → (vp_in a1 8 ∧ (vp_in a3 8 ∧ ((((m_lane g13) a1.toNatClampNeg) = ((m_lane g13) a3.toNatClampNeg) → ((a2 < (0 : Int32) → (vM_copy_121 post (sm_status g13 (0 : Int32)))) ∧ (¬ a2 < (0 : Int32) → ((a4 < (0 : Int32) → (vM_copy_121 post (sm_status g13 (0 : Int32)))) ∧ (¬ a4 < (0 : Int32) → ((a5 < (0 : Int32) → (vM_copy_121 post (sm_status g13 (0 : Int32)))) ∧ (¬ a5 < (0 : Int32) → (vp_in a1 8 ∧ (((((m_many g13) a1.toNatClampNeg).toInt64) < ((a2.toInt64) + (a5.toInt64)) → (vM_copy_121 post (sm_status g13 (0 : Int32)))) ∧ (¬ (((m_many g13) a1.toNatClampNeg).toInt64) < ((a2.toInt64) + (a5.toInt64)) → (vp_in a3 8 ∧ ((((a4.toInt64) + (a5.toInt64)) ≤ (((m_many g13) a3.toNatClampNeg).toInt64) → ((a2 < a4 → (vM_copy_138 post a1 a2 a3 a4 a5 (0 : Int32) (sm_status g13 (0 : Int32)))) ∧ (¬ a2 < a4 → (vM_copy_138 post a1 a2 a3 a4 a5 (1 : Int32) (sm_status g13 (0 : Int32)))))) ∧ (¬ ((a4.toInt64) + (a5.toInt64)) ≤ (((m_many g13) a3.toNatClampNeg).toInt64) → (vM_copy_121 post (sm_status g13 (0 : Int32)))))))))))))))) ∧ (¬ ((m_lane g13) a1.toNatClampNeg) = ((m_lane g13) a3.toNatClampNeg) → (vM_found (sm_status g13 (0 : Int32)) (5 : Int32) (fun r68 g68 => post r68 g68))))))) ∧ (¬ (0 : Int32) ≤ ((m_lane g13) a3.toNatClampNeg) → (vM_copy_45 post (sm_status g13 (0 : Int32)))))))))) ∧ (r13 = (0 : Int32) → post (-1000001 : Int32) g13))))))))
set_option maxHeartbeats 4000000 in
set_option maxRecDepth 100000 in
theorem lM_copy_45 {Γ : jG} {l : Launch} {D : va_G} {ad : Nat → Nat} {cy : Nat → ClassId} {post : Int32 → GM → Prop} (hC : jC Γ l rM_copy D 9 RX12 cX12_copy wsX12_copy (tyM cy)) (hQ : jQi Γ D (wM ad cy) post (some .int) 0 0) : ∀ (g : GM), vM_copy_45 post g → J Γ D 9 0 0 (wM ad cy g) 45 [(0, .ref (ad 0))] [] := by
  have hinX12 : ∀ w ∈ wsX120, w ∈ wsX12_copy := fun w h => List.mem_cons_of_mem _ (List.mem_append_right _ h)
  intro g hv
  unfold vM_copy_45 at hv
  refine j_aload_n (i := 0) hC dX12_copy_45 rfl 0 rfl ?_
  refine j_iconst (v := 1) hC dX12_copy_46 (by decide) ?_
  refine j_callV_i (C := RX12) (As := [.int (1 : Int32)]) (rest := []) (b := (ad 0)) hC (cM_found hv) 1 gX12_copy_X12_found rfl rfl rfl ⟨Nat.le_of_ble_eq_true rfl, Nat.le_of_ble_eq_true rfl⟩ hdM_found rfl (wM_c0 ad cy _) rfl rfl (Nat.le_of_ble_eq_true rfl) ⟨Nat.zero_le _, Nat.zero_le _⟩ dX12_copy_47 (fun r47 g47 hv => ?_)
  exact j_iret hC hQ dX12_copy_50 rfl hv
set_option maxHeartbeats 4000000 in
set_option maxRecDepth 100000 in
theorem lM_copy_121 {Γ : jG} {l : Launch} {D : va_G} {ad : Nat → Nat} {cy : Nat → ClassId} {post : Int32 → GM → Prop} (hC : jC Γ l rM_copy D 9 RX12 cX12_copy wsX12_copy (tyM cy)) (hQ : jQi Γ D (wM ad cy) post (some .int) 0 0) : ∀ (g : GM), vM_copy_121 post g → J Γ D 9 0 0 (wM ad cy g) 121 [(0, .ref (ad 0))] [] := by
  have hinX12 : ∀ w ∈ wsX120, w ∈ wsX12_copy := fun w h => List.mem_cons_of_mem _ (List.mem_append_right _ h)
  intro g hv
  unfold vM_copy_121 at hv
  refine j_aload_n (i := 0) hC dX12_copy_121 rfl 0 rfl ?_
  refine j_iconst (v := 2) hC dX12_copy_122 (by decide) ?_
  refine j_callV_i (C := RX12) (As := [.int (2 : Int32)]) (rest := []) (b := (ad 0)) hC (cM_found hv) 1 gX12_copy_X12_found rfl rfl rfl ⟨Nat.le_of_ble_eq_true rfl, Nat.le_of_ble_eq_true rfl⟩ hdM_found rfl (wM_c0 ad cy _) rfl rfl (Nat.le_of_ble_eq_true rfl) ⟨Nat.zero_le _, Nat.zero_le _⟩ dX12_copy_123 (fun r123 g123 hv => ?_)
  exact j_iret hC hQ dX12_copy_126 rfl hv
set_option maxHeartbeats 4000000 in
set_option maxRecDepth 100000 in
theorem lM_copy_167 {Γ : jG} {l : Launch} {D : va_G} {ad : Nat → Nat} {cy : Nat → ClassId} {post : Int32 → GM → Prop} (hC : jC Γ l rM_copy D 9 RX12 cX12_copy wsX12_copy (tyM cy)) (hQ : jQi Γ D (wM ad cy) post (some .int) 0 0) {K143 : Int32 → Int32 → Int32 → Int32 → Int32 → Int32 → Int32 → GM → Prop} (hK143 : ∀ (x1 : Int32) (x2 : Int32) (x3 : Int32) (x4 : Int32) (x5 : Int32) (x6 : Int32) (x7 : Int32) (g : GM), K143 x1 x2 x3 x4 x5 x6 x7 g → J Γ D 9 0 0 (wM ad cy g) 143 [(0, .ref (ad 0)), (1, .int x1), (2, .int x2), (3, .int x3), (4, .int x4), (5, .int x5), (6, .int x6), (7, .int x7)] []) : ∀ (x1 : Int32) (x2 : Int32) (x3 : Int32) (x4 : Int32) (x5 : Int32) (x6 : Int32) (x7 : Int32) (t0 : Int32) (g : GM), vM_copy_167 post K143 x1 x2 x3 x4 x5 x6 x7 t0 g → J Γ D 9 0 0 (wM ad cy g) 167 [(0, .ref (ad 0)), (1, .int x1), (2, .int x2), (3, .int x3), (4, .int x4), (5, .int x5), (6, .int x6), (7, .int x7)] [.int t0] := by
  have hinX12 : ∀ w ∈ wsX120, w ∈ wsX12_copy := fun w h => List.mem_cons_of_mem _ (List.mem_append_right _ h)
  intro x1 x2 x3 x4 x5 x6 x7 t0 g hv
  unfold vM_copy_167 at hv
  refine j_istore (lv' := [(8, .int t0), (0, .ref (ad 0)), (1, .int x1), (2, .int x2), (3, .int x3), (4, .int x4), (5, .int x5), (6, .int x6), (7, .int x7)]) hC dX12_copy_167 (by decide) rfl ?_
  refine j_aload_n (i := 0) hC dX12_copy_169 rfl 1 rfl ?_
  refine j_get (C := RX12) (T := TX12) (N := 22) (v := .ref (ad 5)) hC hinX12 0 (wM_c0 ad cy _) rfl 6 (by decide) (mw 6 rfl) rfl rfl dX12_copy_170 ?_
  refine j_bipush (v := 60) hC dX12_copy_173 (by decide) ?_
  refine j_iload_n (i := 3) hC dX12_copy_175 rfl 4 rfl ?_
  refine j_imul hC dX12_copy_176 ?_
  refine j_iload hC dX12_copy_177 5 rfl ?_
  refine j_iadd hC dX12_copy_179 ?_
  refine j_iload hC dX12_copy_180 0 rfl ?_
  refine j_iadd hC dX12_copy_182 ?_
  refine j_aload_n (i := 0) hC dX12_copy_183 rfl 1 rfl ?_
  refine j_get (C := RX12) (T := TX12) (N := 22) (v := .ref (ad 5)) hC hinX12 0 (wM_c0 ad cy _) rfl 6 (by decide) (mw 6 rfl) rfl rfl dX12_copy_184 ?_
  refine j_bipush (v := 60) hC dX12_copy_187 (by decide) ?_
  refine j_iload_n (i := 1) hC dX12_copy_189 rfl 2 rfl ?_
  refine j_imul hC dX12_copy_190 ?_
  refine j_iload_n (i := 2) hC dX12_copy_191 rfl 3 rfl ?_
  refine j_iadd hC dX12_copy_192 ?_
  refine j_iload hC dX12_copy_193 0 rfl ?_
  refine j_iadd hC dX12_copy_195 ?_
  refine j_iald (v := ((m_item g) ((((60 : Int32) * x1) + x2) + t0).toNatClampNeg)) hC 5 0 (wM_c5 ad cy _) rfl hv.1 rfl dX12_copy_196 ?_
  have hv := hv.2
  refine j_iast hC 5 0 (wM_c5 ad cy _) rfl hv.1 (wM_s_item ad cy _ _) dX12_copy_197 ?_
  have hv := hv.2
  refine j_iinc (k := 8) (v := (x7 + (1 : Int32))) (lv' := [(7, .int (x7 + (1 : Int32))), (8, .int t0), (0, .ref (ad 0)), (1, .int x1), (2, .int x2), (3, .int x3), (4, .int x4), (5, .int x5), (6, .int x6)]) hC dX12_copy_198 rfl rfl (by decide) rfl ?_
  refine j_goto (tgt := 143) hC dX12_copy_201 (by decide) ?_
  exact j_lv [2, 3, 4, 5, 6, 7, 8, 0] rfl (hK143 _ _ _ _ _ _ _ _ hv)
set_option maxHeartbeats 4000000 in
set_option maxRecDepth 100000 in
theorem lM_copy_143 {Γ : jG} {l : Launch} {D : va_G} {ad : Nat → Nat} {cy : Nat → ClassId} {post : Int32 → GM → Prop} (hC : jC Γ l rM_copy D 9 RX12 cX12_copy wsX12_copy (tyM cy)) (hQ : jQi Γ D (wM ad cy) post (some .int) 0 0) : ∀ (n_ : Nat) (x1 : Int32) (x2 : Int32) (x3 : Int32) (x4 : Int32) (x5 : Int32) (x6 : Int32) (x7 : Int32) (g : GM), vM_copy_143 post n_ x1 x2 x3 x4 x5 x6 x7 g → J Γ D 9 0 0 (wM ad cy g) 143 [(0, .ref (ad 0)), (1, .int x1), (2, .int x2), (3, .int x3), (4, .int x4), (5, .int x5), (6, .int x6), (7, .int x7)] [] := by
  have hinX12 : ∀ w ∈ wsX120, w ∈ wsX12_copy := fun w h => List.mem_cons_of_mem _ (List.mem_append_right _ h)
  intro n_
  induction n_ with
  | zero => intro x1 x2 x3 x4 x5 x6 x7 g hv; exact False.elim hv
  | succ k_ ih =>
    intro x1 x2 x3 x4 x5 x6 x7 g hv
    unfold vM_copy_143 at hv
    refine j_iload hC dX12_copy_143 7 rfl ?_
    refine j_iload hC dX12_copy_145 5 rfl ?_
    refine j_icmp_ge (tgt := 204) hC dX12_copy_147 (by decide) (fun h_ => ?_) (fun h_ => ?_)
    · have hv := hv.1 h_
      refine j_iload hC dX12_copy_204 5 rfl ?_
      exact j_iret hC hQ dX12_copy_206 rfl hv
    · have hv := hv.2 h_
      refine j_iload hC dX12_copy_150 6 rfl ?_
      refine j_if_eq (tgt := 160) hC dX12_copy_152 (by decide) (fun h_ => ?_) (fun h_ => ?_)
      · have hv := hv.1 h_
        refine j_iload hC dX12_copy_160 5 rfl ?_
        refine j_iconst (v := 1) hC dX12_copy_162 (by decide) ?_
        refine j_isub hC dX12_copy_163 ?_
        refine j_iload hC dX12_copy_164 7 rfl ?_
        refine j_isub hC dX12_copy_166 ?_
        exact j_lv [0, 1, 2, 3, 4, 5, 6, 7] rfl (lM_copy_167 hC hQ (K143 := fun x1 x2 x3 x4 x5 x6 x7 g => vM_copy_143 post k_ x1 x2 x3 x4 x5 x6 x7 g) (fun _ _ _ _ _ _ _ _ h_ => ih _ _ _ _ _ _ _ _ h_) _ _ _ _ _ _ _ _ _ hv)
      · have hv := hv.2 h_
        refine j_iload hC dX12_copy_155 7 rfl ?_
        refine j_goto (tgt := 167) hC dX12_copy_157 (by decide) ?_
        exact j_lv [0, 1, 2, 3, 4, 5, 6, 7] rfl (lM_copy_167 hC hQ (K143 := fun x1 x2 x3 x4 x5 x6 x7 g => vM_copy_143 post k_ x1 x2 x3 x4 x5 x6 x7 g) (fun _ _ _ _ _ _ _ _ h_ => ih _ _ _ _ _ _ _ _ h_) _ _ _ _ _ _ _ _ _ hv)
set_option maxHeartbeats 4000000 in
set_option maxRecDepth 100000 in
theorem lM_copy_138 {Γ : jG} {l : Launch} {D : va_G} {ad : Nat → Nat} {cy : Nat → ClassId} {post : Int32 → GM → Prop} (hC : jC Γ l rM_copy D 9 RX12 cX12_copy wsX12_copy (tyM cy)) (hQ : jQi Γ D (wM ad cy) post (some .int) 0 0) : ∀ (x1 : Int32) (x2 : Int32) (x3 : Int32) (x4 : Int32) (x5 : Int32) (t0 : Int32) (g : GM), vM_copy_138 post x1 x2 x3 x4 x5 t0 g → J Γ D 9 0 0 (wM ad cy g) 138 [(0, .ref (ad 0)), (1, .int x1), (2, .int x2), (3, .int x3), (4, .int x4), (5, .int x5)] [.int t0] := by
  have hinX12 : ∀ w ∈ wsX120, w ∈ wsX12_copy := fun w h => List.mem_cons_of_mem _ (List.mem_append_right _ h)
  intro x1 x2 x3 x4 x5 t0 g hv
  unfold vM_copy_138 at hv
  refine j_istore (lv' := [(6, .int t0), (0, .ref (ad 0)), (1, .int x1), (2, .int x2), (3, .int x3), (4, .int x4), (5, .int x5)]) hC dX12_copy_138 (by decide) rfl ?_
  refine j_iconst (v := 0) hC dX12_copy_140 (by decide) ?_
  refine j_istore (lv' := [(7, .int (0 : Int32)), (6, .int t0), (0, .ref (ad 0)), (1, .int x1), (2, .int x2), (3, .int x3), (4, .int x4), (5, .int x5)]) hC dX12_copy_141 (by decide) rfl ?_
  obtain ⟨n_, hv⟩ := hv
  exact j_lv [2, 3, 4, 5, 6, 7, 1, 0] rfl (lM_copy_143 hC hQ n_ _ _ _ _ _ _ _ _ hv)
set_option maxHeartbeats 4000000 in
set_option maxRecDepth 100000 in
theorem cM_copy {l : Launch} {D : va_G} {ad : Nat → Nat} {cy : Nat → ClassId} {g : GM} {a1 : Int32} {a2 : Int32} {a3 : Int32} {a4 : Int32} {a5 : Int32} {post : Int32 → GM → Prop} (hv : vM_copy g a1 a2 a3 a4 a5 post) : jMi l yX12_copy wsX12_copy rM_copy D (tyM cy) [.ref (ad 0), .int a1, .int a2, .int a3, .int a4, .int a5] (wM ad cy g) (wM ad cy) post 0 0 := by
  refine j_meti (cc := cX12_copy) (nL := 9) (rt := (some .int)) (by decide) (Nat.le_of_ble_eq_true rfl) ?_
  intro Γ hC hQ _
  have hC : jC Γ l rM_copy D 9 RX12 cX12_copy wsX12_copy (tyM cy) := hC
  have hinX12 : ∀ w ∈ wsX120, w ∈ wsX12_copy := fun w h => List.mem_cons_of_mem _ (List.mem_append_right _ h)
  refine j_lv (lv' := [(0, .ref (ad 0)), (1, .int a1), (2, .int a2), (3, .int a3), (4, .int a4), (5, .int a5)]) [0, 1, 2, 3, 4, 5] rfl ?_
  unfold vM_copy at hv
  refine j_aload_n (i := 0) hC dX12_copy_0 rfl 0 rfl ?_
  refine j_iconst (v := 0) hC dX12_copy_1 (by decide) ?_
  refine j_put (C := RX12) (T := TX12) (N := 22) (ty := .int) hC hinX12 tyX12 tyX12_ok nmX12 0 (wM_c0 ad cy _) rfl 0 (by decide) (mw 1 rfl) rfl rfl fdX12_0 rfl rfl (Nat.le_of_ble_eq_true rfl) (wM_p_thrown ad cy _ _) dX12_copy_2 ?_
  refine j_iload_n (i := 1) hC dX12_copy_5 rfl 1 rfl ?_
  refine j_callS_i (As := [.int a1]) (rest := []) hC (cM_isSheet hv) 1 gX12_copy_X12_isSheet rfl rfl rfl ⟨Nat.le_of_ble_eq_true rfl, Nat.le_of_ble_eq_true rfl⟩ hdM_isSheet.2 rfl rfl (Nat.le_of_ble_eq_true rfl) ⟨Nat.zero_le _, Nat.zero_le _⟩ dX12_copy_6 (fun r6 g6 hv => ?_)
  refine j_if_eq (tgt := 19) hC dX12_copy_9 (by decide) (fun h_ => ?_) (fun h_ => ?_)
  · have hv := hv.1 h_
    refine j_ldc (v := -1000001) hC dX12_copy_19 (mw 2 rfl) ?_
    exact j_iret hC hQ dX12_copy_21 rfl hv
  · have hv := hv.2 h_
    refine j_iload_n (i := 3) hC dX12_copy_12 rfl 3 rfl ?_
    refine j_callS_i (As := [.int a3]) (rest := []) hC (cM_isSheet hv) 1 gX12_copy_X12_isSheet rfl rfl rfl ⟨Nat.le_of_ble_eq_true rfl, Nat.le_of_ble_eq_true rfl⟩ hdM_isSheet.2 rfl rfl (Nat.le_of_ble_eq_true rfl) ⟨Nat.zero_le _, Nat.zero_le _⟩ dX12_copy_13 (fun r13 g13 hv => ?_)
    refine j_if_ne (tgt := 22) hC dX12_copy_16 (by decide) (fun h_ => ?_) (fun h_ => ?_)
    · have hv := hv.1 h_
      refine j_aload_n (i := 0) hC dX12_copy_22 rfl 0 rfl ?_
      refine j_iconst (v := 0) hC dX12_copy_23 (by decide) ?_
      refine j_put (C := RX12) (T := TX12) (N := 22) (ty := .int) hC hinX12 tyX12 tyX12_ok nmX12 0 (wM_c0 ad cy _) rfl 1 (by decide) (mw 3 rfl) rfl rfl fdX12_1 rfl rfl (Nat.le_of_ble_eq_true rfl) (wM_p_status ad cy _ _) dX12_copy_24 ?_
      refine j_aload_n (i := 0) hC dX12_copy_27 rfl 0 rfl ?_
      refine j_get (C := RX12) (T := TX12) (N := 22) (v := .ref (ad 3)) hC hinX12 0 (wM_c0 ad cy _) rfl 4 (by decide) (mw 4 rfl) rfl rfl dX12_copy_28 ?_
      refine j_iload_n (i := 1) hC dX12_copy_31 rfl 1 rfl ?_
      refine j_iald (v := ((m_lane g13) a1.toNatClampNeg)) hC 3 0 (wM_c3 ad cy _) rfl hv.1 rfl dX12_copy_32 ?_
      have hv := hv.2
      refine j_if_lt (tgt := 45) hC dX12_copy_33 (by decide) (fun h_ => ?_) (fun h_ => ?_)
      · have hv := hv.1 h_
        exact j_lv [0] rfl (lM_copy_45 hC hQ _ hv)
      · have hv := hv.2 h_
        refine j_aload_n (i := 0) hC dX12_copy_36 rfl 0 rfl ?_
        refine j_get (C := RX12) (T := TX12) (N := 22) (v := .ref (ad 3)) hC hinX12 0 (wM_c0 ad cy _) rfl 4 (by decide) (mw 4 rfl) rfl rfl dX12_copy_37 ?_
        refine j_iload_n (i := 3) hC dX12_copy_40 rfl 3 rfl ?_
        refine j_iald (v := ((m_lane g13) a3.toNatClampNeg)) hC 3 0 (wM_c3 ad cy _) rfl hv.1 rfl dX12_copy_41 ?_
        have hv := hv.2
        refine j_if_ge (tgt := 51) hC dX12_copy_42 (by decide) (fun h_ => ?_) (fun h_ => ?_)
        · have hv := hv.1 h_
          refine j_aload_n (i := 0) hC dX12_copy_51 rfl 0 rfl ?_
          refine j_get (C := RX12) (T := TX12) (N := 22) (v := .ref (ad 3)) hC hinX12 0 (wM_c0 ad cy _) rfl 4 (by decide) (mw 4 rfl) rfl rfl dX12_copy_52 ?_
          refine j_iload_n (i := 1) hC dX12_copy_55 rfl 1 rfl ?_
          refine j_iald (v := ((m_lane g13) a1.toNatClampNeg)) hC 3 0 (wM_c3 ad cy _) rfl hv.1 rfl dX12_copy_56 ?_
          have hv := hv.2
          refine j_aload_n (i := 0) hC dX12_copy_57 rfl 0 rfl ?_
          refine j_get (C := RX12) (T := TX12) (N := 22) (v := .ref (ad 3)) hC hinX12 0 (wM_c0 ad cy _) rfl 4 (by decide) (mw 4 rfl) rfl rfl dX12_copy_58 ?_
          refine j_iload_n (i := 3) hC dX12_copy_61 rfl 3 rfl ?_
          refine j_iald (v := ((m_lane g13) a3.toNatClampNeg)) hC 3 0 (wM_c3 ad cy _) rfl hv.1 rfl dX12_copy_62 ?_
          have hv := hv.2
          refine j_icmp_eq (tgt := 72) hC dX12_copy_63 (by decide) (fun h_ => ?_) (fun h_ => ?_)
          · have hv := hv.1 h_
            refine j_iload_n (i := 2) hC dX12_copy_72 rfl 2 rfl ?_
            refine j_if_lt (tgt := 121) hC dX12_copy_73 (by decide) (fun h_ => ?_) (fun h_ => ?_)
            · have hv := hv.1 h_
              exact j_lv [0] rfl (lM_copy_121 hC hQ _ hv)
            · have hv := hv.2 h_
              refine j_iload hC dX12_copy_76 4 rfl ?_
              refine j_if_lt (tgt := 121) hC dX12_copy_78 (by decide) (fun h_ => ?_) (fun h_ => ?_)
              · have hv := hv.1 h_
                exact j_lv [0] rfl (lM_copy_121 hC hQ _ hv)
              · have hv := hv.2 h_
                refine j_iload hC dX12_copy_81 5 rfl ?_
                refine j_if_lt (tgt := 121) hC dX12_copy_83 (by decide) (fun h_ => ?_) (fun h_ => ?_)
                · have hv := hv.1 h_
                  exact j_lv [0] rfl (lM_copy_121 hC hQ _ hv)
                · have hv := hv.2 h_
                  refine j_iload_n (i := 2) hC dX12_copy_86 rfl 2 rfl ?_
                  refine j_i2l hC dX12_copy_87 ?_
                  refine j_iload hC dX12_copy_88 5 rfl ?_
                  refine j_i2l hC dX12_copy_90 ?_
                  refine j_ladd hC dX12_copy_91 ?_
                  refine j_aload_n (i := 0) hC dX12_copy_92 rfl 0 rfl ?_
                  refine j_get (C := RX12) (T := TX12) (N := 22) (v := .ref (ad 4)) hC hinX12 0 (wM_c0 ad cy _) rfl 5 (by decide) (mw 5 rfl) rfl rfl dX12_copy_93 ?_
                  refine j_iload_n (i := 1) hC dX12_copy_96 rfl 1 rfl ?_
                  refine j_iald (v := ((m_many g13) a1.toNatClampNeg)) hC 4 0 (wM_c4 ad cy _) rfl hv.1 rfl dX12_copy_97 ?_
                  have hv := hv.2
                  refine j_i2l hC dX12_copy_98 ?_
                  refine j_lcmp_gt (tgt := 121) hC dX12_copy_99 dX12_copy_100 (by decide) (fun h_ => ?_) (fun h_ => ?_)
                  · have hv := hv.1 h_
                    exact j_lv [0] rfl (lM_copy_121 hC hQ _ hv)
                  · have hv := hv.2 h_
                    refine j_iload hC dX12_copy_103 4 rfl ?_
                    refine j_i2l hC dX12_copy_105 ?_
                    refine j_iload hC dX12_copy_106 5 rfl ?_
                    refine j_i2l hC dX12_copy_108 ?_
                    refine j_ladd hC dX12_copy_109 ?_
                    refine j_aload_n (i := 0) hC dX12_copy_110 rfl 0 rfl ?_
                    refine j_get (C := RX12) (T := TX12) (N := 22) (v := .ref (ad 4)) hC hinX12 0 (wM_c0 ad cy _) rfl 5 (by decide) (mw 5 rfl) rfl rfl dX12_copy_111 ?_
                    refine j_iload_n (i := 3) hC dX12_copy_114 rfl 3 rfl ?_
                    refine j_iald (v := ((m_many g13) a3.toNatClampNeg)) hC 4 0 (wM_c4 ad cy _) rfl hv.1 rfl dX12_copy_115 ?_
                    have hv := hv.2
                    refine j_i2l hC dX12_copy_116 ?_
                    refine j_lcmp_le (tgt := 127) hC dX12_copy_117 dX12_copy_118 (by decide) (fun h_ => ?_) (fun h_ => ?_)
                    · have hv := hv.1 h_
                      refine j_iload_n (i := 2) hC dX12_copy_127 rfl 2 rfl ?_
                      refine j_iload hC dX12_copy_128 4 rfl ?_
                      refine j_icmp_lt (tgt := 137) hC dX12_copy_130 (by decide) (fun h_ => ?_) (fun h_ => ?_)
                      · have hv := hv.1 h_
                        refine j_iconst (v := 0) hC dX12_copy_137 (by decide) ?_
                        exact j_lv [0, 1, 2, 3, 4, 5] rfl (lM_copy_138 hC hQ _ _ _ _ _ _ _ hv)
                      · have hv := hv.2 h_
                        refine j_iconst (v := 1) hC dX12_copy_133 (by decide) ?_
                        refine j_goto (tgt := 138) hC dX12_copy_134 (by decide) ?_
                        exact j_lv [0, 1, 2, 3, 4, 5] rfl (lM_copy_138 hC hQ _ _ _ _ _ _ _ hv)
                    · have hv := hv.2 h_
                      exact j_lv [0] rfl (lM_copy_121 hC hQ _ hv)
          · have hv := hv.2 h_
            refine j_aload_n (i := 0) hC dX12_copy_66 rfl 0 rfl ?_
            refine j_iconst (v := 5) hC dX12_copy_67 (by decide) ?_
            refine j_callV_i (C := RX12) (As := [.int (5 : Int32)]) (rest := []) (b := (ad 0)) hC (cM_found hv) 1 gX12_copy_X12_found rfl rfl rfl ⟨Nat.le_of_ble_eq_true rfl, Nat.le_of_ble_eq_true rfl⟩ hdM_found rfl (wM_c0 ad cy _) rfl rfl (Nat.le_of_ble_eq_true rfl) ⟨Nat.zero_le _, Nat.zero_le _⟩ dX12_copy_68 (fun r68 g68 hv => ?_)
            exact j_iret hC hQ dX12_copy_71 rfl hv
        · have hv := hv.2 h_
          exact j_lv [0] rfl (lM_copy_45 hC hQ _ hv)
    · have hv := hv.2 h_
      refine j_ldc (v := -1000001) hC dX12_copy_19 (mw 2 rfl) ?_
      exact j_iret hC hQ dX12_copy_21 rfl hv
theorem hdM_drop : yX12_drop.cls = RX12 ∧ yX12_drop.cls ≠ "java/lang/invoke/MethodHandle" ∧ yX12_drop.cls ≠ "java/lang/invoke/VarHandle" ∧ (parseMethodDescriptor yX12_drop.desc).map (fun d => d.parameters.length) = some 1 := by decide +kernel
abbrev rM_drop : Room := { frames := 2, cells := 0, slots := 0, locals := 45 }
def vM_drop (g : GM) (a1 : Int32) (post : Int32 → GM → Prop) : Prop :=
  (vM_isSheet (sm_thrown g (0 : Int32)) a1 (fun r6 g6 => ((¬ r6 = (0 : Int32) → (vp_in a1 8 ∧ (((0 : Int32) ≤ ((m_lane g6) a1.toNatClampNeg) → (vp_in a1 8 ∧ (vp_in a1 8 ∧ post ((m_many g6) a1.toNatClampNeg) (sm_lane (sm_status g6 (0 : Int32)) (upd (m_lane g6) a1.toNatClampNeg (-1 : Int32)))))) ∧ (¬ (0 : Int32) ≤ ((m_lane g6) a1.toNatClampNeg) → (vM_found (sm_status g6 (0 : Int32)) (1 : Int32) (fun r31 g31 => post r31 g31)))))) ∧ (r6 = (0 : Int32) → post (-1000001 : Int32) g6))))
set_option maxHeartbeats 4000000 in
set_option maxRecDepth 100000 in
theorem cM_drop {l : Launch} {D : va_G} {ad : Nat → Nat} {cy : Nat → ClassId} {g : GM} {a1 : Int32} {post : Int32 → GM → Prop} (hv : vM_drop g a1 post) : jMi l yX12_drop wsX12_drop rM_drop D (tyM cy) [.ref (ad 0), .int a1] (wM ad cy g) (wM ad cy) post 0 0 := by
  refine j_meti (cc := cX12_drop) (nL := 2) (rt := (some .int)) (by decide) (Nat.le_of_ble_eq_true rfl) ?_
  intro Γ hC hQ _
  have hC : jC Γ l rM_drop D 2 RX12 cX12_drop wsX12_drop (tyM cy) := hC
  have hinX12 : ∀ w ∈ wsX120, w ∈ wsX12_drop := fun w h => List.mem_cons_of_mem _ (List.mem_append_right _ h)
  refine j_lv (lv' := [(0, .ref (ad 0)), (1, .int a1)]) [0, 1] rfl ?_
  unfold vM_drop at hv
  refine j_aload_n (i := 0) hC dX12_drop_0 rfl 0 rfl ?_
  refine j_iconst (v := 0) hC dX12_drop_1 (by decide) ?_
  refine j_put (C := RX12) (T := TX12) (N := 22) (ty := .int) hC hinX12 tyX12 tyX12_ok nmX12 0 (wM_c0 ad cy _) rfl 0 (by decide) (mw 1 rfl) rfl rfl fdX12_0 rfl rfl (Nat.le_of_ble_eq_true rfl) (wM_p_thrown ad cy _ _) dX12_drop_2 ?_
  refine j_iload_n (i := 1) hC dX12_drop_5 rfl 1 rfl ?_
  refine j_callS_i (As := [.int a1]) (rest := []) hC (cM_isSheet hv) 1 gX12_drop_X12_isSheet rfl rfl rfl ⟨Nat.le_of_ble_eq_true rfl, Nat.le_of_ble_eq_true rfl⟩ hdM_isSheet.2 rfl rfl (Nat.le_of_ble_eq_true rfl) ⟨Nat.zero_le _, Nat.zero_le _⟩ dX12_drop_6 (fun r6 g6 hv => ?_)
  refine j_if_ne (tgt := 15) hC dX12_drop_9 (by decide) (fun h_ => ?_) (fun h_ => ?_)
  · have hv := hv.1 h_
    refine j_aload_n (i := 0) hC dX12_drop_15 rfl 0 rfl ?_
    refine j_iconst (v := 0) hC dX12_drop_16 (by decide) ?_
    refine j_put (C := RX12) (T := TX12) (N := 22) (ty := .int) hC hinX12 tyX12 tyX12_ok nmX12 0 (wM_c0 ad cy _) rfl 1 (by decide) (mw 3 rfl) rfl rfl fdX12_1 rfl rfl (Nat.le_of_ble_eq_true rfl) (wM_p_status ad cy _ _) dX12_drop_17 ?_
    refine j_aload_n (i := 0) hC dX12_drop_20 rfl 0 rfl ?_
    refine j_get (C := RX12) (T := TX12) (N := 22) (v := .ref (ad 3)) hC hinX12 0 (wM_c0 ad cy _) rfl 4 (by decide) (mw 4 rfl) rfl rfl dX12_drop_21 ?_
    refine j_iload_n (i := 1) hC dX12_drop_24 rfl 1 rfl ?_
    refine j_iald (v := ((m_lane g6) a1.toNatClampNeg)) hC 3 0 (wM_c3 ad cy _) rfl hv.1 rfl dX12_drop_25 ?_
    have hv := hv.2
    refine j_if_ge (tgt := 35) hC dX12_drop_26 (by decide) (fun h_ => ?_) (fun h_ => ?_)
    · have hv := hv.1 h_
      refine j_aload_n (i := 0) hC dX12_drop_35 rfl 0 rfl ?_
      refine j_get (C := RX12) (T := TX12) (N := 22) (v := .ref (ad 3)) hC hinX12 0 (wM_c0 ad cy _) rfl 4 (by decide) (mw 4 rfl) rfl rfl dX12_drop_36 ?_
      refine j_iload_n (i := 1) hC dX12_drop_39 rfl 1 rfl ?_
      refine j_iconst (v := -1) hC dX12_drop_40 (by decide) ?_
      refine j_iast hC 3 0 (wM_c3 ad cy _) rfl hv.1 (wM_s_lane ad cy _ _) dX12_drop_41 ?_
      have hv := hv.2
      refine j_aload_n (i := 0) hC dX12_drop_42 rfl 0 rfl ?_
      refine j_get (C := RX12) (T := TX12) (N := 22) (v := .ref (ad 4)) hC hinX12 0 (wM_c0 ad cy _) rfl 5 (by decide) (mw 5 rfl) rfl rfl dX12_drop_43 ?_
      refine j_iload_n (i := 1) hC dX12_drop_46 rfl 1 rfl ?_
      refine j_iald (v := ((m_many g6) a1.toNatClampNeg)) hC 4 0 (wM_c4 ad cy _) rfl hv.1 rfl dX12_drop_47 ?_
      have hv := hv.2
      exact j_iret hC hQ dX12_drop_48 rfl hv
    · have hv := hv.2 h_
      refine j_aload_n (i := 0) hC dX12_drop_29 rfl 0 rfl ?_
      refine j_iconst (v := 1) hC dX12_drop_30 (by decide) ?_
      refine j_callV_i (C := RX12) (As := [.int (1 : Int32)]) (rest := []) (b := (ad 0)) hC (cM_found hv) 1 gX12_drop_X12_found rfl rfl rfl ⟨Nat.le_of_ble_eq_true rfl, Nat.le_of_ble_eq_true rfl⟩ hdM_found rfl (wM_c0 ad cy _) rfl rfl (Nat.le_of_ble_eq_true rfl) ⟨Nat.zero_le _, Nat.zero_le _⟩ dX12_drop_31 (fun r31 g31 hv => ?_)
      exact j_iret hC hQ dX12_drop_34 rfl hv
  · have hv := hv.2 h_
    refine j_ldc (v := -1000001) hC dX12_drop_12 (mw 2 rfl) ?_
    exact j_iret hC hQ dX12_drop_14 rfl hv
theorem hdM_world : yX12_world.cls = RX12 ∧ yX12_world.cls ≠ "java/lang/invoke/MethodHandle" ∧ yX12_world.cls ≠ "java/lang/invoke/VarHandle" ∧ (parseMethodDescriptor yX12_world.desc).map (fun d => d.parameters.length) = some 3 := by decide +kernel
abbrev rM_world : Room := { frames := 2, cells := 0, slots := 0, locals := 45 }
def vM_world_75 (post : Int32 → GM → Prop) (g : GM) : Prop :=
  (vM_found g (2 : Int32) (fun r77 g77 => post r77 g77))
def vM_world_175 (post : Int32 → GM → Prop) (x1 : Int32) (g : GM) : Prop :=
  (vp_in (m_worlds g) 8 ∧ post (((m_worlds g) + (1 : Int32)) - (1 : Int32)) (sm_worlds (sm_weight g (upd (m_weight g) (m_worlds g).toNatClampNeg x1)) ((m_worlds g) + (1 : Int32))))
def vM_world_133 (post : Int32 → GM → Prop) : Nat → Int32 → Int32 → Int32 → Int32 → GM → Prop
  | 0, _, _, _, _, _ => False
  | k_ + 1, x1, x2, x3, x4, g =>
  (((8 : Int32) ≤ x4 → (vM_world_175 post x1 g)) ∧ (¬ (8 : Int32) ≤ x4 → (vp_in ((((60 : Int32) * x2) + x3) + x4) 480 ∧ (vp_in (((8 : Int32) * (m_worlds g)) + x4) 64 ∧ (vM_world_133 post k_ x1 x2 x3 (x4 + (1 : Int32)) (sm_sea g (upd (m_sea g) (((8 : Int32) * (m_worlds g)) + x4).toNatClampNeg ((m_item g) ((((60 : Int32) * x2) + x3) + x4).toNatClampNeg))))))))
def vM_world_125 (post : Int32 → GM → Prop) (x1 : Int32) (x2 : Int32) (x3 : Int32) (g : GM) : Prop :=
  (∃ n_ : Nat, vM_world_133 post n_ x1 x2 x3 (0 : Int32) (sm_status g (0 : Int32)))
def vM_world_84 (post : Int32 → GM → Prop) : Nat → Int32 → Int32 → Int32 → Int32 → GM → Prop
  | 0, _, _, _, _, _ => False
  | k_ + 1, x1, x2, x3, x4, g =>
  (((8 : Int32) ≤ x4 → (vM_world_125 post x1 x2 x3 g)) ∧ (¬ (8 : Int32) ≤ x4 → (vp_in ((((60 : Int32) * x2) + x3) + x4) 480 ∧ (vM_in g (((m_item g) ((((60 : Int32) * x2) + x3) + x4).toNatClampNeg).toInt64) (0 : Int64) (1000 : Int64) (fun r110 g110 => ((¬ r110 = (0 : Int32) → (vM_world_84 post k_ x1 x2 x3 (x4 + (1 : Int32)) g110)) ∧ (r110 = (0 : Int32) → post (-1000001 : Int32) g110)))))))
def vM_world (g : GM) (a1 : Int32) (a2 : Int32) (a3 : Int32) (post : Int32 → GM → Prop) : Prop :=
  (vM_in (sm_thrown g (0 : Int32)) (a1.toInt64) (1 : Int64) (20 : Int64) (fun r11 g11 => ((r11 = (0 : Int32) → post (-1000001 : Int32) g11) ∧ (¬ r11 = (0 : Int32) → (vM_isSheet g11 a2 (fun r18 g18 => ((¬ r18 = (0 : Int32) → ((¬ (m_worlds g18) = (8 : Int32) → (vp_in a2 8 ∧ (((0 : Int32) ≤ ((m_lane g18) a2.toNatClampNeg) → ((a3 < (0 : Int32) → (vM_world_75 post g18)) ∧ (¬ a3 < (0 : Int32) → (vp_in a2 8 ∧ ((((a3.toInt64) + (8 : Int64)) ≤ (((m_many g18) a2.toNatClampNeg).toInt64) → (∃ n_ : Nat, vM_world_84 post n_ a1 a2 a3 (0 : Int32) g18)) ∧ (¬ ((a3.toInt64) + (8 : Int64)) ≤ (((m_many g18) a2.toNatClampNeg).toInt64) → (vM_world_75 post g18))))))) ∧ (¬ (0 : Int32) ≤ ((m_lane g18) a2.toNatClampNeg) → (vM_found g18 (1 : Int32) (fun r50 g50 => post r50 g50)))))) ∧ ((m_worlds g18) = (8 : Int32) → post (-1000003 : Int32) g18))) ∧ (r18 = (0 : Int32) → post (-1000001 : Int32) g18))))))))
set_option maxHeartbeats 4000000 in
set_option maxRecDepth 100000 in
theorem lM_world_75 {Γ : jG} {l : Launch} {D : va_G} {ad : Nat → Nat} {cy : Nat → ClassId} {post : Int32 → GM → Prop} (hC : jC Γ l rM_world D 5 RX12 cX12_world wsX12_world (tyM cy)) (hQ : jQi Γ D (wM ad cy) post (some .int) 0 0) : ∀ (g : GM), vM_world_75 post g → J Γ D 5 0 0 (wM ad cy g) 75 [(0, .ref (ad 0))] [] := by
  have hinX12 : ∀ w ∈ wsX120, w ∈ wsX12_world := fun w h => List.mem_cons_of_mem _ (List.mem_append_right _ h)
  intro g hv
  unfold vM_world_75 at hv
  refine j_aload_n (i := 0) hC dX12_world_75 rfl 0 rfl ?_
  refine j_iconst (v := 2) hC dX12_world_76 (by decide) ?_
  refine j_callV_i (C := RX12) (As := [.int (2 : Int32)]) (rest := []) (b := (ad 0)) hC (cM_found hv) 1 gX12_world_X12_found rfl rfl rfl ⟨Nat.le_of_ble_eq_true rfl, Nat.le_of_ble_eq_true rfl⟩ hdM_found rfl (wM_c0 ad cy _) rfl rfl (Nat.le_of_ble_eq_true rfl) ⟨Nat.zero_le _, Nat.zero_le _⟩ dX12_world_77 (fun r77 g77 hv => ?_)
  exact j_iret hC hQ dX12_world_80 rfl hv
set_option maxHeartbeats 4000000 in
set_option maxRecDepth 100000 in
theorem lM_world_175 {Γ : jG} {l : Launch} {D : va_G} {ad : Nat → Nat} {cy : Nat → ClassId} {post : Int32 → GM → Prop} (hC : jC Γ l rM_world D 5 RX12 cX12_world wsX12_world (tyM cy)) (hQ : jQi Γ D (wM ad cy) post (some .int) 0 0) : ∀ (x1 : Int32) (g : GM), vM_world_175 post x1 g → J Γ D 5 0 0 (wM ad cy g) 175 [(0, .ref (ad 0)), (1, .int x1)] [] := by
  have hinX12 : ∀ w ∈ wsX120, w ∈ wsX12_world := fun w h => List.mem_cons_of_mem _ (List.mem_append_right _ h)
  intro x1 g hv
  unfold vM_world_175 at hv
  refine j_aload_n (i := 0) hC dX12_world_175 rfl 0 rfl ?_
  refine j_get (C := RX12) (T := TX12) (N := 22) (v := .ref (ad 6)) hC hinX12 0 (wM_c0 ad cy _) rfl 8 (by decide) (mw 13 rfl) rfl rfl dX12_world_176 ?_
  refine j_aload_n (i := 0) hC dX12_world_179 rfl 0 rfl ?_
  refine j_get (C := RX12) (T := TX12) (N := 22) (v := .int (m_worlds g)) hC hinX12 0 (wM_c0 ad cy _) rfl 7 (by decide) (mw 4 rfl) rfl rfl dX12_world_180 ?_
  refine j_iload_n (i := 1) hC dX12_world_183 rfl 1 rfl ?_
  refine j_iast hC 6 0 (wM_c6 ad cy _) rfl hv.1 (wM_s_weight ad cy _ _) dX12_world_184 ?_
  have hv := hv.2
  refine j_aload_n (i := 0) hC dX12_world_185 rfl 0 rfl ?_
  refine j_dup hC dX12_world_186 rfl ?_
  refine j_get (C := RX12) (T := TX12) (N := 22) (v := .int (m_worlds g)) hC hinX12 0 (wM_c0 ad cy _) rfl 7 (by decide) (mw 4 rfl) rfl rfl dX12_world_187 ?_
  refine j_iconst (v := 1) hC dX12_world_190 (by decide) ?_
  refine j_iadd hC dX12_world_191 ?_
  refine j_put (C := RX12) (T := TX12) (N := 22) (ty := .int) hC hinX12 tyX12 tyX12_ok nmX12 0 (wM_c0 ad cy _) rfl 7 (by decide) (mw 4 rfl) rfl rfl fdX12_7 rfl rfl (Nat.le_of_ble_eq_true rfl) (wM_p_worlds ad cy _ _) dX12_world_192 ?_
  refine j_aload_n (i := 0) hC dX12_world_195 rfl 0 rfl ?_
  refine j_get (C := RX12) (T := TX12) (N := 22) (v := .int ((m_worlds g) + (1 : Int32))) hC hinX12 0 (wM_c0 ad cy _) rfl 7 (by decide) (mw 4 rfl) rfl rfl dX12_world_196 ?_
  refine j_iconst (v := 1) hC dX12_world_199 (by decide) ?_
  refine j_isub hC dX12_world_200 ?_
  exact j_iret hC hQ dX12_world_201 rfl hv
set_option maxHeartbeats 4000000 in
set_option maxRecDepth 100000 in
theorem lM_world_133 {Γ : jG} {l : Launch} {D : va_G} {ad : Nat → Nat} {cy : Nat → ClassId} {post : Int32 → GM → Prop} (hC : jC Γ l rM_world D 5 RX12 cX12_world wsX12_world (tyM cy)) (hQ : jQi Γ D (wM ad cy) post (some .int) 0 0) : ∀ (n_ : Nat) (x1 : Int32) (x2 : Int32) (x3 : Int32) (x4 : Int32) (g : GM), vM_world_133 post n_ x1 x2 x3 x4 g → J Γ D 5 0 0 (wM ad cy g) 133 [(0, .ref (ad 0)), (1, .int x1), (2, .int x2), (3, .int x3), (4, .int x4)] [] := by
  have hinX12 : ∀ w ∈ wsX120, w ∈ wsX12_world := fun w h => List.mem_cons_of_mem _ (List.mem_append_right _ h)
  intro n_
  induction n_ with
  | zero => intro x1 x2 x3 x4 g hv; exact False.elim hv
  | succ k_ ih =>
    intro x1 x2 x3 x4 g hv
    unfold vM_world_133 at hv
    refine j_iload hC dX12_world_133 4 rfl ?_
    refine j_bipush (v := 8) hC dX12_world_135 (by decide) ?_
    refine j_icmp_ge (tgt := 175) hC dX12_world_137 (by decide) (fun h_ => ?_) (fun h_ => ?_)
    · have hv := hv.1 h_
      exact j_lv [0, 1] rfl (lM_world_175 hC hQ _ _ hv)
    · have hv := hv.2 h_
      refine j_aload_n (i := 0) hC dX12_world_140 rfl 0 rfl ?_
      refine j_get (C := RX12) (T := TX12) (N := 22) (v := .ref (ad 7)) hC hinX12 0 (wM_c0 ad cy _) rfl 9 (by decide) (mw 12 rfl) rfl rfl dX12_world_141 ?_
      refine j_bipush (v := 8) hC dX12_world_144 (by decide) ?_
      refine j_aload_n (i := 0) hC dX12_world_146 rfl 0 rfl ?_
      refine j_get (C := RX12) (T := TX12) (N := 22) (v := .int (m_worlds g)) hC hinX12 0 (wM_c0 ad cy _) rfl 7 (by decide) (mw 4 rfl) rfl rfl dX12_world_147 ?_
      refine j_imul hC dX12_world_150 ?_
      refine j_iload hC dX12_world_151 4 rfl ?_
      refine j_iadd hC dX12_world_153 ?_
      refine j_aload_n (i := 0) hC dX12_world_154 rfl 0 rfl ?_
      refine j_get (C := RX12) (T := TX12) (N := 22) (v := .ref (ad 5)) hC hinX12 0 (wM_c0 ad cy _) rfl 6 (by decide) (mw 9 rfl) rfl rfl dX12_world_155 ?_
      refine j_bipush (v := 60) hC dX12_world_158 (by decide) ?_
      refine j_iload_n (i := 2) hC dX12_world_160 rfl 2 rfl ?_
      refine j_imul hC dX12_world_161 ?_
      refine j_iload_n (i := 3) hC dX12_world_162 rfl 3 rfl ?_
      refine j_iadd hC dX12_world_163 ?_
      refine j_iload hC dX12_world_164 4 rfl ?_
      refine j_iadd hC dX12_world_166 ?_
      refine j_iald (v := ((m_item g) ((((60 : Int32) * x2) + x3) + x4).toNatClampNeg)) hC 5 0 (wM_c5 ad cy _) rfl hv.1 rfl dX12_world_167 ?_
      have hv := hv.2
      refine j_iast hC 7 0 (wM_c7 ad cy _) rfl hv.1 (wM_s_sea ad cy _ _) dX12_world_168 ?_
      have hv := hv.2
      refine j_iinc (k := 4) (v := (x4 + (1 : Int32))) (lv' := [(4, .int (x4 + (1 : Int32))), (0, .ref (ad 0)), (1, .int x1), (2, .int x2), (3, .int x3)]) hC dX12_world_169 rfl rfl (by decide) rfl ?_
      refine j_goto (tgt := 133) hC dX12_world_172 (by decide) ?_
      exact j_lv [1, 2, 3, 4, 0] rfl (ih _ _ _ _ _ hv)
set_option maxHeartbeats 4000000 in
set_option maxRecDepth 100000 in
theorem lM_world_125 {Γ : jG} {l : Launch} {D : va_G} {ad : Nat → Nat} {cy : Nat → ClassId} {post : Int32 → GM → Prop} (hC : jC Γ l rM_world D 5 RX12 cX12_world wsX12_world (tyM cy)) (hQ : jQi Γ D (wM ad cy) post (some .int) 0 0) : ∀ (x1 : Int32) (x2 : Int32) (x3 : Int32) (g : GM), vM_world_125 post x1 x2 x3 g → J Γ D 5 0 0 (wM ad cy g) 125 [(0, .ref (ad 0)), (1, .int x1), (2, .int x2), (3, .int x3)] [] := by
  have hinX12 : ∀ w ∈ wsX120, w ∈ wsX12_world := fun w h => List.mem_cons_of_mem _ (List.mem_append_right _ h)
  intro x1 x2 x3 g hv
  unfold vM_world_125 at hv
  refine j_aload_n (i := 0) hC dX12_world_125 rfl 0 rfl ?_
  refine j_iconst (v := 0) hC dX12_world_126 (by decide) ?_
  refine j_put (C := RX12) (T := TX12) (N := 22) (ty := .int) hC hinX12 tyX12 tyX12_ok nmX12 0 (wM_c0 ad cy _) rfl 1 (by decide) (mw 11 rfl) rfl rfl fdX12_1 rfl rfl (Nat.le_of_ble_eq_true rfl) (wM_p_status ad cy _ _) dX12_world_127 ?_
  refine j_iconst (v := 0) hC dX12_world_130 (by decide) ?_
  refine j_istore (lv' := [(4, .int (0 : Int32)), (0, .ref (ad 0)), (1, .int x1), (2, .int x2), (3, .int x3)]) hC dX12_world_131 (by decide) rfl ?_
  obtain ⟨n_, hv⟩ := hv
  exact j_lv [1, 2, 3, 4, 0] rfl (lM_world_133 hC hQ n_ _ _ _ _ _ hv)
set_option maxHeartbeats 4000000 in
set_option maxRecDepth 100000 in
theorem lM_world_84 {Γ : jG} {l : Launch} {D : va_G} {ad : Nat → Nat} {cy : Nat → ClassId} {post : Int32 → GM → Prop} (hC : jC Γ l rM_world D 5 RX12 cX12_world wsX12_world (tyM cy)) (hQ : jQi Γ D (wM ad cy) post (some .int) 0 0) : ∀ (n_ : Nat) (x1 : Int32) (x2 : Int32) (x3 : Int32) (x4 : Int32) (g : GM), vM_world_84 post n_ x1 x2 x3 x4 g → J Γ D 5 0 0 (wM ad cy g) 84 [(0, .ref (ad 0)), (1, .int x1), (2, .int x2), (3, .int x3), (4, .int x4)] [] := by
  have hinX12 : ∀ w ∈ wsX120, w ∈ wsX12_world := fun w h => List.mem_cons_of_mem _ (List.mem_append_right _ h)
  intro n_
  induction n_ with
  | zero => intro x1 x2 x3 x4 g hv; exact False.elim hv
  | succ k_ ih =>
    intro x1 x2 x3 x4 g hv
    unfold vM_world_84 at hv
    refine j_iload hC dX12_world_84 4 rfl ?_
    refine j_bipush (v := 8) hC dX12_world_86 (by decide) ?_
    refine j_icmp_ge (tgt := 125) hC dX12_world_88 (by decide) (fun h_ => ?_) (fun h_ => ?_)
    · have hv := hv.1 h_
      exact j_lv [0, 1, 2, 3] rfl (lM_world_125 hC hQ _ _ _ _ hv)
    · have hv := hv.2 h_
      refine j_aload_n (i := 0) hC dX12_world_91 rfl 0 rfl ?_
      refine j_get (C := RX12) (T := TX12) (N := 22) (v := .ref (ad 5)) hC hinX12 0 (wM_c0 ad cy _) rfl 6 (by decide) (mw 9 rfl) rfl rfl dX12_world_92 ?_
      refine j_bipush (v := 60) hC dX12_world_95 (by decide) ?_
      refine j_iload_n (i := 2) hC dX12_world_97 rfl 2 rfl ?_
      refine j_imul hC dX12_world_98 ?_
      refine j_iload_n (i := 3) hC dX12_world_99 rfl 3 rfl ?_
      refine j_iadd hC dX12_world_100 ?_
      refine j_iload hC dX12_world_101 4 rfl ?_
      refine j_iadd hC dX12_world_103 ?_
      refine j_iald (v := ((m_item g) ((((60 : Int32) * x2) + x3) + x4).toNatClampNeg)) hC 5 0 (wM_c5 ad cy _) rfl hv.1 rfl dX12_world_104 ?_
      have hv := hv.2
      refine j_i2l hC dX12_world_105 ?_
      refine j_lconst (v := 0) hC dX12_world_106 (by decide) ?_
      refine j_ldc2 (v := 1000) hC dX12_world_107 (mw 10 rfl) ?_
      refine j_callS_i (As := [.long (((m_item g) ((((60 : Int32) * x2) + x3) + x4).toNatClampNeg).toInt64), .long (0 : Int64), .long (1000 : Int64)]) (rest := []) hC (cM_in hv) 3 gX12_world_X12_in rfl rfl rfl ⟨Nat.le_of_ble_eq_true rfl, Nat.le_of_ble_eq_true rfl⟩ hdM_in.2 rfl rfl (Nat.le_of_ble_eq_true rfl) ⟨Nat.zero_le _, Nat.zero_le _⟩ dX12_world_110 (fun r110 g110 hv => ?_)
      refine j_if_ne (tgt := 119) hC dX12_world_113 (by decide) (fun h_ => ?_) (fun h_ => ?_)
      · have hv := hv.1 h_
        refine j_iinc (k := 4) (v := (x4 + (1 : Int32))) (lv' := [(4, .int (x4 + (1 : Int32))), (0, .ref (ad 0)), (1, .int x1), (2, .int x2), (3, .int x3)]) hC dX12_world_119 rfl rfl (by decide) rfl ?_
        refine j_goto (tgt := 84) hC dX12_world_122 (by decide) ?_
        exact j_lv [1, 2, 3, 4, 0] rfl (ih _ _ _ _ _ hv)
      · have hv := hv.2 h_
        refine j_ldc (v := -1000001) hC dX12_world_116 (mw 3 rfl) ?_
        exact j_iret hC hQ dX12_world_118 rfl hv
set_option maxHeartbeats 4000000 in
set_option maxRecDepth 100000 in
theorem cM_world {l : Launch} {D : va_G} {ad : Nat → Nat} {cy : Nat → ClassId} {g : GM} {a1 : Int32} {a2 : Int32} {a3 : Int32} {post : Int32 → GM → Prop} (hv : vM_world g a1 a2 a3 post) : jMi l yX12_world wsX12_world rM_world D (tyM cy) [.ref (ad 0), .int a1, .int a2, .int a3] (wM ad cy g) (wM ad cy) post 0 0 := by
  refine j_meti (cc := cX12_world) (nL := 5) (rt := (some .int)) (by decide) (Nat.le_of_ble_eq_true rfl) ?_
  intro Γ hC hQ _
  have hC : jC Γ l rM_world D 5 RX12 cX12_world wsX12_world (tyM cy) := hC
  have hinX12 : ∀ w ∈ wsX120, w ∈ wsX12_world := fun w h => List.mem_cons_of_mem _ (List.mem_append_right _ h)
  refine j_lv (lv' := [(0, .ref (ad 0)), (1, .int a1), (2, .int a2), (3, .int a3)]) [0, 1, 2, 3] rfl ?_
  unfold vM_world at hv
  refine j_aload_n (i := 0) hC dX12_world_0 rfl 0 rfl ?_
  refine j_iconst (v := 0) hC dX12_world_1 (by decide) ?_
  refine j_put (C := RX12) (T := TX12) (N := 22) (ty := .int) hC hinX12 tyX12 tyX12_ok nmX12 0 (wM_c0 ad cy _) rfl 0 (by decide) (mw 1 rfl) rfl rfl fdX12_0 rfl rfl (Nat.le_of_ble_eq_true rfl) (wM_p_thrown ad cy _ _) dX12_world_2 ?_
  refine j_iload_n (i := 1) hC dX12_world_5 rfl 1 rfl ?_
  refine j_i2l hC dX12_world_6 ?_
  refine j_lconst (v := 1) hC dX12_world_7 (by decide) ?_
  refine j_ldc2 (v := 20) hC dX12_world_8 (mw 2 rfl) ?_
  refine j_callS_i (As := [.long (a1.toInt64), .long (1 : Int64), .long (20 : Int64)]) (rest := []) hC (cM_in hv) 3 gX12_world_X12_in rfl rfl rfl ⟨Nat.le_of_ble_eq_true rfl, Nat.le_of_ble_eq_true rfl⟩ hdM_in.2 rfl rfl (Nat.le_of_ble_eq_true rfl) ⟨Nat.zero_le _, Nat.zero_le _⟩ dX12_world_11 (fun r11 g11 hv => ?_)
  refine j_if_eq (tgt := 24) hC dX12_world_14 (by decide) (fun h_ => ?_) (fun h_ => ?_)
  · have hv := hv.1 h_
    refine j_ldc (v := -1000001) hC dX12_world_24 (mw 3 rfl) ?_
    exact j_iret hC hQ dX12_world_26 rfl hv
  · have hv := hv.2 h_
    refine j_iload_n (i := 2) hC dX12_world_17 rfl 2 rfl ?_
    refine j_callS_i (As := [.int a2]) (rest := []) hC (cM_isSheet hv) 1 gX12_world_X12_isSheet rfl rfl rfl ⟨Nat.le_of_ble_eq_true rfl, Nat.le_of_ble_eq_true rfl⟩ hdM_isSheet.2 rfl rfl (Nat.le_of_ble_eq_true rfl) ⟨Nat.zero_le _, Nat.zero_le _⟩ dX12_world_18 (fun r18 g18 hv => ?_)
    refine j_if_ne (tgt := 27) hC dX12_world_21 (by decide) (fun h_ => ?_) (fun h_ => ?_)
    · have hv := hv.1 h_
      refine j_aload_n (i := 0) hC dX12_world_27 rfl 0 rfl ?_
      refine j_get (C := RX12) (T := TX12) (N := 22) (v := .int (m_worlds g18)) hC hinX12 0 (wM_c0 ad cy _) rfl 7 (by decide) (mw 4 rfl) rfl rfl dX12_world_28 ?_
      refine j_bipush (v := 8) hC dX12_world_31 (by decide) ?_
      refine j_icmp_ne (tgt := 39) hC dX12_world_33 (by decide) (fun h_ => ?_) (fun h_ => ?_)
      · have hv := hv.1 h_
        refine j_aload_n (i := 0) hC dX12_world_39 rfl 0 rfl ?_
        refine j_get (C := RX12) (T := TX12) (N := 22) (v := .ref (ad 3)) hC hinX12 0 (wM_c0 ad cy _) rfl 4 (by decide) (mw 6 rfl) rfl rfl dX12_world_40 ?_
        refine j_iload_n (i := 2) hC dX12_world_43 rfl 2 rfl ?_
        refine j_iald (v := ((m_lane g18) a2.toNatClampNeg)) hC 3 0 (wM_c3 ad cy _) rfl hv.1 rfl dX12_world_44 ?_
        have hv := hv.2
        refine j_if_ge (tgt := 54) hC dX12_world_45 (by decide) (fun h_ => ?_) (fun h_ => ?_)
        · have hv := hv.1 h_
          refine j_iload_n (i := 3) hC dX12_world_54 rfl 3 rfl ?_
          refine j_if_lt (tgt := 75) hC dX12_world_55 (by decide) (fun h_ => ?_) (fun h_ => ?_)
          · have hv := hv.1 h_
            exact j_lv [0] rfl (lM_world_75 hC hQ _ hv)
          · have hv := hv.2 h_
            refine j_iload_n (i := 3) hC dX12_world_58 rfl 3 rfl ?_
            refine j_i2l hC dX12_world_59 ?_
            refine j_ldc2 (v := 8) hC dX12_world_60 (mw 7 rfl) ?_
            refine j_ladd hC dX12_world_63 ?_
            refine j_aload_n (i := 0) hC dX12_world_64 rfl 0 rfl ?_
            refine j_get (C := RX12) (T := TX12) (N := 22) (v := .ref (ad 4)) hC hinX12 0 (wM_c0 ad cy _) rfl 5 (by decide) (mw 8 rfl) rfl rfl dX12_world_65 ?_
            refine j_iload_n (i := 2) hC dX12_world_68 rfl 2 rfl ?_
            refine j_iald (v := ((m_many g18) a2.toNatClampNeg)) hC 4 0 (wM_c4 ad cy _) rfl hv.1 rfl dX12_world_69 ?_
            have hv := hv.2
            refine j_i2l hC dX12_world_70 ?_
            refine j_lcmp_le (tgt := 81) hC dX12_world_71 dX12_world_72 (by decide) (fun h_ => ?_) (fun h_ => ?_)
            · have hv := hv.1 h_
              refine j_iconst (v := 0) hC dX12_world_81 (by decide) ?_
              refine j_istore (lv' := [(4, .int (0 : Int32)), (0, .ref (ad 0)), (1, .int a1), (2, .int a2), (3, .int a3)]) hC dX12_world_82 (by decide) rfl ?_
              obtain ⟨n_, hv⟩ := hv
              exact j_lv [1, 2, 3, 4, 0] rfl (lM_world_84 hC hQ n_ _ _ _ _ _ hv)
            · have hv := hv.2 h_
              exact j_lv [0] rfl (lM_world_75 hC hQ _ hv)
        · have hv := hv.2 h_
          refine j_aload_n (i := 0) hC dX12_world_48 rfl 0 rfl ?_
          refine j_iconst (v := 1) hC dX12_world_49 (by decide) ?_
          refine j_callV_i (C := RX12) (As := [.int (1 : Int32)]) (rest := []) (b := (ad 0)) hC (cM_found hv) 1 gX12_world_X12_found rfl rfl rfl ⟨Nat.le_of_ble_eq_true rfl, Nat.le_of_ble_eq_true rfl⟩ hdM_found rfl (wM_c0 ad cy _) rfl rfl (Nat.le_of_ble_eq_true rfl) ⟨Nat.zero_le _, Nat.zero_le _⟩ dX12_world_50 (fun r50 g50 hv => ?_)
          exact j_iret hC hQ dX12_world_53 rfl hv
      · have hv := hv.2 h_
        refine j_ldc (v := -1000003) hC dX12_world_36 (mw 5 rfl) ?_
        exact j_iret hC hQ dX12_world_38 rfl hv
    · have hv := hv.2 h_
      refine j_ldc (v := -1000001) hC dX12_world_24 (mw 3 rfl) ?_
      exact j_iret hC hQ dX12_world_26 rfl hv
theorem hdM_river : yX12_river.cls = RX12 ∧ yX12_river.cls ≠ "java/lang/invoke/MethodHandle" ∧ yX12_river.cls ≠ "java/lang/invoke/VarHandle" ∧ (parseMethodDescriptor yX12_river.desc).map (fun d => d.parameters.length) = some 2 := by decide +kernel
abbrev rM_river : Room := { frames := 1, cells := 0, slots := 0, locals := 25 }
def vM_river (g : GM) (a1 : Int32) (a2 : Int32) (post : Int32 → GM → Prop) : Prop :=
  (vM_in (sm_thrown g (0 : Int32)) (a1.toInt64) (0 : Int64) (7 : Int64) (fun r11 g11 => ((r11 = (0 : Int32) → post (-1000001 : Int32) g11) ∧ (¬ r11 = (0 : Int32) → (vM_in g11 (a2.toInt64) (0 : Int64) (100 : Int64) (fun r23 g23 => ((¬ r23 = (0 : Int32) → (vp_in a1 8 ∧ (vp_in a1 8 ∧ post ((m_river g23) a1.toNatClampNeg) (sm_river g23 (upd (m_river g23) a1.toNatClampNeg a2))))) ∧ (r23 = (0 : Int32) → post (-1000001 : Int32) g23))))))))
set_option maxHeartbeats 4000000 in
set_option maxRecDepth 100000 in
theorem cM_river {l : Launch} {D : va_G} {ad : Nat → Nat} {cy : Nat → ClassId} {g : GM} {a1 : Int32} {a2 : Int32} {post : Int32 → GM → Prop} (hv : vM_river g a1 a2 post) : jMi l yX12_river wsX12_river rM_river D (tyM cy) [.ref (ad 0), .int a1, .int a2] (wM ad cy g) (wM ad cy) post 0 0 := by
  refine j_meti (cc := cX12_river) (nL := 4) (rt := (some .int)) (by decide) (Nat.le_of_ble_eq_true rfl) ?_
  intro Γ hC hQ _
  have hC : jC Γ l rM_river D 4 RX12 cX12_river wsX12_river (tyM cy) := hC
  have hinX12 : ∀ w ∈ wsX120, w ∈ wsX12_river := fun w h => List.mem_cons_of_mem _ (List.mem_append_right _ h)
  refine j_lv (lv' := [(0, .ref (ad 0)), (1, .int a1), (2, .int a2)]) [0, 1, 2] rfl ?_
  unfold vM_river at hv
  refine j_aload_n (i := 0) hC dX12_river_0 rfl 0 rfl ?_
  refine j_iconst (v := 0) hC dX12_river_1 (by decide) ?_
  refine j_put (C := RX12) (T := TX12) (N := 22) (ty := .int) hC hinX12 tyX12 tyX12_ok nmX12 0 (wM_c0 ad cy _) rfl 0 (by decide) (mw 1 rfl) rfl rfl fdX12_0 rfl rfl (Nat.le_of_ble_eq_true rfl) (wM_p_thrown ad cy _ _) dX12_river_2 ?_
  refine j_iload_n (i := 1) hC dX12_river_5 rfl 1 rfl ?_
  refine j_i2l hC dX12_river_6 ?_
  refine j_lconst (v := 0) hC dX12_river_7 (by decide) ?_
  refine j_ldc2 (v := 7) hC dX12_river_8 (mw 2 rfl) ?_
  refine j_callS_i (As := [.long (a1.toInt64), .long (0 : Int64), .long (7 : Int64)]) (rest := []) hC (cM_in hv) 3 gX12_river_X12_in rfl rfl rfl ⟨Nat.le_of_ble_eq_true rfl, Nat.le_of_ble_eq_true rfl⟩ hdM_in.2 rfl rfl (Nat.le_of_ble_eq_true rfl) ⟨Nat.zero_le _, Nat.zero_le _⟩ dX12_river_11 (fun r11 g11 hv => ?_)
  refine j_if_eq (tgt := 29) hC dX12_river_14 (by decide) (fun h_ => ?_) (fun h_ => ?_)
  · have hv := hv.1 h_
    refine j_ldc (v := -1000001) hC dX12_river_29 (mw 4 rfl) ?_
    exact j_iret hC hQ dX12_river_31 rfl hv
  · have hv := hv.2 h_
    refine j_iload_n (i := 2) hC dX12_river_17 rfl 2 rfl ?_
    refine j_i2l hC dX12_river_18 ?_
    refine j_lconst (v := 0) hC dX12_river_19 (by decide) ?_
    refine j_ldc2 (v := 100) hC dX12_river_20 (mw 3 rfl) ?_
    refine j_callS_i (As := [.long (a2.toInt64), .long (0 : Int64), .long (100 : Int64)]) (rest := []) hC (cM_in hv) 3 gX12_river_X12_in rfl rfl rfl ⟨Nat.le_of_ble_eq_true rfl, Nat.le_of_ble_eq_true rfl⟩ hdM_in.2 rfl rfl (Nat.le_of_ble_eq_true rfl) ⟨Nat.zero_le _, Nat.zero_le _⟩ dX12_river_23 (fun r23 g23 hv => ?_)
    refine j_if_ne (tgt := 32) hC dX12_river_26 (by decide) (fun h_ => ?_) (fun h_ => ?_)
    · have hv := hv.1 h_
      refine j_aload_n (i := 0) hC dX12_river_32 rfl 0 rfl ?_
      refine j_get (C := RX12) (T := TX12) (N := 22) (v := .ref (ad 2)) hC hinX12 0 (wM_c0 ad cy _) rfl 3 (by decide) (mw 5 rfl) rfl rfl dX12_river_33 ?_
      refine j_iload_n (i := 1) hC dX12_river_36 rfl 1 rfl ?_
      refine j_iald (v := ((m_river g23) a1.toNatClampNeg)) hC 2 0 (wM_c2 ad cy _) rfl hv.1 rfl dX12_river_37 ?_
      have hv := hv.2
      refine j_istore_n (i := 3) (lv' := [(3, .int ((m_river g23) a1.toNatClampNeg)), (0, .ref (ad 0)), (1, .int a1), (2, .int a2)]) hC dX12_river_38 rfl (by decide) rfl ?_
      refine j_aload_n (i := 0) hC dX12_river_39 rfl 1 rfl ?_
      refine j_get (C := RX12) (T := TX12) (N := 22) (v := .ref (ad 2)) hC hinX12 0 (wM_c0 ad cy _) rfl 3 (by decide) (mw 5 rfl) rfl rfl dX12_river_40 ?_
      refine j_iload_n (i := 1) hC dX12_river_43 rfl 2 rfl ?_
      refine j_iload_n (i := 2) hC dX12_river_44 rfl 3 rfl ?_
      refine j_iast hC 2 0 (wM_c2 ad cy _) rfl hv.1 (wM_s_river ad cy _ _) dX12_river_45 ?_
      have hv := hv.2
      refine j_iload_n (i := 3) hC dX12_river_46 rfl 0 rfl ?_
      exact j_iret hC hQ dX12_river_47 rfl hv
    · have hv := hv.2 h_
      refine j_ldc (v := -1000001) hC dX12_river_29 (mw 4 rfl) ?_
      exact j_iret hC hQ dX12_river_31 rfl hv
theorem hdM_rule : yX12_rule.cls = RX12 ∧ yX12_rule.cls ≠ "java/lang/invoke/MethodHandle" ∧ yX12_rule.cls ≠ "java/lang/invoke/VarHandle" ∧ (parseMethodDescriptor yX12_rule.desc).map (fun d => d.parameters.length) = some 2 := by decide +kernel
abbrev rM_rule : Room := { frames := 1, cells := 0, slots := 0, locals := 25 }
def vM_rule_52 (post : Int32 → GM → Prop) (x1 : Int32) (x2 : Int32) (g : GM) : Prop :=
  (vp_in x1 8 ∧ (vp_in x1 8 ∧ post ((m_rule g) x1.toNatClampNeg) (sm_rule g (upd (m_rule g) x1.toNatClampNeg x2))))
def vM_rule (g : GM) (a1 : Int32) (a2 : Int32) (post : Int32 → GM → Prop) : Prop :=
  (vM_in (sm_thrown g (0 : Int32)) (a1.toInt64) (0 : Int64) (7 : Int64) (fun r11 g11 => ((r11 = (0 : Int32) → post (-1000001 : Int32) g11) ∧ (¬ r11 = (0 : Int32) → (((2 : Int32) ≤ a1 → (vM_in g11 (a2.toInt64) (0 : Int64) (1000 : Int64) (fun r43 g43 => ((¬ r43 = (0 : Int32) → (vM_rule_52 post a1 a2 g43)) ∧ (r43 = (0 : Int32) → post (-1000001 : Int32) g43))))) ∧ (¬ (2 : Int32) ≤ a1 → (vM_in g11 (a2.toInt64) (1 : Int64) (3 : Int64) (fun r28 g28 => ((¬ r28 = (0 : Int32) → (vM_rule_52 post a1 a2 g28)) ∧ (r28 = (0 : Int32) → post (-1000001 : Int32) g28))))))))))
set_option maxHeartbeats 4000000 in
set_option maxRecDepth 100000 in
theorem lM_rule_52 {Γ : jG} {l : Launch} {D : va_G} {ad : Nat → Nat} {cy : Nat → ClassId} {post : Int32 → GM → Prop} (hC : jC Γ l rM_rule D 4 RX12 cX12_rule wsX12_rule (tyM cy)) (hQ : jQi Γ D (wM ad cy) post (some .int) 0 0) : ∀ (x1 : Int32) (x2 : Int32) (g : GM), vM_rule_52 post x1 x2 g → J Γ D 4 0 0 (wM ad cy g) 52 [(0, .ref (ad 0)), (1, .int x1), (2, .int x2)] [] := by
  have hinX12 : ∀ w ∈ wsX120, w ∈ wsX12_rule := fun w h => List.mem_cons_of_mem _ (List.mem_append_right _ h)
  intro x1 x2 g hv
  unfold vM_rule_52 at hv
  refine j_aload_n (i := 0) hC dX12_rule_52 rfl 0 rfl ?_
  refine j_get (C := RX12) (T := TX12) (N := 22) (v := .ref (ad 1)) hC hinX12 0 (wM_c0 ad cy _) rfl 2 (by decide) (mw 6 rfl) rfl rfl dX12_rule_53 ?_
  refine j_iload_n (i := 1) hC dX12_rule_56 rfl 1 rfl ?_
  refine j_iald (v := ((m_rule g) x1.toNatClampNeg)) hC 1 0 (wM_c1 ad cy _) rfl hv.1 rfl dX12_rule_57 ?_
  have hv := hv.2
  refine j_istore_n (i := 3) (lv' := [(3, .int ((m_rule g) x1.toNatClampNeg)), (0, .ref (ad 0)), (1, .int x1), (2, .int x2)]) hC dX12_rule_58 rfl (by decide) rfl ?_
  refine j_aload_n (i := 0) hC dX12_rule_59 rfl 1 rfl ?_
  refine j_get (C := RX12) (T := TX12) (N := 22) (v := .ref (ad 1)) hC hinX12 0 (wM_c0 ad cy _) rfl 2 (by decide) (mw 6 rfl) rfl rfl dX12_rule_60 ?_
  refine j_iload_n (i := 1) hC dX12_rule_63 rfl 2 rfl ?_
  refine j_iload_n (i := 2) hC dX12_rule_64 rfl 3 rfl ?_
  refine j_iast hC 1 0 (wM_c1 ad cy _) rfl hv.1 (wM_s_rule ad cy _ _) dX12_rule_65 ?_
  have hv := hv.2
  refine j_iload_n (i := 3) hC dX12_rule_66 rfl 0 rfl ?_
  exact j_iret hC hQ dX12_rule_67 rfl hv
set_option maxHeartbeats 4000000 in
set_option maxRecDepth 100000 in
theorem cM_rule {l : Launch} {D : va_G} {ad : Nat → Nat} {cy : Nat → ClassId} {g : GM} {a1 : Int32} {a2 : Int32} {post : Int32 → GM → Prop} (hv : vM_rule g a1 a2 post) : jMi l yX12_rule wsX12_rule rM_rule D (tyM cy) [.ref (ad 0), .int a1, .int a2] (wM ad cy g) (wM ad cy) post 0 0 := by
  refine j_meti (cc := cX12_rule) (nL := 4) (rt := (some .int)) (by decide) (Nat.le_of_ble_eq_true rfl) ?_
  intro Γ hC hQ _
  have hC : jC Γ l rM_rule D 4 RX12 cX12_rule wsX12_rule (tyM cy) := hC
  have hinX12 : ∀ w ∈ wsX120, w ∈ wsX12_rule := fun w h => List.mem_cons_of_mem _ (List.mem_append_right _ h)
  refine j_lv (lv' := [(0, .ref (ad 0)), (1, .int a1), (2, .int a2)]) [0, 1, 2] rfl ?_
  unfold vM_rule at hv
  refine j_aload_n (i := 0) hC dX12_rule_0 rfl 0 rfl ?_
  refine j_iconst (v := 0) hC dX12_rule_1 (by decide) ?_
  refine j_put (C := RX12) (T := TX12) (N := 22) (ty := .int) hC hinX12 tyX12 tyX12_ok nmX12 0 (wM_c0 ad cy _) rfl 0 (by decide) (mw 1 rfl) rfl rfl fdX12_0 rfl rfl (Nat.le_of_ble_eq_true rfl) (wM_p_thrown ad cy _ _) dX12_rule_2 ?_
  refine j_iload_n (i := 1) hC dX12_rule_5 rfl 1 rfl ?_
  refine j_i2l hC dX12_rule_6 ?_
  refine j_lconst (v := 0) hC dX12_rule_7 (by decide) ?_
  refine j_ldc2 (v := 7) hC dX12_rule_8 (mw 2 rfl) ?_
  refine j_callS_i (As := [.long (a1.toInt64), .long (0 : Int64), .long (7 : Int64)]) (rest := []) hC (cM_in hv) 3 gX12_rule_X12_in rfl rfl rfl ⟨Nat.le_of_ble_eq_true rfl, Nat.le_of_ble_eq_true rfl⟩ hdM_in.2 rfl rfl (Nat.le_of_ble_eq_true rfl) ⟨Nat.zero_le _, Nat.zero_le _⟩ dX12_rule_11 (fun r11 g11 hv => ?_)
  refine j_if_eq (tgt := 49) hC dX12_rule_14 (by decide) (fun h_ => ?_) (fun h_ => ?_)
  · have hv := hv.1 h_
    refine j_ldc (v := -1000001) hC dX12_rule_49 (mw 5 rfl) ?_
    exact j_iret hC hQ dX12_rule_51 rfl hv
  · have hv := hv.2 h_
    refine j_iload_n (i := 1) hC dX12_rule_17 rfl 1 rfl ?_
    refine j_iconst (v := 2) hC dX12_rule_18 (by decide) ?_
    refine j_icmp_ge (tgt := 37) hC dX12_rule_19 (by decide) (fun h_ => ?_) (fun h_ => ?_)
    · have hv := hv.1 h_
      refine j_iload_n (i := 2) hC dX12_rule_37 rfl 2 rfl ?_
      refine j_i2l hC dX12_rule_38 ?_
      refine j_lconst (v := 0) hC dX12_rule_39 (by decide) ?_
      refine j_ldc2 (v := 1000) hC dX12_rule_40 (mw 4 rfl) ?_
      refine j_callS_i (As := [.long (a2.toInt64), .long (0 : Int64), .long (1000 : Int64)]) (rest := []) hC (cM_in hv) 3 gX12_rule_X12_in rfl rfl rfl ⟨Nat.le_of_ble_eq_true rfl, Nat.le_of_ble_eq_true rfl⟩ hdM_in.2 rfl rfl (Nat.le_of_ble_eq_true rfl) ⟨Nat.zero_le _, Nat.zero_le _⟩ dX12_rule_43 (fun r43 g43 hv => ?_)
      refine j_if_ne (tgt := 52) hC dX12_rule_46 (by decide) (fun h_ => ?_) (fun h_ => ?_)
      · have hv := hv.1 h_
        exact j_lv [0, 1, 2] rfl (lM_rule_52 hC hQ _ _ _ hv)
      · have hv := hv.2 h_
        refine j_ldc (v := -1000001) hC dX12_rule_49 (mw 5 rfl) ?_
        exact j_iret hC hQ dX12_rule_51 rfl hv
    · have hv := hv.2 h_
      refine j_iload_n (i := 2) hC dX12_rule_22 rfl 2 rfl ?_
      refine j_i2l hC dX12_rule_23 ?_
      refine j_lconst (v := 1) hC dX12_rule_24 (by decide) ?_
      refine j_ldc2 (v := 3) hC dX12_rule_25 (mw 3 rfl) ?_
      refine j_callS_i (As := [.long (a2.toInt64), .long (1 : Int64), .long (3 : Int64)]) (rest := []) hC (cM_in hv) 3 gX12_rule_X12_in rfl rfl rfl ⟨Nat.le_of_ble_eq_true rfl, Nat.le_of_ble_eq_true rfl⟩ hdM_in.2 rfl rfl (Nat.le_of_ble_eq_true rfl) ⟨Nat.zero_le _, Nat.zero_le _⟩ dX12_rule_28 (fun r28 g28 hv => ?_)
      refine j_if_ne (tgt := 52) hC dX12_rule_31 (by decide) (fun h_ => ?_) (fun h_ => ?_)
      · have hv := hv.1 h_
        exact j_lv [0, 1, 2] rfl (lM_rule_52 hC hQ _ _ _ hv)
      · have hv := hv.2 h_
        refine j_goto (tgt := 49) hC dX12_rule_34 (by decide) ?_
        refine j_ldc (v := -1000001) hC dX12_rule_49 (mw 5 rfl) ?_
        exact j_iret hC hQ dX12_rule_51 rfl hv
theorem hdM_groupOf : yX12_groupOf.cls = RX12 ∧ yX12_groupOf.cls ≠ "java/lang/invoke/MethodHandle" ∧ yX12_groupOf.cls ≠ "java/lang/invoke/VarHandle" ∧ (parseMethodDescriptor yX12_groupOf.desc).map (fun d => d.parameters.length) = some 2 := by decide +kernel
abbrev rM_groupOf : Room := { frames := 0, cells := 0, slots := 0, locals := 0 }
def vM_groupOf_56 (post : Int32 → GM → Prop) (K2 : Int32 → Int32 → Int32 → GM → Prop) (K13 : Int32 → Int32 → Int32 → Int32 → Int32 → GM → Prop) (x1 : Int32) (x2 : Int32) (x3 : Int32) (x5 : Int32) (t0 : Int32) (g : GM) : Prop :=
  (K13 x1 x2 x3 t0 (x5 + (1 : Int32)) g)
def vM_groupOf_55 (post : Int32 → GM → Prop) (K2 : Int32 → Int32 → Int32 → GM → Prop) (K13 : Int32 → Int32 → Int32 → Int32 → Int32 → GM → Prop) (x1 : Int32) (x2 : Int32) (x3 : Int32) (x5 : Int32) (g : GM) : Prop :=
  (vM_groupOf_56 post K2 K13 x1 x2 x3 x5 (0 : Int32) g)
def vM_groupOf_64 (post : Int32 → GM → Prop) (K2 : Int32 → Int32 → Int32 → GM → Prop) (x1 : Int32) (x2 : Int32) (x3 : Int32) (x4 : Int32) (g : GM) : Prop :=
  ((x4 = (0 : Int32) → (K2 x1 x2 (x3 + (1 : Int32)) g)) ∧ (¬ x4 = (0 : Int32) → post x3 g))
def vM_groupOf_13 (post : Int32 → GM → Prop) (K2 : Int32 → Int32 → Int32 → GM → Prop) : Nat → Int32 → Int32 → Int32 → Int32 → Int32 → GM → Prop
  | 0, _, _, _, _, _, _ => False
  | k_ + 1, x1, x2, x3, x4, x5, g =>
  ((x2 < x5 → (vM_groupOf_64 post K2 x1 x2 x3 x4 g)) ∧ (¬ x2 < x5 → ((x4 = (0 : Int32) → (vM_groupOf_55 post K2 (fun x1 x2 x3 x4 x5 g => vM_groupOf_13 post K2 k_ x1 x2 x3 x4 x5 g) x1 x2 x3 x5 g)) ∧ (¬ x4 = (0 : Int32) → (vp_in (((8 : Int32) * x3) + x5) 64 ∧ (vp_in (((8 : Int32) * x1) + x5) 64 ∧ ((¬ ((m_sea g) (((8 : Int32) * x3) + x5).toNatClampNeg) = ((m_sea g) (((8 : Int32) * x1) + x5).toNatClampNeg) → (vM_groupOf_55 post K2 (fun x1 x2 x3 x4 x5 g => vM_groupOf_13 post K2 k_ x1 x2 x3 x4 x5 g) x1 x2 x3 x5 g)) ∧ (((m_sea g) (((8 : Int32) * x3) + x5).toNatClampNeg) = ((m_sea g) (((8 : Int32) * x1) + x5).toNatClampNeg) → (vM_groupOf_56 post K2 (fun x1 x2 x3 x4 x5 g => vM_groupOf_13 post K2 k_ x1 x2 x3 x4 x5 g) x1 x2 x3 x5 (1 : Int32) g)))))))))
def vM_groupOf_2 (post : Int32 → GM → Prop) : Nat → Int32 → Int32 → Int32 → GM → Prop
  | 0, _, _, _, _ => False
  | k_ + 1, x1, x2, x3, g =>
  ((x1 ≤ x3 → post x1 g) ∧ (¬ x1 ≤ x3 → (∃ n_ : Nat, vM_groupOf_13 post (fun x1 x2 x3 g => vM_groupOf_2 post k_ x1 x2 x3 g) n_ x1 x2 x3 (1 : Int32) (0 : Int32) g)))
def vM_groupOf (g : GM) (a1 : Int32) (a2 : Int32) (post : Int32 → GM → Prop) : Prop :=
  (∃ n_ : Nat, vM_groupOf_2 post n_ a1 a2 (0 : Int32) g)
set_option maxHeartbeats 4000000 in
set_option maxRecDepth 100000 in
theorem lM_groupOf_56 {Γ : jG} {l : Launch} {D : va_G} {ad : Nat → Nat} {cy : Nat → ClassId} {post : Int32 → GM → Prop} (hC : jC Γ l rM_groupOf D 6 RX12 cX12_groupOf wsX12_groupOf (tyM cy)) (hQ : jQi Γ D (wM ad cy) post (some .int) 0 0) {K2 : Int32 → Int32 → Int32 → GM → Prop} (hK2 : ∀ (x1 : Int32) (x2 : Int32) (x3 : Int32) (g : GM), K2 x1 x2 x3 g → J Γ D 6 0 0 (wM ad cy g) 2 [(0, .ref (ad 0)), (1, .int x1), (2, .int x2), (3, .int x3)] []) {K13 : Int32 → Int32 → Int32 → Int32 → Int32 → GM → Prop} (hK13 : ∀ (x1 : Int32) (x2 : Int32) (x3 : Int32) (x4 : Int32) (x5 : Int32) (g : GM), K13 x1 x2 x3 x4 x5 g → J Γ D 6 0 0 (wM ad cy g) 13 [(0, .ref (ad 0)), (1, .int x1), (2, .int x2), (3, .int x3), (4, .int x4), (5, .int x5)] []) : ∀ (x1 : Int32) (x2 : Int32) (x3 : Int32) (x5 : Int32) (t0 : Int32) (g : GM), vM_groupOf_56 post K2 K13 x1 x2 x3 x5 t0 g → J Γ D 6 0 0 (wM ad cy g) 56 [(0, .ref (ad 0)), (1, .int x1), (2, .int x2), (3, .int x3), (5, .int x5)] [.int t0] := by
  have hinX12 : ∀ w ∈ wsX120, w ∈ wsX12_groupOf := fun w h => List.mem_cons_of_mem _ (List.mem_append_right _ h)
  intro x1 x2 x3 x5 t0 g hv
  unfold vM_groupOf_56 at hv
  refine j_istore (lv' := [(4, .int t0), (0, .ref (ad 0)), (1, .int x1), (2, .int x2), (3, .int x3), (5, .int x5)]) hC dX12_groupOf_56 (by decide) rfl ?_
  refine j_iinc (k := 5) (v := (x5 + (1 : Int32))) (lv' := [(5, .int (x5 + (1 : Int32))), (4, .int t0), (0, .ref (ad 0)), (1, .int x1), (2, .int x2), (3, .int x3)]) hC dX12_groupOf_58 rfl rfl (by decide) rfl ?_
  refine j_goto (tgt := 13) hC dX12_groupOf_61 (by decide) ?_
  exact j_lv [2, 3, 4, 5, 1, 0] rfl (hK13 _ _ _ _ _ _ hv)
set_option maxHeartbeats 4000000 in
set_option maxRecDepth 100000 in
theorem lM_groupOf_55 {Γ : jG} {l : Launch} {D : va_G} {ad : Nat → Nat} {cy : Nat → ClassId} {post : Int32 → GM → Prop} (hC : jC Γ l rM_groupOf D 6 RX12 cX12_groupOf wsX12_groupOf (tyM cy)) (hQ : jQi Γ D (wM ad cy) post (some .int) 0 0) {K2 : Int32 → Int32 → Int32 → GM → Prop} (hK2 : ∀ (x1 : Int32) (x2 : Int32) (x3 : Int32) (g : GM), K2 x1 x2 x3 g → J Γ D 6 0 0 (wM ad cy g) 2 [(0, .ref (ad 0)), (1, .int x1), (2, .int x2), (3, .int x3)] []) {K13 : Int32 → Int32 → Int32 → Int32 → Int32 → GM → Prop} (hK13 : ∀ (x1 : Int32) (x2 : Int32) (x3 : Int32) (x4 : Int32) (x5 : Int32) (g : GM), K13 x1 x2 x3 x4 x5 g → J Γ D 6 0 0 (wM ad cy g) 13 [(0, .ref (ad 0)), (1, .int x1), (2, .int x2), (3, .int x3), (4, .int x4), (5, .int x5)] []) : ∀ (x1 : Int32) (x2 : Int32) (x3 : Int32) (x5 : Int32) (g : GM), vM_groupOf_55 post K2 K13 x1 x2 x3 x5 g → J Γ D 6 0 0 (wM ad cy g) 55 [(0, .ref (ad 0)), (1, .int x1), (2, .int x2), (3, .int x3), (5, .int x5)] [] := by
  have hinX12 : ∀ w ∈ wsX120, w ∈ wsX12_groupOf := fun w h => List.mem_cons_of_mem _ (List.mem_append_right _ h)
  intro x1 x2 x3 x5 g hv
  unfold vM_groupOf_55 at hv
  refine j_iconst (v := 0) hC dX12_groupOf_55 (by decide) ?_
  exact j_lv [0, 1, 2, 3, 4] rfl (lM_groupOf_56 hC hQ hK2 hK13 _ _ _ _ _ _ hv)
set_option maxHeartbeats 4000000 in
set_option maxRecDepth 100000 in
theorem lM_groupOf_64 {Γ : jG} {l : Launch} {D : va_G} {ad : Nat → Nat} {cy : Nat → ClassId} {post : Int32 → GM → Prop} (hC : jC Γ l rM_groupOf D 6 RX12 cX12_groupOf wsX12_groupOf (tyM cy)) (hQ : jQi Γ D (wM ad cy) post (some .int) 0 0) {K2 : Int32 → Int32 → Int32 → GM → Prop} (hK2 : ∀ (x1 : Int32) (x2 : Int32) (x3 : Int32) (g : GM), K2 x1 x2 x3 g → J Γ D 6 0 0 (wM ad cy g) 2 [(0, .ref (ad 0)), (1, .int x1), (2, .int x2), (3, .int x3)] []) : ∀ (x1 : Int32) (x2 : Int32) (x3 : Int32) (x4 : Int32) (g : GM), vM_groupOf_64 post K2 x1 x2 x3 x4 g → J Γ D 6 0 0 (wM ad cy g) 64 [(0, .ref (ad 0)), (1, .int x1), (2, .int x2), (3, .int x3), (4, .int x4)] [] := by
  have hinX12 : ∀ w ∈ wsX120, w ∈ wsX12_groupOf := fun w h => List.mem_cons_of_mem _ (List.mem_append_right _ h)
  intro x1 x2 x3 x4 g hv
  unfold vM_groupOf_64 at hv
  refine j_iload hC dX12_groupOf_64 4 rfl ?_
  refine j_if_eq (tgt := 71) hC dX12_groupOf_66 (by decide) (fun h_ => ?_) (fun h_ => ?_)
  · have hv := hv.1 h_
    refine j_iinc (k := 3) (v := (x3 + (1 : Int32))) (lv' := [(3, .int (x3 + (1 : Int32))), (0, .ref (ad 0)), (1, .int x1), (2, .int x2), (4, .int x4)]) hC dX12_groupOf_71 rfl rfl (by decide) rfl ?_
    refine j_goto (tgt := 2) hC dX12_groupOf_74 (by decide) ?_
    exact j_lv [1, 2, 3, 0] rfl (hK2 _ _ _ _ hv)
  · have hv := hv.2 h_
    refine j_iload_n (i := 3) hC dX12_groupOf_69 rfl 3 rfl ?_
    exact j_iret hC hQ dX12_groupOf_70 rfl hv
set_option maxHeartbeats 4000000 in
set_option maxRecDepth 100000 in
theorem lM_groupOf_13 {Γ : jG} {l : Launch} {D : va_G} {ad : Nat → Nat} {cy : Nat → ClassId} {post : Int32 → GM → Prop} (hC : jC Γ l rM_groupOf D 6 RX12 cX12_groupOf wsX12_groupOf (tyM cy)) (hQ : jQi Γ D (wM ad cy) post (some .int) 0 0) {K2 : Int32 → Int32 → Int32 → GM → Prop} (hK2 : ∀ (x1 : Int32) (x2 : Int32) (x3 : Int32) (g : GM), K2 x1 x2 x3 g → J Γ D 6 0 0 (wM ad cy g) 2 [(0, .ref (ad 0)), (1, .int x1), (2, .int x2), (3, .int x3)] []) : ∀ (n_ : Nat) (x1 : Int32) (x2 : Int32) (x3 : Int32) (x4 : Int32) (x5 : Int32) (g : GM), vM_groupOf_13 post K2 n_ x1 x2 x3 x4 x5 g → J Γ D 6 0 0 (wM ad cy g) 13 [(0, .ref (ad 0)), (1, .int x1), (2, .int x2), (3, .int x3), (4, .int x4), (5, .int x5)] [] := by
  have hinX12 : ∀ w ∈ wsX120, w ∈ wsX12_groupOf := fun w h => List.mem_cons_of_mem _ (List.mem_append_right _ h)
  intro n_
  induction n_ with
  | zero => intro x1 x2 x3 x4 x5 g hv; exact False.elim hv
  | succ k_ ih =>
    intro x1 x2 x3 x4 x5 g hv
    unfold vM_groupOf_13 at hv
    refine j_iload hC dX12_groupOf_13 5 rfl ?_
    refine j_iload_n (i := 2) hC dX12_groupOf_15 rfl 2 rfl ?_
    refine j_icmp_gt (tgt := 64) hC dX12_groupOf_16 (by decide) (fun h_ => ?_) (fun h_ => ?_)
    · have hv := hv.1 h_
      exact j_lv [0, 1, 2, 3, 4] rfl (lM_groupOf_64 hC hQ hK2 _ _ _ _ _ hv)
    · have hv := hv.2 h_
      refine j_iload hC dX12_groupOf_19 4 rfl ?_
      refine j_if_eq (tgt := 55) hC dX12_groupOf_21 (by decide) (fun h_ => ?_) (fun h_ => ?_)
      · have hv := hv.1 h_
        exact j_lv [0, 1, 2, 3, 5] rfl (lM_groupOf_55 hC hQ hK2 (K13 := fun x1 x2 x3 x4 x5 g => vM_groupOf_13 post K2 k_ x1 x2 x3 x4 x5 g) (fun _ _ _ _ _ _ h_ => ih _ _ _ _ _ _ h_) _ _ _ _ _ hv)
      · have hv := hv.2 h_
        refine j_aload_n (i := 0) hC dX12_groupOf_24 rfl 0 rfl ?_
        refine j_get (C := RX12) (T := TX12) (N := 22) (v := .ref (ad 7)) hC hinX12 0 (wM_c0 ad cy _) rfl 9 (by decide) (mw 1 rfl) rfl rfl dX12_groupOf_25 ?_
        refine j_bipush (v := 8) hC dX12_groupOf_28 (by decide) ?_
        refine j_iload_n (i := 3) hC dX12_groupOf_30 rfl 3 rfl ?_
        refine j_imul hC dX12_groupOf_31 ?_
        refine j_iload hC dX12_groupOf_32 5 rfl ?_
        refine j_iadd hC dX12_groupOf_34 ?_
        refine j_iald (v := ((m_sea g) (((8 : Int32) * x3) + x5).toNatClampNeg)) hC 7 0 (wM_c7 ad cy _) rfl hv.1 rfl dX12_groupOf_35 ?_
        have hv := hv.2
        refine j_aload_n (i := 0) hC dX12_groupOf_36 rfl 0 rfl ?_
        refine j_get (C := RX12) (T := TX12) (N := 22) (v := .ref (ad 7)) hC hinX12 0 (wM_c0 ad cy _) rfl 9 (by decide) (mw 1 rfl) rfl rfl dX12_groupOf_37 ?_
        refine j_bipush (v := 8) hC dX12_groupOf_40 (by decide) ?_
        refine j_iload_n (i := 1) hC dX12_groupOf_42 rfl 1 rfl ?_
        refine j_imul hC dX12_groupOf_43 ?_
        refine j_iload hC dX12_groupOf_44 5 rfl ?_
        refine j_iadd hC dX12_groupOf_46 ?_
        refine j_iald (v := ((m_sea g) (((8 : Int32) * x1) + x5).toNatClampNeg)) hC 7 0 (wM_c7 ad cy _) rfl hv.1 rfl dX12_groupOf_47 ?_
        have hv := hv.2
        refine j_icmp_ne (tgt := 55) hC dX12_groupOf_48 (by decide) (fun h_ => ?_) (fun h_ => ?_)
        · have hv := hv.1 h_
          exact j_lv [0, 1, 2, 3, 5] rfl (lM_groupOf_55 hC hQ hK2 (K13 := fun x1 x2 x3 x4 x5 g => vM_groupOf_13 post K2 k_ x1 x2 x3 x4 x5 g) (fun _ _ _ _ _ _ h_ => ih _ _ _ _ _ _ h_) _ _ _ _ _ hv)
        · have hv := hv.2 h_
          refine j_iconst (v := 1) hC dX12_groupOf_51 (by decide) ?_
          refine j_goto (tgt := 56) hC dX12_groupOf_52 (by decide) ?_
          exact j_lv [0, 1, 2, 3, 5] rfl (lM_groupOf_56 hC hQ hK2 (K13 := fun x1 x2 x3 x4 x5 g => vM_groupOf_13 post K2 k_ x1 x2 x3 x4 x5 g) (fun _ _ _ _ _ _ h_ => ih _ _ _ _ _ _ h_) _ _ _ _ _ _ hv)
set_option maxHeartbeats 4000000 in
set_option maxRecDepth 100000 in
theorem lM_groupOf_2 {Γ : jG} {l : Launch} {D : va_G} {ad : Nat → Nat} {cy : Nat → ClassId} {post : Int32 → GM → Prop} (hC : jC Γ l rM_groupOf D 6 RX12 cX12_groupOf wsX12_groupOf (tyM cy)) (hQ : jQi Γ D (wM ad cy) post (some .int) 0 0) : ∀ (n_ : Nat) (x1 : Int32) (x2 : Int32) (x3 : Int32) (g : GM), vM_groupOf_2 post n_ x1 x2 x3 g → J Γ D 6 0 0 (wM ad cy g) 2 [(0, .ref (ad 0)), (1, .int x1), (2, .int x2), (3, .int x3)] [] := by
  have hinX12 : ∀ w ∈ wsX120, w ∈ wsX12_groupOf := fun w h => List.mem_cons_of_mem _ (List.mem_append_right _ h)
  intro n_
  induction n_ with
  | zero => intro x1 x2 x3 g hv; exact False.elim hv
  | succ k_ ih =>
    intro x1 x2 x3 g hv
    unfold vM_groupOf_2 at hv
    refine j_iload_n (i := 3) hC dX12_groupOf_2 rfl 3 rfl ?_
    refine j_iload_n (i := 1) hC dX12_groupOf_3 rfl 1 rfl ?_
    refine j_icmp_ge (tgt := 77) hC dX12_groupOf_4 (by decide) (fun h_ => ?_) (fun h_ => ?_)
    · have hv := hv.1 h_
      refine j_iload_n (i := 1) hC dX12_groupOf_77 rfl 1 rfl ?_
      exact j_iret hC hQ dX12_groupOf_78 rfl hv
    · have hv := hv.2 h_
      refine j_iconst (v := 1) hC dX12_groupOf_7 (by decide) ?_
      refine j_istore (lv' := [(4, .int (1 : Int32)), (0, .ref (ad 0)), (1, .int x1), (2, .int x2), (3, .int x3)]) hC dX12_groupOf_8 (by decide) rfl ?_
      refine j_iconst (v := 0) hC dX12_groupOf_10 (by decide) ?_
      refine j_istore (lv' := [(5, .int (0 : Int32)), (4, .int (1 : Int32)), (0, .ref (ad 0)), (1, .int x1), (2, .int x2), (3, .int x3)]) hC dX12_groupOf_11 (by decide) rfl ?_
      obtain ⟨n_, hv⟩ := hv
      exact j_lv [2, 3, 4, 5, 1, 0] rfl (lM_groupOf_13 hC hQ (K2 := fun x1 x2 x3 g => vM_groupOf_2 post k_ x1 x2 x3 g) (fun _ _ _ _ h_ => ih _ _ _ _ h_) n_ _ _ _ _ _ _ hv)
set_option maxHeartbeats 4000000 in
set_option maxRecDepth 100000 in
theorem cM_groupOf {l : Launch} {D : va_G} {ad : Nat → Nat} {cy : Nat → ClassId} {g : GM} {a1 : Int32} {a2 : Int32} {post : Int32 → GM → Prop} (hv : vM_groupOf g a1 a2 post) : jMi l yX12_groupOf wsX12_groupOf rM_groupOf D (tyM cy) [.ref (ad 0), .int a1, .int a2] (wM ad cy g) (wM ad cy) post 0 0 := by
  refine j_meti (cc := cX12_groupOf) (nL := 6) (rt := (some .int)) (by decide) (Nat.le_of_ble_eq_true rfl) ?_
  intro Γ hC hQ _
  have hC : jC Γ l rM_groupOf D 6 RX12 cX12_groupOf wsX12_groupOf (tyM cy) := hC
  have hinX12 : ∀ w ∈ wsX120, w ∈ wsX12_groupOf := fun w h => List.mem_cons_of_mem _ (List.mem_append_right _ h)
  refine j_lv (lv' := [(0, .ref (ad 0)), (1, .int a1), (2, .int a2)]) [0, 1, 2] rfl ?_
  unfold vM_groupOf at hv
  refine j_iconst (v := 0) hC dX12_groupOf_0 (by decide) ?_
  refine j_istore_n (i := 3) (lv' := [(3, .int (0 : Int32)), (0, .ref (ad 0)), (1, .int a1), (2, .int a2)]) hC dX12_groupOf_1 rfl (by decide) rfl ?_
  obtain ⟨n_, hv⟩ := hv
  exact j_lv [1, 2, 3, 0] rfl (lM_groupOf_2 hC hQ n_ _ _ _ _ hv)
theorem hdM_stateIn : yX12_stateIn.cls = RX12 ∧ yX12_stateIn.cls ≠ "java/lang/invoke/MethodHandle" ∧ yX12_stateIn.cls ≠ "java/lang/invoke/VarHandle" ∧ (parseMethodDescriptor yX12_stateIn.desc).map (fun d => d.parameters.length) = some 2 := by decide +kernel
abbrev rM_stateIn : Room := { frames := 0, cells := 0, slots := 0, locals := 0 }
def vM_stateIn (g : GM) (a0 : Int32) (a1 : Int32) (post : Int32 → GM → Prop) : Prop :=
  ((¬ a0 = (0 : Int32) → (((3 : Int32) ≤ a0 → (((6 : Int32) ≤ a0 → ((a1 = (0 : Int32) → post (2 : Int32) g) ∧ (¬ a1 = (0 : Int32) → post (3 : Int32) g))) ∧ (¬ (6 : Int32) ≤ a0 → post (3 : Int32) g))) ∧ (¬ (3 : Int32) ≤ a0 → post (1 : Int32) g))) ∧ (a0 = (0 : Int32) → ((a1 = (0 : Int32) → post (0 : Int32) g) ∧ (¬ a1 = (0 : Int32) → post (1 : Int32) g))))
set_option maxHeartbeats 4000000 in
set_option maxRecDepth 100000 in
theorem cM_stateIn {l : Launch} {D : va_G} {ad : Nat → Nat} {cy : Nat → ClassId} {g : GM} {a0 : Int32} {a1 : Int32} {post : Int32 → GM → Prop} (hv : vM_stateIn g a0 a1 post) : jMi l yX12_stateIn wsX12_stateIn rM_stateIn D (tyM cy) [.int a0, .int a1] (wM ad cy g) (wM ad cy) post 0 0 := by
  refine j_meti (cc := cX12_stateIn) (nL := 2) (rt := (some .int)) (by decide) (Nat.le_of_ble_eq_true rfl) ?_
  intro Γ hC hQ _
  have hC : jC Γ l rM_stateIn D 2 RX12 cX12_stateIn wsX12_stateIn (tyM cy) := hC
  refine j_lv (lv' := [(0, .int a0), (1, .int a1)]) [0, 1] rfl ?_
  unfold vM_stateIn at hv
  refine j_iload_n (i := 0) hC dX12_stateIn_0 rfl 0 rfl ?_
  refine j_if_ne (tgt := 14) hC dX12_stateIn_1 (by decide) (fun h_ => ?_) (fun h_ => ?_)
  · have hv := hv.1 h_
    refine j_iload_n (i := 0) hC dX12_stateIn_14 rfl 0 rfl ?_
    refine j_iconst (v := 3) hC dX12_stateIn_15 (by decide) ?_
    refine j_icmp_ge (tgt := 23) hC dX12_stateIn_16 (by decide) (fun h_ => ?_) (fun h_ => ?_)
    · have hv := hv.1 h_
      refine j_iload_n (i := 0) hC dX12_stateIn_23 rfl 0 rfl ?_
      refine j_bipush (v := 6) hC dX12_stateIn_24 (by decide) ?_
      refine j_icmp_ge (tgt := 33) hC dX12_stateIn_26 (by decide) (fun h_ => ?_) (fun h_ => ?_)
      · have hv := hv.1 h_
        refine j_iload_n (i := 1) hC dX12_stateIn_33 rfl 1 rfl ?_
        refine j_if_eq (tgt := 41) hC dX12_stateIn_34 (by decide) (fun h_ => ?_) (fun h_ => ?_)
        · have hv := hv.1 h_
          refine j_iconst (v := 2) hC dX12_stateIn_41 (by decide) ?_
          exact j_iret hC hQ dX12_stateIn_42 rfl hv
        · have hv := hv.2 h_
          refine j_iconst (v := 3) hC dX12_stateIn_37 (by decide) ?_
          refine j_goto (tgt := 42) hC dX12_stateIn_38 (by decide) ?_
          exact j_iret hC hQ dX12_stateIn_42 rfl hv
      · have hv := hv.2 h_
        refine j_iconst (v := 3) hC dX12_stateIn_29 (by decide) ?_
        refine j_goto (tgt := 42) hC dX12_stateIn_30 (by decide) ?_
        exact j_iret hC hQ dX12_stateIn_42 rfl hv
    · have hv := hv.2 h_
      refine j_iconst (v := 1) hC dX12_stateIn_19 (by decide) ?_
      refine j_goto (tgt := 42) hC dX12_stateIn_20 (by decide) ?_
      exact j_iret hC hQ dX12_stateIn_42 rfl hv
  · have hv := hv.2 h_
    refine j_iload_n (i := 1) hC dX12_stateIn_4 rfl 1 rfl ?_
    refine j_if_eq (tgt := 12) hC dX12_stateIn_5 (by decide) (fun h_ => ?_) (fun h_ => ?_)
    · have hv := hv.1 h_
      refine j_iconst (v := 0) hC dX12_stateIn_12 (by decide) ?_
      exact j_iret hC hQ dX12_stateIn_13 rfl hv
    · have hv := hv.2 h_
      refine j_iconst (v := 1) hC dX12_stateIn_8 (by decide) ?_
      refine j_goto (tgt := 13) hC dX12_stateIn_9 (by decide) ?_
      exact j_iret hC hQ dX12_stateIn_13 rfl hv
theorem hdM_after : yX12_after.cls = RX12 ∧ yX12_after.cls ≠ "java/lang/invoke/MethodHandle" ∧ yX12_after.cls ≠ "java/lang/invoke/VarHandle" ∧ (parseMethodDescriptor yX12_after.desc).map (fun d => d.parameters.length) = some 3 := by decide +kernel
abbrev rM_after : Room := { frames := 0, cells := 0, slots := 0, locals := 0 }
def vM_after (g : GM) (a1 : Int32) (a2 : Int32) (a3 : Int32) (post : Int32 → GM → Prop) : Prop :=
  ((¬ a1 = (0 : Int32) → (((3 : Int32) ≤ a1 → (((6 : Int32) ≤ a1 → ((¬ a2 = (0 : Int32) → ((¬ ((m_rule g) 1) = (1 : Int32) → post (((3 : Int32) + ((m_rule g) 1)) - (1 : Int32)) g) ∧ (((m_rule g) 1) = (1 : Int32) → post (0 : Int32) g))) ∧ (a2 = (0 : Int32) → post a1 g))) ∧ (¬ (6 : Int32) ≤ a1 → ((¬ a1 = (4 : Int32) → post (a1 - (1 : Int32)) g) ∧ (a1 = (4 : Int32) → post (0 : Int32) g))))) ∧ (¬ (3 : Int32) ≤ a1 → ((¬ a1 = (1 : Int32) → post (a1 - (1 : Int32)) g) ∧ (a1 = (1 : Int32) → post (((8 : Int32) + a3) + (1 : Int32)) g))))) ∧ (a1 = (0 : Int32) → ((¬ a2 = (0 : Int32) → ((¬ ((m_rule g) 0) = (1 : Int32) → post (((0 : Int32) + ((m_rule g) 0)) - (1 : Int32)) g) ∧ (((m_rule g) 0) = (1 : Int32) → post (((8 : Int32) + a3) + (1 : Int32)) g))) ∧ (a2 = (0 : Int32) → post (0 : Int32) g))))
set_option maxHeartbeats 4000000 in
set_option maxRecDepth 100000 in
theorem cM_after {l : Launch} {D : va_G} {ad : Nat → Nat} {cy : Nat → ClassId} {g : GM} {a1 : Int32} {a2 : Int32} {a3 : Int32} {post : Int32 → GM → Prop} (hv : vM_after g a1 a2 a3 post) : jMi l yX12_after wsX12_after rM_after D (tyM cy) [.ref (ad 0), .int a1, .int a2, .int a3] (wM ad cy g) (wM ad cy) post 0 0 := by
  refine j_meti (cc := cX12_after) (nL := 4) (rt := (some .int)) (by decide) (Nat.le_of_ble_eq_true rfl) ?_
  intro Γ hC hQ _
  have hC : jC Γ l rM_after D 4 RX12 cX12_after wsX12_after (tyM cy) := hC
  have hinX12 : ∀ w ∈ wsX120, w ∈ wsX12_after := fun w h => List.mem_cons_of_mem _ (List.mem_append_right _ h)
  refine j_lv (lv' := [(0, .ref (ad 0)), (1, .int a1), (2, .int a2), (3, .int a3)]) [0, 1, 2, 3] rfl ?_
  unfold vM_after at hv
  refine j_iload_n (i := 1) hC dX12_after_0 rfl 1 rfl ?_
  refine j_if_ne (tgt := 42) hC dX12_after_1 (by decide) (fun h_ => ?_) (fun h_ => ?_)
  · have hv := hv.1 h_
    refine j_iload_n (i := 1) hC dX12_after_42 rfl 1 rfl ?_
    refine j_iconst (v := 3) hC dX12_after_43 (by decide) ?_
    refine j_icmp_ge (tgt := 65) hC dX12_after_44 (by decide) (fun h_ => ?_) (fun h_ => ?_)
    · have hv := hv.1 h_
      refine j_iload_n (i := 1) hC dX12_after_65 rfl 1 rfl ?_
      refine j_bipush (v := 6) hC dX12_after_66 (by decide) ?_
      refine j_icmp_ge (tgt := 84) hC dX12_after_68 (by decide) (fun h_ => ?_) (fun h_ => ?_)
      · have hv := hv.1 h_
        refine j_iload_n (i := 2) hC dX12_after_84 rfl 2 rfl ?_
        refine j_if_ne (tgt := 92) hC dX12_after_85 (by decide) (fun h_ => ?_) (fun h_ => ?_)
        · have hv := hv.1 h_
          refine j_aload_n (i := 0) hC dX12_after_92 rfl 0 rfl ?_
          refine j_get (C := RX12) (T := TX12) (N := 22) (v := .ref (ad 1)) hC hinX12 0 (wM_c0 ad cy _) rfl 2 (by decide) (mw 1 rfl) rfl rfl dX12_after_93 ?_
          refine j_iconst (v := 1) hC dX12_after_96 (by decide) ?_
          refine j_iald (v := ((m_rule g) 1)) hC 1 0 (wM_c1 ad cy _) rfl (jin_lit (by decide)) rfl dX12_after_97 ?_
          refine j_iconst (v := 1) hC dX12_after_98 (by decide) ?_
          refine j_icmp_ne (tgt := 106) hC dX12_after_99 (by decide) (fun h_ => ?_) (fun h_ => ?_)
          · have hv := hv.1 h_
            refine j_iconst (v := 3) hC dX12_after_106 (by decide) ?_
            refine j_aload_n (i := 0) hC dX12_after_107 rfl 0 rfl ?_
            refine j_get (C := RX12) (T := TX12) (N := 22) (v := .ref (ad 1)) hC hinX12 0 (wM_c0 ad cy _) rfl 2 (by decide) (mw 1 rfl) rfl rfl dX12_after_108 ?_
            refine j_iconst (v := 1) hC dX12_after_111 (by decide) ?_
            refine j_iald (v := ((m_rule g) 1)) hC 1 0 (wM_c1 ad cy _) rfl (jin_lit (by decide)) rfl dX12_after_112 ?_
            refine j_iadd hC dX12_after_113 ?_
            refine j_iconst (v := 1) hC dX12_after_114 (by decide) ?_
            refine j_isub hC dX12_after_115 ?_
            exact j_iret hC hQ dX12_after_116 rfl hv
          · have hv := hv.2 h_
            refine j_iconst (v := 0) hC dX12_after_102 (by decide) ?_
            refine j_goto (tgt := 116) hC dX12_after_103 (by decide) ?_
            exact j_iret hC hQ dX12_after_116 rfl hv
        · have hv := hv.2 h_
          refine j_iload_n (i := 1) hC dX12_after_88 rfl 1 rfl ?_
          refine j_goto (tgt := 116) hC dX12_after_89 (by decide) ?_
          exact j_iret hC hQ dX12_after_116 rfl hv
      · have hv := hv.2 h_
        refine j_iload_n (i := 1) hC dX12_after_71 rfl 1 rfl ?_
        refine j_iconst (v := 4) hC dX12_after_72 (by decide) ?_
        refine j_icmp_ne (tgt := 80) hC dX12_after_73 (by decide) (fun h_ => ?_) (fun h_ => ?_)
        · have hv := hv.1 h_
          refine j_iload_n (i := 1) hC dX12_after_80 rfl 1 rfl ?_
          refine j_iconst (v := 1) hC dX12_after_81 (by decide) ?_
          refine j_isub hC dX12_after_82 ?_
          exact j_iret hC hQ dX12_after_83 rfl hv
        · have hv := hv.2 h_
          refine j_iconst (v := 0) hC dX12_after_76 (by decide) ?_
          refine j_goto (tgt := 83) hC dX12_after_77 (by decide) ?_
          exact j_iret hC hQ dX12_after_83 rfl hv
    · have hv := hv.2 h_
      refine j_iload_n (i := 1) hC dX12_after_47 rfl 1 rfl ?_
      refine j_iconst (v := 1) hC dX12_after_48 (by decide) ?_
      refine j_icmp_ne (tgt := 61) hC dX12_after_49 (by decide) (fun h_ => ?_) (fun h_ => ?_)
      · have hv := hv.1 h_
        refine j_iload_n (i := 1) hC dX12_after_61 rfl 1 rfl ?_
        refine j_iconst (v := 1) hC dX12_after_62 (by decide) ?_
        refine j_isub hC dX12_after_63 ?_
        exact j_iret hC hQ dX12_after_64 rfl hv
      · have hv := hv.2 h_
        refine j_bipush (v := 8) hC dX12_after_52 (by decide) ?_
        refine j_iload_n (i := 3) hC dX12_after_54 rfl 3 rfl ?_
        refine j_iadd hC dX12_after_55 ?_
        refine j_iconst (v := 1) hC dX12_after_56 (by decide) ?_
        refine j_iadd hC dX12_after_57 ?_
        refine j_goto (tgt := 64) hC dX12_after_58 (by decide) ?_
        exact j_iret hC hQ dX12_after_64 rfl hv
  · have hv := hv.2 h_
    refine j_iload_n (i := 2) hC dX12_after_4 rfl 2 rfl ?_
    refine j_if_ne (tgt := 12) hC dX12_after_5 (by decide) (fun h_ => ?_) (fun h_ => ?_)
    · have hv := hv.1 h_
      refine j_aload_n (i := 0) hC dX12_after_12 rfl 0 rfl ?_
      refine j_get (C := RX12) (T := TX12) (N := 22) (v := .ref (ad 1)) hC hinX12 0 (wM_c0 ad cy _) rfl 2 (by decide) (mw 1 rfl) rfl rfl dX12_after_13 ?_
      refine j_iconst (v := 0) hC dX12_after_16 (by decide) ?_
      refine j_iald (v := ((m_rule g) 0)) hC 1 0 (wM_c1 ad cy _) rfl (jin_lit (by decide)) rfl dX12_after_17 ?_
      refine j_iconst (v := 1) hC dX12_after_18 (by decide) ?_
      refine j_icmp_ne (tgt := 31) hC dX12_after_19 (by decide) (fun h_ => ?_) (fun h_ => ?_)
      · have hv := hv.1 h_
        refine j_iconst (v := 0) hC dX12_after_31 (by decide) ?_
        refine j_aload_n (i := 0) hC dX12_after_32 rfl 0 rfl ?_
        refine j_get (C := RX12) (T := TX12) (N := 22) (v := .ref (ad 1)) hC hinX12 0 (wM_c0 ad cy _) rfl 2 (by decide) (mw 1 rfl) rfl rfl dX12_after_33 ?_
        refine j_iconst (v := 0) hC dX12_after_36 (by decide) ?_
        refine j_iald (v := ((m_rule g) 0)) hC 1 0 (wM_c1 ad cy _) rfl (jin_lit (by decide)) rfl dX12_after_37 ?_
        refine j_iadd hC dX12_after_38 ?_
        refine j_iconst (v := 1) hC dX12_after_39 (by decide) ?_
        refine j_isub hC dX12_after_40 ?_
        exact j_iret hC hQ dX12_after_41 rfl hv
      · have hv := hv.2 h_
        refine j_bipush (v := 8) hC dX12_after_22 (by decide) ?_
        refine j_iload_n (i := 3) hC dX12_after_24 rfl 3 rfl ?_
        refine j_iadd hC dX12_after_25 ?_
        refine j_iconst (v := 1) hC dX12_after_26 (by decide) ?_
        refine j_iadd hC dX12_after_27 ?_
        refine j_goto (tgt := 41) hC dX12_after_28 (by decide) ?_
        exact j_iret hC hQ dX12_after_41 rfl hv
    · have hv := hv.2 h_
      refine j_iconst (v := 0) hC dX12_after_8 (by decide) ?_
      refine j_goto (tgt := 41) hC dX12_after_9 (by decide) ?_
      exact j_iret hC hQ dX12_after_41 rfl hv
theorem hdM_waterIn : yX12_waterIn.cls = RX12 ∧ yX12_waterIn.cls ≠ "java/lang/invoke/MethodHandle" ∧ yX12_waterIn.cls ≠ "java/lang/invoke/VarHandle" ∧ (parseMethodDescriptor yX12_waterIn.desc).map (fun d => d.parameters.length) = some 4 := by decide +kernel
abbrev rM_waterIn : Room := { frames := 1, cells := 0, slots := 0, locals := 21 }
def vM_waterIn_48 (post : Int32 → GM → Prop) : Nat → Int32 → Int32 → Int32 → GM → Prop
  | 0, _, _, _, _ => False
  | k_ + 1, x4, x6, x7, g =>
  ((x4 < x7 → post x6 g) ∧ (¬ x4 < x7 → (vp_in x7 8 ∧ (vM_waterIn_48 post k_ x4 (x6 + ((m_river g) x7.toNatClampNeg)) (x7 + (1 : Int32)) g))))
def vM_waterIn (g : GM) (a1 : Int32) (a2 : Int32) (a3 : Int32) (a4 : Int32) (post : Int32 → GM → Prop) : Prop :=
  (vM_stateIn g a2 a3 (fun r2 g2 => ((r2 = (2 : Int32) → (vp_in ((((8 : Int32) * a1) + (a2 - (8 : Int32))) - (1 : Int32)) 64 ∧ (∃ n_ : Nat, vM_waterIn_48 post n_ a4 ((m_sea g2) ((((8 : Int32) * a1) + (a2 - (8 : Int32))) - (1 : Int32)).toNatClampNeg) (a2 - (8 : Int32)) g2))) ∧ (¬ r2 = (2 : Int32) → (vp_in (((8 : Int32) * a1) + a4) 64 ∧ post ((m_sea g2) (((8 : Int32) * a1) + a4).toNatClampNeg) g2)))))
set_option maxHeartbeats 4000000 in
set_option maxRecDepth 100000 in
theorem lM_waterIn_48 {Γ : jG} {l : Launch} {D : va_G} {ad : Nat → Nat} {cy : Nat → ClassId} {post : Int32 → GM → Prop} (hC : jC Γ l rM_waterIn D 8 RX12 cX12_waterIn wsX12_waterIn (tyM cy)) (hQ : jQi Γ D (wM ad cy) post (some .int) 0 0) : ∀ (n_ : Nat) (x4 : Int32) (x6 : Int32) (x7 : Int32) (g : GM), vM_waterIn_48 post n_ x4 x6 x7 g → J Γ D 8 0 0 (wM ad cy g) 48 [(0, .ref (ad 0)), (4, .int x4), (6, .int x6), (7, .int x7)] [] := by
  have hinX12 : ∀ w ∈ wsX120, w ∈ wsX12_waterIn := fun w h => List.mem_cons_of_mem _ (List.mem_append_right _ h)
  intro n_
  induction n_ with
  | zero => intro x4 x6 x7 g hv; exact False.elim hv
  | succ k_ ih =>
    intro x4 x6 x7 g hv
    unfold vM_waterIn_48 at hv
    refine j_iload hC dX12_waterIn_48 3 rfl ?_
    refine j_iload hC dX12_waterIn_50 1 rfl ?_
    refine j_icmp_gt (tgt := 73) hC dX12_waterIn_52 (by decide) (fun h_ => ?_) (fun h_ => ?_)
    · have hv := hv.1 h_
      refine j_iload hC dX12_waterIn_73 2 rfl ?_
      exact j_iret hC hQ dX12_waterIn_75 rfl hv
    · have hv := hv.2 h_
      refine j_iload hC dX12_waterIn_55 2 rfl ?_
      refine j_aload_n (i := 0) hC dX12_waterIn_57 rfl 0 rfl ?_
      refine j_get (C := RX12) (T := TX12) (N := 22) (v := .ref (ad 2)) hC hinX12 0 (wM_c0 ad cy _) rfl 3 (by decide) (mw 2 rfl) rfl rfl dX12_waterIn_58 ?_
      refine j_iload hC dX12_waterIn_61 3 rfl ?_
      refine j_iald (v := ((m_river g) x7.toNatClampNeg)) hC 2 0 (wM_c2 ad cy _) rfl hv.1 rfl dX12_waterIn_63 ?_
      have hv := hv.2
      refine j_iadd hC dX12_waterIn_64 ?_
      refine j_istore (lv' := [(6, .int (x6 + ((m_river g) x7.toNatClampNeg))), (0, .ref (ad 0)), (4, .int x4), (7, .int x7)]) hC dX12_waterIn_65 (by decide) rfl ?_
      refine j_iinc (k := 3) (v := (x7 + (1 : Int32))) (lv' := [(7, .int (x7 + (1 : Int32))), (6, .int (x6 + ((m_river g) x7.toNatClampNeg))), (0, .ref (ad 0)), (4, .int x4)]) hC dX12_waterIn_67 rfl rfl (by decide) rfl ?_
      refine j_goto (tgt := 48) hC dX12_waterIn_70 (by decide) ?_
      exact j_lv [2, 3, 1, 0] rfl (ih _ _ _ _ hv)
set_option maxHeartbeats 4000000 in
set_option maxRecDepth 100000 in
theorem cM_waterIn {l : Launch} {D : va_G} {ad : Nat → Nat} {cy : Nat → ClassId} {g : GM} {a1 : Int32} {a2 : Int32} {a3 : Int32} {a4 : Int32} {post : Int32 → GM → Prop} (hv : vM_waterIn g a1 a2 a3 a4 post) : jMi l yX12_waterIn wsX12_waterIn rM_waterIn D (tyM cy) [.ref (ad 0), .int a1, .int a2, .int a3, .int a4] (wM ad cy g) (wM ad cy) post 0 0 := by
  refine j_meti (cc := cX12_waterIn) (nL := 8) (rt := (some .int)) (by decide) (Nat.le_of_ble_eq_true rfl) ?_
  intro Γ hC hQ _
  have hC : jC Γ l rM_waterIn D 8 RX12 cX12_waterIn wsX12_waterIn (tyM cy) := hC
  have hinX12 : ∀ w ∈ wsX120, w ∈ wsX12_waterIn := fun w h => List.mem_cons_of_mem _ (List.mem_append_right _ h)
  refine j_lv (lv' := [(0, .ref (ad 0)), (1, .int a1), (2, .int a2), (3, .int a3), (4, .int a4)]) [0, 1, 2, 3, 4] rfl ?_
  unfold vM_waterIn at hv
  refine j_iload_n (i := 2) hC dX12_waterIn_0 rfl 2 rfl ?_
  refine j_iload_n (i := 3) hC dX12_waterIn_1 rfl 3 rfl ?_
  refine j_callS_i (As := [.int a2, .int a3]) (rest := []) hC (cM_stateIn hv) 2 gX12_waterIn_X12_stateIn rfl rfl rfl ⟨Nat.le_of_ble_eq_true rfl, Nat.le_of_ble_eq_true rfl⟩ hdM_stateIn.2 rfl rfl (Nat.le_of_ble_eq_true rfl) ⟨Nat.zero_le _, Nat.zero_le _⟩ dX12_waterIn_2 (fun r2 g2 hv => ?_)
  refine j_iconst (v := 2) hC dX12_waterIn_5 (by decide) ?_
  refine j_icmp_eq (tgt := 22) hC dX12_waterIn_6 (by decide) (fun h_ => ?_) (fun h_ => ?_)
  · have hv := hv.1 h_
    refine j_iload_n (i := 2) hC dX12_waterIn_22 rfl 2 rfl ?_
    refine j_bipush (v := 8) hC dX12_waterIn_23 (by decide) ?_
    refine j_isub hC dX12_waterIn_25 ?_
    refine j_istore (lv' := [(5, .int (a2 - (8 : Int32))), (0, .ref (ad 0)), (1, .int a1), (2, .int a2), (3, .int a3), (4, .int a4)]) hC dX12_waterIn_26 (by decide) rfl ?_
    refine j_aload_n (i := 0) hC dX12_waterIn_28 rfl 1 rfl ?_
    refine j_get (C := RX12) (T := TX12) (N := 22) (v := .ref (ad 7)) hC hinX12 0 (wM_c0 ad cy _) rfl 9 (by decide) (mw 1 rfl) rfl rfl dX12_waterIn_29 ?_
    refine j_bipush (v := 8) hC dX12_waterIn_32 (by decide) ?_
    refine j_iload_n (i := 1) hC dX12_waterIn_34 rfl 2 rfl ?_
    refine j_imul hC dX12_waterIn_35 ?_
    refine j_iload hC dX12_waterIn_36 0 rfl ?_
    refine j_iadd hC dX12_waterIn_38 ?_
    refine j_iconst (v := 1) hC dX12_waterIn_39 (by decide) ?_
    refine j_isub hC dX12_waterIn_40 ?_
    refine j_iald (v := ((m_sea g2) ((((8 : Int32) * a1) + (a2 - (8 : Int32))) - (1 : Int32)).toNatClampNeg)) hC 7 0 (wM_c7 ad cy _) rfl hv.1 rfl dX12_waterIn_41 ?_
    have hv := hv.2
    refine j_istore (lv' := [(6, .int ((m_sea g2) ((((8 : Int32) * a1) + (a2 - (8 : Int32))) - (1 : Int32)).toNatClampNeg)), (5, .int (a2 - (8 : Int32))), (0, .ref (ad 0)), (1, .int a1), (2, .int a2), (3, .int a3), (4, .int a4)]) hC dX12_waterIn_42 (by decide) rfl ?_
    refine j_iload hC dX12_waterIn_44 1 rfl ?_
    refine j_istore (lv' := [(7, .int (a2 - (8 : Int32))), (6, .int ((m_sea g2) ((((8 : Int32) * a1) + (a2 - (8 : Int32))) - (1 : Int32)).toNatClampNeg)), (5, .int (a2 - (8 : Int32))), (0, .ref (ad 0)), (1, .int a1), (2, .int a2), (3, .int a3), (4, .int a4)]) hC dX12_waterIn_46 (by decide) rfl ?_
    obtain ⟨n_, hv⟩ := hv
    exact j_lv [3, 7, 1, 0] rfl (lM_waterIn_48 hC hQ n_ _ _ _ _ hv)
  · have hv := hv.2 h_
    refine j_aload_n (i := 0) hC dX12_waterIn_9 rfl 0 rfl ?_
    refine j_get (C := RX12) (T := TX12) (N := 22) (v := .ref (ad 7)) hC hinX12 0 (wM_c0 ad cy _) rfl 9 (by decide) (mw 1 rfl) rfl rfl dX12_waterIn_10 ?_
    refine j_bipush (v := 8) hC dX12_waterIn_13 (by decide) ?_
    refine j_iload_n (i := 1) hC dX12_waterIn_15 rfl 1 rfl ?_
    refine j_imul hC dX12_waterIn_16 ?_
    refine j_iload hC dX12_waterIn_17 4 rfl ?_
    refine j_iadd hC dX12_waterIn_19 ?_
    refine j_iald (v := ((m_sea g2) (((8 : Int32) * a1) + a4).toNatClampNeg)) hC 7 0 (wM_c7 ad cy _) rfl hv.1 rfl dX12_waterIn_20 ?_
    have hv := hv.2
    exact j_iret hC hQ dX12_waterIn_21 rfl hv
theorem hdM_lostIn : yX12_lostIn.cls = RX12 ∧ yX12_lostIn.cls ≠ "java/lang/invoke/MethodHandle" ∧ yX12_lostIn.cls ≠ "java/lang/invoke/VarHandle" ∧ (parseMethodDescriptor yX12_lostIn.desc).map (fun d => d.parameters.length) = some 4 := by decide +kernel
abbrev rM_lostIn : Room := { frames := 2, cells := 0, slots := 0, locals := 48 }
def vM_lostIn_18 (post : Int32 → GM → Prop) (x1 : Int32) (x2 : Int32) (x3 : Int32) (x4 : Int32) (t0 : Int32) (g : GM) : Prop :=
  (vM_stateIn g x2 x3 (fun r22 g22 => ((¬ r22 = (2 : Int32) → (vp_in (((8 : Int32) * x1) + x4) 64 ∧ ((((m_sea g22) (((8 : Int32) * x1) + x4).toNatClampNeg) ≤ ((m_rule g22) 2) → post (t0 + (0 : Int32)) g22) ∧ (¬ ((m_sea g22) (((8 : Int32) * x1) + x4).toNatClampNeg) ≤ ((m_rule g22) 2) → post (t0 + (((m_rule g22) 6) * (((m_sea g22) (((8 : Int32) * x1) + x4).toNatClampNeg) - ((m_rule g22) 2)))) g22)))) ∧ (r22 = (2 : Int32) → (vM_waterIn g22 x1 x2 x3 x4 (fun r35 g35 => ((r35 ≤ ((m_rule g35) 3) → post ((t0 + ((m_rule g35) 5)) + (0 : Int32)) g35) ∧ (¬ r35 ≤ ((m_rule g35) 3) → post ((t0 + ((m_rule g35) 5)) + (((m_rule g35) 7) * (r35 - ((m_rule g35) 3)))) g35))))))))
def vM_lostIn_17 (post : Int32 → GM → Prop) (x1 : Int32) (x2 : Int32) (x3 : Int32) (x4 : Int32) (g : GM) : Prop :=
  (vM_lostIn_18 post x1 x2 x3 x4 (0 : Int32) g)
def vM_lostIn (g : GM) (a1 : Int32) (a2 : Int32) (a3 : Int32) (a4 : Int32) (post : Int32 → GM → Prop) : Prop :=
  ((¬ a2 = (0 : Int32) → (vM_lostIn_17 post a1 a2 a3 a4 g)) ∧ (a2 = (0 : Int32) → ((a3 = (0 : Int32) → (vM_lostIn_17 post a1 a2 a3 a4 g)) ∧ (¬ a3 = (0 : Int32) → (vM_lostIn_18 post a1 a2 a3 a4 ((m_rule g) 4) g)))))
set_option maxHeartbeats 4000000 in
set_option maxRecDepth 100000 in
theorem lM_lostIn_18 {Γ : jG} {l : Launch} {D : va_G} {ad : Nat → Nat} {cy : Nat → ClassId} {post : Int32 → GM → Prop} (hC : jC Γ l rM_lostIn D 7 RX12 cX12_lostIn wsX12_lostIn (tyM cy)) (hQ : jQi Γ D (wM ad cy) post (some .int) 0 0) : ∀ (x1 : Int32) (x2 : Int32) (x3 : Int32) (x4 : Int32) (t0 : Int32) (g : GM), vM_lostIn_18 post x1 x2 x3 x4 t0 g → J Γ D 7 0 0 (wM ad cy g) 18 [(0, .ref (ad 0)), (1, .int x1), (2, .int x2), (3, .int x3), (4, .int x4)] [.int t0] := by
  have hinX12 : ∀ w ∈ wsX120, w ∈ wsX12_lostIn := fun w h => List.mem_cons_of_mem _ (List.mem_append_right _ h)
  intro x1 x2 x3 x4 t0 g hv
  unfold vM_lostIn_18 at hv
  refine j_istore (lv' := [(5, .int t0), (0, .ref (ad 0)), (1, .int x1), (2, .int x2), (3, .int x3), (4, .int x4)]) hC dX12_lostIn_18 (by decide) rfl ?_
  refine j_iload_n (i := 2) hC dX12_lostIn_20 rfl 3 rfl ?_
  refine j_iload_n (i := 3) hC dX12_lostIn_21 rfl 4 rfl ?_
  refine j_callS_i (As := [.int x2, .int x3]) (rest := []) hC (cM_stateIn hv) 2 gX12_lostIn_X12_stateIn rfl rfl rfl ⟨Nat.le_of_ble_eq_true rfl, Nat.le_of_ble_eq_true rfl⟩ hdM_stateIn.2 rfl rfl (Nat.le_of_ble_eq_true rfl) ⟨Nat.zero_le _, Nat.zero_le _⟩ dX12_lostIn_22 (fun r22 g22 hv => ?_)
  refine j_iconst (v := 2) hC dX12_lostIn_25 (by decide) ?_
  refine j_icmp_ne (tgt := 83) hC dX12_lostIn_26 (by decide) (fun h_ => ?_) (fun h_ => ?_)
  · have hv := hv.1 h_
    refine j_aload_n (i := 0) hC dX12_lostIn_83 rfl 1 rfl ?_
    refine j_get (C := RX12) (T := TX12) (N := 22) (v := .ref (ad 7)) hC hinX12 0 (wM_c0 ad cy _) rfl 9 (by decide) (mw 2 rfl) rfl rfl dX12_lostIn_84 ?_
    refine j_bipush (v := 8) hC dX12_lostIn_87 (by decide) ?_
    refine j_iload_n (i := 1) hC dX12_lostIn_89 rfl 2 rfl ?_
    refine j_imul hC dX12_lostIn_90 ?_
    refine j_iload hC dX12_lostIn_91 5 rfl ?_
    refine j_iadd hC dX12_lostIn_93 ?_
    refine j_iald (v := ((m_sea g22) (((8 : Int32) * x1) + x4).toNatClampNeg)) hC 7 0 (wM_c7 ad cy _) rfl hv.1 rfl dX12_lostIn_94 ?_
    have hv := hv.2
    refine j_istore (lv' := [(6, .int ((m_sea g22) (((8 : Int32) * x1) + x4).toNatClampNeg)), (5, .int t0), (0, .ref (ad 0)), (1, .int x1), (2, .int x2), (3, .int x3), (4, .int x4)]) hC dX12_lostIn_95 (by decide) rfl ?_
    refine j_iload hC dX12_lostIn_97 1 rfl ?_
    refine j_iload hC dX12_lostIn_99 0 rfl ?_
    refine j_aload_n (i := 0) hC dX12_lostIn_101 rfl 2 rfl ?_
    refine j_get (C := RX12) (T := TX12) (N := 22) (v := .ref (ad 1)) hC hinX12 0 (wM_c0 ad cy _) rfl 2 (by decide) (mw 1 rfl) rfl rfl dX12_lostIn_102 ?_
    refine j_iconst (v := 2) hC dX12_lostIn_105 (by decide) ?_
    refine j_iald (v := ((m_rule g22) 2)) hC 1 0 (wM_c1 ad cy _) rfl (jin_lit (by decide)) rfl dX12_lostIn_106 ?_
    refine j_icmp_le (tgt := 130) hC dX12_lostIn_107 (by decide) (fun h_ => ?_) (fun h_ => ?_)
    · have hv := hv.1 h_
      refine j_iconst (v := 0) hC dX12_lostIn_130 (by decide) ?_
      refine j_iadd hC dX12_lostIn_131 ?_
      exact j_iret hC hQ dX12_lostIn_132 rfl hv
    · have hv := hv.2 h_
      refine j_aload_n (i := 0) hC dX12_lostIn_110 rfl 2 rfl ?_
      refine j_get (C := RX12) (T := TX12) (N := 22) (v := .ref (ad 1)) hC hinX12 0 (wM_c0 ad cy _) rfl 2 (by decide) (mw 1 rfl) rfl rfl dX12_lostIn_111 ?_
      refine j_bipush (v := 6) hC dX12_lostIn_114 (by decide) ?_
      refine j_iald (v := ((m_rule g22) 6)) hC 1 0 (wM_c1 ad cy _) rfl (jin_lit (by decide)) rfl dX12_lostIn_116 ?_
      refine j_iload hC dX12_lostIn_117 0 rfl ?_
      refine j_aload_n (i := 0) hC dX12_lostIn_119 rfl 2 rfl ?_
      refine j_get (C := RX12) (T := TX12) (N := 22) (v := .ref (ad 1)) hC hinX12 0 (wM_c0 ad cy _) rfl 2 (by decide) (mw 1 rfl) rfl rfl dX12_lostIn_120 ?_
      refine j_iconst (v := 2) hC dX12_lostIn_123 (by decide) ?_
      refine j_iald (v := ((m_rule g22) 2)) hC 1 0 (wM_c1 ad cy _) rfl (jin_lit (by decide)) rfl dX12_lostIn_124 ?_
      refine j_isub hC dX12_lostIn_125 ?_
      refine j_imul hC dX12_lostIn_126 ?_
      refine j_goto (tgt := 131) hC dX12_lostIn_127 (by decide) ?_
      refine j_iadd hC dX12_lostIn_131 ?_
      exact j_iret hC hQ dX12_lostIn_132 rfl hv
  · have hv := hv.2 h_
    refine j_aload_n (i := 0) hC dX12_lostIn_29 rfl 1 rfl ?_
    refine j_iload_n (i := 1) hC dX12_lostIn_30 rfl 2 rfl ?_
    refine j_iload_n (i := 2) hC dX12_lostIn_31 rfl 3 rfl ?_
    refine j_iload_n (i := 3) hC dX12_lostIn_32 rfl 4 rfl ?_
    refine j_iload hC dX12_lostIn_33 5 rfl ?_
    refine j_callV_i (C := RX12) (As := [.int x1, .int x2, .int x3, .int x4]) (rest := []) (b := (ad 0)) hC (cM_waterIn hv) 4 gX12_lostIn_X12_waterIn rfl rfl rfl ⟨Nat.le_of_ble_eq_true rfl, Nat.le_of_ble_eq_true rfl⟩ hdM_waterIn rfl (wM_c0 ad cy _) rfl rfl (Nat.le_of_ble_eq_true rfl) ⟨Nat.zero_le _, Nat.zero_le _⟩ dX12_lostIn_35 (fun r35 g35 hv => ?_)
    refine j_istore (lv' := [(6, .int r35), (5, .int t0), (0, .ref (ad 0)), (1, .int x1), (2, .int x2), (3, .int x3), (4, .int x4)]) hC dX12_lostIn_38 (by decide) rfl ?_
    refine j_iload hC dX12_lostIn_40 1 rfl ?_
    refine j_aload_n (i := 0) hC dX12_lostIn_42 rfl 2 rfl ?_
    refine j_get (C := RX12) (T := TX12) (N := 22) (v := .ref (ad 1)) hC hinX12 0 (wM_c0 ad cy _) rfl 2 (by decide) (mw 1 rfl) rfl rfl dX12_lostIn_43 ?_
    refine j_iconst (v := 5) hC dX12_lostIn_46 (by decide) ?_
    refine j_iald (v := ((m_rule g35) 5)) hC 1 0 (wM_c1 ad cy _) rfl (jin_lit (by decide)) rfl dX12_lostIn_47 ?_
    refine j_iadd hC dX12_lostIn_48 ?_
    refine j_iload hC dX12_lostIn_49 0 rfl ?_
    refine j_aload_n (i := 0) hC dX12_lostIn_51 rfl 2 rfl ?_
    refine j_get (C := RX12) (T := TX12) (N := 22) (v := .ref (ad 1)) hC hinX12 0 (wM_c0 ad cy _) rfl 2 (by decide) (mw 1 rfl) rfl rfl dX12_lostIn_52 ?_
    refine j_iconst (v := 3) hC dX12_lostIn_55 (by decide) ?_
    refine j_iald (v := ((m_rule g35) 3)) hC 1 0 (wM_c1 ad cy _) rfl (jin_lit (by decide)) rfl dX12_lostIn_56 ?_
    refine j_icmp_le (tgt := 80) hC dX12_lostIn_57 (by decide) (fun h_ => ?_) (fun h_ => ?_)
    · have hv := hv.1 h_
      refine j_iconst (v := 0) hC dX12_lostIn_80 (by decide) ?_
      refine j_iadd hC dX12_lostIn_81 ?_
      exact j_iret hC hQ dX12_lostIn_82 rfl hv
    · have hv := hv.2 h_
      refine j_aload_n (i := 0) hC dX12_lostIn_60 rfl 2 rfl ?_
      refine j_get (C := RX12) (T := TX12) (N := 22) (v := .ref (ad 1)) hC hinX12 0 (wM_c0 ad cy _) rfl 2 (by decide) (mw 1 rfl) rfl rfl dX12_lostIn_61 ?_
      refine j_bipush (v := 7) hC dX12_lostIn_64 (by decide) ?_
      refine j_iald (v := ((m_rule g35) 7)) hC 1 0 (wM_c1 ad cy _) rfl (jin_lit (by decide)) rfl dX12_lostIn_66 ?_
      refine j_iload hC dX12_lostIn_67 0 rfl ?_
      refine j_aload_n (i := 0) hC dX12_lostIn_69 rfl 2 rfl ?_
      refine j_get (C := RX12) (T := TX12) (N := 22) (v := .ref (ad 1)) hC hinX12 0 (wM_c0 ad cy _) rfl 2 (by decide) (mw 1 rfl) rfl rfl dX12_lostIn_70 ?_
      refine j_iconst (v := 3) hC dX12_lostIn_73 (by decide) ?_
      refine j_iald (v := ((m_rule g35) 3)) hC 1 0 (wM_c1 ad cy _) rfl (jin_lit (by decide)) rfl dX12_lostIn_74 ?_
      refine j_isub hC dX12_lostIn_75 ?_
      refine j_imul hC dX12_lostIn_76 ?_
      refine j_goto (tgt := 81) hC dX12_lostIn_77 (by decide) ?_
      refine j_iadd hC dX12_lostIn_81 ?_
      exact j_iret hC hQ dX12_lostIn_82 rfl hv
set_option maxHeartbeats 4000000 in
set_option maxRecDepth 100000 in
theorem lM_lostIn_17 {Γ : jG} {l : Launch} {D : va_G} {ad : Nat → Nat} {cy : Nat → ClassId} {post : Int32 → GM → Prop} (hC : jC Γ l rM_lostIn D 7 RX12 cX12_lostIn wsX12_lostIn (tyM cy)) (hQ : jQi Γ D (wM ad cy) post (some .int) 0 0) : ∀ (x1 : Int32) (x2 : Int32) (x3 : Int32) (x4 : Int32) (g : GM), vM_lostIn_17 post x1 x2 x3 x4 g → J Γ D 7 0 0 (wM ad cy g) 17 [(0, .ref (ad 0)), (1, .int x1), (2, .int x2), (3, .int x3), (4, .int x4)] [] := by
  have hinX12 : ∀ w ∈ wsX120, w ∈ wsX12_lostIn := fun w h => List.mem_cons_of_mem _ (List.mem_append_right _ h)
  intro x1 x2 x3 x4 g hv
  unfold vM_lostIn_17 at hv
  refine j_iconst (v := 0) hC dX12_lostIn_17 (by decide) ?_
  exact j_lv [0, 1, 2, 3, 4] rfl (lM_lostIn_18 hC hQ _ _ _ _ _ _ hv)
set_option maxHeartbeats 4000000 in
set_option maxRecDepth 100000 in
theorem cM_lostIn {l : Launch} {D : va_G} {ad : Nat → Nat} {cy : Nat → ClassId} {g : GM} {a1 : Int32} {a2 : Int32} {a3 : Int32} {a4 : Int32} {post : Int32 → GM → Prop} (hv : vM_lostIn g a1 a2 a3 a4 post) : jMi l yX12_lostIn wsX12_lostIn rM_lostIn D (tyM cy) [.ref (ad 0), .int a1, .int a2, .int a3, .int a4] (wM ad cy g) (wM ad cy) post 0 0 := by
  refine j_meti (cc := cX12_lostIn) (nL := 7) (rt := (some .int)) (by decide) (Nat.le_of_ble_eq_true rfl) ?_
  intro Γ hC hQ _
  have hC : jC Γ l rM_lostIn D 7 RX12 cX12_lostIn wsX12_lostIn (tyM cy) := hC
  have hinX12 : ∀ w ∈ wsX120, w ∈ wsX12_lostIn := fun w h => List.mem_cons_of_mem _ (List.mem_append_right _ h)
  refine j_lv (lv' := [(0, .ref (ad 0)), (1, .int a1), (2, .int a2), (3, .int a3), (4, .int a4)]) [0, 1, 2, 3, 4] rfl ?_
  unfold vM_lostIn at hv
  refine j_iload_n (i := 2) hC dX12_lostIn_0 rfl 2 rfl ?_
  refine j_if_ne (tgt := 17) hC dX12_lostIn_1 (by decide) (fun h_ => ?_) (fun h_ => ?_)
  · have hv := hv.1 h_
    exact j_lv [0, 1, 2, 3, 4] rfl (lM_lostIn_17 hC hQ _ _ _ _ _ hv)
  · have hv := hv.2 h_
    refine j_iload_n (i := 3) hC dX12_lostIn_4 rfl 3 rfl ?_
    refine j_if_eq (tgt := 17) hC dX12_lostIn_5 (by decide) (fun h_ => ?_) (fun h_ => ?_)
    · have hv := hv.1 h_
      exact j_lv [0, 1, 2, 3, 4] rfl (lM_lostIn_17 hC hQ _ _ _ _ _ hv)
    · have hv := hv.2 h_
      refine j_aload_n (i := 0) hC dX12_lostIn_8 rfl 0 rfl ?_
      refine j_get (C := RX12) (T := TX12) (N := 22) (v := .ref (ad 1)) hC hinX12 0 (wM_c0 ad cy _) rfl 2 (by decide) (mw 1 rfl) rfl rfl dX12_lostIn_9 ?_
      refine j_iconst (v := 4) hC dX12_lostIn_12 (by decide) ?_
      refine j_iald (v := ((m_rule g) 4)) hC 1 0 (wM_c1 ad cy _) rfl (jin_lit (by decide)) rfl dX12_lostIn_13 ?_
      refine j_goto (tgt := 18) hC dX12_lostIn_14 (by decide) ?_
      exact j_lv [0, 1, 2, 3, 4] rfl (lM_lostIn_18 hC hQ _ _ _ _ _ _ hv)
theorem hdM_lossBy : yX12_lossBy.cls = RX12 ∧ yX12_lossBy.cls ≠ "java/lang/invoke/MethodHandle" ∧ yX12_lossBy.cls ≠ "java/lang/invoke/VarHandle" ∧ (parseMethodDescriptor yX12_lossBy.desc).map (fun d => d.parameters.length) = some 4 := by decide +kernel
abbrev rM_lossBy : Room := { frames := 3, cells := 0, slots := 0, locals := 74 }
def vM_lossBy_115 (post : Int64 → GM → Prop) (K16 : Int32 → Int32 → Int32 → Int32 → Int64 → Int32 → Int32 → GM → Prop) (x1 : Int32) (x2 : Int32) (x3 : Int32) (x4 : Int32) (x5 : Int64) (x7 : Int32) (x8 : Int32) (g : GM) : Prop :=
  (K16 x1 x2 x3 x4 x5 x7 (x8 + (1 : Int32)) g)
def vM_lossBy_112 (post : Int64 → GM → Prop) (K16 : Int32 → Int32 → Int32 → Int32 → Int64 → Int32 → Int32 → GM → Prop) (x1 : Int32) (x2 : Int32) (x3 : Int32) (x4 : Int32) (x7 : Int32) (x8 : Int32) (t0 : Int64) (t1 : Int64) (g : GM) : Prop :=
  (vM_lossBy_115 post K16 x1 x2 x3 x4 (t1 + t0) x7 x8 g)
def vM_lossBy_111 (post : Int64 → GM → Prop) (K16 : Int32 → Int32 → Int32 → Int32 → Int64 → Int32 → Int32 → GM → Prop) (x1 : Int32) (x2 : Int32) (x3 : Int32) (x4 : Int32) (x7 : Int32) (x8 : Int32) (t0 : Int64) (g : GM) : Prop :=
  (vM_lossBy_112 post K16 x1 x2 x3 x4 x7 x8 (0 : Int64) t0 g)
def vM_lossBy_16 (post : Int64 → GM → Prop) : Nat → Int32 → Int32 → Int32 → Int32 → Int64 → Int32 → Int32 → GM → Prop
  | 0, _, _, _, _, _, _, _, _ => False
  | k_ + 1, x1, x2, x3, x4, x5, x7, x8, g =>
  (((m_worlds g) ≤ x8 → post x5 g) ∧ (¬ (m_worlds g) ≤ x8 → (vM_groupOf g x8 x4 (fun r30 g30 => ((¬ r30 = x1 → (vM_lossBy_115 post (fun x1 x2 x3 x4 x5 x7 x8 g => vM_lossBy_16 post k_ x1 x2 x3 x4 x5 x7 x8 g) x1 x2 x3 x4 x5 x7 x8 g30)) ∧ (r30 = x1 → (vp_in x8 8 ∧ (vM_lostIn g30 x8 x2 x3 x4 (fun r54 g54 => (((7 : Int32) ≤ x4 → (vM_lossBy_111 post (fun x1 x2 x3 x4 x5 x7 x8 g => vM_lossBy_16 post k_ x1 x2 x3 x4 x5 x7 x8 g) x1 x2 x3 x4 x7 x8 (x5 + ((((m_weight g30) x8.toNatClampNeg).toInt64) * (r54.toInt64))) g54)) ∧ (¬ (7 : Int32) ≤ x4 → (vM_groupOf g54 x8 (x4 + (1 : Int32)) (fun r78 g78 => ((¬ r78 = x8 → (vM_lossBy_111 post (fun x1 x2 x3 x4 x5 x7 x8 g => vM_lossBy_16 post k_ x1 x2 x3 x4 x5 x7 x8 g) x1 x2 x3 x4 x7 x8 (x5 + ((((m_weight g30) x8.toNatClampNeg).toInt64) * (r54.toInt64))) g78)) ∧ (r78 = x8 → (vp_in ((((128 : Int32) * (x4 + (1 : Int32))) + ((16 : Int32) * x8)) + x7) 1152 ∧ (vM_lossBy_112 post (fun x1 x2 x3 x4 x5 x7 x8 g => vM_lossBy_16 post k_ x1 x2 x3 x4 x5 x7 x8 g) x1 x2 x3 x4 x7 x8 ((m_least g78) ((((128 : Int32) * (x4 + (1 : Int32))) + ((16 : Int32) * x8)) + x7).toNatClampNeg) (x5 + ((((m_weight g30) x8.toNatClampNeg).toInt64) * (r54.toInt64))) g78)))))))))))))))))
def vM_lossBy (g : GM) (a1 : Int32) (a2 : Int32) (a3 : Int32) (a4 : Int32) (post : Int64 → GM → Prop) : Prop :=
  (vM_after g a2 a3 a4 (fun r8 g8 => (∃ n_ : Nat, vM_lossBy_16 post n_ a1 a2 a3 a4 (0 : Int64) r8 a1 g8)))
set_option maxHeartbeats 4000000 in
set_option maxRecDepth 100000 in
theorem lM_lossBy_115 {Γ : jG} {l : Launch} {D : va_G} {ad : Nat → Nat} {cy : Nat → ClassId} {post : Int64 → GM → Prop} (hC : jC Γ l rM_lossBy D 9 RX12 cX12_lossBy wsX12_lossBy (tyM cy)) (hQ : jQl Γ D (wM ad cy) post (some .long) 0 0) {K16 : Int32 → Int32 → Int32 → Int32 → Int64 → Int32 → Int32 → GM → Prop} (hK16 : ∀ (x1 : Int32) (x2 : Int32) (x3 : Int32) (x4 : Int32) (x5 : Int64) (x7 : Int32) (x8 : Int32) (g : GM), K16 x1 x2 x3 x4 x5 x7 x8 g → J Γ D 9 0 0 (wM ad cy g) 16 [(0, .ref (ad 0)), (1, .int x1), (2, .int x2), (3, .int x3), (4, .int x4), (5, .long x5), (7, .int x7), (8, .int x8)] []) : ∀ (x1 : Int32) (x2 : Int32) (x3 : Int32) (x4 : Int32) (x5 : Int64) (x7 : Int32) (x8 : Int32) (g : GM), vM_lossBy_115 post K16 x1 x2 x3 x4 x5 x7 x8 g → J Γ D 9 0 0 (wM ad cy g) 115 [(0, .ref (ad 0)), (1, .int x1), (2, .int x2), (3, .int x3), (4, .int x4), (5, .long x5), (7, .int x7), (8, .int x8)] [] := by
  have hinX12 : ∀ w ∈ wsX120, w ∈ wsX12_lossBy := fun w h => List.mem_cons_of_mem _ (List.mem_append_right _ h)
  intro x1 x2 x3 x4 x5 x7 x8 g hv
  unfold vM_lossBy_115 at hv
  refine j_iinc (k := 7) (v := (x8 + (1 : Int32))) (lv' := [(8, .int (x8 + (1 : Int32))), (0, .ref (ad 0)), (1, .int x1), (2, .int x2), (3, .int x3), (4, .int x4), (5, .long x5), (7, .int x7)]) hC dX12_lossBy_115 rfl rfl (by decide) rfl ?_
  refine j_goto (tgt := 16) hC dX12_lossBy_118 (by decide) ?_
  exact j_lv [1, 2, 3, 4, 5, 6, 7, 0] rfl (hK16 _ _ _ _ _ _ _ _ hv)
set_option maxHeartbeats 4000000 in
set_option maxRecDepth 100000 in
theorem lM_lossBy_112 {Γ : jG} {l : Launch} {D : va_G} {ad : Nat → Nat} {cy : Nat → ClassId} {post : Int64 → GM → Prop} (hC : jC Γ l rM_lossBy D 9 RX12 cX12_lossBy wsX12_lossBy (tyM cy)) (hQ : jQl Γ D (wM ad cy) post (some .long) 0 0) {K16 : Int32 → Int32 → Int32 → Int32 → Int64 → Int32 → Int32 → GM → Prop} (hK16 : ∀ (x1 : Int32) (x2 : Int32) (x3 : Int32) (x4 : Int32) (x5 : Int64) (x7 : Int32) (x8 : Int32) (g : GM), K16 x1 x2 x3 x4 x5 x7 x8 g → J Γ D 9 0 0 (wM ad cy g) 16 [(0, .ref (ad 0)), (1, .int x1), (2, .int x2), (3, .int x3), (4, .int x4), (5, .long x5), (7, .int x7), (8, .int x8)] []) : ∀ (x1 : Int32) (x2 : Int32) (x3 : Int32) (x4 : Int32) (x7 : Int32) (x8 : Int32) (t0 : Int64) (t1 : Int64) (g : GM), vM_lossBy_112 post K16 x1 x2 x3 x4 x7 x8 t0 t1 g → J Γ D 9 0 0 (wM ad cy g) 112 [(0, .ref (ad 0)), (1, .int x1), (2, .int x2), (3, .int x3), (4, .int x4), (7, .int x7), (8, .int x8)] [.long t0, .long t1] := by
  have hinX12 : ∀ w ∈ wsX120, w ∈ wsX12_lossBy := fun w h => List.mem_cons_of_mem _ (List.mem_append_right _ h)
  intro x1 x2 x3 x4 x7 x8 t0 t1 g hv
  unfold vM_lossBy_112 at hv
  refine j_ladd hC dX12_lossBy_112 ?_
  refine j_lstore (lv' := [(5, .long (t1 + t0)), (0, .ref (ad 0)), (1, .int x1), (2, .int x2), (3, .int x3), (4, .int x4), (7, .int x7), (8, .int x8)]) hC dX12_lossBy_113 (by decide) rfl ?_
  exact j_lv [1, 2, 3, 4, 5, 0, 6, 7] rfl (lM_lossBy_115 hC hQ hK16 _ _ _ _ _ _ _ _ hv)
set_option maxHeartbeats 4000000 in
set_option maxRecDepth 100000 in
theorem lM_lossBy_111 {Γ : jG} {l : Launch} {D : va_G} {ad : Nat → Nat} {cy : Nat → ClassId} {post : Int64 → GM → Prop} (hC : jC Γ l rM_lossBy D 9 RX12 cX12_lossBy wsX12_lossBy (tyM cy)) (hQ : jQl Γ D (wM ad cy) post (some .long) 0 0) {K16 : Int32 → Int32 → Int32 → Int32 → Int64 → Int32 → Int32 → GM → Prop} (hK16 : ∀ (x1 : Int32) (x2 : Int32) (x3 : Int32) (x4 : Int32) (x5 : Int64) (x7 : Int32) (x8 : Int32) (g : GM), K16 x1 x2 x3 x4 x5 x7 x8 g → J Γ D 9 0 0 (wM ad cy g) 16 [(0, .ref (ad 0)), (1, .int x1), (2, .int x2), (3, .int x3), (4, .int x4), (5, .long x5), (7, .int x7), (8, .int x8)] []) : ∀ (x1 : Int32) (x2 : Int32) (x3 : Int32) (x4 : Int32) (x7 : Int32) (x8 : Int32) (t0 : Int64) (g : GM), vM_lossBy_111 post K16 x1 x2 x3 x4 x7 x8 t0 g → J Γ D 9 0 0 (wM ad cy g) 111 [(0, .ref (ad 0)), (1, .int x1), (2, .int x2), (3, .int x3), (4, .int x4), (7, .int x7), (8, .int x8)] [.long t0] := by
  have hinX12 : ∀ w ∈ wsX120, w ∈ wsX12_lossBy := fun w h => List.mem_cons_of_mem _ (List.mem_append_right _ h)
  intro x1 x2 x3 x4 x7 x8 t0 g hv
  unfold vM_lossBy_111 at hv
  refine j_lconst (v := 0) hC dX12_lossBy_111 (by decide) ?_
  exact j_lv [0, 1, 2, 3, 4, 5, 6] rfl (lM_lossBy_112 hC hQ hK16 _ _ _ _ _ _ _ _ _ hv)
set_option maxHeartbeats 4000000 in
set_option maxRecDepth 100000 in
theorem lM_lossBy_16 {Γ : jG} {l : Launch} {D : va_G} {ad : Nat → Nat} {cy : Nat → ClassId} {post : Int64 → GM → Prop} (hC : jC Γ l rM_lossBy D 9 RX12 cX12_lossBy wsX12_lossBy (tyM cy)) (hQ : jQl Γ D (wM ad cy) post (some .long) 0 0) : ∀ (n_ : Nat) (x1 : Int32) (x2 : Int32) (x3 : Int32) (x4 : Int32) (x5 : Int64) (x7 : Int32) (x8 : Int32) (g : GM), vM_lossBy_16 post n_ x1 x2 x3 x4 x5 x7 x8 g → J Γ D 9 0 0 (wM ad cy g) 16 [(0, .ref (ad 0)), (1, .int x1), (2, .int x2), (3, .int x3), (4, .int x4), (5, .long x5), (7, .int x7), (8, .int x8)] [] := by
  have hinX12 : ∀ w ∈ wsX120, w ∈ wsX12_lossBy := fun w h => List.mem_cons_of_mem _ (List.mem_append_right _ h)
  intro n_
  induction n_ with
  | zero => intro x1 x2 x3 x4 x5 x7 x8 g hv; exact False.elim hv
  | succ k_ ih =>
    intro x1 x2 x3 x4 x5 x7 x8 g hv
    unfold vM_lossBy_16 at hv
    refine j_iload hC dX12_lossBy_16 7 rfl ?_
    refine j_aload_n (i := 0) hC dX12_lossBy_18 rfl 0 rfl ?_
    refine j_get (C := RX12) (T := TX12) (N := 22) (v := .int (m_worlds g)) hC hinX12 0 (wM_c0 ad cy _) rfl 7 (by decide) (mw 1 rfl) rfl rfl dX12_lossBy_19 ?_
    refine j_icmp_ge (tgt := 121) hC dX12_lossBy_22 (by decide) (fun h_ => ?_) (fun h_ => ?_)
    · have hv := hv.1 h_
      refine j_lload hC dX12_lossBy_121 5 rfl ?_
      exact j_lret hC hQ dX12_lossBy_123 rfl hv
    · have hv := hv.2 h_
      refine j_aload_n (i := 0) hC dX12_lossBy_25 rfl 0 rfl ?_
      refine j_iload hC dX12_lossBy_26 7 rfl ?_
      refine j_iload hC dX12_lossBy_28 4 rfl ?_
      refine j_callV_i (C := RX12) (As := [.int x8, .int x4]) (rest := []) (b := (ad 0)) hC (cM_groupOf hv) 2 gX12_lossBy_X12_groupOf rfl rfl rfl ⟨Nat.le_of_ble_eq_true rfl, Nat.le_of_ble_eq_true rfl⟩ hdM_groupOf rfl (wM_c0 ad cy _) rfl rfl (Nat.le_of_ble_eq_true rfl) ⟨Nat.zero_le _, Nat.zero_le _⟩ dX12_lossBy_30 (fun r30 g30 hv => ?_)
      refine j_iload_n (i := 1) hC dX12_lossBy_33 rfl 1 rfl ?_
      refine j_icmp_ne (tgt := 115) hC dX12_lossBy_34 (by decide) (fun h_ => ?_) (fun h_ => ?_)
      · have hv := hv.1 h_
        exact j_lv [0, 1, 2, 3, 4, 5, 6, 7] rfl (lM_lossBy_115 hC hQ (K16 := fun x1 x2 x3 x4 x5 x7 x8 g => vM_lossBy_16 post k_ x1 x2 x3 x4 x5 x7 x8 g) (fun _ _ _ _ _ _ _ _ h_ => ih _ _ _ _ _ _ _ _ h_) _ _ _ _ _ _ _ _ hv)
      · have hv := hv.2 h_
        refine j_lload hC dX12_lossBy_37 5 rfl ?_
        refine j_aload_n (i := 0) hC dX12_lossBy_39 rfl 0 rfl ?_
        refine j_get (C := RX12) (T := TX12) (N := 22) (v := .ref (ad 6)) hC hinX12 0 (wM_c0 ad cy _) rfl 8 (by decide) (mw 2 rfl) rfl rfl dX12_lossBy_40 ?_
        refine j_iload hC dX12_lossBy_43 7 rfl ?_
        refine j_iald (v := ((m_weight g30) x8.toNatClampNeg)) hC 6 0 (wM_c6 ad cy _) rfl hv.1 rfl dX12_lossBy_45 ?_
        have hv := hv.2
        refine j_i2l hC dX12_lossBy_46 ?_
        refine j_aload_n (i := 0) hC dX12_lossBy_47 rfl 0 rfl ?_
        refine j_iload hC dX12_lossBy_48 7 rfl ?_
        refine j_iload_n (i := 2) hC dX12_lossBy_50 rfl 2 rfl ?_
        refine j_iload_n (i := 3) hC dX12_lossBy_51 rfl 3 rfl ?_
        refine j_iload hC dX12_lossBy_52 4 rfl ?_
        refine j_callV_i (C := RX12) (As := [.int x8, .int x2, .int x3, .int x4]) (rest := [.long (((m_weight g30) x8.toNatClampNeg).toInt64), .long x5]) (b := (ad 0)) hC (cM_lostIn hv) 4 gX12_lossBy_X12_lostIn rfl rfl rfl ⟨Nat.le_of_ble_eq_true rfl, Nat.le_of_ble_eq_true rfl⟩ hdM_lostIn rfl (wM_c0 ad cy _) rfl rfl (Nat.le_of_ble_eq_true rfl) ⟨Nat.zero_le _, Nat.zero_le _⟩ dX12_lossBy_54 (fun r54 g54 hv => ?_)
        refine j_i2l hC dX12_lossBy_57 ?_
        refine j_lmul hC dX12_lossBy_58 ?_
        refine j_ladd hC dX12_lossBy_59 ?_
        refine j_lstore (lv' := [(5, .long (x5 + ((((m_weight g30) x8.toNatClampNeg).toInt64) * (r54.toInt64)))), (0, .ref (ad 0)), (1, .int x1), (2, .int x2), (3, .int x3), (4, .int x4), (7, .int x7), (8, .int x8)]) hC dX12_lossBy_60 (by decide) rfl ?_
        refine j_lload hC dX12_lossBy_62 0 rfl ?_
        refine j_iload hC dX12_lossBy_64 5 rfl ?_
        refine j_bipush (v := 7) hC dX12_lossBy_66 (by decide) ?_
        refine j_icmp_ge (tgt := 111) hC dX12_lossBy_68 (by decide) (fun h_ => ?_) (fun h_ => ?_)
        · have hv := hv.1 h_
          exact j_lv [1, 2, 3, 4, 5, 6, 7] rfl (lM_lossBy_111 hC hQ (K16 := fun x1 x2 x3 x4 x5 x7 x8 g => vM_lossBy_16 post k_ x1 x2 x3 x4 x5 x7 x8 g) (fun _ _ _ _ _ _ _ _ h_ => ih _ _ _ _ _ _ _ _ h_) _ _ _ _ _ _ _ _ hv)
        · have hv := hv.2 h_
          refine j_aload_n (i := 0) hC dX12_lossBy_71 rfl 1 rfl ?_
          refine j_iload hC dX12_lossBy_72 7 rfl ?_
          refine j_iload hC dX12_lossBy_74 5 rfl ?_
          refine j_iconst (v := 1) hC dX12_lossBy_76 (by decide) ?_
          refine j_iadd hC dX12_lossBy_77 ?_
          refine j_callV_i (C := RX12) (As := [.int x8, .int (x4 + (1 : Int32))]) (rest := [.long (x5 + ((((m_weight g30) x8.toNatClampNeg).toInt64) * (r54.toInt64)))]) (b := (ad 0)) hC (cM_groupOf hv) 2 gX12_lossBy_X12_groupOf rfl rfl rfl ⟨Nat.le_of_ble_eq_true rfl, Nat.le_of_ble_eq_true rfl⟩ hdM_groupOf rfl (wM_c0 ad cy _) rfl rfl (Nat.le_of_ble_eq_true rfl) ⟨Nat.zero_le _, Nat.zero_le _⟩ dX12_lossBy_78 (fun r78 g78 hv => ?_)
          refine j_iload hC dX12_lossBy_81 7 rfl ?_
          refine j_icmp_ne (tgt := 111) hC dX12_lossBy_83 (by decide) (fun h_ => ?_) (fun h_ => ?_)
          · have hv := hv.1 h_
            exact j_lv [1, 2, 3, 4, 5, 6, 7] rfl (lM_lossBy_111 hC hQ (K16 := fun x1 x2 x3 x4 x5 x7 x8 g => vM_lossBy_16 post k_ x1 x2 x3 x4 x5 x7 x8 g) (fun _ _ _ _ _ _ _ _ h_ => ih _ _ _ _ _ _ _ _ h_) _ _ _ _ _ _ _ _ hv)
          · have hv := hv.2 h_
            refine j_aload_n (i := 0) hC dX12_lossBy_86 rfl 1 rfl ?_
            refine j_get (C := RX12) (T := TX12) (N := 22) (v := .ref (ad 8)) hC hinX12 0 (wM_c0 ad cy _) rfl 10 (by decide) (mw 3 rfl) rfl rfl dX12_lossBy_87 ?_
            refine j_sipush (v := 128) hC dX12_lossBy_90 (by decide) ?_
            refine j_iload hC dX12_lossBy_93 5 rfl ?_
            refine j_iconst (v := 1) hC dX12_lossBy_95 (by decide) ?_
            refine j_iadd hC dX12_lossBy_96 ?_
            refine j_imul hC dX12_lossBy_97 ?_
            refine j_bipush (v := 16) hC dX12_lossBy_98 (by decide) ?_
            refine j_iload hC dX12_lossBy_100 7 rfl ?_
            refine j_imul hC dX12_lossBy_102 ?_
            refine j_iadd hC dX12_lossBy_103 ?_
            refine j_iload hC dX12_lossBy_104 6 rfl ?_
            refine j_iadd hC dX12_lossBy_106 ?_
            refine j_lald (v := ((m_least g78) ((((128 : Int32) * (x4 + (1 : Int32))) + ((16 : Int32) * x8)) + x7).toNatClampNeg)) hC 8 1 (wM_c8 ad cy _) rfl hv.1 rfl dX12_lossBy_107 ?_
            have hv := hv.2
            refine j_goto (tgt := 112) hC dX12_lossBy_108 (by decide) ?_
            exact j_lv [1, 2, 3, 4, 5, 6, 7] rfl (lM_lossBy_112 hC hQ (K16 := fun x1 x2 x3 x4 x5 x7 x8 g => vM_lossBy_16 post k_ x1 x2 x3 x4 x5 x7 x8 g) (fun _ _ _ _ _ _ _ _ h_ => ih _ _ _ _ _ _ _ _ h_) _ _ _ _ _ _ _ _ _ hv)
set_option maxHeartbeats 4000000 in
set_option maxRecDepth 100000 in
theorem cM_lossBy {l : Launch} {D : va_G} {ad : Nat → Nat} {cy : Nat → ClassId} {g : GM} {a1 : Int32} {a2 : Int32} {a3 : Int32} {a4 : Int32} {post : Int64 → GM → Prop} (hv : vM_lossBy g a1 a2 a3 a4 post) : jMl l yX12_lossBy wsX12_lossBy rM_lossBy D (tyM cy) [.ref (ad 0), .int a1, .int a2, .int a3, .int a4] (wM ad cy g) (wM ad cy) post 0 0 := by
  refine j_metl (cc := cX12_lossBy) (nL := 9) (rt := (some .long)) (by decide) (Nat.le_of_ble_eq_true rfl) ?_
  intro Γ hC hQ _
  have hC : jC Γ l rM_lossBy D 9 RX12 cX12_lossBy wsX12_lossBy (tyM cy) := hC
  have hinX12 : ∀ w ∈ wsX120, w ∈ wsX12_lossBy := fun w h => List.mem_cons_of_mem _ (List.mem_append_right _ h)
  refine j_lv (lv' := [(0, .ref (ad 0)), (1, .int a1), (2, .int a2), (3, .int a3), (4, .int a4)]) [0, 1, 2, 3, 4] rfl ?_
  unfold vM_lossBy at hv
  refine j_lconst (v := 0) hC dX12_lossBy_0 (by decide) ?_
  refine j_lstore (lv' := [(5, .long (0 : Int64)), (0, .ref (ad 0)), (1, .int a1), (2, .int a2), (3, .int a3), (4, .int a4)]) hC dX12_lossBy_1 (by decide) rfl ?_
  refine j_aload_n (i := 0) hC dX12_lossBy_3 rfl 1 rfl ?_
  refine j_iload_n (i := 2) hC dX12_lossBy_4 rfl 3 rfl ?_
  refine j_iload_n (i := 3) hC dX12_lossBy_5 rfl 4 rfl ?_
  refine j_iload hC dX12_lossBy_6 5 rfl ?_
  refine j_callV_i (C := RX12) (As := [.int a2, .int a3, .int a4]) (rest := []) (b := (ad 0)) hC (cM_after hv) 3 gX12_lossBy_X12_after rfl rfl rfl ⟨Nat.le_of_ble_eq_true rfl, Nat.le_of_ble_eq_true rfl⟩ hdM_after rfl (wM_c0 ad cy _) rfl rfl (Nat.le_of_ble_eq_true rfl) ⟨Nat.zero_le _, Nat.zero_le _⟩ dX12_lossBy_8 (fun r8 g8 hv => ?_)
  refine j_istore (lv' := [(7, .int r8), (5, .long (0 : Int64)), (0, .ref (ad 0)), (1, .int a1), (2, .int a2), (3, .int a3), (4, .int a4)]) hC dX12_lossBy_11 (by decide) rfl ?_
  refine j_iload_n (i := 1) hC dX12_lossBy_13 rfl 3 rfl ?_
  refine j_istore (lv' := [(8, .int a1), (7, .int r8), (5, .long (0 : Int64)), (0, .ref (ad 0)), (1, .int a1), (2, .int a2), (3, .int a3), (4, .int a4)]) hC dX12_lossBy_14 (by decide) rfl ?_
  obtain ⟨n_, hv⟩ := hv
  exact j_lv [3, 4, 5, 6, 7, 2, 1, 0] rfl (lM_lossBy_16 hC hQ n_ _ _ _ _ _ _ _ _ hv)
theorem hdM_findBest : yX12_findBest.cls = RX12 ∧ yX12_findBest.cls ≠ "java/lang/invoke/MethodHandle" ∧ yX12_findBest.cls ≠ "java/lang/invoke/VarHandle" ∧ (parseMethodDescriptor yX12_findBest.desc).map (fun d => d.parameters.length) = some 0 := by decide +kernel
abbrev rM_findBest : Room := { frames := 4, cells := 0, slots := 0, locals := 102 }
def vM_findBest_173 (post : GM → Prop) (K3 : Int32 → GM → Prop) (K9 : Int32 → Int32 → GM → Prop) (K19 : Int32 → Int32 → Int32 → GM → Prop) (x1 : Int32) (x2 : Int32) (x3 : Int32) (g : GM) : Prop :=
  (K19 x1 x2 (x3 + (1 : Int32)) g)
def vM_findBest_141 (post : GM → Prop) (K3 : Int32 → GM → Prop) (K9 : Int32 → Int32 → GM → Prop) (K19 : Int32 → Int32 → Int32 → GM → Prop) (x1 : Int32) (x2 : Int32) (x3 : Int32) (x5 : Int32) (t0 : Int64) (g : GM) : Prop :=
  (vp_in x5 1152 ∧ ((((m_least g) x5.toNatClampNeg) ≤ t0 → (vM_findBest_173 post K3 K9 K19 x1 x2 x3 g)) ∧ (¬ ((m_least g) x5.toNatClampNeg) ≤ t0 → (vp_in x5 1152 ∧ (vp_in x5 1152 ∧ (vM_findBest_173 post K3 K9 K19 x1 x2 x3 (sm_isTold (sm_least g (vp_updL (m_least g) x5.toNatClampNeg t0)) (upd (m_isTold g) x5.toNatClampNeg (vp_nar .boolean (1 : Int32))))))))))
def vM_findBest_123 (post : GM → Prop) (K3 : Int32 → GM → Prop) (K9 : Int32 → Int32 → GM → Prop) (K19 : Int32 → Int32 → Int32 → GM → Prop) (x1 : Int32) (x2 : Int32) (x3 : Int32) (x5 : Int32) (g : GM) : Prop :=
  (vM_lossBy g x2 x3 (1 : Int32) x1 (fun r128 g128 => (vM_findBest_141 post K3 K9 K19 x1 x2 x3 x5 r128 g128)))
def vM_findBest_59 (post : GM → Prop) (K3 : Int32 → GM → Prop) (K9 : Int32 → Int32 → GM → Prop) (K19 : Int32 → Int32 → Int32 → GM → Prop) (x1 : Int32) (x2 : Int32) (x3 : Int32) (t0 : Int32) (g : GM) : Prop :=
  ((t0 = (0 : Int32) → (vM_findBest_173 post K3 K9 K19 x1 x2 x3 g)) ∧ (¬ t0 = (0 : Int32) → (vM_groupOf g x2 x1 (fun r69 g69 => ((¬ r69 = x2 → (vM_findBest_173 post K3 K9 K19 x1 x2 x3 g69)) ∧ (r69 = x2 → (vM_lossBy g69 x2 x3 (0 : Int32) x1 (fun r101 g101 => (vp_in ((((128 : Int32) * x1) + ((16 : Int32) * x2)) + x3) 1152 ∧ (vp_in ((((128 : Int32) * x1) + ((16 : Int32) * x2)) + x3) 1152 ∧ ((x3 = (0 : Int32) → (vM_findBest_123 post K3 K9 K19 x1 x2 x3 ((((128 : Int32) * x1) + ((16 : Int32) * x2)) + x3) (sm_isTold (sm_least g101 (vp_updL (m_least g101) ((((128 : Int32) * x1) + ((16 : Int32) * x2)) + x3).toNatClampNeg r101)) (upd (m_isTold g101) ((((128 : Int32) * x1) + ((16 : Int32) * x2)) + x3).toNatClampNeg (vp_nar .boolean (0 : Int32)))))) ∧ (¬ x3 = (0 : Int32) → ((x3 ≤ (8 : Int32) → (vp_in ((((128 : Int32) * x1) + ((16 : Int32) * x2)) + x3) 1152 ∧ (vM_findBest_141 post K3 K9 K19 x1 x2 x3 ((((128 : Int32) * x1) + ((16 : Int32) * x2)) + x3) ((vp_updL (m_least g101) ((((128 : Int32) * x1) + ((16 : Int32) * x2)) + x3).toNatClampNeg r101) ((((128 : Int32) * x1) + ((16 : Int32) * x2)) + x3).toNatClampNeg) (sm_isTold (sm_least g101 (vp_updL (m_least g101) ((((128 : Int32) * x1) + ((16 : Int32) * x2)) + x3).toNatClampNeg r101)) (upd (m_isTold g101) ((((128 : Int32) * x1) + ((16 : Int32) * x2)) + x3).toNatClampNeg (vp_nar .boolean (0 : Int32))))))) ∧ (¬ x3 ≤ (8 : Int32) → (vM_findBest_123 post K3 K9 K19 x1 x2 x3 ((((128 : Int32) * x1) + ((16 : Int32) * x2)) + x3) (sm_isTold (sm_least g101 (vp_updL (m_least g101) ((((128 : Int32) * x1) + ((16 : Int32) * x2)) + x3).toNatClampNeg r101)) (upd (m_isTold g101) ((((128 : Int32) * x1) + ((16 : Int32) * x2)) + x3).toNatClampNeg (vp_nar .boolean (0 : Int32)))))))))))))))))))
def vM_findBest_54 (post : GM → Prop) (K3 : Int32 → GM → Prop) (K9 : Int32 → Int32 → GM → Prop) (K19 : Int32 → Int32 → Int32 → GM → Prop) (x1 : Int32) (x2 : Int32) (x3 : Int32) (g : GM) : Prop :=
  (vM_findBest_59 post K3 K9 K19 x1 x2 x3 (1 : Int32) g)
def vM_findBest_58 (post : GM → Prop) (K3 : Int32 → GM → Prop) (K9 : Int32 → Int32 → GM → Prop) (K19 : Int32 → Int32 → Int32 → GM → Prop) (x1 : Int32) (x2 : Int32) (x3 : Int32) (g : GM) : Prop :=
  (vM_findBest_59 post K3 K9 K19 x1 x2 x3 (0 : Int32) g)
def vM_findBest_179 (post : GM → Prop) (K3 : Int32 → GM → Prop) (K9 : Int32 → Int32 → GM → Prop) (x1 : Int32) (x2 : Int32) (g : GM) : Prop :=
  (K9 x1 (x2 + (1 : Int32)) g)
def vM_findBest_19 (post : GM → Prop) (K3 : Int32 → GM → Prop) (K9 : Int32 → Int32 → GM → Prop) : Nat → Int32 → Int32 → Int32 → GM → Prop
  | 0, _, _, _, _ => False
  | k_ + 1, x1, x2, x3, g =>
  (((16 : Int32) ≤ x3 → (vM_findBest_179 post K3 K9 x1 x2 g)) ∧ (¬ (16 : Int32) ≤ x3 → ((x3 < (3 : Int32) → (vM_findBest_54 post K3 K9 (fun x1 x2 x3 g => vM_findBest_19 post K3 K9 k_ x1 x2 x3 g) x1 x2 x3 g)) ∧ (¬ x3 < (3 : Int32) → ((x3 = (4 : Int32) → (vM_findBest_54 post K3 K9 (fun x1 x2 x3 g => vM_findBest_19 post K3 K9 k_ x1 x2 x3 g) x1 x2 x3 g)) ∧ (¬ x3 = (4 : Int32) → ((x3 = (5 : Int32) → (vM_findBest_54 post K3 K9 (fun x1 x2 x3 g => vM_findBest_19 post K3 K9 k_ x1 x2 x3 g) x1 x2 x3 g)) ∧ (¬ x3 = (5 : Int32) → ((x3 ≤ (8 : Int32) → (vM_findBest_58 post K3 K9 (fun x1 x2 x3 g => vM_findBest_19 post K3 K9 k_ x1 x2 x3 g) x1 x2 x3 g)) ∧ (¬ x3 ≤ (8 : Int32) → ((((8 : Int32) + x1) < x3 → (vM_findBest_58 post K3 K9 (fun x1 x2 x3 g => vM_findBest_19 post K3 K9 k_ x1 x2 x3 g) x1 x2 x3 g)) ∧ (¬ ((8 : Int32) + x1) < x3 → (vM_findBest_54 post K3 K9 (fun x1 x2 x3 g => vM_findBest_19 post K3 K9 k_ x1 x2 x3 g) x1 x2 x3 g)))))))))))))
def vM_findBest_185 (post : GM → Prop) (K3 : Int32 → GM → Prop) (x1 : Int32) (g : GM) : Prop :=
  (K3 (x1 + (-1 : Int32)) g)
def vM_findBest_9 (post : GM → Prop) (K3 : Int32 → GM → Prop) : Nat → Int32 → Int32 → GM → Prop
  | 0, _, _, _ => False
  | k_ + 1, x1, x2, g =>
  (((m_worlds g) ≤ x2 → (vM_findBest_185 post K3 x1 g)) ∧ (¬ (m_worlds g) ≤ x2 → (∃ n_ : Nat, vM_findBest_19 post K3 (fun x1 x2 g => vM_findBest_9 post K3 k_ x1 x2 g) n_ x1 x2 (0 : Int32) g)))
def vM_findBest_3 (post : GM → Prop) : Nat → Int32 → GM → Prop
  | 0, _, _ => False
  | k_ + 1, x1, g =>
  ((x1 < (0 : Int32) → post g) ∧ (¬ x1 < (0 : Int32) → (∃ n_ : Nat, vM_findBest_9 post (fun x1 g => vM_findBest_3 post k_ x1 g) n_ x1 (0 : Int32) g)))
def vM_findBest (g : GM) (post : GM → Prop) : Prop :=
  (∃ n_ : Nat, vM_findBest_3 post n_ (7 : Int32) g)
set_option maxHeartbeats 4000000 in
set_option maxRecDepth 100000 in
theorem lM_findBest_173 {Γ : jG} {l : Launch} {D : va_G} {ad : Nat → Nat} {cy : Nat → ClassId} {post : GM → Prop} (hC : jC Γ l rM_findBest D 8 RX12 cX12_findBest wsX12_findBest (tyM cy)) (hQ : jQv Γ D (wM ad cy) post none 0 0) {K3 : Int32 → GM → Prop} (hK3 : ∀ (x1 : Int32) (g : GM), K3 x1 g → J Γ D 8 0 0 (wM ad cy g) 3 [(0, .ref (ad 0)), (1, .int x1)] []) {K9 : Int32 → Int32 → GM → Prop} (hK9 : ∀ (x1 : Int32) (x2 : Int32) (g : GM), K9 x1 x2 g → J Γ D 8 0 0 (wM ad cy g) 9 [(0, .ref (ad 0)), (1, .int x1), (2, .int x2)] []) {K19 : Int32 → Int32 → Int32 → GM → Prop} (hK19 : ∀ (x1 : Int32) (x2 : Int32) (x3 : Int32) (g : GM), K19 x1 x2 x3 g → J Γ D 8 0 0 (wM ad cy g) 19 [(0, .ref (ad 0)), (1, .int x1), (2, .int x2), (3, .int x3)] []) : ∀ (x1 : Int32) (x2 : Int32) (x3 : Int32) (g : GM), vM_findBest_173 post K3 K9 K19 x1 x2 x3 g → J Γ D 8 0 0 (wM ad cy g) 173 [(0, .ref (ad 0)), (1, .int x1), (2, .int x2), (3, .int x3)] [] := by
  have hinX12 : ∀ w ∈ wsX120, w ∈ wsX12_findBest := fun w h => List.mem_cons_of_mem _ (List.mem_append_right _ h)
  intro x1 x2 x3 g hv
  unfold vM_findBest_173 at hv
  refine j_iinc (k := 3) (v := (x3 + (1 : Int32))) (lv' := [(3, .int (x3 + (1 : Int32))), (0, .ref (ad 0)), (1, .int x1), (2, .int x2)]) hC dX12_findBest_173 rfl rfl (by decide) rfl ?_
  refine j_goto (tgt := 19) hC dX12_findBest_176 (by decide) ?_
  exact j_lv [1, 2, 3, 0] rfl (hK19 _ _ _ _ hv)
set_option maxHeartbeats 4000000 in
set_option maxRecDepth 100000 in
theorem lM_findBest_141 {Γ : jG} {l : Launch} {D : va_G} {ad : Nat → Nat} {cy : Nat → ClassId} {post : GM → Prop} (hC : jC Γ l rM_findBest D 8 RX12 cX12_findBest wsX12_findBest (tyM cy)) (hQ : jQv Γ D (wM ad cy) post none 0 0) {K3 : Int32 → GM → Prop} (hK3 : ∀ (x1 : Int32) (g : GM), K3 x1 g → J Γ D 8 0 0 (wM ad cy g) 3 [(0, .ref (ad 0)), (1, .int x1)] []) {K9 : Int32 → Int32 → GM → Prop} (hK9 : ∀ (x1 : Int32) (x2 : Int32) (g : GM), K9 x1 x2 g → J Γ D 8 0 0 (wM ad cy g) 9 [(0, .ref (ad 0)), (1, .int x1), (2, .int x2)] []) {K19 : Int32 → Int32 → Int32 → GM → Prop} (hK19 : ∀ (x1 : Int32) (x2 : Int32) (x3 : Int32) (g : GM), K19 x1 x2 x3 g → J Γ D 8 0 0 (wM ad cy g) 19 [(0, .ref (ad 0)), (1, .int x1), (2, .int x2), (3, .int x3)] []) : ∀ (x1 : Int32) (x2 : Int32) (x3 : Int32) (x5 : Int32) (t0 : Int64) (g : GM), vM_findBest_141 post K3 K9 K19 x1 x2 x3 x5 t0 g → J Γ D 8 0 0 (wM ad cy g) 141 [(0, .ref (ad 0)), (1, .int x1), (2, .int x2), (3, .int x3), (5, .int x5)] [.long t0] := by
  have hinX12 : ∀ w ∈ wsX120, w ∈ wsX12_findBest := fun w h => List.mem_cons_of_mem _ (List.mem_append_right _ h)
  intro x1 x2 x3 x5 t0 g hv
  unfold vM_findBest_141 at hv
  refine j_lstore (lv' := [(6, .long t0), (0, .ref (ad 0)), (1, .int x1), (2, .int x2), (3, .int x3), (5, .int x5)]) hC dX12_findBest_141 (by decide) rfl ?_
  refine j_lload hC dX12_findBest_143 0 rfl ?_
  refine j_aload_n (i := 0) hC dX12_findBest_145 rfl 1 rfl ?_
  refine j_get (C := RX12) (T := TX12) (N := 22) (v := .ref (ad 8)) hC hinX12 0 (wM_c0 ad cy _) rfl 10 (by decide) (mw 2 rfl) rfl rfl dX12_findBest_146 ?_
  refine j_iload hC dX12_findBest_149 5 rfl ?_
  refine j_lald (v := ((m_least g) x5.toNatClampNeg)) hC 8 1 (wM_c8 ad cy _) rfl hv.1 rfl dX12_findBest_151 ?_
  have hv := hv.2
  refine j_lcmp_ge (tgt := 173) hC dX12_findBest_152 dX12_findBest_153 (by decide) (fun h_ => ?_) (fun h_ => ?_)
  · have hv := hv.1 h_
    exact j_lv [1, 2, 3, 4] rfl (lM_findBest_173 hC hQ hK3 hK9 hK19 _ _ _ _ hv)
  · have hv := hv.2 h_
    refine j_aload_n (i := 0) hC dX12_findBest_156 rfl 1 rfl ?_
    refine j_get (C := RX12) (T := TX12) (N := 22) (v := .ref (ad 8)) hC hinX12 0 (wM_c0 ad cy _) rfl 10 (by decide) (mw 2 rfl) rfl rfl dX12_findBest_157 ?_
    refine j_iload hC dX12_findBest_160 5 rfl ?_
    refine j_lload hC dX12_findBest_162 0 rfl ?_
    refine j_last hC 8 1 (wM_c8 ad cy _) rfl hv.1 (wM_s_least ad cy _ _) dX12_findBest_164 ?_
    have hv := hv.2
    refine j_aload_n (i := 0) hC dX12_findBest_165 rfl 1 rfl ?_
    refine j_get (C := RX12) (T := TX12) (N := 22) (v := .ref (ad 9)) hC hinX12 0 (wM_c0 ad cy _) rfl 11 (by decide) (mw 3 rfl) rfl rfl dX12_findBest_166 ?_
    refine j_iload hC dX12_findBest_169 5 rfl ?_
    refine j_iconst (v := 1) hC dX12_findBest_171 (by decide) ?_
    refine j_zast hC 9 2 (wM_c9 ad cy _) rfl hv.1 (wM_s_isTold ad cy _ _) dX12_findBest_172 ?_
    have hv := hv.2
    exact j_lv [1, 2, 3, 4] rfl (lM_findBest_173 hC hQ hK3 hK9 hK19 _ _ _ _ hv)
set_option maxHeartbeats 4000000 in
set_option maxRecDepth 100000 in
theorem lM_findBest_123 {Γ : jG} {l : Launch} {D : va_G} {ad : Nat → Nat} {cy : Nat → ClassId} {post : GM → Prop} (hC : jC Γ l rM_findBest D 8 RX12 cX12_findBest wsX12_findBest (tyM cy)) (hQ : jQv Γ D (wM ad cy) post none 0 0) {K3 : Int32 → GM → Prop} (hK3 : ∀ (x1 : Int32) (g : GM), K3 x1 g → J Γ D 8 0 0 (wM ad cy g) 3 [(0, .ref (ad 0)), (1, .int x1)] []) {K9 : Int32 → Int32 → GM → Prop} (hK9 : ∀ (x1 : Int32) (x2 : Int32) (g : GM), K9 x1 x2 g → J Γ D 8 0 0 (wM ad cy g) 9 [(0, .ref (ad 0)), (1, .int x1), (2, .int x2)] []) {K19 : Int32 → Int32 → Int32 → GM → Prop} (hK19 : ∀ (x1 : Int32) (x2 : Int32) (x3 : Int32) (g : GM), K19 x1 x2 x3 g → J Γ D 8 0 0 (wM ad cy g) 19 [(0, .ref (ad 0)), (1, .int x1), (2, .int x2), (3, .int x3)] []) : ∀ (x1 : Int32) (x2 : Int32) (x3 : Int32) (x5 : Int32) (g : GM), vM_findBest_123 post K3 K9 K19 x1 x2 x3 x5 g → J Γ D 8 0 0 (wM ad cy g) 123 [(0, .ref (ad 0)), (1, .int x1), (2, .int x2), (3, .int x3), (5, .int x5)] [] := by
  have hinX12 : ∀ w ∈ wsX120, w ∈ wsX12_findBest := fun w h => List.mem_cons_of_mem _ (List.mem_append_right _ h)
  intro x1 x2 x3 x5 g hv
  unfold vM_findBest_123 at hv
  refine j_aload_n (i := 0) hC dX12_findBest_123 rfl 0 rfl ?_
  refine j_iload_n (i := 2) hC dX12_findBest_124 rfl 2 rfl ?_
  refine j_iload_n (i := 3) hC dX12_findBest_125 rfl 3 rfl ?_
  refine j_iconst (v := 1) hC dX12_findBest_126 (by decide) ?_
  refine j_iload_n (i := 1) hC dX12_findBest_127 rfl 1 rfl ?_
  refine j_callV_l (C := RX12) (As := [.int x2, .int x3, .int (1 : Int32), .int x1]) (rest := []) (b := (ad 0)) hC (cM_lossBy hv) 4 gX12_findBest_X12_lossBy rfl rfl rfl ⟨Nat.le_of_ble_eq_true rfl, Nat.le_of_ble_eq_true rfl⟩ hdM_lossBy rfl (wM_c0 ad cy _) rfl rfl (Nat.le_of_ble_eq_true rfl) ⟨Nat.zero_le _, Nat.zero_le _⟩ dX12_findBest_128 (fun r128 g128 hv => ?_)
  refine j_goto (tgt := 141) hC dX12_findBest_131 (by decide) ?_
  exact j_lv [0, 1, 2, 3, 4] rfl (lM_findBest_141 hC hQ hK3 hK9 hK19 _ _ _ _ _ _ hv)
set_option maxHeartbeats 4000000 in
set_option maxRecDepth 100000 in
theorem lM_findBest_59 {Γ : jG} {l : Launch} {D : va_G} {ad : Nat → Nat} {cy : Nat → ClassId} {post : GM → Prop} (hC : jC Γ l rM_findBest D 8 RX12 cX12_findBest wsX12_findBest (tyM cy)) (hQ : jQv Γ D (wM ad cy) post none 0 0) {K3 : Int32 → GM → Prop} (hK3 : ∀ (x1 : Int32) (g : GM), K3 x1 g → J Γ D 8 0 0 (wM ad cy g) 3 [(0, .ref (ad 0)), (1, .int x1)] []) {K9 : Int32 → Int32 → GM → Prop} (hK9 : ∀ (x1 : Int32) (x2 : Int32) (g : GM), K9 x1 x2 g → J Γ D 8 0 0 (wM ad cy g) 9 [(0, .ref (ad 0)), (1, .int x1), (2, .int x2)] []) {K19 : Int32 → Int32 → Int32 → GM → Prop} (hK19 : ∀ (x1 : Int32) (x2 : Int32) (x3 : Int32) (g : GM), K19 x1 x2 x3 g → J Γ D 8 0 0 (wM ad cy g) 19 [(0, .ref (ad 0)), (1, .int x1), (2, .int x2), (3, .int x3)] []) : ∀ (x1 : Int32) (x2 : Int32) (x3 : Int32) (t0 : Int32) (g : GM), vM_findBest_59 post K3 K9 K19 x1 x2 x3 t0 g → J Γ D 8 0 0 (wM ad cy g) 59 [(0, .ref (ad 0)), (1, .int x1), (2, .int x2), (3, .int x3)] [.int t0] := by
  have hinX12 : ∀ w ∈ wsX120, w ∈ wsX12_findBest := fun w h => List.mem_cons_of_mem _ (List.mem_append_right _ h)
  intro x1 x2 x3 t0 g hv
  unfold vM_findBest_59 at hv
  refine j_istore (lv' := [(4, .int t0), (0, .ref (ad 0)), (1, .int x1), (2, .int x2), (3, .int x3)]) hC dX12_findBest_59 (by decide) rfl ?_
  refine j_iload hC dX12_findBest_61 0 rfl ?_
  refine j_if_eq (tgt := 173) hC dX12_findBest_63 (by decide) (fun h_ => ?_) (fun h_ => ?_)
  · have hv := hv.1 h_
    exact j_lv [1, 2, 3, 4] rfl (lM_findBest_173 hC hQ hK3 hK9 hK19 _ _ _ _ hv)
  · have hv := hv.2 h_
    refine j_aload_n (i := 0) hC dX12_findBest_66 rfl 1 rfl ?_
    refine j_iload_n (i := 2) hC dX12_findBest_67 rfl 3 rfl ?_
    refine j_iload_n (i := 1) hC dX12_findBest_68 rfl 2 rfl ?_
    refine j_callV_i (C := RX12) (As := [.int x2, .int x1]) (rest := []) (b := (ad 0)) hC (cM_groupOf hv) 2 gX12_findBest_X12_groupOf rfl rfl rfl ⟨Nat.le_of_ble_eq_true rfl, Nat.le_of_ble_eq_true rfl⟩ hdM_groupOf rfl (wM_c0 ad cy _) rfl rfl (Nat.le_of_ble_eq_true rfl) ⟨Nat.zero_le _, Nat.zero_le _⟩ dX12_findBest_69 (fun r69 g69 hv => ?_)
    refine j_iload_n (i := 2) hC dX12_findBest_72 rfl 3 rfl ?_
    refine j_icmp_ne (tgt := 173) hC dX12_findBest_73 (by decide) (fun h_ => ?_) (fun h_ => ?_)
    · have hv := hv.1 h_
      exact j_lv [1, 2, 3, 4] rfl (lM_findBest_173 hC hQ hK3 hK9 hK19 _ _ _ _ hv)
    · have hv := hv.2 h_
      refine j_sipush (v := 128) hC dX12_findBest_76 (by decide) ?_
      refine j_iload_n (i := 1) hC dX12_findBest_79 rfl 2 rfl ?_
      refine j_imul hC dX12_findBest_80 ?_
      refine j_bipush (v := 16) hC dX12_findBest_81 (by decide) ?_
      refine j_iload_n (i := 2) hC dX12_findBest_83 rfl 3 rfl ?_
      refine j_imul hC dX12_findBest_84 ?_
      refine j_iadd hC dX12_findBest_85 ?_
      refine j_iload_n (i := 3) hC dX12_findBest_86 rfl 4 rfl ?_
      refine j_iadd hC dX12_findBest_87 ?_
      refine j_istore (lv' := [(5, .int ((((128 : Int32) * x1) + ((16 : Int32) * x2)) + x3)), (4, .int t0), (0, .ref (ad 0)), (1, .int x1), (2, .int x2), (3, .int x3)]) hC dX12_findBest_88 (by decide) rfl ?_
      refine j_aload_n (i := 0) hC dX12_findBest_90 rfl 2 rfl ?_
      refine j_get (C := RX12) (T := TX12) (N := 22) (v := .ref (ad 8)) hC hinX12 0 (wM_c0 ad cy _) rfl 10 (by decide) (mw 2 rfl) rfl rfl dX12_findBest_91 ?_
      refine j_iload hC dX12_findBest_94 0 rfl ?_
      refine j_aload_n (i := 0) hC dX12_findBest_96 rfl 2 rfl ?_
      refine j_iload_n (i := 2) hC dX12_findBest_97 rfl 4 rfl ?_
      refine j_iload_n (i := 3) hC dX12_findBest_98 rfl 5 rfl ?_
      refine j_iconst (v := 0) hC dX12_findBest_99 (by decide) ?_
      refine j_iload_n (i := 1) hC dX12_findBest_100 rfl 3 rfl ?_
      refine j_callV_l (C := RX12) (As := [.int x2, .int x3, .int (0 : Int32), .int x1]) (rest := [.int ((((128 : Int32) * x1) + ((16 : Int32) * x2)) + x3), .ref (ad 8)]) (b := (ad 0)) hC (cM_lossBy hv) 4 gX12_findBest_X12_lossBy rfl rfl rfl ⟨Nat.le_of_ble_eq_true rfl, Nat.le_of_ble_eq_true rfl⟩ hdM_lossBy rfl (wM_c0 ad cy _) rfl rfl (Nat.le_of_ble_eq_true rfl) ⟨Nat.zero_le _, Nat.zero_le _⟩ dX12_findBest_101 (fun r101 g101 hv => ?_)
      refine j_last hC 8 1 (wM_c8 ad cy _) rfl hv.1 (wM_s_least ad cy _ _) dX12_findBest_104 ?_
      have hv := hv.2
      refine j_aload_n (i := 0) hC dX12_findBest_105 rfl 2 rfl ?_
      refine j_get (C := RX12) (T := TX12) (N := 22) (v := .ref (ad 9)) hC hinX12 0 (wM_c0 ad cy _) rfl 11 (by decide) (mw 3 rfl) rfl rfl dX12_findBest_106 ?_
      refine j_iload hC dX12_findBest_109 0 rfl ?_
      refine j_iconst (v := 0) hC dX12_findBest_111 (by decide) ?_
      refine j_zast hC 9 2 (wM_c9 ad cy _) rfl hv.1 (wM_s_isTold ad cy _ _) dX12_findBest_112 ?_
      have hv := hv.2
      refine j_iload_n (i := 3) hC dX12_findBest_113 rfl 5 rfl ?_
      refine j_if_eq (tgt := 123) hC dX12_findBest_114 (by decide) (fun h_ => ?_) (fun h_ => ?_)
      · have hv := hv.1 h_
        exact j_lv [2, 3, 4, 5, 0] rfl (lM_findBest_123 hC hQ hK3 hK9 hK19 _ _ _ _ _ hv)
      · have hv := hv.2 h_
        refine j_iload_n (i := 3) hC dX12_findBest_117 rfl 5 rfl ?_
        refine j_bipush (v := 8) hC dX12_findBest_118 (by decide) ?_
        refine j_icmp_le (tgt := 134) hC dX12_findBest_120 (by decide) (fun h_ => ?_) (fun h_ => ?_)
        · have hv := hv.1 h_
          refine j_aload_n (i := 0) hC dX12_findBest_134 rfl 2 rfl ?_
          refine j_get (C := RX12) (T := TX12) (N := 22) (v := .ref (ad 8)) hC hinX12 0 (wM_c0 ad cy _) rfl 10 (by decide) (mw 2 rfl) rfl rfl dX12_findBest_135 ?_
          refine j_iload hC dX12_findBest_138 0 rfl ?_
          refine j_lald (v := ((vp_updL (m_least g101) ((((128 : Int32) * x1) + ((16 : Int32) * x2)) + x3).toNatClampNeg r101) ((((128 : Int32) * x1) + ((16 : Int32) * x2)) + x3).toNatClampNeg)) hC 8 1 (wM_c8 ad cy _) rfl hv.1 rfl dX12_findBest_140 ?_
          have hv := hv.2
          exact j_lv [2, 3, 4, 5, 0] rfl (lM_findBest_141 hC hQ hK3 hK9 hK19 _ _ _ _ _ _ hv)
        · have hv := hv.2 h_
          exact j_lv [2, 3, 4, 5, 0] rfl (lM_findBest_123 hC hQ hK3 hK9 hK19 _ _ _ _ _ hv)
set_option maxHeartbeats 4000000 in
set_option maxRecDepth 100000 in
theorem lM_findBest_54 {Γ : jG} {l : Launch} {D : va_G} {ad : Nat → Nat} {cy : Nat → ClassId} {post : GM → Prop} (hC : jC Γ l rM_findBest D 8 RX12 cX12_findBest wsX12_findBest (tyM cy)) (hQ : jQv Γ D (wM ad cy) post none 0 0) {K3 : Int32 → GM → Prop} (hK3 : ∀ (x1 : Int32) (g : GM), K3 x1 g → J Γ D 8 0 0 (wM ad cy g) 3 [(0, .ref (ad 0)), (1, .int x1)] []) {K9 : Int32 → Int32 → GM → Prop} (hK9 : ∀ (x1 : Int32) (x2 : Int32) (g : GM), K9 x1 x2 g → J Γ D 8 0 0 (wM ad cy g) 9 [(0, .ref (ad 0)), (1, .int x1), (2, .int x2)] []) {K19 : Int32 → Int32 → Int32 → GM → Prop} (hK19 : ∀ (x1 : Int32) (x2 : Int32) (x3 : Int32) (g : GM), K19 x1 x2 x3 g → J Γ D 8 0 0 (wM ad cy g) 19 [(0, .ref (ad 0)), (1, .int x1), (2, .int x2), (3, .int x3)] []) : ∀ (x1 : Int32) (x2 : Int32) (x3 : Int32) (g : GM), vM_findBest_54 post K3 K9 K19 x1 x2 x3 g → J Γ D 8 0 0 (wM ad cy g) 54 [(0, .ref (ad 0)), (1, .int x1), (2, .int x2), (3, .int x3)] [] := by
  have hinX12 : ∀ w ∈ wsX120, w ∈ wsX12_findBest := fun w h => List.mem_cons_of_mem _ (List.mem_append_right _ h)
  intro x1 x2 x3 g hv
  unfold vM_findBest_54 at hv
  refine j_iconst (v := 1) hC dX12_findBest_54 (by decide) ?_
  refine j_goto (tgt := 59) hC dX12_findBest_55 (by decide) ?_
  exact j_lv [0, 1, 2, 3] rfl (lM_findBest_59 hC hQ hK3 hK9 hK19 _ _ _ _ _ hv)
set_option maxHeartbeats 4000000 in
set_option maxRecDepth 100000 in
theorem lM_findBest_58 {Γ : jG} {l : Launch} {D : va_G} {ad : Nat → Nat} {cy : Nat → ClassId} {post : GM → Prop} (hC : jC Γ l rM_findBest D 8 RX12 cX12_findBest wsX12_findBest (tyM cy)) (hQ : jQv Γ D (wM ad cy) post none 0 0) {K3 : Int32 → GM → Prop} (hK3 : ∀ (x1 : Int32) (g : GM), K3 x1 g → J Γ D 8 0 0 (wM ad cy g) 3 [(0, .ref (ad 0)), (1, .int x1)] []) {K9 : Int32 → Int32 → GM → Prop} (hK9 : ∀ (x1 : Int32) (x2 : Int32) (g : GM), K9 x1 x2 g → J Γ D 8 0 0 (wM ad cy g) 9 [(0, .ref (ad 0)), (1, .int x1), (2, .int x2)] []) {K19 : Int32 → Int32 → Int32 → GM → Prop} (hK19 : ∀ (x1 : Int32) (x2 : Int32) (x3 : Int32) (g : GM), K19 x1 x2 x3 g → J Γ D 8 0 0 (wM ad cy g) 19 [(0, .ref (ad 0)), (1, .int x1), (2, .int x2), (3, .int x3)] []) : ∀ (x1 : Int32) (x2 : Int32) (x3 : Int32) (g : GM), vM_findBest_58 post K3 K9 K19 x1 x2 x3 g → J Γ D 8 0 0 (wM ad cy g) 58 [(0, .ref (ad 0)), (1, .int x1), (2, .int x2), (3, .int x3)] [] := by
  have hinX12 : ∀ w ∈ wsX120, w ∈ wsX12_findBest := fun w h => List.mem_cons_of_mem _ (List.mem_append_right _ h)
  intro x1 x2 x3 g hv
  unfold vM_findBest_58 at hv
  refine j_iconst (v := 0) hC dX12_findBest_58 (by decide) ?_
  exact j_lv [0, 1, 2, 3] rfl (lM_findBest_59 hC hQ hK3 hK9 hK19 _ _ _ _ _ hv)
set_option maxHeartbeats 4000000 in
set_option maxRecDepth 100000 in
theorem lM_findBest_179 {Γ : jG} {l : Launch} {D : va_G} {ad : Nat → Nat} {cy : Nat → ClassId} {post : GM → Prop} (hC : jC Γ l rM_findBest D 8 RX12 cX12_findBest wsX12_findBest (tyM cy)) (hQ : jQv Γ D (wM ad cy) post none 0 0) {K3 : Int32 → GM → Prop} (hK3 : ∀ (x1 : Int32) (g : GM), K3 x1 g → J Γ D 8 0 0 (wM ad cy g) 3 [(0, .ref (ad 0)), (1, .int x1)] []) {K9 : Int32 → Int32 → GM → Prop} (hK9 : ∀ (x1 : Int32) (x2 : Int32) (g : GM), K9 x1 x2 g → J Γ D 8 0 0 (wM ad cy g) 9 [(0, .ref (ad 0)), (1, .int x1), (2, .int x2)] []) : ∀ (x1 : Int32) (x2 : Int32) (g : GM), vM_findBest_179 post K3 K9 x1 x2 g → J Γ D 8 0 0 (wM ad cy g) 179 [(0, .ref (ad 0)), (1, .int x1), (2, .int x2)] [] := by
  have hinX12 : ∀ w ∈ wsX120, w ∈ wsX12_findBest := fun w h => List.mem_cons_of_mem _ (List.mem_append_right _ h)
  intro x1 x2 g hv
  unfold vM_findBest_179 at hv
  refine j_iinc (k := 2) (v := (x2 + (1 : Int32))) (lv' := [(2, .int (x2 + (1 : Int32))), (0, .ref (ad 0)), (1, .int x1)]) hC dX12_findBest_179 rfl rfl (by decide) rfl ?_
  refine j_goto (tgt := 9) hC dX12_findBest_182 (by decide) ?_
  exact j_lv [1, 2, 0] rfl (hK9 _ _ _ hv)
set_option maxHeartbeats 4000000 in
set_option maxRecDepth 100000 in
theorem lM_findBest_19 {Γ : jG} {l : Launch} {D : va_G} {ad : Nat → Nat} {cy : Nat → ClassId} {post : GM → Prop} (hC : jC Γ l rM_findBest D 8 RX12 cX12_findBest wsX12_findBest (tyM cy)) (hQ : jQv Γ D (wM ad cy) post none 0 0) {K3 : Int32 → GM → Prop} (hK3 : ∀ (x1 : Int32) (g : GM), K3 x1 g → J Γ D 8 0 0 (wM ad cy g) 3 [(0, .ref (ad 0)), (1, .int x1)] []) {K9 : Int32 → Int32 → GM → Prop} (hK9 : ∀ (x1 : Int32) (x2 : Int32) (g : GM), K9 x1 x2 g → J Γ D 8 0 0 (wM ad cy g) 9 [(0, .ref (ad 0)), (1, .int x1), (2, .int x2)] []) : ∀ (n_ : Nat) (x1 : Int32) (x2 : Int32) (x3 : Int32) (g : GM), vM_findBest_19 post K3 K9 n_ x1 x2 x3 g → J Γ D 8 0 0 (wM ad cy g) 19 [(0, .ref (ad 0)), (1, .int x1), (2, .int x2), (3, .int x3)] [] := by
  have hinX12 : ∀ w ∈ wsX120, w ∈ wsX12_findBest := fun w h => List.mem_cons_of_mem _ (List.mem_append_right _ h)
  intro n_
  induction n_ with
  | zero => intro x1 x2 x3 g hv; exact False.elim hv
  | succ k_ ih =>
    intro x1 x2 x3 g hv
    unfold vM_findBest_19 at hv
    refine j_iload_n (i := 3) hC dX12_findBest_19 rfl 3 rfl ?_
    refine j_bipush (v := 16) hC dX12_findBest_20 (by decide) ?_
    refine j_icmp_ge (tgt := 179) hC dX12_findBest_22 (by decide) (fun h_ => ?_) (fun h_ => ?_)
    · have hv := hv.1 h_
      exact j_lv [0, 1, 2] rfl (lM_findBest_179 hC hQ hK3 hK9 _ _ _ hv)
    · have hv := hv.2 h_
      refine j_iload_n (i := 3) hC dX12_findBest_25 rfl 3 rfl ?_
      refine j_iconst (v := 3) hC dX12_findBest_26 (by decide) ?_
      refine j_icmp_lt (tgt := 54) hC dX12_findBest_27 (by decide) (fun h_ => ?_) (fun h_ => ?_)
      · have hv := hv.1 h_
        exact j_lv [0, 1, 2, 3] rfl (lM_findBest_54 hC hQ hK3 hK9 (K19 := fun x1 x2 x3 g => vM_findBest_19 post K3 K9 k_ x1 x2 x3 g) (fun _ _ _ _ h_ => ih _ _ _ _ h_) _ _ _ _ hv)
      · have hv := hv.2 h_
        refine j_iload_n (i := 3) hC dX12_findBest_30 rfl 3 rfl ?_
        refine j_iconst (v := 4) hC dX12_findBest_31 (by decide) ?_
        refine j_icmp_eq (tgt := 54) hC dX12_findBest_32 (by decide) (fun h_ => ?_) (fun h_ => ?_)
        · have hv := hv.1 h_
          exact j_lv [0, 1, 2, 3] rfl (lM_findBest_54 hC hQ hK3 hK9 (K19 := fun x1 x2 x3 g => vM_findBest_19 post K3 K9 k_ x1 x2 x3 g) (fun _ _ _ _ h_ => ih _ _ _ _ h_) _ _ _ _ hv)
        · have hv := hv.2 h_
          refine j_iload_n (i := 3) hC dX12_findBest_35 rfl 3 rfl ?_
          refine j_iconst (v := 5) hC dX12_findBest_36 (by decide) ?_
          refine j_icmp_eq (tgt := 54) hC dX12_findBest_37 (by decide) (fun h_ => ?_) (fun h_ => ?_)
          · have hv := hv.1 h_
            exact j_lv [0, 1, 2, 3] rfl (lM_findBest_54 hC hQ hK3 hK9 (K19 := fun x1 x2 x3 g => vM_findBest_19 post K3 K9 k_ x1 x2 x3 g) (fun _ _ _ _ h_ => ih _ _ _ _ h_) _ _ _ _ hv)
          · have hv := hv.2 h_
            refine j_iload_n (i := 3) hC dX12_findBest_40 rfl 3 rfl ?_
            refine j_bipush (v := 8) hC dX12_findBest_41 (by decide) ?_
            refine j_icmp_le (tgt := 58) hC dX12_findBest_43 (by decide) (fun h_ => ?_) (fun h_ => ?_)
            · have hv := hv.1 h_
              exact j_lv [0, 1, 2, 3] rfl (lM_findBest_58 hC hQ hK3 hK9 (K19 := fun x1 x2 x3 g => vM_findBest_19 post K3 K9 k_ x1 x2 x3 g) (fun _ _ _ _ h_ => ih _ _ _ _ h_) _ _ _ _ hv)
            · have hv := hv.2 h_
              refine j_iload_n (i := 3) hC dX12_findBest_46 rfl 3 rfl ?_
              refine j_bipush (v := 8) hC dX12_findBest_47 (by decide) ?_
              refine j_iload_n (i := 1) hC dX12_findBest_49 rfl 1 rfl ?_
              refine j_iadd hC dX12_findBest_50 ?_
              refine j_icmp_gt (tgt := 58) hC dX12_findBest_51 (by decide) (fun h_ => ?_) (fun h_ => ?_)
              · have hv := hv.1 h_
                exact j_lv [0, 1, 2, 3] rfl (lM_findBest_58 hC hQ hK3 hK9 (K19 := fun x1 x2 x3 g => vM_findBest_19 post K3 K9 k_ x1 x2 x3 g) (fun _ _ _ _ h_ => ih _ _ _ _ h_) _ _ _ _ hv)
              · have hv := hv.2 h_
                exact j_lv [0, 1, 2, 3] rfl (lM_findBest_54 hC hQ hK3 hK9 (K19 := fun x1 x2 x3 g => vM_findBest_19 post K3 K9 k_ x1 x2 x3 g) (fun _ _ _ _ h_ => ih _ _ _ _ h_) _ _ _ _ hv)
set_option maxHeartbeats 4000000 in
set_option maxRecDepth 100000 in
theorem lM_findBest_185 {Γ : jG} {l : Launch} {D : va_G} {ad : Nat → Nat} {cy : Nat → ClassId} {post : GM → Prop} (hC : jC Γ l rM_findBest D 8 RX12 cX12_findBest wsX12_findBest (tyM cy)) (hQ : jQv Γ D (wM ad cy) post none 0 0) {K3 : Int32 → GM → Prop} (hK3 : ∀ (x1 : Int32) (g : GM), K3 x1 g → J Γ D 8 0 0 (wM ad cy g) 3 [(0, .ref (ad 0)), (1, .int x1)] []) : ∀ (x1 : Int32) (g : GM), vM_findBest_185 post K3 x1 g → J Γ D 8 0 0 (wM ad cy g) 185 [(0, .ref (ad 0)), (1, .int x1)] [] := by
  have hinX12 : ∀ w ∈ wsX120, w ∈ wsX12_findBest := fun w h => List.mem_cons_of_mem _ (List.mem_append_right _ h)
  intro x1 g hv
  unfold vM_findBest_185 at hv
  refine j_iinc (k := 1) (v := (x1 + (-1 : Int32))) (lv' := [(1, .int (x1 + (-1 : Int32))), (0, .ref (ad 0))]) hC dX12_findBest_185 rfl rfl (by decide) rfl ?_
  refine j_goto (tgt := 3) hC dX12_findBest_188 (by decide) ?_
  exact j_lv [1, 0] rfl (hK3 _ _ hv)
set_option maxHeartbeats 4000000 in
set_option maxRecDepth 100000 in
theorem lM_findBest_9 {Γ : jG} {l : Launch} {D : va_G} {ad : Nat → Nat} {cy : Nat → ClassId} {post : GM → Prop} (hC : jC Γ l rM_findBest D 8 RX12 cX12_findBest wsX12_findBest (tyM cy)) (hQ : jQv Γ D (wM ad cy) post none 0 0) {K3 : Int32 → GM → Prop} (hK3 : ∀ (x1 : Int32) (g : GM), K3 x1 g → J Γ D 8 0 0 (wM ad cy g) 3 [(0, .ref (ad 0)), (1, .int x1)] []) : ∀ (n_ : Nat) (x1 : Int32) (x2 : Int32) (g : GM), vM_findBest_9 post K3 n_ x1 x2 g → J Γ D 8 0 0 (wM ad cy g) 9 [(0, .ref (ad 0)), (1, .int x1), (2, .int x2)] [] := by
  have hinX12 : ∀ w ∈ wsX120, w ∈ wsX12_findBest := fun w h => List.mem_cons_of_mem _ (List.mem_append_right _ h)
  intro n_
  induction n_ with
  | zero => intro x1 x2 g hv; exact False.elim hv
  | succ k_ ih =>
    intro x1 x2 g hv
    unfold vM_findBest_9 at hv
    refine j_iload_n (i := 2) hC dX12_findBest_9 rfl 2 rfl ?_
    refine j_aload_n (i := 0) hC dX12_findBest_10 rfl 0 rfl ?_
    refine j_get (C := RX12) (T := TX12) (N := 22) (v := .int (m_worlds g)) hC hinX12 0 (wM_c0 ad cy _) rfl 7 (by decide) (mw 1 rfl) rfl rfl dX12_findBest_11 ?_
    refine j_icmp_ge (tgt := 185) hC dX12_findBest_14 (by decide) (fun h_ => ?_) (fun h_ => ?_)
    · have hv := hv.1 h_
      exact j_lv [0, 1] rfl (lM_findBest_185 hC hQ hK3 _ _ hv)
    · have hv := hv.2 h_
      refine j_iconst (v := 0) hC dX12_findBest_17 (by decide) ?_
      refine j_istore_n (i := 3) (lv' := [(3, .int (0 : Int32)), (0, .ref (ad 0)), (1, .int x1), (2, .int x2)]) hC dX12_findBest_18 rfl (by decide) rfl ?_
      obtain ⟨n_, hv⟩ := hv
      exact j_lv [1, 2, 3, 0] rfl (lM_findBest_19 hC hQ hK3 (K9 := fun x1 x2 g => vM_findBest_9 post K3 k_ x1 x2 g) (fun _ _ _ h_ => ih _ _ _ h_) n_ _ _ _ _ hv)
set_option maxHeartbeats 4000000 in
set_option maxRecDepth 100000 in
theorem lM_findBest_3 {Γ : jG} {l : Launch} {D : va_G} {ad : Nat → Nat} {cy : Nat → ClassId} {post : GM → Prop} (hC : jC Γ l rM_findBest D 8 RX12 cX12_findBest wsX12_findBest (tyM cy)) (hQ : jQv Γ D (wM ad cy) post none 0 0) : ∀ (n_ : Nat) (x1 : Int32) (g : GM), vM_findBest_3 post n_ x1 g → J Γ D 8 0 0 (wM ad cy g) 3 [(0, .ref (ad 0)), (1, .int x1)] [] := by
  have hinX12 : ∀ w ∈ wsX120, w ∈ wsX12_findBest := fun w h => List.mem_cons_of_mem _ (List.mem_append_right _ h)
  intro n_
  induction n_ with
  | zero => intro x1 g hv; exact False.elim hv
  | succ k_ ih =>
    intro x1 g hv
    unfold vM_findBest_3 at hv
    refine j_iload_n (i := 1) hC dX12_findBest_3 rfl 1 rfl ?_
    refine j_if_lt (tgt := 191) hC dX12_findBest_4 (by decide) (fun h_ => ?_) (fun h_ => ?_)
    · have hv := hv.1 h_
      exact j_vret hC hQ dX12_findBest_191 rfl hv
    · have hv := hv.2 h_
      refine j_iconst (v := 0) hC dX12_findBest_7 (by decide) ?_
      refine j_istore_n (i := 2) (lv' := [(2, .int (0 : Int32)), (0, .ref (ad 0)), (1, .int x1)]) hC dX12_findBest_8 rfl (by decide) rfl ?_
      obtain ⟨n_, hv⟩ := hv
      exact j_lv [1, 2, 0] rfl (lM_findBest_9 hC hQ (K3 := fun x1 g => vM_findBest_3 post k_ x1 g) (fun _ _ h_ => ih _ _ h_) n_ _ _ _ hv)
set_option maxHeartbeats 4000000 in
set_option maxRecDepth 100000 in
theorem cM_findBest {l : Launch} {D : va_G} {ad : Nat → Nat} {cy : Nat → ClassId} {g : GM} {post : GM → Prop} (hv : vM_findBest g post) : jMv l yX12_findBest wsX12_findBest rM_findBest D (tyM cy) [.ref (ad 0)] (wM ad cy g) (wM ad cy) post 0 0 := by
  refine j_metv (cc := cX12_findBest) (nL := 8) (rt := none) (by decide) (Nat.le_of_ble_eq_true rfl) ?_
  intro Γ hC hQ _
  have hC : jC Γ l rM_findBest D 8 RX12 cX12_findBest wsX12_findBest (tyM cy) := hC
  have hinX12 : ∀ w ∈ wsX120, w ∈ wsX12_findBest := fun w h => List.mem_cons_of_mem _ (List.mem_append_right _ h)
  refine j_lv (lv' := [(0, .ref (ad 0))]) [0] rfl ?_
  unfold vM_findBest at hv
  refine j_bipush (v := 7) hC dX12_findBest_0 (by decide) ?_
  refine j_istore_n (i := 1) (lv' := [(1, .int (7 : Int32)), (0, .ref (ad 0))]) hC dX12_findBest_2 rfl (by decide) rfl ?_
  obtain ⟨n_, hv⟩ := hv
  exact j_lv [1, 0] rfl (lM_findBest_3 hC hQ n_ _ _ hv)
theorem hdM_best : yX12_best.cls = RX12 ∧ yX12_best.cls ≠ "java/lang/invoke/MethodHandle" ∧ yX12_best.cls ≠ "java/lang/invoke/VarHandle" ∧ (parseMethodDescriptor yX12_best.desc).map (fun d => d.parameters.length) = some 0 := by decide +kernel
abbrev rM_best : Room := { frames := 5, cells := 0, slots := 0, locals := 129 }
def vM_best_45 (post : Int64 → GM → Prop) (K13 : Int64 → Int32 → GM → Prop) (x3 : Int32) (t0 : Int64) (t1 : Int64) (g : GM) : Prop :=
  (K13 (t1 + t0) (x3 + (1 : Int32)) g)
def vM_best_13 (post : Int64 → GM → Prop) : Nat → Int64 → Int32 → GM → Prop
  | 0, _, _, _ => False
  | k_ + 1, x1, x3, g =>
  (((m_worlds g) ≤ x3 → post x1 g) ∧ (¬ (m_worlds g) ≤ x3 → (vM_groupOf g x3 (0 : Int32) (fun r25 g25 => ((¬ r25 = x3 → (vM_best_45 post (fun x1 x3 g => vM_best_13 post k_ x1 x3 g) x3 (0 : Int64) x1 g25)) ∧ (r25 = x3 → (vp_in ((16 : Int32) * x3) 1152 ∧ (vM_best_45 post (fun x1 x3 g => vM_best_13 post k_ x1 x3 g) x3 ((m_least g25) ((16 : Int32) * x3).toNatClampNeg) x1 g25))))))))
def vM_best (g : GM) (post : Int64 → GM → Prop) : Prop :=
  (vM_findBest (sm_thrown g (0 : Int32)) (fun g6 => (∃ n_ : Nat, vM_best_13 post n_ (0 : Int64) (0 : Int32) g6)))
set_option maxHeartbeats 4000000 in
set_option maxRecDepth 100000 in
theorem lM_best_45 {Γ : jG} {l : Launch} {D : va_G} {ad : Nat → Nat} {cy : Nat → ClassId} {post : Int64 → GM → Prop} (hC : jC Γ l rM_best D 4 RX12 cX12_best wsX12_best (tyM cy)) (hQ : jQl Γ D (wM ad cy) post (some .long) 0 0) {K13 : Int64 → Int32 → GM → Prop} (hK13 : ∀ (x1 : Int64) (x3 : Int32) (g : GM), K13 x1 x3 g → J Γ D 4 0 0 (wM ad cy g) 13 [(0, .ref (ad 0)), (1, .long x1), (3, .int x3)] []) : ∀ (x3 : Int32) (t0 : Int64) (t1 : Int64) (g : GM), vM_best_45 post K13 x3 t0 t1 g → J Γ D 4 0 0 (wM ad cy g) 45 [(0, .ref (ad 0)), (3, .int x3)] [.long t0, .long t1] := by
  have hinX12 : ∀ w ∈ wsX120, w ∈ wsX12_best := fun w h => List.mem_cons_of_mem _ (List.mem_append_right _ h)
  intro x3 t0 t1 g hv
  unfold vM_best_45 at hv
  refine j_ladd hC dX12_best_45 ?_
  refine j_lstore_n (i := 1) (lv' := [(1, .long (t1 + t0)), (0, .ref (ad 0)), (3, .int x3)]) hC dX12_best_46 rfl (by decide) rfl ?_
  refine j_iinc (k := 2) (v := (x3 + (1 : Int32))) (lv' := [(3, .int (x3 + (1 : Int32))), (1, .long (t1 + t0)), (0, .ref (ad 0))]) hC dX12_best_47 rfl rfl (by decide) rfl ?_
  refine j_goto (tgt := 13) hC dX12_best_50 (by decide) ?_
  exact j_lv [2, 1, 0] rfl (hK13 _ _ _ hv)
set_option maxHeartbeats 4000000 in
set_option maxRecDepth 100000 in
theorem lM_best_13 {Γ : jG} {l : Launch} {D : va_G} {ad : Nat → Nat} {cy : Nat → ClassId} {post : Int64 → GM → Prop} (hC : jC Γ l rM_best D 4 RX12 cX12_best wsX12_best (tyM cy)) (hQ : jQl Γ D (wM ad cy) post (some .long) 0 0) : ∀ (n_ : Nat) (x1 : Int64) (x3 : Int32) (g : GM), vM_best_13 post n_ x1 x3 g → J Γ D 4 0 0 (wM ad cy g) 13 [(0, .ref (ad 0)), (1, .long x1), (3, .int x3)] [] := by
  have hinX12 : ∀ w ∈ wsX120, w ∈ wsX12_best := fun w h => List.mem_cons_of_mem _ (List.mem_append_right _ h)
  intro n_
  induction n_ with
  | zero => intro x1 x3 g hv; exact False.elim hv
  | succ k_ ih =>
    intro x1 x3 g hv
    unfold vM_best_13 at hv
    refine j_iload_n (i := 3) hC dX12_best_13 rfl 2 rfl ?_
    refine j_aload_n (i := 0) hC dX12_best_14 rfl 0 rfl ?_
    refine j_get (C := RX12) (T := TX12) (N := 22) (v := .int (m_worlds g)) hC hinX12 0 (wM_c0 ad cy _) rfl 7 (by decide) (mw 2 rfl) rfl rfl dX12_best_15 ?_
    refine j_icmp_ge (tgt := 53) hC dX12_best_18 (by decide) (fun h_ => ?_) (fun h_ => ?_)
    · have hv := hv.1 h_
      refine j_lload_n (i := 1) hC dX12_best_53 rfl 1 rfl ?_
      exact j_lret hC hQ dX12_best_54 rfl hv
    · have hv := hv.2 h_
      refine j_lload_n (i := 1) hC dX12_best_21 rfl 1 rfl ?_
      refine j_aload_n (i := 0) hC dX12_best_22 rfl 0 rfl ?_
      refine j_iload_n (i := 3) hC dX12_best_23 rfl 2 rfl ?_
      refine j_iconst (v := 0) hC dX12_best_24 (by decide) ?_
      refine j_callV_i (C := RX12) (As := [.int x3, .int (0 : Int32)]) (rest := [.long x1]) (b := (ad 0)) hC (cM_groupOf hv) 2 gX12_best_X12_groupOf rfl rfl rfl ⟨Nat.le_of_ble_eq_true rfl, Nat.le_of_ble_eq_true rfl⟩ hdM_groupOf rfl (wM_c0 ad cy _) rfl rfl (Nat.le_of_ble_eq_true rfl) ⟨Nat.zero_le _, Nat.zero_le _⟩ dX12_best_25 (fun r25 g25 hv => ?_)
      refine j_iload_n (i := 3) hC dX12_best_28 rfl 2 rfl ?_
      refine j_icmp_ne (tgt := 44) hC dX12_best_29 (by decide) (fun h_ => ?_) (fun h_ => ?_)
      · have hv := hv.1 h_
        refine j_lconst (v := 0) hC dX12_best_44 (by decide) ?_
        exact j_lv [0, 2] rfl (lM_best_45 hC hQ (K13 := fun x1 x3 g => vM_best_13 post k_ x1 x3 g) (fun _ _ _ h_ => ih _ _ _ h_) _ _ _ _ hv)
      · have hv := hv.2 h_
        refine j_aload_n (i := 0) hC dX12_best_32 rfl 0 rfl ?_
        refine j_get (C := RX12) (T := TX12) (N := 22) (v := .ref (ad 8)) hC hinX12 0 (wM_c0 ad cy _) rfl 10 (by decide) (mw 3 rfl) rfl rfl dX12_best_33 ?_
        refine j_bipush (v := 16) hC dX12_best_36 (by decide) ?_
        refine j_iload_n (i := 3) hC dX12_best_38 rfl 2 rfl ?_
        refine j_imul hC dX12_best_39 ?_
        refine j_lald (v := ((m_least g25) ((16 : Int32) * x3).toNatClampNeg)) hC 8 1 (wM_c8 ad cy _) rfl hv.1 rfl dX12_best_40 ?_
        have hv := hv.2
        refine j_goto (tgt := 45) hC dX12_best_41 (by decide) ?_
        exact j_lv [0, 2] rfl (lM_best_45 hC hQ (K13 := fun x1 x3 g => vM_best_13 post k_ x1 x3 g) (fun _ _ _ h_ => ih _ _ _ h_) _ _ _ _ hv)
set_option maxHeartbeats 4000000 in
set_option maxRecDepth 100000 in
theorem cM_best {l : Launch} {D : va_G} {ad : Nat → Nat} {cy : Nat → ClassId} {g : GM} {post : Int64 → GM → Prop} (hv : vM_best g post) : jMl l yX12_best wsX12_best rM_best D (tyM cy) [.ref (ad 0)] (wM ad cy g) (wM ad cy) post 0 0 := by
  refine j_metl (cc := cX12_best) (nL := 4) (rt := (some .long)) (by decide) (Nat.le_of_ble_eq_true rfl) ?_
  intro Γ hC hQ _
  have hC : jC Γ l rM_best D 4 RX12 cX12_best wsX12_best (tyM cy) := hC
  have hinX12 : ∀ w ∈ wsX120, w ∈ wsX12_best := fun w h => List.mem_cons_of_mem _ (List.mem_append_right _ h)
  refine j_lv (lv' := [(0, .ref (ad 0))]) [0] rfl ?_
  unfold vM_best at hv
  refine j_aload_n (i := 0) hC dX12_best_0 rfl 0 rfl ?_
  refine j_iconst (v := 0) hC dX12_best_1 (by decide) ?_
  refine j_put (C := RX12) (T := TX12) (N := 22) (ty := .int) hC hinX12 tyX12 tyX12_ok nmX12 0 (wM_c0 ad cy _) rfl 0 (by decide) (mw 1 rfl) rfl rfl fdX12_0 rfl rfl (Nat.le_of_ble_eq_true rfl) (wM_p_thrown ad cy _ _) dX12_best_2 ?_
  refine j_aload_n (i := 0) hC dX12_best_5 rfl 0 rfl ?_
  refine j_callV_v (C := RX12) (As := []) (rest := []) (b := (ad 0)) hC (cM_findBest hv) 0 gX12_best_X12_findBest rfl rfl rfl ⟨Nat.le_of_ble_eq_true rfl, Nat.le_of_ble_eq_true rfl⟩ hdM_findBest rfl (wM_c0 ad cy _) rfl rfl (Nat.le_of_ble_eq_true rfl) ⟨Nat.zero_le _, Nat.zero_le _⟩ dX12_best_6 (fun g6 hv => ?_)
  refine j_lconst (v := 0) hC dX12_best_9 (by decide) ?_
  refine j_lstore_n (i := 1) (lv' := [(1, .long (0 : Int64)), (0, .ref (ad 0))]) hC dX12_best_10 rfl (by decide) rfl ?_
  refine j_iconst (v := 0) hC dX12_best_11 (by decide) ?_
  refine j_istore_n (i := 3) (lv' := [(3, .int (0 : Int32)), (1, .long (0 : Int64)), (0, .ref (ad 0))]) hC dX12_best_12 rfl (by decide) rfl ?_
  obtain ⟨n_, hv⟩ := hv
  exact j_lv [2, 1, 0] rfl (lM_best_13 hC hQ n_ _ _ _ hv)
theorem hdM_hour : yX12_hour.cls = RX12 ∧ yX12_hour.cls ≠ "java/lang/invoke/MethodHandle" ∧ yX12_hour.cls ≠ "java/lang/invoke/VarHandle" ∧ (parseMethodDescriptor yX12_hour.desc).map (fun d => d.parameters.length) = some 3 := by decide +kernel
abbrev rM_hour : Room := { frames := 5, cells := 0, slots := 0, locals := 129 }
def vM_hour_105 (post : Int32 → GM → Prop) (x1 : Int32) (x2 : Int32) (x3 : Int32) (x4 : Int32) (g : GM) : Prop :=
  (vM_groupOf g x1 x2 (fun r119 g119 => (vp_in ((((128 : Int32) * x2) + ((16 : Int32) * r119)) + x4) 1152 ∧ ((¬ x3 = (0 : Int32) → ((¬ x3 = (1 : Int32) → ((¬ x3 = (2 : Int32) → (vM_lostIn g119 x1 x4 ((m_isTold g119) ((((128 : Int32) * x2) + ((16 : Int32) * r119)) + x4).toNatClampNeg) x2 (fun r196 g196 => post r196 g196))) ∧ (x3 = (2 : Int32) → (vM_waterIn g119 x1 x4 ((m_isTold g119) ((((128 : Int32) * x2) + ((16 : Int32) * r119)) + x4).toNatClampNeg) x2 (fun r183 g183 => post r183 g183))))) ∧ (x3 = (1 : Int32) → (vM_stateIn g119 x4 ((m_isTold g119) ((((128 : Int32) * x2) + ((16 : Int32) * r119)) + x4).toNatClampNeg) (fun r165 g165 => post r165 g165))))) ∧ (x3 = (0 : Int32) → ((¬ ((m_isTold g119) ((((128 : Int32) * x2) + ((16 : Int32) * r119)) + x4).toNatClampNeg) = (0 : Int32) → ((¬ x4 = (0 : Int32) → post (2 : Int32) g119) ∧ (x4 = (0 : Int32) → post (1 : Int32) g119))) ∧ (((m_isTold g119) ((((128 : Int32) * x2) + ((16 : Int32) * r119)) + x4).toNatClampNeg) = (0 : Int32) → post (0 : Int32) g119)))))))
def vM_hour_58 (post : Int32 → GM → Prop) : Nat → Int32 → Int32 → Int32 → Int32 → Int32 → GM → Prop
  | 0, _, _, _, _, _, _ => False
  | k_ + 1, x1, x2, x3, x4, x5, g =>
  ((x2 ≤ x5 → (vM_hour_105 post x1 x2 x3 x4 g)) ∧ (¬ x2 ≤ x5 → (vM_groupOf g x1 x5 (fun r83 g83 => (vp_in ((((128 : Int32) * x5) + ((16 : Int32) * r83)) + x4) 1152 ∧ (vM_after g83 x4 ((m_isTold g83) ((((128 : Int32) * x5) + ((16 : Int32) * r83)) + x4).toNatClampNeg) x5 (fun r94 g94 => (vM_hour_58 post k_ x1 x2 x3 r94 (x5 + (1 : Int32)) g94))))))))
def vM_hour (g : GM) (a1 : Int32) (a2 : Int32) (a3 : Int32) (post : Int32 → GM → Prop) : Prop :=
  (vM_in (sm_thrown g (0 : Int32)) (a1.toInt64) (0 : Int64) (((m_worlds g) - (1 : Int32)).toInt64) (fun r15 g15 => ((r15 = (0 : Int32) → post (-1000001 : Int32) g15) ∧ (¬ r15 = (0 : Int32) → (vM_in g15 (a2.toInt64) (0 : Int64) (7 : Int64) (fun r27 g27 => ((r27 = (0 : Int32) → post (-1000001 : Int32) g27) ∧ (¬ r27 = (0 : Int32) → (vM_in g27 (a3.toInt64) (0 : Int64) (3 : Int64) (fun r39 g39 => ((¬ r39 = (0 : Int32) → (vM_findBest g39 (fun g49 => (∃ n_ : Nat, vM_hour_58 post n_ a1 a2 a3 (0 : Int32) (0 : Int32) g49)))) ∧ (r39 = (0 : Int32) → post (-1000001 : Int32) g39))))))))))))
set_option maxHeartbeats 4000000 in
set_option maxRecDepth 100000 in
theorem lM_hour_105 {Γ : jG} {l : Launch} {D : va_G} {ad : Nat → Nat} {cy : Nat → ClassId} {post : Int32 → GM → Prop} (hC : jC Γ l rM_hour D 6 RX12 cX12_hour wsX12_hour (tyM cy)) (hQ : jQi Γ D (wM ad cy) post (some .int) 0 0) : ∀ (x1 : Int32) (x2 : Int32) (x3 : Int32) (x4 : Int32) (g : GM), vM_hour_105 post x1 x2 x3 x4 g → J Γ D 6 0 0 (wM ad cy g) 105 [(0, .ref (ad 0)), (1, .int x1), (2, .int x2), (3, .int x3), (4, .int x4)] [] := by
  have hinX12 : ∀ w ∈ wsX120, w ∈ wsX12_hour := fun w h => List.mem_cons_of_mem _ (List.mem_append_right _ h)
  intro x1 x2 x3 x4 g hv
  unfold vM_hour_105 at hv
  refine j_aload_n (i := 0) hC dX12_hour_105 rfl 0 rfl ?_
  refine j_get (C := RX12) (T := TX12) (N := 22) (v := .ref (ad 9)) hC hinX12 0 (wM_c0 ad cy _) rfl 11 (by decide) (mw 6 rfl) rfl rfl dX12_hour_106 ?_
  refine j_sipush (v := 128) hC dX12_hour_109 (by decide) ?_
  refine j_iload_n (i := 2) hC dX12_hour_112 rfl 2 rfl ?_
  refine j_imul hC dX12_hour_113 ?_
  refine j_bipush (v := 16) hC dX12_hour_114 (by decide) ?_
  refine j_aload_n (i := 0) hC dX12_hour_116 rfl 0 rfl ?_
  refine j_iload_n (i := 1) hC dX12_hour_117 rfl 1 rfl ?_
  refine j_iload_n (i := 2) hC dX12_hour_118 rfl 2 rfl ?_
  refine j_callV_i (C := RX12) (As := [.int x1, .int x2]) (rest := [.int (16 : Int32), .int ((128 : Int32) * x2), .ref (ad 9)]) (b := (ad 0)) hC (cM_groupOf hv) 2 gX12_hour_X12_groupOf rfl rfl rfl ⟨Nat.le_of_ble_eq_true rfl, Nat.le_of_ble_eq_true rfl⟩ hdM_groupOf rfl (wM_c0 ad cy _) rfl rfl (Nat.le_of_ble_eq_true rfl) ⟨Nat.zero_le _, Nat.zero_le _⟩ dX12_hour_119 (fun r119 g119 hv => ?_)
  refine j_imul hC dX12_hour_122 ?_
  refine j_iadd hC dX12_hour_123 ?_
  refine j_iload hC dX12_hour_124 4 rfl ?_
  refine j_iadd hC dX12_hour_126 ?_
  refine j_zald (v := ((m_isTold g119) ((((128 : Int32) * x2) + ((16 : Int32) * r119)) + x4).toNatClampNeg)) hC 9 2 (wM_c9 ad cy _) rfl hv.1 rfl dX12_hour_127 ?_
  have hv := hv.2
  refine j_istore (lv' := [(5, .int ((m_isTold g119) ((((128 : Int32) * x2) + ((16 : Int32) * r119)) + x4).toNatClampNeg)), (0, .ref (ad 0)), (1, .int x1), (2, .int x2), (3, .int x3), (4, .int x4)]) hC dX12_hour_128 (by decide) rfl ?_
  refine j_iload_n (i := 3) hC dX12_hour_130 rfl 4 rfl ?_
  refine j_if_ne (tgt := 156) hC dX12_hour_131 (by decide) (fun h_ => ?_) (fun h_ => ?_)
  · have hv := hv.1 h_
    refine j_iload_n (i := 3) hC dX12_hour_156 rfl 4 rfl ?_
    refine j_iconst (v := 1) hC dX12_hour_157 (by decide) ?_
    refine j_icmp_ne (tgt := 171) hC dX12_hour_158 (by decide) (fun h_ => ?_) (fun h_ => ?_)
    · have hv := hv.1 h_
      refine j_iload_n (i := 3) hC dX12_hour_171 rfl 4 rfl ?_
      refine j_iconst (v := 2) hC dX12_hour_172 (by decide) ?_
      refine j_icmp_ne (tgt := 189) hC dX12_hour_173 (by decide) (fun h_ => ?_) (fun h_ => ?_)
      · have hv := hv.1 h_
        refine j_aload_n (i := 0) hC dX12_hour_189 rfl 1 rfl ?_
        refine j_iload_n (i := 1) hC dX12_hour_190 rfl 2 rfl ?_
        refine j_iload hC dX12_hour_191 5 rfl ?_
        refine j_iload hC dX12_hour_193 0 rfl ?_
        refine j_iload_n (i := 2) hC dX12_hour_195 rfl 3 rfl ?_
        refine j_callV_i (C := RX12) (As := [.int x1, .int x4, .int ((m_isTold g119) ((((128 : Int32) * x2) + ((16 : Int32) * r119)) + x4).toNatClampNeg), .int x2]) (rest := []) (b := (ad 0)) hC (cM_lostIn hv) 4 gX12_hour_X12_lostIn rfl rfl rfl ⟨Nat.le_of_ble_eq_true rfl, Nat.le_of_ble_eq_true rfl⟩ hdM_lostIn rfl (wM_c0 ad cy _) rfl rfl (Nat.le_of_ble_eq_true rfl) ⟨Nat.zero_le _, Nat.zero_le _⟩ dX12_hour_196 (fun r196 g196 hv => ?_)
        exact j_iret hC hQ dX12_hour_199 rfl hv
      · have hv := hv.2 h_
        refine j_aload_n (i := 0) hC dX12_hour_176 rfl 1 rfl ?_
        refine j_iload_n (i := 1) hC dX12_hour_177 rfl 2 rfl ?_
        refine j_iload hC dX12_hour_178 5 rfl ?_
        refine j_iload hC dX12_hour_180 0 rfl ?_
        refine j_iload_n (i := 2) hC dX12_hour_182 rfl 3 rfl ?_
        refine j_callV_i (C := RX12) (As := [.int x1, .int x4, .int ((m_isTold g119) ((((128 : Int32) * x2) + ((16 : Int32) * r119)) + x4).toNatClampNeg), .int x2]) (rest := []) (b := (ad 0)) hC (cM_waterIn hv) 4 gX12_hour_X12_waterIn rfl rfl rfl ⟨Nat.le_of_ble_eq_true rfl, Nat.le_of_ble_eq_true rfl⟩ hdM_waterIn rfl (wM_c0 ad cy _) rfl rfl (Nat.le_of_ble_eq_true rfl) ⟨Nat.zero_le _, Nat.zero_le _⟩ dX12_hour_183 (fun r183 g183 hv => ?_)
        refine j_goto (tgt := 199) hC dX12_hour_186 (by decide) ?_
        exact j_iret hC hQ dX12_hour_199 rfl hv
    · have hv := hv.2 h_
      refine j_iload hC dX12_hour_161 5 rfl ?_
      refine j_iload hC dX12_hour_163 0 rfl ?_
      refine j_callS_i (As := [.int x4, .int ((m_isTold g119) ((((128 : Int32) * x2) + ((16 : Int32) * r119)) + x4).toNatClampNeg)]) (rest := []) hC (cM_stateIn hv) 2 gX12_hour_X12_stateIn rfl rfl rfl ⟨Nat.le_of_ble_eq_true rfl, Nat.le_of_ble_eq_true rfl⟩ hdM_stateIn.2 rfl rfl (Nat.le_of_ble_eq_true rfl) ⟨Nat.zero_le _, Nat.zero_le _⟩ dX12_hour_165 (fun r165 g165 hv => ?_)
      refine j_goto (tgt := 199) hC dX12_hour_168 (by decide) ?_
      exact j_iret hC hQ dX12_hour_199 rfl hv
  · have hv := hv.2 h_
    refine j_iload hC dX12_hour_134 0 rfl ?_
    refine j_if_ne (tgt := 143) hC dX12_hour_136 (by decide) (fun h_ => ?_) (fun h_ => ?_)
    · have hv := hv.1 h_
      refine j_iload hC dX12_hour_143 5 rfl ?_
      refine j_if_ne (tgt := 152) hC dX12_hour_145 (by decide) (fun h_ => ?_) (fun h_ => ?_)
      · have hv := hv.1 h_
        refine j_iconst (v := 2) hC dX12_hour_152 (by decide) ?_
        refine j_goto (tgt := 199) hC dX12_hour_153 (by decide) ?_
        exact j_iret hC hQ dX12_hour_199 rfl hv
      · have hv := hv.2 h_
        refine j_iconst (v := 1) hC dX12_hour_148 (by decide) ?_
        refine j_goto (tgt := 199) hC dX12_hour_149 (by decide) ?_
        exact j_iret hC hQ dX12_hour_199 rfl hv
    · have hv := hv.2 h_
      refine j_iconst (v := 0) hC dX12_hour_139 (by decide) ?_
      refine j_goto (tgt := 199) hC dX12_hour_140 (by decide) ?_
      exact j_iret hC hQ dX12_hour_199 rfl hv
set_option maxHeartbeats 4000000 in
set_option maxRecDepth 100000 in
theorem lM_hour_58 {Γ : jG} {l : Launch} {D : va_G} {ad : Nat → Nat} {cy : Nat → ClassId} {post : Int32 → GM → Prop} (hC : jC Γ l rM_hour D 6 RX12 cX12_hour wsX12_hour (tyM cy)) (hQ : jQi Γ D (wM ad cy) post (some .int) 0 0) : ∀ (n_ : Nat) (x1 : Int32) (x2 : Int32) (x3 : Int32) (x4 : Int32) (x5 : Int32) (g : GM), vM_hour_58 post n_ x1 x2 x3 x4 x5 g → J Γ D 6 0 0 (wM ad cy g) 58 [(0, .ref (ad 0)), (1, .int x1), (2, .int x2), (3, .int x3), (4, .int x4), (5, .int x5)] [] := by
  have hinX12 : ∀ w ∈ wsX120, w ∈ wsX12_hour := fun w h => List.mem_cons_of_mem _ (List.mem_append_right _ h)
  intro n_
  induction n_ with
  | zero => intro x1 x2 x3 x4 x5 g hv; exact False.elim hv
  | succ k_ ih =>
    intro x1 x2 x3 x4 x5 g hv
    unfold vM_hour_58 at hv
    refine j_iload hC dX12_hour_58 5 rfl ?_
    refine j_iload_n (i := 2) hC dX12_hour_60 rfl 2 rfl ?_
    refine j_icmp_ge (tgt := 105) hC dX12_hour_61 (by decide) (fun h_ => ?_) (fun h_ => ?_)
    · have hv := hv.1 h_
      exact j_lv [0, 1, 2, 3, 4] rfl (lM_hour_105 hC hQ _ _ _ _ _ hv)
    · have hv := hv.2 h_
      refine j_aload_n (i := 0) hC dX12_hour_64 rfl 0 rfl ?_
      refine j_iload hC dX12_hour_65 4 rfl ?_
      refine j_aload_n (i := 0) hC dX12_hour_67 rfl 0 rfl ?_
      refine j_get (C := RX12) (T := TX12) (N := 22) (v := .ref (ad 9)) hC hinX12 0 (wM_c0 ad cy _) rfl 11 (by decide) (mw 6 rfl) rfl rfl dX12_hour_68 ?_
      refine j_sipush (v := 128) hC dX12_hour_71 (by decide) ?_
      refine j_iload hC dX12_hour_74 5 rfl ?_
      refine j_imul hC dX12_hour_76 ?_
      refine j_bipush (v := 16) hC dX12_hour_77 (by decide) ?_
      refine j_aload_n (i := 0) hC dX12_hour_79 rfl 0 rfl ?_
      refine j_iload_n (i := 1) hC dX12_hour_80 rfl 1 rfl ?_
      refine j_iload hC dX12_hour_81 5 rfl ?_
      refine j_callV_i (C := RX12) (As := [.int x1, .int x5]) (rest := [.int (16 : Int32), .int ((128 : Int32) * x5), .ref (ad 9), .int x4, .ref (ad 0)]) (b := (ad 0)) hC (cM_groupOf hv) 2 gX12_hour_X12_groupOf rfl rfl rfl ⟨Nat.le_of_ble_eq_true rfl, Nat.le_of_ble_eq_true rfl⟩ hdM_groupOf rfl (wM_c0 ad cy _) rfl rfl (Nat.le_of_ble_eq_true rfl) ⟨Nat.zero_le _, Nat.zero_le _⟩ dX12_hour_83 (fun r83 g83 hv => ?_)
      refine j_imul hC dX12_hour_86 ?_
      refine j_iadd hC dX12_hour_87 ?_
      refine j_iload hC dX12_hour_88 4 rfl ?_
      refine j_iadd hC dX12_hour_90 ?_
      refine j_zald (v := ((m_isTold g83) ((((128 : Int32) * x5) + ((16 : Int32) * r83)) + x4).toNatClampNeg)) hC 9 2 (wM_c9 ad cy _) rfl hv.1 rfl dX12_hour_91 ?_
      have hv := hv.2
      refine j_iload hC dX12_hour_92 5 rfl ?_
      refine j_callV_i (C := RX12) (As := [.int x4, .int ((m_isTold g83) ((((128 : Int32) * x5) + ((16 : Int32) * r83)) + x4).toNatClampNeg), .int x5]) (rest := []) (b := (ad 0)) hC (cM_after hv) 3 gX12_hour_X12_after rfl rfl rfl ⟨Nat.le_of_ble_eq_true rfl, Nat.le_of_ble_eq_true rfl⟩ hdM_after rfl (wM_c0 ad cy _) rfl rfl (Nat.le_of_ble_eq_true rfl) ⟨Nat.zero_le _, Nat.zero_le _⟩ dX12_hour_94 (fun r94 g94 hv => ?_)
      refine j_istore (lv' := [(4, .int r94), (0, .ref (ad 0)), (1, .int x1), (2, .int x2), (3, .int x3), (5, .int x5)]) hC dX12_hour_97 (by decide) rfl ?_
      refine j_iinc (k := 5) (v := (x5 + (1 : Int32))) (lv' := [(5, .int (x5 + (1 : Int32))), (4, .int r94), (0, .ref (ad 0)), (1, .int x1), (2, .int x2), (3, .int x3)]) hC dX12_hour_99 rfl rfl (by decide) rfl ?_
      refine j_goto (tgt := 58) hC dX12_hour_102 (by decide) ?_
      exact j_lv [2, 3, 4, 5, 1, 0] rfl (ih _ _ _ _ _ _ hv)
set_option maxHeartbeats 4000000 in
set_option maxRecDepth 100000 in
theorem cM_hour {l : Launch} {D : va_G} {ad : Nat → Nat} {cy : Nat → ClassId} {g : GM} {a1 : Int32} {a2 : Int32} {a3 : Int32} {post : Int32 → GM → Prop} (hv : vM_hour g a1 a2 a3 post) : jMi l yX12_hour wsX12_hour rM_hour D (tyM cy) [.ref (ad 0), .int a1, .int a2, .int a3] (wM ad cy g) (wM ad cy) post 0 0 := by
  refine j_meti (cc := cX12_hour) (nL := 6) (rt := (some .int)) (by decide) (Nat.le_of_ble_eq_true rfl) ?_
  intro Γ hC hQ _
  have hC : jC Γ l rM_hour D 6 RX12 cX12_hour wsX12_hour (tyM cy) := hC
  have hinX12 : ∀ w ∈ wsX120, w ∈ wsX12_hour := fun w h => List.mem_cons_of_mem _ (List.mem_append_right _ h)
  refine j_lv (lv' := [(0, .ref (ad 0)), (1, .int a1), (2, .int a2), (3, .int a3)]) [0, 1, 2, 3] rfl ?_
  unfold vM_hour at hv
  refine j_aload_n (i := 0) hC dX12_hour_0 rfl 0 rfl ?_
  refine j_iconst (v := 0) hC dX12_hour_1 (by decide) ?_
  refine j_put (C := RX12) (T := TX12) (N := 22) (ty := .int) hC hinX12 tyX12 tyX12_ok nmX12 0 (wM_c0 ad cy _) rfl 0 (by decide) (mw 1 rfl) rfl rfl fdX12_0 rfl rfl (Nat.le_of_ble_eq_true rfl) (wM_p_thrown ad cy _ _) dX12_hour_2 ?_
  refine j_iload_n (i := 1) hC dX12_hour_5 rfl 1 rfl ?_
  refine j_i2l hC dX12_hour_6 ?_
  refine j_lconst (v := 0) hC dX12_hour_7 (by decide) ?_
  refine j_aload_n (i := 0) hC dX12_hour_8 rfl 0 rfl ?_
  refine j_get (C := RX12) (T := TX12) (N := 22) (v := .int (m_worlds g)) hC hinX12 0 (wM_c0 ad cy _) rfl 7 (by decide) (mw 2 rfl) rfl rfl dX12_hour_9 ?_
  refine j_iconst (v := 1) hC dX12_hour_12 (by decide) ?_
  refine j_isub hC dX12_hour_13 ?_
  refine j_i2l hC dX12_hour_14 ?_
  refine j_callS_i (As := [.long (a1.toInt64), .long (0 : Int64), .long (((m_worlds g) - (1 : Int32)).toInt64)]) (rest := []) hC (cM_in hv) 3 gX12_hour_X12_in rfl rfl rfl ⟨Nat.le_of_ble_eq_true rfl, Nat.le_of_ble_eq_true rfl⟩ hdM_in.2 rfl rfl (Nat.le_of_ble_eq_true rfl) ⟨Nat.zero_le _, Nat.zero_le _⟩ dX12_hour_15 (fun r15 g15 hv => ?_)
  refine j_if_eq (tgt := 45) hC dX12_hour_18 (by decide) (fun h_ => ?_) (fun h_ => ?_)
  · have hv := hv.1 h_
    refine j_ldc (v := -1000001) hC dX12_hour_45 (mw 5 rfl) ?_
    exact j_iret hC hQ dX12_hour_47 rfl hv
  · have hv := hv.2 h_
    refine j_iload_n (i := 2) hC dX12_hour_21 rfl 2 rfl ?_
    refine j_i2l hC dX12_hour_22 ?_
    refine j_lconst (v := 0) hC dX12_hour_23 (by decide) ?_
    refine j_ldc2 (v := 7) hC dX12_hour_24 (mw 3 rfl) ?_
    refine j_callS_i (As := [.long (a2.toInt64), .long (0 : Int64), .long (7 : Int64)]) (rest := []) hC (cM_in hv) 3 gX12_hour_X12_in rfl rfl rfl ⟨Nat.le_of_ble_eq_true rfl, Nat.le_of_ble_eq_true rfl⟩ hdM_in.2 rfl rfl (Nat.le_of_ble_eq_true rfl) ⟨Nat.zero_le _, Nat.zero_le _⟩ dX12_hour_27 (fun r27 g27 hv => ?_)
    refine j_if_eq (tgt := 45) hC dX12_hour_30 (by decide) (fun h_ => ?_) (fun h_ => ?_)
    · have hv := hv.1 h_
      refine j_ldc (v := -1000001) hC dX12_hour_45 (mw 5 rfl) ?_
      exact j_iret hC hQ dX12_hour_47 rfl hv
    · have hv := hv.2 h_
      refine j_iload_n (i := 3) hC dX12_hour_33 rfl 3 rfl ?_
      refine j_i2l hC dX12_hour_34 ?_
      refine j_lconst (v := 0) hC dX12_hour_35 (by decide) ?_
      refine j_ldc2 (v := 3) hC dX12_hour_36 (mw 4 rfl) ?_
      refine j_callS_i (As := [.long (a3.toInt64), .long (0 : Int64), .long (3 : Int64)]) (rest := []) hC (cM_in hv) 3 gX12_hour_X12_in rfl rfl rfl ⟨Nat.le_of_ble_eq_true rfl, Nat.le_of_ble_eq_true rfl⟩ hdM_in.2 rfl rfl (Nat.le_of_ble_eq_true rfl) ⟨Nat.zero_le _, Nat.zero_le _⟩ dX12_hour_39 (fun r39 g39 hv => ?_)
      refine j_if_ne (tgt := 48) hC dX12_hour_42 (by decide) (fun h_ => ?_) (fun h_ => ?_)
      · have hv := hv.1 h_
        refine j_aload_n (i := 0) hC dX12_hour_48 rfl 0 rfl ?_
        refine j_callV_v (C := RX12) (As := []) (rest := []) (b := (ad 0)) hC (cM_findBest hv) 0 gX12_hour_X12_findBest rfl rfl rfl ⟨Nat.le_of_ble_eq_true rfl, Nat.le_of_ble_eq_true rfl⟩ hdM_findBest rfl (wM_c0 ad cy _) rfl rfl (Nat.le_of_ble_eq_true rfl) ⟨Nat.zero_le _, Nat.zero_le _⟩ dX12_hour_49 (fun g49 hv => ?_)
        refine j_iconst (v := 0) hC dX12_hour_52 (by decide) ?_
        refine j_istore (lv' := [(4, .int (0 : Int32)), (0, .ref (ad 0)), (1, .int a1), (2, .int a2), (3, .int a3)]) hC dX12_hour_53 (by decide) rfl ?_
        refine j_iconst (v := 0) hC dX12_hour_55 (by decide) ?_
        refine j_istore (lv' := [(5, .int (0 : Int32)), (4, .int (0 : Int32)), (0, .ref (ad 0)), (1, .int a1), (2, .int a2), (3, .int a3)]) hC dX12_hour_56 (by decide) rfl ?_
        obtain ⟨n_, hv⟩ := hv
        exact j_lv [2, 3, 4, 5, 1, 0] rfl (lM_hour_58 hC hQ n_ _ _ _ _ _ _ hv)
      · have hv := hv.2 h_
        refine j_ldc (v := -1000001) hC dX12_hour_45 (mw 5 rfl) ?_
        exact j_iret hC hQ dX12_hour_47 rfl hv
end
section
theorem hdM_shutAt : yX12_shutAt.cls = RX12 ∧ yX12_shutAt.cls ≠ "java/lang/invoke/MethodHandle" ∧ yX12_shutAt.cls ≠ "java/lang/invoke/VarHandle" ∧ (parseMethodDescriptor yX12_shutAt.desc).map (fun d => d.parameters.length) = some 1 := by decide +kernel
abbrev rM_shutAt : Room := { frames := 3, cells := 0, slots := 0, locals := 74 }
def vM_shutAt_96 (post : Int64 → GM → Prop) (K26 : Int32 → Int64 → Int32 → GM → Prop) (K41 : Int32 → Int64 → Int32 → Int32 → Int32 → GM → Prop) (x1 : Int32) (x2 : Int64) (x4 : Int32) (x6 : Int32) (t0 : Int32) (t1 : Int32) (g : GM) : Prop :=
  (vM_after g t1 t0 x6 (fun r98 g98 => (K41 x1 x2 x4 r98 (x6 + (1 : Int32)) g98)))
def vM_shutAt_73 (post : Int64 → GM → Prop) (K26 : Int32 → Int64 → Int32 → GM → Prop) (K41 : Int32 → Int64 → Int32 → Int32 → Int32 → GM → Prop) (x1 : Int32) (x4 : Int32) (x5 : Int32) (x6 : Int32) (t0 : Int32) (t1 : Int32) (t2 : Int32) (t4 : Int64) (t5 : Int64) (g : GM) : Prop :=
  (vM_lostIn g t2 t1 t0 x6 (fun r75 g75 => ((¬ x6 = x1 → (vM_shutAt_96 post K26 K41 x1 (t5 + (t4 * (r75.toInt64))) x4 x6 (0 : Int32) x5 g75)) ∧ (x6 = x1 → (vM_shutAt_96 post K26 K41 x1 (t5 + (t4 * (r75.toInt64))) x4 x6 (1 : Int32) x5 g75)))))
def vM_shutAt_109 (post : Int64 → GM → Prop) (K26 : Int32 → Int64 → Int32 → GM → Prop) (x1 : Int32) (x2 : Int64) (x4 : Int32) (g : GM) : Prop :=
  (K26 x1 x2 (x4 + (1 : Int32)) g)
def vM_shutAt_41 (post : Int64 → GM → Prop) (K26 : Int32 → Int64 → Int32 → GM → Prop) : Nat → Int32 → Int64 → Int32 → Int32 → Int32 → GM → Prop
  | 0, _, _, _, _, _, _ => False
  | k_ + 1, x1, x2, x4, x5, x6, g =>
  (((8 : Int32) ≤ x6 → (vM_shutAt_109 post K26 x1 x2 x4 g)) ∧ (¬ (8 : Int32) ≤ x6 → (vp_in x4 8 ∧ ((¬ x6 = x1 → (vM_shutAt_73 post K26 (fun x1 x2 x4 x5 x6 g => vM_shutAt_41 post K26 k_ x1 x2 x4 x5 x6 g) x1 x4 x5 x6 (0 : Int32) x5 x4 (((m_weight g) x4.toNatClampNeg).toInt64) x2 g)) ∧ (x6 = x1 → (vM_shutAt_73 post K26 (fun x1 x2 x4 x5 x6 g => vM_shutAt_41 post K26 k_ x1 x2 x4 x5 x6 g) x1 x4 x5 x6 (1 : Int32) x5 x4 (((m_weight g) x4.toNatClampNeg).toInt64) x2 g))))))
def vM_shutAt_26 (post : Int64 → GM → Prop) : Nat → Int32 → Int64 → Int32 → GM → Prop
  | 0, _, _, _, _ => False
  | k_ + 1, x1, x2, x4, g =>
  (((m_worlds g) ≤ x4 → post x2 g) ∧ (¬ (m_worlds g) ≤ x4 → (∃ n_ : Nat, vM_shutAt_41 post (fun x1 x2 x4 g => vM_shutAt_26 post k_ x1 x2 x4 g) n_ x1 x2 x4 (0 : Int32) (0 : Int32) g)))
def vM_shutAt (g : GM) (a1 : Int32) (post : Int64 → GM → Prop) : Prop :=
  (vM_in (sm_thrown g (0 : Int32)) (a1.toInt64) (0 : Int64) (8 : Int64) (fun r11 g11 => ((¬ r11 = (0 : Int32) → (∃ n_ : Nat, vM_shutAt_26 post n_ a1 (0 : Int64) (0 : Int32) g11)) ∧ (r11 = (0 : Int32) → post (-1000001 : Int64) g11))))
set_option maxHeartbeats 4000000 in
set_option maxRecDepth 100000 in
theorem lM_shutAt_96 {Γ : jG} {l : Launch} {D : va_G} {ad : Nat → Nat} {cy : Nat → ClassId} {post : Int64 → GM → Prop} (hC : jC Γ l rM_shutAt D 7 RX12 cX12_shutAt wsX12_shutAt (tyM cy)) (hQ : jQl Γ D (wM ad cy) post (some .long) 0 0) {K26 : Int32 → Int64 → Int32 → GM → Prop} (hK26 : ∀ (x1 : Int32) (x2 : Int64) (x4 : Int32) (g : GM), K26 x1 x2 x4 g → J Γ D 7 0 0 (wM ad cy g) 26 [(0, .ref (ad 0)), (1, .int x1), (2, .long x2), (4, .int x4)] []) {K41 : Int32 → Int64 → Int32 → Int32 → Int32 → GM → Prop} (hK41 : ∀ (x1 : Int32) (x2 : Int64) (x4 : Int32) (x5 : Int32) (x6 : Int32) (g : GM), K41 x1 x2 x4 x5 x6 g → J Γ D 7 0 0 (wM ad cy g) 41 [(0, .ref (ad 0)), (1, .int x1), (2, .long x2), (4, .int x4), (5, .int x5), (6, .int x6)] []) : ∀ (x1 : Int32) (x2 : Int64) (x4 : Int32) (x6 : Int32) (t0 : Int32) (t1 : Int32) (g : GM), vM_shutAt_96 post K26 K41 x1 x2 x4 x6 t0 t1 g → J Γ D 7 0 0 (wM ad cy g) 96 [(0, .ref (ad 0)), (1, .int x1), (2, .long x2), (4, .int x4), (6, .int x6)] [.int t0, .int t1, .ref (ad 0)] := by
  have hinX12 : ∀ w ∈ wsX120, w ∈ wsX12_shutAt := fun w h => List.mem_cons_of_mem _ (List.mem_append_right _ h)
  intro x1 x2 x4 x6 t0 t1 g hv
  unfold vM_shutAt_96 at hv
  refine j_iload hC dX12_shutAt_96 4 rfl ?_
  refine j_callV_i (C := RX12) (As := [.int t1, .int t0, .int x6]) (rest := []) (b := (ad 0)) hC (cM_after hv) 3 gX12_shutAt_X12_after rfl rfl rfl ⟨Nat.le_of_ble_eq_true rfl, Nat.le_of_ble_eq_true rfl⟩ hdM_after rfl (wM_c0 ad cy _) rfl rfl (Nat.le_of_ble_eq_true rfl) ⟨Nat.zero_le _, Nat.zero_le _⟩ dX12_shutAt_98 (fun r98 g98 hv => ?_)
  refine j_istore (lv' := [(5, .int r98), (0, .ref (ad 0)), (1, .int x1), (2, .long x2), (4, .int x4), (6, .int x6)]) hC dX12_shutAt_101 (by decide) rfl ?_
  refine j_iinc (k := 5) (v := (x6 + (1 : Int32))) (lv' := [(6, .int (x6 + (1 : Int32))), (5, .int r98), (0, .ref (ad 0)), (1, .int x1), (2, .long x2), (4, .int x4)]) hC dX12_shutAt_103 rfl rfl (by decide) rfl ?_
  refine j_goto (tgt := 41) hC dX12_shutAt_106 (by decide) ?_
  exact j_lv [2, 3, 4, 5, 1, 0] rfl (hK41 _ _ _ _ _ _ hv)
set_option maxHeartbeats 4000000 in
set_option maxRecDepth 100000 in
theorem lM_shutAt_73 {Γ : jG} {l : Launch} {D : va_G} {ad : Nat → Nat} {cy : Nat → ClassId} {post : Int64 → GM → Prop} (hC : jC Γ l rM_shutAt D 7 RX12 cX12_shutAt wsX12_shutAt (tyM cy)) (hQ : jQl Γ D (wM ad cy) post (some .long) 0 0) {K26 : Int32 → Int64 → Int32 → GM → Prop} (hK26 : ∀ (x1 : Int32) (x2 : Int64) (x4 : Int32) (g : GM), K26 x1 x2 x4 g → J Γ D 7 0 0 (wM ad cy g) 26 [(0, .ref (ad 0)), (1, .int x1), (2, .long x2), (4, .int x4)] []) {K41 : Int32 → Int64 → Int32 → Int32 → Int32 → GM → Prop} (hK41 : ∀ (x1 : Int32) (x2 : Int64) (x4 : Int32) (x5 : Int32) (x6 : Int32) (g : GM), K41 x1 x2 x4 x5 x6 g → J Γ D 7 0 0 (wM ad cy g) 41 [(0, .ref (ad 0)), (1, .int x1), (2, .long x2), (4, .int x4), (5, .int x5), (6, .int x6)] []) : ∀ (x1 : Int32) (x4 : Int32) (x5 : Int32) (x6 : Int32) (t0 : Int32) (t1 : Int32) (t2 : Int32) (t4 : Int64) (t5 : Int64) (g : GM), vM_shutAt_73 post K26 K41 x1 x4 x5 x6 t0 t1 t2 t4 t5 g → J Γ D 7 0 0 (wM ad cy g) 73 [(0, .ref (ad 0)), (1, .int x1), (4, .int x4), (5, .int x5), (6, .int x6)] [.int t0, .int t1, .int t2, .ref (ad 0), .long t4, .long t5] := by
  have hinX12 : ∀ w ∈ wsX120, w ∈ wsX12_shutAt := fun w h => List.mem_cons_of_mem _ (List.mem_append_right _ h)
  intro x1 x4 x5 x6 t0 t1 t2 t4 t5 g hv
  unfold vM_shutAt_73 at hv
  refine j_iload hC dX12_shutAt_73 4 rfl ?_
  refine j_callV_i (C := RX12) (As := [.int t2, .int t1, .int t0, .int x6]) (rest := [.long t4, .long t5]) (b := (ad 0)) hC (cM_lostIn hv) 4 gX12_shutAt_X12_lostIn rfl rfl rfl ⟨Nat.le_of_ble_eq_true rfl, Nat.le_of_ble_eq_true rfl⟩ hdM_lostIn rfl (wM_c0 ad cy _) rfl rfl (Nat.le_of_ble_eq_true rfl) ⟨Nat.zero_le _, Nat.zero_le _⟩ dX12_shutAt_75 (fun r75 g75 hv => ?_)
  refine j_i2l hC dX12_shutAt_78 ?_
  refine j_lmul hC dX12_shutAt_79 ?_
  refine j_ladd hC dX12_shutAt_80 ?_
  refine j_lstore_n (i := 2) (lv' := [(2, .long (t5 + (t4 * (r75.toInt64)))), (0, .ref (ad 0)), (1, .int x1), (4, .int x4), (5, .int x5), (6, .int x6)]) hC dX12_shutAt_81 rfl (by decide) rfl ?_
  refine j_aload_n (i := 0) hC dX12_shutAt_82 rfl 1 rfl ?_
  refine j_iload hC dX12_shutAt_83 4 rfl ?_
  refine j_iload hC dX12_shutAt_85 5 rfl ?_
  refine j_iload_n (i := 1) hC dX12_shutAt_87 rfl 2 rfl ?_
  refine j_icmp_ne (tgt := 95) hC dX12_shutAt_88 (by decide) (fun h_ => ?_) (fun h_ => ?_)
  · have hv := hv.1 h_
    refine j_iconst (v := 0) hC dX12_shutAt_95 (by decide) ?_
    exact j_lv [1, 2, 0, 3, 5] rfl (lM_shutAt_96 hC hQ hK26 hK41 _ _ _ _ _ _ _ hv)
  · have hv := hv.2 h_
    refine j_iconst (v := 1) hC dX12_shutAt_91 (by decide) ?_
    refine j_goto (tgt := 96) hC dX12_shutAt_92 (by decide) ?_
    exact j_lv [1, 2, 0, 3, 5] rfl (lM_shutAt_96 hC hQ hK26 hK41 _ _ _ _ _ _ _ hv)
set_option maxHeartbeats 4000000 in
set_option maxRecDepth 100000 in
theorem lM_shutAt_109 {Γ : jG} {l : Launch} {D : va_G} {ad : Nat → Nat} {cy : Nat → ClassId} {post : Int64 → GM → Prop} (hC : jC Γ l rM_shutAt D 7 RX12 cX12_shutAt wsX12_shutAt (tyM cy)) (hQ : jQl Γ D (wM ad cy) post (some .long) 0 0) {K26 : Int32 → Int64 → Int32 → GM → Prop} (hK26 : ∀ (x1 : Int32) (x2 : Int64) (x4 : Int32) (g : GM), K26 x1 x2 x4 g → J Γ D 7 0 0 (wM ad cy g) 26 [(0, .ref (ad 0)), (1, .int x1), (2, .long x2), (4, .int x4)] []) : ∀ (x1 : Int32) (x2 : Int64) (x4 : Int32) (g : GM), vM_shutAt_109 post K26 x1 x2 x4 g → J Γ D 7 0 0 (wM ad cy g) 109 [(0, .ref (ad 0)), (1, .int x1), (2, .long x2), (4, .int x4)] [] := by
  have hinX12 : ∀ w ∈ wsX120, w ∈ wsX12_shutAt := fun w h => List.mem_cons_of_mem _ (List.mem_append_right _ h)
  intro x1 x2 x4 g hv
  unfold vM_shutAt_109 at hv
  refine j_iinc (k := 3) (v := (x4 + (1 : Int32))) (lv' := [(4, .int (x4 + (1 : Int32))), (0, .ref (ad 0)), (1, .int x1), (2, .long x2)]) hC dX12_shutAt_109 rfl rfl (by decide) rfl ?_
  refine j_goto (tgt := 26) hC dX12_shutAt_112 (by decide) ?_
  exact j_lv [1, 2, 3, 0] rfl (hK26 _ _ _ _ hv)
set_option maxHeartbeats 4000000 in
set_option maxRecDepth 100000 in
theorem lM_shutAt_41 {Γ : jG} {l : Launch} {D : va_G} {ad : Nat → Nat} {cy : Nat → ClassId} {post : Int64 → GM → Prop} (hC : jC Γ l rM_shutAt D 7 RX12 cX12_shutAt wsX12_shutAt (tyM cy)) (hQ : jQl Γ D (wM ad cy) post (some .long) 0 0) {K26 : Int32 → Int64 → Int32 → GM → Prop} (hK26 : ∀ (x1 : Int32) (x2 : Int64) (x4 : Int32) (g : GM), K26 x1 x2 x4 g → J Γ D 7 0 0 (wM ad cy g) 26 [(0, .ref (ad 0)), (1, .int x1), (2, .long x2), (4, .int x4)] []) : ∀ (n_ : Nat) (x1 : Int32) (x2 : Int64) (x4 : Int32) (x5 : Int32) (x6 : Int32) (g : GM), vM_shutAt_41 post K26 n_ x1 x2 x4 x5 x6 g → J Γ D 7 0 0 (wM ad cy g) 41 [(0, .ref (ad 0)), (1, .int x1), (2, .long x2), (4, .int x4), (5, .int x5), (6, .int x6)] [] := by
  have hinX12 : ∀ w ∈ wsX120, w ∈ wsX12_shutAt := fun w h => List.mem_cons_of_mem _ (List.mem_append_right _ h)
  intro n_
  induction n_ with
  | zero => intro x1 x2 x4 x5 x6 g hv; exact False.elim hv
  | succ k_ ih =>
    intro x1 x2 x4 x5 x6 g hv
    unfold vM_shutAt_41 at hv
    refine j_iload hC dX12_shutAt_41 5 rfl ?_
    refine j_bipush (v := 8) hC dX12_shutAt_43 (by decide) ?_
    refine j_icmp_ge (tgt := 109) hC dX12_shutAt_45 (by decide) (fun h_ => ?_) (fun h_ => ?_)
    · have hv := hv.1 h_
      exact j_lv [0, 1, 2, 3] rfl (lM_shutAt_109 hC hQ hK26 _ _ _ _ hv)
    · have hv := hv.2 h_
      refine j_lload_n (i := 2) hC dX12_shutAt_48 rfl 2 rfl ?_
      refine j_aload_n (i := 0) hC dX12_shutAt_49 rfl 0 rfl ?_
      refine j_get (C := RX12) (T := TX12) (N := 22) (v := .ref (ad 6)) hC hinX12 0 (wM_c0 ad cy _) rfl 8 (by decide) (mw 5 rfl) rfl rfl dX12_shutAt_50 ?_
      refine j_iload hC dX12_shutAt_53 3 rfl ?_
      refine j_iald (v := ((m_weight g) x4.toNatClampNeg)) hC 6 0 (wM_c6 ad cy _) rfl hv.1 rfl dX12_shutAt_55 ?_
      have hv := hv.2
      refine j_i2l hC dX12_shutAt_56 ?_
      refine j_aload_n (i := 0) hC dX12_shutAt_57 rfl 0 rfl ?_
      refine j_iload hC dX12_shutAt_58 3 rfl ?_
      refine j_iload hC dX12_shutAt_60 4 rfl ?_
      refine j_iload hC dX12_shutAt_62 5 rfl ?_
      refine j_iload_n (i := 1) hC dX12_shutAt_64 rfl 1 rfl ?_
      refine j_icmp_ne (tgt := 72) hC dX12_shutAt_65 (by decide) (fun h_ => ?_) (fun h_ => ?_)
      · have hv := hv.1 h_
        refine j_iconst (v := 0) hC dX12_shutAt_72 (by decide) ?_
        exact j_lv [0, 1, 3, 4, 5] rfl (lM_shutAt_73 hC hQ hK26 (K41 := fun x1 x2 x4 x5 x6 g => vM_shutAt_41 post K26 k_ x1 x2 x4 x5 x6 g) (fun _ _ _ _ _ _ h_ => ih _ _ _ _ _ _ h_) _ _ _ _ _ _ _ _ _ _ hv)
      · have hv := hv.2 h_
        refine j_iconst (v := 1) hC dX12_shutAt_68 (by decide) ?_
        refine j_goto (tgt := 73) hC dX12_shutAt_69 (by decide) ?_
        exact j_lv [0, 1, 3, 4, 5] rfl (lM_shutAt_73 hC hQ hK26 (K41 := fun x1 x2 x4 x5 x6 g => vM_shutAt_41 post K26 k_ x1 x2 x4 x5 x6 g) (fun _ _ _ _ _ _ h_ => ih _ _ _ _ _ _ h_) _ _ _ _ _ _ _ _ _ _ hv)
set_option maxHeartbeats 4000000 in
set_option maxRecDepth 100000 in
theorem lM_shutAt_26 {Γ : jG} {l : Launch} {D : va_G} {ad : Nat → Nat} {cy : Nat → ClassId} {post : Int64 → GM → Prop} (hC : jC Γ l rM_shutAt D 7 RX12 cX12_shutAt wsX12_shutAt (tyM cy)) (hQ : jQl Γ D (wM ad cy) post (some .long) 0 0) : ∀ (n_ : Nat) (x1 : Int32) (x2 : Int64) (x4 : Int32) (g : GM), vM_shutAt_26 post n_ x1 x2 x4 g → J Γ D 7 0 0 (wM ad cy g) 26 [(0, .ref (ad 0)), (1, .int x1), (2, .long x2), (4, .int x4)] [] := by
  have hinX12 : ∀ w ∈ wsX120, w ∈ wsX12_shutAt := fun w h => List.mem_cons_of_mem _ (List.mem_append_right _ h)
  intro n_
  induction n_ with
  | zero => intro x1 x2 x4 g hv; exact False.elim hv
  | succ k_ ih =>
    intro x1 x2 x4 g hv
    unfold vM_shutAt_26 at hv
    refine j_iload hC dX12_shutAt_26 3 rfl ?_
    refine j_aload_n (i := 0) hC dX12_shutAt_28 rfl 0 rfl ?_
    refine j_get (C := RX12) (T := TX12) (N := 22) (v := .int (m_worlds g)) hC hinX12 0 (wM_c0 ad cy _) rfl 7 (by decide) (mw 4 rfl) rfl rfl dX12_shutAt_29 ?_
    refine j_icmp_ge (tgt := 115) hC dX12_shutAt_32 (by decide) (fun h_ => ?_) (fun h_ => ?_)
    · have hv := hv.1 h_
      refine j_lload_n (i := 2) hC dX12_shutAt_115 rfl 2 rfl ?_
      exact j_lret hC hQ dX12_shutAt_116 rfl hv
    · have hv := hv.2 h_
      refine j_iconst (v := 0) hC dX12_shutAt_35 (by decide) ?_
      refine j_istore (lv' := [(5, .int (0 : Int32)), (0, .ref (ad 0)), (1, .int x1), (2, .long x2), (4, .int x4)]) hC dX12_shutAt_36 (by decide) rfl ?_
      refine j_iconst (v := 0) hC dX12_shutAt_38 (by decide) ?_
      refine j_istore (lv' := [(6, .int (0 : Int32)), (5, .int (0 : Int32)), (0, .ref (ad 0)), (1, .int x1), (2, .long x2), (4, .int x4)]) hC dX12_shutAt_39 (by decide) rfl ?_
      obtain ⟨n_, hv⟩ := hv
      exact j_lv [2, 3, 4, 5, 1, 0] rfl (lM_shutAt_41 hC hQ (K26 := fun x1 x2 x4 g => vM_shutAt_26 post k_ x1 x2 x4 g) (fun _ _ _ _ h_ => ih _ _ _ _ h_) n_ _ _ _ _ _ _ hv)
set_option maxHeartbeats 4000000 in
set_option maxRecDepth 100000 in
theorem cM_shutAt {l : Launch} {D : va_G} {ad : Nat → Nat} {cy : Nat → ClassId} {g : GM} {a1 : Int32} {post : Int64 → GM → Prop} (hv : vM_shutAt g a1 post) : jMl l yX12_shutAt wsX12_shutAt rM_shutAt D (tyM cy) [.ref (ad 0), .int a1] (wM ad cy g) (wM ad cy) post 0 0 := by
  refine j_metl (cc := cX12_shutAt) (nL := 7) (rt := (some .long)) (by decide) (Nat.le_of_ble_eq_true rfl) ?_
  intro Γ hC hQ _
  have hC : jC Γ l rM_shutAt D 7 RX12 cX12_shutAt wsX12_shutAt (tyM cy) := hC
  have hinX12 : ∀ w ∈ wsX120, w ∈ wsX12_shutAt := fun w h => List.mem_cons_of_mem _ (List.mem_append_right _ h)
  refine j_lv (lv' := [(0, .ref (ad 0)), (1, .int a1)]) [0, 1] rfl ?_
  unfold vM_shutAt at hv
  refine j_aload_n (i := 0) hC dX12_shutAt_0 rfl 0 rfl ?_
  refine j_iconst (v := 0) hC dX12_shutAt_1 (by decide) ?_
  refine j_put (C := RX12) (T := TX12) (N := 22) (ty := .int) hC hinX12 tyX12 tyX12_ok nmX12 0 (wM_c0 ad cy _) rfl 0 (by decide) (mw 1 rfl) rfl rfl fdX12_0 rfl rfl (Nat.le_of_ble_eq_true rfl) (wM_p_thrown ad cy _ _) dX12_shutAt_2 ?_
  refine j_iload_n (i := 1) hC dX12_shutAt_5 rfl 1 rfl ?_
  refine j_i2l hC dX12_shutAt_6 ?_
  refine j_lconst (v := 0) hC dX12_shutAt_7 (by decide) ?_
  refine j_ldc2 (v := 8) hC dX12_shutAt_8 (mw 2 rfl) ?_
  refine j_callS_i (As := [.long (a1.toInt64), .long (0 : Int64), .long (8 : Int64)]) (rest := []) hC (cM_in hv) 3 gX12_shutAt_X12_in rfl rfl rfl ⟨Nat.le_of_ble_eq_true rfl, Nat.le_of_ble_eq_true rfl⟩ hdM_in.2 rfl rfl (Nat.le_of_ble_eq_true rfl) ⟨Nat.zero_le _, Nat.zero_le _⟩ dX12_shutAt_11 (fun r11 g11 hv => ?_)
  refine j_if_ne (tgt := 21) hC dX12_shutAt_14 (by decide) (fun h_ => ?_) (fun h_ => ?_)
  · have hv := hv.1 h_
    refine j_lconst (v := 0) hC dX12_shutAt_21 (by decide) ?_
    refine j_lstore_n (i := 2) (lv' := [(2, .long (0 : Int64)), (0, .ref (ad 0)), (1, .int a1)]) hC dX12_shutAt_22 rfl (by decide) rfl ?_
    refine j_iconst (v := 0) hC dX12_shutAt_23 (by decide) ?_
    refine j_istore (lv' := [(4, .int (0 : Int32)), (2, .long (0 : Int64)), (0, .ref (ad 0)), (1, .int a1)]) hC dX12_shutAt_24 (by decide) rfl ?_
    obtain ⟨n_, hv⟩ := hv
    exact j_lv [2, 3, 1, 0] rfl (lM_shutAt_26 hC hQ n_ _ _ _ _ hv)
  · have hv := hv.2 h_
    refine j_ldc2 (v := -1000001) hC dX12_shutAt_17 (mw 3 rfl) ?_
    exact j_lret hC hQ dX12_shutAt_20 rfl hv
theorem hdM_alarm : yX12_alarm.cls = RX12 ∧ yX12_alarm.cls ≠ "java/lang/invoke/MethodHandle" ∧ yX12_alarm.cls ≠ "java/lang/invoke/VarHandle" ∧ (parseMethodDescriptor yX12_alarm.desc).map (fun d => d.parameters.length) = some 0 := by decide +kernel
abbrev rM_alarm : Room := { frames := 0, cells := 0, slots := 0, locals := 0 }
def vM_alarm_52 (post : Int32 → GM → Prop) (K10 : Int32 → Int32 → GM → Prop) (x2 : Int32) (t0 : Int32) (g : GM) : Prop :=
  (K10 t0 (x2 + (1 : Int32)) g)
def vM_alarm_51 (post : Int32 → GM → Prop) (K10 : Int32 → Int32 → GM → Prop) (x1 : Int32) (x2 : Int32) (g : GM) : Prop :=
  (vM_alarm_52 post K10 x2 x1 g)
def vM_alarm_59 (post : Int32 → GM → Prop) (x1 : Int32) (g : GM) : Prop :=
  ((¬ x1 = (8 : Int32) → ((((m_rule g) 0) ≤ x1 → post (x1 - ((m_rule g) 0)) g) ∧ (¬ ((m_rule g) 0) ≤ x1 → post (-1000000 : Int32) g))) ∧ (x1 = (8 : Int32) → post (8 : Int32) g))
def vM_alarm_10 (post : Int32 → GM → Prop) : Nat → Int32 → Int32 → GM → Prop
  | 0, _, _, _ => False
  | k_ + 1, x1, x2, g =>
  ((((8 : Int32) * (m_worlds g)) ≤ x2 → (vM_alarm_59 post x1 g)) ∧ (¬ ((8 : Int32) * (m_worlds g)) ≤ x2 → (vp_in x2 64 ∧ ((((m_sea g) x2.toNatClampNeg) ≤ ((m_rule g) 2) → (vM_alarm_51 post (fun x1 x2 g => vM_alarm_10 post k_ x1 x2 g) x1 x2 g)) ∧ (¬ ((m_sea g) x2.toNatClampNeg) ≤ ((m_rule g) 2) → ((x1 ≤ (x2 - x2 / (8 : Int32) * (8 : Int32)) → (vM_alarm_51 post (fun x1 x2 g => vM_alarm_10 post k_ x1 x2 g) x1 x2 g)) ∧ (¬ x1 ≤ (x2 - x2 / (8 : Int32) * (8 : Int32)) → (vM_alarm_52 post (fun x1 x2 g => vM_alarm_10 post k_ x1 x2 g) x2 (x2 - x2 / (8 : Int32) * (8 : Int32)) g))))))))
def vM_alarm (g : GM) (post : Int32 → GM → Prop) : Prop :=
  (∃ n_ : Nat, vM_alarm_10 post n_ (8 : Int32) (0 : Int32) (sm_thrown g (0 : Int32)))
set_option maxHeartbeats 4000000 in
set_option maxRecDepth 100000 in
theorem lM_alarm_52 {Γ : jG} {l : Launch} {D : va_G} {ad : Nat → Nat} {cy : Nat → ClassId} {post : Int32 → GM → Prop} (hC : jC Γ l rM_alarm D 3 RX12 cX12_alarm wsX12_alarm (tyM cy)) (hQ : jQi Γ D (wM ad cy) post (some .int) 0 0) {K10 : Int32 → Int32 → GM → Prop} (hK10 : ∀ (x1 : Int32) (x2 : Int32) (g : GM), K10 x1 x2 g → J Γ D 3 0 0 (wM ad cy g) 10 [(0, .ref (ad 0)), (1, .int x1), (2, .int x2)] []) : ∀ (x2 : Int32) (t0 : Int32) (g : GM), vM_alarm_52 post K10 x2 t0 g → J Γ D 3 0 0 (wM ad cy g) 52 [(0, .ref (ad 0)), (2, .int x2)] [.int t0] := by
  have hinX12 : ∀ w ∈ wsX120, w ∈ wsX12_alarm := fun w h => List.mem_cons_of_mem _ (List.mem_append_right _ h)
  intro x2 t0 g hv
  unfold vM_alarm_52 at hv
  refine j_istore_n (i := 1) (lv' := [(1, .int t0), (0, .ref (ad 0)), (2, .int x2)]) hC dX12_alarm_52 rfl (by decide) rfl ?_
  refine j_iinc (k := 2) (v := (x2 + (1 : Int32))) (lv' := [(2, .int (x2 + (1 : Int32))), (1, .int t0), (0, .ref (ad 0))]) hC dX12_alarm_53 rfl rfl (by decide) rfl ?_
  refine j_goto (tgt := 10) hC dX12_alarm_56 (by decide) ?_
  exact j_lv [2, 1, 0] rfl (hK10 _ _ _ hv)
set_option maxHeartbeats 4000000 in
set_option maxRecDepth 100000 in
theorem lM_alarm_51 {Γ : jG} {l : Launch} {D : va_G} {ad : Nat → Nat} {cy : Nat → ClassId} {post : Int32 → GM → Prop} (hC : jC Γ l rM_alarm D 3 RX12 cX12_alarm wsX12_alarm (tyM cy)) (hQ : jQi Γ D (wM ad cy) post (some .int) 0 0) {K10 : Int32 → Int32 → GM → Prop} (hK10 : ∀ (x1 : Int32) (x2 : Int32) (g : GM), K10 x1 x2 g → J Γ D 3 0 0 (wM ad cy g) 10 [(0, .ref (ad 0)), (1, .int x1), (2, .int x2)] []) : ∀ (x1 : Int32) (x2 : Int32) (g : GM), vM_alarm_51 post K10 x1 x2 g → J Γ D 3 0 0 (wM ad cy g) 51 [(0, .ref (ad 0)), (1, .int x1), (2, .int x2)] [] := by
  have hinX12 : ∀ w ∈ wsX120, w ∈ wsX12_alarm := fun w h => List.mem_cons_of_mem _ (List.mem_append_right _ h)
  intro x1 x2 g hv
  unfold vM_alarm_51 at hv
  refine j_iload_n (i := 1) hC dX12_alarm_51 rfl 1 rfl ?_
  exact j_lv [0, 2] rfl (lM_alarm_52 hC hQ hK10 _ _ _ hv)
set_option maxHeartbeats 4000000 in
set_option maxRecDepth 100000 in
theorem lM_alarm_59 {Γ : jG} {l : Launch} {D : va_G} {ad : Nat → Nat} {cy : Nat → ClassId} {post : Int32 → GM → Prop} (hC : jC Γ l rM_alarm D 3 RX12 cX12_alarm wsX12_alarm (tyM cy)) (hQ : jQi Γ D (wM ad cy) post (some .int) 0 0) : ∀ (x1 : Int32) (g : GM), vM_alarm_59 post x1 g → J Γ D 3 0 0 (wM ad cy g) 59 [(0, .ref (ad 0)), (1, .int x1)] [] := by
  have hinX12 : ∀ w ∈ wsX120, w ∈ wsX12_alarm := fun w h => List.mem_cons_of_mem _ (List.mem_append_right _ h)
  intro x1 g hv
  unfold vM_alarm_59 at hv
  refine j_iload_n (i := 1) hC dX12_alarm_59 rfl 1 rfl ?_
  refine j_bipush (v := 8) hC dX12_alarm_60 (by decide) ?_
  refine j_icmp_ne (tgt := 70) hC dX12_alarm_62 (by decide) (fun h_ => ?_) (fun h_ => ?_)
  · have hv := hv.1 h_
    refine j_iload_n (i := 1) hC dX12_alarm_70 rfl 1 rfl ?_
    refine j_aload_n (i := 0) hC dX12_alarm_71 rfl 0 rfl ?_
    refine j_get (C := RX12) (T := TX12) (N := 22) (v := .ref (ad 1)) hC hinX12 0 (wM_c0 ad cy _) rfl 2 (by decide) (mw 4 rfl) rfl rfl dX12_alarm_72 ?_
    refine j_iconst (v := 0) hC dX12_alarm_75 (by decide) ?_
    refine j_iald (v := ((m_rule g) 0)) hC 1 0 (wM_c1 ad cy _) rfl (jin_lit (by decide)) rfl dX12_alarm_76 ?_
    refine j_icmp_ge (tgt := 85) hC dX12_alarm_77 (by decide) (fun h_ => ?_) (fun h_ => ?_)
    · have hv := hv.1 h_
      refine j_iload_n (i := 1) hC dX12_alarm_85 rfl 1 rfl ?_
      refine j_aload_n (i := 0) hC dX12_alarm_86 rfl 0 rfl ?_
      refine j_get (C := RX12) (T := TX12) (N := 22) (v := .ref (ad 1)) hC hinX12 0 (wM_c0 ad cy _) rfl 2 (by decide) (mw 4 rfl) rfl rfl dX12_alarm_87 ?_
      refine j_iconst (v := 0) hC dX12_alarm_90 (by decide) ?_
      refine j_iald (v := ((m_rule g) 0)) hC 1 0 (wM_c1 ad cy _) rfl (jin_lit (by decide)) rfl dX12_alarm_91 ?_
      refine j_isub hC dX12_alarm_92 ?_
      exact j_iret hC hQ dX12_alarm_93 rfl hv
    · have hv := hv.2 h_
      refine j_ldc (v := -1000000) hC dX12_alarm_80 (mw 5 rfl) ?_
      refine j_goto (tgt := 93) hC dX12_alarm_82 (by decide) ?_
      exact j_iret hC hQ dX12_alarm_93 rfl hv
  · have hv := hv.2 h_
    refine j_bipush (v := 8) hC dX12_alarm_65 (by decide) ?_
    refine j_goto (tgt := 93) hC dX12_alarm_67 (by decide) ?_
    exact j_iret hC hQ dX12_alarm_93 rfl hv
set_option maxHeartbeats 4000000 in
set_option maxRecDepth 100000 in
theorem lM_alarm_10 {Γ : jG} {l : Launch} {D : va_G} {ad : Nat → Nat} {cy : Nat → ClassId} {post : Int32 → GM → Prop} (hC : jC Γ l rM_alarm D 3 RX12 cX12_alarm wsX12_alarm (tyM cy)) (hQ : jQi Γ D (wM ad cy) post (some .int) 0 0) : ∀ (n_ : Nat) (x1 : Int32) (x2 : Int32) (g : GM), vM_alarm_10 post n_ x1 x2 g → J Γ D 3 0 0 (wM ad cy g) 10 [(0, .ref (ad 0)), (1, .int x1), (2, .int x2)] [] := by
  have hinX12 : ∀ w ∈ wsX120, w ∈ wsX12_alarm := fun w h => List.mem_cons_of_mem _ (List.mem_append_right _ h)
  intro n_
  induction n_ with
  | zero => intro x1 x2 g hv; exact False.elim hv
  | succ k_ ih =>
    intro x1 x2 g hv
    unfold vM_alarm_10 at hv
    refine j_iload_n (i := 2) hC dX12_alarm_10 rfl 2 rfl ?_
    refine j_bipush (v := 8) hC dX12_alarm_11 (by decide) ?_
    refine j_aload_n (i := 0) hC dX12_alarm_13 rfl 0 rfl ?_
    refine j_get (C := RX12) (T := TX12) (N := 22) (v := .int (m_worlds g)) hC hinX12 0 (wM_c0 ad cy _) rfl 7 (by decide) (mw 2 rfl) rfl rfl dX12_alarm_14 ?_
    refine j_imul hC dX12_alarm_17 ?_
    refine j_icmp_ge (tgt := 59) hC dX12_alarm_18 (by decide) (fun h_ => ?_) (fun h_ => ?_)
    · have hv := hv.1 h_
      exact j_lv [0, 1] rfl (lM_alarm_59 hC hQ _ _ hv)
    · have hv := hv.2 h_
      refine j_aload_n (i := 0) hC dX12_alarm_21 rfl 0 rfl ?_
      refine j_get (C := RX12) (T := TX12) (N := 22) (v := .ref (ad 7)) hC hinX12 0 (wM_c0 ad cy _) rfl 9 (by decide) (mw 3 rfl) rfl rfl dX12_alarm_22 ?_
      refine j_iload_n (i := 2) hC dX12_alarm_25 rfl 2 rfl ?_
      refine j_iald (v := ((m_sea g) x2.toNatClampNeg)) hC 7 0 (wM_c7 ad cy _) rfl hv.1 rfl dX12_alarm_26 ?_
      have hv := hv.2
      refine j_aload_n (i := 0) hC dX12_alarm_27 rfl 0 rfl ?_
      refine j_get (C := RX12) (T := TX12) (N := 22) (v := .ref (ad 1)) hC hinX12 0 (wM_c0 ad cy _) rfl 2 (by decide) (mw 4 rfl) rfl rfl dX12_alarm_28 ?_
      refine j_iconst (v := 2) hC dX12_alarm_31 (by decide) ?_
      refine j_iald (v := ((m_rule g) 2)) hC 1 0 (wM_c1 ad cy _) rfl (jin_lit (by decide)) rfl dX12_alarm_32 ?_
      refine j_icmp_le (tgt := 51) hC dX12_alarm_33 (by decide) (fun h_ => ?_) (fun h_ => ?_)
      · have hv := hv.1 h_
        exact j_lv [0, 1, 2] rfl (lM_alarm_51 hC hQ (K10 := fun x1 x2 g => vM_alarm_10 post k_ x1 x2 g) (fun _ _ _ h_ => ih _ _ _ h_) _ _ _ hv)
      · have hv := hv.2 h_
        refine j_iload_n (i := 2) hC dX12_alarm_36 rfl 2 rfl ?_
        refine j_bipush (v := 8) hC dX12_alarm_37 (by decide) ?_
        refine j_irem hC dX12_alarm_39 (by decide) ?_
        refine j_iload_n (i := 1) hC dX12_alarm_40 rfl 1 rfl ?_
        refine j_icmp_ge (tgt := 51) hC dX12_alarm_41 (by decide) (fun h_ => ?_) (fun h_ => ?_)
        · have hv := hv.1 h_
          exact j_lv [0, 1, 2] rfl (lM_alarm_51 hC hQ (K10 := fun x1 x2 g => vM_alarm_10 post k_ x1 x2 g) (fun _ _ _ h_ => ih _ _ _ h_) _ _ _ hv)
        · have hv := hv.2 h_
          refine j_iload_n (i := 2) hC dX12_alarm_44 rfl 2 rfl ?_
          refine j_bipush (v := 8) hC dX12_alarm_45 (by decide) ?_
          refine j_irem hC dX12_alarm_47 (by decide) ?_
          refine j_goto (tgt := 52) hC dX12_alarm_48 (by decide) ?_
          exact j_lv [0, 2] rfl (lM_alarm_52 hC hQ (K10 := fun x1 x2 g => vM_alarm_10 post k_ x1 x2 g) (fun _ _ _ h_ => ih _ _ _ h_) _ _ _ hv)
set_option maxHeartbeats 4000000 in
set_option maxRecDepth 100000 in
theorem cM_alarm {l : Launch} {D : va_G} {ad : Nat → Nat} {cy : Nat → ClassId} {g : GM} {post : Int32 → GM → Prop} (hv : vM_alarm g post) : jMi l yX12_alarm wsX12_alarm rM_alarm D (tyM cy) [.ref (ad 0)] (wM ad cy g) (wM ad cy) post 0 0 := by
  refine j_meti (cc := cX12_alarm) (nL := 3) (rt := (some .int)) (by decide) (Nat.le_of_ble_eq_true rfl) ?_
  intro Γ hC hQ _
  have hC : jC Γ l rM_alarm D 3 RX12 cX12_alarm wsX12_alarm (tyM cy) := hC
  have hinX12 : ∀ w ∈ wsX120, w ∈ wsX12_alarm := fun w h => List.mem_cons_of_mem _ (List.mem_append_right _ h)
  refine j_lv (lv' := [(0, .ref (ad 0))]) [0] rfl ?_
  unfold vM_alarm at hv
  refine j_aload_n (i := 0) hC dX12_alarm_0 rfl 0 rfl ?_
  refine j_iconst (v := 0) hC dX12_alarm_1 (by decide) ?_
  refine j_put (C := RX12) (T := TX12) (N := 22) (ty := .int) hC hinX12 tyX12 tyX12_ok nmX12 0 (wM_c0 ad cy _) rfl 0 (by decide) (mw 1 rfl) rfl rfl fdX12_0 rfl rfl (Nat.le_of_ble_eq_true rfl) (wM_p_thrown ad cy _ _) dX12_alarm_2 ?_
  refine j_bipush (v := 8) hC dX12_alarm_5 (by decide) ?_
  refine j_istore_n (i := 1) (lv' := [(1, .int (8 : Int32)), (0, .ref (ad 0))]) hC dX12_alarm_7 rfl (by decide) rfl ?_
  refine j_iconst (v := 0) hC dX12_alarm_8 (by decide) ?_
  refine j_istore_n (i := 2) (lv' := [(2, .int (0 : Int32)), (1, .int (8 : Int32)), (0, .ref (ad 0))]) hC dX12_alarm_9 rfl (by decide) rfl ?_
  obtain ⟨n_, hv⟩ := hv
  exact j_lv [2, 1, 0] rfl (lM_alarm_10 hC hQ n_ _ _ _ hv)
theorem hdM_groups : yX12_groups.cls = RX12 ∧ yX12_groups.cls ≠ "java/lang/invoke/MethodHandle" ∧ yX12_groups.cls ≠ "java/lang/invoke/VarHandle" ∧ (parseMethodDescriptor yX12_groups.desc).map (fun d => d.parameters.length) = some 1 := by decide +kernel
abbrev rM_groups : Room := { frames := 1, cells := 0, slots := 0, locals := 25 }
def vM_groups_48 (post : Int32 → GM → Prop) (K24 : Int32 → Int32 → Int32 → GM → Prop) (x1 : Int32) (x3 : Int32) (t0 : Int32) (t1 : Int32) (g : GM) : Prop :=
  (K24 x1 (t1 + t0) (x3 + (1 : Int32)) g)
def vM_groups_24 (post : Int32 → GM → Prop) : Nat → Int32 → Int32 → Int32 → GM → Prop
  | 0, _, _, _, _ => False
  | k_ + 1, x1, x2, x3, g =>
  (((m_worlds g) ≤ x3 → post x2 g) ∧ (¬ (m_worlds g) ≤ x3 → (vM_groupOf g x3 x1 (fun r36 g36 => ((¬ r36 = x3 → (vM_groups_48 post (fun x1 x2 x3 g => vM_groups_24 post k_ x1 x2 x3 g) x1 x3 (0 : Int32) x2 g36)) ∧ (r36 = x3 → (vM_groups_48 post (fun x1 x2 x3 g => vM_groups_24 post k_ x1 x2 x3 g) x1 x3 (1 : Int32) x2 g36)))))))
def vM_groups (g : GM) (a1 : Int32) (post : Int32 → GM → Prop) : Prop :=
  (vM_in (sm_thrown g (0 : Int32)) (a1.toInt64) (0 : Int64) (7 : Int64) (fun r11 g11 => ((¬ r11 = (0 : Int32) → (∃ n_ : Nat, vM_groups_24 post n_ a1 (0 : Int32) (0 : Int32) g11)) ∧ (r11 = (0 : Int32) → post (-1000001 : Int32) g11))))
set_option maxHeartbeats 4000000 in
set_option maxRecDepth 100000 in
theorem lM_groups_48 {Γ : jG} {l : Launch} {D : va_G} {ad : Nat → Nat} {cy : Nat → ClassId} {post : Int32 → GM → Prop} (hC : jC Γ l rM_groups D 4 RX12 cX12_groups wsX12_groups (tyM cy)) (hQ : jQi Γ D (wM ad cy) post (some .int) 0 0) {K24 : Int32 → Int32 → Int32 → GM → Prop} (hK24 : ∀ (x1 : Int32) (x2 : Int32) (x3 : Int32) (g : GM), K24 x1 x2 x3 g → J Γ D 4 0 0 (wM ad cy g) 24 [(0, .ref (ad 0)), (1, .int x1), (2, .int x2), (3, .int x3)] []) : ∀ (x1 : Int32) (x3 : Int32) (t0 : Int32) (t1 : Int32) (g : GM), vM_groups_48 post K24 x1 x3 t0 t1 g → J Γ D 4 0 0 (wM ad cy g) 48 [(0, .ref (ad 0)), (1, .int x1), (3, .int x3)] [.int t0, .int t1] := by
  have hinX12 : ∀ w ∈ wsX120, w ∈ wsX12_groups := fun w h => List.mem_cons_of_mem _ (List.mem_append_right _ h)
  intro x1 x3 t0 t1 g hv
  unfold vM_groups_48 at hv
  refine j_iadd hC dX12_groups_48 ?_
  refine j_istore_n (i := 2) (lv' := [(2, .int (t1 + t0)), (0, .ref (ad 0)), (1, .int x1), (3, .int x3)]) hC dX12_groups_49 rfl (by decide) rfl ?_
  refine j_iinc (k := 3) (v := (x3 + (1 : Int32))) (lv' := [(3, .int (x3 + (1 : Int32))), (2, .int (t1 + t0)), (0, .ref (ad 0)), (1, .int x1)]) hC dX12_groups_50 rfl rfl (by decide) rfl ?_
  refine j_goto (tgt := 24) hC dX12_groups_53 (by decide) ?_
  exact j_lv [2, 3, 1, 0] rfl (hK24 _ _ _ _ hv)
set_option maxHeartbeats 4000000 in
set_option maxRecDepth 100000 in
theorem lM_groups_24 {Γ : jG} {l : Launch} {D : va_G} {ad : Nat → Nat} {cy : Nat → ClassId} {post : Int32 → GM → Prop} (hC : jC Γ l rM_groups D 4 RX12 cX12_groups wsX12_groups (tyM cy)) (hQ : jQi Γ D (wM ad cy) post (some .int) 0 0) : ∀ (n_ : Nat) (x1 : Int32) (x2 : Int32) (x3 : Int32) (g : GM), vM_groups_24 post n_ x1 x2 x3 g → J Γ D 4 0 0 (wM ad cy g) 24 [(0, .ref (ad 0)), (1, .int x1), (2, .int x2), (3, .int x3)] [] := by
  have hinX12 : ∀ w ∈ wsX120, w ∈ wsX12_groups := fun w h => List.mem_cons_of_mem _ (List.mem_append_right _ h)
  intro n_
  induction n_ with
  | zero => intro x1 x2 x3 g hv; exact False.elim hv
  | succ k_ ih =>
    intro x1 x2 x3 g hv
    unfold vM_groups_24 at hv
    refine j_iload_n (i := 3) hC dX12_groups_24 rfl 3 rfl ?_
    refine j_aload_n (i := 0) hC dX12_groups_25 rfl 0 rfl ?_
    refine j_get (C := RX12) (T := TX12) (N := 22) (v := .int (m_worlds g)) hC hinX12 0 (wM_c0 ad cy _) rfl 7 (by decide) (mw 4 rfl) rfl rfl dX12_groups_26 ?_
    refine j_icmp_ge (tgt := 56) hC dX12_groups_29 (by decide) (fun h_ => ?_) (fun h_ => ?_)
    · have hv := hv.1 h_
      refine j_iload_n (i := 2) hC dX12_groups_56 rfl 2 rfl ?_
      exact j_iret hC hQ dX12_groups_57 rfl hv
    · have hv := hv.2 h_
      refine j_iload_n (i := 2) hC dX12_groups_32 rfl 2 rfl ?_
      refine j_aload_n (i := 0) hC dX12_groups_33 rfl 0 rfl ?_
      refine j_iload_n (i := 3) hC dX12_groups_34 rfl 3 rfl ?_
      refine j_iload_n (i := 1) hC dX12_groups_35 rfl 1 rfl ?_
      refine j_callV_i (C := RX12) (As := [.int x3, .int x1]) (rest := [.int x2]) (b := (ad 0)) hC (cM_groupOf hv) 2 gX12_groups_X12_groupOf rfl rfl rfl ⟨Nat.le_of_ble_eq_true rfl, Nat.le_of_ble_eq_true rfl⟩ hdM_groupOf rfl (wM_c0 ad cy _) rfl rfl (Nat.le_of_ble_eq_true rfl) ⟨Nat.zero_le _, Nat.zero_le _⟩ dX12_groups_36 (fun r36 g36 hv => ?_)
      refine j_iload_n (i := 3) hC dX12_groups_39 rfl 3 rfl ?_
      refine j_icmp_ne (tgt := 47) hC dX12_groups_40 (by decide) (fun h_ => ?_) (fun h_ => ?_)
      · have hv := hv.1 h_
        refine j_iconst (v := 0) hC dX12_groups_47 (by decide) ?_
        exact j_lv [0, 1, 3] rfl (lM_groups_48 hC hQ (K24 := fun x1 x2 x3 g => vM_groups_24 post k_ x1 x2 x3 g) (fun _ _ _ _ h_ => ih _ _ _ _ h_) _ _ _ _ _ hv)
      · have hv := hv.2 h_
        refine j_iconst (v := 1) hC dX12_groups_43 (by decide) ?_
        refine j_goto (tgt := 48) hC dX12_groups_44 (by decide) ?_
        exact j_lv [0, 1, 3] rfl (lM_groups_48 hC hQ (K24 := fun x1 x2 x3 g => vM_groups_24 post k_ x1 x2 x3 g) (fun _ _ _ _ h_ => ih _ _ _ _ h_) _ _ _ _ _ hv)
set_option maxHeartbeats 4000000 in
set_option maxRecDepth 100000 in
theorem cM_groups {l : Launch} {D : va_G} {ad : Nat → Nat} {cy : Nat → ClassId} {g : GM} {a1 : Int32} {post : Int32 → GM → Prop} (hv : vM_groups g a1 post) : jMi l yX12_groups wsX12_groups rM_groups D (tyM cy) [.ref (ad 0), .int a1] (wM ad cy g) (wM ad cy) post 0 0 := by
  refine j_meti (cc := cX12_groups) (nL := 4) (rt := (some .int)) (by decide) (Nat.le_of_ble_eq_true rfl) ?_
  intro Γ hC hQ _
  have hC : jC Γ l rM_groups D 4 RX12 cX12_groups wsX12_groups (tyM cy) := hC
  have hinX12 : ∀ w ∈ wsX120, w ∈ wsX12_groups := fun w h => List.mem_cons_of_mem _ (List.mem_append_right _ h)
  refine j_lv (lv' := [(0, .ref (ad 0)), (1, .int a1)]) [0, 1] rfl ?_
  unfold vM_groups at hv
  refine j_aload_n (i := 0) hC dX12_groups_0 rfl 0 rfl ?_
  refine j_iconst (v := 0) hC dX12_groups_1 (by decide) ?_
  refine j_put (C := RX12) (T := TX12) (N := 22) (ty := .int) hC hinX12 tyX12 tyX12_ok nmX12 0 (wM_c0 ad cy _) rfl 0 (by decide) (mw 1 rfl) rfl rfl fdX12_0 rfl rfl (Nat.le_of_ble_eq_true rfl) (wM_p_thrown ad cy _ _) dX12_groups_2 ?_
  refine j_iload_n (i := 1) hC dX12_groups_5 rfl 1 rfl ?_
  refine j_i2l hC dX12_groups_6 ?_
  refine j_lconst (v := 0) hC dX12_groups_7 (by decide) ?_
  refine j_ldc2 (v := 7) hC dX12_groups_8 (mw 2 rfl) ?_
  refine j_callS_i (As := [.long (a1.toInt64), .long (0 : Int64), .long (7 : Int64)]) (rest := []) hC (cM_in hv) 3 gX12_groups_X12_in rfl rfl rfl ⟨Nat.le_of_ble_eq_true rfl, Nat.le_of_ble_eq_true rfl⟩ hdM_in.2 rfl rfl (Nat.le_of_ble_eq_true rfl) ⟨Nat.zero_le _, Nat.zero_le _⟩ dX12_groups_11 (fun r11 g11 hv => ?_)
  refine j_if_ne (tgt := 20) hC dX12_groups_14 (by decide) (fun h_ => ?_) (fun h_ => ?_)
  · have hv := hv.1 h_
    refine j_iconst (v := 0) hC dX12_groups_20 (by decide) ?_
    refine j_istore_n (i := 2) (lv' := [(2, .int (0 : Int32)), (0, .ref (ad 0)), (1, .int a1)]) hC dX12_groups_21 rfl (by decide) rfl ?_
    refine j_iconst (v := 0) hC dX12_groups_22 (by decide) ?_
    refine j_istore_n (i := 3) (lv' := [(3, .int (0 : Int32)), (2, .int (0 : Int32)), (0, .ref (ad 0)), (1, .int a1)]) hC dX12_groups_23 rfl (by decide) rfl ?_
    obtain ⟨n_, hv⟩ := hv
    exact j_lv [2, 3, 1, 0] rfl (lM_groups_24 hC hQ n_ _ _ _ _ hv)
  · have hv := hv.2 h_
    refine j_ldc (v := -1000001) hC dX12_groups_17 (mw 3 rfl) ?_
    exact j_iret hC hQ dX12_groups_19 rfl hv
theorem hdM_isGate : yX12_isGate.cls = RX12 ∧ yX12_isGate.cls ≠ "java/lang/invoke/MethodHandle" ∧ yX12_isGate.cls ≠ "java/lang/invoke/VarHandle" ∧ (parseMethodDescriptor yX12_isGate.desc).map (fun d => d.parameters.length) = some 1 := by decide +kernel
abbrev rM_isGate : Room := { frames := 1, cells := 0, slots := 0, locals := 25 }
def vM_isGate (g : GM) (a1 : Int32) (post : Int32 → GM → Prop) : Prop :=
  (vM_in g (a1.toInt64) (0 : Int64) (((m_gates g) - (1 : Int32)).toInt64) (fun r10 g10 => (jz r10 ∧ post r10 g10)))
set_option maxHeartbeats 4000000 in
set_option maxRecDepth 100000 in
theorem cM_isGate {l : Launch} {D : va_G} {ad : Nat → Nat} {cy : Nat → ClassId} {g : GM} {a1 : Int32} {post : Int32 → GM → Prop} (hv : vM_isGate g a1 post) : jMi l yX12_isGate wsX12_isGate rM_isGate D (tyM cy) [.ref (ad 0), .int a1] (wM ad cy g) (wM ad cy) post 0 0 := by
  refine j_meti (cc := cX12_isGate) (nL := 2) (rt := (some .boolean)) (by decide) (Nat.le_of_ble_eq_true rfl) ?_
  intro Γ hC hQ _
  have hC : jC Γ l rM_isGate D 2 RX12 cX12_isGate wsX12_isGate (tyM cy) := hC
  have hinX12 : ∀ w ∈ wsX120, w ∈ wsX12_isGate := fun w h => List.mem_cons_of_mem _ (List.mem_append_right _ h)
  refine j_lv (lv' := [(0, .ref (ad 0)), (1, .int a1)]) [0, 1] rfl ?_
  unfold vM_isGate at hv
  refine j_iload_n (i := 1) hC dX12_isGate_0 rfl 1 rfl ?_
  refine j_i2l hC dX12_isGate_1 ?_
  refine j_lconst (v := 0) hC dX12_isGate_2 (by decide) ?_
  refine j_aload_n (i := 0) hC dX12_isGate_3 rfl 0 rfl ?_
  refine j_get (C := RX12) (T := TX12) (N := 22) (v := .int (m_gates g)) hC hinX12 0 (wM_c0 ad cy _) rfl 12 (by decide) (mw 1 rfl) rfl rfl dX12_isGate_4 ?_
  refine j_iconst (v := 1) hC dX12_isGate_7 (by decide) ?_
  refine j_isub hC dX12_isGate_8 ?_
  refine j_i2l hC dX12_isGate_9 ?_
  refine j_callS_i (As := [.long (a1.toInt64), .long (0 : Int64), .long (((m_gates g) - (1 : Int32)).toInt64)]) (rest := []) hC (cM_in hv) 3 gX12_isGate_X12_in rfl rfl rfl ⟨Nat.le_of_ble_eq_true rfl, Nat.le_of_ble_eq_true rfl⟩ hdM_in.2 rfl rfl (Nat.le_of_ble_eq_true rfl) ⟨Nat.zero_le _, Nat.zero_le _⟩ dX12_isGate_10 (fun r10 g10 hv => ?_)
  exact j_zret hC hQ dX12_isGate_13 rfl (jz_n hv.1) hv.2
theorem hdM_gate : yX12_gate.cls = RX12 ∧ yX12_gate.cls ≠ "java/lang/invoke/MethodHandle" ∧ yX12_gate.cls ≠ "java/lang/invoke/VarHandle" ∧ (parseMethodDescriptor yX12_gate.desc).map (fun d => d.parameters.length) = some 2 := by decide +kernel
abbrev rM_gate : Room := { frames := 1, cells := 0, slots := 0, locals := 25 }
def vM_gate (g : GM) (a1 : Int32) (a2 : Int32) (post : Int32 → GM → Prop) : Prop :=
  (vM_in (sm_thrown g (0 : Int32)) (a1.toInt64) (1 : Int64) (500 : Int64) (fun r11 g11 => ((r11 = (0 : Int32) → post (-1000001 : Int32) g11) ∧ (¬ r11 = (0 : Int32) → (vM_in g11 (a2.toInt64) (0 : Int64) (2000 : Int64) (fun r23 g23 => ((¬ r23 = (0 : Int32) → ((¬ (m_gates g23) = (6 : Int32) → (vp_in (m_gates g23) 6 ∧ (vp_in (m_gates g23) 6 ∧ post (((m_gates g23) + (1 : Int32)) - (1 : Int32)) (sm_gates (sm_hand (sm_minutes g23 (upd (m_minutes g23) (m_gates g23).toNatClampNeg a1)) (upd (m_hand g23) (m_gates g23).toNatClampNeg a2)) ((m_gates g23) + (1 : Int32)))))) ∧ ((m_gates g23) = (6 : Int32) → post (-1000003 : Int32) g23))) ∧ (r23 = (0 : Int32) → post (-1000001 : Int32) g23))))))))
set_option maxHeartbeats 4000000 in
set_option maxRecDepth 100000 in
theorem cM_gate {l : Launch} {D : va_G} {ad : Nat → Nat} {cy : Nat → ClassId} {g : GM} {a1 : Int32} {a2 : Int32} {post : Int32 → GM → Prop} (hv : vM_gate g a1 a2 post) : jMi l yX12_gate wsX12_gate rM_gate D (tyM cy) [.ref (ad 0), .int a1, .int a2] (wM ad cy g) (wM ad cy) post 0 0 := by
  refine j_meti (cc := cX12_gate) (nL := 3) (rt := (some .int)) (by decide) (Nat.le_of_ble_eq_true rfl) ?_
  intro Γ hC hQ _
  have hC : jC Γ l rM_gate D 3 RX12 cX12_gate wsX12_gate (tyM cy) := hC
  have hinX12 : ∀ w ∈ wsX120, w ∈ wsX12_gate := fun w h => List.mem_cons_of_mem _ (List.mem_append_right _ h)
  refine j_lv (lv' := [(0, .ref (ad 0)), (1, .int a1), (2, .int a2)]) [0, 1, 2] rfl ?_
  unfold vM_gate at hv
  refine j_aload_n (i := 0) hC dX12_gate_0 rfl 0 rfl ?_
  refine j_iconst (v := 0) hC dX12_gate_1 (by decide) ?_
  refine j_put (C := RX12) (T := TX12) (N := 22) (ty := .int) hC hinX12 tyX12 tyX12_ok nmX12 0 (wM_c0 ad cy _) rfl 0 (by decide) (mw 1 rfl) rfl rfl fdX12_0 rfl rfl (Nat.le_of_ble_eq_true rfl) (wM_p_thrown ad cy _ _) dX12_gate_2 ?_
  refine j_iload_n (i := 1) hC dX12_gate_5 rfl 1 rfl ?_
  refine j_i2l hC dX12_gate_6 ?_
  refine j_lconst (v := 1) hC dX12_gate_7 (by decide) ?_
  refine j_ldc2 (v := 500) hC dX12_gate_8 (mw 2 rfl) ?_
  refine j_callS_i (As := [.long (a1.toInt64), .long (1 : Int64), .long (500 : Int64)]) (rest := []) hC (cM_in hv) 3 gX12_gate_X12_in rfl rfl rfl ⟨Nat.le_of_ble_eq_true rfl, Nat.le_of_ble_eq_true rfl⟩ hdM_in.2 rfl rfl (Nat.le_of_ble_eq_true rfl) ⟨Nat.zero_le _, Nat.zero_le _⟩ dX12_gate_11 (fun r11 g11 hv => ?_)
  refine j_if_eq (tgt := 29) hC dX12_gate_14 (by decide) (fun h_ => ?_) (fun h_ => ?_)
  · have hv := hv.1 h_
    refine j_ldc (v := -1000001) hC dX12_gate_29 (mw 4 rfl) ?_
    exact j_iret hC hQ dX12_gate_31 rfl hv
  · have hv := hv.2 h_
    refine j_iload_n (i := 2) hC dX12_gate_17 rfl 2 rfl ?_
    refine j_i2l hC dX12_gate_18 ?_
    refine j_lconst (v := 0) hC dX12_gate_19 (by decide) ?_
    refine j_ldc2 (v := 2000) hC dX12_gate_20 (mw 3 rfl) ?_
    refine j_callS_i (As := [.long (a2.toInt64), .long (0 : Int64), .long (2000 : Int64)]) (rest := []) hC (cM_in hv) 3 gX12_gate_X12_in rfl rfl rfl ⟨Nat.le_of_ble_eq_true rfl, Nat.le_of_ble_eq_true rfl⟩ hdM_in.2 rfl rfl (Nat.le_of_ble_eq_true rfl) ⟨Nat.zero_le _, Nat.zero_le _⟩ dX12_gate_23 (fun r23 g23 hv => ?_)
    refine j_if_ne (tgt := 32) hC dX12_gate_26 (by decide) (fun h_ => ?_) (fun h_ => ?_)
    · have hv := hv.1 h_
      refine j_aload_n (i := 0) hC dX12_gate_32 rfl 0 rfl ?_
      refine j_get (C := RX12) (T := TX12) (N := 22) (v := .int (m_gates g23)) hC hinX12 0 (wM_c0 ad cy _) rfl 12 (by decide) (mw 5 rfl) rfl rfl dX12_gate_33 ?_
      refine j_bipush (v := 6) hC dX12_gate_36 (by decide) ?_
      refine j_icmp_ne (tgt := 44) hC dX12_gate_38 (by decide) (fun h_ => ?_) (fun h_ => ?_)
      · have hv := hv.1 h_
        refine j_aload_n (i := 0) hC dX12_gate_44 rfl 0 rfl ?_
        refine j_get (C := RX12) (T := TX12) (N := 22) (v := .ref (ad 10)) hC hinX12 0 (wM_c0 ad cy _) rfl 13 (by decide) (mw 7 rfl) rfl rfl dX12_gate_45 ?_
        refine j_aload_n (i := 0) hC dX12_gate_48 rfl 0 rfl ?_
        refine j_get (C := RX12) (T := TX12) (N := 22) (v := .int (m_gates g23)) hC hinX12 0 (wM_c0 ad cy _) rfl 12 (by decide) (mw 5 rfl) rfl rfl dX12_gate_49 ?_
        refine j_iload_n (i := 1) hC dX12_gate_52 rfl 1 rfl ?_
        refine j_iast hC 10 0 (wM_c10 ad cy _) rfl hv.1 (wM_s_minutes ad cy _ _) dX12_gate_53 ?_
        have hv := hv.2
        refine j_aload_n (i := 0) hC dX12_gate_54 rfl 0 rfl ?_
        refine j_get (C := RX12) (T := TX12) (N := 22) (v := .ref (ad 11)) hC hinX12 0 (wM_c0 ad cy _) rfl 14 (by decide) (mw 8 rfl) rfl rfl dX12_gate_55 ?_
        refine j_aload_n (i := 0) hC dX12_gate_58 rfl 0 rfl ?_
        refine j_get (C := RX12) (T := TX12) (N := 22) (v := .int (m_gates g23)) hC hinX12 0 (wM_c0 ad cy _) rfl 12 (by decide) (mw 5 rfl) rfl rfl dX12_gate_59 ?_
        refine j_iload_n (i := 2) hC dX12_gate_62 rfl 2 rfl ?_
        refine j_iast hC 11 0 (wM_c11 ad cy _) rfl hv.1 (wM_s_hand ad cy _ _) dX12_gate_63 ?_
        have hv := hv.2
        refine j_aload_n (i := 0) hC dX12_gate_64 rfl 0 rfl ?_
        refine j_dup hC dX12_gate_65 rfl ?_
        refine j_get (C := RX12) (T := TX12) (N := 22) (v := .int (m_gates g23)) hC hinX12 0 (wM_c0 ad cy _) rfl 12 (by decide) (mw 5 rfl) rfl rfl dX12_gate_66 ?_
        refine j_iconst (v := 1) hC dX12_gate_69 (by decide) ?_
        refine j_iadd hC dX12_gate_70 ?_
        refine j_put (C := RX12) (T := TX12) (N := 22) (ty := .int) hC hinX12 tyX12 tyX12_ok nmX12 0 (wM_c0 ad cy _) rfl 12 (by decide) (mw 5 rfl) rfl rfl fdX12_12 rfl rfl (Nat.le_of_ble_eq_true rfl) (wM_p_gates ad cy _ _) dX12_gate_71 ?_
        refine j_aload_n (i := 0) hC dX12_gate_74 rfl 0 rfl ?_
        refine j_get (C := RX12) (T := TX12) (N := 22) (v := .int ((m_gates g23) + (1 : Int32))) hC hinX12 0 (wM_c0 ad cy _) rfl 12 (by decide) (mw 5 rfl) rfl rfl dX12_gate_75 ?_
        refine j_iconst (v := 1) hC dX12_gate_78 (by decide) ?_
        refine j_isub hC dX12_gate_79 ?_
        exact j_iret hC hQ dX12_gate_80 rfl hv
      · have hv := hv.2 h_
        refine j_ldc (v := -1000003) hC dX12_gate_41 (mw 6 rfl) ?_
        exact j_iret hC hQ dX12_gate_43 rfl hv
    · have hv := hv.2 h_
      refine j_ldc (v := -1000001) hC dX12_gate_29 (mw 4 rfl) ?_
      exact j_iret hC hQ dX12_gate_31 rfl hv
theorem hdM_fail : yX12_fail.cls = RX12 ∧ yX12_fail.cls ≠ "java/lang/invoke/MethodHandle" ∧ yX12_fail.cls ≠ "java/lang/invoke/VarHandle" ∧ (parseMethodDescriptor yX12_fail.desc).map (fun d => d.parameters.length) = some 1 := by decide +kernel
abbrev rM_fail : Room := { frames := 2, cells := 0, slots := 0, locals := 46 }
def vM_fail (g : GM) (a1 : Int32) (post : Int32 → GM → Prop) : Prop :=
  (vM_isGate (sm_thrown g (0 : Int32)) a1 (fun r7 g7 => ((¬ r7 = (0 : Int32) → (vp_in a1 6 ∧ (vp_in a1 6 ∧ ((((m_hasFailed g7) a1.toNatClampNeg) = (0 : Int32) → post (1 : Int32) (sm_hasFailed g7 (upd (m_hasFailed g7) a1.toNatClampNeg (vp_nar .boolean (1 : Int32))))) ∧ (¬ ((m_hasFailed g7) a1.toNatClampNeg) = (0 : Int32) → post (0 : Int32) (sm_hasFailed g7 (upd (m_hasFailed g7) a1.toNatClampNeg (vp_nar .boolean (1 : Int32))))))))) ∧ (r7 = (0 : Int32) → post (-1000001 : Int32) g7))))
set_option maxHeartbeats 4000000 in
set_option maxRecDepth 100000 in
theorem cM_fail {l : Launch} {D : va_G} {ad : Nat → Nat} {cy : Nat → ClassId} {g : GM} {a1 : Int32} {post : Int32 → GM → Prop} (hv : vM_fail g a1 post) : jMi l yX12_fail wsX12_fail rM_fail D (tyM cy) [.ref (ad 0), .int a1] (wM ad cy g) (wM ad cy) post 0 0 := by
  refine j_meti (cc := cX12_fail) (nL := 3) (rt := (some .int)) (by decide) (Nat.le_of_ble_eq_true rfl) ?_
  intro Γ hC hQ _
  have hC : jC Γ l rM_fail D 3 RX12 cX12_fail wsX12_fail (tyM cy) := hC
  have hinX12 : ∀ w ∈ wsX120, w ∈ wsX12_fail := fun w h => List.mem_cons_of_mem _ (List.mem_append_right _ h)
  refine j_lv (lv' := [(0, .ref (ad 0)), (1, .int a1)]) [0, 1] rfl ?_
  unfold vM_fail at hv
  refine j_aload_n (i := 0) hC dX12_fail_0 rfl 0 rfl ?_
  refine j_iconst (v := 0) hC dX12_fail_1 (by decide) ?_
  refine j_put (C := RX12) (T := TX12) (N := 22) (ty := .int) hC hinX12 tyX12 tyX12_ok nmX12 0 (wM_c0 ad cy _) rfl 0 (by decide) (mw 1 rfl) rfl rfl fdX12_0 rfl rfl (Nat.le_of_ble_eq_true rfl) (wM_p_thrown ad cy _ _) dX12_fail_2 ?_
  refine j_aload_n (i := 0) hC dX12_fail_5 rfl 0 rfl ?_
  refine j_iload_n (i := 1) hC dX12_fail_6 rfl 1 rfl ?_
  refine j_callV_i (C := RX12) (As := [.int a1]) (rest := []) (b := (ad 0)) hC (cM_isGate hv) 1 gX12_fail_X12_isGate rfl rfl rfl ⟨Nat.le_of_ble_eq_true rfl, Nat.le_of_ble_eq_true rfl⟩ hdM_isGate rfl (wM_c0 ad cy _) rfl rfl (Nat.le_of_ble_eq_true rfl) ⟨Nat.zero_le _, Nat.zero_le _⟩ dX12_fail_7 (fun r7 g7 hv => ?_)
  refine j_if_ne (tgt := 16) hC dX12_fail_10 (by decide) (fun h_ => ?_) (fun h_ => ?_)
  · have hv := hv.1 h_
    refine j_aload_n (i := 0) hC dX12_fail_16 rfl 0 rfl ?_
    refine j_get (C := RX12) (T := TX12) (N := 22) (v := .ref (ad 12)) hC hinX12 0 (wM_c0 ad cy _) rfl 15 (by decide) (mw 3 rfl) rfl rfl dX12_fail_17 ?_
    refine j_iload_n (i := 1) hC dX12_fail_20 rfl 1 rfl ?_
    refine j_zald (v := ((m_hasFailed g7) a1.toNatClampNeg)) hC 12 2 (wM_c12 ad cy _) rfl hv.1 rfl dX12_fail_21 ?_
    have hv := hv.2
    refine j_istore_n (i := 2) (lv' := [(2, .int ((m_hasFailed g7) a1.toNatClampNeg)), (0, .ref (ad 0)), (1, .int a1)]) hC dX12_fail_22 rfl (by decide) rfl ?_
    refine j_aload_n (i := 0) hC dX12_fail_23 rfl 1 rfl ?_
    refine j_get (C := RX12) (T := TX12) (N := 22) (v := .ref (ad 12)) hC hinX12 0 (wM_c0 ad cy _) rfl 15 (by decide) (mw 3 rfl) rfl rfl dX12_fail_24 ?_
    refine j_iload_n (i := 1) hC dX12_fail_27 rfl 2 rfl ?_
    refine j_iconst (v := 1) hC dX12_fail_28 (by decide) ?_
    refine j_zast hC 12 2 (wM_c12 ad cy _) rfl hv.1 (wM_s_hasFailed ad cy _ _) dX12_fail_29 ?_
    have hv := hv.2
    refine j_iload_n (i := 2) hC dX12_fail_30 rfl 0 rfl ?_
    refine j_if_eq (tgt := 38) hC dX12_fail_31 (by decide) (fun h_ => ?_) (fun h_ => ?_)
    · have hv := hv.1 h_
      refine j_iconst (v := 1) hC dX12_fail_38 (by decide) ?_
      exact j_iret hC hQ dX12_fail_39 rfl hv
    · have hv := hv.2 h_
      refine j_iconst (v := 0) hC dX12_fail_34 (by decide) ?_
      refine j_goto (tgt := 39) hC dX12_fail_35 (by decide) ?_
      exact j_iret hC hQ dX12_fail_39 rfl hv
  · have hv := hv.2 h_
    refine j_ldc (v := -1000001) hC dX12_fail_13 (mw 2 rfl) ?_
    exact j_iret hC hQ dX12_fail_15 rfl hv
theorem hdM_mend : yX12_mend.cls = RX12 ∧ yX12_mend.cls ≠ "java/lang/invoke/MethodHandle" ∧ yX12_mend.cls ≠ "java/lang/invoke/VarHandle" ∧ (parseMethodDescriptor yX12_mend.desc).map (fun d => d.parameters.length) = some 1 := by decide +kernel
abbrev rM_mend : Room := { frames := 2, cells := 0, slots := 0, locals := 46 }
def vM_mend (g : GM) (a1 : Int32) (post : Int32 → GM → Prop) : Prop :=
  (vM_isGate (sm_thrown g (0 : Int32)) a1 (fun r7 g7 => ((¬ r7 = (0 : Int32) → (vp_in a1 6 ∧ (vp_in a1 6 ∧ ((((m_hasFailed g7) a1.toNatClampNeg) = (0 : Int32) → post (0 : Int32) (sm_hasFailed g7 (upd (m_hasFailed g7) a1.toNatClampNeg (vp_nar .boolean (0 : Int32))))) ∧ (¬ ((m_hasFailed g7) a1.toNatClampNeg) = (0 : Int32) → post (1 : Int32) (sm_hasFailed g7 (upd (m_hasFailed g7) a1.toNatClampNeg (vp_nar .boolean (0 : Int32))))))))) ∧ (r7 = (0 : Int32) → post (-1000001 : Int32) g7))))
set_option maxHeartbeats 4000000 in
set_option maxRecDepth 100000 in
theorem cM_mend {l : Launch} {D : va_G} {ad : Nat → Nat} {cy : Nat → ClassId} {g : GM} {a1 : Int32} {post : Int32 → GM → Prop} (hv : vM_mend g a1 post) : jMi l yX12_mend wsX12_mend rM_mend D (tyM cy) [.ref (ad 0), .int a1] (wM ad cy g) (wM ad cy) post 0 0 := by
  refine j_meti (cc := cX12_mend) (nL := 3) (rt := (some .int)) (by decide) (Nat.le_of_ble_eq_true rfl) ?_
  intro Γ hC hQ _
  have hC : jC Γ l rM_mend D 3 RX12 cX12_mend wsX12_mend (tyM cy) := hC
  have hinX12 : ∀ w ∈ wsX120, w ∈ wsX12_mend := fun w h => List.mem_cons_of_mem _ (List.mem_append_right _ h)
  refine j_lv (lv' := [(0, .ref (ad 0)), (1, .int a1)]) [0, 1] rfl ?_
  unfold vM_mend at hv
  refine j_aload_n (i := 0) hC dX12_mend_0 rfl 0 rfl ?_
  refine j_iconst (v := 0) hC dX12_mend_1 (by decide) ?_
  refine j_put (C := RX12) (T := TX12) (N := 22) (ty := .int) hC hinX12 tyX12 tyX12_ok nmX12 0 (wM_c0 ad cy _) rfl 0 (by decide) (mw 1 rfl) rfl rfl fdX12_0 rfl rfl (Nat.le_of_ble_eq_true rfl) (wM_p_thrown ad cy _ _) dX12_mend_2 ?_
  refine j_aload_n (i := 0) hC dX12_mend_5 rfl 0 rfl ?_
  refine j_iload_n (i := 1) hC dX12_mend_6 rfl 1 rfl ?_
  refine j_callV_i (C := RX12) (As := [.int a1]) (rest := []) (b := (ad 0)) hC (cM_isGate hv) 1 gX12_mend_X12_isGate rfl rfl rfl ⟨Nat.le_of_ble_eq_true rfl, Nat.le_of_ble_eq_true rfl⟩ hdM_isGate rfl (wM_c0 ad cy _) rfl rfl (Nat.le_of_ble_eq_true rfl) ⟨Nat.zero_le _, Nat.zero_le _⟩ dX12_mend_7 (fun r7 g7 hv => ?_)
  refine j_if_ne (tgt := 16) hC dX12_mend_10 (by decide) (fun h_ => ?_) (fun h_ => ?_)
  · have hv := hv.1 h_
    refine j_aload_n (i := 0) hC dX12_mend_16 rfl 0 rfl ?_
    refine j_get (C := RX12) (T := TX12) (N := 22) (v := .ref (ad 12)) hC hinX12 0 (wM_c0 ad cy _) rfl 15 (by decide) (mw 3 rfl) rfl rfl dX12_mend_17 ?_
    refine j_iload_n (i := 1) hC dX12_mend_20 rfl 1 rfl ?_
    refine j_zald (v := ((m_hasFailed g7) a1.toNatClampNeg)) hC 12 2 (wM_c12 ad cy _) rfl hv.1 rfl dX12_mend_21 ?_
    have hv := hv.2
    refine j_istore_n (i := 2) (lv' := [(2, .int ((m_hasFailed g7) a1.toNatClampNeg)), (0, .ref (ad 0)), (1, .int a1)]) hC dX12_mend_22 rfl (by decide) rfl ?_
    refine j_aload_n (i := 0) hC dX12_mend_23 rfl 1 rfl ?_
    refine j_get (C := RX12) (T := TX12) (N := 22) (v := .ref (ad 12)) hC hinX12 0 (wM_c0 ad cy _) rfl 15 (by decide) (mw 3 rfl) rfl rfl dX12_mend_24 ?_
    refine j_iload_n (i := 1) hC dX12_mend_27 rfl 2 rfl ?_
    refine j_iconst (v := 0) hC dX12_mend_28 (by decide) ?_
    refine j_zast hC 12 2 (wM_c12 ad cy _) rfl hv.1 (wM_s_hasFailed ad cy _ _) dX12_mend_29 ?_
    have hv := hv.2
    refine j_iload_n (i := 2) hC dX12_mend_30 rfl 0 rfl ?_
    refine j_if_eq (tgt := 38) hC dX12_mend_31 (by decide) (fun h_ => ?_) (fun h_ => ?_)
    · have hv := hv.1 h_
      refine j_iconst (v := 0) hC dX12_mend_38 (by decide) ?_
      exact j_iret hC hQ dX12_mend_39 rfl hv
    · have hv := hv.2 h_
      refine j_iconst (v := 1) hC dX12_mend_34 (by decide) ?_
      refine j_goto (tgt := 39) hC dX12_mend_35 (by decide) ?_
      exact j_iret hC hQ dX12_mend_39 rfl hv
  · have hv := hv.2 h_
    refine j_ldc (v := -1000001) hC dX12_mend_13 (mw 2 rfl) ?_
    exact j_iret hC hQ dX12_mend_15 rfl hv
theorem hdM_timeBy : yX12_timeBy.cls = RX12 ∧ yX12_timeBy.cls ≠ "java/lang/invoke/MethodHandle" ∧ yX12_timeBy.cls ≠ "java/lang/invoke/VarHandle" ∧ (parseMethodDescriptor yX12_timeBy.desc).map (fun d => d.parameters.length) = some 2 := by decide +kernel
abbrev rM_timeBy : Room := { frames := 0, cells := 0, slots := 0, locals := 0 }
def vM_timeBy_99 (post : Int32 → GM → Prop) (K25 : Int32 → Int32 → Int32 → Int32 → GM → Prop) (K69 : Int32 → Int32 → Int32 → Int32 → Int32 → Int32 → GM → Prop) (x1 : Int32) (x2 : Int32) (x3 : Int32) (x4 : Int32) (x6 : Int32) (t0 : Int32) (g : GM) : Prop :=
  (K69 x1 x2 x3 x4 t0 (x6 + (1 : Int32)) g)
def vM_timeBy_173 (post : Int32 → GM → Prop) (K25 : Int32 → Int32 → Int32 → Int32 → GM → Prop) (x1 : Int32) (x2 : Int32) (x3 : Int32) (x4 : Int32) (g : GM) : Prop :=
  (K25 x1 x2 x3 (x4 + (1 : Int32)) g)
def vM_timeBy_146 (post : Int32 → GM → Prop) (K25 : Int32 → Int32 → Int32 → Int32 → GM → Prop) (x1 : Int32) (x2 : Int32) (x4 : Int32) (t0 : Int32) (g : GM) : Prop :=
  (vM_timeBy_173 post K25 x1 x2 t0 x4 g)
def vM_timeBy_107 (post : Int32 → GM → Prop) (K25 : Int32 → Int32 → Int32 → Int32 → GM → Prop) (x1 : Int32) (x2 : Int32) (x3 : Int32) (x4 : Int32) (x5 : Int32) (g : GM) : Prop :=
  (vp_in x5 3 ∧ (vp_in x4 6 ∧ (vp_in x5 3 ∧ (vp_in x5 3 ∧ ((((upd (m_crew g) x5.toNatClampNeg (((m_crew g) x5.toNatClampNeg) + ((m_hand g) x4.toNatClampNeg))) x5.toNatClampNeg) ≤ x3 → (vM_timeBy_146 post K25 x1 x2 x4 x3 (sm_crew g (upd (m_crew g) x5.toNatClampNeg (((m_crew g) x5.toNatClampNeg) + ((m_hand g) x4.toNatClampNeg)))))) ∧ (¬ ((upd (m_crew g) x5.toNatClampNeg (((m_crew g) x5.toNatClampNeg) + ((m_hand g) x4.toNatClampNeg))) x5.toNatClampNeg) ≤ x3 → (vp_in x5 3 ∧ (vM_timeBy_146 post K25 x1 x2 x4 ((upd (m_crew g) x5.toNatClampNeg (((m_crew g) x5.toNatClampNeg) + ((m_hand g) x4.toNatClampNeg))) x5.toNatClampNeg) (sm_crew g (upd (m_crew g) x5.toNatClampNeg (((m_crew g) x5.toNatClampNeg) + ((m_hand g) x4.toNatClampNeg))))))))))))
def vM_timeBy_69 (post : Int32 → GM → Prop) (K25 : Int32 → Int32 → Int32 → Int32 → GM → Prop) : Nat → Int32 → Int32 → Int32 → Int32 → Int32 → Int32 → GM → Prop
  | 0, _, _, _, _, _, _, _ => False
  | k_ + 1, x1, x2, x3, x4, x5, x6, g =>
  ((x1 ≤ x6 → (vM_timeBy_107 post K25 x1 x2 x3 x4 x5 g)) ∧ (¬ x1 ≤ x6 → (vp_in x6 3 ∧ (vp_in x5 3 ∧ ((((m_crew g) x5.toNatClampNeg) ≤ ((m_crew g) x6.toNatClampNeg) → (vM_timeBy_99 post K25 (fun x1 x2 x3 x4 x5 x6 g => vM_timeBy_69 post K25 k_ x1 x2 x3 x4 x5 x6 g) x1 x2 x3 x4 x6 x5 g)) ∧ (¬ ((m_crew g) x5.toNatClampNeg) ≤ ((m_crew g) x6.toNatClampNeg) → (vM_timeBy_99 post K25 (fun x1 x2 x3 x4 x5 x6 g => vM_timeBy_69 post K25 k_ x1 x2 x3 x4 x5 x6 g) x1 x2 x3 x4 x6 x6 g)))))))
def vM_timeBy_50 (post : Int32 → GM → Prop) (K25 : Int32 → Int32 → Int32 → Int32 → GM → Prop) (x1 : Int32) (x2 : Int32) (x3 : Int32) (x4 : Int32) (g : GM) : Prop :=
  (vp_in x4 6 ∧ ((¬ ((m_hand g) x4.toNatClampNeg) = (0 : Int32) → (∃ n_ : Nat, vM_timeBy_69 post K25 n_ x1 x2 x3 x4 (0 : Int32) (1 : Int32) g)) ∧ (((m_hand g) x4.toNatClampNeg) = (0 : Int32) → post (-1000000 : Int32) g)))
def vM_timeBy_172 (post : Int32 → GM → Prop) (K25 : Int32 → Int32 → Int32 → Int32 → GM → Prop) (x1 : Int32) (x2 : Int32) (x4 : Int32) (t0 : Int32) (g : GM) : Prop :=
  (vM_timeBy_173 post K25 x1 x2 t0 x4 g)
def vM_timeBy_25 (post : Int32 → GM → Prop) : Nat → Int32 → Int32 → Int32 → Int32 → GM → Prop
  | 0, _, _, _, _, _ => False
  | k_ + 1, x1, x2, x3, x4, g =>
  (((m_gates g) ≤ x4 → post x3 g) ∧ (¬ (m_gates g) ≤ x4 → (vp_in x4 6 ∧ ((¬ ((m_hasFailed g) x4.toNatClampNeg) = (0 : Int32) → (vM_timeBy_50 post (fun x1 x2 x3 x4 g => vM_timeBy_25 post k_ x1 x2 x3 x4 g) x1 x2 x3 x4 g)) ∧ (((m_hasFailed g) x4.toNatClampNeg) = (0 : Int32) → ((¬ x4 = x2 → (vp_in x4 6 ∧ ((((m_minutes g) x4.toNatClampNeg) ≤ x3 → (vM_timeBy_172 post (fun x1 x2 x3 x4 g => vM_timeBy_25 post k_ x1 x2 x3 x4 g) x1 x2 x4 x3 g)) ∧ (¬ ((m_minutes g) x4.toNatClampNeg) ≤ x3 → (vp_in x4 6 ∧ (vM_timeBy_172 post (fun x1 x2 x3 x4 g => vM_timeBy_25 post k_ x1 x2 x3 x4 g) x1 x2 x4 ((m_minutes g) x4.toNatClampNeg) g)))))) ∧ (x4 = x2 → (vM_timeBy_50 post (fun x1 x2 x3 x4 g => vM_timeBy_25 post k_ x1 x2 x3 x4 g) x1 x2 x3 x4 g))))))))
def vM_timeBy_20 (post : Int32 → GM → Prop) (x1 : Int32) (x2 : Int32) (g : GM) : Prop :=
  (∃ n_ : Nat, vM_timeBy_25 post n_ x1 x2 (0 : Int32) (0 : Int32) g)
def vM_timeBy_2 (post : Int32 → GM → Prop) : Nat → Int32 → Int32 → Int32 → GM → Prop
  | 0, _, _, _, _ => False
  | k_ + 1, x1, x2, x3, g =>
  (((3 : Int32) ≤ x3 → (vM_timeBy_20 post x1 x2 g)) ∧ (¬ (3 : Int32) ≤ x3 → (vp_in x3 3 ∧ (vM_timeBy_2 post k_ x1 x2 (x3 + (1 : Int32)) (sm_crew g (upd (m_crew g) x3.toNatClampNeg (0 : Int32)))))))
def vM_timeBy (g : GM) (a1 : Int32) (a2 : Int32) (post : Int32 → GM → Prop) : Prop :=
  (∃ n_ : Nat, vM_timeBy_2 post n_ a1 a2 (0 : Int32) g)
set_option maxHeartbeats 4000000 in
set_option maxRecDepth 100000 in
theorem lM_timeBy_99 {Γ : jG} {l : Launch} {D : va_G} {ad : Nat → Nat} {cy : Nat → ClassId} {post : Int32 → GM → Prop} (hC : jC Γ l rM_timeBy D 7 RX12 cX12_timeBy wsX12_timeBy (tyM cy)) (hQ : jQi Γ D (wM ad cy) post (some .int) 0 0) {K25 : Int32 → Int32 → Int32 → Int32 → GM → Prop} (hK25 : ∀ (x1 : Int32) (x2 : Int32) (x3 : Int32) (x4 : Int32) (g : GM), K25 x1 x2 x3 x4 g → J Γ D 7 0 0 (wM ad cy g) 25 [(0, .ref (ad 0)), (1, .int x1), (2, .int x2), (3, .int x3), (4, .int x4)] []) {K69 : Int32 → Int32 → Int32 → Int32 → Int32 → Int32 → GM → Prop} (hK69 : ∀ (x1 : Int32) (x2 : Int32) (x3 : Int32) (x4 : Int32) (x5 : Int32) (x6 : Int32) (g : GM), K69 x1 x2 x3 x4 x5 x6 g → J Γ D 7 0 0 (wM ad cy g) 69 [(0, .ref (ad 0)), (1, .int x1), (2, .int x2), (3, .int x3), (4, .int x4), (5, .int x5), (6, .int x6)] []) : ∀ (x1 : Int32) (x2 : Int32) (x3 : Int32) (x4 : Int32) (x6 : Int32) (t0 : Int32) (g : GM), vM_timeBy_99 post K25 K69 x1 x2 x3 x4 x6 t0 g → J Γ D 7 0 0 (wM ad cy g) 99 [(0, .ref (ad 0)), (1, .int x1), (2, .int x2), (3, .int x3), (4, .int x4), (6, .int x6)] [.int t0] := by
  have hinX12 : ∀ w ∈ wsX120, w ∈ wsX12_timeBy := fun w h => List.mem_cons_of_mem _ (List.mem_append_right _ h)
  intro x1 x2 x3 x4 x6 t0 g hv
  unfold vM_timeBy_99 at hv
  refine j_istore (lv' := [(5, .int t0), (0, .ref (ad 0)), (1, .int x1), (2, .int x2), (3, .int x3), (4, .int x4), (6, .int x6)]) hC dX12_timeBy_99 (by decide) rfl ?_
  refine j_iinc (k := 6) (v := (x6 + (1 : Int32))) (lv' := [(6, .int (x6 + (1 : Int32))), (5, .int t0), (0, .ref (ad 0)), (1, .int x1), (2, .int x2), (3, .int x3), (4, .int x4)]) hC dX12_timeBy_101 rfl rfl (by decide) rfl ?_
  refine j_goto (tgt := 69) hC dX12_timeBy_104 (by decide) ?_
  exact j_lv [2, 3, 4, 5, 6, 1, 0] rfl (hK69 _ _ _ _ _ _ _ hv)
set_option maxHeartbeats 4000000 in
set_option maxRecDepth 100000 in
theorem lM_timeBy_173 {Γ : jG} {l : Launch} {D : va_G} {ad : Nat → Nat} {cy : Nat → ClassId} {post : Int32 → GM → Prop} (hC : jC Γ l rM_timeBy D 7 RX12 cX12_timeBy wsX12_timeBy (tyM cy)) (hQ : jQi Γ D (wM ad cy) post (some .int) 0 0) {K25 : Int32 → Int32 → Int32 → Int32 → GM → Prop} (hK25 : ∀ (x1 : Int32) (x2 : Int32) (x3 : Int32) (x4 : Int32) (g : GM), K25 x1 x2 x3 x4 g → J Γ D 7 0 0 (wM ad cy g) 25 [(0, .ref (ad 0)), (1, .int x1), (2, .int x2), (3, .int x3), (4, .int x4)] []) : ∀ (x1 : Int32) (x2 : Int32) (x3 : Int32) (x4 : Int32) (g : GM), vM_timeBy_173 post K25 x1 x2 x3 x4 g → J Γ D 7 0 0 (wM ad cy g) 173 [(0, .ref (ad 0)), (1, .int x1), (2, .int x2), (3, .int x3), (4, .int x4)] [] := by
  have hinX12 : ∀ w ∈ wsX120, w ∈ wsX12_timeBy := fun w h => List.mem_cons_of_mem _ (List.mem_append_right _ h)
  intro x1 x2 x3 x4 g hv
  unfold vM_timeBy_173 at hv
  refine j_iinc (k := 4) (v := (x4 + (1 : Int32))) (lv' := [(4, .int (x4 + (1 : Int32))), (0, .ref (ad 0)), (1, .int x1), (2, .int x2), (3, .int x3)]) hC dX12_timeBy_173 rfl rfl (by decide) rfl ?_
  refine j_goto (tgt := 25) hC dX12_timeBy_176 (by decide) ?_
  exact j_lv [1, 2, 3, 4, 0] rfl (hK25 _ _ _ _ _ hv)
set_option maxHeartbeats 4000000 in
set_option maxRecDepth 100000 in
theorem lM_timeBy_146 {Γ : jG} {l : Launch} {D : va_G} {ad : Nat → Nat} {cy : Nat → ClassId} {post : Int32 → GM → Prop} (hC : jC Γ l rM_timeBy D 7 RX12 cX12_timeBy wsX12_timeBy (tyM cy)) (hQ : jQi Γ D (wM ad cy) post (some .int) 0 0) {K25 : Int32 → Int32 → Int32 → Int32 → GM → Prop} (hK25 : ∀ (x1 : Int32) (x2 : Int32) (x3 : Int32) (x4 : Int32) (g : GM), K25 x1 x2 x3 x4 g → J Γ D 7 0 0 (wM ad cy g) 25 [(0, .ref (ad 0)), (1, .int x1), (2, .int x2), (3, .int x3), (4, .int x4)] []) : ∀ (x1 : Int32) (x2 : Int32) (x4 : Int32) (t0 : Int32) (g : GM), vM_timeBy_146 post K25 x1 x2 x4 t0 g → J Γ D 7 0 0 (wM ad cy g) 146 [(0, .ref (ad 0)), (1, .int x1), (2, .int x2), (4, .int x4)] [.int t0] := by
  have hinX12 : ∀ w ∈ wsX120, w ∈ wsX12_timeBy := fun w h => List.mem_cons_of_mem _ (List.mem_append_right _ h)
  intro x1 x2 x4 t0 g hv
  unfold vM_timeBy_146 at hv
  refine j_istore_n (i := 3) (lv' := [(3, .int t0), (0, .ref (ad 0)), (1, .int x1), (2, .int x2), (4, .int x4)]) hC dX12_timeBy_146 rfl (by decide) rfl ?_
  refine j_goto (tgt := 173) hC dX12_timeBy_147 (by decide) ?_
  exact j_lv [1, 2, 3, 0, 4] rfl (lM_timeBy_173 hC hQ hK25 _ _ _ _ _ hv)
set_option maxHeartbeats 4000000 in
set_option maxRecDepth 100000 in
theorem lM_timeBy_107 {Γ : jG} {l : Launch} {D : va_G} {ad : Nat → Nat} {cy : Nat → ClassId} {post : Int32 → GM → Prop} (hC : jC Γ l rM_timeBy D 7 RX12 cX12_timeBy wsX12_timeBy (tyM cy)) (hQ : jQi Γ D (wM ad cy) post (some .int) 0 0) {K25 : Int32 → Int32 → Int32 → Int32 → GM → Prop} (hK25 : ∀ (x1 : Int32) (x2 : Int32) (x3 : Int32) (x4 : Int32) (g : GM), K25 x1 x2 x3 x4 g → J Γ D 7 0 0 (wM ad cy g) 25 [(0, .ref (ad 0)), (1, .int x1), (2, .int x2), (3, .int x3), (4, .int x4)] []) : ∀ (x1 : Int32) (x2 : Int32) (x3 : Int32) (x4 : Int32) (x5 : Int32) (g : GM), vM_timeBy_107 post K25 x1 x2 x3 x4 x5 g → J Γ D 7 0 0 (wM ad cy g) 107 [(0, .ref (ad 0)), (1, .int x1), (2, .int x2), (3, .int x3), (4, .int x4), (5, .int x5)] [] := by
  have hinX12 : ∀ w ∈ wsX120, w ∈ wsX12_timeBy := fun w h => List.mem_cons_of_mem _ (List.mem_append_right _ h)
  intro x1 x2 x3 x4 x5 g hv
  unfold vM_timeBy_107 at hv
  refine j_aload_n (i := 0) hC dX12_timeBy_107 rfl 0 rfl ?_
  refine j_get (C := RX12) (T := TX12) (N := 22) (v := .ref (ad 13)) hC hinX12 0 (wM_c0 ad cy _) rfl 16 (by decide) (mw 1 rfl) rfl rfl dX12_timeBy_108 ?_
  refine j_iload hC dX12_timeBy_111 5 rfl ?_
  refine j_dup2_11 hC dX12_timeBy_113 rfl rfl ?_
  refine j_iald (v := ((m_crew g) x5.toNatClampNeg)) hC 13 0 (wM_c13 ad cy _) rfl hv.1 rfl dX12_timeBy_114 ?_
  have hv := hv.2
  refine j_aload_n (i := 0) hC dX12_timeBy_115 rfl 0 rfl ?_
  refine j_get (C := RX12) (T := TX12) (N := 22) (v := .ref (ad 11)) hC hinX12 0 (wM_c0 ad cy _) rfl 14 (by decide) (mw 4 rfl) rfl rfl dX12_timeBy_116 ?_
  refine j_iload hC dX12_timeBy_119 4 rfl ?_
  refine j_iald (v := ((m_hand g) x4.toNatClampNeg)) hC 11 0 (wM_c11 ad cy _) rfl hv.1 rfl dX12_timeBy_121 ?_
  have hv := hv.2
  refine j_iadd hC dX12_timeBy_122 ?_
  refine j_iast hC 13 0 (wM_c13 ad cy _) rfl hv.1 (wM_s_crew ad cy _ _) dX12_timeBy_123 ?_
  have hv := hv.2
  refine j_aload_n (i := 0) hC dX12_timeBy_124 rfl 0 rfl ?_
  refine j_get (C := RX12) (T := TX12) (N := 22) (v := .ref (ad 13)) hC hinX12 0 (wM_c0 ad cy _) rfl 16 (by decide) (mw 1 rfl) rfl rfl dX12_timeBy_125 ?_
  refine j_iload hC dX12_timeBy_128 5 rfl ?_
  refine j_iald (v := ((upd (m_crew g) x5.toNatClampNeg (((m_crew g) x5.toNatClampNeg) + ((m_hand g) x4.toNatClampNeg))) x5.toNatClampNeg)) hC 13 0 (wM_c13 ad cy _) rfl hv.1 rfl dX12_timeBy_130 ?_
  have hv := hv.2
  refine j_iload_n (i := 3) hC dX12_timeBy_131 rfl 3 rfl ?_
  refine j_icmp_le (tgt := 145) hC dX12_timeBy_132 (by decide) (fun h_ => ?_) (fun h_ => ?_)
  · have hv := hv.1 h_
    refine j_iload_n (i := 3) hC dX12_timeBy_145 rfl 3 rfl ?_
    exact j_lv [0, 1, 2, 4] rfl (lM_timeBy_146 hC hQ hK25 _ _ _ _ _ hv)
  · have hv := hv.2 h_
    refine j_aload_n (i := 0) hC dX12_timeBy_135 rfl 0 rfl ?_
    refine j_get (C := RX12) (T := TX12) (N := 22) (v := .ref (ad 13)) hC hinX12 0 (wM_c0 ad cy _) rfl 16 (by decide) (mw 1 rfl) rfl rfl dX12_timeBy_136 ?_
    refine j_iload hC dX12_timeBy_139 5 rfl ?_
    refine j_iald (v := ((upd (m_crew g) x5.toNatClampNeg (((m_crew g) x5.toNatClampNeg) + ((m_hand g) x4.toNatClampNeg))) x5.toNatClampNeg)) hC 13 0 (wM_c13 ad cy _) rfl hv.1 rfl dX12_timeBy_141 ?_
    have hv := hv.2
    refine j_goto (tgt := 146) hC dX12_timeBy_142 (by decide) ?_
    exact j_lv [0, 1, 2, 4] rfl (lM_timeBy_146 hC hQ hK25 _ _ _ _ _ hv)
set_option maxHeartbeats 4000000 in
set_option maxRecDepth 100000 in
theorem lM_timeBy_69 {Γ : jG} {l : Launch} {D : va_G} {ad : Nat → Nat} {cy : Nat → ClassId} {post : Int32 → GM → Prop} (hC : jC Γ l rM_timeBy D 7 RX12 cX12_timeBy wsX12_timeBy (tyM cy)) (hQ : jQi Γ D (wM ad cy) post (some .int) 0 0) {K25 : Int32 → Int32 → Int32 → Int32 → GM → Prop} (hK25 : ∀ (x1 : Int32) (x2 : Int32) (x3 : Int32) (x4 : Int32) (g : GM), K25 x1 x2 x3 x4 g → J Γ D 7 0 0 (wM ad cy g) 25 [(0, .ref (ad 0)), (1, .int x1), (2, .int x2), (3, .int x3), (4, .int x4)] []) : ∀ (n_ : Nat) (x1 : Int32) (x2 : Int32) (x3 : Int32) (x4 : Int32) (x5 : Int32) (x6 : Int32) (g : GM), vM_timeBy_69 post K25 n_ x1 x2 x3 x4 x5 x6 g → J Γ D 7 0 0 (wM ad cy g) 69 [(0, .ref (ad 0)), (1, .int x1), (2, .int x2), (3, .int x3), (4, .int x4), (5, .int x5), (6, .int x6)] [] := by
  have hinX12 : ∀ w ∈ wsX120, w ∈ wsX12_timeBy := fun w h => List.mem_cons_of_mem _ (List.mem_append_right _ h)
  intro n_
  induction n_ with
  | zero => intro x1 x2 x3 x4 x5 x6 g hv; exact False.elim hv
  | succ k_ ih =>
    intro x1 x2 x3 x4 x5 x6 g hv
    unfold vM_timeBy_69 at hv
    refine j_iload hC dX12_timeBy_69 6 rfl ?_
    refine j_iload_n (i := 1) hC dX12_timeBy_71 rfl 1 rfl ?_
    refine j_icmp_ge (tgt := 107) hC dX12_timeBy_72 (by decide) (fun h_ => ?_) (fun h_ => ?_)
    · have hv := hv.1 h_
      exact j_lv [0, 1, 2, 3, 4, 5] rfl (lM_timeBy_107 hC hQ hK25 _ _ _ _ _ _ hv)
    · have hv := hv.2 h_
      refine j_aload_n (i := 0) hC dX12_timeBy_75 rfl 0 rfl ?_
      refine j_get (C := RX12) (T := TX12) (N := 22) (v := .ref (ad 13)) hC hinX12 0 (wM_c0 ad cy _) rfl 16 (by decide) (mw 1 rfl) rfl rfl dX12_timeBy_76 ?_
      refine j_iload hC dX12_timeBy_79 6 rfl ?_
      refine j_iald (v := ((m_crew g) x6.toNatClampNeg)) hC 13 0 (wM_c13 ad cy _) rfl hv.1 rfl dX12_timeBy_81 ?_
      have hv := hv.2
      refine j_aload_n (i := 0) hC dX12_timeBy_82 rfl 0 rfl ?_
      refine j_get (C := RX12) (T := TX12) (N := 22) (v := .ref (ad 13)) hC hinX12 0 (wM_c0 ad cy _) rfl 16 (by decide) (mw 1 rfl) rfl rfl dX12_timeBy_83 ?_
      refine j_iload hC dX12_timeBy_86 5 rfl ?_
      refine j_iald (v := ((m_crew g) x5.toNatClampNeg)) hC 13 0 (wM_c13 ad cy _) rfl hv.1 rfl dX12_timeBy_88 ?_
      have hv := hv.2
      refine j_icmp_ge (tgt := 97) hC dX12_timeBy_89 (by decide) (fun h_ => ?_) (fun h_ => ?_)
      · have hv := hv.1 h_
        refine j_iload hC dX12_timeBy_97 5 rfl ?_
        exact j_lv [0, 1, 2, 3, 4, 6] rfl (lM_timeBy_99 hC hQ hK25 (K69 := fun x1 x2 x3 x4 x5 x6 g => vM_timeBy_69 post K25 k_ x1 x2 x3 x4 x5 x6 g) (fun _ _ _ _ _ _ _ h_ => ih _ _ _ _ _ _ _ h_) _ _ _ _ _ _ _ hv)
      · have hv := hv.2 h_
        refine j_iload hC dX12_timeBy_92 6 rfl ?_
        refine j_goto (tgt := 99) hC dX12_timeBy_94 (by decide) ?_
        exact j_lv [0, 1, 2, 3, 4, 6] rfl (lM_timeBy_99 hC hQ hK25 (K69 := fun x1 x2 x3 x4 x5 x6 g => vM_timeBy_69 post K25 k_ x1 x2 x3 x4 x5 x6 g) (fun _ _ _ _ _ _ _ h_ => ih _ _ _ _ _ _ _ h_) _ _ _ _ _ _ _ hv)
set_option maxHeartbeats 4000000 in
set_option maxRecDepth 100000 in
theorem lM_timeBy_50 {Γ : jG} {l : Launch} {D : va_G} {ad : Nat → Nat} {cy : Nat → ClassId} {post : Int32 → GM → Prop} (hC : jC Γ l rM_timeBy D 7 RX12 cX12_timeBy wsX12_timeBy (tyM cy)) (hQ : jQi Γ D (wM ad cy) post (some .int) 0 0) {K25 : Int32 → Int32 → Int32 → Int32 → GM → Prop} (hK25 : ∀ (x1 : Int32) (x2 : Int32) (x3 : Int32) (x4 : Int32) (g : GM), K25 x1 x2 x3 x4 g → J Γ D 7 0 0 (wM ad cy g) 25 [(0, .ref (ad 0)), (1, .int x1), (2, .int x2), (3, .int x3), (4, .int x4)] []) : ∀ (x1 : Int32) (x2 : Int32) (x3 : Int32) (x4 : Int32) (g : GM), vM_timeBy_50 post K25 x1 x2 x3 x4 g → J Γ D 7 0 0 (wM ad cy g) 50 [(0, .ref (ad 0)), (1, .int x1), (2, .int x2), (3, .int x3), (4, .int x4)] [] := by
  have hinX12 : ∀ w ∈ wsX120, w ∈ wsX12_timeBy := fun w h => List.mem_cons_of_mem _ (List.mem_append_right _ h)
  intro x1 x2 x3 x4 g hv
  unfold vM_timeBy_50 at hv
  refine j_aload_n (i := 0) hC dX12_timeBy_50 rfl 0 rfl ?_
  refine j_get (C := RX12) (T := TX12) (N := 22) (v := .ref (ad 11)) hC hinX12 0 (wM_c0 ad cy _) rfl 14 (by decide) (mw 4 rfl) rfl rfl dX12_timeBy_51 ?_
  refine j_iload hC dX12_timeBy_54 4 rfl ?_
  refine j_iald (v := ((m_hand g) x4.toNatClampNeg)) hC 11 0 (wM_c11 ad cy _) rfl hv.1 rfl dX12_timeBy_56 ?_
  have hv := hv.2
  refine j_if_ne (tgt := 63) hC dX12_timeBy_57 (by decide) (fun h_ => ?_) (fun h_ => ?_)
  · have hv := hv.1 h_
    refine j_iconst (v := 0) hC dX12_timeBy_63 (by decide) ?_
    refine j_istore (lv' := [(5, .int (0 : Int32)), (0, .ref (ad 0)), (1, .int x1), (2, .int x2), (3, .int x3), (4, .int x4)]) hC dX12_timeBy_64 (by decide) rfl ?_
    refine j_iconst (v := 1) hC dX12_timeBy_66 (by decide) ?_
    refine j_istore (lv' := [(6, .int (1 : Int32)), (5, .int (0 : Int32)), (0, .ref (ad 0)), (1, .int x1), (2, .int x2), (3, .int x3), (4, .int x4)]) hC dX12_timeBy_67 (by decide) rfl ?_
    obtain ⟨n_, hv⟩ := hv
    exact j_lv [2, 3, 4, 5, 6, 1, 0] rfl (lM_timeBy_69 hC hQ hK25 n_ _ _ _ _ _ _ _ hv)
  · have hv := hv.2 h_
    refine j_ldc (v := -1000000) hC dX12_timeBy_60 (mw 5 rfl) ?_
    exact j_iret hC hQ dX12_timeBy_62 rfl hv
set_option maxHeartbeats 4000000 in
set_option maxRecDepth 100000 in
theorem lM_timeBy_172 {Γ : jG} {l : Launch} {D : va_G} {ad : Nat → Nat} {cy : Nat → ClassId} {post : Int32 → GM → Prop} (hC : jC Γ l rM_timeBy D 7 RX12 cX12_timeBy wsX12_timeBy (tyM cy)) (hQ : jQi Γ D (wM ad cy) post (some .int) 0 0) {K25 : Int32 → Int32 → Int32 → Int32 → GM → Prop} (hK25 : ∀ (x1 : Int32) (x2 : Int32) (x3 : Int32) (x4 : Int32) (g : GM), K25 x1 x2 x3 x4 g → J Γ D 7 0 0 (wM ad cy g) 25 [(0, .ref (ad 0)), (1, .int x1), (2, .int x2), (3, .int x3), (4, .int x4)] []) : ∀ (x1 : Int32) (x2 : Int32) (x4 : Int32) (t0 : Int32) (g : GM), vM_timeBy_172 post K25 x1 x2 x4 t0 g → J Γ D 7 0 0 (wM ad cy g) 172 [(0, .ref (ad 0)), (1, .int x1), (2, .int x2), (4, .int x4)] [.int t0] := by
  have hinX12 : ∀ w ∈ wsX120, w ∈ wsX12_timeBy := fun w h => List.mem_cons_of_mem _ (List.mem_append_right _ h)
  intro x1 x2 x4 t0 g hv
  unfold vM_timeBy_172 at hv
  refine j_istore_n (i := 3) (lv' := [(3, .int t0), (0, .ref (ad 0)), (1, .int x1), (2, .int x2), (4, .int x4)]) hC dX12_timeBy_172 rfl (by decide) rfl ?_
  exact j_lv [1, 2, 3, 0, 4] rfl (lM_timeBy_173 hC hQ hK25 _ _ _ _ _ hv)
set_option maxHeartbeats 4000000 in
set_option maxRecDepth 100000 in
theorem lM_timeBy_25 {Γ : jG} {l : Launch} {D : va_G} {ad : Nat → Nat} {cy : Nat → ClassId} {post : Int32 → GM → Prop} (hC : jC Γ l rM_timeBy D 7 RX12 cX12_timeBy wsX12_timeBy (tyM cy)) (hQ : jQi Γ D (wM ad cy) post (some .int) 0 0) : ∀ (n_ : Nat) (x1 : Int32) (x2 : Int32) (x3 : Int32) (x4 : Int32) (g : GM), vM_timeBy_25 post n_ x1 x2 x3 x4 g → J Γ D 7 0 0 (wM ad cy g) 25 [(0, .ref (ad 0)), (1, .int x1), (2, .int x2), (3, .int x3), (4, .int x4)] [] := by
  have hinX12 : ∀ w ∈ wsX120, w ∈ wsX12_timeBy := fun w h => List.mem_cons_of_mem _ (List.mem_append_right _ h)
  intro n_
  induction n_ with
  | zero => intro x1 x2 x3 x4 g hv; exact False.elim hv
  | succ k_ ih =>
    intro x1 x2 x3 x4 g hv
    unfold vM_timeBy_25 at hv
    refine j_iload hC dX12_timeBy_25 4 rfl ?_
    refine j_aload_n (i := 0) hC dX12_timeBy_27 rfl 0 rfl ?_
    refine j_get (C := RX12) (T := TX12) (N := 22) (v := .int (m_gates g)) hC hinX12 0 (wM_c0 ad cy _) rfl 12 (by decide) (mw 2 rfl) rfl rfl dX12_timeBy_28 ?_
    refine j_icmp_ge (tgt := 179) hC dX12_timeBy_31 (by decide) (fun h_ => ?_) (fun h_ => ?_)
    · have hv := hv.1 h_
      refine j_iload_n (i := 3) hC dX12_timeBy_179 rfl 3 rfl ?_
      exact j_iret hC hQ dX12_timeBy_180 rfl hv
    · have hv := hv.2 h_
      refine j_aload_n (i := 0) hC dX12_timeBy_34 rfl 0 rfl ?_
      refine j_get (C := RX12) (T := TX12) (N := 22) (v := .ref (ad 12)) hC hinX12 0 (wM_c0 ad cy _) rfl 15 (by decide) (mw 3 rfl) rfl rfl dX12_timeBy_35 ?_
      refine j_iload hC dX12_timeBy_38 4 rfl ?_
      refine j_zald (v := ((m_hasFailed g) x4.toNatClampNeg)) hC 12 2 (wM_c12 ad cy _) rfl hv.1 rfl dX12_timeBy_40 ?_
      have hv := hv.2
      refine j_if_ne (tgt := 50) hC dX12_timeBy_41 (by decide) (fun h_ => ?_) (fun h_ => ?_)
      · have hv := hv.1 h_
        exact j_lv [0, 1, 2, 3, 4] rfl (lM_timeBy_50 hC hQ (K25 := fun x1 x2 x3 x4 g => vM_timeBy_25 post k_ x1 x2 x3 x4 g) (fun _ _ _ _ _ h_ => ih _ _ _ _ _ h_) _ _ _ _ _ hv)
      · have hv := hv.2 h_
        refine j_iload hC dX12_timeBy_44 4 rfl ?_
        refine j_iload_n (i := 2) hC dX12_timeBy_46 rfl 2 rfl ?_
        refine j_icmp_ne (tgt := 150) hC dX12_timeBy_47 (by decide) (fun h_ => ?_) (fun h_ => ?_)
        · have hv := hv.1 h_
          refine j_aload_n (i := 0) hC dX12_timeBy_150 rfl 0 rfl ?_
          refine j_get (C := RX12) (T := TX12) (N := 22) (v := .ref (ad 10)) hC hinX12 0 (wM_c0 ad cy _) rfl 13 (by decide) (mw 6 rfl) rfl rfl dX12_timeBy_151 ?_
          refine j_iload hC dX12_timeBy_154 4 rfl ?_
          refine j_iald (v := ((m_minutes g) x4.toNatClampNeg)) hC 10 0 (wM_c10 ad cy _) rfl hv.1 rfl dX12_timeBy_156 ?_
          have hv := hv.2
          refine j_iload_n (i := 3) hC dX12_timeBy_157 rfl 3 rfl ?_
          refine j_icmp_le (tgt := 171) hC dX12_timeBy_158 (by decide) (fun h_ => ?_) (fun h_ => ?_)
          · have hv := hv.1 h_
            refine j_iload_n (i := 3) hC dX12_timeBy_171 rfl 3 rfl ?_
            exact j_lv [0, 1, 2, 4] rfl (lM_timeBy_172 hC hQ (K25 := fun x1 x2 x3 x4 g => vM_timeBy_25 post k_ x1 x2 x3 x4 g) (fun _ _ _ _ _ h_ => ih _ _ _ _ _ h_) _ _ _ _ _ hv)
          · have hv := hv.2 h_
            refine j_aload_n (i := 0) hC dX12_timeBy_161 rfl 0 rfl ?_
            refine j_get (C := RX12) (T := TX12) (N := 22) (v := .ref (ad 10)) hC hinX12 0 (wM_c0 ad cy _) rfl 13 (by decide) (mw 6 rfl) rfl rfl dX12_timeBy_162 ?_
            refine j_iload hC dX12_timeBy_165 4 rfl ?_
            refine j_iald (v := ((m_minutes g) x4.toNatClampNeg)) hC 10 0 (wM_c10 ad cy _) rfl hv.1 rfl dX12_timeBy_167 ?_
            have hv := hv.2
            refine j_goto (tgt := 172) hC dX12_timeBy_168 (by decide) ?_
            exact j_lv [0, 1, 2, 4] rfl (lM_timeBy_172 hC hQ (K25 := fun x1 x2 x3 x4 g => vM_timeBy_25 post k_ x1 x2 x3 x4 g) (fun _ _ _ _ _ h_ => ih _ _ _ _ _ h_) _ _ _ _ _ hv)
        · have hv := hv.2 h_
          exact j_lv [0, 1, 2, 3, 4] rfl (lM_timeBy_50 hC hQ (K25 := fun x1 x2 x3 x4 g => vM_timeBy_25 post k_ x1 x2 x3 x4 g) (fun _ _ _ _ _ h_ => ih _ _ _ _ _ h_) _ _ _ _ _ hv)
set_option maxHeartbeats 4000000 in
set_option maxRecDepth 100000 in
theorem lM_timeBy_20 {Γ : jG} {l : Launch} {D : va_G} {ad : Nat → Nat} {cy : Nat → ClassId} {post : Int32 → GM → Prop} (hC : jC Γ l rM_timeBy D 7 RX12 cX12_timeBy wsX12_timeBy (tyM cy)) (hQ : jQi Γ D (wM ad cy) post (some .int) 0 0) : ∀ (x1 : Int32) (x2 : Int32) (g : GM), vM_timeBy_20 post x1 x2 g → J Γ D 7 0 0 (wM ad cy g) 20 [(0, .ref (ad 0)), (1, .int x1), (2, .int x2)] [] := by
  have hinX12 : ∀ w ∈ wsX120, w ∈ wsX12_timeBy := fun w h => List.mem_cons_of_mem _ (List.mem_append_right _ h)
  intro x1 x2 g hv
  unfold vM_timeBy_20 at hv
  refine j_iconst (v := 0) hC dX12_timeBy_20 (by decide) ?_
  refine j_istore_n (i := 3) (lv' := [(3, .int (0 : Int32)), (0, .ref (ad 0)), (1, .int x1), (2, .int x2)]) hC dX12_timeBy_21 rfl (by decide) rfl ?_
  refine j_iconst (v := 0) hC dX12_timeBy_22 (by decide) ?_
  refine j_istore (lv' := [(4, .int (0 : Int32)), (3, .int (0 : Int32)), (0, .ref (ad 0)), (1, .int x1), (2, .int x2)]) hC dX12_timeBy_23 (by decide) rfl ?_
  obtain ⟨n_, hv⟩ := hv
  exact j_lv [2, 3, 4, 1, 0] rfl (lM_timeBy_25 hC hQ n_ _ _ _ _ _ hv)
set_option maxHeartbeats 4000000 in
set_option maxRecDepth 100000 in
theorem lM_timeBy_2 {Γ : jG} {l : Launch} {D : va_G} {ad : Nat → Nat} {cy : Nat → ClassId} {post : Int32 → GM → Prop} (hC : jC Γ l rM_timeBy D 7 RX12 cX12_timeBy wsX12_timeBy (tyM cy)) (hQ : jQi Γ D (wM ad cy) post (some .int) 0 0) : ∀ (n_ : Nat) (x1 : Int32) (x2 : Int32) (x3 : Int32) (g : GM), vM_timeBy_2 post n_ x1 x2 x3 g → J Γ D 7 0 0 (wM ad cy g) 2 [(0, .ref (ad 0)), (1, .int x1), (2, .int x2), (3, .int x3)] [] := by
  have hinX12 : ∀ w ∈ wsX120, w ∈ wsX12_timeBy := fun w h => List.mem_cons_of_mem _ (List.mem_append_right _ h)
  intro n_
  induction n_ with
  | zero => intro x1 x2 x3 g hv; exact False.elim hv
  | succ k_ ih =>
    intro x1 x2 x3 g hv
    unfold vM_timeBy_2 at hv
    refine j_iload_n (i := 3) hC dX12_timeBy_2 rfl 3 rfl ?_
    refine j_iconst (v := 3) hC dX12_timeBy_3 (by decide) ?_
    refine j_icmp_ge (tgt := 20) hC dX12_timeBy_4 (by decide) (fun h_ => ?_) (fun h_ => ?_)
    · have hv := hv.1 h_
      exact j_lv [0, 1, 2] rfl (lM_timeBy_20 hC hQ _ _ _ hv)
    · have hv := hv.2 h_
      refine j_aload_n (i := 0) hC dX12_timeBy_7 rfl 0 rfl ?_
      refine j_get (C := RX12) (T := TX12) (N := 22) (v := .ref (ad 13)) hC hinX12 0 (wM_c0 ad cy _) rfl 16 (by decide) (mw 1 rfl) rfl rfl dX12_timeBy_8 ?_
      refine j_iload_n (i := 3) hC dX12_timeBy_11 rfl 3 rfl ?_
      refine j_iconst (v := 0) hC dX12_timeBy_12 (by decide) ?_
      refine j_iast hC 13 0 (wM_c13 ad cy _) rfl hv.1 (wM_s_crew ad cy _ _) dX12_timeBy_13 ?_
      have hv := hv.2
      refine j_iinc (k := 3) (v := (x3 + (1 : Int32))) (lv' := [(3, .int (x3 + (1 : Int32))), (0, .ref (ad 0)), (1, .int x1), (2, .int x2)]) hC dX12_timeBy_14 rfl rfl (by decide) rfl ?_
      refine j_goto (tgt := 2) hC dX12_timeBy_17 (by decide) ?_
      exact j_lv [1, 2, 3, 0] rfl (ih _ _ _ _ hv)
set_option maxHeartbeats 4000000 in
set_option maxRecDepth 100000 in
theorem cM_timeBy {l : Launch} {D : va_G} {ad : Nat → Nat} {cy : Nat → ClassId} {g : GM} {a1 : Int32} {a2 : Int32} {post : Int32 → GM → Prop} (hv : vM_timeBy g a1 a2 post) : jMi l yX12_timeBy wsX12_timeBy rM_timeBy D (tyM cy) [.ref (ad 0), .int a1, .int a2] (wM ad cy g) (wM ad cy) post 0 0 := by
  refine j_meti (cc := cX12_timeBy) (nL := 7) (rt := (some .int)) (by decide) (Nat.le_of_ble_eq_true rfl) ?_
  intro Γ hC hQ _
  have hC : jC Γ l rM_timeBy D 7 RX12 cX12_timeBy wsX12_timeBy (tyM cy) := hC
  have hinX12 : ∀ w ∈ wsX120, w ∈ wsX12_timeBy := fun w h => List.mem_cons_of_mem _ (List.mem_append_right _ h)
  refine j_lv (lv' := [(0, .ref (ad 0)), (1, .int a1), (2, .int a2)]) [0, 1, 2] rfl ?_
  unfold vM_timeBy at hv
  refine j_iconst (v := 0) hC dX12_timeBy_0 (by decide) ?_
  refine j_istore_n (i := 3) (lv' := [(3, .int (0 : Int32)), (0, .ref (ad 0)), (1, .int a1), (2, .int a2)]) hC dX12_timeBy_1 rfl (by decide) rfl ?_
  obtain ⟨n_, hv⟩ := hv
  exact j_lv [1, 2, 3, 0] rfl (lM_timeBy_2 hC hQ n_ _ _ _ _ hv)
theorem hdM_time : yX12_time.cls = RX12 ∧ yX12_time.cls ≠ "java/lang/invoke/MethodHandle" ∧ yX12_time.cls ≠ "java/lang/invoke/VarHandle" ∧ (parseMethodDescriptor yX12_time.desc).map (fun d => d.parameters.length) = some 2 := by decide +kernel
abbrev rM_time : Room := { frames := 1, cells := 0, slots := 0, locals := 26 }
def vM_time_98 (post : Int32 → GM → Prop) (K39 : Int32 → Int32 → Int32 → Int32 → Int32 → GM → Prop) (x1 : Int32) (x2 : Int32) (x3 : Int32) (x4 : Int32) (x5 : Int32) (g : GM) : Prop :=
  (K39 x1 x2 x3 x4 (x5 + (1 : Int32)) g)
def vM_time_94 (post : Int32 → GM → Prop) (K39 : Int32 → Int32 → Int32 → Int32 → Int32 → GM → Prop) (x1 : Int32) (x2 : Int32) (x5 : Int32) (t0 : Int32) (g : GM) : Prop :=
  (vM_time_98 post K39 x1 x2 t0 (1 : Int32) x5 g)
def vM_time_104 (post : Int32 → GM → Prop) (x1 : Int32) (x3 : Int32) (x4 : Int32) (g : GM) : Prop :=
  ((x4 = (0 : Int32) → (vM_timeBy g x1 (-1 : Int32) (fun r116 g116 => post r116 g116))) ∧ (¬ x4 = (0 : Int32) → post x3 g))
def vM_time_39 (post : Int32 → GM → Prop) : Nat → Int32 → Int32 → Int32 → Int32 → Int32 → GM → Prop
  | 0, _, _, _, _, _, _ => False
  | k_ + 1, x1, x2, x3, x4, x5, g =>
  (((m_gates g) ≤ x5 → (vM_time_104 post x1 x3 x4 g)) ∧ (¬ (m_gates g) ≤ x5 → ((¬ x2 = (1 : Int32) → (vM_time_104 post x1 x3 x4 g)) ∧ (x2 = (1 : Int32) → (vp_in x5 6 ∧ ((¬ ((m_hasFailed g) x5.toNatClampNeg) = (0 : Int32) → (vM_time_98 post (fun x1 x2 x3 x4 x5 g => vM_time_39 post k_ x1 x2 x3 x4 x5 g) x1 x2 x3 x4 x5 g)) ∧ (((m_hasFailed g) x5.toNatClampNeg) = (0 : Int32) → (vM_timeBy g x1 x5 (fun r67 g67 => ((¬ r67 = (-1000000 : Int32) → ((r67 ≤ x3 → (vM_time_94 post (fun x1 x2 x3 x4 x5 g => vM_time_39 post k_ x1 x2 x3 x4 x5 g) x1 x2 x5 x3 g67)) ∧ (¬ r67 ≤ x3 → (vM_time_94 post (fun x1 x2 x3 x4 x5 g => vM_time_39 post k_ x1 x2 x3 x4 x5 g) x1 x2 x5 r67 g67)))) ∧ (r67 = (-1000000 : Int32) → post (-1000000 : Int32) g67)))))))))))
def vM_time (g : GM) (a1 : Int32) (a2 : Int32) (post : Int32 → GM → Prop) : Prop :=
  (vM_in (sm_thrown g (0 : Int32)) (a1.toInt64) (1 : Int64) (3 : Int64) (fun r11 g11 => ((r11 = (0 : Int32) → post (-1000001 : Int32) g11) ∧ (¬ r11 = (0 : Int32) → (vM_in g11 (a2.toInt64) (0 : Int64) (1 : Int64) (fun r21 g21 => ((¬ r21 = (0 : Int32) → (∃ n_ : Nat, vM_time_39 post n_ a1 a2 (-1000000 : Int32) (0 : Int32) (0 : Int32) g21)) ∧ (r21 = (0 : Int32) → post (-1000001 : Int32) g21))))))))
set_option maxHeartbeats 4000000 in
set_option maxRecDepth 100000 in
theorem lM_time_98 {Γ : jG} {l : Launch} {D : va_G} {ad : Nat → Nat} {cy : Nat → ClassId} {post : Int32 → GM → Prop} (hC : jC Γ l rM_time D 7 RX12 cX12_time wsX12_time (tyM cy)) (hQ : jQi Γ D (wM ad cy) post (some .int) 0 0) {K39 : Int32 → Int32 → Int32 → Int32 → Int32 → GM → Prop} (hK39 : ∀ (x1 : Int32) (x2 : Int32) (x3 : Int32) (x4 : Int32) (x5 : Int32) (g : GM), K39 x1 x2 x3 x4 x5 g → J Γ D 7 0 0 (wM ad cy g) 39 [(0, .ref (ad 0)), (1, .int x1), (2, .int x2), (3, .int x3), (4, .int x4), (5, .int x5)] []) : ∀ (x1 : Int32) (x2 : Int32) (x3 : Int32) (x4 : Int32) (x5 : Int32) (g : GM), vM_time_98 post K39 x1 x2 x3 x4 x5 g → J Γ D 7 0 0 (wM ad cy g) 98 [(0, .ref (ad 0)), (1, .int x1), (2, .int x2), (3, .int x3), (4, .int x4), (5, .int x5)] [] := by
  have hinX12 : ∀ w ∈ wsX120, w ∈ wsX12_time := fun w h => List.mem_cons_of_mem _ (List.mem_append_right _ h)
  intro x1 x2 x3 x4 x5 g hv
  unfold vM_time_98 at hv
  refine j_iinc (k := 5) (v := (x5 + (1 : Int32))) (lv' := [(5, .int (x5 + (1 : Int32))), (0, .ref (ad 0)), (1, .int x1), (2, .int x2), (3, .int x3), (4, .int x4)]) hC dX12_time_98 rfl rfl (by decide) rfl ?_
  refine j_goto (tgt := 39) hC dX12_time_101 (by decide) ?_
  exact j_lv [1, 2, 3, 4, 5, 0] rfl (hK39 _ _ _ _ _ _ hv)
set_option maxHeartbeats 4000000 in
set_option maxRecDepth 100000 in
theorem lM_time_94 {Γ : jG} {l : Launch} {D : va_G} {ad : Nat → Nat} {cy : Nat → ClassId} {post : Int32 → GM → Prop} (hC : jC Γ l rM_time D 7 RX12 cX12_time wsX12_time (tyM cy)) (hQ : jQi Γ D (wM ad cy) post (some .int) 0 0) {K39 : Int32 → Int32 → Int32 → Int32 → Int32 → GM → Prop} (hK39 : ∀ (x1 : Int32) (x2 : Int32) (x3 : Int32) (x4 : Int32) (x5 : Int32) (g : GM), K39 x1 x2 x3 x4 x5 g → J Γ D 7 0 0 (wM ad cy g) 39 [(0, .ref (ad 0)), (1, .int x1), (2, .int x2), (3, .int x3), (4, .int x4), (5, .int x5)] []) : ∀ (x1 : Int32) (x2 : Int32) (x5 : Int32) (t0 : Int32) (g : GM), vM_time_94 post K39 x1 x2 x5 t0 g → J Γ D 7 0 0 (wM ad cy g) 94 [(0, .ref (ad 0)), (1, .int x1), (2, .int x2), (5, .int x5)] [.int t0] := by
  have hinX12 : ∀ w ∈ wsX120, w ∈ wsX12_time := fun w h => List.mem_cons_of_mem _ (List.mem_append_right _ h)
  intro x1 x2 x5 t0 g hv
  unfold vM_time_94 at hv
  refine j_istore_n (i := 3) (lv' := [(3, .int t0), (0, .ref (ad 0)), (1, .int x1), (2, .int x2), (5, .int x5)]) hC dX12_time_94 rfl (by decide) rfl ?_
  refine j_iconst (v := 1) hC dX12_time_95 (by decide) ?_
  refine j_istore (lv' := [(4, .int (1 : Int32)), (3, .int t0), (0, .ref (ad 0)), (1, .int x1), (2, .int x2), (5, .int x5)]) hC dX12_time_96 (by decide) rfl ?_
  exact j_lv [2, 3, 4, 1, 0, 5] rfl (lM_time_98 hC hQ hK39 _ _ _ _ _ _ hv)
set_option maxHeartbeats 4000000 in
set_option maxRecDepth 100000 in
theorem lM_time_104 {Γ : jG} {l : Launch} {D : va_G} {ad : Nat → Nat} {cy : Nat → ClassId} {post : Int32 → GM → Prop} (hC : jC Γ l rM_time D 7 RX12 cX12_time wsX12_time (tyM cy)) (hQ : jQi Γ D (wM ad cy) post (some .int) 0 0) : ∀ (x1 : Int32) (x3 : Int32) (x4 : Int32) (g : GM), vM_time_104 post x1 x3 x4 g → J Γ D 7 0 0 (wM ad cy g) 104 [(0, .ref (ad 0)), (1, .int x1), (3, .int x3), (4, .int x4)] [] := by
  have hinX12 : ∀ w ∈ wsX120, w ∈ wsX12_time := fun w h => List.mem_cons_of_mem _ (List.mem_append_right _ h)
  intro x1 x3 x4 g hv
  unfold vM_time_104 at hv
  refine j_iload hC dX12_time_104 3 rfl ?_
  refine j_if_eq (tgt := 113) hC dX12_time_106 (by decide) (fun h_ => ?_) (fun h_ => ?_)
  · have hv := hv.1 h_
    refine j_aload_n (i := 0) hC dX12_time_113 rfl 0 rfl ?_
    refine j_iload_n (i := 1) hC dX12_time_114 rfl 1 rfl ?_
    refine j_iconst (v := -1) hC dX12_time_115 (by decide) ?_
    refine j_callV_i (C := RX12) (As := [.int x1, .int (-1 : Int32)]) (rest := []) (b := (ad 0)) hC (cM_timeBy hv) 2 gX12_time_X12_timeBy rfl rfl rfl ⟨Nat.le_of_ble_eq_true rfl, Nat.le_of_ble_eq_true rfl⟩ hdM_timeBy rfl (wM_c0 ad cy _) rfl rfl (Nat.le_of_ble_eq_true rfl) ⟨Nat.zero_le _, Nat.zero_le _⟩ dX12_time_116 (fun r116 g116 hv => ?_)
    exact j_iret hC hQ dX12_time_119 rfl hv
  · have hv := hv.2 h_
    refine j_iload_n (i := 3) hC dX12_time_109 rfl 2 rfl ?_
    refine j_goto (tgt := 119) hC dX12_time_110 (by decide) ?_
    exact j_iret hC hQ dX12_time_119 rfl hv
set_option maxHeartbeats 4000000 in
set_option maxRecDepth 100000 in
theorem lM_time_39 {Γ : jG} {l : Launch} {D : va_G} {ad : Nat → Nat} {cy : Nat → ClassId} {post : Int32 → GM → Prop} (hC : jC Γ l rM_time D 7 RX12 cX12_time wsX12_time (tyM cy)) (hQ : jQi Γ D (wM ad cy) post (some .int) 0 0) : ∀ (n_ : Nat) (x1 : Int32) (x2 : Int32) (x3 : Int32) (x4 : Int32) (x5 : Int32) (g : GM), vM_time_39 post n_ x1 x2 x3 x4 x5 g → J Γ D 7 0 0 (wM ad cy g) 39 [(0, .ref (ad 0)), (1, .int x1), (2, .int x2), (3, .int x3), (4, .int x4), (5, .int x5)] [] := by
  have hinX12 : ∀ w ∈ wsX120, w ∈ wsX12_time := fun w h => List.mem_cons_of_mem _ (List.mem_append_right _ h)
  intro n_
  induction n_ with
  | zero => intro x1 x2 x3 x4 x5 g hv; exact False.elim hv
  | succ k_ ih =>
    intro x1 x2 x3 x4 x5 g hv
    unfold vM_time_39 at hv
    refine j_iload hC dX12_time_39 5 rfl ?_
    refine j_aload_n (i := 0) hC dX12_time_41 rfl 0 rfl ?_
    refine j_get (C := RX12) (T := TX12) (N := 22) (v := .int (m_gates g)) hC hinX12 0 (wM_c0 ad cy _) rfl 12 (by decide) (mw 5 rfl) rfl rfl dX12_time_42 ?_
    refine j_icmp_ge (tgt := 104) hC dX12_time_45 (by decide) (fun h_ => ?_) (fun h_ => ?_)
    · have hv := hv.1 h_
      exact j_lv [0, 1, 3, 4] rfl (lM_time_104 hC hQ _ _ _ _ hv)
    · have hv := hv.2 h_
      refine j_iload_n (i := 2) hC dX12_time_48 rfl 2 rfl ?_
      refine j_iconst (v := 1) hC dX12_time_49 (by decide) ?_
      refine j_icmp_ne (tgt := 104) hC dX12_time_50 (by decide) (fun h_ => ?_) (fun h_ => ?_)
      · have hv := hv.1 h_
        exact j_lv [0, 1, 3, 4] rfl (lM_time_104 hC hQ _ _ _ _ hv)
      · have hv := hv.2 h_
        refine j_aload_n (i := 0) hC dX12_time_53 rfl 0 rfl ?_
        refine j_get (C := RX12) (T := TX12) (N := 22) (v := .ref (ad 12)) hC hinX12 0 (wM_c0 ad cy _) rfl 15 (by decide) (mw 6 rfl) rfl rfl dX12_time_54 ?_
        refine j_iload hC dX12_time_57 5 rfl ?_
        refine j_zald (v := ((m_hasFailed g) x5.toNatClampNeg)) hC 12 2 (wM_c12 ad cy _) rfl hv.1 rfl dX12_time_59 ?_
        have hv := hv.2
        refine j_if_ne (tgt := 98) hC dX12_time_60 (by decide) (fun h_ => ?_) (fun h_ => ?_)
        · have hv := hv.1 h_
          exact j_lv [0, 1, 2, 3, 4, 5] rfl (lM_time_98 hC hQ (K39 := fun x1 x2 x3 x4 x5 g => vM_time_39 post k_ x1 x2 x3 x4 x5 g) (fun _ _ _ _ _ _ h_ => ih _ _ _ _ _ _ h_) _ _ _ _ _ _ hv)
        · have hv := hv.2 h_
          refine j_aload_n (i := 0) hC dX12_time_63 rfl 0 rfl ?_
          refine j_iload_n (i := 1) hC dX12_time_64 rfl 1 rfl ?_
          refine j_iload hC dX12_time_65 5 rfl ?_
          refine j_callV_i (C := RX12) (As := [.int x1, .int x5]) (rest := []) (b := (ad 0)) hC (cM_timeBy hv) 2 gX12_time_X12_timeBy rfl rfl rfl ⟨Nat.le_of_ble_eq_true rfl, Nat.le_of_ble_eq_true rfl⟩ hdM_timeBy rfl (wM_c0 ad cy _) rfl rfl (Nat.le_of_ble_eq_true rfl) ⟨Nat.zero_le _, Nat.zero_le _⟩ dX12_time_67 (fun r67 g67 hv => ?_)
          refine j_istore (lv' := [(6, .int r67), (0, .ref (ad 0)), (1, .int x1), (2, .int x2), (3, .int x3), (4, .int x4), (5, .int x5)]) hC dX12_time_70 (by decide) rfl ?_
          refine j_iload hC dX12_time_72 0 rfl ?_
          refine j_ldc (v := -1000000) hC dX12_time_74 (mw 4 rfl) ?_
          refine j_icmp_ne (tgt := 82) hC dX12_time_76 (by decide) (fun h_ => ?_) (fun h_ => ?_)
          · have hv := hv.1 h_
            refine j_iload hC dX12_time_82 0 rfl ?_
            refine j_iload_n (i := 3) hC dX12_time_84 rfl 4 rfl ?_
            refine j_icmp_le (tgt := 93) hC dX12_time_85 (by decide) (fun h_ => ?_) (fun h_ => ?_)
            · have hv := hv.1 h_
              refine j_iload_n (i := 3) hC dX12_time_93 rfl 4 rfl ?_
              exact j_lv [1, 2, 3, 6] rfl (lM_time_94 hC hQ (K39 := fun x1 x2 x3 x4 x5 g => vM_time_39 post k_ x1 x2 x3 x4 x5 g) (fun _ _ _ _ _ _ h_ => ih _ _ _ _ _ _ h_) _ _ _ _ _ hv)
            · have hv := hv.2 h_
              refine j_iload hC dX12_time_88 0 rfl ?_
              refine j_goto (tgt := 94) hC dX12_time_90 (by decide) ?_
              exact j_lv [1, 2, 3, 6] rfl (lM_time_94 hC hQ (K39 := fun x1 x2 x3 x4 x5 g => vM_time_39 post k_ x1 x2 x3 x4 x5 g) (fun _ _ _ _ _ _ h_ => ih _ _ _ _ _ _ h_) _ _ _ _ _ hv)
          · have hv := hv.2 h_
            refine j_ldc (v := -1000000) hC dX12_time_79 (mw 4 rfl) ?_
            exact j_iret hC hQ dX12_time_81 rfl hv
set_option maxHeartbeats 4000000 in
set_option maxRecDepth 100000 in
theorem cM_time {l : Launch} {D : va_G} {ad : Nat → Nat} {cy : Nat → ClassId} {g : GM} {a1 : Int32} {a2 : Int32} {post : Int32 → GM → Prop} (hv : vM_time g a1 a2 post) : jMi l yX12_time wsX12_time rM_time D (tyM cy) [.ref (ad 0), .int a1, .int a2] (wM ad cy g) (wM ad cy) post 0 0 := by
  refine j_meti (cc := cX12_time) (nL := 7) (rt := (some .int)) (by decide) (Nat.le_of_ble_eq_true rfl) ?_
  intro Γ hC hQ _
  have hC : jC Γ l rM_time D 7 RX12 cX12_time wsX12_time (tyM cy) := hC
  have hinX12 : ∀ w ∈ wsX120, w ∈ wsX12_time := fun w h => List.mem_cons_of_mem _ (List.mem_append_right _ h)
  refine j_lv (lv' := [(0, .ref (ad 0)), (1, .int a1), (2, .int a2)]) [0, 1, 2] rfl ?_
  unfold vM_time at hv
  refine j_aload_n (i := 0) hC dX12_time_0 rfl 0 rfl ?_
  refine j_iconst (v := 0) hC dX12_time_1 (by decide) ?_
  refine j_put (C := RX12) (T := TX12) (N := 22) (ty := .int) hC hinX12 tyX12 tyX12_ok nmX12 0 (wM_c0 ad cy _) rfl 0 (by decide) (mw 1 rfl) rfl rfl fdX12_0 rfl rfl (Nat.le_of_ble_eq_true rfl) (wM_p_thrown ad cy _ _) dX12_time_2 ?_
  refine j_iload_n (i := 1) hC dX12_time_5 rfl 1 rfl ?_
  refine j_i2l hC dX12_time_6 ?_
  refine j_lconst (v := 1) hC dX12_time_7 (by decide) ?_
  refine j_ldc2 (v := 3) hC dX12_time_8 (mw 2 rfl) ?_
  refine j_callS_i (As := [.long (a1.toInt64), .long (1 : Int64), .long (3 : Int64)]) (rest := []) hC (cM_in hv) 3 gX12_time_X12_in rfl rfl rfl ⟨Nat.le_of_ble_eq_true rfl, Nat.le_of_ble_eq_true rfl⟩ hdM_in.2 rfl rfl (Nat.le_of_ble_eq_true rfl) ⟨Nat.zero_le _, Nat.zero_le _⟩ dX12_time_11 (fun r11 g11 hv => ?_)
  refine j_if_eq (tgt := 27) hC dX12_time_14 (by decide) (fun h_ => ?_) (fun h_ => ?_)
  · have hv := hv.1 h_
    refine j_ldc (v := -1000001) hC dX12_time_27 (mw 3 rfl) ?_
    exact j_iret hC hQ dX12_time_29 rfl hv
  · have hv := hv.2 h_
    refine j_iload_n (i := 2) hC dX12_time_17 rfl 2 rfl ?_
    refine j_i2l hC dX12_time_18 ?_
    refine j_lconst (v := 0) hC dX12_time_19 (by decide) ?_
    refine j_lconst (v := 1) hC dX12_time_20 (by decide) ?_
    refine j_callS_i (As := [.long (a2.toInt64), .long (0 : Int64), .long (1 : Int64)]) (rest := []) hC (cM_in hv) 3 gX12_time_X12_in rfl rfl rfl ⟨Nat.le_of_ble_eq_true rfl, Nat.le_of_ble_eq_true rfl⟩ hdM_in.2 rfl rfl (Nat.le_of_ble_eq_true rfl) ⟨Nat.zero_le _, Nat.zero_le _⟩ dX12_time_21 (fun r21 g21 hv => ?_)
    refine j_if_ne (tgt := 30) hC dX12_time_24 (by decide) (fun h_ => ?_) (fun h_ => ?_)
    · have hv := hv.1 h_
      refine j_ldc (v := -1000000) hC dX12_time_30 (mw 4 rfl) ?_
      refine j_istore_n (i := 3) (lv' := [(3, .int (-1000000 : Int32)), (0, .ref (ad 0)), (1, .int a1), (2, .int a2)]) hC dX12_time_32 rfl (by decide) rfl ?_
      refine j_iconst (v := 0) hC dX12_time_33 (by decide) ?_
      refine j_istore (lv' := [(4, .int (0 : Int32)), (3, .int (-1000000 : Int32)), (0, .ref (ad 0)), (1, .int a1), (2, .int a2)]) hC dX12_time_34 (by decide) rfl ?_
      refine j_iconst (v := 0) hC dX12_time_36 (by decide) ?_
      refine j_istore (lv' := [(5, .int (0 : Int32)), (4, .int (0 : Int32)), (3, .int (-1000000 : Int32)), (0, .ref (ad 0)), (1, .int a1), (2, .int a2)]) hC dX12_time_37 (by decide) rfl ?_
      obtain ⟨n_, hv⟩ := hv
      exact j_lv [3, 4, 5, 2, 1, 0] rfl (lM_time_39 hC hQ n_ _ _ _ _ _ _ hv)
    · have hv := hv.2 h_
      refine j_ldc (v := -1000001) hC dX12_time_27 (mw 3 rfl) ?_
      exact j_iret hC hQ dX12_time_29 rfl hv
theorem hdM_ship : yX12_ship.cls = RX12 ∧ yX12_ship.cls ≠ "java/lang/invoke/MethodHandle" ∧ yX12_ship.cls ≠ "java/lang/invoke/VarHandle" ∧ (parseMethodDescriptor yX12_ship.desc).map (fun d => d.parameters.length) = some 2 := by decide +kernel
abbrev rM_ship : Room := { frames := 1, cells := 0, slots := 0, locals := 25 }
def vM_ship (g : GM) (a1 : Int32) (a2 : Int32) (post : Int32 → GM → Prop) : Prop :=
  (vM_in (sm_thrown g (0 : Int32)) (a1.toInt64) (0 : Int64) (100000 : Int64) (fun r11 g11 => ((r11 = (0 : Int32) → post (-1000001 : Int32) g11) ∧ (¬ r11 = (0 : Int32) → (vM_in g11 (a2.toInt64) (1 : Int64) (500 : Int64) (fun r23 g23 => ((¬ r23 = (0 : Int32) → ((¬ (m_ships g23) = (20 : Int32) → (vp_in (m_ships g23) 20 ∧ (vp_in (m_ships g23) 20 ∧ post (((m_ships g23) + (1 : Int32)) - (1 : Int32)) (sm_ships (sm_takes (sm_comes g23 (upd (m_comes g23) (m_ships g23).toNatClampNeg a1)) (upd (m_takes g23) (m_ships g23).toNatClampNeg a2)) ((m_ships g23) + (1 : Int32)))))) ∧ ((m_ships g23) = (20 : Int32) → post (-1000003 : Int32) g23))) ∧ (r23 = (0 : Int32) → post (-1000001 : Int32) g23))))))))
set_option maxHeartbeats 4000000 in
set_option maxRecDepth 100000 in
theorem cM_ship {l : Launch} {D : va_G} {ad : Nat → Nat} {cy : Nat → ClassId} {g : GM} {a1 : Int32} {a2 : Int32} {post : Int32 → GM → Prop} (hv : vM_ship g a1 a2 post) : jMi l yX12_ship wsX12_ship rM_ship D (tyM cy) [.ref (ad 0), .int a1, .int a2] (wM ad cy g) (wM ad cy) post 0 0 := by
  refine j_meti (cc := cX12_ship) (nL := 3) (rt := (some .int)) (by decide) (Nat.le_of_ble_eq_true rfl) ?_
  intro Γ hC hQ _
  have hC : jC Γ l rM_ship D 3 RX12 cX12_ship wsX12_ship (tyM cy) := hC
  have hinX12 : ∀ w ∈ wsX120, w ∈ wsX12_ship := fun w h => List.mem_cons_of_mem _ (List.mem_append_right _ h)
  refine j_lv (lv' := [(0, .ref (ad 0)), (1, .int a1), (2, .int a2)]) [0, 1, 2] rfl ?_
  unfold vM_ship at hv
  refine j_aload_n (i := 0) hC dX12_ship_0 rfl 0 rfl ?_
  refine j_iconst (v := 0) hC dX12_ship_1 (by decide) ?_
  refine j_put (C := RX12) (T := TX12) (N := 22) (ty := .int) hC hinX12 tyX12 tyX12_ok nmX12 0 (wM_c0 ad cy _) rfl 0 (by decide) (mw 1 rfl) rfl rfl fdX12_0 rfl rfl (Nat.le_of_ble_eq_true rfl) (wM_p_thrown ad cy _ _) dX12_ship_2 ?_
  refine j_iload_n (i := 1) hC dX12_ship_5 rfl 1 rfl ?_
  refine j_i2l hC dX12_ship_6 ?_
  refine j_lconst (v := 0) hC dX12_ship_7 (by decide) ?_
  refine j_ldc2 (v := 100000) hC dX12_ship_8 (mw 2 rfl) ?_
  refine j_callS_i (As := [.long (a1.toInt64), .long (0 : Int64), .long (100000 : Int64)]) (rest := []) hC (cM_in hv) 3 gX12_ship_X12_in rfl rfl rfl ⟨Nat.le_of_ble_eq_true rfl, Nat.le_of_ble_eq_true rfl⟩ hdM_in.2 rfl rfl (Nat.le_of_ble_eq_true rfl) ⟨Nat.zero_le _, Nat.zero_le _⟩ dX12_ship_11 (fun r11 g11 hv => ?_)
  refine j_if_eq (tgt := 29) hC dX12_ship_14 (by decide) (fun h_ => ?_) (fun h_ => ?_)
  · have hv := hv.1 h_
    refine j_ldc (v := -1000001) hC dX12_ship_29 (mw 4 rfl) ?_
    exact j_iret hC hQ dX12_ship_31 rfl hv
  · have hv := hv.2 h_
    refine j_iload_n (i := 2) hC dX12_ship_17 rfl 2 rfl ?_
    refine j_i2l hC dX12_ship_18 ?_
    refine j_lconst (v := 1) hC dX12_ship_19 (by decide) ?_
    refine j_ldc2 (v := 500) hC dX12_ship_20 (mw 3 rfl) ?_
    refine j_callS_i (As := [.long (a2.toInt64), .long (1 : Int64), .long (500 : Int64)]) (rest := []) hC (cM_in hv) 3 gX12_ship_X12_in rfl rfl rfl ⟨Nat.le_of_ble_eq_true rfl, Nat.le_of_ble_eq_true rfl⟩ hdM_in.2 rfl rfl (Nat.le_of_ble_eq_true rfl) ⟨Nat.zero_le _, Nat.zero_le _⟩ dX12_ship_23 (fun r23 g23 hv => ?_)
    refine j_if_ne (tgt := 32) hC dX12_ship_26 (by decide) (fun h_ => ?_) (fun h_ => ?_)
    · have hv := hv.1 h_
      refine j_aload_n (i := 0) hC dX12_ship_32 rfl 0 rfl ?_
      refine j_get (C := RX12) (T := TX12) (N := 22) (v := .int (m_ships g23)) hC hinX12 0 (wM_c0 ad cy _) rfl 17 (by decide) (mw 5 rfl) rfl rfl dX12_ship_33 ?_
      refine j_bipush (v := 20) hC dX12_ship_36 (by decide) ?_
      refine j_icmp_ne (tgt := 44) hC dX12_ship_38 (by decide) (fun h_ => ?_) (fun h_ => ?_)
      · have hv := hv.1 h_
        refine j_aload_n (i := 0) hC dX12_ship_44 rfl 0 rfl ?_
        refine j_get (C := RX12) (T := TX12) (N := 22) (v := .ref (ad 14)) hC hinX12 0 (wM_c0 ad cy _) rfl 18 (by decide) (mw 7 rfl) rfl rfl dX12_ship_45 ?_
        refine j_aload_n (i := 0) hC dX12_ship_48 rfl 0 rfl ?_
        refine j_get (C := RX12) (T := TX12) (N := 22) (v := .int (m_ships g23)) hC hinX12 0 (wM_c0 ad cy _) rfl 17 (by decide) (mw 5 rfl) rfl rfl dX12_ship_49 ?_
        refine j_iload_n (i := 1) hC dX12_ship_52 rfl 1 rfl ?_
        refine j_iast hC 14 0 (wM_c14 ad cy _) rfl hv.1 (wM_s_comes ad cy _ _) dX12_ship_53 ?_
        have hv := hv.2
        refine j_aload_n (i := 0) hC dX12_ship_54 rfl 0 rfl ?_
        refine j_get (C := RX12) (T := TX12) (N := 22) (v := .ref (ad 15)) hC hinX12 0 (wM_c0 ad cy _) rfl 19 (by decide) (mw 8 rfl) rfl rfl dX12_ship_55 ?_
        refine j_aload_n (i := 0) hC dX12_ship_58 rfl 0 rfl ?_
        refine j_get (C := RX12) (T := TX12) (N := 22) (v := .int (m_ships g23)) hC hinX12 0 (wM_c0 ad cy _) rfl 17 (by decide) (mw 5 rfl) rfl rfl dX12_ship_59 ?_
        refine j_iload_n (i := 2) hC dX12_ship_62 rfl 2 rfl ?_
        refine j_iast hC 15 0 (wM_c15 ad cy _) rfl hv.1 (wM_s_takes ad cy _ _) dX12_ship_63 ?_
        have hv := hv.2
        refine j_aload_n (i := 0) hC dX12_ship_64 rfl 0 rfl ?_
        refine j_dup hC dX12_ship_65 rfl ?_
        refine j_get (C := RX12) (T := TX12) (N := 22) (v := .int (m_ships g23)) hC hinX12 0 (wM_c0 ad cy _) rfl 17 (by decide) (mw 5 rfl) rfl rfl dX12_ship_66 ?_
        refine j_iconst (v := 1) hC dX12_ship_69 (by decide) ?_
        refine j_iadd hC dX12_ship_70 ?_
        refine j_put (C := RX12) (T := TX12) (N := 22) (ty := .int) hC hinX12 tyX12 tyX12_ok nmX12 0 (wM_c0 ad cy _) rfl 17 (by decide) (mw 5 rfl) rfl rfl fdX12_17 rfl rfl (Nat.le_of_ble_eq_true rfl) (wM_p_ships ad cy _ _) dX12_ship_71 ?_
        refine j_aload_n (i := 0) hC dX12_ship_74 rfl 0 rfl ?_
        refine j_get (C := RX12) (T := TX12) (N := 22) (v := .int ((m_ships g23) + (1 : Int32))) hC hinX12 0 (wM_c0 ad cy _) rfl 17 (by decide) (mw 5 rfl) rfl rfl dX12_ship_75 ?_
        refine j_iconst (v := 1) hC dX12_ship_78 (by decide) ?_
        refine j_isub hC dX12_ship_79 ?_
        exact j_iret hC hQ dX12_ship_80 rfl hv
      · have hv := hv.2 h_
        refine j_ldc (v := -1000003) hC dX12_ship_41 (mw 6 rfl) ?_
        exact j_iret hC hQ dX12_ship_43 rfl hv
    · have hv := hv.2 h_
      refine j_ldc (v := -1000001) hC dX12_ship_29 (mw 4 rfl) ?_
      exact j_iret hC hQ dX12_ship_31 rfl hv
theorem hdM_waits : yX12_waits.cls = RX12 ∧ yX12_waits.cls ≠ "java/lang/invoke/MethodHandle" ∧ yX12_waits.cls ≠ "java/lang/invoke/VarHandle" ∧ (parseMethodDescriptor yX12_waits.desc).map (fun d => d.parameters.length) = some 3 := by decide +kernel
abbrev rM_waits : Room := { frames := 1, cells := 0, slots := 0, locals := 25 }
def vM_waits_109 (post : Int32 → GM → Prop) (K55 : Int32 → Int32 → Int32 → Int32 → Int32 → GM → Prop) (K62 : Int32 → Int32 → Int32 → Int32 → Int32 → Int32 → Int32 → GM → Prop) (x1 : Int32) (x2 : Int32) (x3 : Int32) (x4 : Int32) (x5 : Int32) (x6 : Int32) (x7 : Int32) (g : GM) : Prop :=
  (K62 x1 x2 x3 x4 x5 x6 (x7 + (1 : Int32)) g)
def vM_waits_105 (post : Int32 → GM → Prop) (K55 : Int32 → Int32 → Int32 → Int32 → Int32 → GM → Prop) (K62 : Int32 → Int32 → Int32 → Int32 → Int32 → Int32 → Int32 → GM → Prop) (x1 : Int32) (x2 : Int32) (x3 : Int32) (x4 : Int32) (x5 : Int32) (x7 : Int32) (g : GM) : Prop :=
  (vM_waits_109 post K55 K62 x1 x2 x3 x4 x5 x7 x7 g)
def vM_waits_167 (post : Int32 → GM → Prop) (x1 : Int32) (x7 : Int32) (g : GM) : Prop :=
  (vp_in x1 20 ∧ post (x7 - ((m_comes g) x1.toNatClampNeg)) g)
def vM_waits_159 (post : Int32 → GM → Prop) (K55 : Int32 → Int32 → Int32 → Int32 → Int32 → GM → Prop) (x1 : Int32) (x2 : Int32) (x3 : Int32) (x4 : Int32) (x6 : Int32) (t0 : Int32) (g : GM) : Prop :=
  ((¬ x6 = x1 → (vp_in x6 20 ∧ (K55 x1 x2 x3 (x4 ||| ((1 : Int32) <<< (x6 &&& 31))) (t0 + ((m_takes g) x6.toNatClampNeg)) g))) ∧ (x6 = x1 → (vM_waits_167 post x1 t0 g)))
def vM_waits_157 (post : Int32 → GM → Prop) (K55 : Int32 → Int32 → Int32 → Int32 → Int32 → GM → Prop) (x1 : Int32) (x2 : Int32) (x3 : Int32) (x4 : Int32) (x6 : Int32) (x7 : Int32) (g : GM) : Prop :=
  (vM_waits_159 post K55 x1 x2 x3 x4 x6 x7 g)
def vM_waits_139 (post : Int32 → GM → Prop) (K55 : Int32 → Int32 → Int32 → Int32 → Int32 → GM → Prop) (x1 : Int32) (x2 : Int32) (x3 : Int32) (x4 : Int32) (x6 : Int32) (t0 : Int32) (g : GM) : Prop :=
  ((t0 < x2 → (vM_waits_157 post K55 x1 x2 x3 x4 x6 t0 g)) ∧ (¬ t0 < x2 → ((x3 ≤ t0 → (vM_waits_157 post K55 x1 x2 x3 x4 x6 t0 g)) ∧ (¬ x3 ≤ t0 → (vM_waits_159 post K55 x1 x2 x3 x4 x6 x3 g)))))
def vM_waits_115 (post : Int32 → GM → Prop) (K55 : Int32 → Int32 → Int32 → Int32 → Int32 → GM → Prop) (x1 : Int32) (x2 : Int32) (x3 : Int32) (x4 : Int32) (x5 : Int32) (x6 : Int32) (g : GM) : Prop :=
  (vp_in x6 20 ∧ ((((m_comes g) x6.toNatClampNeg) ≤ x5 → (vM_waits_139 post K55 x1 x2 x3 x4 x6 x5 g)) ∧ (¬ ((m_comes g) x6.toNatClampNeg) ≤ x5 → (vp_in x6 20 ∧ (vM_waits_139 post K55 x1 x2 x3 x4 x6 ((m_comes g) x6.toNatClampNeg) g)))))
def vM_waits_62 (post : Int32 → GM → Prop) (K55 : Int32 → Int32 → Int32 → Int32 → Int32 → GM → Prop) : Nat → Int32 → Int32 → Int32 → Int32 → Int32 → Int32 → Int32 → GM → Prop
  | 0, _, _, _, _, _, _, _, _ => False
  | k_ + 1, x1, x2, x3, x4, x5, x6, x7, g =>
  (((m_ships g) ≤ x7 → (vM_waits_115 post K55 x1 x2 x3 x4 x5 x6 g)) ∧ (¬ (m_ships g) ≤ x7 → ((¬ ((x4 >>> (x7 &&& 31)) &&& (1 : Int32)) = (0 : Int32) → (vM_waits_109 post K55 (fun x1 x2 x3 x4 x5 x6 x7 g => vM_waits_62 post K55 k_ x1 x2 x3 x4 x5 x6 x7 g) x1 x2 x3 x4 x5 x6 x7 g)) ∧ (((x4 >>> (x7 &&& 31)) &&& (1 : Int32)) = (0 : Int32) → ((x6 = (-1000000 : Int32) → (vM_waits_105 post K55 (fun x1 x2 x3 x4 x5 x6 x7 g => vM_waits_62 post K55 k_ x1 x2 x3 x4 x5 x6 x7 g) x1 x2 x3 x4 x5 x7 g)) ∧ (¬ x6 = (-1000000 : Int32) → (vp_in x7 20 ∧ (vp_in x6 20 ∧ ((((m_comes g) x6.toNatClampNeg) ≤ ((m_comes g) x7.toNatClampNeg) → (vM_waits_109 post K55 (fun x1 x2 x3 x4 x5 x6 x7 g => vM_waits_62 post K55 k_ x1 x2 x3 x4 x5 x6 x7 g) x1 x2 x3 x4 x5 x6 x7 g)) ∧ (¬ ((m_comes g) x6.toNatClampNeg) ≤ ((m_comes g) x7.toNatClampNeg) → (vM_waits_105 post K55 (fun x1 x2 x3 x4 x5 x6 x7 g => vM_waits_62 post K55 k_ x1 x2 x3 x4 x5 x6 x7 g) x1 x2 x3 x4 x5 x7 g)))))))))))
def vM_waits_55 (post : Int32 → GM → Prop) : Nat → Int32 → Int32 → Int32 → Int32 → Int32 → GM → Prop
  | 0, _, _, _, _, _, _ => False
  | k_ + 1, x1, x2, x3, x4, x5, g =>
  (∃ n_ : Nat, vM_waits_62 post (fun x1 x2 x3 x4 x5 g => vM_waits_55 post k_ x1 x2 x3 x4 x5 g) n_ x1 x2 x3 x4 x5 (-1000000 : Int32) (0 : Int32) g)
def vM_waits (g : GM) (a1 : Int32) (a2 : Int32) (a3 : Int32) (post : Int32 → GM → Prop) : Prop :=
  (vM_in (sm_thrown g (0 : Int32)) (a1.toInt64) (0 : Int64) (((m_ships g) - (1 : Int32)).toInt64) (fun r15 g15 => ((r15 = (0 : Int32) → post (-1000001 : Int32) g15) ∧ (¬ r15 = (0 : Int32) → (vM_in g15 (a2.toInt64) (0 : Int64) (100000 : Int64) (fun r27 g27 => ((r27 = (0 : Int32) → post (-1000001 : Int32) g27) ∧ (¬ r27 = (0 : Int32) → (vM_in g27 (a3.toInt64) (a2.toInt64) (100000 : Int64) (fun r40 g40 => ((¬ r40 = (0 : Int32) → (∃ n_ : Nat, vM_waits_55 post n_ a1 a2 a3 (0 : Int32) (0 : Int32) g40)) ∧ (r40 = (0 : Int32) → post (-1000001 : Int32) g40))))))))))))
set_option maxHeartbeats 4000000 in
set_option maxRecDepth 100000 in
theorem lM_waits_109 {Γ : jG} {l : Launch} {D : va_G} {ad : Nat → Nat} {cy : Nat → ClassId} {post : Int32 → GM → Prop} (hC : jC Γ l rM_waits D 8 RX12 cX12_waits wsX12_waits (tyM cy)) (hQ : jQi Γ D (wM ad cy) post (some .int) 0 0) {K55 : Int32 → Int32 → Int32 → Int32 → Int32 → GM → Prop} (hK55 : ∀ (x1 : Int32) (x2 : Int32) (x3 : Int32) (x4 : Int32) (x5 : Int32) (g : GM), K55 x1 x2 x3 x4 x5 g → J Γ D 8 0 0 (wM ad cy g) 55 [(0, .ref (ad 0)), (1, .int x1), (2, .int x2), (3, .int x3), (4, .int x4), (5, .int x5)] []) {K62 : Int32 → Int32 → Int32 → Int32 → Int32 → Int32 → Int32 → GM → Prop} (hK62 : ∀ (x1 : Int32) (x2 : Int32) (x3 : Int32) (x4 : Int32) (x5 : Int32) (x6 : Int32) (x7 : Int32) (g : GM), K62 x1 x2 x3 x4 x5 x6 x7 g → J Γ D 8 0 0 (wM ad cy g) 62 [(0, .ref (ad 0)), (1, .int x1), (2, .int x2), (3, .int x3), (4, .int x4), (5, .int x5), (6, .int x6), (7, .int x7)] []) : ∀ (x1 : Int32) (x2 : Int32) (x3 : Int32) (x4 : Int32) (x5 : Int32) (x6 : Int32) (x7 : Int32) (g : GM), vM_waits_109 post K55 K62 x1 x2 x3 x4 x5 x6 x7 g → J Γ D 8 0 0 (wM ad cy g) 109 [(0, .ref (ad 0)), (1, .int x1), (2, .int x2), (3, .int x3), (4, .int x4), (5, .int x5), (6, .int x6), (7, .int x7)] [] := by
  have hinX12 : ∀ w ∈ wsX120, w ∈ wsX12_waits := fun w h => List.mem_cons_of_mem _ (List.mem_append_right _ h)
  intro x1 x2 x3 x4 x5 x6 x7 g hv
  unfold vM_waits_109 at hv
  refine j_iinc (k := 7) (v := (x7 + (1 : Int32))) (lv' := [(7, .int (x7 + (1 : Int32))), (0, .ref (ad 0)), (1, .int x1), (2, .int x2), (3, .int x3), (4, .int x4), (5, .int x5), (6, .int x6)]) hC dX12_waits_109 rfl rfl (by decide) rfl ?_
  refine j_goto (tgt := 62) hC dX12_waits_112 (by decide) ?_
  exact j_lv [1, 2, 3, 4, 5, 6, 7, 0] rfl (hK62 _ _ _ _ _ _ _ _ hv)
set_option maxHeartbeats 4000000 in
set_option maxRecDepth 100000 in
theorem lM_waits_105 {Γ : jG} {l : Launch} {D : va_G} {ad : Nat → Nat} {cy : Nat → ClassId} {post : Int32 → GM → Prop} (hC : jC Γ l rM_waits D 8 RX12 cX12_waits wsX12_waits (tyM cy)) (hQ : jQi Γ D (wM ad cy) post (some .int) 0 0) {K55 : Int32 → Int32 → Int32 → Int32 → Int32 → GM → Prop} (hK55 : ∀ (x1 : Int32) (x2 : Int32) (x3 : Int32) (x4 : Int32) (x5 : Int32) (g : GM), K55 x1 x2 x3 x4 x5 g → J Γ D 8 0 0 (wM ad cy g) 55 [(0, .ref (ad 0)), (1, .int x1), (2, .int x2), (3, .int x3), (4, .int x4), (5, .int x5)] []) {K62 : Int32 → Int32 → Int32 → Int32 → Int32 → Int32 → Int32 → GM → Prop} (hK62 : ∀ (x1 : Int32) (x2 : Int32) (x3 : Int32) (x4 : Int32) (x5 : Int32) (x6 : Int32) (x7 : Int32) (g : GM), K62 x1 x2 x3 x4 x5 x6 x7 g → J Γ D 8 0 0 (wM ad cy g) 62 [(0, .ref (ad 0)), (1, .int x1), (2, .int x2), (3, .int x3), (4, .int x4), (5, .int x5), (6, .int x6), (7, .int x7)] []) : ∀ (x1 : Int32) (x2 : Int32) (x3 : Int32) (x4 : Int32) (x5 : Int32) (x7 : Int32) (g : GM), vM_waits_105 post K55 K62 x1 x2 x3 x4 x5 x7 g → J Γ D 8 0 0 (wM ad cy g) 105 [(0, .ref (ad 0)), (1, .int x1), (2, .int x2), (3, .int x3), (4, .int x4), (5, .int x5), (7, .int x7)] [] := by
  have hinX12 : ∀ w ∈ wsX120, w ∈ wsX12_waits := fun w h => List.mem_cons_of_mem _ (List.mem_append_right _ h)
  intro x1 x2 x3 x4 x5 x7 g hv
  unfold vM_waits_105 at hv
  refine j_iload hC dX12_waits_105 6 rfl ?_
  refine j_istore (lv' := [(6, .int x7), (0, .ref (ad 0)), (1, .int x1), (2, .int x2), (3, .int x3), (4, .int x4), (5, .int x5), (7, .int x7)]) hC dX12_waits_107 (by decide) rfl ?_
  exact j_lv [1, 2, 3, 4, 5, 6, 0, 7] rfl (lM_waits_109 hC hQ hK55 hK62 _ _ _ _ _ _ _ _ hv)
set_option maxHeartbeats 4000000 in
set_option maxRecDepth 100000 in
theorem lM_waits_167 {Γ : jG} {l : Launch} {D : va_G} {ad : Nat → Nat} {cy : Nat → ClassId} {post : Int32 → GM → Prop} (hC : jC Γ l rM_waits D 8 RX12 cX12_waits wsX12_waits (tyM cy)) (hQ : jQi Γ D (wM ad cy) post (some .int) 0 0) : ∀ (x1 : Int32) (x7 : Int32) (g : GM), vM_waits_167 post x1 x7 g → J Γ D 8 0 0 (wM ad cy g) 167 [(0, .ref (ad 0)), (1, .int x1), (7, .int x7)] [] := by
  have hinX12 : ∀ w ∈ wsX120, w ∈ wsX12_waits := fun w h => List.mem_cons_of_mem _ (List.mem_append_right _ h)
  intro x1 x7 g hv
  unfold vM_waits_167 at hv
  refine j_iload hC dX12_waits_167 2 rfl ?_
  refine j_aload_n (i := 0) hC dX12_waits_169 rfl 0 rfl ?_
  refine j_get (C := RX12) (T := TX12) (N := 22) (v := .ref (ad 14)) hC hinX12 0 (wM_c0 ad cy _) rfl 18 (by decide) (mw 6 rfl) rfl rfl dX12_waits_170 ?_
  refine j_iload_n (i := 1) hC dX12_waits_173 rfl 1 rfl ?_
  refine j_iald (v := ((m_comes g) x1.toNatClampNeg)) hC 14 0 (wM_c14 ad cy _) rfl hv.1 rfl dX12_waits_174 ?_
  have hv := hv.2
  refine j_isub hC dX12_waits_175 ?_
  exact j_iret hC hQ dX12_waits_176 rfl hv
set_option maxHeartbeats 4000000 in
set_option maxRecDepth 100000 in
theorem lM_waits_159 {Γ : jG} {l : Launch} {D : va_G} {ad : Nat → Nat} {cy : Nat → ClassId} {post : Int32 → GM → Prop} (hC : jC Γ l rM_waits D 8 RX12 cX12_waits wsX12_waits (tyM cy)) (hQ : jQi Γ D (wM ad cy) post (some .int) 0 0) {K55 : Int32 → Int32 → Int32 → Int32 → Int32 → GM → Prop} (hK55 : ∀ (x1 : Int32) (x2 : Int32) (x3 : Int32) (x4 : Int32) (x5 : Int32) (g : GM), K55 x1 x2 x3 x4 x5 g → J Γ D 8 0 0 (wM ad cy g) 55 [(0, .ref (ad 0)), (1, .int x1), (2, .int x2), (3, .int x3), (4, .int x4), (5, .int x5)] []) : ∀ (x1 : Int32) (x2 : Int32) (x3 : Int32) (x4 : Int32) (x6 : Int32) (t0 : Int32) (g : GM), vM_waits_159 post K55 x1 x2 x3 x4 x6 t0 g → J Γ D 8 0 0 (wM ad cy g) 159 [(0, .ref (ad 0)), (1, .int x1), (2, .int x2), (3, .int x3), (4, .int x4), (6, .int x6)] [.int t0] := by
  have hinX12 : ∀ w ∈ wsX120, w ∈ wsX12_waits := fun w h => List.mem_cons_of_mem _ (List.mem_append_right _ h)
  intro x1 x2 x3 x4 x6 t0 g hv
  unfold vM_waits_159 at hv
  refine j_istore (lv' := [(7, .int t0), (0, .ref (ad 0)), (1, .int x1), (2, .int x2), (3, .int x3), (4, .int x4), (6, .int x6)]) hC dX12_waits_159 (by decide) rfl ?_
  refine j_iload hC dX12_waits_161 6 rfl ?_
  refine j_iload_n (i := 1) hC dX12_waits_163 rfl 2 rfl ?_
  refine j_icmp_ne (tgt := 177) hC dX12_waits_164 (by decide) (fun h_ => ?_) (fun h_ => ?_)
  · have hv := hv.1 h_
    refine j_iload hC dX12_waits_177 0 rfl ?_
    refine j_aload_n (i := 0) hC dX12_waits_179 rfl 1 rfl ?_
    refine j_get (C := RX12) (T := TX12) (N := 22) (v := .ref (ad 15)) hC hinX12 0 (wM_c0 ad cy _) rfl 19 (by decide) (mw 7 rfl) rfl rfl dX12_waits_180 ?_
    refine j_iload hC dX12_waits_183 6 rfl ?_
    refine j_iald (v := ((m_takes g) x6.toNatClampNeg)) hC 15 0 (wM_c15 ad cy _) rfl hv.1 rfl dX12_waits_185 ?_
    have hv := hv.2
    refine j_iadd hC dX12_waits_186 ?_
    refine j_istore (lv' := [(5, .int (t0 + ((m_takes g) x6.toNatClampNeg))), (7, .int t0), (0, .ref (ad 0)), (1, .int x1), (2, .int x2), (3, .int x3), (4, .int x4), (6, .int x6)]) hC dX12_waits_187 (by decide) rfl ?_
    refine j_iload hC dX12_waits_189 6 rfl ?_
    refine j_iconst (v := 1) hC dX12_waits_191 (by decide) ?_
    refine j_iload hC dX12_waits_192 7 rfl ?_
    refine j_ishl hC dX12_waits_194 ?_
    refine j_ior hC dX12_waits_195 ?_
    refine j_istore (lv' := [(4, .int (x4 ||| ((1 : Int32) <<< (x6 &&& 31)))), (5, .int (t0 + ((m_takes g) x6.toNatClampNeg))), (7, .int t0), (0, .ref (ad 0)), (1, .int x1), (2, .int x2), (3, .int x3), (6, .int x6)]) hC dX12_waits_196 (by decide) rfl ?_
    refine j_goto (tgt := 55) hC dX12_waits_198 (by decide) ?_
    exact j_lv [3, 4, 5, 6, 0, 1] rfl (hK55 _ _ _ _ _ _ hv)
  · have hv := hv.2 h_
    exact j_lv [1, 2, 0] rfl (lM_waits_167 hC hQ _ _ _ hv)
set_option maxHeartbeats 4000000 in
set_option maxRecDepth 100000 in
theorem lM_waits_157 {Γ : jG} {l : Launch} {D : va_G} {ad : Nat → Nat} {cy : Nat → ClassId} {post : Int32 → GM → Prop} (hC : jC Γ l rM_waits D 8 RX12 cX12_waits wsX12_waits (tyM cy)) (hQ : jQi Γ D (wM ad cy) post (some .int) 0 0) {K55 : Int32 → Int32 → Int32 → Int32 → Int32 → GM → Prop} (hK55 : ∀ (x1 : Int32) (x2 : Int32) (x3 : Int32) (x4 : Int32) (x5 : Int32) (g : GM), K55 x1 x2 x3 x4 x5 g → J Γ D 8 0 0 (wM ad cy g) 55 [(0, .ref (ad 0)), (1, .int x1), (2, .int x2), (3, .int x3), (4, .int x4), (5, .int x5)] []) : ∀ (x1 : Int32) (x2 : Int32) (x3 : Int32) (x4 : Int32) (x6 : Int32) (x7 : Int32) (g : GM), vM_waits_157 post K55 x1 x2 x3 x4 x6 x7 g → J Γ D 8 0 0 (wM ad cy g) 157 [(0, .ref (ad 0)), (1, .int x1), (2, .int x2), (3, .int x3), (4, .int x4), (6, .int x6), (7, .int x7)] [] := by
  have hinX12 : ∀ w ∈ wsX120, w ∈ wsX12_waits := fun w h => List.mem_cons_of_mem _ (List.mem_append_right _ h)
  intro x1 x2 x3 x4 x6 x7 g hv
  unfold vM_waits_157 at hv
  refine j_iload hC dX12_waits_157 6 rfl ?_
  exact j_lv [0, 1, 2, 3, 4, 5] rfl (lM_waits_159 hC hQ hK55 _ _ _ _ _ _ _ hv)
set_option maxHeartbeats 4000000 in
set_option maxRecDepth 100000 in
theorem lM_waits_139 {Γ : jG} {l : Launch} {D : va_G} {ad : Nat → Nat} {cy : Nat → ClassId} {post : Int32 → GM → Prop} (hC : jC Γ l rM_waits D 8 RX12 cX12_waits wsX12_waits (tyM cy)) (hQ : jQi Γ D (wM ad cy) post (some .int) 0 0) {K55 : Int32 → Int32 → Int32 → Int32 → Int32 → GM → Prop} (hK55 : ∀ (x1 : Int32) (x2 : Int32) (x3 : Int32) (x4 : Int32) (x5 : Int32) (g : GM), K55 x1 x2 x3 x4 x5 g → J Γ D 8 0 0 (wM ad cy g) 55 [(0, .ref (ad 0)), (1, .int x1), (2, .int x2), (3, .int x3), (4, .int x4), (5, .int x5)] []) : ∀ (x1 : Int32) (x2 : Int32) (x3 : Int32) (x4 : Int32) (x6 : Int32) (t0 : Int32) (g : GM), vM_waits_139 post K55 x1 x2 x3 x4 x6 t0 g → J Γ D 8 0 0 (wM ad cy g) 139 [(0, .ref (ad 0)), (1, .int x1), (2, .int x2), (3, .int x3), (4, .int x4), (6, .int x6)] [.int t0] := by
  have hinX12 : ∀ w ∈ wsX120, w ∈ wsX12_waits := fun w h => List.mem_cons_of_mem _ (List.mem_append_right _ h)
  intro x1 x2 x3 x4 x6 t0 g hv
  unfold vM_waits_139 at hv
  refine j_istore (lv' := [(7, .int t0), (0, .ref (ad 0)), (1, .int x1), (2, .int x2), (3, .int x3), (4, .int x4), (6, .int x6)]) hC dX12_waits_139 (by decide) rfl ?_
  refine j_iload hC dX12_waits_141 0 rfl ?_
  refine j_iload_n (i := 2) hC dX12_waits_143 rfl 3 rfl ?_
  refine j_icmp_lt (tgt := 157) hC dX12_waits_144 (by decide) (fun h_ => ?_) (fun h_ => ?_)
  · have hv := hv.1 h_
    exact j_lv [1, 2, 3, 4, 5, 6, 0] rfl (lM_waits_157 hC hQ hK55 _ _ _ _ _ _ _ hv)
  · have hv := hv.2 h_
    refine j_iload hC dX12_waits_147 0 rfl ?_
    refine j_iload_n (i := 3) hC dX12_waits_149 rfl 4 rfl ?_
    refine j_icmp_ge (tgt := 157) hC dX12_waits_150 (by decide) (fun h_ => ?_) (fun h_ => ?_)
    · have hv := hv.1 h_
      exact j_lv [1, 2, 3, 4, 5, 6, 0] rfl (lM_waits_157 hC hQ hK55 _ _ _ _ _ _ _ hv)
    · have hv := hv.2 h_
      refine j_iload_n (i := 3) hC dX12_waits_153 rfl 4 rfl ?_
      refine j_goto (tgt := 159) hC dX12_waits_154 (by decide) ?_
      exact j_lv [1, 2, 3, 4, 5, 6] rfl (lM_waits_159 hC hQ hK55 _ _ _ _ _ _ _ hv)
set_option maxHeartbeats 4000000 in
set_option maxRecDepth 100000 in
theorem lM_waits_115 {Γ : jG} {l : Launch} {D : va_G} {ad : Nat → Nat} {cy : Nat → ClassId} {post : Int32 → GM → Prop} (hC : jC Γ l rM_waits D 8 RX12 cX12_waits wsX12_waits (tyM cy)) (hQ : jQi Γ D (wM ad cy) post (some .int) 0 0) {K55 : Int32 → Int32 → Int32 → Int32 → Int32 → GM → Prop} (hK55 : ∀ (x1 : Int32) (x2 : Int32) (x3 : Int32) (x4 : Int32) (x5 : Int32) (g : GM), K55 x1 x2 x3 x4 x5 g → J Γ D 8 0 0 (wM ad cy g) 55 [(0, .ref (ad 0)), (1, .int x1), (2, .int x2), (3, .int x3), (4, .int x4), (5, .int x5)] []) : ∀ (x1 : Int32) (x2 : Int32) (x3 : Int32) (x4 : Int32) (x5 : Int32) (x6 : Int32) (g : GM), vM_waits_115 post K55 x1 x2 x3 x4 x5 x6 g → J Γ D 8 0 0 (wM ad cy g) 115 [(0, .ref (ad 0)), (1, .int x1), (2, .int x2), (3, .int x3), (4, .int x4), (5, .int x5), (6, .int x6)] [] := by
  have hinX12 : ∀ w ∈ wsX120, w ∈ wsX12_waits := fun w h => List.mem_cons_of_mem _ (List.mem_append_right _ h)
  intro x1 x2 x3 x4 x5 x6 g hv
  unfold vM_waits_115 at hv
  refine j_aload_n (i := 0) hC dX12_waits_115 rfl 0 rfl ?_
  refine j_get (C := RX12) (T := TX12) (N := 22) (v := .ref (ad 14)) hC hinX12 0 (wM_c0 ad cy _) rfl 18 (by decide) (mw 6 rfl) rfl rfl dX12_waits_116 ?_
  refine j_iload hC dX12_waits_119 6 rfl ?_
  refine j_iald (v := ((m_comes g) x6.toNatClampNeg)) hC 14 0 (wM_c14 ad cy _) rfl hv.1 rfl dX12_waits_121 ?_
  have hv := hv.2
  refine j_iload hC dX12_waits_122 5 rfl ?_
  refine j_icmp_le (tgt := 137) hC dX12_waits_124 (by decide) (fun h_ => ?_) (fun h_ => ?_)
  · have hv := hv.1 h_
    refine j_iload hC dX12_waits_137 5 rfl ?_
    exact j_lv [0, 1, 2, 3, 4, 6] rfl (lM_waits_139 hC hQ hK55 _ _ _ _ _ _ _ hv)
  · have hv := hv.2 h_
    refine j_aload_n (i := 0) hC dX12_waits_127 rfl 0 rfl ?_
    refine j_get (C := RX12) (T := TX12) (N := 22) (v := .ref (ad 14)) hC hinX12 0 (wM_c0 ad cy _) rfl 18 (by decide) (mw 6 rfl) rfl rfl dX12_waits_128 ?_
    refine j_iload hC dX12_waits_131 6 rfl ?_
    refine j_iald (v := ((m_comes g) x6.toNatClampNeg)) hC 14 0 (wM_c14 ad cy _) rfl hv.1 rfl dX12_waits_133 ?_
    have hv := hv.2
    refine j_goto (tgt := 139) hC dX12_waits_134 (by decide) ?_
    exact j_lv [0, 1, 2, 3, 4, 6] rfl (lM_waits_139 hC hQ hK55 _ _ _ _ _ _ _ hv)
set_option maxHeartbeats 4000000 in
set_option maxRecDepth 100000 in
theorem lM_waits_62 {Γ : jG} {l : Launch} {D : va_G} {ad : Nat → Nat} {cy : Nat → ClassId} {post : Int32 → GM → Prop} (hC : jC Γ l rM_waits D 8 RX12 cX12_waits wsX12_waits (tyM cy)) (hQ : jQi Γ D (wM ad cy) post (some .int) 0 0) {K55 : Int32 → Int32 → Int32 → Int32 → Int32 → GM → Prop} (hK55 : ∀ (x1 : Int32) (x2 : Int32) (x3 : Int32) (x4 : Int32) (x5 : Int32) (g : GM), K55 x1 x2 x3 x4 x5 g → J Γ D 8 0 0 (wM ad cy g) 55 [(0, .ref (ad 0)), (1, .int x1), (2, .int x2), (3, .int x3), (4, .int x4), (5, .int x5)] []) : ∀ (n_ : Nat) (x1 : Int32) (x2 : Int32) (x3 : Int32) (x4 : Int32) (x5 : Int32) (x6 : Int32) (x7 : Int32) (g : GM), vM_waits_62 post K55 n_ x1 x2 x3 x4 x5 x6 x7 g → J Γ D 8 0 0 (wM ad cy g) 62 [(0, .ref (ad 0)), (1, .int x1), (2, .int x2), (3, .int x3), (4, .int x4), (5, .int x5), (6, .int x6), (7, .int x7)] [] := by
  have hinX12 : ∀ w ∈ wsX120, w ∈ wsX12_waits := fun w h => List.mem_cons_of_mem _ (List.mem_append_right _ h)
  intro n_
  induction n_ with
  | zero => intro x1 x2 x3 x4 x5 x6 x7 g hv; exact False.elim hv
  | succ k_ ih =>
    intro x1 x2 x3 x4 x5 x6 x7 g hv
    unfold vM_waits_62 at hv
    refine j_iload hC dX12_waits_62 7 rfl ?_
    refine j_aload_n (i := 0) hC dX12_waits_64 rfl 0 rfl ?_
    refine j_get (C := RX12) (T := TX12) (N := 22) (v := .int (m_ships g)) hC hinX12 0 (wM_c0 ad cy _) rfl 17 (by decide) (mw 2 rfl) rfl rfl dX12_waits_65 ?_
    refine j_icmp_ge (tgt := 115) hC dX12_waits_68 (by decide) (fun h_ => ?_) (fun h_ => ?_)
    · have hv := hv.1 h_
      exact j_lv [0, 1, 2, 3, 4, 5, 6] rfl (lM_waits_115 hC hQ hK55 _ _ _ _ _ _ _ hv)
    · have hv := hv.2 h_
      refine j_iload hC dX12_waits_71 4 rfl ?_
      refine j_iload hC dX12_waits_73 7 rfl ?_
      refine j_ishr hC dX12_waits_75 ?_
      refine j_iconst (v := 1) hC dX12_waits_76 (by decide) ?_
      refine j_iand hC dX12_waits_77 ?_
      refine j_if_ne (tgt := 109) hC dX12_waits_78 (by decide) (fun h_ => ?_) (fun h_ => ?_)
      · have hv := hv.1 h_
        exact j_lv [0, 1, 2, 3, 4, 5, 6, 7] rfl (lM_waits_109 hC hQ hK55 (K62 := fun x1 x2 x3 x4 x5 x6 x7 g => vM_waits_62 post K55 k_ x1 x2 x3 x4 x5 x6 x7 g) (fun _ _ _ _ _ _ _ _ h_ => ih _ _ _ _ _ _ _ _ h_) _ _ _ _ _ _ _ _ hv)
      · have hv := hv.2 h_
        refine j_iload hC dX12_waits_81 6 rfl ?_
        refine j_ldc (v := -1000000) hC dX12_waits_83 (mw 5 rfl) ?_
        refine j_icmp_eq (tgt := 105) hC dX12_waits_85 (by decide) (fun h_ => ?_) (fun h_ => ?_)
        · have hv := hv.1 h_
          exact j_lv [0, 1, 2, 3, 4, 5, 7] rfl (lM_waits_105 hC hQ hK55 (K62 := fun x1 x2 x3 x4 x5 x6 x7 g => vM_waits_62 post K55 k_ x1 x2 x3 x4 x5 x6 x7 g) (fun _ _ _ _ _ _ _ _ h_ => ih _ _ _ _ _ _ _ _ h_) _ _ _ _ _ _ _ hv)
        · have hv := hv.2 h_
          refine j_aload_n (i := 0) hC dX12_waits_88 rfl 0 rfl ?_
          refine j_get (C := RX12) (T := TX12) (N := 22) (v := .ref (ad 14)) hC hinX12 0 (wM_c0 ad cy _) rfl 18 (by decide) (mw 6 rfl) rfl rfl dX12_waits_89 ?_
          refine j_iload hC dX12_waits_92 7 rfl ?_
          refine j_iald (v := ((m_comes g) x7.toNatClampNeg)) hC 14 0 (wM_c14 ad cy _) rfl hv.1 rfl dX12_waits_94 ?_
          have hv := hv.2
          refine j_aload_n (i := 0) hC dX12_waits_95 rfl 0 rfl ?_
          refine j_get (C := RX12) (T := TX12) (N := 22) (v := .ref (ad 14)) hC hinX12 0 (wM_c0 ad cy _) rfl 18 (by decide) (mw 6 rfl) rfl rfl dX12_waits_96 ?_
          refine j_iload hC dX12_waits_99 6 rfl ?_
          refine j_iald (v := ((m_comes g) x6.toNatClampNeg)) hC 14 0 (wM_c14 ad cy _) rfl hv.1 rfl dX12_waits_101 ?_
          have hv := hv.2
          refine j_icmp_ge (tgt := 109) hC dX12_waits_102 (by decide) (fun h_ => ?_) (fun h_ => ?_)
          · have hv := hv.1 h_
            exact j_lv [0, 1, 2, 3, 4, 5, 6, 7] rfl (lM_waits_109 hC hQ hK55 (K62 := fun x1 x2 x3 x4 x5 x6 x7 g => vM_waits_62 post K55 k_ x1 x2 x3 x4 x5 x6 x7 g) (fun _ _ _ _ _ _ _ _ h_ => ih _ _ _ _ _ _ _ _ h_) _ _ _ _ _ _ _ _ hv)
          · have hv := hv.2 h_
            exact j_lv [0, 1, 2, 3, 4, 5, 7] rfl (lM_waits_105 hC hQ hK55 (K62 := fun x1 x2 x3 x4 x5 x6 x7 g => vM_waits_62 post K55 k_ x1 x2 x3 x4 x5 x6 x7 g) (fun _ _ _ _ _ _ _ _ h_ => ih _ _ _ _ _ _ _ _ h_) _ _ _ _ _ _ _ hv)
set_option maxHeartbeats 4000000 in
set_option maxRecDepth 100000 in
theorem lM_waits_55 {Γ : jG} {l : Launch} {D : va_G} {ad : Nat → Nat} {cy : Nat → ClassId} {post : Int32 → GM → Prop} (hC : jC Γ l rM_waits D 8 RX12 cX12_waits wsX12_waits (tyM cy)) (hQ : jQi Γ D (wM ad cy) post (some .int) 0 0) : ∀ (n_ : Nat) (x1 : Int32) (x2 : Int32) (x3 : Int32) (x4 : Int32) (x5 : Int32) (g : GM), vM_waits_55 post n_ x1 x2 x3 x4 x5 g → J Γ D 8 0 0 (wM ad cy g) 55 [(0, .ref (ad 0)), (1, .int x1), (2, .int x2), (3, .int x3), (4, .int x4), (5, .int x5)] [] := by
  have hinX12 : ∀ w ∈ wsX120, w ∈ wsX12_waits := fun w h => List.mem_cons_of_mem _ (List.mem_append_right _ h)
  intro n_
  induction n_ with
  | zero => intro x1 x2 x3 x4 x5 g hv; exact False.elim hv
  | succ k_ ih =>
    intro x1 x2 x3 x4 x5 g hv
    unfold vM_waits_55 at hv
    refine j_ldc (v := -1000000) hC dX12_waits_55 (mw 5 rfl) ?_
    refine j_istore (lv' := [(6, .int (-1000000 : Int32)), (0, .ref (ad 0)), (1, .int x1), (2, .int x2), (3, .int x3), (4, .int x4), (5, .int x5)]) hC dX12_waits_57 (by decide) rfl ?_
    refine j_iconst (v := 0) hC dX12_waits_59 (by decide) ?_
    refine j_istore (lv' := [(7, .int (0 : Int32)), (6, .int (-1000000 : Int32)), (0, .ref (ad 0)), (1, .int x1), (2, .int x2), (3, .int x3), (4, .int x4), (5, .int x5)]) hC dX12_waits_60 (by decide) rfl ?_
    obtain ⟨n_, hv⟩ := hv
    exact j_lv [2, 3, 4, 5, 6, 7, 1, 0] rfl (lM_waits_62 hC hQ (K55 := fun x1 x2 x3 x4 x5 g => vM_waits_55 post k_ x1 x2 x3 x4 x5 g) (fun _ _ _ _ _ _ h_ => ih _ _ _ _ _ _ h_) n_ _ _ _ _ _ _ _ _ hv)
set_option maxHeartbeats 4000000 in
set_option maxRecDepth 100000 in
theorem cM_waits {l : Launch} {D : va_G} {ad : Nat → Nat} {cy : Nat → ClassId} {g : GM} {a1 : Int32} {a2 : Int32} {a3 : Int32} {post : Int32 → GM → Prop} (hv : vM_waits g a1 a2 a3 post) : jMi l yX12_waits wsX12_waits rM_waits D (tyM cy) [.ref (ad 0), .int a1, .int a2, .int a3] (wM ad cy g) (wM ad cy) post 0 0 := by
  refine j_meti (cc := cX12_waits) (nL := 8) (rt := (some .int)) (by decide) (Nat.le_of_ble_eq_true rfl) ?_
  intro Γ hC hQ _
  have hC : jC Γ l rM_waits D 8 RX12 cX12_waits wsX12_waits (tyM cy) := hC
  have hinX12 : ∀ w ∈ wsX120, w ∈ wsX12_waits := fun w h => List.mem_cons_of_mem _ (List.mem_append_right _ h)
  refine j_lv (lv' := [(0, .ref (ad 0)), (1, .int a1), (2, .int a2), (3, .int a3)]) [0, 1, 2, 3] rfl ?_
  unfold vM_waits at hv
  refine j_aload_n (i := 0) hC dX12_waits_0 rfl 0 rfl ?_
  refine j_iconst (v := 0) hC dX12_waits_1 (by decide) ?_
  refine j_put (C := RX12) (T := TX12) (N := 22) (ty := .int) hC hinX12 tyX12 tyX12_ok nmX12 0 (wM_c0 ad cy _) rfl 0 (by decide) (mw 1 rfl) rfl rfl fdX12_0 rfl rfl (Nat.le_of_ble_eq_true rfl) (wM_p_thrown ad cy _ _) dX12_waits_2 ?_
  refine j_iload_n (i := 1) hC dX12_waits_5 rfl 1 rfl ?_
  refine j_i2l hC dX12_waits_6 ?_
  refine j_lconst (v := 0) hC dX12_waits_7 (by decide) ?_
  refine j_aload_n (i := 0) hC dX12_waits_8 rfl 0 rfl ?_
  refine j_get (C := RX12) (T := TX12) (N := 22) (v := .int (m_ships g)) hC hinX12 0 (wM_c0 ad cy _) rfl 17 (by decide) (mw 2 rfl) rfl rfl dX12_waits_9 ?_
  refine j_iconst (v := 1) hC dX12_waits_12 (by decide) ?_
  refine j_isub hC dX12_waits_13 ?_
  refine j_i2l hC dX12_waits_14 ?_
  refine j_callS_i (As := [.long (a1.toInt64), .long (0 : Int64), .long (((m_ships g) - (1 : Int32)).toInt64)]) (rest := []) hC (cM_in hv) 3 gX12_waits_X12_in rfl rfl rfl ⟨Nat.le_of_ble_eq_true rfl, Nat.le_of_ble_eq_true rfl⟩ hdM_in.2 rfl rfl (Nat.le_of_ble_eq_true rfl) ⟨Nat.zero_le _, Nat.zero_le _⟩ dX12_waits_15 (fun r15 g15 hv => ?_)
  refine j_if_eq (tgt := 46) hC dX12_waits_18 (by decide) (fun h_ => ?_) (fun h_ => ?_)
  · have hv := hv.1 h_
    refine j_ldc (v := -1000001) hC dX12_waits_46 (mw 4 rfl) ?_
    exact j_iret hC hQ dX12_waits_48 rfl hv
  · have hv := hv.2 h_
    refine j_iload_n (i := 2) hC dX12_waits_21 rfl 2 rfl ?_
    refine j_i2l hC dX12_waits_22 ?_
    refine j_lconst (v := 0) hC dX12_waits_23 (by decide) ?_
    refine j_ldc2 (v := 100000) hC dX12_waits_24 (mw 3 rfl) ?_
    refine j_callS_i (As := [.long (a2.toInt64), .long (0 : Int64), .long (100000 : Int64)]) (rest := []) hC (cM_in hv) 3 gX12_waits_X12_in rfl rfl rfl ⟨Nat.le_of_ble_eq_true rfl, Nat.le_of_ble_eq_true rfl⟩ hdM_in.2 rfl rfl (Nat.le_of_ble_eq_true rfl) ⟨Nat.zero_le _, Nat.zero_le _⟩ dX12_waits_27 (fun r27 g27 hv => ?_)
    refine j_if_eq (tgt := 46) hC dX12_waits_30 (by decide) (fun h_ => ?_) (fun h_ => ?_)
    · have hv := hv.1 h_
      refine j_ldc (v := -1000001) hC dX12_waits_46 (mw 4 rfl) ?_
      exact j_iret hC hQ dX12_waits_48 rfl hv
    · have hv := hv.2 h_
      refine j_iload_n (i := 3) hC dX12_waits_33 rfl 3 rfl ?_
      refine j_i2l hC dX12_waits_34 ?_
      refine j_iload_n (i := 2) hC dX12_waits_35 rfl 2 rfl ?_
      refine j_i2l hC dX12_waits_36 ?_
      refine j_ldc2 (v := 100000) hC dX12_waits_37 (mw 3 rfl) ?_
      refine j_callS_i (As := [.long (a3.toInt64), .long (a2.toInt64), .long (100000 : Int64)]) (rest := []) hC (cM_in hv) 3 gX12_waits_X12_in rfl rfl rfl ⟨Nat.le_of_ble_eq_true rfl, Nat.le_of_ble_eq_true rfl⟩ hdM_in.2 rfl rfl (Nat.le_of_ble_eq_true rfl) ⟨Nat.zero_le _, Nat.zero_le _⟩ dX12_waits_40 (fun r40 g40 hv => ?_)
      refine j_if_ne (tgt := 49) hC dX12_waits_43 (by decide) (fun h_ => ?_) (fun h_ => ?_)
      · have hv := hv.1 h_
        refine j_iconst (v := 0) hC dX12_waits_49 (by decide) ?_
        refine j_istore (lv' := [(4, .int (0 : Int32)), (0, .ref (ad 0)), (1, .int a1), (2, .int a2), (3, .int a3)]) hC dX12_waits_50 (by decide) rfl ?_
        refine j_iconst (v := 0) hC dX12_waits_52 (by decide) ?_
        refine j_istore (lv' := [(5, .int (0 : Int32)), (4, .int (0 : Int32)), (0, .ref (ad 0)), (1, .int a1), (2, .int a2), (3, .int a3)]) hC dX12_waits_53 (by decide) rfl ?_
        obtain ⟨n_, hv⟩ := hv
        exact j_lv [2, 3, 4, 5, 1, 0] rfl (lM_waits_55 hC hQ n_ _ _ _ _ _ _ hv)
      · have hv := hv.2 h_
        refine j_ldc (v := -1000001) hC dX12_waits_46 (mw 4 rfl) ?_
        exact j_iret hC hQ dX12_waits_48 rfl hv
theorem hdM_closingsOf : yX12_closingsOf.cls = RX12 ∧ yX12_closingsOf.cls ≠ "java/lang/invoke/MethodHandle" ∧ yX12_closingsOf.cls ≠ "java/lang/invoke/VarHandle" ∧ (parseMethodDescriptor yX12_closingsOf.desc).map (fun d => d.parameters.length) = some 6 := by decide +kernel
abbrev rM_closingsOf : Room := { frames := 0, cells := 0, slots := 0, locals := 0 }
def vM_closingsOf_51 (post : Int32 → GM → Prop) (K6 : Int32 → Int32 → Int32 → Int32 → Int32 → Int32 → Int32 → Int32 → GM → Prop) (x1 : Int32) (x2 : Int32) (x3 : Int32) (x4 : Int32) (x5 : Int32) (x6 : Int32) (x8 : Int32) (t0 : Int32) (t1 : Int32) (g : GM) : Prop :=
  (K6 x1 x2 x3 x4 x5 x6 (t1 + t0) (x8 + (1 : Int32)) g)
def vM_closingsOf_6 (post : Int32 → GM → Prop) : Nat → Int32 → Int32 → Int32 → Int32 → Int32 → Int32 → Int32 → Int32 → GM → Prop
  | 0, _, _, _, _, _, _, _, _, _ => False
  | k_ + 1, x1, x2, x3, x4, x5, x6, x7, x8, g =>
  ((x3 ≤ x8 → post x7 g) ∧ (¬ x3 ≤ x8 → (vp_in ((((60 : Int32) * x1) + x2) + x8) 480 ∧ ((((((m_item g) ((((60 : Int32) * x1) + x2) + x8).toNatClampNeg).toInt64) + (((x6 * x4) / (10 : Int32)).toInt64)) ≤ (x5.toInt64) → (vM_closingsOf_51 post (fun x1 x2 x3 x4 x5 x6 x7 x8 g => vM_closingsOf_6 post k_ x1 x2 x3 x4 x5 x6 x7 x8 g) x1 x2 x3 x4 x5 x6 x8 (0 : Int32) x7 g)) ∧ (¬ ((((m_item g) ((((60 : Int32) * x1) + x2) + x8).toNatClampNeg).toInt64) + (((x6 * x4) / (10 : Int32)).toInt64)) ≤ (x5.toInt64) → (vM_closingsOf_51 post (fun x1 x2 x3 x4 x5 x6 x7 x8 g => vM_closingsOf_6 post k_ x1 x2 x3 x4 x5 x6 x7 x8 g) x1 x2 x3 x4 x5 x6 x8 (1 : Int32) x7 g))))))
def vM_closingsOf (g : GM) (a1 : Int32) (a2 : Int32) (a3 : Int32) (a4 : Int32) (a5 : Int32) (a6 : Int32) (post : Int32 → GM → Prop) : Prop :=
  (∃ n_ : Nat, vM_closingsOf_6 post n_ a1 a2 a3 a4 a5 a6 (0 : Int32) (0 : Int32) g)
set_option maxHeartbeats 4000000 in
set_option maxRecDepth 100000 in
theorem lM_closingsOf_51 {Γ : jG} {l : Launch} {D : va_G} {ad : Nat → Nat} {cy : Nat → ClassId} {post : Int32 → GM → Prop} (hC : jC Γ l rM_closingsOf D 9 RX12 cX12_closingsOf wsX12_closingsOf (tyM cy)) (hQ : jQi Γ D (wM ad cy) post (some .int) 0 0) {K6 : Int32 → Int32 → Int32 → Int32 → Int32 → Int32 → Int32 → Int32 → GM → Prop} (hK6 : ∀ (x1 : Int32) (x2 : Int32) (x3 : Int32) (x4 : Int32) (x5 : Int32) (x6 : Int32) (x7 : Int32) (x8 : Int32) (g : GM), K6 x1 x2 x3 x4 x5 x6 x7 x8 g → J Γ D 9 0 0 (wM ad cy g) 6 [(0, .ref (ad 0)), (1, .int x1), (2, .int x2), (3, .int x3), (4, .int x4), (5, .int x5), (6, .int x6), (7, .int x7), (8, .int x8)] []) : ∀ (x1 : Int32) (x2 : Int32) (x3 : Int32) (x4 : Int32) (x5 : Int32) (x6 : Int32) (x8 : Int32) (t0 : Int32) (t1 : Int32) (g : GM), vM_closingsOf_51 post K6 x1 x2 x3 x4 x5 x6 x8 t0 t1 g → J Γ D 9 0 0 (wM ad cy g) 51 [(0, .ref (ad 0)), (1, .int x1), (2, .int x2), (3, .int x3), (4, .int x4), (5, .int x5), (6, .int x6), (8, .int x8)] [.int t0, .int t1] := by
  have hinX12 : ∀ w ∈ wsX120, w ∈ wsX12_closingsOf := fun w h => List.mem_cons_of_mem _ (List.mem_append_right _ h)
  intro x1 x2 x3 x4 x5 x6 x8 t0 t1 g hv
  unfold vM_closingsOf_51 at hv
  refine j_iadd hC dX12_closingsOf_51 ?_
  refine j_istore (lv' := [(7, .int (t1 + t0)), (0, .ref (ad 0)), (1, .int x1), (2, .int x2), (3, .int x3), (4, .int x4), (5, .int x5), (6, .int x6), (8, .int x8)]) hC dX12_closingsOf_52 (by decide) rfl ?_
  refine j_iinc (k := 8) (v := (x8 + (1 : Int32))) (lv' := [(8, .int (x8 + (1 : Int32))), (7, .int (t1 + t0)), (0, .ref (ad 0)), (1, .int x1), (2, .int x2), (3, .int x3), (4, .int x4), (5, .int x5), (6, .int x6)]) hC dX12_closingsOf_54 rfl rfl (by decide) rfl ?_
  refine j_goto (tgt := 6) hC dX12_closingsOf_57 (by decide) ?_
  exact j_lv [2, 3, 4, 5, 6, 7, 8, 1, 0] rfl (hK6 _ _ _ _ _ _ _ _ _ hv)
set_option maxHeartbeats 4000000 in
set_option maxRecDepth 100000 in
theorem lM_closingsOf_6 {Γ : jG} {l : Launch} {D : va_G} {ad : Nat → Nat} {cy : Nat → ClassId} {post : Int32 → GM → Prop} (hC : jC Γ l rM_closingsOf D 9 RX12 cX12_closingsOf wsX12_closingsOf (tyM cy)) (hQ : jQi Γ D (wM ad cy) post (some .int) 0 0) : ∀ (n_ : Nat) (x1 : Int32) (x2 : Int32) (x3 : Int32) (x4 : Int32) (x5 : Int32) (x6 : Int32) (x7 : Int32) (x8 : Int32) (g : GM), vM_closingsOf_6 post n_ x1 x2 x3 x4 x5 x6 x7 x8 g → J Γ D 9 0 0 (wM ad cy g) 6 [(0, .ref (ad 0)), (1, .int x1), (2, .int x2), (3, .int x3), (4, .int x4), (5, .int x5), (6, .int x6), (7, .int x7), (8, .int x8)] [] := by
  have hinX12 : ∀ w ∈ wsX120, w ∈ wsX12_closingsOf := fun w h => List.mem_cons_of_mem _ (List.mem_append_right _ h)
  intro n_
  induction n_ with
  | zero => intro x1 x2 x3 x4 x5 x6 x7 x8 g hv; exact False.elim hv
  | succ k_ ih =>
    intro x1 x2 x3 x4 x5 x6 x7 x8 g hv
    unfold vM_closingsOf_6 at hv
    refine j_iload hC dX12_closingsOf_6 8 rfl ?_
    refine j_iload_n (i := 3) hC dX12_closingsOf_8 rfl 3 rfl ?_
    refine j_icmp_ge (tgt := 60) hC dX12_closingsOf_9 (by decide) (fun h_ => ?_) (fun h_ => ?_)
    · have hv := hv.1 h_
      refine j_iload hC dX12_closingsOf_60 7 rfl ?_
      exact j_iret hC hQ dX12_closingsOf_62 rfl hv
    · have hv := hv.2 h_
      refine j_iload hC dX12_closingsOf_12 7 rfl ?_
      refine j_aload_n (i := 0) hC dX12_closingsOf_14 rfl 0 rfl ?_
      refine j_get (C := RX12) (T := TX12) (N := 22) (v := .ref (ad 5)) hC hinX12 0 (wM_c0 ad cy _) rfl 6 (by decide) (mw 1 rfl) rfl rfl dX12_closingsOf_15 ?_
      refine j_bipush (v := 60) hC dX12_closingsOf_18 (by decide) ?_
      refine j_iload_n (i := 1) hC dX12_closingsOf_20 rfl 1 rfl ?_
      refine j_imul hC dX12_closingsOf_21 ?_
      refine j_iload_n (i := 2) hC dX12_closingsOf_22 rfl 2 rfl ?_
      refine j_iadd hC dX12_closingsOf_23 ?_
      refine j_iload hC dX12_closingsOf_24 8 rfl ?_
      refine j_iadd hC dX12_closingsOf_26 ?_
      refine j_iald (v := ((m_item g) ((((60 : Int32) * x1) + x2) + x8).toNatClampNeg)) hC 5 0 (wM_c5 ad cy _) rfl hv.1 rfl dX12_closingsOf_27 ?_
      have hv := hv.2
      refine j_i2l hC dX12_closingsOf_28 ?_
      refine j_iload hC dX12_closingsOf_29 6 rfl ?_
      refine j_iload hC dX12_closingsOf_31 4 rfl ?_
      refine j_imul hC dX12_closingsOf_33 ?_
      refine j_bipush (v := 10) hC dX12_closingsOf_34 (by decide) ?_
      refine j_idiv hC dX12_closingsOf_36 (by decide) ?_
      refine j_i2l hC dX12_closingsOf_37 ?_
      refine j_ladd hC dX12_closingsOf_38 ?_
      refine j_iload hC dX12_closingsOf_39 5 rfl ?_
      refine j_i2l hC dX12_closingsOf_41 ?_
      refine j_lcmp_le (tgt := 50) hC dX12_closingsOf_42 dX12_closingsOf_43 (by decide) (fun h_ => ?_) (fun h_ => ?_)
      · have hv := hv.1 h_
        refine j_iconst (v := 0) hC dX12_closingsOf_50 (by decide) ?_
        exact j_lv [0, 1, 2, 3, 4, 5, 6, 8] rfl (lM_closingsOf_51 hC hQ (K6 := fun x1 x2 x3 x4 x5 x6 x7 x8 g => vM_closingsOf_6 post k_ x1 x2 x3 x4 x5 x6 x7 x8 g) (fun _ _ _ _ _ _ _ _ _ h_ => ih _ _ _ _ _ _ _ _ _ h_) _ _ _ _ _ _ _ _ _ _ hv)
      · have hv := hv.2 h_
        refine j_iconst (v := 1) hC dX12_closingsOf_46 (by decide) ?_
        refine j_goto (tgt := 51) hC dX12_closingsOf_47 (by decide) ?_
        exact j_lv [0, 1, 2, 3, 4, 5, 6, 8] rfl (lM_closingsOf_51 hC hQ (K6 := fun x1 x2 x3 x4 x5 x6 x7 x8 g => vM_closingsOf_6 post k_ x1 x2 x3 x4 x5 x6 x7 x8 g) (fun _ _ _ _ _ _ _ _ _ h_ => ih _ _ _ _ _ _ _ _ _ h_) _ _ _ _ _ _ _ _ _ _ hv)
set_option maxHeartbeats 4000000 in
set_option maxRecDepth 100000 in
theorem cM_closingsOf {l : Launch} {D : va_G} {ad : Nat → Nat} {cy : Nat → ClassId} {g : GM} {a1 : Int32} {a2 : Int32} {a3 : Int32} {a4 : Int32} {a5 : Int32} {a6 : Int32} {post : Int32 → GM → Prop} (hv : vM_closingsOf g a1 a2 a3 a4 a5 a6 post) : jMi l yX12_closingsOf wsX12_closingsOf rM_closingsOf D (tyM cy) [.ref (ad 0), .int a1, .int a2, .int a3, .int a4, .int a5, .int a6] (wM ad cy g) (wM ad cy) post 0 0 := by
  refine j_meti (cc := cX12_closingsOf) (nL := 9) (rt := (some .int)) (by decide) (Nat.le_of_ble_eq_true rfl) ?_
  intro Γ hC hQ _
  have hC : jC Γ l rM_closingsOf D 9 RX12 cX12_closingsOf wsX12_closingsOf (tyM cy) := hC
  have hinX12 : ∀ w ∈ wsX120, w ∈ wsX12_closingsOf := fun w h => List.mem_cons_of_mem _ (List.mem_append_right _ h)
  refine j_lv (lv' := [(0, .ref (ad 0)), (1, .int a1), (2, .int a2), (3, .int a3), (4, .int a4), (5, .int a5), (6, .int a6)]) [0, 1, 2, 3, 4, 5, 6] rfl ?_
  unfold vM_closingsOf at hv
  refine j_iconst (v := 0) hC dX12_closingsOf_0 (by decide) ?_
  refine j_istore (lv' := [(7, .int (0 : Int32)), (0, .ref (ad 0)), (1, .int a1), (2, .int a2), (3, .int a3), (4, .int a4), (5, .int a5), (6, .int a6)]) hC dX12_closingsOf_1 (by decide) rfl ?_
  refine j_iconst (v := 0) hC dX12_closingsOf_3 (by decide) ?_
  refine j_istore (lv' := [(8, .int (0 : Int32)), (7, .int (0 : Int32)), (0, .ref (ad 0)), (1, .int a1), (2, .int a2), (3, .int a3), (4, .int a4), (5, .int a5), (6, .int a6)]) hC dX12_closingsOf_4 (by decide) rfl ?_
  obtain ⟨n_, hv⟩ := hv
  exact j_lv [2, 3, 4, 5, 6, 7, 8, 1, 0] rfl (lM_closingsOf_6 hC hQ n_ _ _ _ _ _ _ _ _ _ hv)
theorem hdM_closings : yX12_closings.cls = RX12 ∧ yX12_closings.cls ≠ "java/lang/invoke/MethodHandle" ∧ yX12_closings.cls ≠ "java/lang/invoke/VarHandle" ∧ (parseMethodDescriptor yX12_closings.desc).map (fun d => d.parameters.length) = some 6 := by decide +kernel
abbrev rM_closings : Room := { frames := 2, cells := 0, slots := 0, locals := 45 }
def vM_closings_93 (post : Int32 → GM → Prop) (g : GM) : Prop :=
  (vM_found g (2 : Int32) (fun r95 g95 => post r95 g95))
def vM_closings (g : GM) (a1 : Int32) (a2 : Int32) (a3 : Int32) (a4 : Int32) (a5 : Int32) (a6 : Int32) (post : Int32 → GM → Prop) : Prop :=
  (vM_isSheet (sm_thrown g (0 : Int32)) a1 (fun r6 g6 => ((r6 = (0 : Int32) → post (-1000001 : Int32) g6) ∧ (¬ r6 = (0 : Int32) → (vM_in g6 (a3.toInt64) (1 : Int64) (60 : Int64) (fun r18 g18 => ((r18 = (0 : Int32) → post (-1000001 : Int32) g18) ∧ (¬ r18 = (0 : Int32) → (vM_in g18 (a6.toInt64) (0 : Int64) (300 : Int64) (fun r31 g31 => ((r31 = (0 : Int32) → post (-1000001 : Int32) g31) ∧ (¬ r31 = (0 : Int32) → (vM_in g31 (a4.toInt64) (0 : Int64) (100 : Int64) (fun r44 g44 => ((¬ r44 = (0 : Int32) → (vp_in a1 8 ∧ (((0 : Int32) ≤ ((m_lane g44) a1.toNatClampNeg) → ((a2 < (0 : Int32) → (vM_closings_93 post (sm_status g44 (0 : Int32)))) ∧ (¬ a2 < (0 : Int32) → (vp_in a1 8 ∧ ((((a2.toInt64) + (a3.toInt64)) ≤ (((m_many g44) a1.toNatClampNeg).toInt64) → (vM_closingsOf (sm_status g44 (0 : Int32)) a1 a2 a3 a4 a5 a6 (fun r109 g109 => post r109 g109))) ∧ (¬ ((a2.toInt64) + (a3.toInt64)) ≤ (((m_many g44) a1.toNatClampNeg).toInt64) → (vM_closings_93 post (sm_status g44 (0 : Int32))))))))) ∧ (¬ (0 : Int32) ≤ ((m_lane g44) a1.toNatClampNeg) → (vM_found (sm_status g44 (0 : Int32)) (1 : Int32) (fun r69 g69 => post r69 g69)))))) ∧ (r44 = (0 : Int32) → post (-1000001 : Int32) g44))))))))))))))))
set_option maxHeartbeats 4000000 in
set_option maxRecDepth 100000 in
theorem lM_closings_93 {Γ : jG} {l : Launch} {D : va_G} {ad : Nat → Nat} {cy : Nat → ClassId} {post : Int32 → GM → Prop} (hC : jC Γ l rM_closings D 7 RX12 cX12_closings wsX12_closings (tyM cy)) (hQ : jQi Γ D (wM ad cy) post (some .int) 0 0) : ∀ (g : GM), vM_closings_93 post g → J Γ D 7 0 0 (wM ad cy g) 93 [(0, .ref (ad 0))] [] := by
  have hinX12 : ∀ w ∈ wsX120, w ∈ wsX12_closings := fun w h => List.mem_cons_of_mem _ (List.mem_append_right _ h)
  intro g hv
  unfold vM_closings_93 at hv
  refine j_aload_n (i := 0) hC dX12_closings_93 rfl 0 rfl ?_
  refine j_iconst (v := 2) hC dX12_closings_94 (by decide) ?_
  refine j_callV_i (C := RX12) (As := [.int (2 : Int32)]) (rest := []) (b := (ad 0)) hC (cM_found hv) 1 gX12_closings_X12_found rfl rfl rfl ⟨Nat.le_of_ble_eq_true rfl, Nat.le_of_ble_eq_true rfl⟩ hdM_found rfl (wM_c0 ad cy _) rfl rfl (Nat.le_of_ble_eq_true rfl) ⟨Nat.zero_le _, Nat.zero_le _⟩ dX12_closings_95 (fun r95 g95 hv => ?_)
  exact j_iret hC hQ dX12_closings_98 rfl hv
set_option maxHeartbeats 4000000 in
set_option maxRecDepth 100000 in
theorem cM_closings {l : Launch} {D : va_G} {ad : Nat → Nat} {cy : Nat → ClassId} {g : GM} {a1 : Int32} {a2 : Int32} {a3 : Int32} {a4 : Int32} {a5 : Int32} {a6 : Int32} {post : Int32 → GM → Prop} (hv : vM_closings g a1 a2 a3 a4 a5 a6 post) : jMi l yX12_closings wsX12_closings rM_closings D (tyM cy) [.ref (ad 0), .int a1, .int a2, .int a3, .int a4, .int a5, .int a6] (wM ad cy g) (wM ad cy) post 0 0 := by
  refine j_meti (cc := cX12_closings) (nL := 7) (rt := (some .int)) (by decide) (Nat.le_of_ble_eq_true rfl) ?_
  intro Γ hC hQ _
  have hC : jC Γ l rM_closings D 7 RX12 cX12_closings wsX12_closings (tyM cy) := hC
  have hinX12 : ∀ w ∈ wsX120, w ∈ wsX12_closings := fun w h => List.mem_cons_of_mem _ (List.mem_append_right _ h)
  refine j_lv (lv' := [(0, .ref (ad 0)), (1, .int a1), (2, .int a2), (3, .int a3), (4, .int a4), (5, .int a5), (6, .int a6)]) [0, 1, 2, 3, 4, 5, 6] rfl ?_
  unfold vM_closings at hv
  refine j_aload_n (i := 0) hC dX12_closings_0 rfl 0 rfl ?_
  refine j_iconst (v := 0) hC dX12_closings_1 (by decide) ?_
  refine j_put (C := RX12) (T := TX12) (N := 22) (ty := .int) hC hinX12 tyX12 tyX12_ok nmX12 0 (wM_c0 ad cy _) rfl 0 (by decide) (mw 1 rfl) rfl rfl fdX12_0 rfl rfl (Nat.le_of_ble_eq_true rfl) (wM_p_thrown ad cy _ _) dX12_closings_2 ?_
  refine j_iload_n (i := 1) hC dX12_closings_5 rfl 1 rfl ?_
  refine j_callS_i (As := [.int a1]) (rest := []) hC (cM_isSheet hv) 1 gX12_closings_X12_isSheet rfl rfl rfl ⟨Nat.le_of_ble_eq_true rfl, Nat.le_of_ble_eq_true rfl⟩ hdM_isSheet.2 rfl rfl (Nat.le_of_ble_eq_true rfl) ⟨Nat.zero_le _, Nat.zero_le _⟩ dX12_closings_6 (fun r6 g6 hv => ?_)
  refine j_if_eq (tgt := 50) hC dX12_closings_9 (by decide) (fun h_ => ?_) (fun h_ => ?_)
  · have hv := hv.1 h_
    refine j_ldc (v := -1000001) hC dX12_closings_50 (mw 5 rfl) ?_
    exact j_iret hC hQ dX12_closings_52 rfl hv
  · have hv := hv.2 h_
    refine j_iload_n (i := 3) hC dX12_closings_12 rfl 3 rfl ?_
    refine j_i2l hC dX12_closings_13 ?_
    refine j_lconst (v := 1) hC dX12_closings_14 (by decide) ?_
    refine j_ldc2 (v := 60) hC dX12_closings_15 (mw 2 rfl) ?_
    refine j_callS_i (As := [.long (a3.toInt64), .long (1 : Int64), .long (60 : Int64)]) (rest := []) hC (cM_in hv) 3 gX12_closings_X12_in rfl rfl rfl ⟨Nat.le_of_ble_eq_true rfl, Nat.le_of_ble_eq_true rfl⟩ hdM_in.2 rfl rfl (Nat.le_of_ble_eq_true rfl) ⟨Nat.zero_le _, Nat.zero_le _⟩ dX12_closings_18 (fun r18 g18 hv => ?_)
    refine j_if_eq (tgt := 50) hC dX12_closings_21 (by decide) (fun h_ => ?_) (fun h_ => ?_)
    · have hv := hv.1 h_
      refine j_ldc (v := -1000001) hC dX12_closings_50 (mw 5 rfl) ?_
      exact j_iret hC hQ dX12_closings_52 rfl hv
    · have hv := hv.2 h_
      refine j_iload hC dX12_closings_24 6 rfl ?_
      refine j_i2l hC dX12_closings_26 ?_
      refine j_lconst (v := 0) hC dX12_closings_27 (by decide) ?_
      refine j_ldc2 (v := 300) hC dX12_closings_28 (mw 3 rfl) ?_
      refine j_callS_i (As := [.long (a6.toInt64), .long (0 : Int64), .long (300 : Int64)]) (rest := []) hC (cM_in hv) 3 gX12_closings_X12_in rfl rfl rfl ⟨Nat.le_of_ble_eq_true rfl, Nat.le_of_ble_eq_true rfl⟩ hdM_in.2 rfl rfl (Nat.le_of_ble_eq_true rfl) ⟨Nat.zero_le _, Nat.zero_le _⟩ dX12_closings_31 (fun r31 g31 hv => ?_)
      refine j_if_eq (tgt := 50) hC dX12_closings_34 (by decide) (fun h_ => ?_) (fun h_ => ?_)
      · have hv := hv.1 h_
        refine j_ldc (v := -1000001) hC dX12_closings_50 (mw 5 rfl) ?_
        exact j_iret hC hQ dX12_closings_52 rfl hv
      · have hv := hv.2 h_
        refine j_iload hC dX12_closings_37 4 rfl ?_
        refine j_i2l hC dX12_closings_39 ?_
        refine j_lconst (v := 0) hC dX12_closings_40 (by decide) ?_
        refine j_ldc2 (v := 100) hC dX12_closings_41 (mw 4 rfl) ?_
        refine j_callS_i (As := [.long (a4.toInt64), .long (0 : Int64), .long (100 : Int64)]) (rest := []) hC (cM_in hv) 3 gX12_closings_X12_in rfl rfl rfl ⟨Nat.le_of_ble_eq_true rfl, Nat.le_of_ble_eq_true rfl⟩ hdM_in.2 rfl rfl (Nat.le_of_ble_eq_true rfl) ⟨Nat.zero_le _, Nat.zero_le _⟩ dX12_closings_44 (fun r44 g44 hv => ?_)
        refine j_if_ne (tgt := 53) hC dX12_closings_47 (by decide) (fun h_ => ?_) (fun h_ => ?_)
        · have hv := hv.1 h_
          refine j_aload_n (i := 0) hC dX12_closings_53 rfl 0 rfl ?_
          refine j_iconst (v := 0) hC dX12_closings_54 (by decide) ?_
          refine j_put (C := RX12) (T := TX12) (N := 22) (ty := .int) hC hinX12 tyX12 tyX12_ok nmX12 0 (wM_c0 ad cy _) rfl 1 (by decide) (mw 6 rfl) rfl rfl fdX12_1 rfl rfl (Nat.le_of_ble_eq_true rfl) (wM_p_status ad cy _ _) dX12_closings_55 ?_
          refine j_aload_n (i := 0) hC dX12_closings_58 rfl 0 rfl ?_
          refine j_get (C := RX12) (T := TX12) (N := 22) (v := .ref (ad 3)) hC hinX12 0 (wM_c0 ad cy _) rfl 4 (by decide) (mw 7 rfl) rfl rfl dX12_closings_59 ?_
          refine j_iload_n (i := 1) hC dX12_closings_62 rfl 1 rfl ?_
          refine j_iald (v := ((m_lane g44) a1.toNatClampNeg)) hC 3 0 (wM_c3 ad cy _) rfl hv.1 rfl dX12_closings_63 ?_
          have hv := hv.2
          refine j_if_ge (tgt := 73) hC dX12_closings_64 (by decide) (fun h_ => ?_) (fun h_ => ?_)
          · have hv := hv.1 h_
            refine j_iload_n (i := 2) hC dX12_closings_73 rfl 2 rfl ?_
            refine j_if_lt (tgt := 93) hC dX12_closings_74 (by decide) (fun h_ => ?_) (fun h_ => ?_)
            · have hv := hv.1 h_
              exact j_lv [0] rfl (lM_closings_93 hC hQ _ hv)
            · have hv := hv.2 h_
              refine j_iload_n (i := 2) hC dX12_closings_77 rfl 2 rfl ?_
              refine j_i2l hC dX12_closings_78 ?_
              refine j_iload_n (i := 3) hC dX12_closings_79 rfl 3 rfl ?_
              refine j_i2l hC dX12_closings_80 ?_
              refine j_ladd hC dX12_closings_81 ?_
              refine j_aload_n (i := 0) hC dX12_closings_82 rfl 0 rfl ?_
              refine j_get (C := RX12) (T := TX12) (N := 22) (v := .ref (ad 4)) hC hinX12 0 (wM_c0 ad cy _) rfl 5 (by decide) (mw 8 rfl) rfl rfl dX12_closings_83 ?_
              refine j_iload_n (i := 1) hC dX12_closings_86 rfl 1 rfl ?_
              refine j_iald (v := ((m_many g44) a1.toNatClampNeg)) hC 4 0 (wM_c4 ad cy _) rfl hv.1 rfl dX12_closings_87 ?_
              have hv := hv.2
              refine j_i2l hC dX12_closings_88 ?_
              refine j_lcmp_le (tgt := 99) hC dX12_closings_89 dX12_closings_90 (by decide) (fun h_ => ?_) (fun h_ => ?_)
              · have hv := hv.1 h_
                refine j_aload_n (i := 0) hC dX12_closings_99 rfl 0 rfl ?_
                refine j_iload_n (i := 1) hC dX12_closings_100 rfl 1 rfl ?_
                refine j_iload_n (i := 2) hC dX12_closings_101 rfl 2 rfl ?_
                refine j_iload_n (i := 3) hC dX12_closings_102 rfl 3 rfl ?_
                refine j_iload hC dX12_closings_103 4 rfl ?_
                refine j_iload hC dX12_closings_105 5 rfl ?_
                refine j_iload hC dX12_closings_107 6 rfl ?_
                refine j_callV_i (C := RX12) (As := [.int a1, .int a2, .int a3, .int a4, .int a5, .int a6]) (rest := []) (b := (ad 0)) hC (cM_closingsOf hv) 6 gX12_closings_X12_closingsOf rfl rfl rfl ⟨Nat.le_of_ble_eq_true rfl, Nat.le_of_ble_eq_true rfl⟩ hdM_closingsOf rfl (wM_c0 ad cy _) rfl rfl (Nat.le_of_ble_eq_true rfl) ⟨Nat.zero_le _, Nat.zero_le _⟩ dX12_closings_109 (fun r109 g109 hv => ?_)
                exact j_iret hC hQ dX12_closings_112 rfl hv
              · have hv := hv.2 h_
                exact j_lv [0] rfl (lM_closings_93 hC hQ _ hv)
          · have hv := hv.2 h_
            refine j_aload_n (i := 0) hC dX12_closings_67 rfl 0 rfl ?_
            refine j_iconst (v := 1) hC dX12_closings_68 (by decide) ?_
            refine j_callV_i (C := RX12) (As := [.int (1 : Int32)]) (rest := []) (b := (ad 0)) hC (cM_found hv) 1 gX12_closings_X12_found rfl rfl rfl ⟨Nat.le_of_ble_eq_true rfl, Nat.le_of_ble_eq_true rfl⟩ hdM_found rfl (wM_c0 ad cy _) rfl rfl (Nat.le_of_ble_eq_true rfl) ⟨Nat.zero_le _, Nat.zero_le _⟩ dX12_closings_69 (fun r69 g69 hv => ?_)
            exact j_iret hC hQ dX12_closings_72 rfl hv
        · have hv := hv.2 h_
          refine j_ldc (v := -1000001) hC dX12_closings_50 (mw 5 rfl) ?_
          exact j_iret hC hQ dX12_closings_52 rfl hv
theorem hdM_tooMany : yX12_tooMany.cls = RX12 ∧ yX12_tooMany.cls ≠ "java/lang/invoke/MethodHandle" ∧ yX12_tooMany.cls ≠ "java/lang/invoke/VarHandle" ∧ (parseMethodDescriptor yX12_tooMany.desc).map (fun d => d.parameters.length) = some 6 := by decide +kernel
abbrev rM_tooMany : Room := { frames := 2, cells := 0, slots := 0, locals := 45 }
def vM_tooMany_85 (post : Int32 → GM → Prop) (g : GM) : Prop :=
  (vM_found g (2 : Int32) (fun r87 g87 => post r87 g87))
def vM_tooMany_94 (post : Int32 → GM → Prop) : Nat → Int32 → Int32 → Int32 → Int32 → Int32 → Int32 → Int32 → GM → Prop
  | 0, _, _, _, _, _, _, _, _ => False
  | k_ + 1, x1, x2, x3, x4, x5, x6, x7, g =>
  (((300 : Int32) < x7 → post (-1000000 : Int32) g) ∧ (¬ (300 : Int32) < x7 → (vM_closingsOf g x1 x2 x3 x4 x5 x7 (fun r112 g112 => ((r112 ≤ x6 → (vM_tooMany_94 post k_ x1 x2 x3 x4 x5 x6 (x7 + (1 : Int32)) g112)) ∧ (¬ r112 ≤ x6 → post x7 g112))))))
def vM_tooMany (g : GM) (a1 : Int32) (a2 : Int32) (a3 : Int32) (a4 : Int32) (a5 : Int32) (a6 : Int32) (post : Int32 → GM → Prop) : Prop :=
  (vM_isSheet (sm_thrown g (0 : Int32)) a1 (fun r6 g6 => ((r6 = (0 : Int32) → post (-1000001 : Int32) g6) ∧ (¬ r6 = (0 : Int32) → (vM_in g6 (a3.toInt64) (1 : Int64) (60 : Int64) (fun r18 g18 => ((r18 = (0 : Int32) → post (-1000001 : Int32) g18) ∧ (¬ r18 = (0 : Int32) → (vM_in g18 (a4.toInt64) (0 : Int64) (100 : Int64) (fun r31 g31 => ((r31 = (0 : Int32) → post (-1000001 : Int32) g31) ∧ (¬ r31 = (0 : Int32) → (((0 : Int32) ≤ a6 → (vp_in a1 8 ∧ (((0 : Int32) ≤ ((m_lane g31) a1.toNatClampNeg) → ((a2 < (0 : Int32) → (vM_tooMany_85 post (sm_status g31 (0 : Int32)))) ∧ (¬ a2 < (0 : Int32) → (vp_in a1 8 ∧ ((((a2.toInt64) + (a3.toInt64)) ≤ (((m_many g31) a1.toNatClampNeg).toInt64) → (∃ n_ : Nat, vM_tooMany_94 post n_ a1 a2 a3 a4 a5 a6 (0 : Int32) (sm_status g31 (0 : Int32)))) ∧ (¬ ((a2.toInt64) + (a3.toInt64)) ≤ (((m_many g31) a1.toNatClampNeg).toInt64) → (vM_tooMany_85 post (sm_status g31 (0 : Int32))))))))) ∧ (¬ (0 : Int32) ≤ ((m_lane g31) a1.toNatClampNeg) → (vM_found (sm_status g31 (0 : Int32)) (1 : Int32) (fun r61 g61 => post r61 g61)))))) ∧ (¬ (0 : Int32) ≤ a6 → post (-1000001 : Int32) g31))))))))))))))
set_option maxHeartbeats 4000000 in
set_option maxRecDepth 100000 in
theorem lM_tooMany_85 {Γ : jG} {l : Launch} {D : va_G} {ad : Nat → Nat} {cy : Nat → ClassId} {post : Int32 → GM → Prop} (hC : jC Γ l rM_tooMany D 8 RX12 cX12_tooMany wsX12_tooMany (tyM cy)) (hQ : jQi Γ D (wM ad cy) post (some .int) 0 0) : ∀ (g : GM), vM_tooMany_85 post g → J Γ D 8 0 0 (wM ad cy g) 85 [(0, .ref (ad 0))] [] := by
  have hinX12 : ∀ w ∈ wsX120, w ∈ wsX12_tooMany := fun w h => List.mem_cons_of_mem _ (List.mem_append_right _ h)
  intro g hv
  unfold vM_tooMany_85 at hv
  refine j_aload_n (i := 0) hC dX12_tooMany_85 rfl 0 rfl ?_
  refine j_iconst (v := 2) hC dX12_tooMany_86 (by decide) ?_
  refine j_callV_i (C := RX12) (As := [.int (2 : Int32)]) (rest := []) (b := (ad 0)) hC (cM_found hv) 1 gX12_tooMany_X12_found rfl rfl rfl ⟨Nat.le_of_ble_eq_true rfl, Nat.le_of_ble_eq_true rfl⟩ hdM_found rfl (wM_c0 ad cy _) rfl rfl (Nat.le_of_ble_eq_true rfl) ⟨Nat.zero_le _, Nat.zero_le _⟩ dX12_tooMany_87 (fun r87 g87 hv => ?_)
  exact j_iret hC hQ dX12_tooMany_90 rfl hv
set_option maxHeartbeats 4000000 in
set_option maxRecDepth 100000 in
theorem lM_tooMany_94 {Γ : jG} {l : Launch} {D : va_G} {ad : Nat → Nat} {cy : Nat → ClassId} {post : Int32 → GM → Prop} (hC : jC Γ l rM_tooMany D 8 RX12 cX12_tooMany wsX12_tooMany (tyM cy)) (hQ : jQi Γ D (wM ad cy) post (some .int) 0 0) : ∀ (n_ : Nat) (x1 : Int32) (x2 : Int32) (x3 : Int32) (x4 : Int32) (x5 : Int32) (x6 : Int32) (x7 : Int32) (g : GM), vM_tooMany_94 post n_ x1 x2 x3 x4 x5 x6 x7 g → J Γ D 8 0 0 (wM ad cy g) 94 [(0, .ref (ad 0)), (1, .int x1), (2, .int x2), (3, .int x3), (4, .int x4), (5, .int x5), (6, .int x6), (7, .int x7)] [] := by
  have hinX12 : ∀ w ∈ wsX120, w ∈ wsX12_tooMany := fun w h => List.mem_cons_of_mem _ (List.mem_append_right _ h)
  intro n_
  induction n_ with
  | zero => intro x1 x2 x3 x4 x5 x6 x7 g hv; exact False.elim hv
  | succ k_ ih =>
    intro x1 x2 x3 x4 x5 x6 x7 g hv
    unfold vM_tooMany_94 at hv
    refine j_iload hC dX12_tooMany_94 7 rfl ?_
    refine j_sipush (v := 300) hC dX12_tooMany_96 (by decide) ?_
    refine j_icmp_gt (tgt := 129) hC dX12_tooMany_99 (by decide) (fun h_ => ?_) (fun h_ => ?_)
    · have hv := hv.1 h_
      refine j_ldc (v := -1000000) hC dX12_tooMany_129 (mw 8 rfl) ?_
      exact j_iret hC hQ dX12_tooMany_131 rfl hv
    · have hv := hv.2 h_
      refine j_aload_n (i := 0) hC dX12_tooMany_102 rfl 0 rfl ?_
      refine j_iload_n (i := 1) hC dX12_tooMany_103 rfl 1 rfl ?_
      refine j_iload_n (i := 2) hC dX12_tooMany_104 rfl 2 rfl ?_
      refine j_iload_n (i := 3) hC dX12_tooMany_105 rfl 3 rfl ?_
      refine j_iload hC dX12_tooMany_106 4 rfl ?_
      refine j_iload hC dX12_tooMany_108 5 rfl ?_
      refine j_iload hC dX12_tooMany_110 7 rfl ?_
      refine j_callV_i (C := RX12) (As := [.int x1, .int x2, .int x3, .int x4, .int x5, .int x7]) (rest := []) (b := (ad 0)) hC (cM_closingsOf hv) 6 gX12_tooMany_X12_closingsOf rfl rfl rfl ⟨Nat.le_of_ble_eq_true rfl, Nat.le_of_ble_eq_true rfl⟩ hdM_closingsOf rfl (wM_c0 ad cy _) rfl rfl (Nat.le_of_ble_eq_true rfl) ⟨Nat.zero_le _, Nat.zero_le _⟩ dX12_tooMany_112 (fun r112 g112 hv => ?_)
      refine j_iload hC dX12_tooMany_115 6 rfl ?_
      refine j_icmp_le (tgt := 123) hC dX12_tooMany_117 (by decide) (fun h_ => ?_) (fun h_ => ?_)
      · have hv := hv.1 h_
        refine j_iinc (k := 7) (v := (x7 + (1 : Int32))) (lv' := [(7, .int (x7 + (1 : Int32))), (0, .ref (ad 0)), (1, .int x1), (2, .int x2), (3, .int x3), (4, .int x4), (5, .int x5), (6, .int x6)]) hC dX12_tooMany_123 rfl rfl (by decide) rfl ?_
        refine j_goto (tgt := 94) hC dX12_tooMany_126 (by decide) ?_
        exact j_lv [1, 2, 3, 4, 5, 6, 7, 0] rfl (ih _ _ _ _ _ _ _ _ hv)
      · have hv := hv.2 h_
        refine j_iload hC dX12_tooMany_120 7 rfl ?_
        exact j_iret hC hQ dX12_tooMany_122 rfl hv
set_option maxHeartbeats 4000000 in
set_option maxRecDepth 100000 in
theorem cM_tooMany {l : Launch} {D : va_G} {ad : Nat → Nat} {cy : Nat → ClassId} {g : GM} {a1 : Int32} {a2 : Int32} {a3 : Int32} {a4 : Int32} {a5 : Int32} {a6 : Int32} {post : Int32 → GM → Prop} (hv : vM_tooMany g a1 a2 a3 a4 a5 a6 post) : jMi l yX12_tooMany wsX12_tooMany rM_tooMany D (tyM cy) [.ref (ad 0), .int a1, .int a2, .int a3, .int a4, .int a5, .int a6] (wM ad cy g) (wM ad cy) post 0 0 := by
  refine j_meti (cc := cX12_tooMany) (nL := 8) (rt := (some .int)) (by decide) (Nat.le_of_ble_eq_true rfl) ?_
  intro Γ hC hQ _
  have hC : jC Γ l rM_tooMany D 8 RX12 cX12_tooMany wsX12_tooMany (tyM cy) := hC
  have hinX12 : ∀ w ∈ wsX120, w ∈ wsX12_tooMany := fun w h => List.mem_cons_of_mem _ (List.mem_append_right _ h)
  refine j_lv (lv' := [(0, .ref (ad 0)), (1, .int a1), (2, .int a2), (3, .int a3), (4, .int a4), (5, .int a5), (6, .int a6)]) [0, 1, 2, 3, 4, 5, 6] rfl ?_
  unfold vM_tooMany at hv
  refine j_aload_n (i := 0) hC dX12_tooMany_0 rfl 0 rfl ?_
  refine j_iconst (v := 0) hC dX12_tooMany_1 (by decide) ?_
  refine j_put (C := RX12) (T := TX12) (N := 22) (ty := .int) hC hinX12 tyX12 tyX12_ok nmX12 0 (wM_c0 ad cy _) rfl 0 (by decide) (mw 1 rfl) rfl rfl fdX12_0 rfl rfl (Nat.le_of_ble_eq_true rfl) (wM_p_thrown ad cy _ _) dX12_tooMany_2 ?_
  refine j_iload_n (i := 1) hC dX12_tooMany_5 rfl 1 rfl ?_
  refine j_callS_i (As := [.int a1]) (rest := []) hC (cM_isSheet hv) 1 gX12_tooMany_X12_isSheet rfl rfl rfl ⟨Nat.le_of_ble_eq_true rfl, Nat.le_of_ble_eq_true rfl⟩ hdM_isSheet.2 rfl rfl (Nat.le_of_ble_eq_true rfl) ⟨Nat.zero_le _, Nat.zero_le _⟩ dX12_tooMany_6 (fun r6 g6 hv => ?_)
  refine j_if_eq (tgt := 42) hC dX12_tooMany_9 (by decide) (fun h_ => ?_) (fun h_ => ?_)
  · have hv := hv.1 h_
    refine j_ldc (v := -1000001) hC dX12_tooMany_42 (mw 4 rfl) ?_
    exact j_iret hC hQ dX12_tooMany_44 rfl hv
  · have hv := hv.2 h_
    refine j_iload_n (i := 3) hC dX12_tooMany_12 rfl 3 rfl ?_
    refine j_i2l hC dX12_tooMany_13 ?_
    refine j_lconst (v := 1) hC dX12_tooMany_14 (by decide) ?_
    refine j_ldc2 (v := 60) hC dX12_tooMany_15 (mw 2 rfl) ?_
    refine j_callS_i (As := [.long (a3.toInt64), .long (1 : Int64), .long (60 : Int64)]) (rest := []) hC (cM_in hv) 3 gX12_tooMany_X12_in rfl rfl rfl ⟨Nat.le_of_ble_eq_true rfl, Nat.le_of_ble_eq_true rfl⟩ hdM_in.2 rfl rfl (Nat.le_of_ble_eq_true rfl) ⟨Nat.zero_le _, Nat.zero_le _⟩ dX12_tooMany_18 (fun r18 g18 hv => ?_)
    refine j_if_eq (tgt := 42) hC dX12_tooMany_21 (by decide) (fun h_ => ?_) (fun h_ => ?_)
    · have hv := hv.1 h_
      refine j_ldc (v := -1000001) hC dX12_tooMany_42 (mw 4 rfl) ?_
      exact j_iret hC hQ dX12_tooMany_44 rfl hv
    · have hv := hv.2 h_
      refine j_iload hC dX12_tooMany_24 4 rfl ?_
      refine j_i2l hC dX12_tooMany_26 ?_
      refine j_lconst (v := 0) hC dX12_tooMany_27 (by decide) ?_
      refine j_ldc2 (v := 100) hC dX12_tooMany_28 (mw 3 rfl) ?_
      refine j_callS_i (As := [.long (a4.toInt64), .long (0 : Int64), .long (100 : Int64)]) (rest := []) hC (cM_in hv) 3 gX12_tooMany_X12_in rfl rfl rfl ⟨Nat.le_of_ble_eq_true rfl, Nat.le_of_ble_eq_true rfl⟩ hdM_in.2 rfl rfl (Nat.le_of_ble_eq_true rfl) ⟨Nat.zero_le _, Nat.zero_le _⟩ dX12_tooMany_31 (fun r31 g31 hv => ?_)
      refine j_if_eq (tgt := 42) hC dX12_tooMany_34 (by decide) (fun h_ => ?_) (fun h_ => ?_)
      · have hv := hv.1 h_
        refine j_ldc (v := -1000001) hC dX12_tooMany_42 (mw 4 rfl) ?_
        exact j_iret hC hQ dX12_tooMany_44 rfl hv
      · have hv := hv.2 h_
        refine j_iload hC dX12_tooMany_37 6 rfl ?_
        refine j_if_ge (tgt := 45) hC dX12_tooMany_39 (by decide) (fun h_ => ?_) (fun h_ => ?_)
        · have hv := hv.1 h_
          refine j_aload_n (i := 0) hC dX12_tooMany_45 rfl 0 rfl ?_
          refine j_iconst (v := 0) hC dX12_tooMany_46 (by decide) ?_
          refine j_put (C := RX12) (T := TX12) (N := 22) (ty := .int) hC hinX12 tyX12 tyX12_ok nmX12 0 (wM_c0 ad cy _) rfl 1 (by decide) (mw 5 rfl) rfl rfl fdX12_1 rfl rfl (Nat.le_of_ble_eq_true rfl) (wM_p_status ad cy _ _) dX12_tooMany_47 ?_
          refine j_aload_n (i := 0) hC dX12_tooMany_50 rfl 0 rfl ?_
          refine j_get (C := RX12) (T := TX12) (N := 22) (v := .ref (ad 3)) hC hinX12 0 (wM_c0 ad cy _) rfl 4 (by decide) (mw 6 rfl) rfl rfl dX12_tooMany_51 ?_
          refine j_iload_n (i := 1) hC dX12_tooMany_54 rfl 1 rfl ?_
          refine j_iald (v := ((m_lane g31) a1.toNatClampNeg)) hC 3 0 (wM_c3 ad cy _) rfl hv.1 rfl dX12_tooMany_55 ?_
          have hv := hv.2
          refine j_if_ge (tgt := 65) hC dX12_tooMany_56 (by decide) (fun h_ => ?_) (fun h_ => ?_)
          · have hv := hv.1 h_
            refine j_iload_n (i := 2) hC dX12_tooMany_65 rfl 2 rfl ?_
            refine j_if_lt (tgt := 85) hC dX12_tooMany_66 (by decide) (fun h_ => ?_) (fun h_ => ?_)
            · have hv := hv.1 h_
              exact j_lv [0] rfl (lM_tooMany_85 hC hQ _ hv)
            · have hv := hv.2 h_
              refine j_iload_n (i := 2) hC dX12_tooMany_69 rfl 2 rfl ?_
              refine j_i2l hC dX12_tooMany_70 ?_
              refine j_iload_n (i := 3) hC dX12_tooMany_71 rfl 3 rfl ?_
              refine j_i2l hC dX12_tooMany_72 ?_
              refine j_ladd hC dX12_tooMany_73 ?_
              refine j_aload_n (i := 0) hC dX12_tooMany_74 rfl 0 rfl ?_
              refine j_get (C := RX12) (T := TX12) (N := 22) (v := .ref (ad 4)) hC hinX12 0 (wM_c0 ad cy _) rfl 5 (by decide) (mw 7 rfl) rfl rfl dX12_tooMany_75 ?_
              refine j_iload_n (i := 1) hC dX12_tooMany_78 rfl 1 rfl ?_
              refine j_iald (v := ((m_many g31) a1.toNatClampNeg)) hC 4 0 (wM_c4 ad cy _) rfl hv.1 rfl dX12_tooMany_79 ?_
              have hv := hv.2
              refine j_i2l hC dX12_tooMany_80 ?_
              refine j_lcmp_le (tgt := 91) hC dX12_tooMany_81 dX12_tooMany_82 (by decide) (fun h_ => ?_) (fun h_ => ?_)
              · have hv := hv.1 h_
                refine j_iconst (v := 0) hC dX12_tooMany_91 (by decide) ?_
                refine j_istore (lv' := [(7, .int (0 : Int32)), (0, .ref (ad 0)), (1, .int a1), (2, .int a2), (3, .int a3), (4, .int a4), (5, .int a5), (6, .int a6)]) hC dX12_tooMany_92 (by decide) rfl ?_
                obtain ⟨n_, hv⟩ := hv
                exact j_lv [1, 2, 3, 4, 5, 6, 7, 0] rfl (lM_tooMany_94 hC hQ n_ _ _ _ _ _ _ _ _ hv)
              · have hv := hv.2 h_
                exact j_lv [0] rfl (lM_tooMany_85 hC hQ _ hv)
          · have hv := hv.2 h_
            refine j_aload_n (i := 0) hC dX12_tooMany_59 rfl 0 rfl ?_
            refine j_iconst (v := 1) hC dX12_tooMany_60 (by decide) ?_
            refine j_callV_i (C := RX12) (As := [.int (1 : Int32)]) (rest := []) (b := (ad 0)) hC (cM_found hv) 1 gX12_tooMany_X12_found rfl rfl rfl ⟨Nat.le_of_ble_eq_true rfl, Nat.le_of_ble_eq_true rfl⟩ hdM_found rfl (wM_c0 ad cy _) rfl rfl (Nat.le_of_ble_eq_true rfl) ⟨Nat.zero_le _, Nat.zero_le _⟩ dX12_tooMany_61 (fun r61 g61 hv => ?_)
            exact j_iret hC hQ dX12_tooMany_64 rfl hv
        · have hv := hv.2 h_
          refine j_ldc (v := -1000001) hC dX12_tooMany_42 (mw 4 rfl) ?_
          exact j_iret hC hQ dX12_tooMany_44 rfl hv
theorem hdM_kindOf : yX12_kindOf.cls = RX12 ∧ yX12_kindOf.cls ≠ "java/lang/invoke/MethodHandle" ∧ yX12_kindOf.cls ≠ "java/lang/invoke/VarHandle" ∧ (parseMethodDescriptor yX12_kindOf.desc).map (fun d => d.parameters.length) = some 1 := by decide +kernel
abbrev rM_kindOf : Room := { frames := 0, cells := 0, slots := 0, locals := 0 }
def vM_kindOf (g : GM) (a1 : Int32) (post : Int32 → GM → Prop) : Prop :=
  (vp_in a1 6 ∧ ((((m_hand g) a1.toNatClampNeg) ≤ (0 : Int32) → (vp_in a1 6 ∧ ((((m_minutes g) a1.toNatClampNeg) < (200 : Int32) → post (0 : Int32) g) ∧ (¬ ((m_minutes g) a1.toNatClampNeg) < (200 : Int32) → post (3 : Int32) g)))) ∧ (¬ ((m_hand g) a1.toNatClampNeg) ≤ (0 : Int32) → (vp_in a1 6 ∧ (vp_in a1 6 ∧ ((((m_minutes g) a1.toNatClampNeg) < ((m_hand g) a1.toNatClampNeg) → post (1 : Int32) g) ∧ (¬ ((m_minutes g) a1.toNatClampNeg) < ((m_hand g) a1.toNatClampNeg) → post (2 : Int32) g)))))))
set_option maxHeartbeats 4000000 in
set_option maxRecDepth 100000 in
theorem cM_kindOf {l : Launch} {D : va_G} {ad : Nat → Nat} {cy : Nat → ClassId} {g : GM} {a1 : Int32} {post : Int32 → GM → Prop} (hv : vM_kindOf g a1 post) : jMi l yX12_kindOf wsX12_kindOf rM_kindOf D (tyM cy) [.ref (ad 0), .int a1] (wM ad cy g) (wM ad cy) post 0 0 := by
  refine j_meti (cc := cX12_kindOf) (nL := 2) (rt := (some .int)) (by decide) (Nat.le_of_ble_eq_true rfl) ?_
  intro Γ hC hQ _
  have hC : jC Γ l rM_kindOf D 2 RX12 cX12_kindOf wsX12_kindOf (tyM cy) := hC
  have hinX12 : ∀ w ∈ wsX120, w ∈ wsX12_kindOf := fun w h => List.mem_cons_of_mem _ (List.mem_append_right _ h)
  refine j_lv (lv' := [(0, .ref (ad 0)), (1, .int a1)]) [0, 1] rfl ?_
  unfold vM_kindOf at hv
  refine j_aload_n (i := 0) hC dX12_kindOf_0 rfl 0 rfl ?_
  refine j_get (C := RX12) (T := TX12) (N := 22) (v := .ref (ad 11)) hC hinX12 0 (wM_c0 ad cy _) rfl 14 (by decide) (mw 1 rfl) rfl rfl dX12_kindOf_1 ?_
  refine j_iload_n (i := 1) hC dX12_kindOf_4 rfl 1 rfl ?_
  refine j_iald (v := ((m_hand g) a1.toNatClampNeg)) hC 11 0 (wM_c11 ad cy _) rfl hv.1 rfl dX12_kindOf_5 ?_
  have hv := hv.2
  refine j_if_le (tgt := 32) hC dX12_kindOf_6 (by decide) (fun h_ => ?_) (fun h_ => ?_)
  · have hv := hv.1 h_
    refine j_aload_n (i := 0) hC dX12_kindOf_32 rfl 0 rfl ?_
    refine j_get (C := RX12) (T := TX12) (N := 22) (v := .ref (ad 10)) hC hinX12 0 (wM_c0 ad cy _) rfl 13 (by decide) (mw 2 rfl) rfl rfl dX12_kindOf_33 ?_
    refine j_iload_n (i := 1) hC dX12_kindOf_36 rfl 1 rfl ?_
    refine j_iald (v := ((m_minutes g) a1.toNatClampNeg)) hC 10 0 (wM_c10 ad cy _) rfl hv.1 rfl dX12_kindOf_37 ?_
    have hv := hv.2
    refine j_sipush (v := 200) hC dX12_kindOf_38 (by decide) ?_
    refine j_icmp_lt (tgt := 48) hC dX12_kindOf_41 (by decide) (fun h_ => ?_) (fun h_ => ?_)
    · have hv := hv.1 h_
      refine j_iconst (v := 0) hC dX12_kindOf_48 (by decide) ?_
      exact j_iret hC hQ dX12_kindOf_49 rfl hv
    · have hv := hv.2 h_
      refine j_iconst (v := 3) hC dX12_kindOf_44 (by decide) ?_
      refine j_goto (tgt := 49) hC dX12_kindOf_45 (by decide) ?_
      exact j_iret hC hQ dX12_kindOf_49 rfl hv
  · have hv := hv.2 h_
    refine j_aload_n (i := 0) hC dX12_kindOf_9 rfl 0 rfl ?_
    refine j_get (C := RX12) (T := TX12) (N := 22) (v := .ref (ad 11)) hC hinX12 0 (wM_c0 ad cy _) rfl 14 (by decide) (mw 1 rfl) rfl rfl dX12_kindOf_10 ?_
    refine j_iload_n (i := 1) hC dX12_kindOf_13 rfl 1 rfl ?_
    refine j_iald (v := ((m_hand g) a1.toNatClampNeg)) hC 11 0 (wM_c11 ad cy _) rfl hv.1 rfl dX12_kindOf_14 ?_
    have hv := hv.2
    refine j_aload_n (i := 0) hC dX12_kindOf_15 rfl 0 rfl ?_
    refine j_get (C := RX12) (T := TX12) (N := 22) (v := .ref (ad 10)) hC hinX12 0 (wM_c0 ad cy _) rfl 13 (by decide) (mw 2 rfl) rfl rfl dX12_kindOf_16 ?_
    refine j_iload_n (i := 1) hC dX12_kindOf_19 rfl 1 rfl ?_
    refine j_iald (v := ((m_minutes g) a1.toNatClampNeg)) hC 10 0 (wM_c10 ad cy _) rfl hv.1 rfl dX12_kindOf_20 ?_
    have hv := hv.2
    refine j_icmp_gt (tgt := 28) hC dX12_kindOf_21 (by decide) (fun h_ => ?_) (fun h_ => ?_)
    · have hv := hv.1 h_
      refine j_iconst (v := 1) hC dX12_kindOf_28 (by decide) ?_
      refine j_goto (tgt := 49) hC dX12_kindOf_29 (by decide) ?_
      exact j_iret hC hQ dX12_kindOf_49 rfl hv
    · have hv := hv.2 h_
      refine j_iconst (v := 2) hC dX12_kindOf_24 (by decide) ?_
      refine j_goto (tgt := 49) hC dX12_kindOf_25 (by decide) ?_
      exact j_iret hC hQ dX12_kindOf_49 rfl hv
theorem hdM_kind : yX12_kind.cls = RX12 ∧ yX12_kind.cls ≠ "java/lang/invoke/MethodHandle" ∧ yX12_kind.cls ≠ "java/lang/invoke/VarHandle" ∧ (parseMethodDescriptor yX12_kind.desc).map (fun d => d.parameters.length) = some 1 := by decide +kernel
abbrev rM_kind : Room := { frames := 2, cells := 0, slots := 0, locals := 46 }
def vM_kind (g : GM) (a1 : Int32) (post : Int32 → GM → Prop) : Prop :=
  (vM_isGate (sm_thrown g (0 : Int32)) a1 (fun r7 g7 => ((r7 = (0 : Int32) → post (-1000001 : Int32) g7) ∧ (¬ r7 = (0 : Int32) → (vM_kindOf g7 a1 (fun r15 g15 => post r15 g15))))))
set_option maxHeartbeats 4000000 in
set_option maxRecDepth 100000 in
theorem cM_kind {l : Launch} {D : va_G} {ad : Nat → Nat} {cy : Nat → ClassId} {g : GM} {a1 : Int32} {post : Int32 → GM → Prop} (hv : vM_kind g a1 post) : jMi l yX12_kind wsX12_kind rM_kind D (tyM cy) [.ref (ad 0), .int a1] (wM ad cy g) (wM ad cy) post 0 0 := by
  refine j_meti (cc := cX12_kind) (nL := 2) (rt := (some .int)) (by decide) (Nat.le_of_ble_eq_true rfl) ?_
  intro Γ hC hQ _
  have hC : jC Γ l rM_kind D 2 RX12 cX12_kind wsX12_kind (tyM cy) := hC
  have hinX12 : ∀ w ∈ wsX120, w ∈ wsX12_kind := fun w h => List.mem_cons_of_mem _ (List.mem_append_right _ h)
  refine j_lv (lv' := [(0, .ref (ad 0)), (1, .int a1)]) [0, 1] rfl ?_
  unfold vM_kind at hv
  refine j_aload_n (i := 0) hC dX12_kind_0 rfl 0 rfl ?_
  refine j_iconst (v := 0) hC dX12_kind_1 (by decide) ?_
  refine j_put (C := RX12) (T := TX12) (N := 22) (ty := .int) hC hinX12 tyX12 tyX12_ok nmX12 0 (wM_c0 ad cy _) rfl 0 (by decide) (mw 1 rfl) rfl rfl fdX12_0 rfl rfl (Nat.le_of_ble_eq_true rfl) (wM_p_thrown ad cy _ _) dX12_kind_2 ?_
  refine j_aload_n (i := 0) hC dX12_kind_5 rfl 0 rfl ?_
  refine j_iload_n (i := 1) hC dX12_kind_6 rfl 1 rfl ?_
  refine j_callV_i (C := RX12) (As := [.int a1]) (rest := []) (b := (ad 0)) hC (cM_isGate hv) 1 gX12_kind_X12_isGate rfl rfl rfl ⟨Nat.le_of_ble_eq_true rfl, Nat.le_of_ble_eq_true rfl⟩ hdM_isGate rfl (wM_c0 ad cy _) rfl rfl (Nat.le_of_ble_eq_true rfl) ⟨Nat.zero_le _, Nat.zero_le _⟩ dX12_kind_7 (fun r7 g7 hv => ?_)
  refine j_if_eq (tgt := 21) hC dX12_kind_10 (by decide) (fun h_ => ?_) (fun h_ => ?_)
  · have hv := hv.1 h_
    refine j_ldc (v := -1000001) hC dX12_kind_21 (mw 2 rfl) ?_
    exact j_iret hC hQ dX12_kind_23 rfl hv
  · have hv := hv.2 h_
    refine j_aload_n (i := 0) hC dX12_kind_13 rfl 0 rfl ?_
    refine j_iload_n (i := 1) hC dX12_kind_14 rfl 1 rfl ?_
    refine j_callV_i (C := RX12) (As := [.int a1]) (rest := []) (b := (ad 0)) hC (cM_kindOf hv) 1 gX12_kind_X12_kindOf rfl rfl rfl ⟨Nat.le_of_ble_eq_true rfl, Nat.le_of_ble_eq_true rfl⟩ hdM_kindOf rfl (wM_c0 ad cy _) rfl rfl (Nat.le_of_ble_eq_true rfl) ⟨Nat.zero_le _, Nat.zero_le _⟩ dX12_kind_15 (fun r15 g15 hv => ?_)
    refine j_goto (tgt := 23) hC dX12_kind_18 (by decide) ?_
    exact j_iret hC hQ dX12_kind_23 rfl hv
theorem hdM_as : yX12_as.cls = RX12 ∧ yX12_as.cls ≠ "java/lang/invoke/MethodHandle" ∧ yX12_as.cls ≠ "java/lang/invoke/VarHandle" ∧ (parseMethodDescriptor yX12_as.desc).map (fun d => d.parameters.length) = some 2 := by decide +kernel
abbrev rM_as : Room := { frames := 2, cells := 0, slots := 0, locals := 46 }
def vM_as_58 (post : Int32 → GM → Prop) (x1 : Int32) (g : GM) : Prop :=
  (vp_in x1 6 ∧ post ((m_minutes g) x1.toNatClampNeg) g)
def vM_as_67 (post : Int32 → GM → Prop) (g : GM) : Prop :=
  (vM_found g (3 : Int32) (fun r69 g69 => post r69 g69))
def vM_as (g : GM) (a1 : Int32) (a2 : Int32) (post : Int32 → GM → Prop) : Prop :=
  (vM_isGate (sm_thrown g (0 : Int32)) a1 (fun r7 g7 => ((r7 = (0 : Int32) → post (-1000001 : Int32) g7) ∧ (¬ r7 = (0 : Int32) → (vM_in g7 (a2.toInt64) (0 : Int64) (3 : Int64) (fun r19 g19 => ((¬ r19 = (0 : Int32) → (vM_kindOf (sm_status g19 (0 : Int32)) a1 (fun r35 g35 => ((a2 = (0 : Int32) → (vM_as_58 post a1 g35)) ∧ (¬ a2 = (0 : Int32) → ((r35 = a2 → (vM_as_58 post a1 g35)) ∧ (¬ r35 = a2 → ((¬ a2 = (1 : Int32) → (vM_as_67 post g35)) ∧ (a2 = (1 : Int32) → ((¬ r35 = (2 : Int32) → (vM_as_67 post g35)) ∧ (r35 = (2 : Int32) → (vM_as_58 post a1 g35)))))))))))) ∧ (r19 = (0 : Int32) → post (-1000001 : Int32) g19))))))))
set_option maxHeartbeats 4000000 in
set_option maxRecDepth 100000 in
theorem lM_as_58 {Γ : jG} {l : Launch} {D : va_G} {ad : Nat → Nat} {cy : Nat → ClassId} {post : Int32 → GM → Prop} (hC : jC Γ l rM_as D 4 RX12 cX12_as wsX12_as (tyM cy)) (hQ : jQi Γ D (wM ad cy) post (some .int) 0 0) : ∀ (x1 : Int32) (g : GM), vM_as_58 post x1 g → J Γ D 4 0 0 (wM ad cy g) 58 [(0, .ref (ad 0)), (1, .int x1)] [] := by
  have hinX12 : ∀ w ∈ wsX120, w ∈ wsX12_as := fun w h => List.mem_cons_of_mem _ (List.mem_append_right _ h)
  intro x1 g hv
  unfold vM_as_58 at hv
  refine j_aload_n (i := 0) hC dX12_as_58 rfl 0 rfl ?_
  refine j_get (C := RX12) (T := TX12) (N := 22) (v := .ref (ad 10)) hC hinX12 0 (wM_c0 ad cy _) rfl 13 (by decide) (mw 5 rfl) rfl rfl dX12_as_59 ?_
  refine j_iload_n (i := 1) hC dX12_as_62 rfl 1 rfl ?_
  refine j_iald (v := ((m_minutes g) x1.toNatClampNeg)) hC 10 0 (wM_c10 ad cy _) rfl hv.1 rfl dX12_as_63 ?_
  have hv := hv.2
  refine j_goto (tgt := 72) hC dX12_as_64 (by decide) ?_
  exact j_iret hC hQ dX12_as_72 rfl hv
set_option maxHeartbeats 4000000 in
set_option maxRecDepth 100000 in
theorem lM_as_67 {Γ : jG} {l : Launch} {D : va_G} {ad : Nat → Nat} {cy : Nat → ClassId} {post : Int32 → GM → Prop} (hC : jC Γ l rM_as D 4 RX12 cX12_as wsX12_as (tyM cy)) (hQ : jQi Γ D (wM ad cy) post (some .int) 0 0) : ∀ (g : GM), vM_as_67 post g → J Γ D 4 0 0 (wM ad cy g) 67 [(0, .ref (ad 0))] [] := by
  have hinX12 : ∀ w ∈ wsX120, w ∈ wsX12_as := fun w h => List.mem_cons_of_mem _ (List.mem_append_right _ h)
  intro g hv
  unfold vM_as_67 at hv
  refine j_aload_n (i := 0) hC dX12_as_67 rfl 0 rfl ?_
  refine j_iconst (v := 3) hC dX12_as_68 (by decide) ?_
  refine j_callV_i (C := RX12) (As := [.int (3 : Int32)]) (rest := []) (b := (ad 0)) hC (cM_found hv) 1 gX12_as_X12_found rfl rfl rfl ⟨Nat.le_of_ble_eq_true rfl, Nat.le_of_ble_eq_true rfl⟩ hdM_found rfl (wM_c0 ad cy _) rfl rfl (Nat.le_of_ble_eq_true rfl) ⟨Nat.zero_le _, Nat.zero_le _⟩ dX12_as_69 (fun r69 g69 hv => ?_)
  exact j_iret hC hQ dX12_as_72 rfl hv
set_option maxHeartbeats 4000000 in
set_option maxRecDepth 100000 in
theorem cM_as {l : Launch} {D : va_G} {ad : Nat → Nat} {cy : Nat → ClassId} {g : GM} {a1 : Int32} {a2 : Int32} {post : Int32 → GM → Prop} (hv : vM_as g a1 a2 post) : jMi l yX12_as wsX12_as rM_as D (tyM cy) [.ref (ad 0), .int a1, .int a2] (wM ad cy g) (wM ad cy) post 0 0 := by
  refine j_meti (cc := cX12_as) (nL := 4) (rt := (some .int)) (by decide) (Nat.le_of_ble_eq_true rfl) ?_
  intro Γ hC hQ _
  have hC : jC Γ l rM_as D 4 RX12 cX12_as wsX12_as (tyM cy) := hC
  have hinX12 : ∀ w ∈ wsX120, w ∈ wsX12_as := fun w h => List.mem_cons_of_mem _ (List.mem_append_right _ h)
  refine j_lv (lv' := [(0, .ref (ad 0)), (1, .int a1), (2, .int a2)]) [0, 1, 2] rfl ?_
  unfold vM_as at hv
  refine j_aload_n (i := 0) hC dX12_as_0 rfl 0 rfl ?_
  refine j_iconst (v := 0) hC dX12_as_1 (by decide) ?_
  refine j_put (C := RX12) (T := TX12) (N := 22) (ty := .int) hC hinX12 tyX12 tyX12_ok nmX12 0 (wM_c0 ad cy _) rfl 0 (by decide) (mw 1 rfl) rfl rfl fdX12_0 rfl rfl (Nat.le_of_ble_eq_true rfl) (wM_p_thrown ad cy _ _) dX12_as_2 ?_
  refine j_aload_n (i := 0) hC dX12_as_5 rfl 0 rfl ?_
  refine j_iload_n (i := 1) hC dX12_as_6 rfl 1 rfl ?_
  refine j_callV_i (C := RX12) (As := [.int a1]) (rest := []) (b := (ad 0)) hC (cM_isGate hv) 1 gX12_as_X12_isGate rfl rfl rfl ⟨Nat.le_of_ble_eq_true rfl, Nat.le_of_ble_eq_true rfl⟩ hdM_isGate rfl (wM_c0 ad cy _) rfl rfl (Nat.le_of_ble_eq_true rfl) ⟨Nat.zero_le _, Nat.zero_le _⟩ dX12_as_7 (fun r7 g7 hv => ?_)
  refine j_if_eq (tgt := 25) hC dX12_as_10 (by decide) (fun h_ => ?_) (fun h_ => ?_)
  · have hv := hv.1 h_
    refine j_ldc (v := -1000001) hC dX12_as_25 (mw 3 rfl) ?_
    exact j_iret hC hQ dX12_as_27 rfl hv
  · have hv := hv.2 h_
    refine j_iload_n (i := 2) hC dX12_as_13 rfl 2 rfl ?_
    refine j_i2l hC dX12_as_14 ?_
    refine j_lconst (v := 0) hC dX12_as_15 (by decide) ?_
    refine j_ldc2 (v := 3) hC dX12_as_16 (mw 2 rfl) ?_
    refine j_callS_i (As := [.long (a2.toInt64), .long (0 : Int64), .long (3 : Int64)]) (rest := []) hC (cM_in hv) 3 gX12_as_X12_in rfl rfl rfl ⟨Nat.le_of_ble_eq_true rfl, Nat.le_of_ble_eq_true rfl⟩ hdM_in.2 rfl rfl (Nat.le_of_ble_eq_true rfl) ⟨Nat.zero_le _, Nat.zero_le _⟩ dX12_as_19 (fun r19 g19 hv => ?_)
    refine j_if_ne (tgt := 28) hC dX12_as_22 (by decide) (fun h_ => ?_) (fun h_ => ?_)
    · have hv := hv.1 h_
      refine j_aload_n (i := 0) hC dX12_as_28 rfl 0 rfl ?_
      refine j_iconst (v := 0) hC dX12_as_29 (by decide) ?_
      refine j_put (C := RX12) (T := TX12) (N := 22) (ty := .int) hC hinX12 tyX12 tyX12_ok nmX12 0 (wM_c0 ad cy _) rfl 1 (by decide) (mw 4 rfl) rfl rfl fdX12_1 rfl rfl (Nat.le_of_ble_eq_true rfl) (wM_p_status ad cy _ _) dX12_as_30 ?_
      refine j_aload_n (i := 0) hC dX12_as_33 rfl 0 rfl ?_
      refine j_iload_n (i := 1) hC dX12_as_34 rfl 1 rfl ?_
      refine j_callV_i (C := RX12) (As := [.int a1]) (rest := []) (b := (ad 0)) hC (cM_kindOf hv) 1 gX12_as_X12_kindOf rfl rfl rfl ⟨Nat.le_of_ble_eq_true rfl, Nat.le_of_ble_eq_true rfl⟩ hdM_kindOf rfl (wM_c0 ad cy _) rfl rfl (Nat.le_of_ble_eq_true rfl) ⟨Nat.zero_le _, Nat.zero_le _⟩ dX12_as_35 (fun r35 g35 hv => ?_)
      refine j_istore_n (i := 3) (lv' := [(3, .int r35), (0, .ref (ad 0)), (1, .int a1), (2, .int a2)]) hC dX12_as_38 rfl (by decide) rfl ?_
      refine j_iload_n (i := 2) hC dX12_as_39 rfl 3 rfl ?_
      refine j_if_eq (tgt := 58) hC dX12_as_40 (by decide) (fun h_ => ?_) (fun h_ => ?_)
      · have hv := hv.1 h_
        exact j_lv [1, 2] rfl (lM_as_58 hC hQ _ _ hv)
      · have hv := hv.2 h_
        refine j_iload_n (i := 3) hC dX12_as_43 rfl 0 rfl ?_
        refine j_iload_n (i := 2) hC dX12_as_44 rfl 3 rfl ?_
        refine j_icmp_eq (tgt := 58) hC dX12_as_45 (by decide) (fun h_ => ?_) (fun h_ => ?_)
        · have hv := hv.1 h_
          exact j_lv [1, 2] rfl (lM_as_58 hC hQ _ _ hv)
        · have hv := hv.2 h_
          refine j_iload_n (i := 2) hC dX12_as_48 rfl 3 rfl ?_
          refine j_iconst (v := 1) hC dX12_as_49 (by decide) ?_
          refine j_icmp_ne (tgt := 67) hC dX12_as_50 (by decide) (fun h_ => ?_) (fun h_ => ?_)
          · have hv := hv.1 h_
            exact j_lv [1] rfl (lM_as_67 hC hQ _ hv)
          · have hv := hv.2 h_
            refine j_iload_n (i := 3) hC dX12_as_53 rfl 0 rfl ?_
            refine j_iconst (v := 2) hC dX12_as_54 (by decide) ?_
            refine j_icmp_ne (tgt := 67) hC dX12_as_55 (by decide) (fun h_ => ?_) (fun h_ => ?_)
            · have hv := hv.1 h_
              exact j_lv [1] rfl (lM_as_67 hC hQ _ hv)
            · have hv := hv.2 h_
              exact j_lv [1, 2] rfl (lM_as_58 hC hQ _ _ hv)
    · have hv := hv.2 h_
      refine j_ldc (v := -1000001) hC dX12_as_25 (mw 3 rfl) ?_
      exact j_iret hC hQ dX12_as_27 rfl hv
theorem hdM_began : yX12_began.cls = RX12 ∧ yX12_began.cls ≠ "java/lang/invoke/MethodHandle" ∧ yX12_began.cls ≠ "java/lang/invoke/VarHandle" ∧ (parseMethodDescriptor yX12_began.desc).map (fun d => d.parameters.length) = some 1 := by decide +kernel
abbrev rM_began : Room := { frames := 0, cells := 0, slots := 0, locals := 0 }
def vM_began (g : GM) (a1 : Int32) (post : GM → Prop) : Prop :=
  (((16 : Int32) ≤ (m_traced g) → post g) ∧ (¬ (16 : Int32) ≤ (m_traced g) → (vp_in (m_traced g) 16 ∧ post (sm_traced (sm_trace g (upd (m_trace g) (m_traced g).toNatClampNeg a1)) ((m_traced g) + (1 : Int32))))))
set_option maxHeartbeats 4000000 in
set_option maxRecDepth 100000 in
theorem cM_began {l : Launch} {D : va_G} {ad : Nat → Nat} {cy : Nat → ClassId} {g : GM} {a1 : Int32} {post : GM → Prop} (hv : vM_began g a1 post) : jMv l yX12_began wsX12_began rM_began D (tyM cy) [.ref (ad 0), .int a1] (wM ad cy g) (wM ad cy) post 0 0 := by
  refine j_metv (cc := cX12_began) (nL := 2) (rt := none) (by decide) (Nat.le_of_ble_eq_true rfl) ?_
  intro Γ hC hQ _
  have hC : jC Γ l rM_began D 2 RX12 cX12_began wsX12_began (tyM cy) := hC
  have hinX12 : ∀ w ∈ wsX120, w ∈ wsX12_began := fun w h => List.mem_cons_of_mem _ (List.mem_append_right _ h)
  refine j_lv (lv' := [(0, .ref (ad 0)), (1, .int a1)]) [0, 1] rfl ?_
  unfold vM_began at hv
  refine j_aload_n (i := 0) hC dX12_began_0 rfl 0 rfl ?_
  refine j_get (C := RX12) (T := TX12) (N := 22) (v := .int (m_traced g)) hC hinX12 0 (wM_c0 ad cy _) rfl 21 (by decide) (mw 1 rfl) rfl rfl dX12_began_1 ?_
  refine j_bipush (v := 16) hC dX12_began_4 (by decide) ?_
  refine j_icmp_ge (tgt := 29) hC dX12_began_6 (by decide) (fun h_ => ?_) (fun h_ => ?_)
  · have hv := hv.1 h_
    exact j_vret hC hQ dX12_began_29 rfl hv
  · have hv := hv.2 h_
    refine j_aload_n (i := 0) hC dX12_began_9 rfl 0 rfl ?_
    refine j_get (C := RX12) (T := TX12) (N := 22) (v := .ref (ad 16)) hC hinX12 0 (wM_c0 ad cy _) rfl 20 (by decide) (mw 2 rfl) rfl rfl dX12_began_10 ?_
    refine j_aload_n (i := 0) hC dX12_began_13 rfl 0 rfl ?_
    refine j_get (C := RX12) (T := TX12) (N := 22) (v := .int (m_traced g)) hC hinX12 0 (wM_c0 ad cy _) rfl 21 (by decide) (mw 1 rfl) rfl rfl dX12_began_14 ?_
    refine j_iload_n (i := 1) hC dX12_began_17 rfl 1 rfl ?_
    refine j_iast hC 16 0 (wM_c16 ad cy _) rfl hv.1 (wM_s_trace ad cy _ _) dX12_began_18 ?_
    have hv := hv.2
    refine j_aload_n (i := 0) hC dX12_began_19 rfl 0 rfl ?_
    refine j_dup hC dX12_began_20 rfl ?_
    refine j_get (C := RX12) (T := TX12) (N := 22) (v := .int (m_traced g)) hC hinX12 0 (wM_c0 ad cy _) rfl 21 (by decide) (mw 1 rfl) rfl rfl dX12_began_21 ?_
    refine j_iconst (v := 1) hC dX12_began_24 (by decide) ?_
    refine j_iadd hC dX12_began_25 ?_
    refine j_put (C := RX12) (T := TX12) (N := 22) (ty := .int) hC hinX12 tyX12 tyX12_ok nmX12 0 (wM_c0 ad cy _) rfl 21 (by decide) (mw 1 rfl) rfl rfl fdX12_21 rfl rfl (Nat.le_of_ble_eq_true rfl) (wM_p_traced ad cy _ _) dX12_began_26 ?_
    exact j_vret hC hQ dX12_began_29 rfl hv
theorem hdM_cost : yX12_cost.cls = RX12 ∧ yX12_cost.cls ≠ "java/lang/invoke/MethodHandle" ∧ yX12_cost.cls ≠ "java/lang/invoke/VarHandle" ∧ (parseMethodDescriptor yX12_cost.desc).map (fun d => d.parameters.length) = some 1 := by decide +kernel
abbrev rM_cost : Room := { frames := 1, cells := 0, slots := 0, locals := 21 }
def vM_cost_80 (post : Int32 → GM → Prop) (x2 : Int32) (t0 : Int32) (t1 : Int32) (g : GM) : Prop :=
  ((¬ x2 = (3 : Int32) → ((¬ x2 = (2 : Int32) → post (t1 + t0) g) ∧ (x2 = (2 : Int32) → post ((t1 + t0) / (2 : Int32)) g))) ∧ (x2 = (3 : Int32) → post ((t1 + t0) + (1000 : Int32)) g))
def vM_cost_54 (post : Int32 → GM → Prop) (x1 : Int32) (x2 : Int32) (x3 : Int32) (g : GM) : Prop :=
  (vM_began g (10 : Int32) (fun g57 => (vp_in x1 6 ∧ ((x3 = (0 : Int32) → (vM_cost_80 post x2 (0 : Int32) ((m_minutes g57) x1.toNatClampNeg) g57)) ∧ (¬ x3 = (0 : Int32) → (vp_in x1 6 ∧ (vM_cost_80 post x2 ((m_hand g57) x1.toNatClampNeg) ((m_minutes g57) x1.toNatClampNeg) g57)))))))
def vM_cost_44 (post : Int32 → GM → Prop) (x1 : Int32) (x2 : Int32) (x3 : Int32) (g : GM) : Prop :=
  ((x3 = (0 : Int32) → (vM_cost_54 post x1 x2 x3 g)) ∧ (¬ x3 = (0 : Int32) → (vM_began g (11 : Int32) (fun g51 => (vM_cost_54 post x1 x2 x3 g51)))))
def vM_cost_33 (post : Int32 → GM → Prop) (x1 : Int32) (x2 : Int32) (x3 : Int32) (g : GM) : Prop :=
  ((¬ x2 = (2 : Int32) → (vM_cost_44 post x1 x2 x3 g)) ∧ (x2 = (2 : Int32) → (vM_began g (12 : Int32) (fun g41 => (vM_cost_44 post x1 x2 x3 g41)))))
def vM_cost_21 (post : Int32 → GM → Prop) (x1 : Int32) (x2 : Int32) (t0 : Int32) (g : GM) : Prop :=
  ((¬ x2 = (3 : Int32) → (vM_cost_33 post x1 x2 t0 g)) ∧ (x2 = (3 : Int32) → (vM_began g (13 : Int32) (fun g30 => (vM_cost_33 post x1 x2 t0 g30)))))
def vM_cost_16 (post : Int32 → GM → Prop) (x1 : Int32) (x2 : Int32) (g : GM) : Prop :=
  (vM_cost_21 post x1 x2 (1 : Int32) g)
def vM_cost (g : GM) (a1 : Int32) (post : Int32 → GM → Prop) : Prop :=
  (vM_kindOf g a1 (fun r2 g2 => ((r2 = (1 : Int32) → (vM_cost_16 post a1 r2 g2)) ∧ (¬ r2 = (1 : Int32) → ((¬ r2 = (2 : Int32) → (vM_cost_21 post a1 r2 (0 : Int32) g2)) ∧ (r2 = (2 : Int32) → (vM_cost_16 post a1 r2 g2)))))))
set_option maxHeartbeats 4000000 in
set_option maxRecDepth 100000 in
theorem lM_cost_80 {Γ : jG} {l : Launch} {D : va_G} {ad : Nat → Nat} {cy : Nat → ClassId} {post : Int32 → GM → Prop} (hC : jC Γ l rM_cost D 5 RX12 cX12_cost wsX12_cost (tyM cy)) (hQ : jQi Γ D (wM ad cy) post (some .int) 0 0) : ∀ (x2 : Int32) (t0 : Int32) (t1 : Int32) (g : GM), vM_cost_80 post x2 t0 t1 g → J Γ D 5 0 0 (wM ad cy g) 80 [(2, .int x2)] [.int t0, .int t1] := by
  have hinX12 : ∀ w ∈ wsX120, w ∈ wsX12_cost := fun w h => List.mem_cons_of_mem _ (List.mem_append_right _ h)
  intro x2 t0 t1 g hv
  unfold vM_cost_80 at hv
  refine j_iadd hC dX12_cost_80 ?_
  refine j_istore (lv' := [(4, .int (t1 + t0)), (2, .int x2)]) hC dX12_cost_81 (by decide) rfl ?_
  refine j_iload_n (i := 2) hC dX12_cost_83 rfl 1 rfl ?_
  refine j_iconst (v := 3) hC dX12_cost_84 (by decide) ?_
  refine j_icmp_ne (tgt := 97) hC dX12_cost_85 (by decide) (fun h_ => ?_) (fun h_ => ?_)
  · have hv := hv.1 h_
    refine j_iload_n (i := 2) hC dX12_cost_97 rfl 1 rfl ?_
    refine j_iconst (v := 2) hC dX12_cost_98 (by decide) ?_
    refine j_icmp_ne (tgt := 109) hC dX12_cost_99 (by decide) (fun h_ => ?_) (fun h_ => ?_)
    · have hv := hv.1 h_
      refine j_iload hC dX12_cost_109 0 rfl ?_
      exact j_iret hC hQ dX12_cost_111 rfl hv
    · have hv := hv.2 h_
      refine j_iload hC dX12_cost_102 0 rfl ?_
      refine j_iconst (v := 2) hC dX12_cost_104 (by decide) ?_
      refine j_idiv hC dX12_cost_105 (by decide) ?_
      refine j_goto (tgt := 111) hC dX12_cost_106 (by decide) ?_
      exact j_iret hC hQ dX12_cost_111 rfl hv
  · have hv := hv.2 h_
    refine j_iload hC dX12_cost_88 0 rfl ?_
    refine j_sipush (v := 1000) hC dX12_cost_90 (by decide) ?_
    refine j_iadd hC dX12_cost_93 ?_
    refine j_goto (tgt := 111) hC dX12_cost_94 (by decide) ?_
    exact j_iret hC hQ dX12_cost_111 rfl hv
set_option maxHeartbeats 4000000 in
set_option maxRecDepth 100000 in
theorem lM_cost_54 {Γ : jG} {l : Launch} {D : va_G} {ad : Nat → Nat} {cy : Nat → ClassId} {post : Int32 → GM → Prop} (hC : jC Γ l rM_cost D 5 RX12 cX12_cost wsX12_cost (tyM cy)) (hQ : jQi Γ D (wM ad cy) post (some .int) 0 0) : ∀ (x1 : Int32) (x2 : Int32) (x3 : Int32) (g : GM), vM_cost_54 post x1 x2 x3 g → J Γ D 5 0 0 (wM ad cy g) 54 [(0, .ref (ad 0)), (1, .int x1), (2, .int x2), (3, .int x3)] [] := by
  have hinX12 : ∀ w ∈ wsX120, w ∈ wsX12_cost := fun w h => List.mem_cons_of_mem _ (List.mem_append_right _ h)
  intro x1 x2 x3 g hv
  unfold vM_cost_54 at hv
  refine j_aload_n (i := 0) hC dX12_cost_54 rfl 0 rfl ?_
  refine j_bipush (v := 10) hC dX12_cost_55 (by decide) ?_
  refine j_callV_v (C := RX12) (As := [.int (10 : Int32)]) (rest := []) (b := (ad 0)) hC (cM_began hv) 1 gX12_cost_X12_began rfl rfl rfl ⟨Nat.le_of_ble_eq_true rfl, Nat.le_of_ble_eq_true rfl⟩ hdM_began rfl (wM_c0 ad cy _) rfl rfl (Nat.le_of_ble_eq_true rfl) ⟨Nat.zero_le _, Nat.zero_le _⟩ dX12_cost_57 (fun g57 hv => ?_)
  refine j_aload_n (i := 0) hC dX12_cost_60 rfl 0 rfl ?_
  refine j_get (C := RX12) (T := TX12) (N := 22) (v := .ref (ad 10)) hC hinX12 0 (wM_c0 ad cy _) rfl 13 (by decide) (mw 1 rfl) rfl rfl dX12_cost_61 ?_
  refine j_iload_n (i := 1) hC dX12_cost_64 rfl 1 rfl ?_
  refine j_iald (v := ((m_minutes g57) x1.toNatClampNeg)) hC 10 0 (wM_c10 ad cy _) rfl hv.1 rfl dX12_cost_65 ?_
  have hv := hv.2
  refine j_iload_n (i := 3) hC dX12_cost_66 rfl 3 rfl ?_
  refine j_if_eq (tgt := 79) hC dX12_cost_67 (by decide) (fun h_ => ?_) (fun h_ => ?_)
  · have hv := hv.1 h_
    refine j_iconst (v := 0) hC dX12_cost_79 (by decide) ?_
    exact j_lv [2] rfl (lM_cost_80 hC hQ _ _ _ _ hv)
  · have hv := hv.2 h_
    refine j_aload_n (i := 0) hC dX12_cost_70 rfl 0 rfl ?_
    refine j_get (C := RX12) (T := TX12) (N := 22) (v := .ref (ad 11)) hC hinX12 0 (wM_c0 ad cy _) rfl 14 (by decide) (mw 2 rfl) rfl rfl dX12_cost_71 ?_
    refine j_iload_n (i := 1) hC dX12_cost_74 rfl 1 rfl ?_
    refine j_iald (v := ((m_hand g57) x1.toNatClampNeg)) hC 11 0 (wM_c11 ad cy _) rfl hv.1 rfl dX12_cost_75 ?_
    have hv := hv.2
    refine j_goto (tgt := 80) hC dX12_cost_76 (by decide) ?_
    exact j_lv [2] rfl (lM_cost_80 hC hQ _ _ _ _ hv)
set_option maxHeartbeats 4000000 in
set_option maxRecDepth 100000 in
theorem lM_cost_44 {Γ : jG} {l : Launch} {D : va_G} {ad : Nat → Nat} {cy : Nat → ClassId} {post : Int32 → GM → Prop} (hC : jC Γ l rM_cost D 5 RX12 cX12_cost wsX12_cost (tyM cy)) (hQ : jQi Γ D (wM ad cy) post (some .int) 0 0) : ∀ (x1 : Int32) (x2 : Int32) (x3 : Int32) (g : GM), vM_cost_44 post x1 x2 x3 g → J Γ D 5 0 0 (wM ad cy g) 44 [(0, .ref (ad 0)), (1, .int x1), (2, .int x2), (3, .int x3)] [] := by
  have hinX12 : ∀ w ∈ wsX120, w ∈ wsX12_cost := fun w h => List.mem_cons_of_mem _ (List.mem_append_right _ h)
  intro x1 x2 x3 g hv
  unfold vM_cost_44 at hv
  refine j_iload_n (i := 3) hC dX12_cost_44 rfl 3 rfl ?_
  refine j_if_eq (tgt := 54) hC dX12_cost_45 (by decide) (fun h_ => ?_) (fun h_ => ?_)
  · have hv := hv.1 h_
    exact j_lv [0, 1, 2, 3] rfl (lM_cost_54 hC hQ _ _ _ _ hv)
  · have hv := hv.2 h_
    refine j_aload_n (i := 0) hC dX12_cost_48 rfl 0 rfl ?_
    refine j_bipush (v := 11) hC dX12_cost_49 (by decide) ?_
    refine j_callV_v (C := RX12) (As := [.int (11 : Int32)]) (rest := []) (b := (ad 0)) hC (cM_began hv) 1 gX12_cost_X12_began rfl rfl rfl ⟨Nat.le_of_ble_eq_true rfl, Nat.le_of_ble_eq_true rfl⟩ hdM_began rfl (wM_c0 ad cy _) rfl rfl (Nat.le_of_ble_eq_true rfl) ⟨Nat.zero_le _, Nat.zero_le _⟩ dX12_cost_51 (fun g51 hv => ?_)
    exact j_lv [0, 1, 2, 3] rfl (lM_cost_54 hC hQ _ _ _ _ hv)
set_option maxHeartbeats 4000000 in
set_option maxRecDepth 100000 in
theorem lM_cost_33 {Γ : jG} {l : Launch} {D : va_G} {ad : Nat → Nat} {cy : Nat → ClassId} {post : Int32 → GM → Prop} (hC : jC Γ l rM_cost D 5 RX12 cX12_cost wsX12_cost (tyM cy)) (hQ : jQi Γ D (wM ad cy) post (some .int) 0 0) : ∀ (x1 : Int32) (x2 : Int32) (x3 : Int32) (g : GM), vM_cost_33 post x1 x2 x3 g → J Γ D 5 0 0 (wM ad cy g) 33 [(0, .ref (ad 0)), (1, .int x1), (2, .int x2), (3, .int x3)] [] := by
  have hinX12 : ∀ w ∈ wsX120, w ∈ wsX12_cost := fun w h => List.mem_cons_of_mem _ (List.mem_append_right _ h)
  intro x1 x2 x3 g hv
  unfold vM_cost_33 at hv
  refine j_iload_n (i := 2) hC dX12_cost_33 rfl 2 rfl ?_
  refine j_iconst (v := 2) hC dX12_cost_34 (by decide) ?_
  refine j_icmp_ne (tgt := 44) hC dX12_cost_35 (by decide) (fun h_ => ?_) (fun h_ => ?_)
  · have hv := hv.1 h_
    exact j_lv [0, 1, 2, 3] rfl (lM_cost_44 hC hQ _ _ _ _ hv)
  · have hv := hv.2 h_
    refine j_aload_n (i := 0) hC dX12_cost_38 rfl 0 rfl ?_
    refine j_bipush (v := 12) hC dX12_cost_39 (by decide) ?_
    refine j_callV_v (C := RX12) (As := [.int (12 : Int32)]) (rest := []) (b := (ad 0)) hC (cM_began hv) 1 gX12_cost_X12_began rfl rfl rfl ⟨Nat.le_of_ble_eq_true rfl, Nat.le_of_ble_eq_true rfl⟩ hdM_began rfl (wM_c0 ad cy _) rfl rfl (Nat.le_of_ble_eq_true rfl) ⟨Nat.zero_le _, Nat.zero_le _⟩ dX12_cost_41 (fun g41 hv => ?_)
    exact j_lv [0, 1, 2, 3] rfl (lM_cost_44 hC hQ _ _ _ _ hv)
set_option maxHeartbeats 4000000 in
set_option maxRecDepth 100000 in
theorem lM_cost_21 {Γ : jG} {l : Launch} {D : va_G} {ad : Nat → Nat} {cy : Nat → ClassId} {post : Int32 → GM → Prop} (hC : jC Γ l rM_cost D 5 RX12 cX12_cost wsX12_cost (tyM cy)) (hQ : jQi Γ D (wM ad cy) post (some .int) 0 0) : ∀ (x1 : Int32) (x2 : Int32) (t0 : Int32) (g : GM), vM_cost_21 post x1 x2 t0 g → J Γ D 5 0 0 (wM ad cy g) 21 [(0, .ref (ad 0)), (1, .int x1), (2, .int x2)] [.int t0] := by
  have hinX12 : ∀ w ∈ wsX120, w ∈ wsX12_cost := fun w h => List.mem_cons_of_mem _ (List.mem_append_right _ h)
  intro x1 x2 t0 g hv
  unfold vM_cost_21 at hv
  refine j_istore_n (i := 3) (lv' := [(3, .int t0), (0, .ref (ad 0)), (1, .int x1), (2, .int x2)]) hC dX12_cost_21 rfl (by decide) rfl ?_
  refine j_iload_n (i := 2) hC dX12_cost_22 rfl 3 rfl ?_
  refine j_iconst (v := 3) hC dX12_cost_23 (by decide) ?_
  refine j_icmp_ne (tgt := 33) hC dX12_cost_24 (by decide) (fun h_ => ?_) (fun h_ => ?_)
  · have hv := hv.1 h_
    exact j_lv [1, 2, 3, 0] rfl (lM_cost_33 hC hQ _ _ _ _ hv)
  · have hv := hv.2 h_
    refine j_aload_n (i := 0) hC dX12_cost_27 rfl 1 rfl ?_
    refine j_bipush (v := 13) hC dX12_cost_28 (by decide) ?_
    refine j_callV_v (C := RX12) (As := [.int (13 : Int32)]) (rest := []) (b := (ad 0)) hC (cM_began hv) 1 gX12_cost_X12_began rfl rfl rfl ⟨Nat.le_of_ble_eq_true rfl, Nat.le_of_ble_eq_true rfl⟩ hdM_began rfl (wM_c0 ad cy _) rfl rfl (Nat.le_of_ble_eq_true rfl) ⟨Nat.zero_le _, Nat.zero_le _⟩ dX12_cost_30 (fun g30 hv => ?_)
    exact j_lv [1, 2, 3, 0] rfl (lM_cost_33 hC hQ _ _ _ _ hv)
set_option maxHeartbeats 4000000 in
set_option maxRecDepth 100000 in
theorem lM_cost_16 {Γ : jG} {l : Launch} {D : va_G} {ad : Nat → Nat} {cy : Nat → ClassId} {post : Int32 → GM → Prop} (hC : jC Γ l rM_cost D 5 RX12 cX12_cost wsX12_cost (tyM cy)) (hQ : jQi Γ D (wM ad cy) post (some .int) 0 0) : ∀ (x1 : Int32) (x2 : Int32) (g : GM), vM_cost_16 post x1 x2 g → J Γ D 5 0 0 (wM ad cy g) 16 [(0, .ref (ad 0)), (1, .int x1), (2, .int x2)] [] := by
  have hinX12 : ∀ w ∈ wsX120, w ∈ wsX12_cost := fun w h => List.mem_cons_of_mem _ (List.mem_append_right _ h)
  intro x1 x2 g hv
  unfold vM_cost_16 at hv
  refine j_iconst (v := 1) hC dX12_cost_16 (by decide) ?_
  refine j_goto (tgt := 21) hC dX12_cost_17 (by decide) ?_
  exact j_lv [0, 1, 2] rfl (lM_cost_21 hC hQ _ _ _ _ hv)
set_option maxHeartbeats 4000000 in
set_option maxRecDepth 100000 in
theorem cM_cost {l : Launch} {D : va_G} {ad : Nat → Nat} {cy : Nat → ClassId} {g : GM} {a1 : Int32} {post : Int32 → GM → Prop} (hv : vM_cost g a1 post) : jMi l yX12_cost wsX12_cost rM_cost D (tyM cy) [.ref (ad 0), .int a1] (wM ad cy g) (wM ad cy) post 0 0 := by
  refine j_meti (cc := cX12_cost) (nL := 5) (rt := (some .int)) (by decide) (Nat.le_of_ble_eq_true rfl) ?_
  intro Γ hC hQ _
  have hC : jC Γ l rM_cost D 5 RX12 cX12_cost wsX12_cost (tyM cy) := hC
  have hinX12 : ∀ w ∈ wsX120, w ∈ wsX12_cost := fun w h => List.mem_cons_of_mem _ (List.mem_append_right _ h)
  refine j_lv (lv' := [(0, .ref (ad 0)), (1, .int a1)]) [0, 1] rfl ?_
  unfold vM_cost at hv
  refine j_aload_n (i := 0) hC dX12_cost_0 rfl 0 rfl ?_
  refine j_iload_n (i := 1) hC dX12_cost_1 rfl 1 rfl ?_
  refine j_callV_i (C := RX12) (As := [.int a1]) (rest := []) (b := (ad 0)) hC (cM_kindOf hv) 1 gX12_cost_X12_kindOf rfl rfl rfl ⟨Nat.le_of_ble_eq_true rfl, Nat.le_of_ble_eq_true rfl⟩ hdM_kindOf rfl (wM_c0 ad cy _) rfl rfl (Nat.le_of_ble_eq_true rfl) ⟨Nat.zero_le _, Nat.zero_le _⟩ dX12_cost_2 (fun r2 g2 hv => ?_)
  refine j_istore_n (i := 2) (lv' := [(2, .int r2), (0, .ref (ad 0)), (1, .int a1)]) hC dX12_cost_5 rfl (by decide) rfl ?_
  refine j_iload_n (i := 2) hC dX12_cost_6 rfl 0 rfl ?_
  refine j_iconst (v := 1) hC dX12_cost_7 (by decide) ?_
  refine j_icmp_eq (tgt := 16) hC dX12_cost_8 (by decide) (fun h_ => ?_) (fun h_ => ?_)
  · have hv := hv.1 h_
    exact j_lv [1, 2, 0] rfl (lM_cost_16 hC hQ _ _ _ hv)
  · have hv := hv.2 h_
    refine j_iload_n (i := 2) hC dX12_cost_11 rfl 0 rfl ?_
    refine j_iconst (v := 2) hC dX12_cost_12 (by decide) ?_
    refine j_icmp_ne (tgt := 20) hC dX12_cost_13 (by decide) (fun h_ => ?_) (fun h_ => ?_)
    · have hv := hv.1 h_
      refine j_iconst (v := 0) hC dX12_cost_20 (by decide) ?_
      exact j_lv [1, 2, 0] rfl (lM_cost_21 hC hQ _ _ _ _ hv)
    · have hv := hv.2 h_
      exact j_lv [1, 2, 0] rfl (lM_cost_16 hC hQ _ _ _ hv)
theorem hdM_marked : yX12_marked.cls = RX12 ∧ yX12_marked.cls ≠ "java/lang/invoke/MethodHandle" ∧ yX12_marked.cls ≠ "java/lang/invoke/VarHandle" ∧ (parseMethodDescriptor yX12_marked.desc).map (fun d => d.parameters.length) = some 1 := by decide +kernel
abbrev rM_marked : Room := { frames := 2, cells := 0, slots := 0, locals := 45 }
def vM_marked_63 (post : Int32 → GM → Prop) (x1 : Int32) (x2 : Int32) (x3 : Int32) (t0 : Int32) (g : GM) : Prop :=
  ((¬ x2 = (3 : Int32) → ((x3 = (0 : Int32) → post t0 g) ∧ (¬ x3 = (0 : Int32) → (vM_cost g x1 (fun r89 g89 => post (t0 + r89) g89))))) ∧ (x2 = (3 : Int32) → (vM_cost g x1 (fun r74 g74 => post (t0 - r74) g74))))
def vM_marked_43 (post : Int32 → GM → Prop) (x1 : Int32) (x2 : Int32) (x3 : Int32) (g : GM) : Prop :=
  (vM_began g (20 : Int32) (fun g46 => (vp_in x1 6 ∧ ((((m_hasFailed g46) x1.toNatClampNeg) = (0 : Int32) → (vM_marked_63 post x1 x2 x3 (0 : Int32) g46)) ∧ (¬ ((m_hasFailed g46) x1.toNatClampNeg) = (0 : Int32) → (vM_marked_63 post x1 x2 x3 (1 : Int32) g46))))))
def vM_marked_33 (post : Int32 → GM → Prop) (x1 : Int32) (x2 : Int32) (x3 : Int32) (g : GM) : Prop :=
  ((x3 = (0 : Int32) → (vM_marked_43 post x1 x2 x3 g)) ∧ (¬ x3 = (0 : Int32) → (vM_began g (21 : Int32) (fun g40 => (vM_marked_43 post x1 x2 x3 g40)))))
def vM_marked_21 (post : Int32 → GM → Prop) (x1 : Int32) (x2 : Int32) (t0 : Int32) (g : GM) : Prop :=
  ((¬ x2 = (3 : Int32) → (vM_marked_33 post x1 x2 t0 g)) ∧ (x2 = (3 : Int32) → (vM_began g (22 : Int32) (fun g30 => (vM_marked_33 post x1 x2 t0 g30)))))
def vM_marked_16 (post : Int32 → GM → Prop) (x1 : Int32) (x2 : Int32) (g : GM) : Prop :=
  (vM_marked_21 post x1 x2 (1 : Int32) g)
def vM_marked (g : GM) (a1 : Int32) (post : Int32 → GM → Prop) : Prop :=
  (vM_kindOf g a1 (fun r2 g2 => ((r2 = (1 : Int32) → (vM_marked_16 post a1 r2 g2)) ∧ (¬ r2 = (1 : Int32) → ((¬ r2 = (2 : Int32) → (vM_marked_21 post a1 r2 (0 : Int32) g2)) ∧ (r2 = (2 : Int32) → (vM_marked_16 post a1 r2 g2)))))))
set_option maxHeartbeats 4000000 in
set_option maxRecDepth 100000 in
theorem lM_marked_63 {Γ : jG} {l : Launch} {D : va_G} {ad : Nat → Nat} {cy : Nat → ClassId} {post : Int32 → GM → Prop} (hC : jC Γ l rM_marked D 5 RX12 cX12_marked wsX12_marked (tyM cy)) (hQ : jQi Γ D (wM ad cy) post (some .int) 0 0) : ∀ (x1 : Int32) (x2 : Int32) (x3 : Int32) (t0 : Int32) (g : GM), vM_marked_63 post x1 x2 x3 t0 g → J Γ D 5 0 0 (wM ad cy g) 63 [(0, .ref (ad 0)), (1, .int x1), (2, .int x2), (3, .int x3)] [.int t0] := by
  have hinX12 : ∀ w ∈ wsX120, w ∈ wsX12_marked := fun w h => List.mem_cons_of_mem _ (List.mem_append_right _ h)
  intro x1 x2 x3 t0 g hv
  unfold vM_marked_63 at hv
  refine j_istore (lv' := [(4, .int t0), (0, .ref (ad 0)), (1, .int x1), (2, .int x2), (3, .int x3)]) hC dX12_marked_63 (by decide) rfl ?_
  refine j_iload_n (i := 2) hC dX12_marked_65 rfl 3 rfl ?_
  refine j_iconst (v := 3) hC dX12_marked_66 (by decide) ?_
  refine j_icmp_ne (tgt := 81) hC dX12_marked_67 (by decide) (fun h_ => ?_) (fun h_ => ?_)
  · have hv := hv.1 h_
    refine j_iload_n (i := 3) hC dX12_marked_81 rfl 4 rfl ?_
    refine j_if_eq (tgt := 96) hC dX12_marked_82 (by decide) (fun h_ => ?_) (fun h_ => ?_)
    · have hv := hv.1 h_
      refine j_iload hC dX12_marked_96 0 rfl ?_
      exact j_iret hC hQ dX12_marked_98 rfl hv
    · have hv := hv.2 h_
      refine j_iload hC dX12_marked_85 0 rfl ?_
      refine j_aload_n (i := 0) hC dX12_marked_87 rfl 1 rfl ?_
      refine j_iload_n (i := 1) hC dX12_marked_88 rfl 2 rfl ?_
      refine j_callV_i (C := RX12) (As := [.int x1]) (rest := [.int t0]) (b := (ad 0)) hC (cM_cost hv) 1 gX12_marked_X12_cost rfl rfl rfl ⟨Nat.le_of_ble_eq_true rfl, Nat.le_of_ble_eq_true rfl⟩ hdM_cost rfl (wM_c0 ad cy _) rfl rfl (Nat.le_of_ble_eq_true rfl) ⟨Nat.zero_le _, Nat.zero_le _⟩ dX12_marked_89 (fun r89 g89 hv => ?_)
      refine j_iadd hC dX12_marked_92 ?_
      refine j_goto (tgt := 98) hC dX12_marked_93 (by decide) ?_
      exact j_iret hC hQ dX12_marked_98 rfl hv
  · have hv := hv.2 h_
    refine j_iload hC dX12_marked_70 0 rfl ?_
    refine j_aload_n (i := 0) hC dX12_marked_72 rfl 1 rfl ?_
    refine j_iload_n (i := 1) hC dX12_marked_73 rfl 2 rfl ?_
    refine j_callV_i (C := RX12) (As := [.int x1]) (rest := [.int t0]) (b := (ad 0)) hC (cM_cost hv) 1 gX12_marked_X12_cost rfl rfl rfl ⟨Nat.le_of_ble_eq_true rfl, Nat.le_of_ble_eq_true rfl⟩ hdM_cost rfl (wM_c0 ad cy _) rfl rfl (Nat.le_of_ble_eq_true rfl) ⟨Nat.zero_le _, Nat.zero_le _⟩ dX12_marked_74 (fun r74 g74 hv => ?_)
    refine j_isub hC dX12_marked_77 ?_
    refine j_goto (tgt := 98) hC dX12_marked_78 (by decide) ?_
    exact j_iret hC hQ dX12_marked_98 rfl hv
set_option maxHeartbeats 4000000 in
set_option maxRecDepth 100000 in
theorem lM_marked_43 {Γ : jG} {l : Launch} {D : va_G} {ad : Nat → Nat} {cy : Nat → ClassId} {post : Int32 → GM → Prop} (hC : jC Γ l rM_marked D 5 RX12 cX12_marked wsX12_marked (tyM cy)) (hQ : jQi Γ D (wM ad cy) post (some .int) 0 0) : ∀ (x1 : Int32) (x2 : Int32) (x3 : Int32) (g : GM), vM_marked_43 post x1 x2 x3 g → J Γ D 5 0 0 (wM ad cy g) 43 [(0, .ref (ad 0)), (1, .int x1), (2, .int x2), (3, .int x3)] [] := by
  have hinX12 : ∀ w ∈ wsX120, w ∈ wsX12_marked := fun w h => List.mem_cons_of_mem _ (List.mem_append_right _ h)
  intro x1 x2 x3 g hv
  unfold vM_marked_43 at hv
  refine j_aload_n (i := 0) hC dX12_marked_43 rfl 0 rfl ?_
  refine j_bipush (v := 20) hC dX12_marked_44 (by decide) ?_
  refine j_callV_v (C := RX12) (As := [.int (20 : Int32)]) (rest := []) (b := (ad 0)) hC (cM_began hv) 1 gX12_marked_X12_began rfl rfl rfl ⟨Nat.le_of_ble_eq_true rfl, Nat.le_of_ble_eq_true rfl⟩ hdM_began rfl (wM_c0 ad cy _) rfl rfl (Nat.le_of_ble_eq_true rfl) ⟨Nat.zero_le _, Nat.zero_le _⟩ dX12_marked_46 (fun g46 hv => ?_)
  refine j_aload_n (i := 0) hC dX12_marked_49 rfl 0 rfl ?_
  refine j_get (C := RX12) (T := TX12) (N := 22) (v := .ref (ad 12)) hC hinX12 0 (wM_c0 ad cy _) rfl 15 (by decide) (mw 1 rfl) rfl rfl dX12_marked_50 ?_
  refine j_iload_n (i := 1) hC dX12_marked_53 rfl 1 rfl ?_
  refine j_zald (v := ((m_hasFailed g46) x1.toNatClampNeg)) hC 12 2 (wM_c12 ad cy _) rfl hv.1 rfl dX12_marked_54 ?_
  have hv := hv.2
  refine j_if_eq (tgt := 62) hC dX12_marked_55 (by decide) (fun h_ => ?_) (fun h_ => ?_)
  · have hv := hv.1 h_
    refine j_iconst (v := 0) hC dX12_marked_62 (by decide) ?_
    exact j_lv [0, 1, 2, 3] rfl (lM_marked_63 hC hQ _ _ _ _ _ hv)
  · have hv := hv.2 h_
    refine j_iconst (v := 1) hC dX12_marked_58 (by decide) ?_
    refine j_goto (tgt := 63) hC dX12_marked_59 (by decide) ?_
    exact j_lv [0, 1, 2, 3] rfl (lM_marked_63 hC hQ _ _ _ _ _ hv)
set_option maxHeartbeats 4000000 in
set_option maxRecDepth 100000 in
theorem lM_marked_33 {Γ : jG} {l : Launch} {D : va_G} {ad : Nat → Nat} {cy : Nat → ClassId} {post : Int32 → GM → Prop} (hC : jC Γ l rM_marked D 5 RX12 cX12_marked wsX12_marked (tyM cy)) (hQ : jQi Γ D (wM ad cy) post (some .int) 0 0) : ∀ (x1 : Int32) (x2 : Int32) (x3 : Int32) (g : GM), vM_marked_33 post x1 x2 x3 g → J Γ D 5 0 0 (wM ad cy g) 33 [(0, .ref (ad 0)), (1, .int x1), (2, .int x2), (3, .int x3)] [] := by
  have hinX12 : ∀ w ∈ wsX120, w ∈ wsX12_marked := fun w h => List.mem_cons_of_mem _ (List.mem_append_right _ h)
  intro x1 x2 x3 g hv
  unfold vM_marked_33 at hv
  refine j_iload_n (i := 3) hC dX12_marked_33 rfl 3 rfl ?_
  refine j_if_eq (tgt := 43) hC dX12_marked_34 (by decide) (fun h_ => ?_) (fun h_ => ?_)
  · have hv := hv.1 h_
    exact j_lv [0, 1, 2, 3] rfl (lM_marked_43 hC hQ _ _ _ _ hv)
  · have hv := hv.2 h_
    refine j_aload_n (i := 0) hC dX12_marked_37 rfl 0 rfl ?_
    refine j_bipush (v := 21) hC dX12_marked_38 (by decide) ?_
    refine j_callV_v (C := RX12) (As := [.int (21 : Int32)]) (rest := []) (b := (ad 0)) hC (cM_began hv) 1 gX12_marked_X12_began rfl rfl rfl ⟨Nat.le_of_ble_eq_true rfl, Nat.le_of_ble_eq_true rfl⟩ hdM_began rfl (wM_c0 ad cy _) rfl rfl (Nat.le_of_ble_eq_true rfl) ⟨Nat.zero_le _, Nat.zero_le _⟩ dX12_marked_40 (fun g40 hv => ?_)
    exact j_lv [0, 1, 2, 3] rfl (lM_marked_43 hC hQ _ _ _ _ hv)
set_option maxHeartbeats 4000000 in
set_option maxRecDepth 100000 in
theorem lM_marked_21 {Γ : jG} {l : Launch} {D : va_G} {ad : Nat → Nat} {cy : Nat → ClassId} {post : Int32 → GM → Prop} (hC : jC Γ l rM_marked D 5 RX12 cX12_marked wsX12_marked (tyM cy)) (hQ : jQi Γ D (wM ad cy) post (some .int) 0 0) : ∀ (x1 : Int32) (x2 : Int32) (t0 : Int32) (g : GM), vM_marked_21 post x1 x2 t0 g → J Γ D 5 0 0 (wM ad cy g) 21 [(0, .ref (ad 0)), (1, .int x1), (2, .int x2)] [.int t0] := by
  have hinX12 : ∀ w ∈ wsX120, w ∈ wsX12_marked := fun w h => List.mem_cons_of_mem _ (List.mem_append_right _ h)
  intro x1 x2 t0 g hv
  unfold vM_marked_21 at hv
  refine j_istore_n (i := 3) (lv' := [(3, .int t0), (0, .ref (ad 0)), (1, .int x1), (2, .int x2)]) hC dX12_marked_21 rfl (by decide) rfl ?_
  refine j_iload_n (i := 2) hC dX12_marked_22 rfl 3 rfl ?_
  refine j_iconst (v := 3) hC dX12_marked_23 (by decide) ?_
  refine j_icmp_ne (tgt := 33) hC dX12_marked_24 (by decide) (fun h_ => ?_) (fun h_ => ?_)
  · have hv := hv.1 h_
    exact j_lv [1, 2, 3, 0] rfl (lM_marked_33 hC hQ _ _ _ _ hv)
  · have hv := hv.2 h_
    refine j_aload_n (i := 0) hC dX12_marked_27 rfl 1 rfl ?_
    refine j_bipush (v := 22) hC dX12_marked_28 (by decide) ?_
    refine j_callV_v (C := RX12) (As := [.int (22 : Int32)]) (rest := []) (b := (ad 0)) hC (cM_began hv) 1 gX12_marked_X12_began rfl rfl rfl ⟨Nat.le_of_ble_eq_true rfl, Nat.le_of_ble_eq_true rfl⟩ hdM_began rfl (wM_c0 ad cy _) rfl rfl (Nat.le_of_ble_eq_true rfl) ⟨Nat.zero_le _, Nat.zero_le _⟩ dX12_marked_30 (fun g30 hv => ?_)
    exact j_lv [1, 2, 3, 0] rfl (lM_marked_33 hC hQ _ _ _ _ hv)
set_option maxHeartbeats 4000000 in
set_option maxRecDepth 100000 in
theorem lM_marked_16 {Γ : jG} {l : Launch} {D : va_G} {ad : Nat → Nat} {cy : Nat → ClassId} {post : Int32 → GM → Prop} (hC : jC Γ l rM_marked D 5 RX12 cX12_marked wsX12_marked (tyM cy)) (hQ : jQi Γ D (wM ad cy) post (some .int) 0 0) : ∀ (x1 : Int32) (x2 : Int32) (g : GM), vM_marked_16 post x1 x2 g → J Γ D 5 0 0 (wM ad cy g) 16 [(0, .ref (ad 0)), (1, .int x1), (2, .int x2)] [] := by
  have hinX12 : ∀ w ∈ wsX120, w ∈ wsX12_marked := fun w h => List.mem_cons_of_mem _ (List.mem_append_right _ h)
  intro x1 x2 g hv
  unfold vM_marked_16 at hv
  refine j_iconst (v := 1) hC dX12_marked_16 (by decide) ?_
  refine j_goto (tgt := 21) hC dX12_marked_17 (by decide) ?_
  exact j_lv [0, 1, 2] rfl (lM_marked_21 hC hQ _ _ _ _ hv)
set_option maxHeartbeats 4000000 in
set_option maxRecDepth 100000 in
theorem cM_marked {l : Launch} {D : va_G} {ad : Nat → Nat} {cy : Nat → ClassId} {g : GM} {a1 : Int32} {post : Int32 → GM → Prop} (hv : vM_marked g a1 post) : jMi l yX12_marked wsX12_marked rM_marked D (tyM cy) [.ref (ad 0), .int a1] (wM ad cy g) (wM ad cy) post 0 0 := by
  refine j_meti (cc := cX12_marked) (nL := 5) (rt := (some .int)) (by decide) (Nat.le_of_ble_eq_true rfl) ?_
  intro Γ hC hQ _
  have hC : jC Γ l rM_marked D 5 RX12 cX12_marked wsX12_marked (tyM cy) := hC
  have hinX12 : ∀ w ∈ wsX120, w ∈ wsX12_marked := fun w h => List.mem_cons_of_mem _ (List.mem_append_right _ h)
  refine j_lv (lv' := [(0, .ref (ad 0)), (1, .int a1)]) [0, 1] rfl ?_
  unfold vM_marked at hv
  refine j_aload_n (i := 0) hC dX12_marked_0 rfl 0 rfl ?_
  refine j_iload_n (i := 1) hC dX12_marked_1 rfl 1 rfl ?_
  refine j_callV_i (C := RX12) (As := [.int a1]) (rest := []) (b := (ad 0)) hC (cM_kindOf hv) 1 gX12_marked_X12_kindOf rfl rfl rfl ⟨Nat.le_of_ble_eq_true rfl, Nat.le_of_ble_eq_true rfl⟩ hdM_kindOf rfl (wM_c0 ad cy _) rfl rfl (Nat.le_of_ble_eq_true rfl) ⟨Nat.zero_le _, Nat.zero_le _⟩ dX12_marked_2 (fun r2 g2 hv => ?_)
  refine j_istore_n (i := 2) (lv' := [(2, .int r2), (0, .ref (ad 0)), (1, .int a1)]) hC dX12_marked_5 rfl (by decide) rfl ?_
  refine j_iload_n (i := 2) hC dX12_marked_6 rfl 0 rfl ?_
  refine j_iconst (v := 1) hC dX12_marked_7 (by decide) ?_
  refine j_icmp_eq (tgt := 16) hC dX12_marked_8 (by decide) (fun h_ => ?_) (fun h_ => ?_)
  · have hv := hv.1 h_
    exact j_lv [1, 2, 0] rfl (lM_marked_16 hC hQ _ _ _ hv)
  · have hv := hv.2 h_
    refine j_iload_n (i := 2) hC dX12_marked_11 rfl 0 rfl ?_
    refine j_iconst (v := 2) hC dX12_marked_12 (by decide) ?_
    refine j_icmp_ne (tgt := 20) hC dX12_marked_13 (by decide) (fun h_ => ?_) (fun h_ => ?_)
    · have hv := hv.1 h_
      refine j_iconst (v := 0) hC dX12_marked_20 (by decide) ?_
      exact j_lv [1, 2, 0] rfl (lM_marked_21 hC hQ _ _ _ _ hv)
    · have hv := hv.2 h_
      exact j_lv [1, 2, 0] rfl (lM_marked_16 hC hQ _ _ _ hv)
theorem hdM_ask : yX12_ask.cls = RX12 ∧ yX12_ask.cls ≠ "java/lang/invoke/MethodHandle" ∧ yX12_ask.cls ≠ "java/lang/invoke/VarHandle" ∧ (parseMethodDescriptor yX12_ask.desc).map (fun d => d.parameters.length) = some 2 := by decide +kernel
abbrev rM_ask : Room := { frames := 3, cells := 0, slots := 0, locals := 69 }
def vM_ask (g : GM) (a1 : Int32) (a2 : Int32) (post : Int32 → GM → Prop) : Prop :=
  (vM_isGate (sm_thrown g (0 : Int32)) a1 (fun r7 g7 => ((r7 = (0 : Int32) → post (-1000001 : Int32) g7) ∧ (¬ r7 = (0 : Int32) → (vM_in g7 (a2.toInt64) (0 : Int64) (1 : Int64) (fun r17 g17 => ((¬ r17 = (0 : Int32) → ((¬ a2 = (0 : Int32) → (vM_marked (sm_traced g17 (0 : Int32)) a1 (fun r45 g45 => post r45 g45))) ∧ (a2 = (0 : Int32) → (vM_cost (sm_traced g17 (0 : Int32)) a1 (fun r37 g37 => post r37 g37))))) ∧ (r17 = (0 : Int32) → post (-1000001 : Int32) g17))))))))
set_option maxHeartbeats 4000000 in
set_option maxRecDepth 100000 in
theorem cM_ask {l : Launch} {D : va_G} {ad : Nat → Nat} {cy : Nat → ClassId} {g : GM} {a1 : Int32} {a2 : Int32} {post : Int32 → GM → Prop} (hv : vM_ask g a1 a2 post) : jMi l yX12_ask wsX12_ask rM_ask D (tyM cy) [.ref (ad 0), .int a1, .int a2] (wM ad cy g) (wM ad cy) post 0 0 := by
  refine j_meti (cc := cX12_ask) (nL := 3) (rt := (some .int)) (by decide) (Nat.le_of_ble_eq_true rfl) ?_
  intro Γ hC hQ _
  have hC : jC Γ l rM_ask D 3 RX12 cX12_ask wsX12_ask (tyM cy) := hC
  have hinX12 : ∀ w ∈ wsX120, w ∈ wsX12_ask := fun w h => List.mem_cons_of_mem _ (List.mem_append_right _ h)
  refine j_lv (lv' := [(0, .ref (ad 0)), (1, .int a1), (2, .int a2)]) [0, 1, 2] rfl ?_
  unfold vM_ask at hv
  refine j_aload_n (i := 0) hC dX12_ask_0 rfl 0 rfl ?_
  refine j_iconst (v := 0) hC dX12_ask_1 (by decide) ?_
  refine j_put (C := RX12) (T := TX12) (N := 22) (ty := .int) hC hinX12 tyX12 tyX12_ok nmX12 0 (wM_c0 ad cy _) rfl 0 (by decide) (mw 1 rfl) rfl rfl fdX12_0 rfl rfl (Nat.le_of_ble_eq_true rfl) (wM_p_thrown ad cy _ _) dX12_ask_2 ?_
  refine j_aload_n (i := 0) hC dX12_ask_5 rfl 0 rfl ?_
  refine j_iload_n (i := 1) hC dX12_ask_6 rfl 1 rfl ?_
  refine j_callV_i (C := RX12) (As := [.int a1]) (rest := []) (b := (ad 0)) hC (cM_isGate hv) 1 gX12_ask_X12_isGate rfl rfl rfl ⟨Nat.le_of_ble_eq_true rfl, Nat.le_of_ble_eq_true rfl⟩ hdM_isGate rfl (wM_c0 ad cy _) rfl rfl (Nat.le_of_ble_eq_true rfl) ⟨Nat.zero_le _, Nat.zero_le _⟩ dX12_ask_7 (fun r7 g7 hv => ?_)
  refine j_if_eq (tgt := 23) hC dX12_ask_10 (by decide) (fun h_ => ?_) (fun h_ => ?_)
  · have hv := hv.1 h_
    refine j_ldc (v := -1000001) hC dX12_ask_23 (mw 2 rfl) ?_
    exact j_iret hC hQ dX12_ask_25 rfl hv
  · have hv := hv.2 h_
    refine j_iload_n (i := 2) hC dX12_ask_13 rfl 2 rfl ?_
    refine j_i2l hC dX12_ask_14 ?_
    refine j_lconst (v := 0) hC dX12_ask_15 (by decide) ?_
    refine j_lconst (v := 1) hC dX12_ask_16 (by decide) ?_
    refine j_callS_i (As := [.long (a2.toInt64), .long (0 : Int64), .long (1 : Int64)]) (rest := []) hC (cM_in hv) 3 gX12_ask_X12_in rfl rfl rfl ⟨Nat.le_of_ble_eq_true rfl, Nat.le_of_ble_eq_true rfl⟩ hdM_in.2 rfl rfl (Nat.le_of_ble_eq_true rfl) ⟨Nat.zero_le _, Nat.zero_le _⟩ dX12_ask_17 (fun r17 g17 hv => ?_)
    refine j_if_ne (tgt := 26) hC dX12_ask_20 (by decide) (fun h_ => ?_) (fun h_ => ?_)
    · have hv := hv.1 h_
      refine j_aload_n (i := 0) hC dX12_ask_26 rfl 0 rfl ?_
      refine j_iconst (v := 0) hC dX12_ask_27 (by decide) ?_
      refine j_put (C := RX12) (T := TX12) (N := 22) (ty := .int) hC hinX12 tyX12 tyX12_ok nmX12 0 (wM_c0 ad cy _) rfl 21 (by decide) (mw 3 rfl) rfl rfl fdX12_21 rfl rfl (Nat.le_of_ble_eq_true rfl) (wM_p_traced ad cy _ _) dX12_ask_28 ?_
      refine j_iload_n (i := 2) hC dX12_ask_31 rfl 2 rfl ?_
      refine j_if_ne (tgt := 43) hC dX12_ask_32 (by decide) (fun h_ => ?_) (fun h_ => ?_)
      · have hv := hv.1 h_
        refine j_aload_n (i := 0) hC dX12_ask_43 rfl 0 rfl ?_
        refine j_iload_n (i := 1) hC dX12_ask_44 rfl 1 rfl ?_
        refine j_callV_i (C := RX12) (As := [.int a1]) (rest := []) (b := (ad 0)) hC (cM_marked hv) 1 gX12_ask_X12_marked rfl rfl rfl ⟨Nat.le_of_ble_eq_true rfl, Nat.le_of_ble_eq_true rfl⟩ hdM_marked rfl (wM_c0 ad cy _) rfl rfl (Nat.le_of_ble_eq_true rfl) ⟨Nat.zero_le _, Nat.zero_le _⟩ dX12_ask_45 (fun r45 g45 hv => ?_)
        exact j_iret hC hQ dX12_ask_48 rfl hv
      · have hv := hv.2 h_
        refine j_aload_n (i := 0) hC dX12_ask_35 rfl 0 rfl ?_
        refine j_iload_n (i := 1) hC dX12_ask_36 rfl 1 rfl ?_
        refine j_callV_i (C := RX12) (As := [.int a1]) (rest := []) (b := (ad 0)) hC (cM_cost hv) 1 gX12_ask_X12_cost rfl rfl rfl ⟨Nat.le_of_ble_eq_true rfl, Nat.le_of_ble_eq_true rfl⟩ hdM_cost rfl (wM_c0 ad cy _) rfl rfl (Nat.le_of_ble_eq_true rfl) ⟨Nat.zero_le _, Nat.zero_le _⟩ dX12_ask_37 (fun r37 g37 hv => ?_)
        refine j_goto (tgt := 48) hC dX12_ask_40 (by decide) ?_
        exact j_iret hC hQ dX12_ask_48 rfl hv
    · have hv := hv.2 h_
      refine j_ldc (v := -1000001) hC dX12_ask_23 (mw 2 rfl) ?_
      exact j_iret hC hQ dX12_ask_25 rfl hv
theorem hdM_trace : yX12_trace.cls = RX12 ∧ yX12_trace.cls ≠ "java/lang/invoke/MethodHandle" ∧ yX12_trace.cls ≠ "java/lang/invoke/VarHandle" ∧ (parseMethodDescriptor yX12_trace.desc).map (fun d => d.parameters.length) = some 1 := by decide +kernel
abbrev rM_trace : Room := { frames := 1, cells := 0, slots := 0, locals := 25 }
def vM_trace (g : GM) (a1 : Int32) (post : Int32 → GM → Prop) : Prop :=
  (vM_in (sm_thrown g (0 : Int32)) (a1.toInt64) (0 : Int64) (((m_traced g) - (1 : Int32)).toInt64) (fun r15 g15 => ((r15 = (0 : Int32) → post (-1000000 : Int32) g15) ∧ (¬ r15 = (0 : Int32) → (vp_in a1 16 ∧ post ((m_trace g15) a1.toNatClampNeg) g15)))))
set_option maxHeartbeats 4000000 in
set_option maxRecDepth 100000 in
theorem cM_trace {l : Launch} {D : va_G} {ad : Nat → Nat} {cy : Nat → ClassId} {g : GM} {a1 : Int32} {post : Int32 → GM → Prop} (hv : vM_trace g a1 post) : jMi l yX12_trace wsX12_trace rM_trace D (tyM cy) [.ref (ad 0), .int a1] (wM ad cy g) (wM ad cy) post 0 0 := by
  refine j_meti (cc := cX12_trace) (nL := 2) (rt := (some .int)) (by decide) (Nat.le_of_ble_eq_true rfl) ?_
  intro Γ hC hQ _
  have hC : jC Γ l rM_trace D 2 RX12 cX12_trace wsX12_trace (tyM cy) := hC
  have hinX12 : ∀ w ∈ wsX120, w ∈ wsX12_trace := fun w h => List.mem_cons_of_mem _ (List.mem_append_right _ h)
  refine j_lv (lv' := [(0, .ref (ad 0)), (1, .int a1)]) [0, 1] rfl ?_
  unfold vM_trace at hv
  refine j_aload_n (i := 0) hC dX12_trace_0 rfl 0 rfl ?_
  refine j_iconst (v := 0) hC dX12_trace_1 (by decide) ?_
  refine j_put (C := RX12) (T := TX12) (N := 22) (ty := .int) hC hinX12 tyX12 tyX12_ok nmX12 0 (wM_c0 ad cy _) rfl 0 (by decide) (mw 1 rfl) rfl rfl fdX12_0 rfl rfl (Nat.le_of_ble_eq_true rfl) (wM_p_thrown ad cy _ _) dX12_trace_2 ?_
  refine j_iload_n (i := 1) hC dX12_trace_5 rfl 1 rfl ?_
  refine j_i2l hC dX12_trace_6 ?_
  refine j_lconst (v := 0) hC dX12_trace_7 (by decide) ?_
  refine j_aload_n (i := 0) hC dX12_trace_8 rfl 0 rfl ?_
  refine j_get (C := RX12) (T := TX12) (N := 22) (v := .int (m_traced g)) hC hinX12 0 (wM_c0 ad cy _) rfl 21 (by decide) (mw 2 rfl) rfl rfl dX12_trace_9 ?_
  refine j_iconst (v := 1) hC dX12_trace_12 (by decide) ?_
  refine j_isub hC dX12_trace_13 ?_
  refine j_i2l hC dX12_trace_14 ?_
  refine j_callS_i (As := [.long (a1.toInt64), .long (0 : Int64), .long (((m_traced g) - (1 : Int32)).toInt64)]) (rest := []) hC (cM_in hv) 3 gX12_trace_X12_in rfl rfl rfl ⟨Nat.le_of_ble_eq_true rfl, Nat.le_of_ble_eq_true rfl⟩ hdM_in.2 rfl rfl (Nat.le_of_ble_eq_true rfl) ⟨Nat.zero_le _, Nat.zero_le _⟩ dX12_trace_15 (fun r15 g15 hv => ?_)
  refine j_if_eq (tgt := 30) hC dX12_trace_18 (by decide) (fun h_ => ?_) (fun h_ => ?_)
  · have hv := hv.1 h_
    refine j_ldc (v := -1000000) hC dX12_trace_30 (mw 4 rfl) ?_
    exact j_iret hC hQ dX12_trace_32 rfl hv
  · have hv := hv.2 h_
    refine j_aload_n (i := 0) hC dX12_trace_21 rfl 0 rfl ?_
    refine j_get (C := RX12) (T := TX12) (N := 22) (v := .ref (ad 16)) hC hinX12 0 (wM_c0 ad cy _) rfl 20 (by decide) (mw 3 rfl) rfl rfl dX12_trace_22 ?_
    refine j_iload_n (i := 1) hC dX12_trace_25 rfl 1 rfl ?_
    refine j_iald (v := ((m_trace g15) a1.toNatClampNeg)) hC 16 0 (wM_c16 ad cy _) rfl hv.1 rfl dX12_trace_26 ?_
    have hv := hv.2
    refine j_goto (tgt := 32) hC dX12_trace_27 (by decide) ?_
    exact j_iret hC hQ dX12_trace_32 rfl hv
theorem hdM_count : yX12_count.cls = RX12 ∧ yX12_count.cls ≠ "java/lang/invoke/MethodHandle" ∧ yX12_count.cls ≠ "java/lang/invoke/VarHandle" ∧ (parseMethodDescriptor yX12_count.desc).map (fun d => d.parameters.length) = some 1 := by decide +kernel
abbrev rM_count : Room := { frames := 0, cells := 0, slots := 0, locals := 0 }
def vM_count_71 (post : Int32 → GM → Prop) (K50 : Int32 → Int32 → GM → Prop) (x3 : Int32) (t0 : Int32) (t1 : Int32) (g : GM) : Prop :=
  (K50 (t1 + t0) (x3 + (1 : Int32)) g)
def vM_count_50 (post : Int32 → GM → Prop) : Nat → Int32 → Int32 → GM → Prop
  | 0, _, _, _ => False
  | k_ + 1, x2, x3, g =>
  (((8 : Int32) ≤ x3 → post x2 g) ∧ (¬ (8 : Int32) ≤ x3 → (vp_in x3 8 ∧ ((((m_lane g) x3.toNatClampNeg) < (0 : Int32) → (vM_count_71 post (fun x2 x3 g => vM_count_50 post k_ x2 x3 g) x3 (0 : Int32) x2 g)) ∧ (¬ ((m_lane g) x3.toNatClampNeg) < (0 : Int32) → (vM_count_71 post (fun x2 x3 g => vM_count_50 post k_ x2 x3 g) x3 (1 : Int32) x2 g))))))
def vM_count_88 (post : Int32 → GM → Prop) : Nat → Int32 → Int32 → GM → Prop
  | 0, _, _, _ => False
  | k_ + 1, x2, x3, g =>
  (((m_worlds g) ≤ x3 → post x2 g) ∧ (¬ (m_worlds g) ≤ x3 → (vp_in x3 8 ∧ (vM_count_88 post k_ (x2 + ((m_weight g) x3.toNatClampNeg)) (x3 + (1 : Int32)) g))))
def vM_count_143 (post : Int32 → GM → Prop) (K120 : Int32 → Int32 → GM → Prop) (x3 : Int32) (t0 : Int32) (t1 : Int32) (g : GM) : Prop :=
  (K120 (t1 + t0) (x3 + (1 : Int32)) g)
def vM_count_120 (post : Int32 → GM → Prop) : Nat → Int32 → Int32 → GM → Prop
  | 0, _, _, _ => False
  | k_ + 1, x2, x3, g =>
  (((m_gates g) ≤ x3 → post x2 g) ∧ (¬ (m_gates g) ≤ x3 → (vp_in x3 6 ∧ ((((m_hasFailed g) x3.toNatClampNeg) = (0 : Int32) → (vM_count_143 post (fun x2 x3 g => vM_count_120 post k_ x2 x3 g) x3 (0 : Int32) x2 g)) ∧ (¬ ((m_hasFailed g) x3.toNatClampNeg) = (0 : Int32) → (vM_count_143 post (fun x2 x3 g => vM_count_120 post k_ x2 x3 g) x3 (1 : Int32) x2 g))))))
def vM_count (g : GM) (a1 : Int32) (post : Int32 → GM → Prop) : Prop :=
  (((∀ j_ : Nat, j_ ≤ 5 → ¬ a1 = nI j_) → post (-1000001 : Int32) (sm_thrown g (0 : Int32))) ∧ (a1 = nI 0 → (∃ n_ : Nat, vM_count_50 post n_ (0 : Int32) (0 : Int32) (sm_thrown g (0 : Int32)))) ∧ (a1 = nI 1 → post (m_worlds g) (sm_thrown g (0 : Int32))) ∧ (a1 = nI 2 → (∃ n_ : Nat, vM_count_88 post n_ (0 : Int32) (0 : Int32) (sm_thrown g (0 : Int32)))) ∧ (a1 = nI 3 → post (m_gates g) (sm_thrown g (0 : Int32))) ∧ (a1 = nI 4 → (∃ n_ : Nat, vM_count_120 post n_ (0 : Int32) (0 : Int32) (sm_thrown g (0 : Int32)))) ∧ (a1 = nI 5 → post (m_ships g) (sm_thrown g (0 : Int32))))
set_option maxHeartbeats 4000000 in
set_option maxRecDepth 100000 in
theorem lM_count_71 {Γ : jG} {l : Launch} {D : va_G} {ad : Nat → Nat} {cy : Nat → ClassId} {post : Int32 → GM → Prop} (hC : jC Γ l rM_count D 4 RX12 cX12_count wsX12_count (tyM cy)) (hQ : jQi Γ D (wM ad cy) post (some .int) 0 0) {K50 : Int32 → Int32 → GM → Prop} (hK50 : ∀ (x2 : Int32) (x3 : Int32) (g : GM), K50 x2 x3 g → J Γ D 4 0 0 (wM ad cy g) 50 [(0, .ref (ad 0)), (2, .int x2), (3, .int x3)] []) : ∀ (x3 : Int32) (t0 : Int32) (t1 : Int32) (g : GM), vM_count_71 post K50 x3 t0 t1 g → J Γ D 4 0 0 (wM ad cy g) 71 [(0, .ref (ad 0)), (3, .int x3)] [.int t0, .int t1] := by
  have hinX12 : ∀ w ∈ wsX120, w ∈ wsX12_count := fun w h => List.mem_cons_of_mem _ (List.mem_append_right _ h)
  intro x3 t0 t1 g hv
  unfold vM_count_71 at hv
  refine j_iadd hC dX12_count_71 ?_
  refine j_istore_n (i := 2) (lv' := [(2, .int (t1 + t0)), (0, .ref (ad 0)), (3, .int x3)]) hC dX12_count_72 rfl (by decide) rfl ?_
  refine j_iinc (k := 2) (v := (x3 + (1 : Int32))) (lv' := [(3, .int (x3 + (1 : Int32))), (2, .int (t1 + t0)), (0, .ref (ad 0))]) hC dX12_count_73 rfl rfl (by decide) rfl ?_
  refine j_goto (tgt := 50) hC dX12_count_76 (by decide) ?_
  exact j_lv [2, 1, 0] rfl (hK50 _ _ _ hv)
set_option maxHeartbeats 4000000 in
set_option maxRecDepth 100000 in
theorem lM_count_50 {Γ : jG} {l : Launch} {D : va_G} {ad : Nat → Nat} {cy : Nat → ClassId} {post : Int32 → GM → Prop} (hC : jC Γ l rM_count D 4 RX12 cX12_count wsX12_count (tyM cy)) (hQ : jQi Γ D (wM ad cy) post (some .int) 0 0) : ∀ (n_ : Nat) (x2 : Int32) (x3 : Int32) (g : GM), vM_count_50 post n_ x2 x3 g → J Γ D 4 0 0 (wM ad cy g) 50 [(0, .ref (ad 0)), (2, .int x2), (3, .int x3)] [] := by
  have hinX12 : ∀ w ∈ wsX120, w ∈ wsX12_count := fun w h => List.mem_cons_of_mem _ (List.mem_append_right _ h)
  intro n_
  induction n_ with
  | zero => intro x2 x3 g hv; exact False.elim hv
  | succ k_ ih =>
    intro x2 x3 g hv
    unfold vM_count_50 at hv
    refine j_iload_n (i := 3) hC dX12_count_50 rfl 2 rfl ?_
    refine j_bipush (v := 8) hC dX12_count_51 (by decide) ?_
    refine j_icmp_ge (tgt := 79) hC dX12_count_53 (by decide) (fun h_ => ?_) (fun h_ => ?_)
    · have hv := hv.1 h_
      refine j_iload_n (i := 2) hC dX12_count_79 rfl 1 rfl ?_
      exact j_iret hC hQ dX12_count_80 rfl hv
    · have hv := hv.2 h_
      refine j_iload_n (i := 2) hC dX12_count_56 rfl 1 rfl ?_
      refine j_aload_n (i := 0) hC dX12_count_57 rfl 0 rfl ?_
      refine j_get (C := RX12) (T := TX12) (N := 22) (v := .ref (ad 3)) hC hinX12 0 (wM_c0 ad cy _) rfl 4 (by decide) (mw 2 rfl) rfl rfl dX12_count_58 ?_
      refine j_iload_n (i := 3) hC dX12_count_61 rfl 2 rfl ?_
      refine j_iald (v := ((m_lane g) x3.toNatClampNeg)) hC 3 0 (wM_c3 ad cy _) rfl hv.1 rfl dX12_count_62 ?_
      have hv := hv.2
      refine j_if_lt (tgt := 70) hC dX12_count_63 (by decide) (fun h_ => ?_) (fun h_ => ?_)
      · have hv := hv.1 h_
        refine j_iconst (v := 0) hC dX12_count_70 (by decide) ?_
        exact j_lv [0, 2] rfl (lM_count_71 hC hQ (K50 := fun x2 x3 g => vM_count_50 post k_ x2 x3 g) (fun _ _ _ h_ => ih _ _ _ h_) _ _ _ _ hv)
      · have hv := hv.2 h_
        refine j_iconst (v := 1) hC dX12_count_66 (by decide) ?_
        refine j_goto (tgt := 71) hC dX12_count_67 (by decide) ?_
        exact j_lv [0, 2] rfl (lM_count_71 hC hQ (K50 := fun x2 x3 g => vM_count_50 post k_ x2 x3 g) (fun _ _ _ h_ => ih _ _ _ h_) _ _ _ _ hv)
set_option maxHeartbeats 4000000 in
set_option maxRecDepth 100000 in
theorem lM_count_88 {Γ : jG} {l : Launch} {D : va_G} {ad : Nat → Nat} {cy : Nat → ClassId} {post : Int32 → GM → Prop} (hC : jC Γ l rM_count D 4 RX12 cX12_count wsX12_count (tyM cy)) (hQ : jQi Γ D (wM ad cy) post (some .int) 0 0) : ∀ (n_ : Nat) (x2 : Int32) (x3 : Int32) (g : GM), vM_count_88 post n_ x2 x3 g → J Γ D 4 0 0 (wM ad cy g) 88 [(0, .ref (ad 0)), (2, .int x2), (3, .int x3)] [] := by
  have hinX12 : ∀ w ∈ wsX120, w ∈ wsX12_count := fun w h => List.mem_cons_of_mem _ (List.mem_append_right _ h)
  intro n_
  induction n_ with
  | zero => intro x2 x3 g hv; exact False.elim hv
  | succ k_ ih =>
    intro x2 x3 g hv
    unfold vM_count_88 at hv
    refine j_iload_n (i := 3) hC dX12_count_88 rfl 2 rfl ?_
    refine j_aload_n (i := 0) hC dX12_count_89 rfl 0 rfl ?_
    refine j_get (C := RX12) (T := TX12) (N := 22) (v := .int (m_worlds g)) hC hinX12 0 (wM_c0 ad cy _) rfl 7 (by decide) (mw 3 rfl) rfl rfl dX12_count_90 ?_
    refine j_icmp_ge (tgt := 111) hC dX12_count_93 (by decide) (fun h_ => ?_) (fun h_ => ?_)
    · have hv := hv.1 h_
      refine j_iload_n (i := 2) hC dX12_count_111 rfl 1 rfl ?_
      exact j_iret hC hQ dX12_count_112 rfl hv
    · have hv := hv.2 h_
      refine j_iload_n (i := 2) hC dX12_count_96 rfl 1 rfl ?_
      refine j_aload_n (i := 0) hC dX12_count_97 rfl 0 rfl ?_
      refine j_get (C := RX12) (T := TX12) (N := 22) (v := .ref (ad 6)) hC hinX12 0 (wM_c0 ad cy _) rfl 8 (by decide) (mw 4 rfl) rfl rfl dX12_count_98 ?_
      refine j_iload_n (i := 3) hC dX12_count_101 rfl 2 rfl ?_
      refine j_iald (v := ((m_weight g) x3.toNatClampNeg)) hC 6 0 (wM_c6 ad cy _) rfl hv.1 rfl dX12_count_102 ?_
      have hv := hv.2
      refine j_iadd hC dX12_count_103 ?_
      refine j_istore_n (i := 2) (lv' := [(2, .int (x2 + ((m_weight g) x3.toNatClampNeg))), (0, .ref (ad 0)), (3, .int x3)]) hC dX12_count_104 rfl (by decide) rfl ?_
      refine j_iinc (k := 2) (v := (x3 + (1 : Int32))) (lv' := [(3, .int (x3 + (1 : Int32))), (2, .int (x2 + ((m_weight g) x3.toNatClampNeg))), (0, .ref (ad 0))]) hC dX12_count_105 rfl rfl (by decide) rfl ?_
      refine j_goto (tgt := 88) hC dX12_count_108 (by decide) ?_
      exact j_lv [2, 1, 0] rfl (ih _ _ _ hv)
set_option maxHeartbeats 4000000 in
set_option maxRecDepth 100000 in
theorem lM_count_143 {Γ : jG} {l : Launch} {D : va_G} {ad : Nat → Nat} {cy : Nat → ClassId} {post : Int32 → GM → Prop} (hC : jC Γ l rM_count D 4 RX12 cX12_count wsX12_count (tyM cy)) (hQ : jQi Γ D (wM ad cy) post (some .int) 0 0) {K120 : Int32 → Int32 → GM → Prop} (hK120 : ∀ (x2 : Int32) (x3 : Int32) (g : GM), K120 x2 x3 g → J Γ D 4 0 0 (wM ad cy g) 120 [(0, .ref (ad 0)), (2, .int x2), (3, .int x3)] []) : ∀ (x3 : Int32) (t0 : Int32) (t1 : Int32) (g : GM), vM_count_143 post K120 x3 t0 t1 g → J Γ D 4 0 0 (wM ad cy g) 143 [(0, .ref (ad 0)), (3, .int x3)] [.int t0, .int t1] := by
  have hinX12 : ∀ w ∈ wsX120, w ∈ wsX12_count := fun w h => List.mem_cons_of_mem _ (List.mem_append_right _ h)
  intro x3 t0 t1 g hv
  unfold vM_count_143 at hv
  refine j_iadd hC dX12_count_143 ?_
  refine j_istore_n (i := 2) (lv' := [(2, .int (t1 + t0)), (0, .ref (ad 0)), (3, .int x3)]) hC dX12_count_144 rfl (by decide) rfl ?_
  refine j_iinc (k := 2) (v := (x3 + (1 : Int32))) (lv' := [(3, .int (x3 + (1 : Int32))), (2, .int (t1 + t0)), (0, .ref (ad 0))]) hC dX12_count_145 rfl rfl (by decide) rfl ?_
  refine j_goto (tgt := 120) hC dX12_count_148 (by decide) ?_
  exact j_lv [2, 1, 0] rfl (hK120 _ _ _ hv)
set_option maxHeartbeats 4000000 in
set_option maxRecDepth 100000 in
theorem lM_count_120 {Γ : jG} {l : Launch} {D : va_G} {ad : Nat → Nat} {cy : Nat → ClassId} {post : Int32 → GM → Prop} (hC : jC Γ l rM_count D 4 RX12 cX12_count wsX12_count (tyM cy)) (hQ : jQi Γ D (wM ad cy) post (some .int) 0 0) : ∀ (n_ : Nat) (x2 : Int32) (x3 : Int32) (g : GM), vM_count_120 post n_ x2 x3 g → J Γ D 4 0 0 (wM ad cy g) 120 [(0, .ref (ad 0)), (2, .int x2), (3, .int x3)] [] := by
  have hinX12 : ∀ w ∈ wsX120, w ∈ wsX12_count := fun w h => List.mem_cons_of_mem _ (List.mem_append_right _ h)
  intro n_
  induction n_ with
  | zero => intro x2 x3 g hv; exact False.elim hv
  | succ k_ ih =>
    intro x2 x3 g hv
    unfold vM_count_120 at hv
    refine j_iload_n (i := 3) hC dX12_count_120 rfl 2 rfl ?_
    refine j_aload_n (i := 0) hC dX12_count_121 rfl 0 rfl ?_
    refine j_get (C := RX12) (T := TX12) (N := 22) (v := .int (m_gates g)) hC hinX12 0 (wM_c0 ad cy _) rfl 12 (by decide) (mw 5 rfl) rfl rfl dX12_count_122 ?_
    refine j_icmp_ge (tgt := 151) hC dX12_count_125 (by decide) (fun h_ => ?_) (fun h_ => ?_)
    · have hv := hv.1 h_
      refine j_iload_n (i := 2) hC dX12_count_151 rfl 1 rfl ?_
      exact j_iret hC hQ dX12_count_152 rfl hv
    · have hv := hv.2 h_
      refine j_iload_n (i := 2) hC dX12_count_128 rfl 1 rfl ?_
      refine j_aload_n (i := 0) hC dX12_count_129 rfl 0 rfl ?_
      refine j_get (C := RX12) (T := TX12) (N := 22) (v := .ref (ad 12)) hC hinX12 0 (wM_c0 ad cy _) rfl 15 (by decide) (mw 6 rfl) rfl rfl dX12_count_130 ?_
      refine j_iload_n (i := 3) hC dX12_count_133 rfl 2 rfl ?_
      refine j_zald (v := ((m_hasFailed g) x3.toNatClampNeg)) hC 12 2 (wM_c12 ad cy _) rfl hv.1 rfl dX12_count_134 ?_
      have hv := hv.2
      refine j_if_eq (tgt := 142) hC dX12_count_135 (by decide) (fun h_ => ?_) (fun h_ => ?_)
      · have hv := hv.1 h_
        refine j_iconst (v := 0) hC dX12_count_142 (by decide) ?_
        exact j_lv [0, 2] rfl (lM_count_143 hC hQ (K120 := fun x2 x3 g => vM_count_120 post k_ x2 x3 g) (fun _ _ _ h_ => ih _ _ _ h_) _ _ _ _ hv)
      · have hv := hv.2 h_
        refine j_iconst (v := 1) hC dX12_count_138 (by decide) ?_
        refine j_goto (tgt := 143) hC dX12_count_139 (by decide) ?_
        exact j_lv [0, 2] rfl (lM_count_143 hC hQ (K120 := fun x2 x3 g => vM_count_120 post k_ x2 x3 g) (fun _ _ _ h_ => ih _ _ _ h_) _ _ _ _ hv)
set_option maxHeartbeats 4000000 in
set_option maxRecDepth 100000 in
theorem cM_count {l : Launch} {D : va_G} {ad : Nat → Nat} {cy : Nat → ClassId} {g : GM} {a1 : Int32} {post : Int32 → GM → Prop} (hv : vM_count g a1 post) : jMi l yX12_count wsX12_count rM_count D (tyM cy) [.ref (ad 0), .int a1] (wM ad cy g) (wM ad cy) post 0 0 := by
  refine j_meti (cc := cX12_count) (nL := 4) (rt := (some .int)) (by decide) (Nat.le_of_ble_eq_true rfl) ?_
  intro Γ hC hQ _
  have hC : jC Γ l rM_count D 4 RX12 cX12_count wsX12_count (tyM cy) := hC
  have hinX12 : ∀ w ∈ wsX120, w ∈ wsX12_count := fun w h => List.mem_cons_of_mem _ (List.mem_append_right _ h)
  refine j_lv (lv' := [(0, .ref (ad 0)), (1, .int a1)]) [0, 1] rfl ?_
  unfold vM_count at hv
  refine j_aload_n (i := 0) hC dX12_count_0 rfl 0 rfl ?_
  refine j_iconst (v := 0) hC dX12_count_1 (by decide) ?_
  refine j_put (C := RX12) (T := TX12) (N := 22) (ty := .int) hC hinX12 tyX12 tyX12_ok nmX12 0 (wM_c0 ad cy _) rfl 0 (by decide) (mw 1 rfl) rfl rfl fdX12_0 rfl rfl (Nat.le_of_ble_eq_true rfl) (wM_p_thrown ad cy _ _) dX12_count_2 ?_
  refine j_iconst (v := 0) hC dX12_count_5 (by decide) ?_
  refine j_istore_n (i := 2) (lv' := [(2, .int (0 : Int32)), (0, .ref (ad 0)), (1, .int a1)]) hC dX12_count_6 rfl (by decide) rfl ?_
  refine j_iload_n (i := 1) hC dX12_count_7 rfl 2 rfl ?_
  rcases jsw a1 5 (by decide) with h_ | h_
  · have hv := hv.1 h_
    refine j_tableOut (tgt := 158) hC dX12_count_8 (jsw_out (n := 5) h_ rfl) (by decide) ?_
    refine j_ldc (v := -1000001) hC dX12_count_158 (mw 8 rfl) ?_
    exact j_iret hC hQ dX12_count_160 rfl hv
  · have hv := hv.2
    obtain ⟨j_, hj_, h_⟩ := h_
    match j_, hj_, h_ with
    | 0, _, h_ =>
      have hv := hv.1 h_
      refine j_tableIn (tgt := 48) (off := 40) hC dX12_count_8 (by rw [h_]; decide) (by rw [h_]; decide) (by rw [h_]; rfl) (by decide) ?_
      refine j_iconst (v := 0) hC dX12_count_48 (by decide) ?_
      refine j_istore_n (i := 3) (lv' := [(3, .int (0 : Int32)), (2, .int (0 : Int32)), (0, .ref (ad 0)), (1, .int a1)]) hC dX12_count_49 rfl (by decide) rfl ?_
      obtain ⟨n_, hv⟩ := hv
      exact j_lv [2, 1, 0] rfl (lM_count_50 hC hQ n_ _ _ _ hv)
    | 1, _, h_ =>
      have hv := hv.2.1 h_
      refine j_tableIn (tgt := 81) (off := 73) hC dX12_count_8 (by rw [h_]; decide) (by rw [h_]; decide) (by rw [h_]; rfl) (by decide) ?_
      refine j_aload_n (i := 0) hC dX12_count_81 rfl 1 rfl ?_
      refine j_get (C := RX12) (T := TX12) (N := 22) (v := .int (m_worlds g)) hC hinX12 0 (wM_c0 ad cy _) rfl 7 (by decide) (mw 3 rfl) rfl rfl dX12_count_82 ?_
      exact j_iret hC hQ dX12_count_85 rfl hv
    | 2, _, h_ =>
      have hv := hv.2.2.1 h_
      refine j_tableIn (tgt := 86) (off := 78) hC dX12_count_8 (by rw [h_]; decide) (by rw [h_]; decide) (by rw [h_]; rfl) (by decide) ?_
      refine j_iconst (v := 0) hC dX12_count_86 (by decide) ?_
      refine j_istore_n (i := 3) (lv' := [(3, .int (0 : Int32)), (2, .int (0 : Int32)), (0, .ref (ad 0)), (1, .int a1)]) hC dX12_count_87 rfl (by decide) rfl ?_
      obtain ⟨n_, hv⟩ := hv
      exact j_lv [2, 1, 0] rfl (lM_count_88 hC hQ n_ _ _ _ hv)
    | 3, _, h_ =>
      have hv := hv.2.2.2.1 h_
      refine j_tableIn (tgt := 113) (off := 105) hC dX12_count_8 (by rw [h_]; decide) (by rw [h_]; decide) (by rw [h_]; rfl) (by decide) ?_
      refine j_aload_n (i := 0) hC dX12_count_113 rfl 1 rfl ?_
      refine j_get (C := RX12) (T := TX12) (N := 22) (v := .int (m_gates g)) hC hinX12 0 (wM_c0 ad cy _) rfl 12 (by decide) (mw 5 rfl) rfl rfl dX12_count_114 ?_
      exact j_iret hC hQ dX12_count_117 rfl hv
    | 4, _, h_ =>
      have hv := hv.2.2.2.2.1 h_
      refine j_tableIn (tgt := 118) (off := 110) hC dX12_count_8 (by rw [h_]; decide) (by rw [h_]; decide) (by rw [h_]; rfl) (by decide) ?_
      refine j_iconst (v := 0) hC dX12_count_118 (by decide) ?_
      refine j_istore_n (i := 3) (lv' := [(3, .int (0 : Int32)), (2, .int (0 : Int32)), (0, .ref (ad 0)), (1, .int a1)]) hC dX12_count_119 rfl (by decide) rfl ?_
      obtain ⟨n_, hv⟩ := hv
      exact j_lv [2, 1, 0] rfl (lM_count_120 hC hQ n_ _ _ _ hv)
    | 5, _, h_ =>
      have hv := hv.2.2.2.2.2 h_
      refine j_tableIn (tgt := 153) (off := 145) hC dX12_count_8 (by rw [h_]; decide) (by rw [h_]; decide) (by rw [h_]; rfl) (by decide) ?_
      refine j_aload_n (i := 0) hC dX12_count_153 rfl 1 rfl ?_
      refine j_get (C := RX12) (T := TX12) (N := 22) (v := .int (m_ships g)) hC hinX12 0 (wM_c0 ad cy _) rfl 17 (by decide) (mw 7 rfl) rfl rfl dX12_count_154 ?_
      exact j_iret hC hQ dX12_count_157 rfl hv
    | j_ + 6, hj_, _ => exact absurd hj_ (by omega)
theorem hdM_status : yX12_status.cls = RX12 ∧ yX12_status.cls ≠ "java/lang/invoke/MethodHandle" ∧ yX12_status.cls ≠ "java/lang/invoke/VarHandle" ∧ (parseMethodDescriptor yX12_status.desc).map (fun d => d.parameters.length) = some 0 := by decide +kernel
abbrev rM_status : Room := { frames := 0, cells := 0, slots := 0, locals := 0 }
def vM_status (g : GM) (post : Int32 → GM → Prop) : Prop :=
  post (m_status g) (sm_thrown g (0 : Int32))
set_option maxHeartbeats 4000000 in
set_option maxRecDepth 100000 in
theorem cM_status {l : Launch} {D : va_G} {ad : Nat → Nat} {cy : Nat → ClassId} {g : GM} {post : Int32 → GM → Prop} (hv : vM_status g post) : jMi l yX12_status wsX12_status rM_status D (tyM cy) [.ref (ad 0)] (wM ad cy g) (wM ad cy) post 0 0 := by
  refine j_meti (cc := cX12_status) (nL := 1) (rt := (some .int)) (by decide) (Nat.le_of_ble_eq_true rfl) ?_
  intro Γ hC hQ _
  have hC : jC Γ l rM_status D 1 RX12 cX12_status wsX12_status (tyM cy) := hC
  have hinX12 : ∀ w ∈ wsX120, w ∈ wsX12_status := fun w h => List.mem_cons_of_mem _ (List.mem_append_right _ h)
  refine j_lv (lv' := [(0, .ref (ad 0))]) [0] rfl ?_
  unfold vM_status at hv
  refine j_aload_n (i := 0) hC dX12_status_0 rfl 0 rfl ?_
  refine j_iconst (v := 0) hC dX12_status_1 (by decide) ?_
  refine j_put (C := RX12) (T := TX12) (N := 22) (ty := .int) hC hinX12 tyX12 tyX12_ok nmX12 0 (wM_c0 ad cy _) rfl 0 (by decide) (mw 1 rfl) rfl rfl fdX12_0 rfl rfl (Nat.le_of_ble_eq_true rfl) (wM_p_thrown ad cy _ _) dX12_status_2 ?_
  refine j_aload_n (i := 0) hC dX12_status_5 rfl 0 rfl ?_
  refine j_get (C := RX12) (T := TX12) (N := 22) (v := .int (m_status g)) hC hinX12 0 (wM_c0 ad cy _) rfl 1 (by decide) (mw 2 rfl) rfl rfl dX12_status_6 ?_
  exact j_iret hC hQ dX12_status_9 rfl hv
end
