section
-- ===== PART A: goes FIRST, ahead of the names: the tables' words, and 'selects' of the private methods out of them =====
/-- a private method of a class that the tables say can be made, by its rows of tables_1 -/
def lw_okq (q : MethodName × Nat) : Prop := (q.1.cls ≠ "java/lang/invoke/MethodHandle" ∧ q.1.cls ≠ "java/lang/invoke/VarHandle") ∧ Cond.instantiable q.1.cls q.2 ∈ tables_1 ∧ Cond.privateMethod q.1 ∈ tables_1 ∧ Cond.instanceMethod q.1 ∈ tables_1
theorem lw_p0 : lw_okq (⟨"SeaGates", "found", "(I)I"⟩, 8) := ⟨⟨by decide +kernel, by decide +kernel⟩, List.mem_of_getElem? (i := 18) (by decide +kernel), List.mem_of_getElem? (i := 214) (by decide +kernel), List.mem_of_getElem? (i := 215) (by decide +kernel)⟩
theorem lw_p1 : lw_okq (⟨"SeaGates", "fine", "(I)I"⟩, 8) := ⟨⟨by decide +kernel, by decide +kernel⟩, List.mem_of_getElem? (i := 18) (by decide +kernel), List.mem_of_getElem? (i := 223) (by decide +kernel), List.mem_of_getElem? (i := 224) (by decide +kernel)⟩
theorem lw_p2 : lw_okq (⟨"SeaGates$Sheets", "hasPlaces", "(III)Z"⟩, 3) := ⟨⟨by decide +kernel, by decide +kernel⟩, List.mem_of_getElem? (i := 26) (by decide +kernel), List.mem_of_getElem? (i := 239) (by decide +kernel), List.mem_of_getElem? (i := 240) (by decide +kernel)⟩
theorem lw_p3 : lw_okq (⟨"SeaGates$Sea", "headOf", "(II)I"⟩, 4) := ⟨⟨by decide +kernel, by decide +kernel⟩, List.mem_of_getElem? (i := 49) (by decide +kernel), List.mem_of_getElem? (i := 289) (by decide +kernel), List.mem_of_getElem? (i := 290) (by decide +kernel)⟩
theorem lw_p4 : lw_okq (⟨"SeaGates$Sea", "areAlike", "(III)Z"⟩, 4) := ⟨⟨by decide +kernel, by decide +kernel⟩, List.mem_of_getElem? (i := 49) (by decide +kernel), List.mem_of_getElem? (i := 293) (by decide +kernel), List.mem_of_getElem? (i := 294) (by decide +kernel)⟩
theorem lw_p5 : lw_okq (⟨"SeaGates$Plan", "decideHour", "(I)V"⟩, 7) := ⟨⟨by decide +kernel, by decide +kernel⟩, List.mem_of_getElem? (i := 93) (by decide +kernel), List.mem_of_getElem? (i := 316) (by decide +kernel), List.mem_of_getElem? (i := 317) (by decide +kernel)⟩
theorem lw_p6 : lw_okq (⟨"SeaGates$Plan", "decideGroup", "(II)V"⟩, 7) := ⟨⟨by decide +kernel, by decide +kernel⟩, List.mem_of_getElem? (i := 93) (by decide +kernel), List.mem_of_getElem? (i := 321) (by decide +kernel), List.mem_of_getElem? (i := 322) (by decide +kernel)⟩
theorem lw_p7 : lw_okq (⟨"SeaGates$Plan", "lossFrom", "(IIIIZ)J"⟩, 7) := ⟨⟨by decide +kernel, by decide +kernel⟩, List.mem_of_getElem? (i := 93) (by decide +kernel), List.mem_of_getElem? (i := 329) (by decide +kernel), List.mem_of_getElem? (i := 330) (by decide +kernel)⟩
theorem lw_p8 : lw_okq (⟨"SeaGates", "becomes", "(IZ)I"⟩, 8) := ⟨⟨by decide +kernel, by decide +kernel⟩, List.mem_of_getElem? (i := 18) (by decide +kernel), List.mem_of_getElem? (i := 477) (by decide +kernel), List.mem_of_getElem? (i := 478) (by decide +kernel)⟩
theorem lw_p9 : lw_okq (⟨"SeaGates$Row", "endByHand", "(II)I"⟩, 3) := ⟨⟨by decide +kernel, by decide +kernel⟩, List.mem_of_getElem? (i := 127) (by decide +kernel), List.mem_of_getElem? (i := 500) (by decide +kernel), List.mem_of_getElem? (i := 501) (by decide +kernel)⟩
theorem lw_p10 : lw_okq (⟨"SeaGatesModel", "found", "(I)I"⟩, 22) := ⟨⟨by decide +kernel, by decide +kernel⟩, List.mem_of_getElem? (i := 640) (by decide +kernel), List.mem_of_getElem? (i := 727) (by decide +kernel), List.mem_of_getElem? (i := 728) (by decide +kernel)⟩
theorem lw_p11 : lw_okq (⟨"SeaGatesModel", "findBest", "()V"⟩, 22) := ⟨⟨by decide +kernel, by decide +kernel⟩, List.mem_of_getElem? (i := 640) (by decide +kernel), List.mem_of_getElem? (i := 766) (by decide +kernel), List.mem_of_getElem? (i := 767) (by decide +kernel)⟩
theorem lw_p12 : lw_okq (⟨"SeaGatesModel", "groupOf", "(II)I"⟩, 22) := ⟨⟨by decide +kernel, by decide +kernel⟩, List.mem_of_getElem? (i := 640) (by decide +kernel), List.mem_of_getElem? (i := 770) (by decide +kernel), List.mem_of_getElem? (i := 771) (by decide +kernel)⟩
theorem lw_p13 : lw_okq (⟨"SeaGatesModel", "lossBy", "(IIZI)J"⟩, 22) := ⟨⟨by decide +kernel, by decide +kernel⟩, List.mem_of_getElem? (i := 640) (by decide +kernel), List.mem_of_getElem? (i := 774) (by decide +kernel), List.mem_of_getElem? (i := 775) (by decide +kernel)⟩
theorem lw_p14 : lw_okq (⟨"SeaGatesModel", "after", "(IZI)I"⟩, 22) := ⟨⟨by decide +kernel, by decide +kernel⟩, List.mem_of_getElem? (i := 640) (by decide +kernel), List.mem_of_getElem? (i := 778) (by decide +kernel), List.mem_of_getElem? (i := 779) (by decide +kernel)⟩
theorem lw_p15 : lw_okq (⟨"SeaGatesModel", "lostIn", "(IIZI)I"⟩, 22) := ⟨⟨by decide +kernel, by decide +kernel⟩, List.mem_of_getElem? (i := 640) (by decide +kernel), List.mem_of_getElem? (i := 782) (by decide +kernel), List.mem_of_getElem? (i := 783) (by decide +kernel)⟩
def lw_privs_1 : List (MethodName × Nat) := [(⟨"SeaGates", "found", "(I)I"⟩, 8), (⟨"SeaGates", "fine", "(I)I"⟩, 8), (⟨"SeaGates$Sheets", "hasPlaces", "(III)Z"⟩, 3), (⟨"SeaGates$Sea", "headOf", "(II)I"⟩, 4), (⟨"SeaGates$Sea", "areAlike", "(III)Z"⟩, 4), (⟨"SeaGates$Plan", "decideHour", "(I)V"⟩, 7), (⟨"SeaGates$Plan", "decideGroup", "(II)V"⟩, 7), (⟨"SeaGates$Plan", "lossFrom", "(IIIIZ)J"⟩, 7), (⟨"SeaGates", "becomes", "(IZ)I"⟩, 8), (⟨"SeaGates$Row", "endByHand", "(II)I"⟩, 3), (⟨"SeaGatesModel", "found", "(I)I"⟩, 22), (⟨"SeaGatesModel", "findBest", "()V"⟩, 22), (⟨"SeaGatesModel", "groupOf", "(II)I"⟩, 22), (⟨"SeaGatesModel", "lossBy", "(IIZI)J"⟩, 22), (⟨"SeaGatesModel", "after", "(IZI)I"⟩, 22), (⟨"SeaGatesModel", "lostIn", "(IIZI)I"⟩, 22)]
theorem lw_r1 : ∀ q ∈ lw_privs_1, lw_okq q := List.forall_mem_cons.mpr ⟨lw_p0, List.forall_mem_cons.mpr ⟨lw_p1, List.forall_mem_cons.mpr ⟨lw_p2, List.forall_mem_cons.mpr ⟨lw_p3, List.forall_mem_cons.mpr ⟨lw_p4, List.forall_mem_cons.mpr ⟨lw_p5, List.forall_mem_cons.mpr ⟨lw_p6, List.forall_mem_cons.mpr ⟨lw_p7, List.forall_mem_cons.mpr ⟨lw_p8, List.forall_mem_cons.mpr ⟨lw_p9, List.forall_mem_cons.mpr ⟨lw_p10, List.forall_mem_cons.mpr ⟨lw_p11, List.forall_mem_cons.mpr ⟨lw_p12, List.forall_mem_cons.mpr ⟨lw_p13, List.forall_mem_cons.mpr ⟨lw_p14, List.forall_mem_cons.mpr ⟨lw_p15, fun _ h => absurd h List.not_mem_nil⟩⟩⟩⟩⟩⟩⟩⟩⟩⟩⟩⟩⟩⟩⟩⟩
theorem lw_p16 : lw_okq (⟨"SeaGatesModel", "waterIn", "(IIZI)I"⟩, 22) := ⟨⟨by decide +kernel, by decide +kernel⟩, List.mem_of_getElem? (i := 640) (by decide +kernel), List.mem_of_getElem? (i := 789) (by decide +kernel), List.mem_of_getElem? (i := 790) (by decide +kernel)⟩
theorem lw_p17 : lw_okq (⟨"SeaGatesModel", "isGate", "(I)Z"⟩, 22) := ⟨⟨by decide +kernel, by decide +kernel⟩, List.mem_of_getElem? (i := 640) (by decide +kernel), List.mem_of_getElem? (i := 821) (by decide +kernel), List.mem_of_getElem? (i := 822) (by decide +kernel)⟩
theorem lw_p18 : lw_okq (⟨"SeaGatesModel", "timeBy", "(II)I"⟩, 22) := ⟨⟨by decide +kernel, by decide +kernel⟩, List.mem_of_getElem? (i := 640) (by decide +kernel), List.mem_of_getElem? (i := 833) (by decide +kernel), List.mem_of_getElem? (i := 834) (by decide +kernel)⟩
theorem lw_p19 : lw_okq (⟨"SeaGatesModel", "closingsOf", "(IIIIII)I"⟩, 22) := ⟨⟨by decide +kernel, by decide +kernel⟩, List.mem_of_getElem? (i := 640) (by decide +kernel), List.mem_of_getElem? (i := 852) (by decide +kernel), List.mem_of_getElem? (i := 853) (by decide +kernel)⟩
theorem lw_p20 : lw_okq (⟨"SeaGatesModel", "kindOf", "(I)I"⟩, 22) := ⟨⟨by decide +kernel, by decide +kernel⟩, List.mem_of_getElem? (i := 640) (by decide +kernel), List.mem_of_getElem? (i := 864) (by decide +kernel), List.mem_of_getElem? (i := 865) (by decide +kernel)⟩
theorem lw_p21 : lw_okq (⟨"SeaGatesModel", "cost", "(I)I"⟩, 22) := ⟨⟨by decide +kernel, by decide +kernel⟩, List.mem_of_getElem? (i := 640) (by decide +kernel), List.mem_of_getElem? (i := 876) (by decide +kernel), List.mem_of_getElem? (i := 877) (by decide +kernel)⟩
theorem lw_p22 : lw_okq (⟨"SeaGatesModel", "began", "(I)V"⟩, 22) := ⟨⟨by decide +kernel, by decide +kernel⟩, List.mem_of_getElem? (i := 640) (by decide +kernel), List.mem_of_getElem? (i := 880) (by decide +kernel), List.mem_of_getElem? (i := 881) (by decide +kernel)⟩
theorem lw_p23 : lw_okq (⟨"SeaGatesModel", "marked", "(I)I"⟩, 22) := ⟨⟨by decide +kernel, by decide +kernel⟩, List.mem_of_getElem? (i := 640) (by decide +kernel), List.mem_of_getElem? (i := 884) (by decide +kernel), List.mem_of_getElem? (i := 885) (by decide +kernel)⟩
def lw_privs_2 : List (MethodName × Nat) := [(⟨"SeaGatesModel", "waterIn", "(IIZI)I"⟩, 22), (⟨"SeaGatesModel", "isGate", "(I)Z"⟩, 22), (⟨"SeaGatesModel", "timeBy", "(II)I"⟩, 22), (⟨"SeaGatesModel", "closingsOf", "(IIIIII)I"⟩, 22), (⟨"SeaGatesModel", "kindOf", "(I)I"⟩, 22), (⟨"SeaGatesModel", "cost", "(I)I"⟩, 22), (⟨"SeaGatesModel", "began", "(I)V"⟩, 22), (⟨"SeaGatesModel", "marked", "(I)I"⟩, 22)]
theorem lw_r2 : ∀ q ∈ lw_privs_2, lw_okq q := List.forall_mem_cons.mpr ⟨lw_p16, List.forall_mem_cons.mpr ⟨lw_p17, List.forall_mem_cons.mpr ⟨lw_p18, List.forall_mem_cons.mpr ⟨lw_p19, List.forall_mem_cons.mpr ⟨lw_p20, List.forall_mem_cons.mpr ⟨lw_p21, List.forall_mem_cons.mpr ⟨lw_p22, List.forall_mem_cons.mpr ⟨lw_p23, fun _ h => absurd h List.not_mem_nil⟩⟩⟩⟩⟩⟩⟩⟩
def lw_privs : List (MethodName × Nat) := lw_privs_1 ++ (lw_privs_2)
def lw_tbl : List Cond := k2_sels lw_privs ++ tables_1
theorem lw_privs_ok : ∀ q ∈ lw_privs, lw_okq q := by
  show ∀ q ∈ lw_privs_1 ++ (lw_privs_2), lw_okq q
  exact List.forall_mem_append.mpr ⟨lw_r1, lw_r2⟩
-- ===== end of PART A; then your names; then what follows =====
end
section
/-! ===== BEGIN words of one list among another's, by their places ===== -/
theorem goodIn_r {big : List Cond} (ws : List Cond) (ps : List Nat) (hp : ws = ps.filterMap (fun i => big[i]?)) (h : ws.all goodWord = true) : GoodIn big ws := by
  intro w hw
  have h1 := List.all_eq_true.mp h w hw
  rw [hp] at hw
  obtain ⟨i, -, hi⟩ := List.mem_filterMap.mp hw
  have hm : w ∈ big := by first | exact List.mem_of_getElem? hi | exact List.getElem?_mem hi
  exact ⟨hm, good_of_word h1⟩
theorem goodIn_app {big a b : List Cond} (ha : GoodIn big a) (hb : GoodIn big b) : GoodIn big (a ++ b) := fun w h => (List.mem_append.mp h).elim (ha w) (hb w)
theorem goodIn_ca {big a b : List Cond} {c : Cond} (ha : GoodIn big (c :: a)) (hb : GoodIn big b) : GoodIn big (c :: (a ++ b)) := fun w h => (List.mem_cons.mp h).elim (fun e => ha w (List.mem_cons.mpr (Or.inl e))) (fun h => (List.mem_append.mp h).elim (fun h => ha w (List.mem_cons.mpr (Or.inr h))) (hb w))
theorem goodIn_sub {big ws : List Cond} (hm : ∀ w ∈ ws, w ∈ big) (h : ws.all goodWord = true) : GoodIn big ws := fun w hw => ⟨hm w hw, good_of_word (List.all_eq_true.mp h w hw)⟩
/-! ===== END ===== -/

/-! ===== BEGIN printed: names, fields, word lists, decode rows ===== -/
def RX0 : String := "SeaGates$Barrier"
def TX0 : u_T := fun k => match k with
  | 0 => ("SeaGates$Barrier", "rules", "[I", true)
  | 1 => ("SeaGates$Barrier", "rivers", "[I", true)
  | _ => ("SeaGates$Barrier", "sea", "LSeaGates$Sea;", true)
def tyX0 : Nat → FieldType := fun k => match k with
  | 0 => .array .int
  | 1 => .array .int
  | _ => .object "SeaGates$Sea"
abbrev wsX00 : List Cond := u_ws RX0 TX0 3
theorem nmX0 : ∀ a, a < 3 → ∀ b, b < 3 → a ≠ b → (TX0 a).2.1 ≠ (TX0 b).2.1 := by decide +kernel
theorem tyX0_ok : ∀ k, k < 3 → parseFieldDescriptor (TX0 k).2.2.1 = some (tyX0 k) := by decide +kernel
abbrev cX0_init : ByteArray := prog_2_method_1_code
def yX0_init : MethodName := ⟨RX0, "<init>", "(LSeaGates$Sea;)V"⟩
abbrev cX0_mayBeTold : ByteArray := prog_2_method_2_code
def yX0_mayBeTold : MethodName := ⟨RX0, "mayBeTold", "(I)Z"⟩
abbrev cX0_order : ByteArray := prog_2_method_3_code
def yX0_order : MethodName := ⟨RX0, "order", "(IZ)I"⟩
abbrev cX0_how : ByteArray := prog_2_method_4_code
def yX0_how : MethodName := ⟨RX0, "how", "(I)I"⟩
abbrev cX0_stands : ByteArray := prog_2_method_5_code
def yX0_stands : MethodName := ⟨RX0, "stands", "(IZ)I"⟩
abbrev cX0_next : ByteArray := prog_2_method_6_code
def yX0_next : MethodName := ⟨RX0, "next", "(II)I"⟩
abbrev cX0_water : ByteArray := prog_2_method_7_code
def yX0_water : MethodName := ⟨RX0, "water", "(III)I"⟩
abbrev cX0_lost : ByteArray := prog_2_method_8_code
def yX0_lost : MethodName := ⟨RX0, "lost", "(IIIZ)I"⟩
abbrev cX0_lossOfOneOrder : ByteArray := prog_2_method_9_code
def yX0_lossOfOneOrder : MethodName := ⟨RX0, "lossOfOneOrder", "(I)J"⟩
def RX1 : String := "SeaGates$Fairway"
def TX1 : u_T := fun k => match k with
  | 0 => ("SeaGates$Fairway", "minutes", "[I", true)
  | 1 => ("SeaGates$Fairway", "passing", "[I", true)
  | 2 => ("SeaGates$Fairway", "inTurn", "[I", true)
  | _ => ("SeaGates$Fairway", "size", "I", false)
def tyX1 : Nat → FieldType := fun k => match k with
  | 0 => .array .int
  | 1 => .array .int
  | 2 => .array .int
  | _ => .int
abbrev wsX10 : List Cond := u_ws RX1 TX1 4
theorem nmX1 : ∀ a, a < 4 → ∀ b, b < 4 → a ≠ b → (TX1 a).2.1 ≠ (TX1 b).2.1 := by decide +kernel
theorem tyX1_ok : ∀ k, k < 4 → parseFieldDescriptor (TX1 k).2.2.1 = some (tyX1 k) := by decide +kernel
abbrev cX1_init : ByteArray := prog_3_method_1_code
def yX1_init : MethodName := ⟨RX1, "<init>", "()V"⟩
abbrev cX1_add : ByteArray := prog_3_method_2_code
def yX1_add : MethodName := ⟨RX1, "add", "(II)I"⟩
abbrev cX1_waitOf : ByteArray := prog_3_method_3_code
def yX1_waitOf : MethodName := ⟨RX1, "waitOf", "(III)I"⟩
def RX2 : String := "SeaGates$Gate"
def TX2 : u_T := fun k => match k with
  | 0 => ("SeaGates$Gate", "minutes", "I", true)
  | 1 => ("SeaGates$Gate", "hand", "I", true)
  | _ => ("SeaGates$Gate", "failed", "Z", false)
def tyX2 : Nat → FieldType := fun k => match k with
  | 0 => .int
  | 1 => .int
  | _ => .boolean
abbrev wsX20 : List Cond := u_ws RX2 TX2 3
theorem nmX2 : ∀ a, a < 3 → ∀ b, b < 3 → a ≠ b → (TX2 a).2.1 ≠ (TX2 b).2.1 := by decide +kernel
theorem tyX2_ok : ∀ k, k < 3 → parseFieldDescriptor (TX2 k).2.2.1 = some (tyX2 k) := by decide +kernel
abbrev cX2_init : ByteArray := prog_4_method_1_code
def yX2_init : MethodName := ⟨RX2, "<init>", "(II)V"⟩
abbrev cX2_toldAs : ByteArray := prog_4_method_2_code
def yX2_toldAs : MethodName := ⟨RX2, "toldAs", "()I"⟩
abbrev cX2_cost : ByteArray := prog_4_method_3_code
def yX2_cost : MethodName := ⟨RX2, "cost", "(LSeaGates$Trace;)I"⟩
abbrev cX2_mark : ByteArray := prog_4_method_4_code
def yX2_mark : MethodName := ⟨RX2, "mark", "(LSeaGates$Trace;)I"⟩
def RX3 : String := "SeaGates$Handed"
def TX3 : u_T := fun k => match k with
  | 0 => ("SeaGates$Gate", "minutes", "I", true)
  | 1 => ("SeaGates$Gate", "hand", "I", true)
  | _ => ("SeaGates$Gate", "failed", "Z", false)
def tyX3 : Nat → FieldType := fun k => match k with
  | 0 => .int
  | 1 => .int
  | _ => .boolean
abbrev wsX30 : List Cond := u_ws RX3 TX3 3
theorem nmX3 : ∀ a, a < 3 → ∀ b, b < 3 → a ≠ b → (TX3 a).2.1 ≠ (TX3 b).2.1 := by decide +kernel
theorem tyX3_ok : ∀ k, k < 3 → parseFieldDescriptor (TX3 k).2.2.1 = some (tyX3 k) := by decide +kernel
abbrev cX3_init : ByteArray := prog_5_method_1_code
def yX3_init : MethodName := ⟨RX3, "<init>", "(II)V"⟩
abbrev cX3_toldAs : ByteArray := prog_5_method_2_code
def yX3_toldAs : MethodName := ⟨RX3, "toldAs", "()I"⟩
abbrev cX3_cost : ByteArray := prog_5_method_3_code
def yX3_cost : MethodName := ⟨RX3, "cost", "(LSeaGates$Trace;)I"⟩
abbrev cX3_mark : ByteArray := prog_5_method_4_code
def yX3_mark : MethodName := ⟨RX3, "mark", "(LSeaGates$Trace;)I"⟩
def RX4 : String := "SeaGates$Plan"
def TX4 : u_T := fun k => match k with
  | 0 => ("SeaGates$Plan", "sea", "LSeaGates$Sea;", true)
  | 1 => ("SeaGates$Plan", "barrier", "LSeaGates$Barrier;", true)
  | 2 => ("SeaGates$Plan", "orders", "[[I", true)
  | 3 => ("SeaGates$Plan", "now", "[[J", true)
  | 4 => ("SeaGates$Plan", "then", "[[J", true)
  | 5 => ("SeaGates$Plan", "loss", "J", false)
  | _ => ("SeaGates$Plan", "stale", "Z", false)
def tyX4 : Nat → FieldType := fun k => match k with
  | 0 => .object "SeaGates$Sea"
  | 1 => .object "SeaGates$Barrier"
  | 2 => .array (.array .int)
  | 3 => .array (.array .long)
  | 4 => .array (.array .long)
  | 5 => .long
  | _ => .boolean
abbrev wsX40 : List Cond := u_ws RX4 TX4 7
theorem nmX4 : ∀ a, a < 7 → ∀ b, b < 7 → a ≠ b → (TX4 a).2.1 ≠ (TX4 b).2.1 := by decide +kernel
theorem tyX4_ok : ∀ k, k < 7 → parseFieldDescriptor (TX4 k).2.2.1 = some (tyX4 k) := by decide +kernel
abbrev cX4_init : ByteArray := prog_6_method_1_code
def yX4_init : MethodName := ⟨RX4, "<init>", "(LSeaGates$Sea;LSeaGates$Barrier;)V"⟩
abbrev cX4_refresh : ByteArray := prog_6_method_2_code
def yX4_refresh : MethodName := ⟨RX4, "refresh", "()V"⟩
abbrev cX4_decideHour : ByteArray := prog_6_method_3_code
def yX4_decideHour : MethodName := ⟨RX4, "decideHour", "(I)V"⟩
abbrev cX4_decideGroup : ByteArray := prog_6_method_4_code
def yX4_decideGroup : MethodName := ⟨RX4, "decideGroup", "(II)V"⟩
abbrev cX4_lossFrom : ByteArray := prog_6_method_5_code
def yX4_lossFrom : MethodName := ⟨RX4, "lossFrom", "(IIIIZ)J"⟩
abbrev cX4_tells : ByteArray := prog_6_method_6_code
def yX4_tells : MethodName := ⟨RX4, "tells", "(III)Z"⟩
abbrev cX4_stateAt : ByteArray := prog_6_method_7_code
def yX4_stateAt : MethodName := ⟨RX4, "stateAt", "(II)I"⟩
def RX5 : String := "SeaGates$Row"
def TX5 : u_T := fun k => match k with
  | 0 => ("SeaGates$Row", "gates", "[LSeaGates$Gate;", true)
  | 1 => ("SeaGates$Row", "free", "[I", true)
  | _ => ("SeaGates$Row", "size", "I", false)
def tyX5 : Nat → FieldType := fun k => match k with
  | 0 => .array (.object "SeaGates$Gate")
  | 1 => .array .int
  | _ => .int
abbrev wsX50 : List Cond := u_ws RX5 TX5 3
theorem nmX5 : ∀ a, a < 3 → ∀ b, b < 3 → a ≠ b → (TX5 a).2.1 ≠ (TX5 b).2.1 := by decide +kernel
theorem tyX5_ok : ∀ k, k < 3 → parseFieldDescriptor (TX5 k).2.2.1 = some (tyX5 k) := by decide +kernel
abbrev cX5_init : ByteArray := prog_7_method_1_code
def yX5_init : MethodName := ⟨RX5, "<init>", "()V"⟩
abbrev cX5_add : ByteArray := prog_7_method_2_code
def yX5_add : MethodName := ⟨RX5, "add", "(LSeaGates$Gate;)I"⟩
abbrev cX5_at : ByteArray := prog_7_method_3_code
def yX5_at : MethodName := ⟨RX5, "at", "(I)LSeaGates$Gate;"⟩
abbrev cX5_failedOnes : ByteArray := prog_7_method_4_code
def yX5_failedOnes : MethodName := ⟨RX5, "failedOnes", "()I"⟩
abbrev cX5_timeToShut : ByteArray := prog_7_method_5_code
def yX5_timeToShut : MethodName := ⟨RX5, "timeToShut", "(II)I"⟩
abbrev cX5_endByHand : ByteArray := prog_7_method_6_code
def yX5_endByHand : MethodName := ⟨RX5, "endByHand", "(II)I"⟩
abbrev cX5_worstTime : ByteArray := prog_7_method_7_code
def yX5_worstTime : MethodName := ⟨RX5, "worstTime", "(I)I"⟩
def RX6 : String := "SeaGates$Sea"
def TX6 : u_T := fun k => match k with
  | 0 => ("SeaGates$Sea", "weights", "[I", true)
  | 1 => ("SeaGates$Sea", "levels", "[[I", true)
  | 2 => ("SeaGates$Sea", "heads", "[[I", true)
  | _ => ("SeaGates$Sea", "size", "I", false)
def tyX6 : Nat → FieldType := fun k => match k with
  | 0 => .array .int
  | 1 => .array (.array .int)
  | 2 => .array (.array .int)
  | _ => .int
abbrev wsX60 : List Cond := u_ws RX6 TX6 4
theorem nmX6 : ∀ a, a < 4 → ∀ b, b < 4 → a ≠ b → (TX6 a).2.1 ≠ (TX6 b).2.1 := by decide +kernel
theorem tyX6_ok : ∀ k, k < 4 → parseFieldDescriptor (TX6 k).2.2.1 = some (tyX6 k) := by decide +kernel
abbrev cX6_init : ByteArray := prog_8_method_1_code
def yX6_init : MethodName := ⟨RX6, "<init>", "()V"⟩
abbrev cX6_add : ByteArray := prog_8_method_2_code
def yX6_add : MethodName := ⟨RX6, "add", "(I[II)I"⟩
abbrev cX6_headOf : ByteArray := prog_8_method_3_code
def yX6_headOf : MethodName := ⟨RX6, "headOf", "(II)I"⟩
abbrev cX6_areAlike : ByteArray := prog_8_method_4_code
def yX6_areAlike : MethodName := ⟨RX6, "areAlike", "(III)Z"⟩
abbrev cX6_groupsAt : ByteArray := prog_8_method_5_code
def yX6_groupsAt : MethodName := ⟨RX6, "groupsAt", "(I)I"⟩
abbrev cX6_weightOfGroup : ByteArray := prog_8_method_6_code
def yX6_weightOfGroup : MethodName := ⟨RX6, "weightOfGroup", "(II)I"⟩
abbrev cX6_allWeights : ByteArray := prog_8_method_7_code
def yX6_allWeights : MethodName := ⟨RX6, "allWeights", "()I"⟩
abbrev cX6_firstAbove : ByteArray := prog_8_method_8_code
def yX6_firstAbove : MethodName := ⟨RX6, "firstAbove", "(I)I"⟩
def RX7 : String := "SeaGates$Sheets"
def TX7 : u_T := fun k => match k with
  | 0 => ("SeaGates$Sheets", "items", "[[I", true)
  | 1 => ("SeaGates$Sheets", "lanes", "[I", true)
  | _ => ("SeaGates$Sheets", "sizes", "[I", true)
def tyX7 : Nat → FieldType := fun k => match k with
  | 0 => .array (.array .int)
  | 1 => .array .int
  | _ => .array .int
abbrev wsX70 : List Cond := u_ws RX7 TX7 3
theorem nmX7 : ∀ a, a < 3 → ∀ b, b < 3 → a ≠ b → (TX7 a).2.1 ≠ (TX7 b).2.1 := by decide +kernel
theorem tyX7_ok : ∀ k, k < 3 → parseFieldDescriptor (TX7 k).2.2.1 = some (tyX7 k) := by decide +kernel
abbrev cX7_init : ByteArray := prog_9_method_1_code
def yX7_init : MethodName := ⟨RX7, "<init>", "()V"⟩
abbrev cX7_isMissing : ByteArray := prog_9_method_2_code
def yX7_isMissing : MethodName := ⟨RX7, "isMissing", "(I)Z"⟩
abbrev cX7_lay : ByteArray := prog_9_method_3_code
def yX7_lay : MethodName := ⟨RX7, "lay", "(III)V"⟩
abbrev cX7_takeAway : ByteArray := prog_9_method_4_code
def yX7_takeAway : MethodName := ⟨RX7, "takeAway", "(I)I"⟩
abbrev cX7_look : ByteArray := prog_9_method_5_code
def yX7_look : MethodName := ⟨RX7, "look", "(III)I"⟩
abbrev cX7_lookAtBoth : ByteArray := prog_9_method_6_code
def yX7_lookAtBoth : MethodName := ⟨RX7, "lookAtBoth", "(IIIII)I"⟩
abbrev cX7_hasPlaces : ByteArray := prog_9_method_7_code
def yX7_hasPlaces : MethodName := ⟨RX7, "hasPlaces", "(III)Z"⟩
abbrev cX7_put : ByteArray := prog_9_method_8_code
def yX7_put : MethodName := ⟨RX7, "put", "(III)I"⟩
abbrev cX7_narrowed : ByteArray := prog_9_method_9_code
def yX7_narrowed : MethodName := ⟨RX7, "narrowed", "(II)I"⟩
abbrev cX7_move : ByteArray := prog_9_method_10_code
def yX7_move : MethodName := ⟨RX7, "move", "(IIIII)V"⟩
abbrev cX7_areWithin : ByteArray := prog_9_method_11_code
def yX7_areWithin : MethodName := ⟨RX7, "areWithin", "(IIII)Z"⟩
abbrev cX7_above : ByteArray := prog_9_method_12_code
def yX7_above : MethodName := ⟨RX7, "above", "(IIIJ)I"⟩
abbrev cX7_present : ByteArray := prog_9_method_13_code
def yX7_present : MethodName := ⟨RX7, "present", "()I"⟩
def RX8 : String := "SeaGates$Slow"
def TX8 : u_T := fun k => match k with
  | 0 => ("SeaGates$Gate", "minutes", "I", true)
  | 1 => ("SeaGates$Gate", "hand", "I", true)
  | _ => ("SeaGates$Gate", "failed", "Z", false)
def tyX8 : Nat → FieldType := fun k => match k with
  | 0 => .int
  | 1 => .int
  | _ => .boolean
abbrev wsX80 : List Cond := u_ws RX8 TX8 3
theorem nmX8 : ∀ a, a < 3 → ∀ b, b < 3 → a ≠ b → (TX8 a).2.1 ≠ (TX8 b).2.1 := by decide +kernel
theorem tyX8_ok : ∀ k, k < 3 → parseFieldDescriptor (TX8 k).2.2.1 = some (tyX8 k) := by decide +kernel
abbrev cX8_init : ByteArray := prog_10_method_1_code
def yX8_init : MethodName := ⟨RX8, "<init>", "(I)V"⟩
abbrev cX8_toldAs : ByteArray := prog_10_method_2_code
def yX8_toldAs : MethodName := ⟨RX8, "toldAs", "()I"⟩
abbrev cX8_cost : ByteArray := prog_10_method_3_code
def yX8_cost : MethodName := ⟨RX8, "cost", "(LSeaGates$Trace;)I"⟩
abbrev cX8_mark : ByteArray := prog_10_method_4_code
def yX8_mark : MethodName := ⟨RX8, "mark", "(LSeaGates$Trace;)I"⟩
def RX9 : String := "SeaGates$Trace"
def TX9 : u_T := fun k => match k with
  | 0 => ("SeaGates$Trace", "numbers", "[I", true)
  | _ => ("SeaGates$Trace", "length", "I", false)
def tyX9 : Nat → FieldType := fun k => match k with
  | 0 => .array .int
  | _ => .int
abbrev wsX90 : List Cond := u_ws RX9 TX9 2
theorem nmX9 : ∀ a, a < 2 → ∀ b, b < 2 → a ≠ b → (TX9 a).2.1 ≠ (TX9 b).2.1 := by decide +kernel
theorem tyX9_ok : ∀ k, k < 2 → parseFieldDescriptor (TX9 k).2.2.1 = some (tyX9 k) := by decide +kernel
abbrev cX9_init : ByteArray := prog_11_method_1_code
def yX9_init : MethodName := ⟨RX9, "<init>", "()V"⟩
abbrev cX9_leave : ByteArray := prog_11_method_2_code
def yX9_leave : MethodName := ⟨RX9, "leave", "(I)V"⟩
def RX10 : String := "SeaGates$Twin"
def TX10 : u_T := fun k => match k with
  | 0 => ("SeaGates$Gate", "minutes", "I", true)
  | 1 => ("SeaGates$Gate", "hand", "I", true)
  | _ => ("SeaGates$Gate", "failed", "Z", false)
def tyX10 : Nat → FieldType := fun k => match k with
  | 0 => .int
  | 1 => .int
  | _ => .boolean
abbrev wsX100 : List Cond := u_ws RX10 TX10 3
theorem nmX10 : ∀ a, a < 3 → ∀ b, b < 3 → a ≠ b → (TX10 a).2.1 ≠ (TX10 b).2.1 := by decide +kernel
theorem tyX10_ok : ∀ k, k < 3 → parseFieldDescriptor (TX10 k).2.2.1 = some (tyX10 k) := by decide +kernel
abbrev cX10_init : ByteArray := prog_12_method_1_code
def yX10_init : MethodName := ⟨RX10, "<init>", "(II)V"⟩
abbrev cX10_toldAs : ByteArray := prog_12_method_2_code
def yX10_toldAs : MethodName := ⟨RX10, "toldAs", "()I"⟩
abbrev cX10_cost : ByteArray := prog_12_method_3_code
def yX10_cost : MethodName := ⟨RX10, "cost", "(LSeaGates$Trace;)I"⟩
def RX11 : String := "SeaGates"
def TX11 : u_T := fun k => match k with
  | 0 => ("SeaGates", "sheets", "LSeaGates$Sheets;", true)
  | 1 => ("SeaGates", "sea", "LSeaGates$Sea;", true)
  | 2 => ("SeaGates", "barrier", "LSeaGates$Barrier;", true)
  | 3 => ("SeaGates", "plan", "LSeaGates$Plan;", true)
  | 4 => ("SeaGates", "row", "LSeaGates$Row;", true)
  | 5 => ("SeaGates", "fairway", "LSeaGates$Fairway;", true)
  | 6 => ("SeaGates", "bodies", "LSeaGates$Trace;", true)
  | _ => ("SeaGates", "finding", "I", false)
def tyX11 : Nat → FieldType := fun k => match k with
  | 0 => .object "SeaGates$Sheets"
  | 1 => .object "SeaGates$Sea"
  | 2 => .object "SeaGates$Barrier"
  | 3 => .object "SeaGates$Plan"
  | 4 => .object "SeaGates$Row"
  | 5 => .object "SeaGates$Fairway"
  | 6 => .object "SeaGates$Trace"
  | _ => .int
abbrev wsX110 : List Cond := u_ws RX11 TX11 8
theorem nmX11 : ∀ a, a < 8 → ∀ b, b < 8 → a ≠ b → (TX11 a).2.1 ≠ (TX11 b).2.1 := by decide +kernel
theorem tyX11_ok : ∀ k, k < 8 → parseFieldDescriptor (TX11 k).2.2.1 = some (tyX11 k) := by decide +kernel
abbrev cX11_init : ByteArray := prog_1_method_1_code
def yX11_init : MethodName := ⟨RX11, "<init>", "()V"⟩
abbrev cX11_sheet : ByteArray := prog_1_method_2_code
def yX11_sheet : MethodName := ⟨RX11, "sheet", "(III)I"⟩
abbrev cX11_set : ByteArray := prog_1_method_3_code
def yX11_set : MethodName := ⟨RX11, "set", "(III)I"⟩
abbrev cX11_copy : ByteArray := prog_1_method_4_code
def yX11_copy : MethodName := ⟨RX11, "copy", "(IIIII)I"⟩
abbrev cX11_drop : ByteArray := prog_1_method_5_code
def yX11_drop : MethodName := ⟨RX11, "drop", "(I)I"⟩
abbrev cX11_world : ByteArray := prog_1_method_6_code
def yX11_world : MethodName := ⟨RX11, "world", "(III)I"⟩
abbrev cX11_river : ByteArray := prog_1_method_7_code
def yX11_river : MethodName := ⟨RX11, "river", "(II)I"⟩
abbrev cX11_rule : ByteArray := prog_1_method_8_code
def yX11_rule : MethodName := ⟨RX11, "rule", "(II)I"⟩
abbrev cX11_mayBeRule : ByteArray := prog_1_method_9_code
def yX11_mayBeRule : MethodName := ⟨RX11, "mayBeRule", "(II)Z"⟩
abbrev cX11_best : ByteArray := prog_1_method_10_code
def yX11_best : MethodName := ⟨RX11, "best", "()J"⟩
abbrev cX11_hour : ByteArray := prog_1_method_11_code
def yX11_hour : MethodName := ⟨RX11, "hour", "(III)I"⟩
abbrev cX11_shutAt : ByteArray := prog_1_method_12_code
def yX11_shutAt : MethodName := ⟨RX11, "shutAt", "(I)J"⟩
abbrev cX11_alarm : ByteArray := prog_1_method_13_code
def yX11_alarm : MethodName := ⟨RX11, "alarm", "()I"⟩
abbrev cX11_groups : ByteArray := prog_1_method_14_code
def yX11_groups : MethodName := ⟨RX11, "groups", "(I)I"⟩
abbrev cX11_gate : ByteArray := prog_1_method_15_code
def yX11_gate : MethodName := ⟨RX11, "gate", "(II)I"⟩
abbrev cX11_gateOf : ByteArray := prog_1_method_16_code
def yX11_gateOf : MethodName := ⟨RX11, "gateOf", "(II)LSeaGates$Gate;"⟩
abbrev cX11_fail : ByteArray := prog_1_method_17_code
def yX11_fail : MethodName := ⟨RX11, "fail", "(I)I"⟩
abbrev cX11_mend : ByteArray := prog_1_method_18_code
def yX11_mend : MethodName := ⟨RX11, "mend", "(I)I"⟩
abbrev cX11_becomes : ByteArray := prog_1_method_19_code
def yX11_becomes : MethodName := ⟨RX11, "becomes", "(IZ)I"⟩
abbrev cX11_time : ByteArray := prog_1_method_20_code
def yX11_time : MethodName := ⟨RX11, "time", "(II)I"⟩
abbrev cX11_ship : ByteArray := prog_1_method_21_code
def yX11_ship : MethodName := ⟨RX11, "ship", "(II)I"⟩
abbrev cX11_waits : ByteArray := prog_1_method_22_code
def yX11_waits : MethodName := ⟨RX11, "waits", "(III)I"⟩
abbrev cX11_closings : ByteArray := prog_1_method_23_code
def yX11_closings : MethodName := ⟨RX11, "closings", "(IIIIII)I"⟩
abbrev cX11_tooMany : ByteArray := prog_1_method_24_code
def yX11_tooMany : MethodName := ⟨RX11, "tooMany", "(IIIIII)I"⟩
abbrev cX11_arePeaks : ByteArray := prog_1_method_25_code
def yX11_arePeaks : MethodName := ⟨RX11, "arePeaks", "(III)Z"⟩
abbrev cX11_levelIn : ByteArray := prog_1_method_26_code
def yX11_levelIn : MethodName := ⟨RX11, "levelIn", "(III)J"⟩
abbrev cX11_kind : ByteArray := prog_1_method_27_code
def yX11_kind : MethodName := ⟨RX11, "kind", "(I)I"⟩
abbrev cX11_as : ByteArray := prog_1_method_28_code
def yX11_as : MethodName := ⟨RX11, "as", "(II)I"⟩
abbrev cX11_isOf : ByteArray := prog_1_method_29_code
def yX11_isOf : MethodName := ⟨RX11, "isOf", "(LSeaGates$Gate;I)Z"⟩
abbrev cX11_ask : ByteArray := prog_1_method_30_code
def yX11_ask : MethodName := ⟨RX11, "ask", "(II)I"⟩
abbrev cX11_trace : ByteArray := prog_1_method_31_code
def yX11_trace : MethodName := ⟨RX11, "trace", "(I)I"⟩
abbrev cX11_count : ByteArray := prog_1_method_32_code
def yX11_count : MethodName := ⟨RX11, "count", "(I)I"⟩
abbrev cX11_status : ByteArray := prog_1_method_33_code
def yX11_status : MethodName := ⟨RX11, "status", "()I"⟩
abbrev cX11_found : ByteArray := prog_1_method_34_code
def yX11_found : MethodName := ⟨RX11, "found", "(I)I"⟩
abbrev cX11_fine : ByteArray := prog_1_method_35_code
def yX11_fine : MethodName := ⟨RX11, "fine", "(I)I"⟩
abbrev cX11_within : ByteArray := prog_1_method_36_code
def yX11_within : MethodName := ⟨RX11, "within", "(III)Z"⟩
def RX12 : String := "SeaGatesModel"
def TX12 : u_T := fun k => match k with
  | 0 => ("SeaGatesModel", "thrown", "I", false)
  | 1 => ("SeaGatesModel", "status", "I", false)
  | 2 => ("SeaGatesModel", "rule", "[I", true)
  | 3 => ("SeaGatesModel", "river", "[I", true)
  | 4 => ("SeaGatesModel", "lane", "[I", true)
  | 5 => ("SeaGatesModel", "many", "[I", true)
  | 6 => ("SeaGatesModel", "item", "[I", true)
  | 7 => ("SeaGatesModel", "worlds", "I", false)
  | 8 => ("SeaGatesModel", "weight", "[I", true)
  | 9 => ("SeaGatesModel", "sea", "[I", true)
  | 10 => ("SeaGatesModel", "least", "[J", true)
  | 11 => ("SeaGatesModel", "isTold", "[Z", true)
  | 12 => ("SeaGatesModel", "gates", "I", false)
  | 13 => ("SeaGatesModel", "minutes", "[I", true)
  | 14 => ("SeaGatesModel", "hand", "[I", true)
  | 15 => ("SeaGatesModel", "hasFailed", "[Z", true)
  | 16 => ("SeaGatesModel", "crew", "[I", true)
  | 17 => ("SeaGatesModel", "ships", "I", false)
  | 18 => ("SeaGatesModel", "comes", "[I", true)
  | 19 => ("SeaGatesModel", "takes", "[I", true)
  | 20 => ("SeaGatesModel", "trace", "[I", true)
  | _ => ("SeaGatesModel", "traced", "I", false)
def tyX12 : Nat → FieldType := fun k => match k with
  | 0 => .int
  | 1 => .int
  | 2 => .array .int
  | 3 => .array .int
  | 4 => .array .int
  | 5 => .array .int
  | 6 => .array .int
  | 7 => .int
  | 8 => .array .int
  | 9 => .array .int
  | 10 => .array .long
  | 11 => .array .boolean
  | 12 => .int
  | 13 => .array .int
  | 14 => .array .int
  | 15 => .array .boolean
  | 16 => .array .int
  | 17 => .int
  | 18 => .array .int
  | 19 => .array .int
  | 20 => .array .int
  | _ => .int
abbrev wsX120 : List Cond := u_ws RX12 TX12 22
theorem nmX12 : ∀ a, a < 22 → ∀ b, b < 22 → a ≠ b → (TX12 a).2.1 ≠ (TX12 b).2.1 := by decide +kernel
theorem tyX12_ok : ∀ k, k < 22 → parseFieldDescriptor (TX12 k).2.2.1 = some (tyX12 k) := by decide +kernel
abbrev cX12_init : ByteArray := prog_14_method_1_code
def yX12_init : MethodName := ⟨RX12, "<init>", "()V"⟩
abbrev cX12_in : ByteArray := prog_14_method_3_code
def yX12_in : MethodName := ⟨RX12, "in", "(JJJ)Z"⟩
abbrev cX12_found : ByteArray := prog_14_method_4_code
def yX12_found : MethodName := ⟨RX12, "found", "(I)I"⟩
abbrev cX12_isSheet : ByteArray := prog_14_method_5_code
def yX12_isSheet : MethodName := ⟨RX12, "isSheet", "(I)Z"⟩
abbrev cX12_sheet : ByteArray := prog_14_method_6_code
def yX12_sheet : MethodName := ⟨RX12, "sheet", "(III)I"⟩
abbrev cX12_set : ByteArray := prog_14_method_7_code
def yX12_set : MethodName := ⟨RX12, "set", "(III)I"⟩
abbrev cX12_copy : ByteArray := prog_14_method_8_code
def yX12_copy : MethodName := ⟨RX12, "copy", "(IIIII)I"⟩
abbrev cX12_drop : ByteArray := prog_14_method_9_code
def yX12_drop : MethodName := ⟨RX12, "drop", "(I)I"⟩
abbrev cX12_world : ByteArray := prog_14_method_10_code
def yX12_world : MethodName := ⟨RX12, "world", "(III)I"⟩
abbrev cX12_river : ByteArray := prog_14_method_11_code
def yX12_river : MethodName := ⟨RX12, "river", "(II)I"⟩
abbrev cX12_rule : ByteArray := prog_14_method_12_code
def yX12_rule : MethodName := ⟨RX12, "rule", "(II)I"⟩
abbrev cX12_groupOf : ByteArray := prog_14_method_13_code
def yX12_groupOf : MethodName := ⟨RX12, "groupOf", "(II)I"⟩
abbrev cX12_stateIn : ByteArray := prog_14_method_14_code
def yX12_stateIn : MethodName := ⟨RX12, "stateIn", "(IZ)I"⟩
abbrev cX12_after : ByteArray := prog_14_method_15_code
def yX12_after : MethodName := ⟨RX12, "after", "(IZI)I"⟩
abbrev cX12_waterIn : ByteArray := prog_14_method_16_code
def yX12_waterIn : MethodName := ⟨RX12, "waterIn", "(IIZI)I"⟩
abbrev cX12_lostIn : ByteArray := prog_14_method_17_code
def yX12_lostIn : MethodName := ⟨RX12, "lostIn", "(IIZI)I"⟩
abbrev cX12_lossBy : ByteArray := prog_14_method_18_code
def yX12_lossBy : MethodName := ⟨RX12, "lossBy", "(IIZI)J"⟩
abbrev cX12_findBest : ByteArray := prog_14_method_19_code
def yX12_findBest : MethodName := ⟨RX12, "findBest", "()V"⟩
abbrev cX12_best : ByteArray := prog_14_method_20_code
def yX12_best : MethodName := ⟨RX12, "best", "()J"⟩
abbrev cX12_hour : ByteArray := prog_14_method_21_code
def yX12_hour : MethodName := ⟨RX12, "hour", "(III)I"⟩
abbrev cX12_shutAt : ByteArray := prog_14_method_22_code
def yX12_shutAt : MethodName := ⟨RX12, "shutAt", "(I)J"⟩
abbrev cX12_alarm : ByteArray := prog_14_method_23_code
def yX12_alarm : MethodName := ⟨RX12, "alarm", "()I"⟩
abbrev cX12_groups : ByteArray := prog_14_method_24_code
def yX12_groups : MethodName := ⟨RX12, "groups", "(I)I"⟩
abbrev cX12_isGate : ByteArray := prog_14_method_25_code
def yX12_isGate : MethodName := ⟨RX12, "isGate", "(I)Z"⟩
abbrev cX12_gate : ByteArray := prog_14_method_26_code
def yX12_gate : MethodName := ⟨RX12, "gate", "(II)I"⟩
abbrev cX12_fail : ByteArray := prog_14_method_27_code
def yX12_fail : MethodName := ⟨RX12, "fail", "(I)I"⟩
abbrev cX12_mend : ByteArray := prog_14_method_28_code
def yX12_mend : MethodName := ⟨RX12, "mend", "(I)I"⟩
abbrev cX12_timeBy : ByteArray := prog_14_method_29_code
def yX12_timeBy : MethodName := ⟨RX12, "timeBy", "(II)I"⟩
abbrev cX12_time : ByteArray := prog_14_method_30_code
def yX12_time : MethodName := ⟨RX12, "time", "(II)I"⟩
abbrev cX12_ship : ByteArray := prog_14_method_31_code
def yX12_ship : MethodName := ⟨RX12, "ship", "(II)I"⟩
abbrev cX12_waits : ByteArray := prog_14_method_32_code
def yX12_waits : MethodName := ⟨RX12, "waits", "(III)I"⟩
abbrev cX12_closingsOf : ByteArray := prog_14_method_33_code
def yX12_closingsOf : MethodName := ⟨RX12, "closingsOf", "(IIIIII)I"⟩
abbrev cX12_closings : ByteArray := prog_14_method_34_code
def yX12_closings : MethodName := ⟨RX12, "closings", "(IIIIII)I"⟩
abbrev cX12_tooMany : ByteArray := prog_14_method_35_code
def yX12_tooMany : MethodName := ⟨RX12, "tooMany", "(IIIIII)I"⟩
abbrev cX12_kindOf : ByteArray := prog_14_method_36_code
def yX12_kindOf : MethodName := ⟨RX12, "kindOf", "(I)I"⟩
abbrev cX12_kind : ByteArray := prog_14_method_37_code
def yX12_kind : MethodName := ⟨RX12, "kind", "(I)I"⟩
abbrev cX12_as : ByteArray := prog_14_method_38_code
def yX12_as : MethodName := ⟨RX12, "as", "(II)I"⟩
abbrev cX12_began : ByteArray := prog_14_method_39_code
def yX12_began : MethodName := ⟨RX12, "began", "(I)V"⟩
abbrev cX12_cost : ByteArray := prog_14_method_40_code
def yX12_cost : MethodName := ⟨RX12, "cost", "(I)I"⟩
abbrev cX12_marked : ByteArray := prog_14_method_41_code
def yX12_marked : MethodName := ⟨RX12, "marked", "(I)I"⟩
abbrev cX12_ask : ByteArray := prog_14_method_42_code
def yX12_ask : MethodName := ⟨RX12, "ask", "(II)I"⟩
abbrev cX12_trace : ByteArray := prog_14_method_43_code
def yX12_trace : MethodName := ⟨RX12, "trace", "(I)I"⟩
abbrev cX12_count : ByteArray := prog_14_method_44_code
def yX12_count : MethodName := ⟨RX12, "count", "(I)I"⟩
abbrev cX12_status : ByteArray := prog_14_method_45_code
def yX12_status : MethodName := ⟨RX12, "status", "()I"⟩
def RJ9 : String := "java/lang/Math"
def TJ9 : u_T := fun k => match k with
  | _ => ("", "", "", false)
def tyJ9 : Nat → FieldType := fun k => match k with
  | _ => .int
abbrev wsJ90 : List Cond := u_ws RJ9 TJ9 0
theorem nmJ9 : ∀ a, a < 0 → ∀ b, b < 0 → a ≠ b → (TJ9 a).2.1 ≠ (TJ9 b).2.1 := by decide +kernel
theorem tyJ9_ok : ∀ k, k < 0 → parseFieldDescriptor (TJ9 k).2.2.1 = some (tyJ9 k) := by decide +kernel
abbrev cJ9_max_7cf53 : ByteArray := prog_15_method_65_code
def yJ9_max_7cf53 : MethodName := ⟨RJ9, "max", "(II)I"⟩
abbrev cJ9_min_7cf53 : ByteArray := prog_15_method_69_code
def yJ9_min_7cf53 : MethodName := ⟨RJ9, "min", "(II)I"⟩
def RJ10 : String := "java/lang/System"
def TJ10 : u_T := fun k => match k with
  | _ => ("", "", "", false)
def tyJ10 : Nat → FieldType := fun k => match k with
  | _ => .int
abbrev wsJ100 : List Cond := u_ws RJ10 TJ10 0
theorem nmJ10 : ∀ a, a < 0 → ∀ b, b < 0 → a ≠ b → (TJ10 a).2.1 ≠ (TJ10 b).2.1 := by decide +kernel
theorem tyJ10_ok : ∀ k, k < 0 → parseFieldDescriptor (TJ10 k).2.2.1 = some (tyJ10 k) := by decide +kernel
def RJ7 : String := "java/util/Arrays"
def TJ7 : u_T := fun k => match k with
  | _ => ("", "", "", false)
def tyJ7 : Nat → FieldType := fun k => match k with
  | _ => .int
abbrev wsJ70 : List Cond := u_ws RJ7 TJ7 0
theorem nmJ7 : ∀ a, a < 0 → ∀ b, b < 0 → a ≠ b → (TJ7 a).2.1 ≠ (TJ7 b).2.1 := by decide +kernel
theorem tyJ7_ok : ∀ k, k < 0 → parseFieldDescriptor (TJ7 k).2.2.1 = some (tyJ7 k) := by decide +kernel
abbrev cJ7_fill_53178 : ByteArray := prog_17_method_103_code
def yJ7_fill_53178 : MethodName := ⟨RJ7, "fill", "([II)V"⟩
def RL : String := "SeaGatesLaw"
abbrev cL_law : ByteArray := code
def yL_law : MethodName := ⟨RL, "law", "([I)Z"⟩
def wsX0_init : List Cond := .code yX0_init cX0_init 2 none :: ([.methodLink RX0 3 objectInit, .instanceMethod objectInit, .code objectInit ⟨#[0xb1]⟩ 1 none, .arrayClass .int, .fieldLink RX0 9 "SeaGates$Barrier" "rules" "[I", .fieldLink RX0 15 "SeaGates$Barrier" "rivers" "[I", .fieldLink RX0 18 "SeaGates$Barrier" "sea" "LSeaGates$Sea;"] ++ wsX00)
def wsX0_mayBeTold : List Cond := .code yX0_mayBeTold cX0_mayBeTold 1 (some .boolean) :: ([])
def wsX0_order : List Cond := .code yX0_order cX0_order 2 (some .int) :: ([])
def wsX0_how : List Cond := .code yX0_how cX0_how 1 (some .int) :: ([])
def wsX0_stands : List Cond := .code yX0_stands cX0_stands 3 (some .int) :: ([.fieldLink RX0 9 "SeaGates$Barrier" "rules" "[I"] ++ wsX00)
def wsX0_next : List Cond := .code yX0_next cX0_next 2 (some .int) :: ([.methodLink RX0 22 yX0_mayBeTold, .static yX0_mayBeTold, .initialized RX0, .code yX0_mayBeTold cX0_mayBeTold 1 (some .boolean)])
def wsX0_water : List Cond := .code yX0_water cX0_water 7 (some .int) :: ([.fieldLink RX0 18 "SeaGates$Barrier" "sea" "LSeaGates$Sea;", .fieldLink RX0 26 "SeaGates$Sea" "levels" "[[I", .methodLink RX0 32 Lib.Math.min.name, .static Lib.Math.min.name, .initialized "java/lang/Math", .code Lib.Math.min.name Lib.Math.min.code 2 (some .int), .fieldLink RX0 15 "SeaGates$Barrier" "rivers" "[I"] ++ wsX00 ++ wsX60)
def wsX0_lost : List Cond := .code yX0_lost cX0_lost 8 (some .int) :: ([.fieldLink RX0 9 "SeaGates$Barrier" "rules" "[I", .methodLink RX0 46 Lib.Math.max.name, .static Lib.Math.max.name, .initialized "java/lang/Math", .code Lib.Math.max.name Lib.Math.max.code 2 (some .int), .methodLink RX0 38 yX0_stands, .instanceMethod yX0_stands, .selects RX0 yX0_stands yX0_stands, .initialized RX0, .code yX0_stands cX0_stands 3 (some .int), .methodLink RX0 42 yX0_water, .instanceMethod yX0_water, .selects RX0 yX0_water yX0_water, .code yX0_water cX0_water 7 (some .int), .fieldLink RX0 18 "SeaGates$Barrier" "sea" "LSeaGates$Sea;", .fieldLink RX0 26 "SeaGates$Sea" "levels" "[[I", .methodLink RX0 32 Lib.Math.min.name, .static Lib.Math.min.name, .code Lib.Math.min.name Lib.Math.min.code 2 (some .int), .fieldLink RX0 15 "SeaGates$Barrier" "rivers" "[I"] ++ wsX00 ++ wsX60)
def wsX0_lossOfOneOrder_r1 : List Cond := [Cond.fieldLink RX0 18 "SeaGates$Barrier" "sea" "LSeaGates$Sea;", Cond.fieldLink RX0 49 "SeaGates$Sea" "size" "I", Cond.fieldLink RX0 53 "SeaGates$Sea" "weights" "[I", Cond.methodLink RX0 56 yX0_lost, Cond.instanceMethod yX0_lost, Cond.selects RX0 yX0_lost yX0_lost, Cond.initialized RX0, Cond.code yX0_lost cX0_lost 8 (some .int), Cond.fieldLink RX0 9 "SeaGates$Barrier" "rules" "[I", Cond.methodLink RX0 46 Lib.Math.max.name, Cond.static Lib.Math.max.name, Cond.initialized "java/lang/Math", Cond.code Lib.Math.max.name Lib.Math.max.code 2 (some .int), Cond.methodLink RX0 38 yX0_stands, Cond.instanceMethod yX0_stands, Cond.selects RX0 yX0_stands yX0_stands, Cond.code yX0_stands cX0_stands 3 (some .int), Cond.methodLink RX0 42 yX0_water, Cond.instanceMethod yX0_water, Cond.selects RX0 yX0_water yX0_water, Cond.code yX0_water cX0_water 7 (some .int), Cond.fieldLink RX0 26 "SeaGates$Sea" "levels" "[[I", Cond.methodLink RX0 32 Lib.Math.min.name, Cond.static Lib.Math.min.name]
def wsX0_lossOfOneOrder_r2 : List Cond := [Cond.code Lib.Math.min.name Lib.Math.min.code 2 (some .int), Cond.fieldLink RX0 15 "SeaGates$Barrier" "rivers" "[I", Cond.methodLink RX0 60 yX0_next, Cond.static yX0_next, Cond.code yX0_next cX0_next 2 (some .int), Cond.methodLink RX0 22 yX0_mayBeTold, Cond.static yX0_mayBeTold, Cond.code yX0_mayBeTold cX0_mayBeTold 1 (some .boolean)]
def wsX0_lossOfOneOrder : List Cond := .code yX0_lossOfOneOrder cX0_lossOfOneOrder 8 (some .long) :: ((wsX0_lossOfOneOrder_r1 ++ wsX0_lossOfOneOrder_r2) ++ wsX00 ++ wsX60)
def wsX1_init : List Cond := .code yX1_init cX1_init 1 none :: ([.methodLink RX1 3 objectInit, .instanceMethod objectInit, .code objectInit ⟨#[0xb1]⟩ 1 none, .arrayClass .int, .fieldLink RX1 9 "SeaGates$Fairway" "minutes" "[I", .fieldLink RX1 15 "SeaGates$Fairway" "passing" "[I", .fieldLink RX1 18 "SeaGates$Fairway" "inTurn" "[I", .fieldLink RX1 21 "SeaGates$Fairway" "size" "I"] ++ wsX10)
def wsX1_add : List Cond := .code yX1_add cX1_add 5 (some .int) :: ([.fieldLink RX1 21 "SeaGates$Fairway" "size" "I", .fieldLink RX1 9 "SeaGates$Fairway" "minutes" "[I", .fieldLink RX1 15 "SeaGates$Fairway" "passing" "[I", .fieldLink RX1 18 "SeaGates$Fairway" "inTurn" "[I"] ++ wsX10)
def wsX1_waitOf : List Cond := .code yX1_waitOf cX1_waitOf 9 (some .int) :: ([.fieldLink RX1 21 "SeaGates$Fairway" "size" "I", .fieldLink RX1 18 "SeaGates$Fairway" "inTurn" "[I", .fieldLink RX1 9 "SeaGates$Fairway" "minutes" "[I", .methodLink RX1 25 Lib.Math.max.name, .static Lib.Math.max.name, .initialized "java/lang/Math", .code Lib.Math.max.name Lib.Math.max.code 2 (some .int), .fieldLink RX1 15 "SeaGates$Fairway" "passing" "[I"] ++ wsX10)
def wsX2_init : List Cond := .code yX2_init cX2_init 3 none :: ([.methodLink RX2 3 objectInit, .instanceMethod objectInit, .code objectInit ⟨#[0xb1]⟩ 1 none, .fieldLink RX2 9 "SeaGates$Gate" "failed" "Z", .fieldLink RX2 15 "SeaGates$Gate" "minutes" "I", .fieldLink RX2 19 "SeaGates$Gate" "hand" "I"] ++ wsX20 ++ wsX30 ++ wsX80 ++ wsX100)
def wsX2_toldAs : List Cond := .code yX2_toldAs cX2_toldAs 1 (some .int) :: ([])
def wsX9_leave : List Cond := .code yX9_leave cX9_leave 2 none :: ([.fieldLink RX9 15 "SeaGates$Trace" "length" "I", .fieldLink RX9 9 "SeaGates$Trace" "numbers" "[I"] ++ wsX90)
def wsX2_cost : List Cond := .code yX2_cost cX2_cost 2 (some .int) :: ([.fieldLink RX2 15 "SeaGates$Gate" "minutes" "I", .methodLink RX2 22 yX9_leave, .instanceMethod yX9_leave, .selects RX9 yX9_leave yX9_leave, .initialized RX9, .code yX9_leave cX9_leave 2 none, .fieldLink RX9 15 "SeaGates$Trace" "length" "I", .fieldLink RX9 9 "SeaGates$Trace" "numbers" "[I"] ++ wsX20 ++ wsX30 ++ wsX80 ++ wsX100 ++ wsX90)
def wsX2_mark : List Cond := .code yX2_mark cX2_mark 2 (some .int) :: ([.fieldLink RX2 9 "SeaGates$Gate" "failed" "Z", .methodLink RX2 22 yX9_leave, .instanceMethod yX9_leave, .selects RX9 yX9_leave yX9_leave, .initialized RX9, .code yX9_leave cX9_leave 2 none, .fieldLink RX9 15 "SeaGates$Trace" "length" "I", .fieldLink RX9 9 "SeaGates$Trace" "numbers" "[I"] ++ wsX20 ++ wsX30 ++ wsX80 ++ wsX100 ++ wsX90)
def wsX3_init : List Cond := .code yX3_init cX3_init 3 none :: ([.methodLink RX3 3 yX2_init, .instanceMethod yX2_init, .initialized RX2, .code yX2_init cX2_init 3 none, .methodLink RX2 3 objectInit, .instanceMethod objectInit, .code objectInit ⟨#[0xb1]⟩ 1 none, .fieldLink RX2 9 "SeaGates$Gate" "failed" "Z", .fieldLink RX2 15 "SeaGates$Gate" "minutes" "I", .fieldLink RX2 19 "SeaGates$Gate" "hand" "I"] ++ wsX20 ++ wsX30 ++ wsX80 ++ wsX100)
def wsX3_toldAs : List Cond := .code yX3_toldAs cX3_toldAs 1 (some .int) :: ([])
def wsX3_cost : List Cond := .code yX3_cost cX3_cost 2 (some .int) :: ([.fieldLink RX3 19 "SeaGates$Handed" "hand" "I", .sameField "SeaGates$Handed" "SeaGates$Gate" "hand" "I", .methodLink RX3 9 yX9_leave, .instanceMethod yX9_leave, .selects RX9 yX9_leave yX9_leave, .initialized RX9, .code yX9_leave cX9_leave 2 none, .fieldLink RX9 15 "SeaGates$Trace" "length" "I", .fieldLink RX9 9 "SeaGates$Trace" "numbers" "[I", .methodLink RX3 15 yX2_cost, .sameMethod "SeaGates$Gate" "SeaGates$Gate" "cost" "(LSeaGates$Trace;)I", .superclass RX3 RX2, .instanceMethod yX2_cost, .initialized RX2, .code yX2_cost cX2_cost 2 (some .int), .fieldLink RX2 15 "SeaGates$Gate" "minutes" "I", .methodLink RX2 22 yX9_leave] ++ wsX20 ++ wsX30 ++ wsX80 ++ wsX100 ++ wsX90)
def wsX10_cost : List Cond := .code yX10_cost cX10_cost 2 (some .int) :: ([.methodLink RX10 9 yX9_leave, .instanceMethod yX9_leave, .selects RX9 yX9_leave yX9_leave, .initialized RX9, .code yX9_leave cX9_leave 2 none, .fieldLink RX9 15 "SeaGates$Trace" "length" "I", .fieldLink RX9 9 "SeaGates$Trace" "numbers" "[I", .methodLink RX10 15 yX3_cost, .sameMethod "SeaGates$Handed" "SeaGates$Handed" "cost" "(LSeaGates$Trace;)I", .superclass RX10 RX3, .instanceMethod yX3_cost, .initialized RX3, .code yX3_cost cX3_cost 2 (some .int), .fieldLink RX3 19 "SeaGates$Handed" "hand" "I", .sameField "SeaGates$Handed" "SeaGates$Gate" "hand" "I", .methodLink RX3 9 yX9_leave, .methodLink RX3 15 yX2_cost, .sameMethod "SeaGates$Gate" "SeaGates$Gate" "cost" "(LSeaGates$Trace;)I", .superclass RX3 RX2, .instanceMethod yX2_cost, .initialized RX2, .code yX2_cost cX2_cost 2 (some .int), .fieldLink RX2 15 "SeaGates$Gate" "minutes" "I", .methodLink RX2 22 yX9_leave] ++ wsX90 ++ wsX20 ++ wsX30 ++ wsX80 ++ wsX100)
def wsX3_mark_r1 : List Cond := [Cond.methodLink RX3 9 yX9_leave, Cond.instanceMethod yX9_leave, Cond.selects RX9 yX9_leave yX9_leave, Cond.initialized RX9, Cond.code yX9_leave cX9_leave 2 none, Cond.fieldLink RX9 15 "SeaGates$Trace" "length" "I", Cond.fieldLink RX9 9 "SeaGates$Trace" "numbers" "[I", Cond.methodLink RX3 25 yX2_mark, Cond.sameMethod "SeaGates$Gate" "SeaGates$Gate" "mark" "(LSeaGates$Trace;)I", Cond.superclass RX3 RX2, Cond.instanceMethod yX2_mark, Cond.initialized RX2, Cond.code yX2_mark cX2_mark 2 (some .int), Cond.fieldLink RX2 9 "SeaGates$Gate" "failed" "Z", Cond.methodLink RX2 22 yX9_leave, Cond.methodLink RX3 28 yX3_cost, Cond.instanceMethod yX3_cost, Cond.selects RX3 yX3_cost yX3_cost, Cond.initialized RX3, Cond.code yX3_cost cX3_cost 2 (some .int), Cond.fieldLink RX3 19 "SeaGates$Handed" "hand" "I", Cond.sameField "SeaGates$Handed" "SeaGates$Gate" "hand" "I", Cond.methodLink RX3 15 yX2_cost, Cond.sameMethod "SeaGates$Gate" "SeaGates$Gate" "cost" "(LSeaGates$Trace;)I"]
def wsX3_mark_r2 : List Cond := [Cond.instanceMethod yX2_cost, Cond.code yX2_cost cX2_cost 2 (some .int), Cond.fieldLink RX2 15 "SeaGates$Gate" "minutes" "I", Cond.methodLink RX3 28 ⟨"SeaGates$Handed", "cost", "(LSeaGates$Trace;)I"⟩, Cond.sameMethod "SeaGates$Handed" "SeaGates$Handed" "cost" "(LSeaGates$Trace;)I", Cond.instanceMethod ⟨"SeaGates$Handed", "cost", "(LSeaGates$Trace;)I"⟩, Cond.selects RX10 ⟨"SeaGates$Handed", "cost", "(LSeaGates$Trace;)I"⟩ yX10_cost, Cond.instanceMethod yX10_cost, Cond.initialized RX10, Cond.code yX10_cost cX10_cost 2 (some .int), Cond.methodLink RX10 9 yX9_leave, Cond.methodLink RX10 15 yX3_cost, Cond.superclass RX10 RX3]
def wsX3_mark : List Cond := .code yX3_mark cX3_mark 2 (some .int) :: ((wsX3_mark_r1 ++ wsX3_mark_r2) ++ wsX90 ++ wsX20 ++ wsX30 ++ wsX80 ++ wsX100)
def wsX4_init : List Cond := .code yX4_init cX4_init 3 none :: ([.methodLink RX4 3 objectInit, .instanceMethod objectInit, .code objectInit ⟨#[0xb1]⟩ 1 none, .classLink RX4 9 "[[I", .arrayClass .int, .fieldLink RX4 11 "SeaGates$Plan" "orders" "[[I", .classLink RX4 16 "[[J", .arrayClass .long, .fieldLink RX4 18 "SeaGates$Plan" "now" "[[J", .fieldLink RX4 21 "SeaGates$Plan" "then" "[[J", .fieldLink RX4 24 "SeaGates$Plan" "loss" "J", .fieldLink RX4 28 "SeaGates$Plan" "stale" "Z", .fieldLink RX4 32 "SeaGates$Plan" "sea" "LSeaGates$Sea;", .fieldLink RX4 36 "SeaGates$Plan" "barrier" "LSeaGates$Barrier;"] ++ wsX40)
def wsX6_weightOfGroup : List Cond := .code yX6_weightOfGroup cX6_weightOfGroup 5 (some .int) :: ([.fieldLink RX6 23 "SeaGates$Sea" "size" "I", .fieldLink RX6 20 "SeaGates$Sea" "heads" "[[I", .fieldLink RX6 9 "SeaGates$Sea" "weights" "[I"] ++ wsX60)
def wsX4_lossFrom_r1 : List Cond := [Cond.fieldLink RX4 36 "SeaGates$Plan" "barrier" "LSeaGates$Barrier;", Cond.fieldLink RX4 32 "SeaGates$Plan" "sea" "LSeaGates$Sea;", Cond.fieldLink RX4 44 "SeaGates$Sea" "size" "I", Cond.fieldLink RX4 50 "SeaGates$Sea" "heads" "[[I", Cond.fieldLink RX4 21 "SeaGates$Plan" "then" "[[J", Cond.methodLink RX4 77 yX0_lost, Cond.instanceMethod yX0_lost, Cond.selects RX0 yX0_lost yX0_lost, Cond.initialized RX0, Cond.code yX0_lost cX0_lost 8 (some .int), Cond.fieldLink RX0 9 "SeaGates$Barrier" "rules" "[I", Cond.methodLink RX0 46 Lib.Math.max.name, Cond.static Lib.Math.max.name, Cond.initialized "java/lang/Math", Cond.code Lib.Math.max.name Lib.Math.max.code 2 (some .int), Cond.methodLink RX0 38 yX0_stands, Cond.instanceMethod yX0_stands, Cond.selects RX0 yX0_stands yX0_stands, Cond.code yX0_stands cX0_stands 3 (some .int), Cond.methodLink RX0 42 yX0_water, Cond.instanceMethod yX0_water, Cond.selects RX0 yX0_water yX0_water, Cond.code yX0_water cX0_water 7 (some .int), Cond.fieldLink RX0 18 "SeaGates$Barrier" "sea" "LSeaGates$Sea;"]
def wsX4_lossFrom_r2 : List Cond := [Cond.fieldLink RX0 26 "SeaGates$Sea" "levels" "[[I", Cond.methodLink RX0 32 Lib.Math.min.name, Cond.static Lib.Math.min.name, Cond.code Lib.Math.min.name Lib.Math.min.code 2 (some .int), Cond.fieldLink RX0 15 "SeaGates$Barrier" "rivers" "[I", Cond.methodLink RX4 81 yX0_stands, Cond.methodLink RX4 85 yX0_next, Cond.static yX0_next, Cond.code yX0_next cX0_next 2 (some .int), Cond.methodLink RX0 22 yX0_mayBeTold, Cond.static yX0_mayBeTold, Cond.code yX0_mayBeTold cX0_mayBeTold 1 (some .boolean)]
def wsX4_lossFrom : List Cond := .code yX4_lossFrom cX4_lossFrom 10 (some .long) :: ((wsX4_lossFrom_r1 ++ wsX4_lossFrom_r2) ++ wsX40 ++ wsX60 ++ wsX00)
def wsX4_decideGroup_r1 : List Cond := [Cond.fieldLink RX4 32 "SeaGates$Plan" "sea" "LSeaGates$Sea;", Cond.fieldLink RX4 11 "SeaGates$Plan" "orders" "[[I", Cond.fieldLink RX4 18 "SeaGates$Plan" "now" "[[J", Cond.methodLink RX4 63 yX6_weightOfGroup, Cond.instanceMethod yX6_weightOfGroup, Cond.selects RX6 yX6_weightOfGroup yX6_weightOfGroup, Cond.initialized RX6, Cond.code yX6_weightOfGroup cX6_weightOfGroup 5 (some .int), Cond.fieldLink RX6 23 "SeaGates$Sea" "size" "I", Cond.fieldLink RX6 20 "SeaGates$Sea" "heads" "[[I", Cond.fieldLink RX6 9 "SeaGates$Sea" "weights" "[I", Cond.methodLink RX4 67 yX4_lossFrom, Cond.instanceMethod yX4_lossFrom, Cond.selects RX4 yX4_lossFrom yX4_lossFrom, Cond.initialized RX4, Cond.code yX4_lossFrom cX4_lossFrom 10 (some .long), Cond.fieldLink RX4 36 "SeaGates$Plan" "barrier" "LSeaGates$Barrier;", Cond.fieldLink RX4 44 "SeaGates$Sea" "size" "I", Cond.fieldLink RX4 50 "SeaGates$Sea" "heads" "[[I", Cond.fieldLink RX4 21 "SeaGates$Plan" "then" "[[J", Cond.methodLink RX4 77 yX0_lost, Cond.instanceMethod yX0_lost, Cond.selects RX0 yX0_lost yX0_lost, Cond.initialized RX0]
def wsX4_decideGroup_r2 : List Cond := [Cond.code yX0_lost cX0_lost 8 (some .int), Cond.fieldLink RX0 9 "SeaGates$Barrier" "rules" "[I", Cond.methodLink RX0 46 Lib.Math.max.name, Cond.static Lib.Math.max.name, Cond.initialized "java/lang/Math", Cond.code Lib.Math.max.name Lib.Math.max.code 2 (some .int), Cond.methodLink RX0 38 yX0_stands, Cond.instanceMethod yX0_stands, Cond.selects RX0 yX0_stands yX0_stands, Cond.code yX0_stands cX0_stands 3 (some .int), Cond.methodLink RX0 42 yX0_water, Cond.instanceMethod yX0_water, Cond.selects RX0 yX0_water yX0_water, Cond.code yX0_water cX0_water 7 (some .int), Cond.fieldLink RX0 18 "SeaGates$Barrier" "sea" "LSeaGates$Sea;", Cond.fieldLink RX0 26 "SeaGates$Sea" "levels" "[[I", Cond.methodLink RX0 32 Lib.Math.min.name, Cond.static Lib.Math.min.name, Cond.code Lib.Math.min.name Lib.Math.min.code 2 (some .int), Cond.fieldLink RX0 15 "SeaGates$Barrier" "rivers" "[I", Cond.methodLink RX4 81 yX0_stands, Cond.methodLink RX4 85 yX0_next, Cond.static yX0_next, Cond.code yX0_next cX0_next 2 (some .int)]
def wsX4_decideGroup_r3 : List Cond := [Cond.methodLink RX0 22 yX0_mayBeTold, Cond.static yX0_mayBeTold, Cond.code yX0_mayBeTold cX0_mayBeTold 1 (some .boolean), Cond.methodLink RX4 71 yX0_mayBeTold]
def wsX4_decideGroup : List Cond := .code yX4_decideGroup cX4_decideGroup 9 none :: ((wsX4_decideGroup_r1 ++ (wsX4_decideGroup_r2 ++ wsX4_decideGroup_r3)) ++ wsX40 ++ wsX60 ++ wsX00)
def wsX4_decideHour_r1 : List Cond := [Cond.fieldLink RX4 32 "SeaGates$Plan" "sea" "LSeaGates$Sea;", Cond.fieldLink RX4 44 "SeaGates$Sea" "size" "I", Cond.fieldLink RX4 18 "SeaGates$Plan" "now" "[[J", Cond.fieldLink RX4 21 "SeaGates$Plan" "then" "[[J", Cond.methodLink RX4 53 arraycopyName, Cond.native arraycopyName, Cond.static arraycopyName, Cond.initialized "java/lang/System", Cond.fieldLink RX4 11 "SeaGates$Plan" "orders" "[[I", Cond.fieldLink RX4 50 "SeaGates$Sea" "heads" "[[I", Cond.methodLink RX4 59 yX4_decideGroup, Cond.instanceMethod yX4_decideGroup, Cond.selects RX4 yX4_decideGroup yX4_decideGroup, Cond.initialized RX4, Cond.code yX4_decideGroup cX4_decideGroup 9 none, Cond.methodLink RX4 63 yX6_weightOfGroup, Cond.instanceMethod yX6_weightOfGroup, Cond.selects RX6 yX6_weightOfGroup yX6_weightOfGroup, Cond.initialized RX6, Cond.code yX6_weightOfGroup cX6_weightOfGroup 5 (some .int), Cond.fieldLink RX6 23 "SeaGates$Sea" "size" "I", Cond.fieldLink RX6 20 "SeaGates$Sea" "heads" "[[I", Cond.fieldLink RX6 9 "SeaGates$Sea" "weights" "[I", Cond.methodLink RX4 67 yX4_lossFrom]
def wsX4_decideHour_r2 : List Cond := [Cond.instanceMethod yX4_lossFrom, Cond.selects RX4 yX4_lossFrom yX4_lossFrom, Cond.code yX4_lossFrom cX4_lossFrom 10 (some .long), Cond.fieldLink RX4 36 "SeaGates$Plan" "barrier" "LSeaGates$Barrier;", Cond.methodLink RX4 77 yX0_lost, Cond.instanceMethod yX0_lost, Cond.selects RX0 yX0_lost yX0_lost, Cond.initialized RX0, Cond.code yX0_lost cX0_lost 8 (some .int), Cond.fieldLink RX0 9 "SeaGates$Barrier" "rules" "[I", Cond.methodLink RX0 46 Lib.Math.max.name, Cond.static Lib.Math.max.name, Cond.initialized "java/lang/Math", Cond.code Lib.Math.max.name Lib.Math.max.code 2 (some .int), Cond.methodLink RX0 38 yX0_stands, Cond.instanceMethod yX0_stands, Cond.selects RX0 yX0_stands yX0_stands, Cond.code yX0_stands cX0_stands 3 (some .int), Cond.methodLink RX0 42 yX0_water, Cond.instanceMethod yX0_water, Cond.selects RX0 yX0_water yX0_water, Cond.code yX0_water cX0_water 7 (some .int), Cond.fieldLink RX0 18 "SeaGates$Barrier" "sea" "LSeaGates$Sea;", Cond.fieldLink RX0 26 "SeaGates$Sea" "levels" "[[I"]
def wsX4_decideHour_r3 : List Cond := [Cond.methodLink RX0 32 Lib.Math.min.name, Cond.static Lib.Math.min.name, Cond.code Lib.Math.min.name Lib.Math.min.code 2 (some .int), Cond.fieldLink RX0 15 "SeaGates$Barrier" "rivers" "[I", Cond.methodLink RX4 81 yX0_stands, Cond.methodLink RX4 85 yX0_next, Cond.static yX0_next, Cond.code yX0_next cX0_next 2 (some .int), Cond.methodLink RX0 22 yX0_mayBeTold, Cond.static yX0_mayBeTold, Cond.code yX0_mayBeTold cX0_mayBeTold 1 (some .boolean), Cond.methodLink RX4 71 yX0_mayBeTold]
def wsX4_decideHour : List Cond := .code yX4_decideHour cX4_decideHour 3 none :: ((wsX4_decideHour_r1 ++ (wsX4_decideHour_r2 ++ wsX4_decideHour_r3)) ++ wsX40 ++ wsX60 ++ wsX00)
def wsX4_refresh_r1 : List Cond := [Cond.fieldLink RX4 28 "SeaGates$Plan" "stale" "Z", Cond.fieldLink RX4 24 "SeaGates$Plan" "loss" "J", Cond.fieldLink RX4 32 "SeaGates$Plan" "sea" "LSeaGates$Sea;", Cond.fieldLink RX4 44 "SeaGates$Sea" "size" "I", Cond.fieldLink RX4 50 "SeaGates$Sea" "heads" "[[I", Cond.fieldLink RX4 18 "SeaGates$Plan" "now" "[[J", Cond.methodLink RX4 40 yX4_decideHour, Cond.instanceMethod yX4_decideHour, Cond.selects RX4 yX4_decideHour yX4_decideHour, Cond.initialized RX4, Cond.code yX4_decideHour cX4_decideHour 3 none, Cond.fieldLink RX4 21 "SeaGates$Plan" "then" "[[J", Cond.methodLink RX4 53 arraycopyName, Cond.native arraycopyName, Cond.static arraycopyName, Cond.initialized "java/lang/System", Cond.fieldLink RX4 11 "SeaGates$Plan" "orders" "[[I", Cond.methodLink RX4 59 yX4_decideGroup, Cond.instanceMethod yX4_decideGroup, Cond.selects RX4 yX4_decideGroup yX4_decideGroup, Cond.code yX4_decideGroup cX4_decideGroup 9 none, Cond.methodLink RX4 63 yX6_weightOfGroup, Cond.instanceMethod yX6_weightOfGroup, Cond.selects RX6 yX6_weightOfGroup yX6_weightOfGroup]
def wsX4_refresh_r2 : List Cond := [Cond.initialized RX6, Cond.code yX6_weightOfGroup cX6_weightOfGroup 5 (some .int), Cond.fieldLink RX6 23 "SeaGates$Sea" "size" "I", Cond.fieldLink RX6 20 "SeaGates$Sea" "heads" "[[I", Cond.fieldLink RX6 9 "SeaGates$Sea" "weights" "[I", Cond.methodLink RX4 67 yX4_lossFrom, Cond.instanceMethod yX4_lossFrom, Cond.selects RX4 yX4_lossFrom yX4_lossFrom, Cond.code yX4_lossFrom cX4_lossFrom 10 (some .long), Cond.fieldLink RX4 36 "SeaGates$Plan" "barrier" "LSeaGates$Barrier;", Cond.methodLink RX4 77 yX0_lost, Cond.instanceMethod yX0_lost, Cond.selects RX0 yX0_lost yX0_lost, Cond.initialized RX0, Cond.code yX0_lost cX0_lost 8 (some .int), Cond.fieldLink RX0 9 "SeaGates$Barrier" "rules" "[I", Cond.methodLink RX0 46 Lib.Math.max.name, Cond.static Lib.Math.max.name, Cond.initialized "java/lang/Math", Cond.code Lib.Math.max.name Lib.Math.max.code 2 (some .int), Cond.methodLink RX0 38 yX0_stands, Cond.instanceMethod yX0_stands, Cond.selects RX0 yX0_stands yX0_stands, Cond.code yX0_stands cX0_stands 3 (some .int)]
def wsX4_refresh_r3 : List Cond := [Cond.methodLink RX0 42 yX0_water, Cond.instanceMethod yX0_water, Cond.selects RX0 yX0_water yX0_water, Cond.code yX0_water cX0_water 7 (some .int), Cond.fieldLink RX0 18 "SeaGates$Barrier" "sea" "LSeaGates$Sea;", Cond.fieldLink RX0 26 "SeaGates$Sea" "levels" "[[I", Cond.methodLink RX0 32 Lib.Math.min.name, Cond.static Lib.Math.min.name, Cond.code Lib.Math.min.name Lib.Math.min.code 2 (some .int), Cond.fieldLink RX0 15 "SeaGates$Barrier" "rivers" "[I", Cond.methodLink RX4 81 yX0_stands, Cond.methodLink RX4 85 yX0_next, Cond.static yX0_next, Cond.code yX0_next cX0_next 2 (some .int), Cond.methodLink RX0 22 yX0_mayBeTold, Cond.static yX0_mayBeTold, Cond.code yX0_mayBeTold cX0_mayBeTold 1 (some .boolean), Cond.methodLink RX4 71 yX0_mayBeTold]
def wsX4_refresh : List Cond := .code yX4_refresh cX4_refresh 2 none :: ((wsX4_refresh_r1 ++ (wsX4_refresh_r2 ++ wsX4_refresh_r3)) ++ wsX40 ++ wsX60 ++ wsX00)
def wsX4_tells : List Cond := .code yX4_tells cX4_tells 4 (some .boolean) :: ([.fieldLink RX4 11 "SeaGates$Plan" "orders" "[[I", .fieldLink RX4 32 "SeaGates$Plan" "sea" "LSeaGates$Sea;", .fieldLink RX4 50 "SeaGates$Sea" "heads" "[[I"] ++ wsX40 ++ wsX60)
def wsX4_stateAt : List Cond := .code yX4_stateAt cX4_stateAt 5 (some .int) :: ([.fieldLink RX4 36 "SeaGates$Plan" "barrier" "LSeaGates$Barrier;", .methodLink RX4 88 yX4_tells, .instanceMethod yX4_tells, .selects RX4 yX4_tells yX4_tells, .initialized RX4, .code yX4_tells cX4_tells 4 (some .boolean), .fieldLink RX4 11 "SeaGates$Plan" "orders" "[[I", .fieldLink RX4 32 "SeaGates$Plan" "sea" "LSeaGates$Sea;", .fieldLink RX4 50 "SeaGates$Sea" "heads" "[[I", .methodLink RX4 81 yX0_stands, .instanceMethod yX0_stands, .selects RX0 yX0_stands yX0_stands, .initialized RX0, .code yX0_stands cX0_stands 3 (some .int), .fieldLink RX0 9 "SeaGates$Barrier" "rules" "[I", .methodLink RX4 85 yX0_next, .static yX0_next, .code yX0_next cX0_next 2 (some .int), .methodLink RX0 22 yX0_mayBeTold, .static yX0_mayBeTold, .code yX0_mayBeTold cX0_mayBeTold 1 (some .boolean)] ++ wsX40 ++ wsX60 ++ wsX00)
def wsX5_init : List Cond := .code yX5_init cX5_init 1 none :: ([.methodLink RX5 3 objectInit, .instanceMethod objectInit, .code objectInit ⟨#[0xb1]⟩ 1 none, .classLink RX5 9 RX2, .fieldLink RX5 11 "SeaGates$Row" "gates" "[LSeaGates$Gate;", .arrayClass .int, .fieldLink RX5 17 "SeaGates$Row" "free" "[I", .fieldLink RX5 21 "SeaGates$Row" "size" "I"] ++ wsX50)
def wsX5_add : List Cond := .code yX5_add cX5_add 2 (some .int) :: ([.fieldLink RX5 11 "SeaGates$Row" "gates" "[LSeaGates$Gate;", .fieldLink RX5 21 "SeaGates$Row" "size" "I"] ++ wsX50)
def wsX11_within : List Cond := .code yX11_within cX11_within 3 (some .boolean) :: ([])
def wsX5_at : List Cond := .code yX5_at cX5_at 2 (some (.object "SeaGates$Gate")) :: ([.fieldLink RX5 21 "SeaGates$Row" "size" "I", .fieldLink RX5 11 "SeaGates$Row" "gates" "[LSeaGates$Gate;", .static yX11_within, .initialized RX11, .code yX11_within cX11_within 3 (some .boolean)] ++ wsX50)
def wsX5_failedOnes : List Cond := .code yX5_failedOnes cX5_failedOnes 6 (some .int) :: ([.fieldLink RX5 11 "SeaGates$Row" "gates" "[LSeaGates$Gate;", .fieldLink RX5 29 "SeaGates$Gate" "failed" "Z"] ++ wsX50 ++ wsX20 ++ wsX30 ++ wsX80 ++ wsX100)
def wsJ7_fill_53178 : List Cond := .code yJ7_fill_53178 cJ7_fill_53178 4 none :: ([])
def wsX5_endByHand : List Cond := .code yX5_endByHand cX5_endByHand 5 (some .int) :: ([.fieldLink RX5 17 "SeaGates$Row" "free" "[I"] ++ wsX50)
def wsX5_timeToShut : List Cond := .code yX5_timeToShut cX5_timeToShut 7 (some .int) :: ([.fieldLink RX5 17 "SeaGates$Row" "free" "[I", .fieldLink RX5 11 "SeaGates$Row" "gates" "[LSeaGates$Gate;", .fieldLink RX5 39 "SeaGates$Gate" "minutes" "I", .fieldLink RX5 29 "SeaGates$Gate" "failed" "Z", .fieldLink RX5 42 "SeaGates$Gate" "hand" "I", .constant RX5 45 (-1000000), .methodLink RX5 50 Lib.Math.max.name, .static Lib.Math.max.name, .initialized "java/lang/Math", .code Lib.Math.max.name Lib.Math.max.code 2 (some .int), .methodLink RX5 33 yJ7_fill_53178, .static yJ7_fill_53178, .initialized RJ7, .code yJ7_fill_53178 cJ7_fill_53178 4 none, .methodLink RX5 46 yX5_endByHand, .instanceMethod yX5_endByHand, .selects RX5 yX5_endByHand yX5_endByHand, .initialized RX5, .code yX5_endByHand cX5_endByHand 5 (some .int)] ++ wsX50 ++ wsX20 ++ wsX30 ++ wsX80 ++ wsX100)
def wsX5_worstTime_r1 : List Cond := [Cond.fieldLink RX5 21 "SeaGates$Row" "size" "I", Cond.constant RX5 45 (-1000000), Cond.fieldLink RX5 11 "SeaGates$Row" "gates" "[LSeaGates$Gate;", Cond.fieldLink RX5 29 "SeaGates$Gate" "failed" "Z", Cond.methodLink RX5 50 Lib.Math.max.name, Cond.static Lib.Math.max.name, Cond.initialized "java/lang/Math", Cond.code Lib.Math.max.name Lib.Math.max.code 2 (some .int), Cond.methodLink RX5 55 yX5_failedOnes, Cond.instanceMethod yX5_failedOnes, Cond.selects RX5 yX5_failedOnes yX5_failedOnes, Cond.initialized RX5, Cond.code yX5_failedOnes cX5_failedOnes 6 (some .int), Cond.methodLink RX5 59 yX5_timeToShut, Cond.instanceMethod yX5_timeToShut, Cond.selects RX5 yX5_timeToShut yX5_timeToShut, Cond.code yX5_timeToShut cX5_timeToShut 7 (some .int), Cond.fieldLink RX5 17 "SeaGates$Row" "free" "[I", Cond.fieldLink RX5 39 "SeaGates$Gate" "minutes" "I", Cond.fieldLink RX5 42 "SeaGates$Gate" "hand" "I", Cond.methodLink RX5 33 yJ7_fill_53178, Cond.static yJ7_fill_53178, Cond.initialized RJ7, Cond.code yJ7_fill_53178 cJ7_fill_53178 4 none]
def wsX5_worstTime_r2 : List Cond := [Cond.methodLink RX5 46 yX5_endByHand, Cond.instanceMethod yX5_endByHand, Cond.selects RX5 yX5_endByHand yX5_endByHand, Cond.code yX5_endByHand cX5_endByHand 5 (some .int)]
def wsX5_worstTime : List Cond := .code yX5_worstTime cX5_worstTime 6 (some .int) :: ((wsX5_worstTime_r1 ++ wsX5_worstTime_r2) ++ wsX50 ++ wsX20 ++ wsX30 ++ wsX80 ++ wsX100)
def wsX6_init : List Cond := .code yX6_init cX6_init 1 none :: ([.methodLink RX6 3 objectInit, .instanceMethod objectInit, .code objectInit ⟨#[0xb1]⟩ 1 none, .arrayClass .int, .fieldLink RX6 9 "SeaGates$Sea" "weights" "[I", .classLink RX6 15 "[[I", .fieldLink RX6 17 "SeaGates$Sea" "levels" "[[I", .fieldLink RX6 20 "SeaGates$Sea" "heads" "[[I", .fieldLink RX6 23 "SeaGates$Sea" "size" "I"] ++ wsX60)
def wsX6_areAlike : List Cond := .code yX6_areAlike cX6_areAlike 5 (some .boolean) :: ([.fieldLink RX6 17 "SeaGates$Sea" "levels" "[[I"] ++ wsX60)
def wsX6_headOf : List Cond := .code yX6_headOf cX6_headOf 4 (some .int) :: ([.methodLink RX6 37 yX6_areAlike, .instanceMethod yX6_areAlike, .selects RX6 yX6_areAlike yX6_areAlike, .initialized RX6, .code yX6_areAlike cX6_areAlike 5 (some .boolean), .fieldLink RX6 17 "SeaGates$Sea" "levels" "[[I"] ++ wsX60)
def wsX6_add : List Cond := .code yX6_add cX6_add 6 (some .int) :: ([.fieldLink RX6 23 "SeaGates$Sea" "size" "I", .fieldLink RX6 17 "SeaGates$Sea" "levels" "[[I", .methodLink RX6 27 arraycopyName, .native arraycopyName, .static arraycopyName, .initialized "java/lang/System", .fieldLink RX6 9 "SeaGates$Sea" "weights" "[I", .fieldLink RX6 20 "SeaGates$Sea" "heads" "[[I", .methodLink RX6 33 yX6_headOf, .instanceMethod yX6_headOf, .selects RX6 yX6_headOf yX6_headOf, .initialized RX6, .code yX6_headOf cX6_headOf 4 (some .int), .methodLink RX6 37 yX6_areAlike, .instanceMethod yX6_areAlike, .selects RX6 yX6_areAlike yX6_areAlike, .code yX6_areAlike cX6_areAlike 5 (some .boolean)] ++ wsX60)
def wsX6_groupsAt : List Cond := .code yX6_groupsAt cX6_groupsAt 4 (some .int) :: ([.fieldLink RX6 23 "SeaGates$Sea" "size" "I", .fieldLink RX6 20 "SeaGates$Sea" "heads" "[[I"] ++ wsX60)
def wsX6_allWeights : List Cond := .code yX6_allWeights cX6_allWeights 3 (some .int) :: ([.fieldLink RX6 23 "SeaGates$Sea" "size" "I", .fieldLink RX6 9 "SeaGates$Sea" "weights" "[I"] ++ wsX60)
def wsX6_firstAbove : List Cond := .code yX6_firstAbove cX6_firstAbove 4 (some .int) :: ([.fieldLink RX6 23 "SeaGates$Sea" "size" "I", .fieldLink RX6 17 "SeaGates$Sea" "levels" "[[I"] ++ wsX60)
def wsX7_init : List Cond := .code yX7_init cX7_init 1 none :: ([.methodLink RX7 3 objectInit, .instanceMethod objectInit, .code objectInit ⟨#[0xb1]⟩ 1 none, .classLink RX7 9 "[[I", .arrayClass .int, .fieldLink RX7 11 "SeaGates$Sheets" "items" "[[I", .fieldLink RX7 16 "SeaGates$Sheets" "lanes" "[I", .fieldLink RX7 20 "SeaGates$Sheets" "sizes" "[I", .methodLink RX7 23 yJ7_fill_53178, .static yJ7_fill_53178, .initialized RJ7, .code yJ7_fill_53178 cJ7_fill_53178 4 none] ++ wsX70)
def wsX7_isMissing : List Cond := .code yX7_isMissing cX7_isMissing 2 (some .boolean) :: ([.fieldLink RX7 20 "SeaGates$Sheets" "sizes" "[I"] ++ wsX70)
def wsX7_lay : List Cond := .code yX7_lay cX7_lay 4 none :: ([.fieldLink RX7 16 "SeaGates$Sheets" "lanes" "[I", .fieldLink RX7 20 "SeaGates$Sheets" "sizes" "[I", .fieldLink RX7 11 "SeaGates$Sheets" "items" "[[I", .methodLink RX7 23 yJ7_fill_53178, .static yJ7_fill_53178, .initialized RJ7, .code yJ7_fill_53178 cJ7_fill_53178 4 none] ++ wsX70)
def wsX7_takeAway : List Cond := .code yX7_takeAway cX7_takeAway 3 (some .int) :: ([.fieldLink RX7 20 "SeaGates$Sheets" "sizes" "[I"] ++ wsX70)
def wsX7_hasPlaces : List Cond := .code yX7_hasPlaces cX7_hasPlaces 4 (some .boolean) :: ([.fieldLink RX7 20 "SeaGates$Sheets" "sizes" "[I"] ++ wsX70)
def wsX7_look : List Cond := .code yX7_look cX7_look 4 (some .int) :: ([.methodLink RX7 29 yX7_isMissing, .instanceMethod yX7_isMissing, .selects RX7 yX7_isMissing yX7_isMissing, .initialized RX7, .code yX7_isMissing cX7_isMissing 2 (some .boolean), .fieldLink RX7 20 "SeaGates$Sheets" "sizes" "[I", .methodLink RX7 33 yX7_hasPlaces, .instanceMethod yX7_hasPlaces, .selects RX7 yX7_hasPlaces yX7_hasPlaces, .code yX7_hasPlaces cX7_hasPlaces 4 (some .boolean)] ++ wsX70)
def wsX7_lookAtBoth : List Cond := .code yX7_lookAtBoth cX7_lookAtBoth 6 (some .int) :: ([.fieldLink RX7 16 "SeaGates$Sheets" "lanes" "[I", .methodLink RX7 29 yX7_isMissing, .instanceMethod yX7_isMissing, .selects RX7 yX7_isMissing yX7_isMissing, .initialized RX7, .code yX7_isMissing cX7_isMissing 2 (some .boolean), .fieldLink RX7 20 "SeaGates$Sheets" "sizes" "[I", .methodLink RX7 33 yX7_hasPlaces, .instanceMethod yX7_hasPlaces, .selects RX7 yX7_hasPlaces yX7_hasPlaces, .code yX7_hasPlaces cX7_hasPlaces 4 (some .boolean)] ++ wsX70)
def wsX7_narrowed : List Cond := .code yX7_narrowed cX7_narrowed 2 (some .int) :: ([])
def wsX7_put : List Cond := .code yX7_put cX7_put 4 (some .int) :: ([.fieldLink RX7 11 "SeaGates$Sheets" "items" "[[I", .fieldLink RX7 16 "SeaGates$Sheets" "lanes" "[I", .methodLink RX7 37 yX7_narrowed, .static yX7_narrowed, .initialized RX7, .code yX7_narrowed cX7_narrowed 2 (some .int)] ++ wsX70)
def wsX7_move : List Cond := .code yX7_move cX7_move 6 none :: ([.fieldLink RX7 11 "SeaGates$Sheets" "items" "[[I", .methodLink RX7 41 arraycopyName, .native arraycopyName, .static arraycopyName, .initialized "java/lang/System"] ++ wsX70)
def wsX7_areWithin : List Cond := .code yX7_areWithin cX7_areWithin 6 (some .boolean) :: ([.fieldLink RX7 11 "SeaGates$Sheets" "items" "[[I", .static yX11_within, .initialized RX11, .code yX11_within cX11_within 3 (some .boolean)] ++ wsX70)
def wsX7_above : List Cond := .code yX7_above cX7_above 8 (some .int) :: ([.fieldLink RX7 11 "SeaGates$Sheets" "items" "[[I"] ++ wsX70)
def wsX7_present : List Cond := .code yX7_present cX7_present 3 (some .int) :: ([.methodLink RX7 29 yX7_isMissing, .instanceMethod yX7_isMissing, .selects RX7 yX7_isMissing yX7_isMissing, .initialized RX7, .code yX7_isMissing cX7_isMissing 2 (some .boolean), .fieldLink RX7 20 "SeaGates$Sheets" "sizes" "[I"] ++ wsX70)
def wsX8_init : List Cond := .code yX8_init cX8_init 2 none :: ([.methodLink RX8 3 yX2_init, .instanceMethod yX2_init, .initialized RX2, .code yX2_init cX2_init 3 none, .methodLink RX2 3 objectInit, .instanceMethod objectInit, .code objectInit ⟨#[0xb1]⟩ 1 none, .fieldLink RX2 9 "SeaGates$Gate" "failed" "Z", .fieldLink RX2 15 "SeaGates$Gate" "minutes" "I", .fieldLink RX2 19 "SeaGates$Gate" "hand" "I"] ++ wsX20 ++ wsX30 ++ wsX80 ++ wsX100)
def wsX8_toldAs : List Cond := .code yX8_toldAs cX8_toldAs 1 (some .int) :: ([])
def wsX8_cost : List Cond := .code yX8_cost cX8_cost 2 (some .int) :: ([.methodLink RX8 9 yX9_leave, .instanceMethod yX9_leave, .selects RX9 yX9_leave yX9_leave, .initialized RX9, .code yX9_leave cX9_leave 2 none, .fieldLink RX9 15 "SeaGates$Trace" "length" "I", .fieldLink RX9 9 "SeaGates$Trace" "numbers" "[I", .methodLink RX8 15 yX2_cost, .sameMethod "SeaGates$Gate" "SeaGates$Gate" "cost" "(LSeaGates$Trace;)I", .superclass RX8 RX2, .instanceMethod yX2_cost, .initialized RX2, .code yX2_cost cX2_cost 2 (some .int), .fieldLink RX2 15 "SeaGates$Gate" "minutes" "I", .methodLink RX2 22 yX9_leave] ++ wsX90 ++ wsX20 ++ wsX30 ++ wsX80 ++ wsX100)
def wsX8_mark_r1 : List Cond := [Cond.methodLink RX8 9 yX9_leave, Cond.instanceMethod yX9_leave, Cond.selects RX9 yX9_leave yX9_leave, Cond.initialized RX9, Cond.code yX9_leave cX9_leave 2 none, Cond.fieldLink RX9 15 "SeaGates$Trace" "length" "I", Cond.fieldLink RX9 9 "SeaGates$Trace" "numbers" "[I", Cond.methodLink RX8 19 yX2_mark, Cond.sameMethod "SeaGates$Gate" "SeaGates$Gate" "mark" "(LSeaGates$Trace;)I", Cond.superclass RX8 RX2, Cond.instanceMethod yX2_mark, Cond.initialized RX2, Cond.code yX2_mark cX2_mark 2 (some .int), Cond.fieldLink RX2 9 "SeaGates$Gate" "failed" "Z", Cond.methodLink RX2 22 yX9_leave, Cond.methodLink RX8 22 yX8_cost, Cond.instanceMethod yX8_cost, Cond.selects RX8 yX8_cost yX8_cost, Cond.initialized RX8, Cond.code yX8_cost cX8_cost 2 (some .int), Cond.methodLink RX8 15 yX2_cost, Cond.sameMethod "SeaGates$Gate" "SeaGates$Gate" "cost" "(LSeaGates$Trace;)I", Cond.instanceMethod yX2_cost, Cond.code yX2_cost cX2_cost 2 (some .int)]
def wsX8_mark_r2 : List Cond := [Cond.fieldLink RX2 15 "SeaGates$Gate" "minutes" "I"]
def wsX8_mark : List Cond := .code yX8_mark cX8_mark 2 (some .int) :: ((wsX8_mark_r1 ++ wsX8_mark_r2) ++ wsX90 ++ wsX20 ++ wsX30 ++ wsX80 ++ wsX100)
def wsX9_init : List Cond := .code yX9_init cX9_init 1 none :: ([.methodLink RX9 3 objectInit, .instanceMethod objectInit, .code objectInit ⟨#[0xb1]⟩ 1 none, .arrayClass .int, .fieldLink RX9 9 "SeaGates$Trace" "numbers" "[I", .fieldLink RX9 15 "SeaGates$Trace" "length" "I"] ++ wsX90)
def wsX10_init : List Cond := .code yX10_init cX10_init 3 none :: ([.methodLink RX10 3 yX3_init, .instanceMethod yX3_init, .initialized RX3, .code yX3_init cX3_init 3 none, .methodLink RX3 3 yX2_init, .instanceMethod yX2_init, .initialized RX2, .code yX2_init cX2_init 3 none, .methodLink RX2 3 objectInit, .instanceMethod objectInit, .code objectInit ⟨#[0xb1]⟩ 1 none, .fieldLink RX2 9 "SeaGates$Gate" "failed" "Z", .fieldLink RX2 15 "SeaGates$Gate" "minutes" "I", .fieldLink RX2 19 "SeaGates$Gate" "hand" "I"] ++ wsX20 ++ wsX30 ++ wsX80 ++ wsX100)
def wsX10_toldAs : List Cond := .code yX10_toldAs cX10_toldAs 1 (some .int) :: ([])
def wsX11_init_r1 : List Cond := [Cond.methodLink RX11 3 objectInit, Cond.instanceMethod objectInit, Cond.code objectInit ⟨#[0xb1]⟩ 1 none, Cond.classLink RX11 9 RX7, Cond.instantiable RX7 3, Cond.initialized RX7, Cond.fieldLink RX11 12 "SeaGates" "sheets" "LSeaGates$Sheets;", Cond.classLink RX11 16 RX6, Cond.instantiable RX6 4, Cond.initialized RX6, Cond.fieldLink RX11 19 "SeaGates" "sea" "LSeaGates$Sea;", Cond.classLink RX11 23 RX0, Cond.instantiable RX0 3, Cond.initialized RX0, Cond.fieldLink RX11 28 "SeaGates" "barrier" "LSeaGates$Barrier;", Cond.classLink RX11 32 RX4, Cond.instantiable RX4 7, Cond.initialized RX4, Cond.fieldLink RX11 37 "SeaGates" "plan" "LSeaGates$Plan;", Cond.classLink RX11 41 RX5, Cond.instantiable RX5 3, Cond.initialized RX5, Cond.fieldLink RX11 44 "SeaGates" "row" "LSeaGates$Row;", Cond.classLink RX11 48 RX1]
def wsX11_init_r2 : List Cond := [Cond.instantiable RX1 4, Cond.initialized RX1, Cond.fieldLink RX11 51 "SeaGates" "fairway" "LSeaGates$Fairway;", Cond.classLink RX11 55 RX9, Cond.instantiable RX9 2, Cond.initialized RX9, Cond.fieldLink RX11 58 "SeaGates" "bodies" "LSeaGates$Trace;", Cond.fieldLink RX11 62 "SeaGates" "finding" "I", Cond.methodLink RX11 11 yX7_init, Cond.instanceMethod yX7_init, Cond.code yX7_init cX7_init 1 none, Cond.methodLink RX7 3 objectInit, Cond.classLink RX7 9 "[[I", Cond.arrayClass .int, Cond.fieldLink RX7 11 "SeaGates$Sheets" "items" "[[I", Cond.fieldLink RX7 16 "SeaGates$Sheets" "lanes" "[I", Cond.fieldLink RX7 20 "SeaGates$Sheets" "sizes" "[I", Cond.methodLink RX7 23 yJ7_fill_53178, Cond.static yJ7_fill_53178, Cond.initialized RJ7, Cond.code yJ7_fill_53178 cJ7_fill_53178 4 none, Cond.instanceMethod yX6_init, Cond.code yX6_init cX6_init 1 none, Cond.methodLink RX6 3 objectInit]
def wsX11_init_r3 : List Cond := [Cond.fieldLink RX6 9 "SeaGates$Sea" "weights" "[I", Cond.classLink RX6 15 "[[I", Cond.fieldLink RX6 17 "SeaGates$Sea" "levels" "[[I", Cond.fieldLink RX6 20 "SeaGates$Sea" "heads" "[[I", Cond.fieldLink RX6 23 "SeaGates$Sea" "size" "I", Cond.methodLink RX11 25 yX0_init, Cond.instanceMethod yX0_init, Cond.code yX0_init cX0_init 2 none, Cond.methodLink RX0 3 objectInit, Cond.fieldLink RX0 9 "SeaGates$Barrier" "rules" "[I", Cond.fieldLink RX0 15 "SeaGates$Barrier" "rivers" "[I", Cond.fieldLink RX0 18 "SeaGates$Barrier" "sea" "LSeaGates$Sea;", Cond.methodLink RX11 34 yX4_init, Cond.instanceMethod yX4_init, Cond.code yX4_init cX4_init 3 none, Cond.methodLink RX4 3 objectInit, Cond.classLink RX4 9 "[[I", Cond.fieldLink RX4 11 "SeaGates$Plan" "orders" "[[I", Cond.classLink RX4 16 "[[J", Cond.arrayClass .long, Cond.fieldLink RX4 18 "SeaGates$Plan" "now" "[[J", Cond.fieldLink RX4 21 "SeaGates$Plan" "then" "[[J", Cond.fieldLink RX4 24 "SeaGates$Plan" "loss" "J", Cond.fieldLink RX4 28 "SeaGates$Plan" "stale" "Z"]
def wsX11_init_r4 : List Cond := [Cond.fieldLink RX4 32 "SeaGates$Plan" "sea" "LSeaGates$Sea;", Cond.fieldLink RX4 36 "SeaGates$Plan" "barrier" "LSeaGates$Barrier;", Cond.instanceMethod yX5_init, Cond.code yX5_init cX5_init 1 none, Cond.methodLink RX5 3 objectInit, Cond.classLink RX5 9 RX2, Cond.fieldLink RX5 11 "SeaGates$Row" "gates" "[LSeaGates$Gate;", Cond.fieldLink RX5 17 "SeaGates$Row" "free" "[I", Cond.fieldLink RX5 21 "SeaGates$Row" "size" "I", Cond.instanceMethod yX1_init, Cond.code yX1_init cX1_init 1 none, Cond.methodLink RX1 3 objectInit, Cond.fieldLink RX1 9 "SeaGates$Fairway" "minutes" "[I", Cond.fieldLink RX1 15 "SeaGates$Fairway" "passing" "[I", Cond.fieldLink RX1 18 "SeaGates$Fairway" "inTurn" "[I", Cond.fieldLink RX1 21 "SeaGates$Fairway" "size" "I", Cond.instanceMethod yX9_init, Cond.code yX9_init cX9_init 1 none, Cond.methodLink RX9 3 objectInit, Cond.fieldLink RX9 9 "SeaGates$Trace" "numbers" "[I", Cond.fieldLink RX9 15 "SeaGates$Trace" "length" "I"]
def wsX11_init : List Cond := .code yX11_init cX11_init 1 none :: ((wsX11_init_r1 ++ (wsX11_init_r2 ++ (wsX11_init_r3 ++ wsX11_init_r4))) ++ wsX70 ++ wsX110 ++ wsX60 ++ wsX00 ++ wsX40 ++ wsX50 ++ wsX10 ++ wsX90)
def wsX11_found : List Cond := .code yX11_found cX11_found 2 (some .int) :: ([.fieldLink RX11 62 "SeaGates" "finding" "I", .constant RX11 270 (-1000010)] ++ wsX110)
def wsX11_fine : List Cond := .code yX11_fine cX11_fine 2 (some .int) :: ([.fieldLink RX11 62 "SeaGates" "finding" "I"] ++ wsX110)
def wsX11_sheet_r1 : List Cond := [Cond.constant RX11 70 (-1000001), Cond.fieldLink RX11 12 "SeaGates" "sheets" "LSeaGates$Sheets;", Cond.methodLink RX11 66 yX11_within, Cond.static yX11_within, Cond.initialized RX11, Cond.code yX11_within cX11_within 3 (some .boolean), Cond.methodLink RX11 71 yX11_found, Cond.instanceMethod yX11_found, Cond.selects RX11 yX11_found yX11_found, Cond.code yX11_found cX11_found 2 (some .int), Cond.fieldLink RX11 62 "SeaGates" "finding" "I", Cond.constant RX11 270 (-1000010), Cond.methodLink RX11 75 yX7_lay, Cond.instanceMethod yX7_lay, Cond.selects RX7 yX7_lay yX7_lay, Cond.initialized RX7, Cond.code yX7_lay cX7_lay 4 none, Cond.fieldLink RX7 16 "SeaGates$Sheets" "lanes" "[I", Cond.fieldLink RX7 20 "SeaGates$Sheets" "sizes" "[I", Cond.fieldLink RX7 11 "SeaGates$Sheets" "items" "[[I", Cond.methodLink RX7 23 yJ7_fill_53178, Cond.static yJ7_fill_53178, Cond.initialized RJ7, Cond.code yJ7_fill_53178 cJ7_fill_53178 4 none]
def wsX11_sheet_r2 : List Cond := [Cond.methodLink RX11 79 yX11_fine, Cond.instanceMethod yX11_fine, Cond.selects RX11 yX11_fine yX11_fine, Cond.code yX11_fine cX11_fine 2 (some .int)]
def wsX11_sheet : List Cond := .code yX11_sheet cX11_sheet 4 (some .int) :: ((wsX11_sheet_r1 ++ wsX11_sheet_r2) ++ wsX110 ++ wsX70)
def wsX11_set_r1 : List Cond := [Cond.constant RX11 70 (-1000001), Cond.fieldLink RX11 12 "SeaGates" "sheets" "LSeaGates$Sheets;", Cond.methodLink RX11 66 yX11_within, Cond.static yX11_within, Cond.initialized RX11, Cond.code yX11_within cX11_within 3 (some .boolean), Cond.methodLink RX11 82 yX7_look, Cond.instanceMethod yX7_look, Cond.selects RX7 yX7_look yX7_look, Cond.initialized RX7, Cond.code yX7_look cX7_look 4 (some .int), Cond.methodLink RX7 29 yX7_isMissing, Cond.instanceMethod yX7_isMissing, Cond.selects RX7 yX7_isMissing yX7_isMissing, Cond.code yX7_isMissing cX7_isMissing 2 (some .boolean), Cond.fieldLink RX7 20 "SeaGates$Sheets" "sizes" "[I", Cond.methodLink RX7 33 yX7_hasPlaces, Cond.instanceMethod yX7_hasPlaces, Cond.selects RX7 yX7_hasPlaces yX7_hasPlaces, Cond.code yX7_hasPlaces cX7_hasPlaces 4 (some .boolean), Cond.methodLink RX11 71 yX11_found, Cond.instanceMethod yX11_found, Cond.selects RX11 yX11_found yX11_found, Cond.code yX11_found cX11_found 2 (some .int)]
def wsX11_set_r2 : List Cond := [Cond.fieldLink RX11 62 "SeaGates" "finding" "I", Cond.constant RX11 270 (-1000010), Cond.methodLink RX11 86 yX7_put, Cond.instanceMethod yX7_put, Cond.selects RX7 yX7_put yX7_put, Cond.code yX7_put cX7_put 4 (some .int), Cond.fieldLink RX7 11 "SeaGates$Sheets" "items" "[[I", Cond.fieldLink RX7 16 "SeaGates$Sheets" "lanes" "[I", Cond.methodLink RX7 37 yX7_narrowed, Cond.static yX7_narrowed, Cond.code yX7_narrowed cX7_narrowed 2 (some .int), Cond.methodLink RX11 79 yX11_fine, Cond.instanceMethod yX11_fine, Cond.selects RX11 yX11_fine yX11_fine, Cond.code yX11_fine cX11_fine 2 (some .int)]
def wsX11_set : List Cond := .code yX11_set cX11_set 5 (some .int) :: ((wsX11_set_r1 ++ wsX11_set_r2) ++ wsX110 ++ wsX70)
def wsX11_copy_r1 : List Cond := [Cond.constant RX11 70 (-1000001), Cond.fieldLink RX11 12 "SeaGates" "sheets" "LSeaGates$Sheets;", Cond.methodLink RX11 66 yX11_within, Cond.static yX11_within, Cond.initialized RX11, Cond.code yX11_within cX11_within 3 (some .boolean), Cond.methodLink RX11 89 yX7_lookAtBoth, Cond.instanceMethod yX7_lookAtBoth, Cond.selects RX7 yX7_lookAtBoth yX7_lookAtBoth, Cond.initialized RX7, Cond.code yX7_lookAtBoth cX7_lookAtBoth 6 (some .int), Cond.fieldLink RX7 16 "SeaGates$Sheets" "lanes" "[I", Cond.methodLink RX7 29 yX7_isMissing, Cond.instanceMethod yX7_isMissing, Cond.selects RX7 yX7_isMissing yX7_isMissing, Cond.code yX7_isMissing cX7_isMissing 2 (some .boolean), Cond.fieldLink RX7 20 "SeaGates$Sheets" "sizes" "[I", Cond.methodLink RX7 33 yX7_hasPlaces, Cond.instanceMethod yX7_hasPlaces, Cond.selects RX7 yX7_hasPlaces yX7_hasPlaces, Cond.code yX7_hasPlaces cX7_hasPlaces 4 (some .boolean), Cond.methodLink RX11 71 yX11_found, Cond.instanceMethod yX11_found, Cond.selects RX11 yX11_found yX11_found]
def wsX11_copy_r2 : List Cond := [Cond.code yX11_found cX11_found 2 (some .int), Cond.fieldLink RX11 62 "SeaGates" "finding" "I", Cond.constant RX11 270 (-1000010), Cond.methodLink RX11 93 yX7_move, Cond.instanceMethod yX7_move, Cond.selects RX7 yX7_move yX7_move, Cond.code yX7_move cX7_move 6 none, Cond.fieldLink RX7 11 "SeaGates$Sheets" "items" "[[I", Cond.methodLink RX7 41 arraycopyName, Cond.native arraycopyName, Cond.static arraycopyName, Cond.initialized "java/lang/System", Cond.methodLink RX11 79 yX11_fine, Cond.instanceMethod yX11_fine, Cond.selects RX11 yX11_fine yX11_fine, Cond.code yX11_fine cX11_fine 2 (some .int)]
def wsX11_copy : List Cond := .code yX11_copy cX11_copy 7 (some .int) :: ((wsX11_copy_r1 ++ wsX11_copy_r2) ++ wsX110 ++ wsX70)
def wsX11_drop_r1 : List Cond := [Cond.constant RX11 70 (-1000001), Cond.fieldLink RX11 12 "SeaGates" "sheets" "LSeaGates$Sheets;", Cond.methodLink RX11 66 yX11_within, Cond.static yX11_within, Cond.initialized RX11, Cond.code yX11_within cX11_within 3 (some .boolean), Cond.methodLink RX11 97 yX7_isMissing, Cond.instanceMethod yX7_isMissing, Cond.selects RX7 yX7_isMissing yX7_isMissing, Cond.initialized RX7, Cond.code yX7_isMissing cX7_isMissing 2 (some .boolean), Cond.fieldLink RX7 20 "SeaGates$Sheets" "sizes" "[I", Cond.methodLink RX11 71 yX11_found, Cond.instanceMethod yX11_found, Cond.selects RX11 yX11_found yX11_found, Cond.code yX11_found cX11_found 2 (some .int), Cond.fieldLink RX11 62 "SeaGates" "finding" "I", Cond.constant RX11 270 (-1000010), Cond.methodLink RX11 101 yX7_takeAway, Cond.instanceMethod yX7_takeAway, Cond.selects RX7 yX7_takeAway yX7_takeAway, Cond.code yX7_takeAway cX7_takeAway 3 (some .int), Cond.methodLink RX11 79 yX11_fine, Cond.instanceMethod yX11_fine]
def wsX11_drop_r2 : List Cond := [Cond.selects RX11 yX11_fine yX11_fine, Cond.code yX11_fine cX11_fine 2 (some .int)]
def wsX11_drop : List Cond := .code yX11_drop cX11_drop 2 (some .int) :: ((wsX11_drop_r1 ++ wsX11_drop_r2) ++ wsX110 ++ wsX70)
def wsX11_world_r1 : List Cond := [Cond.constant RX11 70 (-1000001), Cond.fieldLink RX11 19 "SeaGates" "sea" "LSeaGates$Sea;", Cond.fieldLink RX11 104 "SeaGates$Sea" "size" "I", Cond.constant RX11 107 (-1000003), Cond.fieldLink RX11 12 "SeaGates" "sheets" "LSeaGates$Sheets;", Cond.fieldLink RX11 37 "SeaGates" "plan" "LSeaGates$Plan;", Cond.fieldLink RX11 112 "SeaGates$Plan" "stale" "Z", Cond.fieldLink RX11 116 "SeaGates$Sheets" "items" "[[I", Cond.methodLink RX11 66 yX11_within, Cond.static yX11_within, Cond.initialized RX11, Cond.code yX11_within cX11_within 3 (some .boolean), Cond.methodLink RX11 82 yX7_look, Cond.instanceMethod yX7_look, Cond.selects RX7 yX7_look yX7_look, Cond.initialized RX7, Cond.code yX7_look cX7_look 4 (some .int), Cond.methodLink RX7 29 yX7_isMissing, Cond.instanceMethod yX7_isMissing, Cond.selects RX7 yX7_isMissing yX7_isMissing, Cond.code yX7_isMissing cX7_isMissing 2 (some .boolean), Cond.fieldLink RX7 20 "SeaGates$Sheets" "sizes" "[I", Cond.methodLink RX7 33 yX7_hasPlaces, Cond.instanceMethod yX7_hasPlaces]
def wsX11_world_r2 : List Cond := [Cond.selects RX7 yX7_hasPlaces yX7_hasPlaces, Cond.code yX7_hasPlaces cX7_hasPlaces 4 (some .boolean), Cond.methodLink RX11 71 yX11_found, Cond.instanceMethod yX11_found, Cond.selects RX11 yX11_found yX11_found, Cond.code yX11_found cX11_found 2 (some .int), Cond.fieldLink RX11 62 "SeaGates" "finding" "I", Cond.constant RX11 270 (-1000010), Cond.methodLink RX11 108 yX7_areWithin, Cond.instanceMethod yX7_areWithin, Cond.selects RX7 yX7_areWithin yX7_areWithin, Cond.code yX7_areWithin cX7_areWithin 6 (some .boolean), Cond.fieldLink RX7 11 "SeaGates$Sheets" "items" "[[I", Cond.methodLink RX11 120 yX6_add, Cond.instanceMethod yX6_add, Cond.selects RX6 yX6_add yX6_add, Cond.initialized RX6, Cond.code yX6_add cX6_add 6 (some .int), Cond.fieldLink RX6 23 "SeaGates$Sea" "size" "I", Cond.fieldLink RX6 17 "SeaGates$Sea" "levels" "[[I", Cond.methodLink RX6 27 arraycopyName, Cond.native arraycopyName, Cond.static arraycopyName, Cond.initialized "java/lang/System"]
def wsX11_world_r3 : List Cond := [Cond.fieldLink RX6 9 "SeaGates$Sea" "weights" "[I", Cond.fieldLink RX6 20 "SeaGates$Sea" "heads" "[[I", Cond.methodLink RX6 33 yX6_headOf, Cond.instanceMethod yX6_headOf, Cond.selects RX6 yX6_headOf yX6_headOf, Cond.code yX6_headOf cX6_headOf 4 (some .int), Cond.methodLink RX6 37 yX6_areAlike, Cond.instanceMethod yX6_areAlike, Cond.selects RX6 yX6_areAlike yX6_areAlike, Cond.code yX6_areAlike cX6_areAlike 5 (some .boolean), Cond.methodLink RX11 79 yX11_fine, Cond.instanceMethod yX11_fine, Cond.selects RX11 yX11_fine yX11_fine, Cond.code yX11_fine cX11_fine 2 (some .int)]
def wsX11_world : List Cond := .code yX11_world cX11_world 5 (some .int) :: ((wsX11_world_r1 ++ (wsX11_world_r2 ++ wsX11_world_r3)) ++ wsX110 ++ wsX60 ++ wsX40 ++ wsX70)
def wsX11_river : List Cond := .code yX11_river cX11_river 4 (some .int) :: ([.constant RX11 70 (-1000001), .fieldLink RX11 28 "SeaGates" "barrier" "LSeaGates$Barrier;", .fieldLink RX11 124 "SeaGates$Barrier" "rivers" "[I", .fieldLink RX11 37 "SeaGates" "plan" "LSeaGates$Plan;", .fieldLink RX11 112 "SeaGates$Plan" "stale" "Z", .methodLink RX11 66 yX11_within, .static yX11_within, .initialized RX11, .code yX11_within cX11_within 3 (some .boolean)] ++ wsX110 ++ wsX00 ++ wsX40)
def wsX11_mayBeRule : List Cond := .code yX11_mayBeRule cX11_mayBeRule 2 (some .boolean) :: ([.methodLink RX11 66 yX11_within, .static yX11_within, .initialized RX11, .code yX11_within cX11_within 3 (some .boolean)])
def wsX11_rule : List Cond := .code yX11_rule cX11_rule 4 (some .int) :: ([.constant RX11 70 (-1000001), .fieldLink RX11 28 "SeaGates" "barrier" "LSeaGates$Barrier;", .fieldLink RX11 132 "SeaGates$Barrier" "rules" "[I", .fieldLink RX11 37 "SeaGates" "plan" "LSeaGates$Plan;", .fieldLink RX11 112 "SeaGates$Plan" "stale" "Z", .methodLink RX11 66 yX11_within, .static yX11_within, .initialized RX11, .code yX11_within cX11_within 3 (some .boolean), .methodLink RX11 128 yX11_mayBeRule, .static yX11_mayBeRule, .code yX11_mayBeRule cX11_mayBeRule 2 (some .boolean)] ++ wsX110 ++ wsX00 ++ wsX40)
def wsX11_best_r1 : List Cond := [Cond.fieldLink RX11 37 "SeaGates" "plan" "LSeaGates$Plan;", Cond.fieldLink RX11 138 "SeaGates$Plan" "loss" "J", Cond.methodLink RX11 135 yX4_refresh, Cond.instanceMethod yX4_refresh, Cond.selects RX4 yX4_refresh yX4_refresh, Cond.initialized RX4, Cond.code yX4_refresh cX4_refresh 2 none, Cond.fieldLink RX4 28 "SeaGates$Plan" "stale" "Z", Cond.fieldLink RX4 24 "SeaGates$Plan" "loss" "J", Cond.fieldLink RX4 32 "SeaGates$Plan" "sea" "LSeaGates$Sea;", Cond.fieldLink RX4 44 "SeaGates$Sea" "size" "I", Cond.fieldLink RX4 50 "SeaGates$Sea" "heads" "[[I", Cond.fieldLink RX4 18 "SeaGates$Plan" "now" "[[J", Cond.methodLink RX4 40 yX4_decideHour, Cond.instanceMethod yX4_decideHour, Cond.selects RX4 yX4_decideHour yX4_decideHour, Cond.code yX4_decideHour cX4_decideHour 3 none, Cond.fieldLink RX4 21 "SeaGates$Plan" "then" "[[J", Cond.methodLink RX4 53 arraycopyName, Cond.native arraycopyName, Cond.static arraycopyName, Cond.initialized "java/lang/System", Cond.fieldLink RX4 11 "SeaGates$Plan" "orders" "[[I", Cond.methodLink RX4 59 yX4_decideGroup]
def wsX11_best_r2 : List Cond := [Cond.instanceMethod yX4_decideGroup, Cond.selects RX4 yX4_decideGroup yX4_decideGroup, Cond.code yX4_decideGroup cX4_decideGroup 9 none, Cond.methodLink RX4 63 yX6_weightOfGroup, Cond.instanceMethod yX6_weightOfGroup, Cond.selects RX6 yX6_weightOfGroup yX6_weightOfGroup, Cond.initialized RX6, Cond.code yX6_weightOfGroup cX6_weightOfGroup 5 (some .int), Cond.fieldLink RX6 23 "SeaGates$Sea" "size" "I", Cond.fieldLink RX6 20 "SeaGates$Sea" "heads" "[[I", Cond.fieldLink RX6 9 "SeaGates$Sea" "weights" "[I", Cond.methodLink RX4 67 yX4_lossFrom, Cond.instanceMethod yX4_lossFrom, Cond.selects RX4 yX4_lossFrom yX4_lossFrom, Cond.code yX4_lossFrom cX4_lossFrom 10 (some .long), Cond.fieldLink RX4 36 "SeaGates$Plan" "barrier" "LSeaGates$Barrier;", Cond.methodLink RX4 77 yX0_lost, Cond.instanceMethod yX0_lost, Cond.selects RX0 yX0_lost yX0_lost, Cond.initialized RX0, Cond.code yX0_lost cX0_lost 8 (some .int), Cond.fieldLink RX0 9 "SeaGates$Barrier" "rules" "[I", Cond.methodLink RX0 46 Lib.Math.max.name, Cond.static Lib.Math.max.name]
def wsX11_best_r3 : List Cond := [Cond.initialized "java/lang/Math", Cond.code Lib.Math.max.name Lib.Math.max.code 2 (some .int), Cond.methodLink RX0 38 yX0_stands, Cond.instanceMethod yX0_stands, Cond.selects RX0 yX0_stands yX0_stands, Cond.code yX0_stands cX0_stands 3 (some .int), Cond.methodLink RX0 42 yX0_water, Cond.instanceMethod yX0_water, Cond.selects RX0 yX0_water yX0_water, Cond.code yX0_water cX0_water 7 (some .int), Cond.fieldLink RX0 18 "SeaGates$Barrier" "sea" "LSeaGates$Sea;", Cond.fieldLink RX0 26 "SeaGates$Sea" "levels" "[[I", Cond.methodLink RX0 32 Lib.Math.min.name, Cond.static Lib.Math.min.name, Cond.code Lib.Math.min.name Lib.Math.min.code 2 (some .int), Cond.fieldLink RX0 15 "SeaGates$Barrier" "rivers" "[I", Cond.methodLink RX4 81 yX0_stands, Cond.methodLink RX4 85 yX0_next, Cond.static yX0_next, Cond.code yX0_next cX0_next 2 (some .int), Cond.methodLink RX0 22 yX0_mayBeTold, Cond.static yX0_mayBeTold, Cond.code yX0_mayBeTold cX0_mayBeTold 1 (some .boolean), Cond.methodLink RX4 71 yX0_mayBeTold]
def wsX11_best : List Cond := .code yX11_best cX11_best 1 (some .long) :: ((wsX11_best_r1 ++ (wsX11_best_r2 ++ wsX11_best_r3)) ++ wsX110 ++ wsX40 ++ wsX60 ++ wsX00)
def wsX11_hour_r1 : List Cond := [Cond.fieldLink RX11 19 "SeaGates" "sea" "LSeaGates$Sea;", Cond.fieldLink RX11 104 "SeaGates$Sea" "size" "I", Cond.constant RX11 70 (-1000001), Cond.fieldLink RX11 37 "SeaGates" "plan" "LSeaGates$Plan;", Cond.fieldLink RX11 28 "SeaGates" "barrier" "LSeaGates$Barrier;", Cond.methodLink RX11 66 yX11_within, Cond.static yX11_within, Cond.initialized RX11, Cond.code yX11_within cX11_within 3 (some .boolean), Cond.methodLink RX11 135 yX4_refresh, Cond.instanceMethod yX4_refresh, Cond.selects RX4 yX4_refresh yX4_refresh, Cond.initialized RX4, Cond.code yX4_refresh cX4_refresh 2 none, Cond.fieldLink RX4 28 "SeaGates$Plan" "stale" "Z", Cond.fieldLink RX4 24 "SeaGates$Plan" "loss" "J", Cond.fieldLink RX4 32 "SeaGates$Plan" "sea" "LSeaGates$Sea;", Cond.fieldLink RX4 44 "SeaGates$Sea" "size" "I", Cond.fieldLink RX4 50 "SeaGates$Sea" "heads" "[[I", Cond.fieldLink RX4 18 "SeaGates$Plan" "now" "[[J", Cond.methodLink RX4 40 yX4_decideHour, Cond.instanceMethod yX4_decideHour, Cond.selects RX4 yX4_decideHour yX4_decideHour, Cond.code yX4_decideHour cX4_decideHour 3 none]
def wsX11_hour_r2 : List Cond := [Cond.fieldLink RX4 21 "SeaGates$Plan" "then" "[[J", Cond.methodLink RX4 53 arraycopyName, Cond.native arraycopyName, Cond.static arraycopyName, Cond.initialized "java/lang/System", Cond.fieldLink RX4 11 "SeaGates$Plan" "orders" "[[I", Cond.methodLink RX4 59 yX4_decideGroup, Cond.instanceMethod yX4_decideGroup, Cond.selects RX4 yX4_decideGroup yX4_decideGroup, Cond.code yX4_decideGroup cX4_decideGroup 9 none, Cond.methodLink RX4 63 yX6_weightOfGroup, Cond.instanceMethod yX6_weightOfGroup, Cond.selects RX6 yX6_weightOfGroup yX6_weightOfGroup, Cond.initialized RX6, Cond.code yX6_weightOfGroup cX6_weightOfGroup 5 (some .int), Cond.fieldLink RX6 23 "SeaGates$Sea" "size" "I", Cond.fieldLink RX6 20 "SeaGates$Sea" "heads" "[[I", Cond.fieldLink RX6 9 "SeaGates$Sea" "weights" "[I", Cond.methodLink RX4 67 yX4_lossFrom, Cond.instanceMethod yX4_lossFrom, Cond.selects RX4 yX4_lossFrom yX4_lossFrom, Cond.code yX4_lossFrom cX4_lossFrom 10 (some .long), Cond.fieldLink RX4 36 "SeaGates$Plan" "barrier" "LSeaGates$Barrier;", Cond.methodLink RX4 77 yX0_lost]
def wsX11_hour_r3 : List Cond := [Cond.instanceMethod yX0_lost, Cond.selects RX0 yX0_lost yX0_lost, Cond.initialized RX0, Cond.code yX0_lost cX0_lost 8 (some .int), Cond.fieldLink RX0 9 "SeaGates$Barrier" "rules" "[I", Cond.methodLink RX0 46 Lib.Math.max.name, Cond.static Lib.Math.max.name, Cond.initialized "java/lang/Math", Cond.code Lib.Math.max.name Lib.Math.max.code 2 (some .int), Cond.methodLink RX0 38 yX0_stands, Cond.instanceMethod yX0_stands, Cond.selects RX0 yX0_stands yX0_stands, Cond.code yX0_stands cX0_stands 3 (some .int), Cond.methodLink RX0 42 yX0_water, Cond.instanceMethod yX0_water, Cond.selects RX0 yX0_water yX0_water, Cond.code yX0_water cX0_water 7 (some .int), Cond.fieldLink RX0 18 "SeaGates$Barrier" "sea" "LSeaGates$Sea;", Cond.fieldLink RX0 26 "SeaGates$Sea" "levels" "[[I", Cond.methodLink RX0 32 Lib.Math.min.name, Cond.static Lib.Math.min.name, Cond.code Lib.Math.min.name Lib.Math.min.code 2 (some .int), Cond.fieldLink RX0 15 "SeaGates$Barrier" "rivers" "[I", Cond.methodLink RX4 81 yX0_stands]
def wsX11_hour_r4 : List Cond := [Cond.methodLink RX4 85 yX0_next, Cond.static yX0_next, Cond.code yX0_next cX0_next 2 (some .int), Cond.methodLink RX0 22 yX0_mayBeTold, Cond.static yX0_mayBeTold, Cond.code yX0_mayBeTold cX0_mayBeTold 1 (some .boolean), Cond.methodLink RX4 71 yX0_mayBeTold, Cond.methodLink RX11 142 yX4_stateAt, Cond.instanceMethod yX4_stateAt, Cond.selects RX4 yX4_stateAt yX4_stateAt, Cond.code yX4_stateAt cX4_stateAt 5 (some .int), Cond.methodLink RX4 88 yX4_tells, Cond.instanceMethod yX4_tells, Cond.selects RX4 yX4_tells yX4_tells, Cond.code yX4_tells cX4_tells 4 (some .boolean), Cond.methodLink RX11 146 yX4_tells, Cond.methodLink RX11 149 yX0_order, Cond.static yX0_order, Cond.code yX0_order cX0_order 2 (some .int), Cond.methodLink RX11 153 yX0_stands, Cond.methodLink RX11 156 yX0_how, Cond.static yX0_how, Cond.code yX0_how cX0_how 1 (some .int), Cond.methodLink RX11 159 yX0_water]
def wsX11_hour_r5 : List Cond := [Cond.methodLink RX11 162 yX0_lost]
def wsX11_hour : List Cond := .code yX11_hour cX11_hour 6 (some .int) :: ((wsX11_hour_r1 ++ (wsX11_hour_r2 ++ (wsX11_hour_r3 ++ (wsX11_hour_r4 ++ wsX11_hour_r5)))) ++ wsX110 ++ wsX60 ++ wsX40 ++ wsX00)
def wsX11_shutAt_r1 : List Cond := [Cond.fieldLink RX11 28 "SeaGates" "barrier" "LSeaGates$Barrier;", Cond.constantLong RX11 170 (-1000001), Cond.methodLink RX11 66 yX11_within, Cond.static yX11_within, Cond.initialized RX11, Cond.code yX11_within cX11_within 3 (some .boolean), Cond.methodLink RX11 166 yX0_lossOfOneOrder, Cond.instanceMethod yX0_lossOfOneOrder, Cond.selects RX0 yX0_lossOfOneOrder yX0_lossOfOneOrder, Cond.initialized RX0, Cond.code yX0_lossOfOneOrder cX0_lossOfOneOrder 8 (some .long), Cond.fieldLink RX0 18 "SeaGates$Barrier" "sea" "LSeaGates$Sea;", Cond.fieldLink RX0 49 "SeaGates$Sea" "size" "I", Cond.fieldLink RX0 53 "SeaGates$Sea" "weights" "[I", Cond.methodLink RX0 56 yX0_lost, Cond.instanceMethod yX0_lost, Cond.selects RX0 yX0_lost yX0_lost, Cond.code yX0_lost cX0_lost 8 (some .int), Cond.fieldLink RX0 9 "SeaGates$Barrier" "rules" "[I", Cond.methodLink RX0 46 Lib.Math.max.name, Cond.static Lib.Math.max.name, Cond.initialized "java/lang/Math", Cond.code Lib.Math.max.name Lib.Math.max.code 2 (some .int), Cond.methodLink RX0 38 yX0_stands]
def wsX11_shutAt_r2 : List Cond := [Cond.instanceMethod yX0_stands, Cond.selects RX0 yX0_stands yX0_stands, Cond.code yX0_stands cX0_stands 3 (some .int), Cond.methodLink RX0 42 yX0_water, Cond.instanceMethod yX0_water, Cond.selects RX0 yX0_water yX0_water, Cond.code yX0_water cX0_water 7 (some .int), Cond.fieldLink RX0 26 "SeaGates$Sea" "levels" "[[I", Cond.methodLink RX0 32 Lib.Math.min.name, Cond.static Lib.Math.min.name, Cond.code Lib.Math.min.name Lib.Math.min.code 2 (some .int), Cond.fieldLink RX0 15 "SeaGates$Barrier" "rivers" "[I", Cond.methodLink RX0 60 yX0_next, Cond.static yX0_next, Cond.code yX0_next cX0_next 2 (some .int), Cond.methodLink RX0 22 yX0_mayBeTold, Cond.static yX0_mayBeTold, Cond.code yX0_mayBeTold cX0_mayBeTold 1 (some .boolean)]
def wsX11_shutAt : List Cond := .code yX11_shutAt cX11_shutAt 2 (some .long) :: ((wsX11_shutAt_r1 ++ wsX11_shutAt_r2) ++ wsX110 ++ wsX00 ++ wsX60)
def wsX11_alarm : List Cond := .code yX11_alarm cX11_alarm 3 (some .int) :: ([.fieldLink RX11 19 "SeaGates" "sea" "LSeaGates$Sea;", .fieldLink RX11 28 "SeaGates" "barrier" "LSeaGates$Barrier;", .fieldLink RX11 132 "SeaGates$Barrier" "rules" "[I", .constant RX11 175 (-1000000), .methodLink RX11 172 yX6_firstAbove, .instanceMethod yX6_firstAbove, .selects RX6 yX6_firstAbove yX6_firstAbove, .initialized RX6, .code yX6_firstAbove cX6_firstAbove 4 (some .int), .fieldLink RX6 23 "SeaGates$Sea" "size" "I", .fieldLink RX6 17 "SeaGates$Sea" "levels" "[[I"] ++ wsX110 ++ wsX00 ++ wsX60)
def wsX11_groups : List Cond := .code yX11_groups cX11_groups 2 (some .int) :: ([.fieldLink RX11 19 "SeaGates" "sea" "LSeaGates$Sea;", .constant RX11 70 (-1000001), .methodLink RX11 66 yX11_within, .static yX11_within, .initialized RX11, .code yX11_within cX11_within 3 (some .boolean), .methodLink RX11 176 yX6_groupsAt, .instanceMethod yX6_groupsAt, .selects RX6 yX6_groupsAt yX6_groupsAt, .initialized RX6, .code yX6_groupsAt cX6_groupsAt 4 (some .int), .fieldLink RX6 23 "SeaGates$Sea" "size" "I", .fieldLink RX6 20 "SeaGates$Sea" "heads" "[[I"] ++ wsX110 ++ wsX60)
def wsX11_gateOf_r1 : List Cond := [Cond.classLink RX11 187 RX10, Cond.instantiable RX10 3, Cond.initialized RX10, Cond.classLink RX11 192 RX3, Cond.instantiable RX3 3, Cond.initialized RX3, Cond.classLink RX11 195 RX8, Cond.instantiable RX8 3, Cond.initialized RX8, Cond.classLink RX11 200 RX2, Cond.instantiable RX2 3, Cond.initialized RX2, Cond.methodLink RX11 189 yX10_init, Cond.instanceMethod yX10_init, Cond.code yX10_init cX10_init 3 none, Cond.methodLink RX10 3 yX3_init, Cond.instanceMethod yX3_init, Cond.code yX3_init cX3_init 3 none, Cond.methodLink RX3 3 yX2_init, Cond.instanceMethod yX2_init, Cond.code yX2_init cX2_init 3 none, Cond.methodLink RX2 3 objectInit, Cond.instanceMethod objectInit, Cond.code objectInit ⟨#[0xb1]⟩ 1 none]
def wsX11_gateOf_r2 : List Cond := [Cond.fieldLink RX2 9 "SeaGates$Gate" "failed" "Z", Cond.fieldLink RX2 15 "SeaGates$Gate" "minutes" "I", Cond.fieldLink RX2 19 "SeaGates$Gate" "hand" "I", Cond.methodLink RX11 194 yX3_init, Cond.methodLink RX11 197 yX8_init, Cond.instanceMethod yX8_init, Cond.code yX8_init cX8_init 2 none, Cond.methodLink RX8 3 yX2_init, Cond.methodLink RX11 202 yX2_init]
def wsX11_gateOf : List Cond := .code yX11_gateOf cX11_gateOf 2 (some (.object "SeaGates$Gate")) :: ((wsX11_gateOf_r1 ++ wsX11_gateOf_r2) ++ wsX100 ++ wsX30 ++ wsX80 ++ wsX20)
def wsX11_gate_r1 : List Cond := [Cond.constant RX11 70 (-1000001), Cond.fieldLink RX11 44 "SeaGates" "row" "LSeaGates$Row;", Cond.fieldLink RX11 179 "SeaGates$Row" "size" "I", Cond.constant RX11 107 (-1000003), Cond.methodLink RX11 66 yX11_within, Cond.static yX11_within, Cond.initialized RX11, Cond.code yX11_within cX11_within 3 (some .boolean), Cond.methodLink RX11 180 yX11_gateOf, Cond.static yX11_gateOf, Cond.code yX11_gateOf cX11_gateOf 2 (some (.object "SeaGates$Gate")), Cond.classLink RX11 187 RX10, Cond.instantiable RX10 3, Cond.initialized RX10, Cond.classLink RX11 192 RX3, Cond.instantiable RX3 3, Cond.initialized RX3, Cond.classLink RX11 195 RX8, Cond.instantiable RX8 3, Cond.initialized RX8, Cond.classLink RX11 200 RX2, Cond.instantiable RX2 3, Cond.initialized RX2, Cond.methodLink RX11 189 yX10_init]
def wsX11_gate_r2 : List Cond := [Cond.instanceMethod yX10_init, Cond.code yX10_init cX10_init 3 none, Cond.methodLink RX10 3 yX3_init, Cond.instanceMethod yX3_init, Cond.code yX3_init cX3_init 3 none, Cond.methodLink RX3 3 yX2_init, Cond.instanceMethod yX2_init, Cond.code yX2_init cX2_init 3 none, Cond.methodLink RX2 3 objectInit, Cond.instanceMethod objectInit, Cond.code objectInit ⟨#[0xb1]⟩ 1 none, Cond.fieldLink RX2 9 "SeaGates$Gate" "failed" "Z", Cond.fieldLink RX2 15 "SeaGates$Gate" "minutes" "I", Cond.fieldLink RX2 19 "SeaGates$Gate" "hand" "I", Cond.methodLink RX11 194 yX3_init, Cond.methodLink RX11 197 yX8_init, Cond.instanceMethod yX8_init, Cond.code yX8_init cX8_init 2 none, Cond.methodLink RX8 3 yX2_init, Cond.methodLink RX11 202 yX2_init, Cond.methodLink RX11 184 yX5_add, Cond.instanceMethod yX5_add, Cond.selects RX5 yX5_add yX5_add, Cond.initialized RX5]
def wsX11_gate_r3 : List Cond := [Cond.code yX5_add cX5_add 2 (some .int), Cond.fieldLink RX5 11 "SeaGates$Row" "gates" "[LSeaGates$Gate;", Cond.fieldLink RX5 21 "SeaGates$Row" "size" "I"]
def wsX11_gate : List Cond := .code yX11_gate cX11_gate 3 (some .int) :: ((wsX11_gate_r1 ++ (wsX11_gate_r2 ++ wsX11_gate_r3)) ++ wsX110 ++ wsX50 ++ wsX100 ++ wsX30 ++ wsX80 ++ wsX20)
def wsX11_becomes : List Cond := .code yX11_becomes cX11_becomes 5 (some .int) :: ([.fieldLink RX11 44 "SeaGates" "row" "LSeaGates$Row;", .constant RX11 70 (-1000001), .fieldLink RX11 210 "SeaGates$Gate" "failed" "Z", .methodLink RX11 206 yX5_at, .instanceMethod yX5_at, .selects RX5 yX5_at yX5_at, .initialized RX5, .code yX5_at cX5_at 2 (some (.object "SeaGates$Gate")), .fieldLink RX5 21 "SeaGates$Row" "size" "I", .fieldLink RX5 11 "SeaGates$Row" "gates" "[LSeaGates$Gate;", .static yX11_within, .initialized RX11, .code yX11_within cX11_within 3 (some .boolean)] ++ wsX110 ++ wsX20 ++ wsX30 ++ wsX80 ++ wsX100 ++ wsX50)
def wsX11_fail : List Cond := .code yX11_fail cX11_fail 2 (some .int) :: ([.methodLink RX11 203 yX11_becomes, .instanceMethod yX11_becomes, .selects RX11 yX11_becomes yX11_becomes, .initialized RX11, .code yX11_becomes cX11_becomes 5 (some .int), .fieldLink RX11 44 "SeaGates" "row" "LSeaGates$Row;", .constant RX11 70 (-1000001), .fieldLink RX11 210 "SeaGates$Gate" "failed" "Z", .methodLink RX11 206 yX5_at, .instanceMethod yX5_at, .selects RX5 yX5_at yX5_at, .initialized RX5, .code yX5_at cX5_at 2 (some (.object "SeaGates$Gate")), .fieldLink RX5 21 "SeaGates$Row" "size" "I", .fieldLink RX5 11 "SeaGates$Row" "gates" "[LSeaGates$Gate;", .static yX11_within, .code yX11_within cX11_within 3 (some .boolean)] ++ wsX110 ++ wsX20 ++ wsX30 ++ wsX80 ++ wsX100 ++ wsX50)
def wsX11_mend : List Cond := .code yX11_mend cX11_mend 2 (some .int) :: ([.methodLink RX11 203 yX11_becomes, .instanceMethod yX11_becomes, .selects RX11 yX11_becomes yX11_becomes, .initialized RX11, .code yX11_becomes cX11_becomes 5 (some .int), .fieldLink RX11 44 "SeaGates" "row" "LSeaGates$Row;", .constant RX11 70 (-1000001), .fieldLink RX11 210 "SeaGates$Gate" "failed" "Z", .methodLink RX11 206 yX5_at, .instanceMethod yX5_at, .selects RX5 yX5_at yX5_at, .initialized RX5, .code yX5_at cX5_at 2 (some (.object "SeaGates$Gate")), .fieldLink RX5 21 "SeaGates$Row" "size" "I", .fieldLink RX5 11 "SeaGates$Row" "gates" "[LSeaGates$Gate;", .static yX11_within, .code yX11_within cX11_within 3 (some .boolean)] ++ wsX110 ++ wsX20 ++ wsX30 ++ wsX80 ++ wsX100 ++ wsX50)
def wsX11_time_r1 : List Cond := [Cond.constant RX11 70 (-1000001), Cond.fieldLink RX11 44 "SeaGates" "row" "LSeaGates$Row;", Cond.constant RX11 175 (-1000000), Cond.methodLink RX11 66 yX11_within, Cond.static yX11_within, Cond.initialized RX11, Cond.code yX11_within cX11_within 3 (some .boolean), Cond.methodLink RX11 213 yX5_timeToShut, Cond.instanceMethod yX5_timeToShut, Cond.selects RX5 yX5_timeToShut yX5_timeToShut, Cond.initialized RX5, Cond.code yX5_timeToShut cX5_timeToShut 7 (some .int), Cond.fieldLink RX5 17 "SeaGates$Row" "free" "[I", Cond.fieldLink RX5 11 "SeaGates$Row" "gates" "[LSeaGates$Gate;", Cond.fieldLink RX5 39 "SeaGates$Gate" "minutes" "I", Cond.fieldLink RX5 29 "SeaGates$Gate" "failed" "Z", Cond.fieldLink RX5 42 "SeaGates$Gate" "hand" "I", Cond.constant RX5 45 (-1000000), Cond.methodLink RX5 50 Lib.Math.max.name, Cond.static Lib.Math.max.name, Cond.initialized "java/lang/Math", Cond.code Lib.Math.max.name Lib.Math.max.code 2 (some .int), Cond.methodLink RX5 33 yJ7_fill_53178, Cond.static yJ7_fill_53178]
def wsX11_time_r2 : List Cond := [Cond.initialized RJ7, Cond.code yJ7_fill_53178 cJ7_fill_53178 4 none, Cond.methodLink RX5 46 yX5_endByHand, Cond.instanceMethod yX5_endByHand, Cond.selects RX5 yX5_endByHand yX5_endByHand, Cond.code yX5_endByHand cX5_endByHand 5 (some .int), Cond.methodLink RX11 216 yX5_worstTime, Cond.instanceMethod yX5_worstTime, Cond.selects RX5 yX5_worstTime yX5_worstTime, Cond.code yX5_worstTime cX5_worstTime 6 (some .int), Cond.fieldLink RX5 21 "SeaGates$Row" "size" "I", Cond.methodLink RX5 55 yX5_failedOnes, Cond.instanceMethod yX5_failedOnes, Cond.selects RX5 yX5_failedOnes yX5_failedOnes, Cond.code yX5_failedOnes cX5_failedOnes 6 (some .int), Cond.methodLink RX5 59 yX5_timeToShut]
def wsX11_time : List Cond := .code yX11_time cX11_time 3 (some .int) :: ((wsX11_time_r1 ++ wsX11_time_r2) ++ wsX110 ++ wsX50 ++ wsX20 ++ wsX30 ++ wsX80 ++ wsX100)
def wsX11_ship : List Cond := .code yX11_ship cX11_ship 3 (some .int) :: ([.constant RX11 219 (100000), .constant RX11 70 (-1000001), .fieldLink RX11 51 "SeaGates" "fairway" "LSeaGates$Fairway;", .fieldLink RX11 220 "SeaGates$Fairway" "size" "I", .constant RX11 107 (-1000003), .methodLink RX11 66 yX11_within, .static yX11_within, .initialized RX11, .code yX11_within cX11_within 3 (some .boolean), .methodLink RX11 221 yX1_add, .instanceMethod yX1_add, .selects RX1 yX1_add yX1_add, .initialized RX1, .code yX1_add cX1_add 5 (some .int), .fieldLink RX1 21 "SeaGates$Fairway" "size" "I", .fieldLink RX1 9 "SeaGates$Fairway" "minutes" "[I", .fieldLink RX1 15 "SeaGates$Fairway" "passing" "[I", .fieldLink RX1 18 "SeaGates$Fairway" "inTurn" "[I"] ++ wsX110 ++ wsX10)
def wsX11_waits : List Cond := .code yX11_waits cX11_waits 4 (some .int) :: ([.fieldLink RX11 51 "SeaGates" "fairway" "LSeaGates$Fairway;", .fieldLink RX11 220 "SeaGates$Fairway" "size" "I", .constant RX11 219 (100000), .constant RX11 70 (-1000001), .methodLink RX11 66 yX11_within, .static yX11_within, .initialized RX11, .code yX11_within cX11_within 3 (some .boolean), .methodLink RX11 223 yX1_waitOf, .instanceMethod yX1_waitOf, .selects RX1 yX1_waitOf yX1_waitOf, .initialized RX1, .code yX1_waitOf cX1_waitOf 9 (some .int), .fieldLink RX1 21 "SeaGates$Fairway" "size" "I", .fieldLink RX1 18 "SeaGates$Fairway" "inTurn" "[I", .fieldLink RX1 9 "SeaGates$Fairway" "minutes" "[I", .methodLink RX1 25 Lib.Math.max.name, .static Lib.Math.max.name, .initialized "java/lang/Math", .code Lib.Math.max.name Lib.Math.max.code 2 (some .int), .fieldLink RX1 15 "SeaGates$Fairway" "passing" "[I"] ++ wsX110 ++ wsX10)
def wsX11_arePeaks : List Cond := .code yX11_arePeaks cX11_arePeaks 3 (some .boolean) :: ([.methodLink RX11 66 yX11_within, .static yX11_within, .initialized RX11, .code yX11_within cX11_within 3 (some .boolean)])
def wsX11_levelIn : List Cond := .code yX11_levelIn cX11_levelIn 3 (some .long) :: ([])
def wsX11_closings_r1 : List Cond := [Cond.constant RX11 70 (-1000001), Cond.fieldLink RX11 12 "SeaGates" "sheets" "LSeaGates$Sheets;", Cond.methodLink RX11 226 yX11_arePeaks, Cond.static yX11_arePeaks, Cond.initialized RX11, Cond.code yX11_arePeaks cX11_arePeaks 3 (some .boolean), Cond.methodLink RX11 66 yX11_within, Cond.static yX11_within, Cond.code yX11_within cX11_within 3 (some .boolean), Cond.methodLink RX11 82 yX7_look, Cond.instanceMethod yX7_look, Cond.selects RX7 yX7_look yX7_look, Cond.initialized RX7, Cond.code yX7_look cX7_look 4 (some .int), Cond.methodLink RX7 29 yX7_isMissing, Cond.instanceMethod yX7_isMissing, Cond.selects RX7 yX7_isMissing yX7_isMissing, Cond.code yX7_isMissing cX7_isMissing 2 (some .boolean), Cond.fieldLink RX7 20 "SeaGates$Sheets" "sizes" "[I", Cond.methodLink RX7 33 yX7_hasPlaces, Cond.instanceMethod yX7_hasPlaces, Cond.selects RX7 yX7_hasPlaces yX7_hasPlaces, Cond.code yX7_hasPlaces cX7_hasPlaces 4 (some .boolean), Cond.methodLink RX11 71 yX11_found]
def wsX11_closings_r2 : List Cond := [Cond.instanceMethod yX11_found, Cond.selects RX11 yX11_found yX11_found, Cond.code yX11_found cX11_found 2 (some .int), Cond.fieldLink RX11 62 "SeaGates" "finding" "I", Cond.constant RX11 270 (-1000010), Cond.methodLink RX11 229 yX11_levelIn, Cond.static yX11_levelIn, Cond.code yX11_levelIn cX11_levelIn 3 (some .long), Cond.methodLink RX11 233 yX7_above, Cond.instanceMethod yX7_above, Cond.selects RX7 yX7_above yX7_above, Cond.code yX7_above cX7_above 8 (some .int), Cond.fieldLink RX7 11 "SeaGates$Sheets" "items" "[[I", Cond.methodLink RX11 79 yX11_fine, Cond.instanceMethod yX11_fine, Cond.selects RX11 yX11_fine yX11_fine, Cond.code yX11_fine cX11_fine 2 (some .int)]
def wsX11_closings : List Cond := .code yX11_closings cX11_closings 8 (some .int) :: ((wsX11_closings_r1 ++ wsX11_closings_r2) ++ wsX110 ++ wsX70)
def wsX11_tooMany_r1 : List Cond := [Cond.constant RX11 70 (-1000001), Cond.fieldLink RX11 12 "SeaGates" "sheets" "LSeaGates$Sheets;", Cond.constant RX11 175 (-1000000), Cond.methodLink RX11 226 yX11_arePeaks, Cond.static yX11_arePeaks, Cond.initialized RX11, Cond.code yX11_arePeaks cX11_arePeaks 3 (some .boolean), Cond.methodLink RX11 66 yX11_within, Cond.static yX11_within, Cond.code yX11_within cX11_within 3 (some .boolean), Cond.methodLink RX11 82 yX7_look, Cond.instanceMethod yX7_look, Cond.selects RX7 yX7_look yX7_look, Cond.initialized RX7, Cond.code yX7_look cX7_look 4 (some .int), Cond.methodLink RX7 29 yX7_isMissing, Cond.instanceMethod yX7_isMissing, Cond.selects RX7 yX7_isMissing yX7_isMissing, Cond.code yX7_isMissing cX7_isMissing 2 (some .boolean), Cond.fieldLink RX7 20 "SeaGates$Sheets" "sizes" "[I", Cond.methodLink RX7 33 yX7_hasPlaces, Cond.instanceMethod yX7_hasPlaces, Cond.selects RX7 yX7_hasPlaces yX7_hasPlaces, Cond.code yX7_hasPlaces cX7_hasPlaces 4 (some .boolean)]
def wsX11_tooMany_r2 : List Cond := [Cond.methodLink RX11 71 yX11_found, Cond.instanceMethod yX11_found, Cond.selects RX11 yX11_found yX11_found, Cond.code yX11_found cX11_found 2 (some .int), Cond.fieldLink RX11 62 "SeaGates" "finding" "I", Cond.constant RX11 270 (-1000010), Cond.methodLink RX11 229 yX11_levelIn, Cond.static yX11_levelIn, Cond.code yX11_levelIn cX11_levelIn 3 (some .long), Cond.methodLink RX11 233 yX7_above, Cond.instanceMethod yX7_above, Cond.selects RX7 yX7_above yX7_above, Cond.code yX7_above cX7_above 8 (some .int), Cond.fieldLink RX7 11 "SeaGates$Sheets" "items" "[[I", Cond.methodLink RX11 79 yX11_fine, Cond.instanceMethod yX11_fine, Cond.selects RX11 yX11_fine yX11_fine, Cond.code yX11_fine cX11_fine 2 (some .int)]
def wsX11_tooMany : List Cond := .code yX11_tooMany cX11_tooMany 12 (some .int) :: ((wsX11_tooMany_r1 ++ wsX11_tooMany_r2) ++ wsX110 ++ wsX70)
def wsX11_kind_r1 : List Cond := [Cond.fieldLink RX11 44 "SeaGates" "row" "LSeaGates$Row;", Cond.constant RX11 70 (-1000001), Cond.methodLink RX11 206 yX5_at, Cond.instanceMethod yX5_at, Cond.selects RX5 yX5_at yX5_at, Cond.initialized RX5, Cond.code yX5_at cX5_at 2 (some (.object "SeaGates$Gate")), Cond.fieldLink RX5 21 "SeaGates$Row" "size" "I", Cond.fieldLink RX5 11 "SeaGates$Row" "gates" "[LSeaGates$Gate;", Cond.static yX11_within, Cond.initialized RX11, Cond.code yX11_within cX11_within 3 (some .boolean), Cond.methodLink RX11 237 yX2_toldAs, Cond.instanceMethod yX2_toldAs, Cond.selects RX2 yX2_toldAs yX2_toldAs, Cond.initialized RX2, Cond.code yX2_toldAs cX2_toldAs 1 (some .int), Cond.methodLink RX11 237 ⟨"SeaGates$Gate", "toldAs", "()I"⟩, Cond.sameMethod "SeaGates$Gate" "SeaGates$Gate" "toldAs" "()I", Cond.instanceMethod ⟨"SeaGates$Gate", "toldAs", "()I"⟩, Cond.selects RX3 ⟨"SeaGates$Gate", "toldAs", "()I"⟩ yX3_toldAs, Cond.instanceMethod yX3_toldAs, Cond.initialized RX3, Cond.code yX3_toldAs cX3_toldAs 1 (some .int)]
def wsX11_kind_r2 : List Cond := [Cond.selects RX8 ⟨"SeaGates$Gate", "toldAs", "()I"⟩ yX8_toldAs, Cond.instanceMethod yX8_toldAs, Cond.initialized RX8, Cond.code yX8_toldAs cX8_toldAs 1 (some .int), Cond.selects RX10 ⟨"SeaGates$Gate", "toldAs", "()I"⟩ yX10_toldAs, Cond.instanceMethod yX10_toldAs, Cond.initialized RX10, Cond.code yX10_toldAs cX10_toldAs 1 (some .int)]
def wsX11_kind : List Cond := .code yX11_kind cX11_kind 3 (some .int) :: ((wsX11_kind_r1 ++ wsX11_kind_r2) ++ wsX110 ++ wsX50)
def wsX11_isOf : List Cond := .code yX11_isOf cX11_isOf 2 (some .boolean) :: ([.classLink RX11 192 "SeaGates$Handed", .classLink RX11 187 "SeaGates$Twin", .classLink RX11 195 "SeaGates$Slow"])
def wsX11_as_r1 : List Cond := [Cond.fieldLink RX11 44 "SeaGates" "row" "LSeaGates$Row;", Cond.constant RX11 70 (-1000001), Cond.fieldLink RX11 245 "SeaGates$Gate" "minutes" "I", Cond.methodLink RX11 206 yX5_at, Cond.instanceMethod yX5_at, Cond.selects RX5 yX5_at yX5_at, Cond.initialized RX5, Cond.code yX5_at cX5_at 2 (some (.object "SeaGates$Gate")), Cond.fieldLink RX5 21 "SeaGates$Row" "size" "I", Cond.fieldLink RX5 11 "SeaGates$Row" "gates" "[LSeaGates$Gate;", Cond.static yX11_within, Cond.initialized RX11, Cond.code yX11_within cX11_within 3 (some .boolean), Cond.methodLink RX11 66 yX11_within, Cond.methodLink RX11 241 yX11_isOf, Cond.static yX11_isOf, Cond.code yX11_isOf cX11_isOf 2 (some .boolean), Cond.classLink RX11 192 "SeaGates$Handed", Cond.classLink RX11 187 "SeaGates$Twin", Cond.classLink RX11 195 "SeaGates$Slow", Cond.methodLink RX11 79 yX11_fine, Cond.instanceMethod yX11_fine, Cond.selects RX11 yX11_fine yX11_fine, Cond.code yX11_fine cX11_fine 2 (some .int)]
def wsX11_as_r2 : List Cond := [Cond.fieldLink RX11 62 "SeaGates" "finding" "I", Cond.methodLink RX11 71 yX11_found, Cond.instanceMethod yX11_found, Cond.selects RX11 yX11_found yX11_found, Cond.code yX11_found cX11_found 2 (some .int), Cond.constant RX11 270 (-1000010)]
def wsX11_as : List Cond := .code yX11_as cX11_as 4 (some .int) :: ((wsX11_as_r1 ++ wsX11_as_r2) ++ wsX110 ++ wsX20 ++ wsX30 ++ wsX80 ++ wsX100 ++ wsX50)
def wsX11_ask_r1 : List Cond := [Cond.fieldLink RX11 44 "SeaGates" "row" "LSeaGates$Row;", Cond.constant RX11 70 (-1000001), Cond.fieldLink RX11 58 "SeaGates" "bodies" "LSeaGates$Trace;", Cond.fieldLink RX11 248 "SeaGates$Trace" "length" "I", Cond.methodLink RX11 206 yX5_at, Cond.instanceMethod yX5_at, Cond.selects RX5 yX5_at yX5_at, Cond.initialized RX5, Cond.code yX5_at cX5_at 2 (some (.object "SeaGates$Gate")), Cond.fieldLink RX5 21 "SeaGates$Row" "size" "I", Cond.fieldLink RX5 11 "SeaGates$Row" "gates" "[LSeaGates$Gate;", Cond.static yX11_within, Cond.initialized RX11, Cond.code yX11_within cX11_within 3 (some .boolean), Cond.methodLink RX11 66 yX11_within, Cond.methodLink RX11 251 yX2_cost, Cond.instanceMethod yX2_cost, Cond.selects RX2 yX2_cost yX2_cost, Cond.initialized RX2, Cond.code yX2_cost cX2_cost 2 (some .int), Cond.fieldLink RX2 15 "SeaGates$Gate" "minutes" "I", Cond.methodLink RX2 22 yX9_leave, Cond.instanceMethod yX9_leave, Cond.selects RX9 yX9_leave yX9_leave]
def wsX11_ask_r2 : List Cond := [Cond.initialized RX9, Cond.code yX9_leave cX9_leave 2 none, Cond.fieldLink RX9 15 "SeaGates$Trace" "length" "I", Cond.fieldLink RX9 9 "SeaGates$Trace" "numbers" "[I", Cond.methodLink RX11 251 ⟨"SeaGates$Gate", "cost", "(LSeaGates$Trace;)I"⟩, Cond.sameMethod "SeaGates$Gate" "SeaGates$Gate" "cost" "(LSeaGates$Trace;)I", Cond.instanceMethod ⟨"SeaGates$Gate", "cost", "(LSeaGates$Trace;)I"⟩, Cond.selects RX3 ⟨"SeaGates$Gate", "cost", "(LSeaGates$Trace;)I"⟩ yX3_cost, Cond.instanceMethod yX3_cost, Cond.initialized RX3, Cond.code yX3_cost cX3_cost 2 (some .int), Cond.fieldLink RX3 19 "SeaGates$Handed" "hand" "I", Cond.sameField "SeaGates$Handed" "SeaGates$Gate" "hand" "I", Cond.methodLink RX3 9 yX9_leave, Cond.methodLink RX3 15 yX2_cost, Cond.superclass RX3 RX2, Cond.selects RX8 ⟨"SeaGates$Gate", "cost", "(LSeaGates$Trace;)I"⟩ yX8_cost, Cond.instanceMethod yX8_cost, Cond.initialized RX8, Cond.code yX8_cost cX8_cost 2 (some .int), Cond.methodLink RX8 9 yX9_leave, Cond.methodLink RX8 15 yX2_cost, Cond.superclass RX8 RX2, Cond.selects RX10 ⟨"SeaGates$Gate", "cost", "(LSeaGates$Trace;)I"⟩ yX10_cost]
def wsX11_ask_r3 : List Cond := [Cond.instanceMethod yX10_cost, Cond.initialized RX10, Cond.code yX10_cost cX10_cost 2 (some .int), Cond.methodLink RX10 9 yX9_leave, Cond.methodLink RX10 15 yX3_cost, Cond.sameMethod "SeaGates$Handed" "SeaGates$Handed" "cost" "(LSeaGates$Trace;)I", Cond.superclass RX10 RX3, Cond.methodLink RX11 255 yX2_mark, Cond.instanceMethod yX2_mark, Cond.selects RX2 yX2_mark yX2_mark, Cond.code yX2_mark cX2_mark 2 (some .int), Cond.fieldLink RX2 9 "SeaGates$Gate" "failed" "Z", Cond.methodLink RX11 255 ⟨"SeaGates$Gate", "mark", "(LSeaGates$Trace;)I"⟩, Cond.sameMethod "SeaGates$Gate" "SeaGates$Gate" "mark" "(LSeaGates$Trace;)I", Cond.instanceMethod ⟨"SeaGates$Gate", "mark", "(LSeaGates$Trace;)I"⟩, Cond.selects RX3 ⟨"SeaGates$Gate", "mark", "(LSeaGates$Trace;)I"⟩ yX3_mark, Cond.instanceMethod yX3_mark, Cond.code yX3_mark cX3_mark 2 (some .int), Cond.methodLink RX3 25 yX2_mark, Cond.methodLink RX3 28 yX3_cost, Cond.selects RX3 yX3_cost yX3_cost, Cond.methodLink RX3 28 ⟨"SeaGates$Handed", "cost", "(LSeaGates$Trace;)I"⟩, Cond.instanceMethod ⟨"SeaGates$Handed", "cost", "(LSeaGates$Trace;)I"⟩, Cond.selects RX10 ⟨"SeaGates$Handed", "cost", "(LSeaGates$Trace;)I"⟩ yX10_cost]
def wsX11_ask_r4 : List Cond := [Cond.selects RX8 ⟨"SeaGates$Gate", "mark", "(LSeaGates$Trace;)I"⟩ yX8_mark, Cond.instanceMethod yX8_mark, Cond.code yX8_mark cX8_mark 2 (some .int), Cond.methodLink RX8 19 yX2_mark, Cond.methodLink RX8 22 yX8_cost, Cond.selects RX8 yX8_cost yX8_cost, Cond.selects RX10 ⟨"SeaGates$Gate", "mark", "(LSeaGates$Trace;)I"⟩ yX3_mark]
def wsX11_ask : List Cond := .code yX11_ask cX11_ask 4 (some .int) :: ((wsX11_ask_r1 ++ (wsX11_ask_r2 ++ (wsX11_ask_r3 ++ wsX11_ask_r4))) ++ wsX110 ++ wsX90 ++ wsX50 ++ wsX20 ++ wsX30 ++ wsX80 ++ wsX100)
def wsX11_trace : List Cond := .code yX11_trace cX11_trace 2 (some .int) :: ([.fieldLink RX11 58 "SeaGates" "bodies" "LSeaGates$Trace;", .fieldLink RX11 248 "SeaGates$Trace" "length" "I", .fieldLink RX11 258 "SeaGates$Trace" "numbers" "[I", .constant RX11 175 (-1000000), .methodLink RX11 66 yX11_within, .static yX11_within, .initialized RX11, .code yX11_within cX11_within 3 (some .boolean)] ++ wsX110 ++ wsX90)
def wsX11_count_r1 : List Cond := [Cond.fieldLink RX11 12 "SeaGates" "sheets" "LSeaGates$Sheets;", Cond.fieldLink RX11 19 "SeaGates" "sea" "LSeaGates$Sea;", Cond.fieldLink RX11 104 "SeaGates$Sea" "size" "I", Cond.fieldLink RX11 44 "SeaGates" "row" "LSeaGates$Row;", Cond.fieldLink RX11 179 "SeaGates$Row" "size" "I", Cond.fieldLink RX11 51 "SeaGates" "fairway" "LSeaGates$Fairway;", Cond.fieldLink RX11 220 "SeaGates$Fairway" "size" "I", Cond.constant RX11 70 (-1000001), Cond.methodLink RX11 261 yX7_present, Cond.instanceMethod yX7_present, Cond.selects RX7 yX7_present yX7_present, Cond.initialized RX7, Cond.code yX7_present cX7_present 3 (some .int), Cond.methodLink RX7 29 yX7_isMissing, Cond.instanceMethod yX7_isMissing, Cond.selects RX7 yX7_isMissing yX7_isMissing, Cond.code yX7_isMissing cX7_isMissing 2 (some .boolean), Cond.fieldLink RX7 20 "SeaGates$Sheets" "sizes" "[I", Cond.methodLink RX11 264 yX6_allWeights, Cond.instanceMethod yX6_allWeights, Cond.selects RX6 yX6_allWeights yX6_allWeights, Cond.initialized RX6, Cond.code yX6_allWeights cX6_allWeights 3 (some .int), Cond.fieldLink RX6 23 "SeaGates$Sea" "size" "I"]
def wsX11_count_r2 : List Cond := [Cond.fieldLink RX6 9 "SeaGates$Sea" "weights" "[I", Cond.methodLink RX11 267 yX5_failedOnes, Cond.instanceMethod yX5_failedOnes, Cond.selects RX5 yX5_failedOnes yX5_failedOnes, Cond.initialized RX5, Cond.code yX5_failedOnes cX5_failedOnes 6 (some .int), Cond.fieldLink RX5 11 "SeaGates$Row" "gates" "[LSeaGates$Gate;", Cond.fieldLink RX5 29 "SeaGates$Gate" "failed" "Z"]
def wsX11_count : List Cond := .code yX11_count cX11_count 2 (some .int) :: ((wsX11_count_r1 ++ wsX11_count_r2) ++ wsX110 ++ wsX60 ++ wsX50 ++ wsX10 ++ wsX70 ++ wsX20 ++ wsX30 ++ wsX80 ++ wsX100)
def wsX11_status : List Cond := .code yX11_status cX11_status 1 (some .int) :: ([.fieldLink RX11 62 "SeaGates" "finding" "I"] ++ wsX110)
def wsX12_init : List Cond := .code yX12_init cX12_init 1 none :: ([.methodLink RX12 1 objectInit, .instanceMethod objectInit, .code objectInit ⟨#[0xb1]⟩ 1 none, .arrayClass .int, .fieldLink RX12 7 "SeaGatesModel" "rule" "[I", .fieldLink RX12 13 "SeaGatesModel" "river" "[I", .fieldLink RX12 16 "SeaGatesModel" "lane" "[I", .fieldLink RX12 19 "SeaGatesModel" "many" "[I", .fieldLink RX12 22 "SeaGatesModel" "item" "[I", .fieldLink RX12 25 "SeaGatesModel" "weight" "[I", .fieldLink RX12 28 "SeaGatesModel" "sea" "[I", .arrayClass .long, .fieldLink RX12 31 "SeaGatesModel" "least" "[J", .arrayClass .boolean, .fieldLink RX12 35 "SeaGatesModel" "isTold" "[Z", .fieldLink RX12 39 "SeaGatesModel" "minutes" "[I", .fieldLink RX12 42 "SeaGatesModel" "hand" "[I", .fieldLink RX12 45 "SeaGatesModel" "hasFailed" "[Z", .fieldLink RX12 48 "SeaGatesModel" "crew" "[I", .fieldLink RX12 51 "SeaGatesModel" "comes" "[I", .fieldLink RX12 54 "SeaGatesModel" "takes" "[I", .fieldLink RX12 57 "SeaGatesModel" "trace" "[I"] ++ wsX120)
def wsX12_in : List Cond := .code yX12_in cX12_in 6 (some .boolean) :: ([])
def wsX12_found : List Cond := .code yX12_found cX12_found 2 (some .int) :: ([.fieldLink RX12 64 "SeaGatesModel" "status" "I", .constant RX12 67 (-1000010)] ++ wsX120)
def wsX12_isSheet : List Cond := .code yX12_isSheet cX12_isSheet 1 (some .boolean) :: ([.constantLong RX12 68 (7), .methodLink RX12 70 yX12_in, .static yX12_in, .initialized RX12, .code yX12_in cX12_in 6 (some .boolean)])
def wsX12_sheet : List Cond := .code yX12_sheet cX12_sheet 5 (some .int) :: ([.fieldLink RX12 60 "SeaGatesModel" "thrown" "I", .constantLong RX12 78 (2), .constant RX12 80 (-1000001), .fieldLink RX12 64 "SeaGatesModel" "status" "I", .fieldLink RX12 16 "SeaGatesModel" "lane" "[I", .fieldLink RX12 19 "SeaGatesModel" "many" "[I", .fieldLink RX12 22 "SeaGatesModel" "item" "[I", .methodLink RX12 74 yX12_isSheet, .static yX12_isSheet, .initialized RX12, .code yX12_isSheet cX12_isSheet 1 (some .boolean), .constantLong RX12 68 (7), .methodLink RX12 70 yX12_in, .static yX12_in, .code yX12_in cX12_in 6 (some .boolean), .methodLink RX12 81 yX12_found, .instanceMethod yX12_found, .selects RX12 yX12_found yX12_found, .code yX12_found cX12_found 2 (some .int), .constant RX12 67 (-1000010)] ++ wsX120)
def wsX12_set : List Cond := .code yX12_set cX12_set 4 (some .int) :: ([.fieldLink RX12 60 "SeaGatesModel" "thrown" "I", .constant RX12 80 (-1000001), .fieldLink RX12 64 "SeaGatesModel" "status" "I", .fieldLink RX12 16 "SeaGatesModel" "lane" "[I", .fieldLink RX12 19 "SeaGatesModel" "many" "[I", .fieldLink RX12 22 "SeaGatesModel" "item" "[I", .methodLink RX12 74 yX12_isSheet, .static yX12_isSheet, .initialized RX12, .code yX12_isSheet cX12_isSheet 1 (some .boolean), .constantLong RX12 68 (7), .methodLink RX12 70 yX12_in, .static yX12_in, .code yX12_in cX12_in 6 (some .boolean), .methodLink RX12 81 yX12_found, .instanceMethod yX12_found, .selects RX12 yX12_found yX12_found, .code yX12_found cX12_found 2 (some .int), .constant RX12 67 (-1000010)] ++ wsX120)
def wsX12_copy : List Cond := .code yX12_copy cX12_copy 9 (some .int) :: ([.fieldLink RX12 60 "SeaGatesModel" "thrown" "I", .constant RX12 80 (-1000001), .fieldLink RX12 64 "SeaGatesModel" "status" "I", .fieldLink RX12 16 "SeaGatesModel" "lane" "[I", .fieldLink RX12 19 "SeaGatesModel" "many" "[I", .fieldLink RX12 22 "SeaGatesModel" "item" "[I", .methodLink RX12 74 yX12_isSheet, .static yX12_isSheet, .initialized RX12, .code yX12_isSheet cX12_isSheet 1 (some .boolean), .constantLong RX12 68 (7), .methodLink RX12 70 yX12_in, .static yX12_in, .code yX12_in cX12_in 6 (some .boolean), .methodLink RX12 81 yX12_found, .instanceMethod yX12_found, .selects RX12 yX12_found yX12_found, .code yX12_found cX12_found 2 (some .int), .constant RX12 67 (-1000010)] ++ wsX120)
def wsX12_drop : List Cond := .code yX12_drop cX12_drop 2 (some .int) :: ([.fieldLink RX12 60 "SeaGatesModel" "thrown" "I", .constant RX12 80 (-1000001), .fieldLink RX12 64 "SeaGatesModel" "status" "I", .fieldLink RX12 16 "SeaGatesModel" "lane" "[I", .fieldLink RX12 19 "SeaGatesModel" "many" "[I", .methodLink RX12 74 yX12_isSheet, .static yX12_isSheet, .initialized RX12, .code yX12_isSheet cX12_isSheet 1 (some .boolean), .constantLong RX12 68 (7), .methodLink RX12 70 yX12_in, .static yX12_in, .code yX12_in cX12_in 6 (some .boolean), .methodLink RX12 81 yX12_found, .instanceMethod yX12_found, .selects RX12 yX12_found yX12_found, .code yX12_found cX12_found 2 (some .int), .constant RX12 67 (-1000010)] ++ wsX120)
def wsX12_world_r1 : List Cond := [Cond.fieldLink RX12 60 "SeaGatesModel" "thrown" "I", Cond.constantLong RX12 85 (20), Cond.constant RX12 80 (-1000001), Cond.fieldLink RX12 87 "SeaGatesModel" "worlds" "I", Cond.constant RX12 90 (-1000003), Cond.fieldLink RX12 16 "SeaGatesModel" "lane" "[I", Cond.constantLong RX12 91 (8), Cond.fieldLink RX12 19 "SeaGatesModel" "many" "[I", Cond.fieldLink RX12 22 "SeaGatesModel" "item" "[I", Cond.constantLong RX12 93 (1000), Cond.fieldLink RX12 64 "SeaGatesModel" "status" "I", Cond.fieldLink RX12 28 "SeaGatesModel" "sea" "[I", Cond.fieldLink RX12 25 "SeaGatesModel" "weight" "[I", Cond.methodLink RX12 70 yX12_in, Cond.static yX12_in, Cond.initialized RX12, Cond.code yX12_in cX12_in 6 (some .boolean), Cond.methodLink RX12 74 yX12_isSheet, Cond.static yX12_isSheet, Cond.code yX12_isSheet cX12_isSheet 1 (some .boolean), Cond.constantLong RX12 68 (7), Cond.methodLink RX12 81 yX12_found, Cond.instanceMethod yX12_found, Cond.selects RX12 yX12_found yX12_found]
def wsX12_world_r2 : List Cond := [Cond.code yX12_found cX12_found 2 (some .int), Cond.constant RX12 67 (-1000010)]
def wsX12_world : List Cond := .code yX12_world cX12_world 5 (some .int) :: ((wsX12_world_r1 ++ wsX12_world_r2) ++ wsX120)
def wsX12_river : List Cond := .code yX12_river cX12_river 4 (some .int) :: ([.fieldLink RX12 60 "SeaGatesModel" "thrown" "I", .constantLong RX12 68 (7), .constantLong RX12 95 (100), .constant RX12 80 (-1000001), .fieldLink RX12 13 "SeaGatesModel" "river" "[I", .methodLink RX12 70 yX12_in, .static yX12_in, .initialized RX12, .code yX12_in cX12_in 6 (some .boolean)] ++ wsX120)
def wsX12_rule : List Cond := .code yX12_rule cX12_rule 4 (some .int) :: ([.fieldLink RX12 60 "SeaGatesModel" "thrown" "I", .constantLong RX12 68 (7), .constantLong RX12 97 (3), .constantLong RX12 93 (1000), .constant RX12 80 (-1000001), .fieldLink RX12 7 "SeaGatesModel" "rule" "[I", .methodLink RX12 70 yX12_in, .static yX12_in, .initialized RX12, .code yX12_in cX12_in 6 (some .boolean)] ++ wsX120)
def wsX12_groupOf : List Cond := .code yX12_groupOf cX12_groupOf 6 (some .int) :: ([.fieldLink RX12 28 "SeaGatesModel" "sea" "[I"] ++ wsX120)
def wsX12_stateIn : List Cond := .code yX12_stateIn cX12_stateIn 2 (some .int) :: ([])
def wsX12_after : List Cond := .code yX12_after cX12_after 4 (some .int) :: ([.fieldLink RX12 7 "SeaGatesModel" "rule" "[I"] ++ wsX120)
def wsX12_waterIn : List Cond := .code yX12_waterIn cX12_waterIn 8 (some .int) :: ([.fieldLink RX12 28 "SeaGatesModel" "sea" "[I", .fieldLink RX12 13 "SeaGatesModel" "river" "[I", .methodLink RX12 99 yX12_stateIn, .static yX12_stateIn, .initialized RX12, .code yX12_stateIn cX12_stateIn 2 (some .int)] ++ wsX120)
def wsX12_lostIn : List Cond := .code yX12_lostIn cX12_lostIn 7 (some .int) :: ([.fieldLink RX12 7 "SeaGatesModel" "rule" "[I", .fieldLink RX12 28 "SeaGatesModel" "sea" "[I", .methodLink RX12 99 yX12_stateIn, .static yX12_stateIn, .initialized RX12, .code yX12_stateIn cX12_stateIn 2 (some .int), .methodLink RX12 103 yX12_waterIn, .instanceMethod yX12_waterIn, .selects RX12 yX12_waterIn yX12_waterIn, .code yX12_waterIn cX12_waterIn 8 (some .int), .fieldLink RX12 13 "SeaGatesModel" "river" "[I"] ++ wsX120)
def wsX12_lossBy_r1 : List Cond := [Cond.fieldLink RX12 87 "SeaGatesModel" "worlds" "I", Cond.fieldLink RX12 25 "SeaGatesModel" "weight" "[I", Cond.fieldLink RX12 31 "SeaGatesModel" "least" "[J", Cond.methodLink RX12 107 yX12_after, Cond.instanceMethod yX12_after, Cond.selects RX12 yX12_after yX12_after, Cond.initialized RX12, Cond.code yX12_after cX12_after 4 (some .int), Cond.fieldLink RX12 7 "SeaGatesModel" "rule" "[I", Cond.methodLink RX12 111 yX12_groupOf, Cond.instanceMethod yX12_groupOf, Cond.selects RX12 yX12_groupOf yX12_groupOf, Cond.code yX12_groupOf cX12_groupOf 6 (some .int), Cond.fieldLink RX12 28 "SeaGatesModel" "sea" "[I", Cond.methodLink RX12 115 yX12_lostIn, Cond.instanceMethod yX12_lostIn, Cond.selects RX12 yX12_lostIn yX12_lostIn, Cond.code yX12_lostIn cX12_lostIn 7 (some .int), Cond.methodLink RX12 99 yX12_stateIn, Cond.static yX12_stateIn, Cond.code yX12_stateIn cX12_stateIn 2 (some .int), Cond.methodLink RX12 103 yX12_waterIn, Cond.instanceMethod yX12_waterIn, Cond.selects RX12 yX12_waterIn yX12_waterIn]
def wsX12_lossBy_r2 : List Cond := [Cond.code yX12_waterIn cX12_waterIn 8 (some .int), Cond.fieldLink RX12 13 "SeaGatesModel" "river" "[I"]
def wsX12_lossBy : List Cond := .code yX12_lossBy cX12_lossBy 9 (some .long) :: ((wsX12_lossBy_r1 ++ wsX12_lossBy_r2) ++ wsX120)
def wsX12_findBest_r1 : List Cond := [Cond.fieldLink RX12 87 "SeaGatesModel" "worlds" "I", Cond.fieldLink RX12 31 "SeaGatesModel" "least" "[J", Cond.fieldLink RX12 35 "SeaGatesModel" "isTold" "[Z", Cond.methodLink RX12 111 yX12_groupOf, Cond.instanceMethod yX12_groupOf, Cond.selects RX12 yX12_groupOf yX12_groupOf, Cond.initialized RX12, Cond.code yX12_groupOf cX12_groupOf 6 (some .int), Cond.fieldLink RX12 28 "SeaGatesModel" "sea" "[I", Cond.methodLink RX12 118 yX12_lossBy, Cond.instanceMethod yX12_lossBy, Cond.selects RX12 yX12_lossBy yX12_lossBy, Cond.code yX12_lossBy cX12_lossBy 9 (some .long), Cond.fieldLink RX12 25 "SeaGatesModel" "weight" "[I", Cond.methodLink RX12 107 yX12_after, Cond.instanceMethod yX12_after, Cond.selects RX12 yX12_after yX12_after, Cond.code yX12_after cX12_after 4 (some .int), Cond.fieldLink RX12 7 "SeaGatesModel" "rule" "[I", Cond.methodLink RX12 115 yX12_lostIn, Cond.instanceMethod yX12_lostIn, Cond.selects RX12 yX12_lostIn yX12_lostIn, Cond.code yX12_lostIn cX12_lostIn 7 (some .int), Cond.methodLink RX12 99 yX12_stateIn]
def wsX12_findBest_r2 : List Cond := [Cond.static yX12_stateIn, Cond.code yX12_stateIn cX12_stateIn 2 (some .int), Cond.methodLink RX12 103 yX12_waterIn, Cond.instanceMethod yX12_waterIn, Cond.selects RX12 yX12_waterIn yX12_waterIn, Cond.code yX12_waterIn cX12_waterIn 8 (some .int), Cond.fieldLink RX12 13 "SeaGatesModel" "river" "[I"]
def wsX12_findBest : List Cond := .code yX12_findBest cX12_findBest 8 none :: ((wsX12_findBest_r1 ++ wsX12_findBest_r2) ++ wsX120)
def wsX12_best_r1 : List Cond := [Cond.fieldLink RX12 60 "SeaGatesModel" "thrown" "I", Cond.fieldLink RX12 87 "SeaGatesModel" "worlds" "I", Cond.fieldLink RX12 31 "SeaGatesModel" "least" "[J", Cond.methodLink RX12 122 yX12_findBest, Cond.instanceMethod yX12_findBest, Cond.selects RX12 yX12_findBest yX12_findBest, Cond.initialized RX12, Cond.code yX12_findBest cX12_findBest 8 none, Cond.fieldLink RX12 35 "SeaGatesModel" "isTold" "[Z", Cond.methodLink RX12 111 yX12_groupOf, Cond.instanceMethod yX12_groupOf, Cond.selects RX12 yX12_groupOf yX12_groupOf, Cond.code yX12_groupOf cX12_groupOf 6 (some .int), Cond.fieldLink RX12 28 "SeaGatesModel" "sea" "[I", Cond.methodLink RX12 118 yX12_lossBy, Cond.instanceMethod yX12_lossBy, Cond.selects RX12 yX12_lossBy yX12_lossBy, Cond.code yX12_lossBy cX12_lossBy 9 (some .long), Cond.fieldLink RX12 25 "SeaGatesModel" "weight" "[I", Cond.methodLink RX12 107 yX12_after, Cond.instanceMethod yX12_after, Cond.selects RX12 yX12_after yX12_after, Cond.code yX12_after cX12_after 4 (some .int), Cond.fieldLink RX12 7 "SeaGatesModel" "rule" "[I"]
def wsX12_best_r2 : List Cond := [Cond.methodLink RX12 115 yX12_lostIn, Cond.instanceMethod yX12_lostIn, Cond.selects RX12 yX12_lostIn yX12_lostIn, Cond.code yX12_lostIn cX12_lostIn 7 (some .int), Cond.methodLink RX12 99 yX12_stateIn, Cond.static yX12_stateIn, Cond.code yX12_stateIn cX12_stateIn 2 (some .int), Cond.methodLink RX12 103 yX12_waterIn, Cond.instanceMethod yX12_waterIn, Cond.selects RX12 yX12_waterIn yX12_waterIn, Cond.code yX12_waterIn cX12_waterIn 8 (some .int), Cond.fieldLink RX12 13 "SeaGatesModel" "river" "[I"]
def wsX12_best : List Cond := .code yX12_best cX12_best 4 (some .long) :: ((wsX12_best_r1 ++ wsX12_best_r2) ++ wsX120)
def wsX12_hour_r1 : List Cond := [Cond.fieldLink RX12 60 "SeaGatesModel" "thrown" "I", Cond.fieldLink RX12 87 "SeaGatesModel" "worlds" "I", Cond.constantLong RX12 68 (7), Cond.constantLong RX12 97 (3), Cond.constant RX12 80 (-1000001), Cond.fieldLink RX12 35 "SeaGatesModel" "isTold" "[Z", Cond.methodLink RX12 70 yX12_in, Cond.static yX12_in, Cond.initialized RX12, Cond.code yX12_in cX12_in 6 (some .boolean), Cond.methodLink RX12 122 yX12_findBest, Cond.instanceMethod yX12_findBest, Cond.selects RX12 yX12_findBest yX12_findBest, Cond.code yX12_findBest cX12_findBest 8 none, Cond.fieldLink RX12 31 "SeaGatesModel" "least" "[J", Cond.methodLink RX12 111 yX12_groupOf, Cond.instanceMethod yX12_groupOf, Cond.selects RX12 yX12_groupOf yX12_groupOf, Cond.code yX12_groupOf cX12_groupOf 6 (some .int), Cond.fieldLink RX12 28 "SeaGatesModel" "sea" "[I", Cond.methodLink RX12 118 yX12_lossBy, Cond.instanceMethod yX12_lossBy, Cond.selects RX12 yX12_lossBy yX12_lossBy, Cond.code yX12_lossBy cX12_lossBy 9 (some .long)]
def wsX12_hour_r2 : List Cond := [Cond.fieldLink RX12 25 "SeaGatesModel" "weight" "[I", Cond.methodLink RX12 107 yX12_after, Cond.instanceMethod yX12_after, Cond.selects RX12 yX12_after yX12_after, Cond.code yX12_after cX12_after 4 (some .int), Cond.fieldLink RX12 7 "SeaGatesModel" "rule" "[I", Cond.methodLink RX12 115 yX12_lostIn, Cond.instanceMethod yX12_lostIn, Cond.selects RX12 yX12_lostIn yX12_lostIn, Cond.code yX12_lostIn cX12_lostIn 7 (some .int), Cond.methodLink RX12 99 yX12_stateIn, Cond.static yX12_stateIn, Cond.code yX12_stateIn cX12_stateIn 2 (some .int), Cond.methodLink RX12 103 yX12_waterIn, Cond.instanceMethod yX12_waterIn, Cond.selects RX12 yX12_waterIn yX12_waterIn, Cond.code yX12_waterIn cX12_waterIn 8 (some .int), Cond.fieldLink RX12 13 "SeaGatesModel" "river" "[I"]
def wsX12_hour : List Cond := .code yX12_hour cX12_hour 6 (some .int) :: ((wsX12_hour_r1 ++ wsX12_hour_r2) ++ wsX120)
def wsX12_shutAt_r1 : List Cond := [Cond.fieldLink RX12 60 "SeaGatesModel" "thrown" "I", Cond.constantLong RX12 91 (8), Cond.constantLong RX12 125 (-1000001), Cond.fieldLink RX12 87 "SeaGatesModel" "worlds" "I", Cond.fieldLink RX12 25 "SeaGatesModel" "weight" "[I", Cond.methodLink RX12 70 yX12_in, Cond.static yX12_in, Cond.initialized RX12, Cond.code yX12_in cX12_in 6 (some .boolean), Cond.methodLink RX12 115 yX12_lostIn, Cond.instanceMethod yX12_lostIn, Cond.selects RX12 yX12_lostIn yX12_lostIn, Cond.code yX12_lostIn cX12_lostIn 7 (some .int), Cond.fieldLink RX12 7 "SeaGatesModel" "rule" "[I", Cond.fieldLink RX12 28 "SeaGatesModel" "sea" "[I", Cond.methodLink RX12 99 yX12_stateIn, Cond.static yX12_stateIn, Cond.code yX12_stateIn cX12_stateIn 2 (some .int), Cond.methodLink RX12 103 yX12_waterIn, Cond.instanceMethod yX12_waterIn, Cond.selects RX12 yX12_waterIn yX12_waterIn, Cond.code yX12_waterIn cX12_waterIn 8 (some .int), Cond.fieldLink RX12 13 "SeaGatesModel" "river" "[I", Cond.methodLink RX12 107 yX12_after]
def wsX12_shutAt_r2 : List Cond := [Cond.instanceMethod yX12_after, Cond.selects RX12 yX12_after yX12_after, Cond.code yX12_after cX12_after 4 (some .int)]
def wsX12_shutAt : List Cond := .code yX12_shutAt cX12_shutAt 7 (some .long) :: ((wsX12_shutAt_r1 ++ wsX12_shutAt_r2) ++ wsX120)
def wsX12_alarm : List Cond := .code yX12_alarm cX12_alarm 3 (some .int) :: ([.fieldLink RX12 60 "SeaGatesModel" "thrown" "I", .fieldLink RX12 87 "SeaGatesModel" "worlds" "I", .fieldLink RX12 28 "SeaGatesModel" "sea" "[I", .fieldLink RX12 7 "SeaGatesModel" "rule" "[I", .constant RX12 127 (-1000000)] ++ wsX120)
def wsX12_groups : List Cond := .code yX12_groups cX12_groups 4 (some .int) :: ([.fieldLink RX12 60 "SeaGatesModel" "thrown" "I", .constantLong RX12 68 (7), .constant RX12 80 (-1000001), .fieldLink RX12 87 "SeaGatesModel" "worlds" "I", .methodLink RX12 70 yX12_in, .static yX12_in, .initialized RX12, .code yX12_in cX12_in 6 (some .boolean), .methodLink RX12 111 yX12_groupOf, .instanceMethod yX12_groupOf, .selects RX12 yX12_groupOf yX12_groupOf, .code yX12_groupOf cX12_groupOf 6 (some .int), .fieldLink RX12 28 "SeaGatesModel" "sea" "[I"] ++ wsX120)
def wsX12_isGate : List Cond := .code yX12_isGate cX12_isGate 2 (some .boolean) :: ([.fieldLink RX12 128 "SeaGatesModel" "gates" "I", .methodLink RX12 70 yX12_in, .static yX12_in, .initialized RX12, .code yX12_in cX12_in 6 (some .boolean)] ++ wsX120)
def wsX12_gate : List Cond := .code yX12_gate cX12_gate 3 (some .int) :: ([.fieldLink RX12 60 "SeaGatesModel" "thrown" "I", .constantLong RX12 131 (500), .constantLong RX12 133 (2000), .constant RX12 80 (-1000001), .fieldLink RX12 128 "SeaGatesModel" "gates" "I", .constant RX12 90 (-1000003), .fieldLink RX12 39 "SeaGatesModel" "minutes" "[I", .fieldLink RX12 42 "SeaGatesModel" "hand" "[I", .methodLink RX12 70 yX12_in, .static yX12_in, .initialized RX12, .code yX12_in cX12_in 6 (some .boolean)] ++ wsX120)
def wsX12_fail : List Cond := .code yX12_fail cX12_fail 3 (some .int) :: ([.fieldLink RX12 60 "SeaGatesModel" "thrown" "I", .constant RX12 80 (-1000001), .fieldLink RX12 45 "SeaGatesModel" "hasFailed" "[Z", .methodLink RX12 135 yX12_isGate, .instanceMethod yX12_isGate, .selects RX12 yX12_isGate yX12_isGate, .initialized RX12, .code yX12_isGate cX12_isGate 2 (some .boolean), .fieldLink RX12 128 "SeaGatesModel" "gates" "I", .methodLink RX12 70 yX12_in, .static yX12_in, .code yX12_in cX12_in 6 (some .boolean)] ++ wsX120)
def wsX12_mend : List Cond := .code yX12_mend cX12_mend 3 (some .int) :: ([.fieldLink RX12 60 "SeaGatesModel" "thrown" "I", .constant RX12 80 (-1000001), .fieldLink RX12 45 "SeaGatesModel" "hasFailed" "[Z", .methodLink RX12 135 yX12_isGate, .instanceMethod yX12_isGate, .selects RX12 yX12_isGate yX12_isGate, .initialized RX12, .code yX12_isGate cX12_isGate 2 (some .boolean), .fieldLink RX12 128 "SeaGatesModel" "gates" "I", .methodLink RX12 70 yX12_in, .static yX12_in, .code yX12_in cX12_in 6 (some .boolean)] ++ wsX120)
def wsX12_timeBy : List Cond := .code yX12_timeBy cX12_timeBy 7 (some .int) :: ([.fieldLink RX12 48 "SeaGatesModel" "crew" "[I", .fieldLink RX12 128 "SeaGatesModel" "gates" "I", .fieldLink RX12 45 "SeaGatesModel" "hasFailed" "[Z", .fieldLink RX12 42 "SeaGatesModel" "hand" "[I", .constant RX12 127 (-1000000), .fieldLink RX12 39 "SeaGatesModel" "minutes" "[I"] ++ wsX120)
def wsX12_time : List Cond := .code yX12_time cX12_time 7 (some .int) :: ([.fieldLink RX12 60 "SeaGatesModel" "thrown" "I", .constantLong RX12 97 (3), .constant RX12 80 (-1000001), .constant RX12 127 (-1000000), .fieldLink RX12 128 "SeaGatesModel" "gates" "I", .fieldLink RX12 45 "SeaGatesModel" "hasFailed" "[Z", .methodLink RX12 70 yX12_in, .static yX12_in, .initialized RX12, .code yX12_in cX12_in 6 (some .boolean), .methodLink RX12 138 yX12_timeBy, .instanceMethod yX12_timeBy, .selects RX12 yX12_timeBy yX12_timeBy, .code yX12_timeBy cX12_timeBy 7 (some .int), .fieldLink RX12 48 "SeaGatesModel" "crew" "[I", .fieldLink RX12 42 "SeaGatesModel" "hand" "[I", .fieldLink RX12 39 "SeaGatesModel" "minutes" "[I"] ++ wsX120)
def wsX12_ship : List Cond := .code yX12_ship cX12_ship 3 (some .int) :: ([.fieldLink RX12 60 "SeaGatesModel" "thrown" "I", .constantLong RX12 141 (100000), .constantLong RX12 131 (500), .constant RX12 80 (-1000001), .fieldLink RX12 143 "SeaGatesModel" "ships" "I", .constant RX12 90 (-1000003), .fieldLink RX12 51 "SeaGatesModel" "comes" "[I", .fieldLink RX12 54 "SeaGatesModel" "takes" "[I", .methodLink RX12 70 yX12_in, .static yX12_in, .initialized RX12, .code yX12_in cX12_in 6 (some .boolean)] ++ wsX120)
def wsX12_waits : List Cond := .code yX12_waits cX12_waits 8 (some .int) :: ([.fieldLink RX12 60 "SeaGatesModel" "thrown" "I", .fieldLink RX12 143 "SeaGatesModel" "ships" "I", .constantLong RX12 141 (100000), .constant RX12 80 (-1000001), .constant RX12 127 (-1000000), .fieldLink RX12 51 "SeaGatesModel" "comes" "[I", .fieldLink RX12 54 "SeaGatesModel" "takes" "[I", .methodLink RX12 70 yX12_in, .static yX12_in, .initialized RX12, .code yX12_in cX12_in 6 (some .boolean)] ++ wsX120)
def wsX12_closingsOf : List Cond := .code yX12_closingsOf cX12_closingsOf 9 (some .int) :: ([.fieldLink RX12 22 "SeaGatesModel" "item" "[I"] ++ wsX120)
def wsX12_closings_r1 : List Cond := [Cond.fieldLink RX12 60 "SeaGatesModel" "thrown" "I", Cond.constantLong RX12 146 (60), Cond.constantLong RX12 148 (300), Cond.constantLong RX12 95 (100), Cond.constant RX12 80 (-1000001), Cond.fieldLink RX12 64 "SeaGatesModel" "status" "I", Cond.fieldLink RX12 16 "SeaGatesModel" "lane" "[I", Cond.fieldLink RX12 19 "SeaGatesModel" "many" "[I", Cond.methodLink RX12 74 yX12_isSheet, Cond.static yX12_isSheet, Cond.initialized RX12, Cond.code yX12_isSheet cX12_isSheet 1 (some .boolean), Cond.constantLong RX12 68 (7), Cond.methodLink RX12 70 yX12_in, Cond.static yX12_in, Cond.code yX12_in cX12_in 6 (some .boolean), Cond.methodLink RX12 81 yX12_found, Cond.instanceMethod yX12_found, Cond.selects RX12 yX12_found yX12_found, Cond.code yX12_found cX12_found 2 (some .int), Cond.constant RX12 67 (-1000010), Cond.methodLink RX12 150 yX12_closingsOf, Cond.instanceMethod yX12_closingsOf, Cond.selects RX12 yX12_closingsOf yX12_closingsOf]
def wsX12_closings_r2 : List Cond := [Cond.code yX12_closingsOf cX12_closingsOf 9 (some .int), Cond.fieldLink RX12 22 "SeaGatesModel" "item" "[I"]
def wsX12_closings : List Cond := .code yX12_closings cX12_closings 7 (some .int) :: ((wsX12_closings_r1 ++ wsX12_closings_r2) ++ wsX120)
def wsX12_tooMany_r1 : List Cond := [Cond.fieldLink RX12 60 "SeaGatesModel" "thrown" "I", Cond.constantLong RX12 146 (60), Cond.constantLong RX12 95 (100), Cond.constant RX12 80 (-1000001), Cond.fieldLink RX12 64 "SeaGatesModel" "status" "I", Cond.fieldLink RX12 16 "SeaGatesModel" "lane" "[I", Cond.fieldLink RX12 19 "SeaGatesModel" "many" "[I", Cond.constant RX12 127 (-1000000), Cond.methodLink RX12 74 yX12_isSheet, Cond.static yX12_isSheet, Cond.initialized RX12, Cond.code yX12_isSheet cX12_isSheet 1 (some .boolean), Cond.constantLong RX12 68 (7), Cond.methodLink RX12 70 yX12_in, Cond.static yX12_in, Cond.code yX12_in cX12_in 6 (some .boolean), Cond.methodLink RX12 81 yX12_found, Cond.instanceMethod yX12_found, Cond.selects RX12 yX12_found yX12_found, Cond.code yX12_found cX12_found 2 (some .int), Cond.constant RX12 67 (-1000010), Cond.methodLink RX12 150 yX12_closingsOf, Cond.instanceMethod yX12_closingsOf, Cond.selects RX12 yX12_closingsOf yX12_closingsOf]
def wsX12_tooMany_r2 : List Cond := [Cond.code yX12_closingsOf cX12_closingsOf 9 (some .int), Cond.fieldLink RX12 22 "SeaGatesModel" "item" "[I"]
def wsX12_tooMany : List Cond := .code yX12_tooMany cX12_tooMany 8 (some .int) :: ((wsX12_tooMany_r1 ++ wsX12_tooMany_r2) ++ wsX120)
def wsX12_kindOf : List Cond := .code yX12_kindOf cX12_kindOf 2 (some .int) :: ([.fieldLink RX12 42 "SeaGatesModel" "hand" "[I", .fieldLink RX12 39 "SeaGatesModel" "minutes" "[I"] ++ wsX120)
def wsX12_kind : List Cond := .code yX12_kind cX12_kind 2 (some .int) :: ([.fieldLink RX12 60 "SeaGatesModel" "thrown" "I", .constant RX12 80 (-1000001), .methodLink RX12 135 yX12_isGate, .instanceMethod yX12_isGate, .selects RX12 yX12_isGate yX12_isGate, .initialized RX12, .code yX12_isGate cX12_isGate 2 (some .boolean), .fieldLink RX12 128 "SeaGatesModel" "gates" "I", .methodLink RX12 70 yX12_in, .static yX12_in, .code yX12_in cX12_in 6 (some .boolean), .methodLink RX12 154 yX12_kindOf, .instanceMethod yX12_kindOf, .selects RX12 yX12_kindOf yX12_kindOf, .code yX12_kindOf cX12_kindOf 2 (some .int), .fieldLink RX12 42 "SeaGatesModel" "hand" "[I", .fieldLink RX12 39 "SeaGatesModel" "minutes" "[I"] ++ wsX120)
def wsX12_as : List Cond := .code yX12_as cX12_as 4 (some .int) :: ([.fieldLink RX12 60 "SeaGatesModel" "thrown" "I", .constantLong RX12 97 (3), .constant RX12 80 (-1000001), .fieldLink RX12 64 "SeaGatesModel" "status" "I", .fieldLink RX12 39 "SeaGatesModel" "minutes" "[I", .methodLink RX12 135 yX12_isGate, .instanceMethod yX12_isGate, .selects RX12 yX12_isGate yX12_isGate, .initialized RX12, .code yX12_isGate cX12_isGate 2 (some .boolean), .fieldLink RX12 128 "SeaGatesModel" "gates" "I", .methodLink RX12 70 yX12_in, .static yX12_in, .code yX12_in cX12_in 6 (some .boolean), .methodLink RX12 154 yX12_kindOf, .instanceMethod yX12_kindOf, .selects RX12 yX12_kindOf yX12_kindOf, .code yX12_kindOf cX12_kindOf 2 (some .int), .fieldLink RX12 42 "SeaGatesModel" "hand" "[I", .methodLink RX12 81 yX12_found, .instanceMethod yX12_found, .selects RX12 yX12_found yX12_found, .code yX12_found cX12_found 2 (some .int), .constant RX12 67 (-1000010)] ++ wsX120)
def wsX12_began : List Cond := .code yX12_began cX12_began 2 none :: ([.fieldLink RX12 157 "SeaGatesModel" "traced" "I", .fieldLink RX12 57 "SeaGatesModel" "trace" "[I"] ++ wsX120)
def wsX12_cost : List Cond := .code yX12_cost cX12_cost 5 (some .int) :: ([.fieldLink RX12 39 "SeaGatesModel" "minutes" "[I", .fieldLink RX12 42 "SeaGatesModel" "hand" "[I", .methodLink RX12 154 yX12_kindOf, .instanceMethod yX12_kindOf, .selects RX12 yX12_kindOf yX12_kindOf, .initialized RX12, .code yX12_kindOf cX12_kindOf 2 (some .int), .methodLink RX12 160 yX12_began, .instanceMethod yX12_began, .selects RX12 yX12_began yX12_began, .code yX12_began cX12_began 2 none, .fieldLink RX12 157 "SeaGatesModel" "traced" "I", .fieldLink RX12 57 "SeaGatesModel" "trace" "[I"] ++ wsX120)
def wsX12_marked : List Cond := .code yX12_marked cX12_marked 5 (some .int) :: ([.fieldLink RX12 45 "SeaGatesModel" "hasFailed" "[Z", .methodLink RX12 154 yX12_kindOf, .instanceMethod yX12_kindOf, .selects RX12 yX12_kindOf yX12_kindOf, .initialized RX12, .code yX12_kindOf cX12_kindOf 2 (some .int), .fieldLink RX12 42 "SeaGatesModel" "hand" "[I", .fieldLink RX12 39 "SeaGatesModel" "minutes" "[I", .methodLink RX12 160 yX12_began, .instanceMethod yX12_began, .selects RX12 yX12_began yX12_began, .code yX12_began cX12_began 2 none, .fieldLink RX12 157 "SeaGatesModel" "traced" "I", .fieldLink RX12 57 "SeaGatesModel" "trace" "[I", .methodLink RX12 164 yX12_cost, .instanceMethod yX12_cost, .selects RX12 yX12_cost yX12_cost, .code yX12_cost cX12_cost 5 (some .int)] ++ wsX120)
def wsX12_ask_r1 : List Cond := [Cond.fieldLink RX12 60 "SeaGatesModel" "thrown" "I", Cond.constant RX12 80 (-1000001), Cond.fieldLink RX12 157 "SeaGatesModel" "traced" "I", Cond.methodLink RX12 135 yX12_isGate, Cond.instanceMethod yX12_isGate, Cond.selects RX12 yX12_isGate yX12_isGate, Cond.initialized RX12, Cond.code yX12_isGate cX12_isGate 2 (some .boolean), Cond.fieldLink RX12 128 "SeaGatesModel" "gates" "I", Cond.methodLink RX12 70 yX12_in, Cond.static yX12_in, Cond.code yX12_in cX12_in 6 (some .boolean), Cond.methodLink RX12 164 yX12_cost, Cond.instanceMethod yX12_cost, Cond.selects RX12 yX12_cost yX12_cost, Cond.code yX12_cost cX12_cost 5 (some .int), Cond.fieldLink RX12 39 "SeaGatesModel" "minutes" "[I", Cond.fieldLink RX12 42 "SeaGatesModel" "hand" "[I", Cond.methodLink RX12 154 yX12_kindOf, Cond.instanceMethod yX12_kindOf, Cond.selects RX12 yX12_kindOf yX12_kindOf, Cond.code yX12_kindOf cX12_kindOf 2 (some .int), Cond.methodLink RX12 160 yX12_began, Cond.instanceMethod yX12_began]
def wsX12_ask_r2 : List Cond := [Cond.selects RX12 yX12_began yX12_began, Cond.code yX12_began cX12_began 2 none, Cond.fieldLink RX12 57 "SeaGatesModel" "trace" "[I", Cond.methodLink RX12 167 yX12_marked, Cond.instanceMethod yX12_marked, Cond.selects RX12 yX12_marked yX12_marked, Cond.code yX12_marked cX12_marked 5 (some .int), Cond.fieldLink RX12 45 "SeaGatesModel" "hasFailed" "[Z"]
def wsX12_ask : List Cond := .code yX12_ask cX12_ask 3 (some .int) :: ((wsX12_ask_r1 ++ wsX12_ask_r2) ++ wsX120)
def wsX12_trace : List Cond := .code yX12_trace cX12_trace 2 (some .int) :: ([.fieldLink RX12 60 "SeaGatesModel" "thrown" "I", .fieldLink RX12 157 "SeaGatesModel" "traced" "I", .fieldLink RX12 57 "SeaGatesModel" "trace" "[I", .constant RX12 127 (-1000000), .methodLink RX12 70 yX12_in, .static yX12_in, .initialized RX12, .code yX12_in cX12_in 6 (some .boolean)] ++ wsX120)
def wsX12_count : List Cond := .code yX12_count cX12_count 4 (some .int) :: ([.fieldLink RX12 60 "SeaGatesModel" "thrown" "I", .fieldLink RX12 16 "SeaGatesModel" "lane" "[I", .fieldLink RX12 87 "SeaGatesModel" "worlds" "I", .fieldLink RX12 25 "SeaGatesModel" "weight" "[I", .fieldLink RX12 128 "SeaGatesModel" "gates" "I", .fieldLink RX12 45 "SeaGatesModel" "hasFailed" "[Z", .fieldLink RX12 143 "SeaGatesModel" "ships" "I", .constant RX12 80 (-1000001)] ++ wsX120)
def wsX12_status : List Cond := .code yX12_status cX12_status 1 (some .int) :: ([.fieldLink RX12 60 "SeaGatesModel" "thrown" "I", .fieldLink RX12 64 "SeaGatesModel" "status" "I"] ++ wsX120)
def wsJ9_max_7cf53 : List Cond := .code yJ9_max_7cf53 cJ9_max_7cf53 2 (some .int) :: ([])
def wsJ9_min_7cf53 : List Cond := .code yJ9_min_7cf53 cJ9_min_7cf53 2 (some .int) :: ([])
abbrev vwCl : List vw_C := [(RX0, TX0, 3), (RX1, TX1, 4), (RX2, TX2, 3), (RX3, TX3, 3), (RX4, TX4, 7), (RX5, TX5, 3), (RX6, TX6, 4), (RX7, TX7, 3), (RX8, TX8, 3), (RX9, TX9, 2), (RX10, TX10, 3), (RX11, TX11, 8), (RX12, TX12, 22)]
end
section
/-! arrays of arrays: the word of an array over an array type, as the printed rows below name it -/
def va_AOA (ty : FieldType) (U : State) : Prop := (Cond.arrayOver (.array ty)).before #[] U = true
theorem va_AOA.use {ty : FieldType} {A : Array Value} {U : State} (h : va_AOA ty U) : (Cond.arrayOver (.array ty)).before A U = true := h
/-! ===== BEGIN new T[n][m]: the outer array a place, the inner ones among the pooled ===== -/
/-- f, but v at every address of l -/
def vr_up {α : Type} (f : Nat → α) (l : List Nat) (v : α) : Nat → α := fun a => if a ∈ l then v else f a
theorem vr_up_in {α : Type} {f : Nat → α} {l : List Nat} {v : α} {a : Nat} (h : a ∈ l) : vr_up f l v a = v := if_pos h
theorem vr_up_ne {α : Type} {f : Nat → α} {l : List Nat} {v : α} {a : Nat} (h : a ∉ l) : vr_up f l v a = f a := if_neg h
theorem vr_rows {L l : List Nat} {f : Nat → va_E} {e : va_E} (h : ∀ a, a ∈ l → a ∉ L) : va_pl L f ++ l.map (fun a => (a, e)) = va_pl (L ++ l) (vr_up f l e) := by
  unfold va_pl
  rw [List.map_append]
  congr 1
  · apply List.map_congr_left
    intro a ha
    rw [vr_up_ne (fun q => h a q ha)]
  · apply List.map_congr_left
    intro a ha
    rw [vr_up_in ha]
theorem vr_lay {X rows : va_W} {x : Nat × va_E} {pl : va_W} {D : va_G} {cl : List vw_C} {H : Heap} (hP : va_P D cl (((X ++ pl) ++ [x]) ++ rows) H) : va_P D cl ((X ++ [x]) ++ (pl ++ rows)) H := by
  rw [List.append_assoc (X ++ pl)] at hP
  have h := va_P.swap hP
  rw [← List.append_assoc X] at h
  have h2 := va_P.swap h
  rw [List.append_assoc (X ++ [x])] at h2
  exact h2
theorem vr_layD {X rows : va_W} {x : Nat × va_E} {pl : va_W} {A : Nat → Prop} (hD : va_D A (((X ++ pl) ++ [x]) ++ rows)) : va_D A ((X ++ [x]) ++ (pl ++ rows)) := by
  rw [List.append_assoc (X ++ pl)] at hD
  have h := va_D.swap hD
  rw [← List.append_assoc X] at h
  have h2 := va_D.swap h
  rw [List.append_assoc (X ++ [x])] at h2
  exact h2
theorem vr_outer (c : ClassId) (N h0 : Nat) : ∀ i : Nat, Jvm.Free.Multi.outerC c N h0 i = arrV c N (fun j => va_rf (if j < i then some (h0 + 1 + j) else none))
  | 0 => by
    show ({ cls := c, slots := Array.replicate N .null, vm := .none } : Cell) = _
    rw [arrV_new]
    refine congrArg (arrV c N) (funext fun j => ?_)
    simp [va_rf]
  | i + 1 => by
    show (Jvm.Free.Multi.outerC c N h0 i).setSlot i (.ref (h0 + 1 + i)) = _
    rw [vr_outer c N h0 i, arrV_store]
    refine congrArg (arrV c N) (funext fun j => ?_)
    by_cases e : j = i
    · subst e
      simp [updV, va_rf]
    · by_cases h : j < i
      · simp [updV, e, h, Nat.lt_succ_of_lt h]
      · simp [updV, e, h, show ¬ j < i + 1 by omega]
section VGM
variable {p : Program} {l : Launch} {e : Env} {R : Room} {s : State} {m : MethodId} {args : Array Value} {below : List Frame} {meth : Method} {c : Code} {H : Heap} {locs : List Loc} {cells slots : Nat} {Q : State → Prop}
variable {cc : ByteArray} {pc : Nat} {ls : Array Slot} {rest : List Value} {D : va_G} {cl : List vw_C} {A : Nat → Prop} {a : Nat} {tys : List (ClassId × FieldType)} {ws : va_W} {H0 : Heap}
theorem va_mna {X : va_W} {L : List Nat} {f : Nat → va_E} {cc : ByteArray} (hexec : p.tables.exec = Jvm.exec) (hb : c.code = cc) {own : String} {index : Nat} {ty : FieldType} {cy : ClassId} (hown : s.vm.findClass own = some m.cls) (hclink : (Cond.classLink own index ("[" ++ (FieldType.array ty).toString)).before args s = true) (hover : va_AOA ty s) (harr : (Cond.arrayClass ty).before args s = true) (hcy : s.vm.findClass (FieldType.array ty).toString = some cy)
    (hK : va_K D cl tys s) (hP : va_P D cl (X ++ va_pl L f) H) (hD : va_D A (X ++ va_pl L f)) (hS : va_S A H0 H locs) (hA : ∀ q, H0.size ≤ q → A q) {n k : Int32} {N' K' : Nat} {z : vp_A} (hn : ¬ n < 0) (hk : ¬ k < 0) (hN : n.toNatClampNeg = N') (hM : k.toNatClampNeg = K')
    (hb1 : N' * 4 ≤ 536870912) (hb2 : K' * componentBytes ty ≤ 536870912) (hb3 : K' ≤ 536870912) (hdf : fits ty (defaultValue ty) = true) (hdd : (defaultValue ty).isDefault = true) (hcells : cells + (1 + N') ≤ R.cells) (hslots : slots + (N' + N' * K') ≤ R.slots) (hz : ∀ c : ClassId, Jvm.Free.Multi.innerC c K' (defaultValue ty) = vp_cell c z) (hdg : decode cc pc = .ok (.multianewarray index 2, 4))
    (kk : ∀ (q : Nat) (r : Nat → Nat) (cA : ClassId) (H1 : Heap), (∀ i j : Nat, i < N' → j < N' → r i = r j → i = j) → (∀ i : Nat, i < N' → r i ∉ L) → va_K D cl (tys ++ [(cA, .array ty)]) s →
      va_P D cl ((X ++ [(q, .inl (cA, N', .inr (.inr (.inr (.inr (fun i => if i < N' then some (r i) else none))))))]) ++ va_pl (L ++ (List.range N').map r) (vr_up f ((List.range N').map r) (.inl (cy, z)))) H1 → va_D A ((X ++ [(q, .inl (cA, N', .inr (.inr (.inr (.inr (fun i => if i < N' then some (r i) else none))))))]) ++ va_pl (L ++ (List.range N').map r) (vr_up f ((List.range N').map r) (.inl (cy, z)))) → va_S A H0 H1 locs →
      W p l e R s m args below meth c H1 locs (cells + 1 + N') (slots + N' + N' * K') Q (F0 m (pc + 4) ls (.ref q :: rest))) : W p l e R s m args below meth c H locs cells slots Q (F0 m pc ls (.int k :: .int n :: rest)) := by
  subst hN
  subst hM
  intro T hT Xs
  obtain ⟨vm₁, cA, comp, -, fA, fC, hO, -, X', step⟩ := Xs.multianewarray2F hexec hown hclink (va_AOA.use hover) harr (g := F0 m pc ls (.int k :: .int n :: rest)) rfl (by rw [hb]; exact hdg) rfl hn hk hb1 hb2 hb3 hdf hdd hcells hslots
  have ec : some cy = some comp := hcy.symm.trans fC
  cases ec
  generalize hF : Jvm.Free.Multi.fill (T.setVm vm₁) cA cy n.toNatClampNeg k.toNatClampNeg (defaultValue ty) n.toNatClampNeg = F at X' step
  have hTh : (T.setVm vm₁).heap = H := hT
  obtain ⟨f1, f2, -, -⟩ := Jvm.Free.Multi.fill_facts (T.setVm vm₁) cA cy n.toNatClampNeg k.toNatClampNeg (defaultValue ty) n.toNatClampNeg
  rw [hF, hTh] at f1 f2
  have hold : ∀ x : Nat, x < H.size → F.heap[x]? = H[x]? := fun x hx => by
    have := Jvm.Free.Multi.fill_old (T.setVm vm₁) cA cy n.toNatClampNeg k.toNatClampNeg (defaultValue ty) (a := x) (by rw [hTh]; exact hx) n.toNatClampNeg
    rw [hF, hTh] at this
    exact this
  have hrow : ∀ j : Nat, j < n.toNatClampNeg → F.heap[H.size + 1 + j]? = some (vp_cell cy z) := fun j hj => by
    have := Jvm.Free.Multi.fill_inner (T.setVm vm₁) cA cy n.toNatClampNeg k.toNatClampNeg (defaultValue ty) n.toNatClampNeg j hj
    rw [hF, hTh, hz] at this
    exact this
  have hout : Jvm.Free.Multi.outerC cA n.toNatClampNeg H.size n.toNatClampNeg = vp_cell cA (n.toNatClampNeg, .inr (.inr (.inr (.inr (fun i => if i < n.toNatClampNeg then some (H.size + 1 + i) else none))))) := by
    rw [vp_cell_q]
    exact vr_outer cA n.toNatClampNeg H.size n.toNatClampNeg
  rw [hout] at f2
  have hlt : ∀ a, a ∈ L → a < H.size := fun a ha => by
    obtain ⟨k9, hk9⟩ := va_pl_get (X := X) (f := f) ha
    exact (hP k9 _ hk9).lt
  have hnl : ∀ i : Nat, i < n.toNatClampNeg → H.size + 1 + i ∉ L := fun i _ h => by
    have := hlt _ h
    omega
  have hnm : ∀ a, a ∈ (List.range n.toNatClampNeg).map (fun i => H.size + 1 + i) → a ∉ L := fun a ha h => by
    obtain ⟨i, -, rfl⟩ := List.mem_map.mp ha
    have := hlt _ h
    omega
  have hP0 : va_P D cl (X ++ va_pl L f) F.heap := hP.kept (fun k9 x hx => hold x.1 ((hP k9 x hx).lt))
  have hP1 : va_P D cl ((X ++ va_pl L f) ++ [(H.size, .inl (cA, n.toNatClampNeg, .inr (.inr (.inr (.inr (fun i => if i < n.toNatClampNeg then some (H.size + 1 + i) else none))))))]) F.heap := hP0.app (fun k9 x hx => by
    have h0 : k9 < 1 := (List.getElem?_eq_some_iff.mp hx).1
    rw [show k9 = 0 by omega] at hx
    cases hx
    exact f2)
  have hP2 : va_P D cl (((X ++ va_pl L f) ++ [(H.size, .inl (cA, n.toNatClampNeg, .inr (.inr (.inr (.inr (fun i => if i < n.toNatClampNeg then some (H.size + 1 + i) else none))))))]) ++ ((List.range n.toNatClampNeg).map (fun i => H.size + 1 + i)).map (fun a => (a, .inl (cy, z)))) F.heap := hP1.app (fun k9 x hx => by
    obtain ⟨a, ha, rfl⟩ := List.mem_map.mp (List.mem_of_getElem? hx)
    obtain ⟨i, hi, rfl⟩ := List.mem_map.mp ha
    exact hrow i (List.mem_range.mp hi))
  have hD2 : va_D A (((X ++ va_pl L f) ++ [(H.size, .inl (cA, n.toNatClampNeg, .inr (.inr (.inr (.inr (fun i => if i < n.toNatClampNeg then some (H.size + 1 + i) else none))))))]) ++ ((List.range n.toNatClampNeg).map (fun i => H.size + 1 + i)).map (fun a => (a, .inl (cy, z)))) := by
    have hD1 := hD.push (e := .inl (cA, n.toNatClampNeg, .inr (.inr (.inr (.inr (fun i => if i < n.toNatClampNeg then some (H.size + 1 + i) else none)))))) hP rfl (hA _ hS.1)
    generalize hW1 : (X ++ va_pl L f) ++ [(H.size, .inl (cA, n.toNatClampNeg, .inr (.inr (.inr (.inr (fun i => if i < n.toNatClampNeg then some (H.size + 1 + i) else none))))))] = W1 at hD1 hP1 ⊢
    have hle : ∀ (k9 : Nat) (x : Nat × va_E), W1[k9]? = some x → x.1 ≤ H.size := fun k9 x hx => by
      rw [← hW1] at hx
      by_cases hl : k9 < (X ++ va_pl L f).length
      · rw [List.getElem?_append_left hl] at hx
        exact Nat.le_of_lt ((hP k9 x hx).lt)
      · rw [List.getElem?_append_right (by omega)] at hx
        have h0 : k9 - (X ++ va_pl L f).length < 1 := (List.getElem?_eq_some_iff.mp hx).1
        rw [show k9 - (X ++ va_pl L f).length = 0 by omega] at hx
        cases hx
        exact Nat.le_refl _
    have hr : ∀ (k9 : Nat) (x : Nat × va_E), (((List.range n.toNatClampNeg).map (fun i => H.size + 1 + i)).map (fun a => ((a, .inl (cy, z)) : Nat × va_E)))[k9]? = some x → x.1 = H.size + 1 + k9 := fun k9 x hx => by
      rw [List.getElem?_map, List.getElem?_map] at hx
      by_cases h9 : k9 < n.toNatClampNeg
      · rw [List.getElem?_range h9] at hx
        cases hx
        rfl
      · have hn0 : (List.range n.toNatClampNeg)[k9]? = none := List.getElem?_eq_none (by rw [List.length_range]; omega)
        rw [hn0] at hx
        cases hx
    refine ⟨fun i j x y hi hj hxy => ?_, fun k9 x hx => ?_⟩
    · by_cases h1 : i < W1.length <;> by_cases h2 : j < W1.length
      · rw [List.getElem?_append_left h1] at hi
        rw [List.getElem?_append_left h2] at hj
        exact hD1.1 i j x y hi hj hxy
      · rw [List.getElem?_append_left h1] at hi
        rw [List.getElem?_append_right (by omega)] at hj
        have := hle _ _ hi
        have := hr _ _ hj
        omega
      · rw [List.getElem?_append_right (by omega)] at hi
        rw [List.getElem?_append_left h2] at hj
        have := hle _ _ hj
        have := hr _ _ hi
        omega
      · rw [List.getElem?_append_right (by omega)] at hi hj
        have := hr _ _ hi
        have := hr _ _ hj
        omega
    · by_cases h1 : k9 < W1.length
      · rw [List.getElem?_append_left h1] at hx
        exact hD1.2 k9 x hx
      · rw [List.getElem?_append_right (by omega)] at hx
        have := hr _ _ hx
        exact hA _ (by have := hS.1; omega)
  have hAr : ArrOfT s cA (.array ty) := fun N9 z9 => by
    obtain ⟨-, k9, hk9, cm9, hkk9⟩ := (hO 0 0 0).1
    exact ⟨(fun q hq => by cases hq), k9, hk9, cm9, hkk9⟩
  have hK2 : va_K D cl (tys ++ [(cA, .array ty)]) s := ⟨hK.1, fun k9 x hx => by
    by_cases hl : k9 < tys.length
    · rw [List.getElem?_append_left hl] at hx
      exact hK.2 k9 x hx
    · rw [List.getElem?_append_right (by omega)] at hx
      have h0 : k9 - tys.length < 1 := (List.getElem?_eq_some_iff.mp hx).1
      rw [show k9 - tys.length = 0 by omega] at hx
      cases hx
      exact ⟨hAr, fA⟩⟩
  obtain ⟨t, a1, b1⟩ := kk H.size (fun i => H.size + 1 + i) cA F.heap (fun i j _ _ h => by have h9 : H.size + 1 + i = H.size + 1 + j := h; omega) hnl hK2 (by rw [← vr_rows hnm]; exact vr_lay hP2) (by rw [← vr_rows hnm]; exact vr_layD hD2) ⟨by rw [f1]; have := hS.1; omega, fun x h1 h2 => (hold x (Nat.lt_of_lt_of_le h1 hS.1)).trans (hS.2.1 x h1 h2), hS.2.2⟩ F rfl X'
  refine ⟨t, step t ?_, b1⟩
  have e : T.heap.size = H.size := by rw [hT]
  rw [e]
  exact a1
end VGM
/-! ===== END ===== -/
end
section
/-! ===== the judgement of a method's walk: J; the worlds are lists of cells ===== -/
abbrev jG : Type := Program × Launch × Env × Room × State × MethodId × Array Value × List Frame × Method × Code × (Nat → Prop) × (State → Prop)
/-- words of the tables that go along with the world -/
def jNw : List Cond := [.methodLinkNest RX11 18 yX6_init RX11, .methodLinkNest RX11 43 yX5_init RX11, .methodLinkNest RX11 50 yX1_init RX11, .methodLinkNest RX11 57 yX9_init RX11, .methodLinkNest RX5 25 yX11_within RX11, .methodLinkNest RX7 47 yX11_within RX11]
def jCa : List (String × String) := [(RX3, RX2), (RX10, RX2), (RX8, RX2), (RX10, RX3)]
def jNc : List (String × String) := [(RX2, RX3), (RX8, RX3), (RX2, RX10), (RX3, RX10), (RX8, RX10), (RX2, RX8), (RX3, RX8), (RX10, RX8)]
def jAo : List FieldType := [.object "SeaGates$Gate", .array .int, .array .long]
def jK (D : va_G) (tys : List (ClassId × FieldType)) (U : State) : Prop := va_K D vwCl tys U ∧ (∀ w ∈ jNw, va_Nw w U) ∧ (∀ q ∈ jCa, va_Nw (.castable q.1 q.2) U) ∧ (∀ q ∈ jNc, va_Nc q.1 q.2 U) ∧ (∀ t ∈ jAo, va_Nw (.arrayOver t) U)
theorem jAo_alike {t : FieldType} (ht : t ∈ jAo) {s U : State} (hW : s.vm.Alike U.vm) (h : va_Nw (.arrayOver t) s) : va_Nw (.arrayOver t) U := by
  simp only [jAo, List.mem_cons, List.not_mem_nil, or_false] at ht
  rcases ht with rfl | rfl | rfl
  · exact va_AO.moved hW h
  · exact (show _ = _ from rfl : va_Nw (.arrayOver _) U = va_Nw (.arrayOver _) (s.setVm U.vm)).mpr ((Jvm.Cond.arrayOver_setVmC hW _).trans h)
  · exact (show _ = _ from rfl : va_Nw (.arrayOver _) U = va_Nw (.arrayOver _) (s.setVm U.vm)).mpr ((Jvm.Cond.arrayOver_setVmC hW _).trans h)
theorem jNw_warm {s U : State} (hW : s.WarmedH U.vm) (h : ∀ w ∈ jNw, va_Nw w s) : ∀ w ∈ jNw, va_Nw w U := by
  intro w hw
  have h9 := h w hw
  simp only [jNw, List.mem_cons, List.not_mem_nil, or_false] at hw
  rcases hw with rfl | rfl | rfl | rfl | rfl | rfl <;> exact va_Nw.warmM hW h9
theorem jNw_same {u U : State} (hv : u.vm = U.vm) (h : ∀ w ∈ jNw, va_Nw w u) : ∀ w ∈ jNw, va_Nw w U := by
  intro w hw
  have h9 := h w hw
  simp only [jNw, List.mem_cons, List.not_mem_nil, or_false] at hw
  rcases hw with rfl | rfl | rfl | rfl | rfl | rfl <;> exact va_Nw.same rfl hv h9
theorem va_Nc_alike {C T : String} {u U : State} (hv : u.vm.Alike U.vm) (h : va_Nc C T u) : va_Nc C T U := by
  obtain ⟨c, t, h1, h2, h3⟩ := h
  exact ⟨c, t, by rw [hv.findClass]; exact h1, by rw [hv.findClass]; exact h2, by rw [← h3]; exact hv.assignable c t⟩
theorem jK.warm {D : va_G} {tys : List (ClassId × FieldType)} {s U : State} (hW : s.WarmedH U.vm) (h : jK D tys s) : jK D tys U :=
  ⟨va_K.moved hW.alike h.1, jNw_warm hW h.2.1, fun q hq => va_Nw.warmC hW (h.2.2.1 q hq), fun q hq => va_Nc_alike hW.alike (h.2.2.2.1 q hq), fun t ht => jAo_alike ht hW.alike (h.2.2.2.2 t ht)⟩
theorem jK.blind {D : va_G} {tys : List (ClassId × FieldType)} {U : State} {g : JFrame} {mk : MethodId} {a : Array Value} (h : jK D tys U) : jK D tys (U.calling g mk a) :=
  ⟨va_K.moved (u := U) (U := U.calling g mk a) (Vm.Alike.refl U.vm) h.1, jNw_same (u := U) (U := U.calling g mk a) rfl h.2.1, fun q hq => va_Nw.same (u := U) (U := U.calling g mk a) rfl rfl (h.2.2.1 q hq), fun q hq => va_Nc_alike (u := U) (U := U.calling g mk a) (Vm.Alike.refl U.vm) (h.2.2.2.1 q hq), fun t ht => jAo_alike ht (s := U) (U := U.calling g mk a) (Vm.Alike.refl U.vm) (h.2.2.2.2 t ht)⟩
def J (Γ : jG) (D : va_G) (nL cs sl : Nat) (ws : va_W) (pc : Nat) (lv : List (Nat × Value)) (st : List Value) : Prop := match Γ with
  | (p, l, e, R, s, m, args, below, meth, c, A, Q) => ∀ (H : Heap) (locs : List Loc) (ls : Array Slot), va_P D vwCl ws H → va_D A ws → va_S A s.heap H locs → lv_has ls nL lv → W p l e R s m args below meth c H locs cs sl Q (F0 m pc ls st)
def jC (Γ : jG) (l0 : Launch) (rm : Room) (D : va_G) (nL : Nat) (own : String) (cc : ByteArray) (Ts : List Cond) (tys : List (ClassId × FieldType)) : Prop := match Γ with
  | (p, l, e, R, s, m, args, below, meth, c, A, Q) => l = l0 ∧ R = rm ∧ p.tables.exec = Jvm.exec ∧ c.code = cc ∧ c.maxLocals = nL ∧ s.vm.findClass own = some m.cls ∧ (∀ w ∈ Ts, w.before args s = true) ∧ jK D tys s ∧ (∀ q : Nat, s.heap.size ≤ q → A q) ∧ meth.locks = false
/-- a contract's start, its end -/
def jPre (D : va_G) (tys : List (ClassId × FieldType)) (av : List Value) (ws : va_W) (sz : Nat) : Array Value → State → Prop := va_Pc av (fun U => U.heap.size = sz ∧ va_P D vwCl ws U.heap ∧ jK D tys U ∧ va_D (fun _ => True) ws)
def jB {S : Type} (D : va_G) (wf : S → va_W) (A : Nat → Prop) : S → State → Prop := fun u t => va_P D vwCl (wf u) t.heap ∧ va_D A (wf u)

abbrev jMi {S : Type} (l : Launch) (y : MethodName) (ws : List Cond) (rm : Room) (D : va_G) (tys : List (ClassId × FieldType)) (av : List Value) (w0 : va_W) (wf : S → va_W) (post : Int32 → S → Prop) (mc ms : Nat) : Prop := ∀ sz : Nat, Met l y ws rm (jPre D tys av w0 sz) (va_Qi post (jB D wf (va_A w0 sz)) (va_A w0 sz)) mc ms (va_A w0 sz)
def jQi {S : Type} (Γ : jG) (D : va_G) (wf : S → va_W) (post : Int32 → S → Prop) (rt : Option FieldType) (mc ms : Nat) : Prop := match Γ with
  | (p, l, e, R, s, m, args, below, meth, c, A, Q) => Q = MQ below (va_Qi post (jB D wf A) A) args s mc ms A ∧ meth.sig.returnType = rt
theorem j_meti {S : Type} {l : Launch} {y : MethodName} {ws' : List Cond} {rm : Room} {D : va_G} {tys : List (ClassId × FieldType)} {av : List Value} {w0 : va_W} {wf : S → va_W} {post : Int32 → S → Prop} {mc ms : Nat} {cc : ByteArray} {nL : Nat} {rt : Option FieldType} (hy : plainName y.cls = true) (hn : (lg_sl av).length ≤ nL)
    (body : ∀ Γ : jG, jC Γ l rm D nL y.cls cc (.code y cc nL rt :: ws') tys → jQi Γ D wf post rt mc ms → (match Γ with | (_, _, _, _, _, _, _, _, meth, _, _, _) => meth.name = y.name) → J Γ D nL 0 0 w0 0 (lv_args 0 av) []) : jMi l y (.code y cc nL rt :: ws') rm D tys av w0 wf post mc ms := by
  intro sz
  refine Met.ofW (cc := cc) (maxL := nL) (ret := rt) hy rfl ?_
  intro p e s m args below meth c s₁ B hml hv
  obtain ⟨rfl, hsz, hP, hK, hD0⟩ := hv
  subst hsz
  have hts := atoms_spec (ws := .code y cc nL rt :: ws') B.pre
  have hown : s.vm.findClass y.cls = some m.cls := findClass_of_methodNamed B.named
  have hl := lv_entry av (n := nL) hn
  rw [lg_entry_eq]
  exact body (p, l, e, rm, s, m, av.toArray, below, meth, c, va_A w0 s.heap.size, _) ⟨rfl, rfl, B.exec, B.bytes, hml, hown, hts, hK, fun q h => Or.inr h, B.notSynchronized⟩ ⟨rfl, B.returns⟩ (name_of_methodNamed B.named B.method).1 s.heap [] _ hP (hD0.self (sz := s.heap.size)) va_S.rf hl

abbrev jMl {S : Type} (l : Launch) (y : MethodName) (ws : List Cond) (rm : Room) (D : va_G) (tys : List (ClassId × FieldType)) (av : List Value) (w0 : va_W) (wf : S → va_W) (post : Int64 → S → Prop) (mc ms : Nat) : Prop := ∀ sz : Nat, Met l y ws rm (jPre D tys av w0 sz) (va_Ql post (jB D wf (va_A w0 sz)) (va_A w0 sz)) mc ms (va_A w0 sz)
def jQl {S : Type} (Γ : jG) (D : va_G) (wf : S → va_W) (post : Int64 → S → Prop) (rt : Option FieldType) (mc ms : Nat) : Prop := match Γ with
  | (p, l, e, R, s, m, args, below, meth, c, A, Q) => Q = MQ below (va_Ql post (jB D wf A) A) args s mc ms A ∧ meth.sig.returnType = rt
theorem j_metl {S : Type} {l : Launch} {y : MethodName} {ws' : List Cond} {rm : Room} {D : va_G} {tys : List (ClassId × FieldType)} {av : List Value} {w0 : va_W} {wf : S → va_W} {post : Int64 → S → Prop} {mc ms : Nat} {cc : ByteArray} {nL : Nat} {rt : Option FieldType} (hy : plainName y.cls = true) (hn : (lg_sl av).length ≤ nL)
    (body : ∀ Γ : jG, jC Γ l rm D nL y.cls cc (.code y cc nL rt :: ws') tys → jQl Γ D wf post rt mc ms → (match Γ with | (_, _, _, _, _, _, _, _, meth, _, _, _) => meth.name = y.name) → J Γ D nL 0 0 w0 0 (lv_args 0 av) []) : jMl l y (.code y cc nL rt :: ws') rm D tys av w0 wf post mc ms := by
  intro sz
  refine Met.ofW (cc := cc) (maxL := nL) (ret := rt) hy rfl ?_
  intro p e s m args below meth c s₁ B hml hv
  obtain ⟨rfl, hsz, hP, hK, hD0⟩ := hv
  subst hsz
  have hts := atoms_spec (ws := .code y cc nL rt :: ws') B.pre
  have hown : s.vm.findClass y.cls = some m.cls := findClass_of_methodNamed B.named
  have hl := lv_entry av (n := nL) hn
  rw [lg_entry_eq]
  exact body (p, l, e, rm, s, m, av.toArray, below, meth, c, va_A w0 s.heap.size, _) ⟨rfl, rfl, B.exec, B.bytes, hml, hown, hts, hK, fun q h => Or.inr h, B.notSynchronized⟩ ⟨rfl, B.returns⟩ (name_of_methodNamed B.named B.method).1 s.heap [] _ hP (hD0.self (sz := s.heap.size)) va_S.rf hl

abbrev jMv {S : Type} (l : Launch) (y : MethodName) (ws : List Cond) (rm : Room) (D : va_G) (tys : List (ClassId × FieldType)) (av : List Value) (w0 : va_W) (wf : S → va_W) (post : S → Prop) (mc ms : Nat) : Prop := ∀ sz : Nat, Met l y ws rm (jPre D tys av w0 sz) (va_Qv post (jB D wf (va_A w0 sz)) (va_A w0 sz)) mc ms (va_A w0 sz)
def jQv {S : Type} (Γ : jG) (D : va_G) (wf : S → va_W) (post : S → Prop) (rt : Option FieldType) (mc ms : Nat) : Prop := match Γ with
  | (p, l, e, R, s, m, args, below, meth, c, A, Q) => Q = MQ below (va_Qv post (jB D wf A) A) args s mc ms A ∧ meth.sig.returnType = rt
theorem j_metv {S : Type} {l : Launch} {y : MethodName} {ws' : List Cond} {rm : Room} {D : va_G} {tys : List (ClassId × FieldType)} {av : List Value} {w0 : va_W} {wf : S → va_W} {post : S → Prop} {mc ms : Nat} {cc : ByteArray} {nL : Nat} {rt : Option FieldType} (hy : plainName y.cls = true) (hn : (lg_sl av).length ≤ nL)
    (body : ∀ Γ : jG, jC Γ l rm D nL y.cls cc (.code y cc nL rt :: ws') tys → jQv Γ D wf post rt mc ms → (match Γ with | (_, _, _, _, _, _, _, _, meth, _, _, _) => meth.name = y.name) → J Γ D nL 0 0 w0 0 (lv_args 0 av) []) : jMv l y (.code y cc nL rt :: ws') rm D tys av w0 wf post mc ms := by
  intro sz
  refine Met.ofW (cc := cc) (maxL := nL) (ret := rt) hy rfl ?_
  intro p e s m args below meth c s₁ B hml hv
  obtain ⟨rfl, hsz, hP, hK, hD0⟩ := hv
  subst hsz
  have hts := atoms_spec (ws := .code y cc nL rt :: ws') B.pre
  have hown : s.vm.findClass y.cls = some m.cls := findClass_of_methodNamed B.named
  have hl := lv_entry av (n := nL) hn
  rw [lg_entry_eq]
  exact body (p, l, e, rm, s, m, av.toArray, below, meth, c, va_A w0 s.heap.size, _) ⟨rfl, rfl, B.exec, B.bytes, hml, hown, hts, hK, fun q h => Or.inr h, B.notSynchronized⟩ ⟨rfl, B.returns⟩ (name_of_methodNamed B.named B.method).1 s.heap [] _ hP (hD0.self (sz := s.heap.size)) va_S.rf hl

abbrev jMq {S : Type} (l : Launch) (y : MethodName) (ws : List Cond) (rm : Room) (D : va_G) (tys : List (ClassId × FieldType)) (av : List Value) (w0 : va_W) (wf : S → va_W) (post : Option Nat → S → Prop) (mc ms : Nat) : Prop := ∀ sz : Nat, Met l y ws rm (jPre D tys av w0 sz) (va_Qq post (jB D wf (va_A w0 sz)) (va_A w0 sz)) mc ms (va_A w0 sz)
def jQq {S : Type} (Γ : jG) (D : va_G) (wf : S → va_W) (post : Option Nat → S → Prop) (rt : Option FieldType) (mc ms : Nat) : Prop := match Γ with
  | (p, l, e, R, s, m, args, below, meth, c, A, Q) => Q = MQ below (va_Qq post (jB D wf A) A) args s mc ms A ∧ meth.sig.returnType = rt
theorem j_metq {S : Type} {l : Launch} {y : MethodName} {ws' : List Cond} {rm : Room} {D : va_G} {tys : List (ClassId × FieldType)} {av : List Value} {w0 : va_W} {wf : S → va_W} {post : Option Nat → S → Prop} {mc ms : Nat} {cc : ByteArray} {nL : Nat} {rt : Option FieldType} (hy : plainName y.cls = true) (hn : (lg_sl av).length ≤ nL)
    (body : ∀ Γ : jG, jC Γ l rm D nL y.cls cc (.code y cc nL rt :: ws') tys → jQq Γ D wf post rt mc ms → (match Γ with | (_, _, _, _, _, _, _, _, meth, _, _, _) => meth.name = y.name) → J Γ D nL 0 0 w0 0 (lv_args 0 av) []) : jMq l y (.code y cc nL rt :: ws') rm D tys av w0 wf post mc ms := by
  intro sz
  refine Met.ofW (cc := cc) (maxL := nL) (ret := rt) hy rfl ?_
  intro p e s m args below meth c s₁ B hml hv
  obtain ⟨rfl, hsz, hP, hK, hD0⟩ := hv
  subst hsz
  have hts := atoms_spec (ws := .code y cc nL rt :: ws') B.pre
  have hown : s.vm.findClass y.cls = some m.cls := findClass_of_methodNamed B.named
  have hl := lv_entry av (n := nL) hn
  rw [lg_entry_eq]
  exact body (p, l, e, rm, s, m, av.toArray, below, meth, c, va_A w0 s.heap.size, _) ⟨rfl, rfl, B.exec, B.bytes, hml, hown, hts, hK, fun q h => Or.inr h, B.notSynchronized⟩ ⟨rfl, B.returns⟩ (name_of_methodNamed B.named B.method).1 s.heap [] _ hP (hD0.self (sz := s.heap.size)) va_S.rf hl


theorem jl_eq {x y : Int64} : lg_cmp x y = 0 ↔ x = y := by
  unfold lg_cmp
  by_cases h1 : y < x
  · rw [if_pos h1]; exact ⟨fun h => absurd h (by decide), fun h => absurd h1 (by rw [h]; exact Int64.lt_irrefl)⟩
  · rw [if_neg h1]
    by_cases h2 : x = y
    · simp [h2]
    · rw [if_neg h2]; exact ⟨fun h => absurd h (by decide), fun h => absurd h h2⟩
theorem jl_ne {x y : Int64} : ¬ lg_cmp x y = 0 ↔ ¬ x = y := not_congr jl_eq
theorem jl_gt {x y : Int64} : 0 < lg_cmp x y ↔ y < x := by
  unfold lg_cmp
  by_cases h1 : y < x
  · rw [if_pos h1]; exact ⟨fun _ => h1, fun _ => by decide⟩
  · rw [if_neg h1]
    by_cases h2 : x = y
    · rw [if_pos h2]; exact ⟨fun h => absurd h (by decide), fun h => absurd h h1⟩
    · rw [if_neg h2]; exact ⟨fun h => absurd h (by decide), fun h => absurd h h1⟩
theorem jl_le {x y : Int64} : lg_cmp x y ≤ 0 ↔ x ≤ y := by
  have h := @jl_gt x y
  rw [← Int32.not_lt, ← Int64.not_lt]
  exact not_congr h
theorem jl_lt {x y : Int64} : lg_cmp x y < 0 ↔ x < y := by
  unfold lg_cmp
  by_cases h1 : y < x
  · rw [if_pos h1]; exact ⟨fun h => absurd h (by decide), fun h => absurd (Int64.lt_trans h h1) Int64.lt_irrefl⟩
  · rw [if_neg h1]
    by_cases h2 : x = y
    · rw [if_pos h2]; exact ⟨fun h => absurd h (by decide), fun h => absurd h (by rw [h2]; exact Int64.lt_irrefl)⟩
    · rw [if_neg h2]; refine ⟨fun _ => ?_, fun _ => by decide⟩
      rw [Int64.lt_iff_toInt_lt]
      rw [Int64.lt_iff_toInt_lt] at h1
      have h3 : x.toInt ≠ y.toInt := fun h => h2 (Int64.toInt_inj.mp h)
      omega
theorem jl_ge {x y : Int64} : 0 ≤ lg_cmp x y ↔ y ≤ x := by
  have h := @jl_lt x y
  rw [← Int32.not_lt, ← Int64.not_lt]
  exact not_congr h
theorem mw {α : Type} {l : List α} {a : α} (i : Nat) (h : l[i]? = some a) : a ∈ l := List.mem_of_getElem? h
theorem jin_lit {i : Int32} {n : Nat} (h : 0 ≤ i.toInt ∧ i.toInt < (n : Int)) : vp_in i n := vp_in_iff.mpr h
def jz (v : Int32) : Prop := v = 0 ∨ v = 1
theorem jz_n {v : Int32} (h : jz v) : narrow .boolean (.int v) = .int v := by rcases h with rfl | rfl <;> rfl
theorem jz_f {v : Int32} (h : jz v) : fits .boolean (.int v) = true := by rcases h with rfl | rfl <;> rfl


theorem jm_inner_int (c : ClassId) (K : Nat) : Jvm.Free.Multi.innerC c K (defaultValue .int) = vp_cell c (K, .inl (fun _ => 0)) := by
  rw [vp_cell_i]
  exact arrV_new c K _
theorem jm_inner_long (c : ClassId) (K : Nat) : Jvm.Free.Multi.innerC c K (defaultValue .long) = vp_cell c (K, .inr (.inl (fun _ => 0))) := by
  rw [vp_cell_l]
  exact arrV_new c K _
theorem jm_pool {X : va_W} {N : Nat} {r : Nat → Nat} {f : Nat → va_E} {e : va_E} : X ++ va_pl ([] ++ (List.range N).map r) (vr_up f ((List.range N).map r) e) = X ++ (List.range N).map (fun j => (r j, e)) := by
  congr 1
  unfold va_pl
  rw [List.nil_append, List.map_map]
  apply List.map_congr_left
  intro j hj
  show (r j, vr_up f ((List.range N).map r) e (r j)) = (r j, e)
  rw [vr_up_in (List.mem_map.mpr ⟨j, hj, rfl⟩)]

section JR
variable {Γ : jG} {l0 : Launch} {rm : Room} {D : va_G} {nL cs sl : Nat} {own : String} {cc : ByteArray} {Ts : List Cond} {tys : List (ClassId × FieldType)} {ws : va_W} {pc : Nat} {lv : List (Nat × Value)} {st : List Value}
theorem j_iconst (hC : jC Γ l0 rm D nL own cc Ts tys) {n : Int} (hd : decode cc pc = .ok (.iconst n, 1)) {v : Int32} (hv : Int32.ofInt n = v) (kk : J Γ D nL cs sl ws (pc + 1) lv (.int v :: st)) : J Γ D nL cs sl ws pc lv (st) := by
  obtain ⟨p, l, e, R, s, m, args, below, meth, c, A, Q⟩ := Γ
  obtain ⟨rfl, rfl, hx, hb, hml, hown, hts, hK, hA, hlk⟩ := hC
  intro H locs ls hP hD hS hl
  exact lv_iconst hx hb hd hv (kk H locs ls hP hD hS hl)
theorem j_bipush (hC : jC Γ l0 rm D nL own cc Ts tys) {n : Int} (hd : decode cc pc = .ok (.bipush n, 2)) {v : Int32} (hv : (Int8.ofInt n).toInt32 = v) (kk : J Γ D nL cs sl ws (pc + 2) lv (.int v :: st)) : J Γ D nL cs sl ws pc lv (st) := by
  obtain ⟨p, l, e, R, s, m, args, below, meth, c, A, Q⟩ := Γ
  obtain ⟨rfl, rfl, hx, hb, hml, hown, hts, hK, hA, hlk⟩ := hC
  intro H locs ls hP hD hS hl
  exact lv_bipush hx hb hd hv (kk H locs ls hP hD hS hl)
theorem j_sipush (hC : jC Γ l0 rm D nL own cc Ts tys) {n : Int} (hd : decode cc pc = .ok (.sipush n, 3)) {v : Int32} (hv : (Int16.ofInt n).toInt32 = v) (kk : J Γ D nL cs sl ws (pc + 3) lv (.int v :: st)) : J Γ D nL cs sl ws pc lv (st) := by
  obtain ⟨p, l, e, R, s, m, args, below, meth, c, A, Q⟩ := Γ
  obtain ⟨rfl, rfl, hx, hb, hml, hown, hts, hK, hA, hlk⟩ := hC
  intro H locs ls hP hD hS hl
  exact lv_sipush hx hb hd hv (kk H locs ls hP hD hS hl)
theorem j_lconst (hC : jC Γ l0 rm D nL own cc Ts tys) {n : Fin 2} (hd : decode cc pc = .ok (.lconst n, 1)) {v : Int64} (hv : Int64.ofNat (n : Nat) = v) (kk : J Γ D nL cs sl ws (pc + 1) lv (.long v :: st)) : J Γ D nL cs sl ws pc lv (st) := by
  obtain ⟨p, l, e, R, s, m, args, below, meth, c, A, Q⟩ := Γ
  obtain ⟨rfl, rfl, hx, hb, hml, hown, hts, hK, hA, hlk⟩ := hC
  intro H locs ls hP hD hS hl
  exact lv_lconst hx hb hd hv (kk H locs ls hP hD hS hl)
theorem j_iload_n (hC : jC Γ l0 rm D nL own cc Ts tys) {k : Fin 4} (hd : decode cc pc = .ok (.iload_n k, 1)) {i : Nat} {x : Int32} (hi : (k : Nat) = i) (n : Nat) (h : lv[n]? = some (i, .int x)) (kk : J Γ D nL cs sl ws (pc + 1) lv (.int x :: st)) : J Γ D nL cs sl ws pc lv (st) := by
  obtain ⟨p, l, e, R, s, m, args, below, meth, c, A, Q⟩ := Γ
  obtain ⟨rfl, rfl, hx, hb, hml, hown, hts, hK, hA, hlk⟩ := hC
  intro H locs ls hP hD hS hl
  exact lv_iload_n hx hb hd hi (lv_at hl n h) (kk H locs ls hP hD hS hl)
theorem j_iload (hC : jC Γ l0 rm D nL own cc Ts tys) {i : Nat} (hd : decode cc pc = .ok (.iload i, 2)) {x : Int32} (n : Nat) (h : lv[n]? = some (i, .int x)) (kk : J Γ D nL cs sl ws (pc + 2) lv (.int x :: st)) : J Γ D nL cs sl ws pc lv (st) := by
  obtain ⟨p, l, e, R, s, m, args, below, meth, c, A, Q⟩ := Γ
  obtain ⟨rfl, rfl, hx, hb, hml, hown, hts, hK, hA, hlk⟩ := hC
  intro H locs ls hP hD hS hl
  exact lv_iload hx hb hd (lv_at hl n h) (kk H locs ls hP hD hS hl)
theorem j_lload_n (hC : jC Γ l0 rm D nL own cc Ts tys) {k : Fin 4} (hd : decode cc pc = .ok (.lload_n k, 1)) {i : Nat} {x : Int64} (hi : (k : Nat) = i) (n : Nat) (h : lv[n]? = some (i, .long x)) (kk : J Γ D nL cs sl ws (pc + 1) lv (.long x :: st)) : J Γ D nL cs sl ws pc lv (st) := by
  obtain ⟨p, l, e, R, s, m, args, below, meth, c, A, Q⟩ := Γ
  obtain ⟨rfl, rfl, hx, hb, hml, hown, hts, hK, hA, hlk⟩ := hC
  intro H locs ls hP hD hS hl
  exact lv_lload_n hx hb hd hi (lv_at hl n h) (kk H locs ls hP hD hS hl)
theorem j_lload (hC : jC Γ l0 rm D nL own cc Ts tys) {i : Nat} (hd : decode cc pc = .ok (.lload i, 2)) {x : Int64} (n : Nat) (h : lv[n]? = some (i, .long x)) (kk : J Γ D nL cs sl ws (pc + 2) lv (.long x :: st)) : J Γ D nL cs sl ws pc lv (st) := by
  obtain ⟨p, l, e, R, s, m, args, below, meth, c, A, Q⟩ := Γ
  obtain ⟨rfl, rfl, hx, hb, hml, hown, hts, hK, hA, hlk⟩ := hC
  intro H locs ls hP hD hS hl
  exact lv_lload hx hb hd (lv_at hl n h) (kk H locs ls hP hD hS hl)
theorem j_aload_n (hC : jC Γ l0 rm D nL own cc Ts tys) {k : Fin 4} (hd : decode cc pc = .ok (.aload_n k, 1)) {i : Nat} {x : Nat} (hi : (k : Nat) = i) (n : Nat) (h : lv[n]? = some (i, .ref x)) (kk : J Γ D nL cs sl ws (pc + 1) lv (.ref x :: st)) : J Γ D nL cs sl ws pc lv (st) := by
  obtain ⟨p, l, e, R, s, m, args, below, meth, c, A, Q⟩ := Γ
  obtain ⟨rfl, rfl, hx, hb, hml, hown, hts, hK, hA, hlk⟩ := hC
  intro H locs ls hP hD hS hl
  exact lv_aload_n hx hb hd hi (lv_at hl n h) (kk H locs ls hP hD hS hl)
theorem j_aload (hC : jC Γ l0 rm D nL own cc Ts tys) {i : Nat} (hd : decode cc pc = .ok (.aload i, 2)) {x : Nat} (n : Nat) (h : lv[n]? = some (i, .ref x)) (kk : J Γ D nL cs sl ws (pc + 2) lv (.ref x :: st)) : J Γ D nL cs sl ws pc lv (st) := by
  obtain ⟨p, l, e, R, s, m, args, below, meth, c, A, Q⟩ := Γ
  obtain ⟨rfl, rfl, hx, hb, hml, hown, hts, hK, hA, hlk⟩ := hC
  intro H locs ls hP hD hS hl
  exact lv_aload hx hb hd (lv_at hl n h) (kk H locs ls hP hD hS hl)
theorem j_aload_nN (hC : jC Γ l0 rm D nL own cc Ts tys) {k : Fin 4} (hd : decode cc pc = .ok (.aload_n k, 1)) {i : Nat} (hi : (k : Nat) = i) (n : Nat) (h : lv[n]? = some (i, .null)) (kk : J Γ D nL cs sl ws (pc + 1) lv (.null :: st)) : J Γ D nL cs sl ws pc lv (st) := by
  obtain ⟨p, l, e, R, s, m, args, below, meth, c, A, Q⟩ := Γ
  obtain ⟨rfl, rfl, hx, hb, hml, hown, hts, hK, hA, hlk⟩ := hC
  intro H locs ls hP hD hS hl
  exact lv_aload_nN hx hb hd hi (lv_at hl n h) (kk H locs ls hP hD hS hl)
theorem j_aloadN (hC : jC Γ l0 rm D nL own cc Ts tys) {i : Nat} (hd : decode cc pc = .ok (.aload i, 2)) (n : Nat) (h : lv[n]? = some (i, .null)) (kk : J Γ D nL cs sl ws (pc + 2) lv (.null :: st)) : J Γ D nL cs sl ws pc lv (st) := by
  obtain ⟨p, l, e, R, s, m, args, below, meth, c, A, Q⟩ := Γ
  obtain ⟨rfl, rfl, hx, hb, hml, hown, hts, hK, hA, hlk⟩ := hC
  intro H locs ls hP hD hS hl
  exact lv_aloadN hx hb hd (lv_at hl n h) (kk H locs ls hP hD hS hl)
theorem j_istore_n (hC : jC Γ l0 rm D nL own cc Ts tys) {k : Fin 4} {i : Nat} {lv' : List (Nat × Value)} {x : Int32} (hd : decode cc pc = .ok (.istore_n k, 1)) (hi : (k : Nat) = i) (hn : i < nL) (hf : (i, Value.int x) :: lv.filter (fun q => !(q.1 == i) && !(q.1 + 1 == i && q.2.category == 2)) = lv') (kk : J Γ D nL cs sl ws (pc + 1) lv' (st)) : J Γ D nL cs sl ws pc lv (.int x :: st) := by
  obtain ⟨p, l, e, R, s, m, args, below, meth, c, A, Q⟩ := Γ
  obtain ⟨rfl, rfl, hx, hb, hml, hown, hts, hK, hA, hlk⟩ := hC
  intro H locs ls hP hD hS hl
  exact lv_istore_n hx hb hd hi hl hn hf (fun ls hl => kk H locs ls hP hD hS hl)
theorem j_istore (hC : jC Γ l0 rm D nL own cc Ts tys) {i : Nat} {lv' : List (Nat × Value)} {x : Int32} (hd : decode cc pc = .ok (.istore i, 2)) (hn : i < nL) (hf : (i, Value.int x) :: lv.filter (fun q => !(q.1 == i) && !(q.1 + 1 == i && q.2.category == 2)) = lv') (kk : J Γ D nL cs sl ws (pc + 2) lv' (st)) : J Γ D nL cs sl ws pc lv (.int x :: st) := by
  obtain ⟨p, l, e, R, s, m, args, below, meth, c, A, Q⟩ := Γ
  obtain ⟨rfl, rfl, hx, hb, hml, hown, hts, hK, hA, hlk⟩ := hC
  intro H locs ls hP hD hS hl
  exact lv_istore hx hb hd hl hn hf (fun ls hl => kk H locs ls hP hD hS hl)
theorem j_lstore_n (hC : jC Γ l0 rm D nL own cc Ts tys) {k : Fin 4} {i : Nat} {lv' : List (Nat × Value)} {x : Int64} (hd : decode cc pc = .ok (.lstore_n k, 1)) (hi : (k : Nat) = i) (hn : i + 1 < nL) (hf : (i, Value.long x) :: lv.filter (fun q => !(q.1 == i) && (!(q.1 == i + 1) && !(q.1 + 1 == i && q.2.category == 2))) = lv') (kk : J Γ D nL cs sl ws (pc + 1) lv' (st)) : J Γ D nL cs sl ws pc lv (.long x :: st) := by
  obtain ⟨p, l, e, R, s, m, args, below, meth, c, A, Q⟩ := Γ
  obtain ⟨rfl, rfl, hx, hb, hml, hown, hts, hK, hA, hlk⟩ := hC
  intro H locs ls hP hD hS hl
  exact lv_lstore_n hx hb hd hi hl hn hf (fun ls hl => kk H locs ls hP hD hS hl)
theorem j_lstore (hC : jC Γ l0 rm D nL own cc Ts tys) {i : Nat} {lv' : List (Nat × Value)} {x : Int64} (hd : decode cc pc = .ok (.lstore i, 2)) (hn : i + 1 < nL) (hf : (i, Value.long x) :: lv.filter (fun q => !(q.1 == i) && (!(q.1 == i + 1) && !(q.1 + 1 == i && q.2.category == 2))) = lv') (kk : J Γ D nL cs sl ws (pc + 2) lv' (st)) : J Γ D nL cs sl ws pc lv (.long x :: st) := by
  obtain ⟨p, l, e, R, s, m, args, below, meth, c, A, Q⟩ := Γ
  obtain ⟨rfl, rfl, hx, hb, hml, hown, hts, hK, hA, hlk⟩ := hC
  intro H locs ls hP hD hS hl
  exact lv_lstore hx hb hd hl hn hf (fun ls hl => kk H locs ls hP hD hS hl)
theorem j_astore_n (hC : jC Γ l0 rm D nL own cc Ts tys) {k : Fin 4} {i : Nat} {lv' : List (Nat × Value)} {x : Nat} (hd : decode cc pc = .ok (.astore_n k, 1)) (hi : (k : Nat) = i) (hn : i < nL) (hf : (i, Value.ref x) :: lv.filter (fun q => !(q.1 == i) && !(q.1 + 1 == i && q.2.category == 2)) = lv') (kk : J Γ D nL cs sl ws (pc + 1) lv' (st)) : J Γ D nL cs sl ws pc lv (.ref x :: st) := by
  obtain ⟨p, l, e, R, s, m, args, below, meth, c, A, Q⟩ := Γ
  obtain ⟨rfl, rfl, hx, hb, hml, hown, hts, hK, hA, hlk⟩ := hC
  intro H locs ls hP hD hS hl
  exact lv_astore_n hx hb hd hi hl hn hf (fun ls hl => kk H locs ls hP hD hS hl)
theorem j_astore (hC : jC Γ l0 rm D nL own cc Ts tys) {i : Nat} {lv' : List (Nat × Value)} {x : Nat} (hd : decode cc pc = .ok (.astore i, 2)) (hn : i < nL) (hf : (i, Value.ref x) :: lv.filter (fun q => !(q.1 == i) && !(q.1 + 1 == i && q.2.category == 2)) = lv') (kk : J Γ D nL cs sl ws (pc + 2) lv' (st)) : J Γ D nL cs sl ws pc lv (.ref x :: st) := by
  obtain ⟨p, l, e, R, s, m, args, below, meth, c, A, Q⟩ := Γ
  obtain ⟨rfl, rfl, hx, hb, hml, hown, hts, hK, hA, hlk⟩ := hC
  intro H locs ls hP hD hS hl
  exact lv_astore hx hb hd hl hn hf (fun ls hl => kk H locs ls hP hD hS hl)
theorem j_astore_nN (hC : jC Γ l0 rm D nL own cc Ts tys) {k : Fin 4} {i : Nat} {lv' : List (Nat × Value)} (hd : decode cc pc = .ok (.astore_n k, 1)) (hi : (k : Nat) = i) (hn : i < nL) (hf : (i, Value.null) :: lv.filter (fun q => !(q.1 == i) && !(q.1 + 1 == i && q.2.category == 2)) = lv') (kk : J Γ D nL cs sl ws (pc + 1) lv' (st)) : J Γ D nL cs sl ws pc lv (.null :: st) := by
  obtain ⟨p, l, e, R, s, m, args, below, meth, c, A, Q⟩ := Γ
  obtain ⟨rfl, rfl, hx, hb, hml, hown, hts, hK, hA, hlk⟩ := hC
  intro H locs ls hP hD hS hl
  exact lv_astore_nN hx hb hd hi hl hn hf (fun ls hl => kk H locs ls hP hD hS hl)
theorem j_astoreN (hC : jC Γ l0 rm D nL own cc Ts tys) {i : Nat} {lv' : List (Nat × Value)} (hd : decode cc pc = .ok (.astore i, 2)) (hn : i < nL) (hf : (i, Value.null) :: lv.filter (fun q => !(q.1 == i) && !(q.1 + 1 == i && q.2.category == 2)) = lv') (kk : J Γ D nL cs sl ws (pc + 2) lv' (st)) : J Γ D nL cs sl ws pc lv (.null :: st) := by
  obtain ⟨p, l, e, R, s, m, args, below, meth, c, A, Q⟩ := Γ
  obtain ⟨rfl, rfl, hx, hb, hml, hown, hts, hK, hA, hlk⟩ := hC
  intro H locs ls hP hD hS hl
  exact lv_astoreN hx hb hd hl hn hf (fun ls hl => kk H locs ls hP hD hS hl)
theorem j_iinc (hC : jC Γ l0 rm D nL own cc Ts tys) {i k : Nat} {n : Int} {x v : Int32} {lv' : List (Nat × Value)} (hd : decode cc pc = .ok (.iinc i n, 3)) (hk : lv[k]? = some (i, .int x)) (hv : x + Int32.ofInt n = v) (hn : i < nL) (hf : (i, Value.int v) :: lv.filter (fun q => !(q.1 == i) && !(q.1 + 1 == i && q.2.category == 2)) = lv') (kk : J Γ D nL cs sl ws (pc + 3) lv' (st)) : J Γ D nL cs sl ws pc lv (st) := by
  obtain ⟨p, l, e, R, s, m, args, below, meth, c, A, Q⟩ := Γ
  obtain ⟨rfl, rfl, hx, hb, hml, hown, hts, hK, hA, hlk⟩ := hC
  intro H locs ls hP hD hS hl
  exact lv_iinc hx hb hd hl hk hv hn hf (fun ls hl => kk H locs ls hP hD hS hl)
theorem j_iadd (hC : jC Γ l0 rm D nL own cc Ts tys) {x y : Int32} (hd : decode cc pc = .ok (.iadd, 1))  (kk : J Γ D nL cs sl ws (pc + 1) lv (.int (x + y) :: st)) : J Γ D nL cs sl ws pc lv (.int y :: .int x :: st) := by
  obtain ⟨p, l, e, R, s, m, args, below, meth, c, A, Q⟩ := Γ
  obtain ⟨rfl, rfl, hx, hb, hml, hown, hts, hK, hA, hlk⟩ := hC
  intro H locs ls hP hD hS hl
  exact lv_iadd hx hb hd (kk H locs ls hP hD hS hl)
theorem j_isub (hC : jC Γ l0 rm D nL own cc Ts tys) {x y : Int32} (hd : decode cc pc = .ok (.isub, 1))  (kk : J Γ D nL cs sl ws (pc + 1) lv (.int (x - y) :: st)) : J Γ D nL cs sl ws pc lv (.int y :: .int x :: st) := by
  obtain ⟨p, l, e, R, s, m, args, below, meth, c, A, Q⟩ := Γ
  obtain ⟨rfl, rfl, hx, hb, hml, hown, hts, hK, hA, hlk⟩ := hC
  intro H locs ls hP hD hS hl
  exact lv_isub hx hb hd (kk H locs ls hP hD hS hl)
theorem j_imul (hC : jC Γ l0 rm D nL own cc Ts tys) {x y : Int32} (hd : decode cc pc = .ok (.imul, 1))  (kk : J Γ D nL cs sl ws (pc + 1) lv (.int (x * y) :: st)) : J Γ D nL cs sl ws pc lv (.int y :: .int x :: st) := by
  obtain ⟨p, l, e, R, s, m, args, below, meth, c, A, Q⟩ := Γ
  obtain ⟨rfl, rfl, hx, hb, hml, hown, hts, hK, hA, hlk⟩ := hC
  intro H locs ls hP hD hS hl
  exact lv_imul hx hb hd (kk H locs ls hP hD hS hl)
theorem j_iand (hC : jC Γ l0 rm D nL own cc Ts tys) {x y : Int32} (hd : decode cc pc = .ok (.iand, 1))  (kk : J Γ D nL cs sl ws (pc + 1) lv (.int (x &&& y) :: st)) : J Γ D nL cs sl ws pc lv (.int y :: .int x :: st) := by
  obtain ⟨p, l, e, R, s, m, args, below, meth, c, A, Q⟩ := Γ
  obtain ⟨rfl, rfl, hx, hb, hml, hown, hts, hK, hA, hlk⟩ := hC
  intro H locs ls hP hD hS hl
  exact lv_iand hx hb hd (kk H locs ls hP hD hS hl)
theorem j_ior (hC : jC Γ l0 rm D nL own cc Ts tys) {x y : Int32} (hd : decode cc pc = .ok (.ior, 1))  (kk : J Γ D nL cs sl ws (pc + 1) lv (.int (x ||| y) :: st)) : J Γ D nL cs sl ws pc lv (.int y :: .int x :: st) := by
  obtain ⟨p, l, e, R, s, m, args, below, meth, c, A, Q⟩ := Γ
  obtain ⟨rfl, rfl, hx, hb, hml, hown, hts, hK, hA, hlk⟩ := hC
  intro H locs ls hP hD hS hl
  exact lv_ior hx hb hd (kk H locs ls hP hD hS hl)
theorem j_ishl (hC : jC Γ l0 rm D nL own cc Ts tys) {x y : Int32} (hd : decode cc pc = .ok (.ishl, 1))  (kk : J Γ D nL cs sl ws (pc + 1) lv (.int (x <<< (y &&& 31)) :: st)) : J Γ D nL cs sl ws pc lv (.int y :: .int x :: st) := by
  obtain ⟨p, l, e, R, s, m, args, below, meth, c, A, Q⟩ := Γ
  obtain ⟨rfl, rfl, hx, hb, hml, hown, hts, hK, hA, hlk⟩ := hC
  intro H locs ls hP hD hS hl
  exact lv_ishl hx hb hd (kk H locs ls hP hD hS hl)
theorem j_ishr (hC : jC Γ l0 rm D nL own cc Ts tys) {x y : Int32} (hd : decode cc pc = .ok (.ishr, 1))  (kk : J Γ D nL cs sl ws (pc + 1) lv (.int (x >>> (y &&& 31)) :: st)) : J Γ D nL cs sl ws pc lv (.int y :: .int x :: st) := by
  obtain ⟨p, l, e, R, s, m, args, below, meth, c, A, Q⟩ := Γ
  obtain ⟨rfl, rfl, hx, hb, hml, hown, hts, hK, hA, hlk⟩ := hC
  intro H locs ls hP hD hS hl
  exact lv_ishr hx hb hd (kk H locs ls hP hD hS hl)
theorem j_idiv (hC : jC Γ l0 rm D nL own cc Ts tys) {x y : Int32} (hd : decode cc pc = .ok (.idiv, 1)) (hne : ¬ y = 0) (kk : J Γ D nL cs sl ws (pc + 1) lv (.int (x / y) :: st)) : J Γ D nL cs sl ws pc lv (.int y :: .int x :: st) := by
  obtain ⟨p, l, e, R, s, m, args, below, meth, c, A, Q⟩ := Γ
  obtain ⟨rfl, rfl, hx, hb, hml, hown, hts, hK, hA, hlk⟩ := hC
  intro H locs ls hP hD hS hl
  exact lv_idiv hx hb hd hne (kk H locs ls hP hD hS hl)
theorem j_irem (hC : jC Γ l0 rm D nL own cc Ts tys) {x y : Int32} (hd : decode cc pc = .ok (.irem, 1)) (hne : ¬ y = 0) (kk : J Γ D nL cs sl ws (pc + 1) lv (.int (x - x / y * y) :: st)) : J Γ D nL cs sl ws pc lv (.int y :: .int x :: st) := by
  obtain ⟨p, l, e, R, s, m, args, below, meth, c, A, Q⟩ := Γ
  obtain ⟨rfl, rfl, hx, hb, hml, hown, hts, hK, hA, hlk⟩ := hC
  intro H locs ls hP hD hS hl
  exact lv_irem hx hb hd hne (kk H locs ls hP hD hS hl)
theorem j_ladd (hC : jC Γ l0 rm D nL own cc Ts tys) {x y : Int64} (hd : decode cc pc = .ok (.ladd, 1))  (kk : J Γ D nL cs sl ws (pc + 1) lv (.long (x + y) :: st)) : J Γ D nL cs sl ws pc lv (.long y :: .long x :: st) := by
  obtain ⟨p, l, e, R, s, m, args, below, meth, c, A, Q⟩ := Γ
  obtain ⟨rfl, rfl, hx, hb, hml, hown, hts, hK, hA, hlk⟩ := hC
  intro H locs ls hP hD hS hl
  exact lv_ladd hx hb hd (kk H locs ls hP hD hS hl)
theorem j_lsub (hC : jC Γ l0 rm D nL own cc Ts tys) {x y : Int64} (hd : decode cc pc = .ok (.lsub, 1))  (kk : J Γ D nL cs sl ws (pc + 1) lv (.long (x - y) :: st)) : J Γ D nL cs sl ws pc lv (.long y :: .long x :: st) := by
  obtain ⟨p, l, e, R, s, m, args, below, meth, c, A, Q⟩ := Γ
  obtain ⟨rfl, rfl, hx, hb, hml, hown, hts, hK, hA, hlk⟩ := hC
  intro H locs ls hP hD hS hl
  exact lv_lsub hx hb hd (kk H locs ls hP hD hS hl)
theorem j_lmul (hC : jC Γ l0 rm D nL own cc Ts tys) {x y : Int64} (hd : decode cc pc = .ok (.lmul, 1))  (kk : J Γ D nL cs sl ws (pc + 1) lv (.long (x * y) :: st)) : J Γ D nL cs sl ws pc lv (.long y :: .long x :: st) := by
  obtain ⟨p, l, e, R, s, m, args, below, meth, c, A, Q⟩ := Γ
  obtain ⟨rfl, rfl, hx, hb, hml, hown, hts, hK, hA, hlk⟩ := hC
  intro H locs ls hP hD hS hl
  exact lv_lmul hx hb hd (kk H locs ls hP hD hS hl)
theorem j_i2l (hC : jC Γ l0 rm D nL own cc Ts tys) {x : Int32} (hd : decode cc pc = .ok (.i2l, 1))  (kk : J Γ D nL cs sl ws (pc + 1) lv (.long x.toInt64 :: st)) : J Γ D nL cs sl ws pc lv (.int x :: st) := by
  obtain ⟨p, l, e, R, s, m, args, below, meth, c, A, Q⟩ := Γ
  obtain ⟨rfl, rfl, hx, hb, hml, hown, hts, hK, hA, hlk⟩ := hC
  intro H locs ls hP hD hS hl
  exact lv_i2l hx hb hd rfl (kk H locs ls hP hD hS hl)
theorem j_i2b (hC : jC Γ l0 rm D nL own cc Ts tys) {x : Int32} (hd : decode cc pc = .ok (.i2b, 1))  (kk : J Γ D nL cs sl ws (pc + 1) lv (.int x.toInt8.toInt32 :: st)) : J Γ D nL cs sl ws pc lv (.int x :: st) := by
  obtain ⟨p, l, e, R, s, m, args, below, meth, c, A, Q⟩ := Γ
  obtain ⟨rfl, rfl, hx, hb, hml, hown, hts, hK, hA, hlk⟩ := hC
  intro H locs ls hP hD hS hl
  exact lv_i2b hx hb hd rfl (kk H locs ls hP hD hS hl)
theorem j_i2s (hC : jC Γ l0 rm D nL own cc Ts tys) {x : Int32} (hd : decode cc pc = .ok (.i2s, 1))  (kk : J Γ D nL cs sl ws (pc + 1) lv (.int x.toInt16.toInt32 :: st)) : J Γ D nL cs sl ws pc lv (.int x :: st) := by
  obtain ⟨p, l, e, R, s, m, args, below, meth, c, A, Q⟩ := Γ
  obtain ⟨rfl, rfl, hx, hb, hml, hown, hts, hK, hA, hlk⟩ := hC
  intro H locs ls hP hD hS hl
  exact lv_i2s hx hb hd rfl (kk H locs ls hP hD hS hl)
theorem j_lcmp (hC : jC Γ l0 rm D nL own cc Ts tys) {x y : Int64} (hd : decode cc pc = .ok (.lcmp, 1)) (kk : J Γ D nL cs sl ws (pc + 1) lv (.int (lg_cmp x y) :: st)) : J Γ D nL cs sl ws pc lv (.long y :: .long x :: st) := by
  obtain ⟨p, l, e, R, s, m, args, below, meth, c, A, Q⟩ := Γ
  obtain ⟨rfl, rfl, hx, hb, hml, hown, hts, hK, hA, hlk⟩ := hC
  intro H locs ls hP hD hS hl
  exact W.lcmp hx hb hd (kk H locs ls hP hD hS hl)
theorem j_dup (hC : jC Γ l0 rm D nL own cc Ts tys) {va : Value} (hd : decode cc pc = .ok (.dup, 1)) (hv : va.category = 1) (kk : J Γ D nL cs sl ws (pc + 1) lv (va :: va :: st)) : J Γ D nL cs sl ws pc lv (va :: st) := by
  obtain ⟨p, l, e, R, s, m, args, below, meth, c, A, Q⟩ := Γ
  obtain ⟨rfl, rfl, hx, hb, hml, hown, hts, hK, hA, hlk⟩ := hC
  intro H locs ls hP hD hS hl
  exact lv_dup hx hb hd hv (kk H locs ls hP hD hS hl)
theorem j_dup2_11 (hC : jC Γ l0 rm D nL own cc Ts tys) {va vb : Value} (hd : decode cc pc = .ok (.dup2, 1)) (hv : va.category = 1) (hw : vb.category = 1) (kk : J Γ D nL cs sl ws (pc + 1) lv (va :: vb :: va :: vb :: st)) : J Γ D nL cs sl ws pc lv (va :: vb :: st) := by
  obtain ⟨p, l, e, R, s, m, args, below, meth, c, A, Q⟩ := Γ
  obtain ⟨rfl, rfl, hx, hb, hml, hown, hts, hK, hA, hlk⟩ := hC
  intro H locs ls hP hD hS hl
  exact lv_dup2_11 hx hb hd hv hw (kk H locs ls hP hD hS hl)
theorem j_dup_x1 (hC : jC Γ l0 rm D nL own cc Ts tys) {va vb : Value} (hd : decode cc pc = .ok (.dup_x1, 1)) (hv : va.category = 1) (hw : vb.category = 1) (kk : J Γ D nL cs sl ws (pc + 1) lv (va :: vb :: va :: st)) : J Γ D nL cs sl ws pc lv (va :: vb :: st) := by
  obtain ⟨p, l, e, R, s, m, args, below, meth, c, A, Q⟩ := Γ
  obtain ⟨rfl, rfl, hx, hb, hml, hown, hts, hK, hA, hlk⟩ := hC
  intro H locs ls hP hD hS hl
  exact lv_dup_x1 hx hb hd hv hw (kk H locs ls hP hD hS hl)
theorem j_ldc (hC : jC Γ l0 rm D nL own cc Ts tys) {index : Nat} {v : Int32} (hd : decode cc pc = .ok (.ldc index, 2)) (hw : Cond.constant own index v ∈ Ts) (kk : J Γ D nL cs sl ws (pc + 2) lv (.int v :: st)) : J Γ D nL cs sl ws pc lv (st) := by
  obtain ⟨p, l, e, R, s, m, args, below, meth, c, A, Q⟩ := Γ
  obtain ⟨rfl, rfl, hx, hb, hml, hown, hts, hK, hA, hlk⟩ := hC
  intro H locs ls hP hD hS hl
  exact lv_ldc hx hb hown (hts _ hw) hd (kk H locs ls hP hD hS hl)
theorem j_ldc2 (hC : jC Γ l0 rm D nL own cc Ts tys) {index : Nat} {v : Int64} (hd : decode cc pc = .ok (.ldc2_w index, 3)) (hw : Cond.constantLong own index v ∈ Ts) (kk : J Γ D nL cs sl ws (pc + 3) lv (.long v :: st)) : J Γ D nL cs sl ws pc lv (st) := by
  obtain ⟨p, l, e, R, s, m, args, below, meth, c, A, Q⟩ := Γ
  obtain ⟨rfl, rfl, hx, hb, hml, hown, hts, hK, hA, hlk⟩ := hC
  intro H locs ls hP hD hS hl
  exact lv_ldc2 hx hb hown (hts _ hw) hd (kk H locs ls hP hD hS hl)
theorem j_if_eq (hC : jC Γ l0 rm D nL own cc Ts tys) {x : Int32} {off : Int} {tgt : Nat} (hd : decode cc pc = .ok (.ifCond .eq off, 3)) (ht : (pc : Int) + off = (tgt : Int)) (kt : x = 0 → J Γ D nL cs sl ws (tgt) lv (st)) (kf : ¬ x = 0 → J Γ D nL cs sl ws (pc + 3) lv (st)) : J Γ D nL cs sl ws pc lv (.int x :: st) := by
  obtain ⟨p, l, e, R, s, m, args, below, meth, c, A, Q⟩ := Γ
  obtain ⟨rfl, rfl, hx, hb, hml, hown, hts, hK, hA, hlk⟩ := hC
  intro H locs ls hP hD hS hl
  exact lv_if_eq hx hb hd ht (fun h9 => kt h9 H locs ls hP hD hS hl) (fun h9 => kf h9 H locs ls hP hD hS hl)
theorem j_icmp_eq (hC : jC Γ l0 rm D nL own cc Ts tys) {x y : Int32} {off : Int} {tgt : Nat} (hd : decode cc pc = .ok (.if_icmp .eq off, 3)) (ht : (pc : Int) + off = (tgt : Int)) (kt : x = y → J Γ D nL cs sl ws (tgt) lv (st)) (kf : ¬ x = y → J Γ D nL cs sl ws (pc + 3) lv (st)) : J Γ D nL cs sl ws pc lv (.int y :: .int x :: st) := by
  obtain ⟨p, l, e, R, s, m, args, below, meth, c, A, Q⟩ := Γ
  obtain ⟨rfl, rfl, hx, hb, hml, hown, hts, hK, hA, hlk⟩ := hC
  intro H locs ls hP hD hS hl
  exact lv_icmp_eq hx hb hd ht (fun h9 => kt h9 H locs ls hP hD hS hl) (fun h9 => kf h9 H locs ls hP hD hS hl)
theorem j_if_ne (hC : jC Γ l0 rm D nL own cc Ts tys) {x : Int32} {off : Int} {tgt : Nat} (hd : decode cc pc = .ok (.ifCond .ne off, 3)) (ht : (pc : Int) + off = (tgt : Int)) (kt : ¬ x = 0 → J Γ D nL cs sl ws (tgt) lv (st)) (kf : x = 0 → J Γ D nL cs sl ws (pc + 3) lv (st)) : J Γ D nL cs sl ws pc lv (.int x :: st) := by
  obtain ⟨p, l, e, R, s, m, args, below, meth, c, A, Q⟩ := Γ
  obtain ⟨rfl, rfl, hx, hb, hml, hown, hts, hK, hA, hlk⟩ := hC
  intro H locs ls hP hD hS hl
  exact lv_if_ne hx hb hd ht (fun h9 => kt h9 H locs ls hP hD hS hl) (fun h9 => kf h9 H locs ls hP hD hS hl)
theorem j_icmp_ne (hC : jC Γ l0 rm D nL own cc Ts tys) {x y : Int32} {off : Int} {tgt : Nat} (hd : decode cc pc = .ok (.if_icmp .ne off, 3)) (ht : (pc : Int) + off = (tgt : Int)) (kt : ¬ x = y → J Γ D nL cs sl ws (tgt) lv (st)) (kf : x = y → J Γ D nL cs sl ws (pc + 3) lv (st)) : J Γ D nL cs sl ws pc lv (.int y :: .int x :: st) := by
  obtain ⟨p, l, e, R, s, m, args, below, meth, c, A, Q⟩ := Γ
  obtain ⟨rfl, rfl, hx, hb, hml, hown, hts, hK, hA, hlk⟩ := hC
  intro H locs ls hP hD hS hl
  exact lv_icmp_ne hx hb hd ht (fun h9 => kt h9 H locs ls hP hD hS hl) (fun h9 => kf h9 H locs ls hP hD hS hl)
theorem j_if_lt (hC : jC Γ l0 rm D nL own cc Ts tys) {x : Int32} {off : Int} {tgt : Nat} (hd : decode cc pc = .ok (.ifCond .lt off, 3)) (ht : (pc : Int) + off = (tgt : Int)) (kt : x < 0 → J Γ D nL cs sl ws (tgt) lv (st)) (kf : ¬ x < 0 → J Γ D nL cs sl ws (pc + 3) lv (st)) : J Γ D nL cs sl ws pc lv (.int x :: st) := by
  obtain ⟨p, l, e, R, s, m, args, below, meth, c, A, Q⟩ := Γ
  obtain ⟨rfl, rfl, hx, hb, hml, hown, hts, hK, hA, hlk⟩ := hC
  intro H locs ls hP hD hS hl
  exact lv_if_lt hx hb hd ht (fun h9 => kt h9 H locs ls hP hD hS hl) (fun h9 => kf h9 H locs ls hP hD hS hl)
theorem j_icmp_lt (hC : jC Γ l0 rm D nL own cc Ts tys) {x y : Int32} {off : Int} {tgt : Nat} (hd : decode cc pc = .ok (.if_icmp .lt off, 3)) (ht : (pc : Int) + off = (tgt : Int)) (kt : x < y → J Γ D nL cs sl ws (tgt) lv (st)) (kf : ¬ x < y → J Γ D nL cs sl ws (pc + 3) lv (st)) : J Γ D nL cs sl ws pc lv (.int y :: .int x :: st) := by
  obtain ⟨p, l, e, R, s, m, args, below, meth, c, A, Q⟩ := Γ
  obtain ⟨rfl, rfl, hx, hb, hml, hown, hts, hK, hA, hlk⟩ := hC
  intro H locs ls hP hD hS hl
  exact lv_icmp_lt hx hb hd ht (fun h9 => kt h9 H locs ls hP hD hS hl) (fun h9 => kf h9 H locs ls hP hD hS hl)
theorem j_if_ge (hC : jC Γ l0 rm D nL own cc Ts tys) {x : Int32} {off : Int} {tgt : Nat} (hd : decode cc pc = .ok (.ifCond .ge off, 3)) (ht : (pc : Int) + off = (tgt : Int)) (kt : 0 ≤ x → J Γ D nL cs sl ws (tgt) lv (st)) (kf : ¬ 0 ≤ x → J Γ D nL cs sl ws (pc + 3) lv (st)) : J Γ D nL cs sl ws pc lv (.int x :: st) := by
  obtain ⟨p, l, e, R, s, m, args, below, meth, c, A, Q⟩ := Γ
  obtain ⟨rfl, rfl, hx, hb, hml, hown, hts, hK, hA, hlk⟩ := hC
  intro H locs ls hP hD hS hl
  exact lv_if_ge hx hb hd ht (fun h9 => kt h9 H locs ls hP hD hS hl) (fun h9 => kf h9 H locs ls hP hD hS hl)
theorem j_icmp_ge (hC : jC Γ l0 rm D nL own cc Ts tys) {x y : Int32} {off : Int} {tgt : Nat} (hd : decode cc pc = .ok (.if_icmp .ge off, 3)) (ht : (pc : Int) + off = (tgt : Int)) (kt : y ≤ x → J Γ D nL cs sl ws (tgt) lv (st)) (kf : ¬ y ≤ x → J Γ D nL cs sl ws (pc + 3) lv (st)) : J Γ D nL cs sl ws pc lv (.int y :: .int x :: st) := by
  obtain ⟨p, l, e, R, s, m, args, below, meth, c, A, Q⟩ := Γ
  obtain ⟨rfl, rfl, hx, hb, hml, hown, hts, hK, hA, hlk⟩ := hC
  intro H locs ls hP hD hS hl
  exact lv_icmp_ge hx hb hd ht (fun h9 => kt h9 H locs ls hP hD hS hl) (fun h9 => kf h9 H locs ls hP hD hS hl)
theorem j_if_gt (hC : jC Γ l0 rm D nL own cc Ts tys) {x : Int32} {off : Int} {tgt : Nat} (hd : decode cc pc = .ok (.ifCond .gt off, 3)) (ht : (pc : Int) + off = (tgt : Int)) (kt : 0 < x → J Γ D nL cs sl ws (tgt) lv (st)) (kf : ¬ 0 < x → J Γ D nL cs sl ws (pc + 3) lv (st)) : J Γ D nL cs sl ws pc lv (.int x :: st) := by
  obtain ⟨p, l, e, R, s, m, args, below, meth, c, A, Q⟩ := Γ
  obtain ⟨rfl, rfl, hx, hb, hml, hown, hts, hK, hA, hlk⟩ := hC
  intro H locs ls hP hD hS hl
  exact lv_if_gt hx hb hd ht (fun h9 => kt h9 H locs ls hP hD hS hl) (fun h9 => kf h9 H locs ls hP hD hS hl)
theorem j_icmp_gt (hC : jC Γ l0 rm D nL own cc Ts tys) {x y : Int32} {off : Int} {tgt : Nat} (hd : decode cc pc = .ok (.if_icmp .gt off, 3)) (ht : (pc : Int) + off = (tgt : Int)) (kt : y < x → J Γ D nL cs sl ws (tgt) lv (st)) (kf : ¬ y < x → J Γ D nL cs sl ws (pc + 3) lv (st)) : J Γ D nL cs sl ws pc lv (.int y :: .int x :: st) := by
  obtain ⟨p, l, e, R, s, m, args, below, meth, c, A, Q⟩ := Γ
  obtain ⟨rfl, rfl, hx, hb, hml, hown, hts, hK, hA, hlk⟩ := hC
  intro H locs ls hP hD hS hl
  exact lv_icmp_gt hx hb hd ht (fun h9 => kt h9 H locs ls hP hD hS hl) (fun h9 => kf h9 H locs ls hP hD hS hl)
theorem j_if_le (hC : jC Γ l0 rm D nL own cc Ts tys) {x : Int32} {off : Int} {tgt : Nat} (hd : decode cc pc = .ok (.ifCond .le off, 3)) (ht : (pc : Int) + off = (tgt : Int)) (kt : x ≤ 0 → J Γ D nL cs sl ws (tgt) lv (st)) (kf : ¬ x ≤ 0 → J Γ D nL cs sl ws (pc + 3) lv (st)) : J Γ D nL cs sl ws pc lv (.int x :: st) := by
  obtain ⟨p, l, e, R, s, m, args, below, meth, c, A, Q⟩ := Γ
  obtain ⟨rfl, rfl, hx, hb, hml, hown, hts, hK, hA, hlk⟩ := hC
  intro H locs ls hP hD hS hl
  exact lv_if_le hx hb hd ht (fun h9 => kt h9 H locs ls hP hD hS hl) (fun h9 => kf h9 H locs ls hP hD hS hl)
theorem j_icmp_le (hC : jC Γ l0 rm D nL own cc Ts tys) {x y : Int32} {off : Int} {tgt : Nat} (hd : decode cc pc = .ok (.if_icmp .le off, 3)) (ht : (pc : Int) + off = (tgt : Int)) (kt : x ≤ y → J Γ D nL cs sl ws (tgt) lv (st)) (kf : ¬ x ≤ y → J Γ D nL cs sl ws (pc + 3) lv (st)) : J Γ D nL cs sl ws pc lv (.int y :: .int x :: st) := by
  obtain ⟨p, l, e, R, s, m, args, below, meth, c, A, Q⟩ := Γ
  obtain ⟨rfl, rfl, hx, hb, hml, hown, hts, hK, hA, hlk⟩ := hC
  intro H locs ls hP hD hS hl
  exact lv_icmp_le hx hb hd ht (fun h9 => kt h9 H locs ls hP hD hS hl) (fun h9 => kf h9 H locs ls hP hD hS hl)
theorem j_goto (hC : jC Γ l0 rm D nL own cc Ts tys) {off : Int} {tgt : Nat} (hd : decode cc pc = .ok (.goto off, 3)) (ht : (pc : Int) + off = (tgt : Int)) (kk : J Γ D nL cs sl ws (tgt) lv (st)) : J Γ D nL cs sl ws pc lv (st) := by
  obtain ⟨p, l, e, R, s, m, args, below, meth, c, A, Q⟩ := Γ
  obtain ⟨rfl, rfl, hx, hb, hml, hown, hts, hK, hA, hlk⟩ := hC
  intro H locs ls hP hD hS hl
  exact lv_goto hx hb hd ht (kk H locs ls hP hD hS hl)
theorem j_tableIn (hC : jC Γ l0 rm D nL own cc Ts tys) {dflt lo hi : Int} {offs : Array Int} {len : Nat} {x : Int32} {off : Int} {tgt : Nat} (hd : decode cc pc = .ok (.tableswitch dflt lo hi offs, len)) (h1 : ¬ x.toInt < lo) (h2 : ¬ hi < x.toInt) (ho : offs[(x.toInt - lo).toNat]? = some off) (ht : (pc : Int) + off = (tgt : Int)) (kk : J Γ D nL cs sl ws (tgt) lv (st)) : J Γ D nL cs sl ws pc lv (.int x :: st) := by
  obtain ⟨p, l, e, R, s, m, args, below, meth, c, A, Q⟩ := Γ
  obtain ⟨rfl, rfl, hx, hb, hml, hown, hts, hK, hA, hlk⟩ := hC
  intro H locs ls hP hD hS hl
  exact lv_tableIn hx hb hd h1 h2 ho ht (kk H locs ls hP hD hS hl)
theorem j_tableOut (hC : jC Γ l0 rm D nL own cc Ts tys) {dflt lo hi : Int} {offs : Array Int} {len : Nat} {x : Int32} {tgt : Nat} (hd : decode cc pc = .ok (.tableswitch dflt lo hi offs, len)) (h : x.toInt < lo ∨ hi < x.toInt) (ht : (pc : Int) + dflt = (tgt : Int)) (kk : J Γ D nL cs sl ws (tgt) lv (st)) : J Γ D nL cs sl ws pc lv (.int x :: st) := by
  obtain ⟨p, l, e, R, s, m, args, below, meth, c, A, Q⟩ := Γ
  obtain ⟨rfl, rfl, hx, hb, hml, hown, hts, hK, hA, hlk⟩ := hC
  intro H locs ls hP hD hS hl
  exact lv_tableOut hx hb hd h ht (kk H locs ls hP hD hS hl)
theorem j_ifnull (hC : jC Γ l0 rm D nL own cc Ts tys) {a : Nat} {off : Int} (hd : decode cc pc = .ok (.ifnull off, 3)) (kk : J Γ D nL cs sl ws (pc + 3) lv (st)) : J Γ D nL cs sl ws pc lv (.ref a :: st) := by
  obtain ⟨p, l, e, R, s, m, args, below, meth, c, A, Q⟩ := Γ
  obtain ⟨rfl, rfl, hx, hb, hml, hown, hts, hK, hA, hlk⟩ := hC
  intro H locs ls hP hD hS hl
  exact lv_ifnull hx hb hd (kk H locs ls hP hD hS hl)
theorem j_ifnonnull (hC : jC Γ l0 rm D nL own cc Ts tys) {a tgt : Nat} {off : Int} (hd : decode cc pc = .ok (.ifnonnull off, 3)) (ht : (pc : Int) + off = (tgt : Int)) (kk : J Γ D nL cs sl ws (tgt) lv (st)) : J Γ D nL cs sl ws pc lv (.ref a :: st) := by
  obtain ⟨p, l, e, R, s, m, args, below, meth, c, A, Q⟩ := Γ
  obtain ⟨rfl, rfl, hx, hb, hml, hown, hts, hK, hA, hlk⟩ := hC
  intro H locs ls hP hD hS hl
  exact lv_ifnonnull hx hb hd ht (kk H locs ls hP hD hS hl)
theorem j_ifnullN (hC : jC Γ l0 rm D nL own cc Ts tys) {tgt : Nat} {off : Int} (hd : decode cc pc = .ok (.ifnull off, 3)) (ht : (pc : Int) + off = (tgt : Int)) (kk : J Γ D nL cs sl ws (tgt) lv (st)) : J Γ D nL cs sl ws pc lv (.null :: st) := by
  obtain ⟨p, l, e, R, s, m, args, below, meth, c, A, Q⟩ := Γ
  obtain ⟨rfl, rfl, hx, hb, hml, hown, hts, hK, hA, hlk⟩ := hC
  intro H locs ls hP hD hS hl
  exact lv_ifnullN hx hb hd ht (kk H locs ls hP hD hS hl)
theorem j_ifnonnullN (hC : jC Γ l0 rm D nL own cc Ts tys) {off : Int} (hd : decode cc pc = .ok (.ifnonnull off, 3)) (kk : J Γ D nL cs sl ws (pc + 3) lv (st)) : J Γ D nL cs sl ws pc lv (.null :: st) := by
  obtain ⟨p, l, e, R, s, m, args, below, meth, c, A, Q⟩ := Γ
  obtain ⟨rfl, rfl, hx, hb, hml, hown, hts, hK, hA, hlk⟩ := hC
  intro H locs ls hP hD hS hl
  exact lv_ifnonnullN hx hb hd (kk H locs ls hP hD hS hl)
theorem j_null (hC : jC Γ l0 rm D nL own cc Ts tys) (hd : decode cc pc = .ok (.aconst_null, 1)) (kk : J Γ D nL cs sl ws (pc + 1) lv (.null :: st)) : J Γ D nL cs sl ws pc lv (st) := by
  obtain ⟨p, l, e, R, s, m, args, below, meth, c, A, Q⟩ := Γ
  obtain ⟨rfl, rfl, hx, hb, hml, hown, hts, hK, hA, hlk⟩ := hC
  intro H locs ls hP hD hS hl
  exact lv_null hx hb hd (kk H locs ls hP hD hS hl)
theorem j_get (hC : jC Γ l0 rm D nL own cc Ts tys) {ref C : String} {T : u_T} {N ci index : Nat} {a : Nat} {fs : List Value} {v : Value} (hin : ∀ w ∈ u_ws C T N, w ∈ Ts) (q0 : Nat) (he : ws[q0]? = some (a, .inr (ci, fs))) (hc : vwCl[ci]? = some (C, T, N)) (k : Nat) (hk : k < N) (hw : Cond.fieldLink own index ref (T k).2.1 (T k).2.2.1 ∈ Ts) (hr : (T k).1 = ref) (hv : fs[k]? = some v) (hd : decode cc pc = .ok (.getfield index, 3)) (kk : J Γ D nL cs sl ws (pc + 3) lv (v :: st)) : J Γ D nL cs sl ws pc lv (.ref a :: st) := by
  obtain ⟨p, l, e, R, s, m, args, below, meth, c, A, Q⟩ := Γ
  obtain ⟨rfl, rfl, hx, hb, hml, hown, hts, hK, hA, hlk⟩ := hC
  intro H locs ls hP hD hS hl
  exact va_get hx hb hts hin hown hK.1 hP q0 he hc k hk (hts _ hw) (fun _ h9 => by rw [← hr]; exact h9) hv hd (kk H locs ls hP hD hS hl)
theorem j_put (hC : jC Γ l0 rm D nL own cc Ts tys) {ref C : String} {T : u_T} {N ci index : Nat} {a : Nat} {fs : List Value} {v : Value} {ty : FieldType} {ws' : va_W} (hin : ∀ w ∈ u_ws C T N, w ∈ Ts) (ty0 : Nat → FieldType) (hty : ∀ k, k < N → parseFieldDescriptor (T k).2.2.1 = some (ty0 k)) (hnm : ∀ a, a < N → ∀ b, b < N → a ≠ b → (T a).2.1 ≠ (T b).2.1) (q0 : Nat) (he : ws[q0]? = some (a, .inr (ci, fs))) (hc : vwCl[ci]? = some (C, T, N)) (k : Nat) (hk : k < N) (hw : Cond.fieldLink own index ref (T k).2.1 (T k).2.2.1 ∈ Ts) (hr : (T k).1 = ref) (hfin : (T k).2.2.2 = false) (hd0 : parseFieldDescriptor (T k).2.2.1 = some ty) (hn : narrow ty v = v) (hfit : fits ty v = true) (hl9 : k < fs.length) (hws : ws.set q0 (a, .inr (ci, fs.set k v)) = ws') (hd : decode cc pc = .ok (.putfield index, 3)) (kk : J Γ D nL cs sl ws' (pc + 3) lv (st)) : J Γ D nL cs sl ws pc lv (v :: .ref a :: st) := by
  obtain ⟨p, l, e, R, s, m, args, below, meth, c, A, Q⟩ := Γ
  obtain ⟨rfl, rfl, hx, hb, hml, hown, hts, hK, hA, hlk⟩ := hC
  intro H locs ls hP hD hS hl
  exact va_put hx hb hts hin ty0 hty hnm hown hK.1 hP hD hS q0 he hc k hk (hts _ hw) (fun _ h9 => by rw [← hr]; exact h9) hfin hd0 hn hfit hl9 hd (fun H locs hP hD hS => kk H locs ls (hws ▸ hP) (hws ▸ hD) hS hl)
theorem j_putF (hC : jC Γ l0 rm D nL own cc Ts tys) {ref C : String} {T : u_T} {N ci index : Nat} {a : Nat} {fs : List Value} {v : Value} {ty : FieldType} {ws' : va_W} (hin : ∀ w ∈ u_ws C T N, w ∈ Ts) (ty0 : Nat → FieldType) (hty : ∀ k, k < N → parseFieldDescriptor (T k).2.2.1 = some (ty0 k)) (hnm : ∀ a, a < N → ∀ b, b < N → a ≠ b → (T a).2.1 ≠ (T b).2.1) (q0 : Nat) (he : ws[q0]? = some (a, .inr (ci, fs))) (hc : vwCl[ci]? = some (C, T, N)) (k : Nat) (hk : k < N) (hw : Cond.fieldLink own index ref (T k).2.1 (T k).2.2.1 ∈ Ts) (hr : (T k).1 = ref) (hfin : (T k).2.2.2 = true) (hmn : match Γ with | (_, _, _, _, _, _, _, _, meth, _, _, _) => meth.name = "<init>") (hdecl : (T k).1 = own) (hd0 : parseFieldDescriptor (T k).2.2.1 = some ty) (hn : narrow ty v = v) (hfit : fits ty v = true) (hl9 : k < fs.length) (hws : ws.set q0 (a, .inr (ci, fs.set k v)) = ws') (hd : decode cc pc = .ok (.putfield index, 3)) (kk : J Γ D nL cs sl ws' (pc + 3) lv (st)) : J Γ D nL cs sl ws pc lv (v :: .ref a :: st) := by
  obtain ⟨p, l, e, R, s, m, args, below, meth, c, A, Q⟩ := Γ
  obtain ⟨rfl, rfl, hx, hb, hml, hown, hts, hK, hA, hlk⟩ := hC
  intro H locs ls hP hD hS hl
  exact va_putF hx hb hts hin ty0 hty hnm hown hK.1 hP hD hS q0 he hc k hk (hts _ hw) (fun _ h9 => by rw [← hr]; exact h9) hfin hmn hdecl hd0 hn hfit hl9 hd (fun H locs hP hD hS => kk H locs ls (hws ▸ hP) (hws ▸ hD) hS hl)
theorem j_iald (hC : jC Γ l0 rm D nL own cc Ts tys) {a n : Nat} {cA : ClassId} {f : Nat → Int32} {i : Int32} {v : Int32} (q0 t0 : Nat) (ha : ws[q0]? = some (a, .inl (cA, n, .inl f))) (ht : tys[t0]? = some (cA, .int)) (hin : vp_in i n) (hv : f i.toNatClampNeg = v) (hd : decode cc pc = .ok (.iaload, 1)) (kk : J Γ D nL cs sl ws (pc + 1) lv (.int v :: st)) : J Γ D nL cs sl ws pc lv (.int i :: .ref a :: st) := by
  obtain ⟨p, l, e, R, s, m, args, below, meth, c, A, Q⟩ := Γ
  obtain ⟨rfl, rfl, hx, hb, hml, hown, hts, hK, hA, hlk⟩ := hC
  intro H locs ls hP hD hS hl
  subst hv; exact va_iald hx hb hK.1 hP q0 t0 ha ht hin hd (kk H locs ls hP hD hS hl)
theorem j_zald (hC : jC Γ l0 rm D nL own cc Ts tys) {a n : Nat} {cA : ClassId} {f : Nat → Int32} {i : Int32} {v : Int32} (q0 t0 : Nat) (ha : ws[q0]? = some (a, .inl (cA, n, .inl f))) (ht : tys[t0]? = some (cA, .boolean)) (hin : vp_in i n) (hv : f i.toNatClampNeg = v) (hd : decode cc pc = .ok (.baload, 1)) (kk : J Γ D nL cs sl ws (pc + 1) lv (.int v :: st)) : J Γ D nL cs sl ws pc lv (.int i :: .ref a :: st) := by
  obtain ⟨p, l, e, R, s, m, args, below, meth, c, A, Q⟩ := Γ
  obtain ⟨rfl, rfl, hx, hb, hml, hown, hts, hK, hA, hlk⟩ := hC
  intro H locs ls hP hD hS hl
  subst hv; exact va_zald hx hb hK.1 hP q0 t0 ha ht hin hd (kk H locs ls hP hD hS hl)
theorem j_lald (hC : jC Γ l0 rm D nL own cc Ts tys) {a n : Nat} {cA : ClassId} {f : Nat → Int64} {i : Int32} {v : Int64} (q0 t0 : Nat) (ha : ws[q0]? = some (a, .inl (cA, n, .inr (.inl f)))) (ht : tys[t0]? = some (cA, .long)) (hin : vp_in i n) (hv : f i.toNatClampNeg = v) (hd : decode cc pc = .ok (.laload, 1)) (kk : J Γ D nL cs sl ws (pc + 1) lv (.long v :: st)) : J Γ D nL cs sl ws pc lv (.int i :: .ref a :: st) := by
  obtain ⟨p, l, e, R, s, m, args, below, meth, c, A, Q⟩ := Γ
  obtain ⟨rfl, rfl, hx, hb, hml, hown, hts, hK, hA, hlk⟩ := hC
  intro H locs ls hP hD hS hl
  subst hv; exact va_lald hx hb hK.1 hP q0 t0 ha ht hin hd (kk H locs ls hP hD hS hl)
theorem j_iast (hC : jC Γ l0 rm D nL own cc Ts tys) {a n : Nat} {cA : ClassId} {f : Nat → Int32} {i : Int32} {x : Int32} {ws' : va_W} (q0 t0 : Nat) (ha : ws[q0]? = some (a, .inl (cA, n, .inl f))) (ht : tys[t0]? = some (cA, .int)) (hin : vp_in i n) (hws : ws.set q0 (a, .inl (cA, n, .inl (upd f i.toNatClampNeg x))) = ws') (hd : decode cc pc = .ok (.iastore, 1)) (kk : J Γ D nL cs sl ws' (pc + 1) lv (st)) : J Γ D nL cs sl ws pc lv (.int x :: .int i :: .ref a :: st) := by
  obtain ⟨p, l, e, R, s, m, args, below, meth, c, A, Q⟩ := Γ
  obtain ⟨rfl, rfl, hx, hb, hml, hown, hts, hK, hA, hlk⟩ := hC
  intro H locs ls hP hD hS hl
  exact va_iast hx hb hK.1 hP hD hS q0 t0 ha ht hin hd (fun H locs hP hD hS => kk H locs ls (hws ▸ hP) (hws ▸ hD) hS hl)
theorem j_zast (hC : jC Γ l0 rm D nL own cc Ts tys) {a n : Nat} {cA : ClassId} {f : Nat → Int32} {i : Int32} {x : Int32} {ws' : va_W} (q0 t0 : Nat) (ha : ws[q0]? = some (a, .inl (cA, n, .inl f))) (ht : tys[t0]? = some (cA, .boolean)) (hin : vp_in i n) (hws : ws.set q0 (a, .inl (cA, n, .inl (upd f i.toNatClampNeg (vp_nar .boolean x)))) = ws') (hd : decode cc pc = .ok (.bastore, 1)) (kk : J Γ D nL cs sl ws' (pc + 1) lv (st)) : J Γ D nL cs sl ws pc lv (.int x :: .int i :: .ref a :: st) := by
  obtain ⟨p, l, e, R, s, m, args, below, meth, c, A, Q⟩ := Γ
  obtain ⟨rfl, rfl, hx, hb, hml, hown, hts, hK, hA, hlk⟩ := hC
  intro H locs ls hP hD hS hl
  exact va_zast hx hb hK.1 hP hD hS q0 t0 ha ht hin hd (fun H locs hP hD hS => kk H locs ls (hws ▸ hP) (hws ▸ hD) hS hl)
theorem j_last (hC : jC Γ l0 rm D nL own cc Ts tys) {a n : Nat} {cA : ClassId} {f : Nat → Int64} {i : Int32} {x : Int64} {ws' : va_W} (q0 t0 : Nat) (ha : ws[q0]? = some (a, .inl (cA, n, .inr (.inl f)))) (ht : tys[t0]? = some (cA, .long)) (hin : vp_in i n) (hws : ws.set q0 (a, .inl (cA, n, .inr (.inl (vp_updL f i.toNatClampNeg x)))) = ws') (hd : decode cc pc = .ok (.lastore, 1)) (kk : J Γ D nL cs sl ws' (pc + 1) lv (st)) : J Γ D nL cs sl ws pc lv (.long x :: .int i :: .ref a :: st) := by
  obtain ⟨p, l, e, R, s, m, args, below, meth, c, A, Q⟩ := Γ
  obtain ⟨rfl, rfl, hx, hb, hml, hown, hts, hK, hA, hlk⟩ := hC
  intro H locs ls hP hD hS hl
  exact va_last hx hb hK.1 hP hD hS q0 t0 ha ht hin hd (fun H locs hP hD hS => kk H locs ls (hws ▸ hP) (hws ▸ hD) hS hl)
theorem j_alen (hC : jC Γ l0 rm D nL own cc Ts tys) {a : Nat} {cA : ClassId} {x : vp_A} {ty : FieldType} {v : Int32} (q0 t0 : Nat) (ha : ws[q0]? = some (a, .inl (cA, x))) (ht : tys[t0]? = some (cA, ty)) (hv : Int32.ofNat x.1 = v) (hd : decode cc pc = .ok (.arraylength, 1)) (kk : J Γ D nL cs sl ws (pc + 1) lv (.int v :: st)) : J Γ D nL cs sl ws pc lv (.ref a :: st) := by
  obtain ⟨p, l, e, R, s, m, args, below, meth, c, A, Q⟩ := Γ
  obtain ⟨rfl, rfl, hx, hb, hml, hown, hts, hK, hA, hlk⟩ := hC
  intro H locs ls hP hD hS hl
  exact va_alen hx hb hK.1 hP q0 t0 ha ht hv hd (kk H locs ls hP hD hS hl)
theorem j_mmax (hC : jC Γ l0 rm D nL own cc Ts tys) {index : Nat} {x y : Int32} (hw1 : Cond.methodLink own index Lib.Math.max.name ∈ Ts) (hw2 : Cond.static Lib.Math.max.name ∈ Ts) (hw3 : Cond.initialized "java/lang/Math" ∈ Ts) (hw4 : Cond.code Lib.Math.max.name Lib.Math.max.code 2 (some .int) ∈ Ts) (hfr : 1 ≤ rm.frames) (hlo : (st.map fun v => v.category).sum + 13 ≤ rm.locals) (hcs : cs ≤ rm.cells) (hsl : sl ≤ rm.slots) (hd : decode cc pc = .ok (.invokestatic index, 3)) (kk : J Γ D nL cs sl ws (pc + 3) lv (.int (if x < y then y else x) :: st)) : J Γ D nL cs sl ws pc lv (.int y :: .int x :: st) := by
  obtain ⟨p, l, e, R, s, m, args, below, meth, c, A, Q⟩ := Γ
  obtain ⟨rfl, rfl, hx, hb, hml, hown, hts, hK, hA, hlk⟩ := hC
  intro H locs ls hP hD hS hl
  exact va_mmax hx hb (hml.trans hl.1.symm) hown (hts _ hw1) (hts _ hw2) (hts _ hw3) (hts _ hw4) hfr hlo hcs hsl hd (kk H locs ls hP hD hS hl)
theorem j_mmin (hC : jC Γ l0 rm D nL own cc Ts tys) {index : Nat} {x y : Int32} (hw1 : Cond.methodLink own index Lib.Math.min.name ∈ Ts) (hw2 : Cond.static Lib.Math.min.name ∈ Ts) (hw3 : Cond.initialized "java/lang/Math" ∈ Ts) (hw4 : Cond.code Lib.Math.min.name Lib.Math.min.code 2 (some .int) ∈ Ts) (hfr : 1 ≤ rm.frames) (hlo : (st.map fun v => v.category).sum + 13 ≤ rm.locals) (hcs : cs ≤ rm.cells) (hsl : sl ≤ rm.slots) (hd : decode cc pc = .ok (.invokestatic index, 3)) (kk : J Γ D nL cs sl ws (pc + 3) lv (.int (if y < x then y else x) :: st)) : J Γ D nL cs sl ws pc lv (.int y :: .int x :: st) := by
  obtain ⟨p, l, e, R, s, m, args, below, meth, c, A, Q⟩ := Γ
  obtain ⟨rfl, rfl, hx, hb, hml, hown, hts, hK, hA, hlk⟩ := hC
  intro H locs ls hP hD hS hl
  exact va_mmin hx hb (hml.trans hl.1.symm) hown (hts _ hw1) (hts _ hw2) (hts _ hw3) (hts _ hw4) hfr hlo hcs hsl hd (kk H locs ls hP hD hS hl)
theorem j_aald (hC : jC Γ l0 rm D nL own cc Ts tys) {a n : Nat} {cA : ClassId} {ty : FieldType} {f : Nat → Option Nat} {i : Int32} {v : Value} (q0 t0 : Nat) (ha : ws[q0]? = some (a, .inl (cA, n, .inr (.inr (.inr (.inr f)))))) (ht : tys[t0]? = some (cA, ty)) (hty : ty.isReference = true) (hin : vp_in i n) (hv : va_rf (f i.toNatClampNeg) = v) (hd : decode cc pc = .ok (.aaload, 1)) (kk : J Γ D nL cs sl ws (pc + 1) lv (v :: st)) : J Γ D nL cs sl ws pc lv (.int i :: .ref a :: st) := by
  obtain ⟨p, l, e, R, s, m, args, below, meth, c, A, Q⟩ := Γ
  obtain ⟨rfl, rfl, hx, hb, hml, hown, hts, hK, hA, hlk⟩ := hC
  intro H locs ls hP hD hS hl
  have hlt : i.toNatClampNeg < n := Nat.not_le.mp fun q => hin (Or.inr q)
  exact W.aald (v := v) (ty := ty) hx hb (hP q0 _ ha) ((hK.1.2 t0 _ ht).1 n (fun j => va_rf (f j))) hty (fun q => by cases q) (by show ¬ (i < 0 ∨ (arrV _ _ _).slots.size ≤ _); rw [arrV_size]; exact hin) (by show (arrV _ _ _).slots[_]? = _; rw [arrV_read _ _ hlt, hv]) rfl rfl hd (kk H locs ls hP hD hS hl)
theorem j_astqO (hC : jC Γ l0 rm D nL own cc Ts tys) {a n v : Nat} {cA : ClassId} {E : String} {r : vw_C} {vs : List Value} {f : Nat → Option Nat} {i : Int32} {ws' : va_W} (q0 t0 qk ci : Nat) (ha : ws[q0]? = some (a, .inl (cA, n, .inr (.inr (.inr (.inr f)))))) (ht : tys[t0]? = some (cA, .object E)) (hca : (r.1, E) ∈ jCa) (hv : ws[qk]? = some (v, .inr (ci, vs))) (hc : vwCl[ci]? = some r) (hin : vp_in i n) (hws : ws.set q0 (a, .inl (cA, n, .inr (.inr (.inr (.inr (va_up f i.toNatClampNeg (some v))))))) = ws') (hd : decode cc pc = .ok (.aastore, 1)) (kk : J Γ D nL cs sl ws' (pc + 1) lv (st)) : J Γ D nL cs sl ws pc lv (.ref v :: .int i :: .ref a :: st) := by
  obtain ⟨p, l, e, R, s, m, args, below, meth, c, A, Q⟩ := Γ
  obtain ⟨rfl, rfl, hx, hb, hml, hown, hts, hK, hA, hlk⟩ := hC
  intro H locs ls hP hD hS hl
  exact va_astqO hx hb hK.1 hP hD hS q0 t0 qk ci ha ht (hK.2.2.1 _ hca) hv hc hin hd (fun H locs hP hD hS => kk H locs ls (hws ▸ hP) (hws ▸ hD) hS hl)
theorem j_astqS (hC : jC Γ l0 rm D nL own cc Ts tys) {a n v : Nat} {cA : ClassId} {r : vw_C} {vs : List Value} {f : Nat → Option Nat} {i : Int32} {ws' : va_W} (q0 t0 qk ci : Nat) (ha : ws[q0]? = some (a, .inl (cA, n, .inr (.inr (.inr (.inr f)))))) (ht : tys[t0]? = some (cA, .object r.1)) (hv : ws[qk]? = some (v, .inr (ci, vs))) (hc : vwCl[ci]? = some r) (hin : vp_in i n) (hws : ws.set q0 (a, .inl (cA, n, .inr (.inr (.inr (.inr (va_up f i.toNatClampNeg (some v))))))) = ws') (hd : decode cc pc = .ok (.aastore, 1)) (kk : J Γ D nL cs sl ws' (pc + 1) lv (st)) : J Γ D nL cs sl ws pc lv (.ref v :: .int i :: .ref a :: st) := by
  obtain ⟨p, l, e, R, s, m, args, below, meth, c, A, Q⟩ := Γ
  obtain ⟨rfl, rfl, hx, hb, hml, hown, hts, hK, hA, hlk⟩ := hC
  intro H locs ls hP hD hS hl
  exact va_astq hx hb hK.1 hP hD hS q0 t0 qk ci ha ht hv hc hin hd (fun H locs hP hD hS => kk H locs ls (hws ▸ hP) (hws ▸ hD) hS hl)
theorem j_instY (hC : jC Γ l0 rm D nL own cc Ts tys) {a index : Nat} {r : vw_C} {nm : String} {vs : List Value} (qk ci : Nat) (hw : Cond.classLink own index nm ∈ Ts) (hca : (r.1, nm) ∈ jCa) (hv : ws[qk]? = some (a, .inr (ci, vs))) (hc : vwCl[ci]? = some r) (hd : decode cc pc = .ok (.instanceof index, 3)) (kk : J Γ D nL cs sl ws (pc + 3) lv (.int 1 :: st)) : J Γ D nL cs sl ws pc lv (.ref a :: st) := by
  obtain ⟨p, l, e, R, s, m, args, below, meth, c, A, Q⟩ := Γ
  obtain ⟨rfl, rfl, hx, hb, hml, hown, hts, hK, hA, hlk⟩ := hC
  intro H locs ls hP hD hS hl
  exact va_instY hx hb hown (hts _ hw) (hK.2.2.1 _ hca) (va_recv hK.1 hP hc hv) hd (kk H locs ls hP hD hS hl)
theorem j_instNo (hC : jC Γ l0 rm D nL own cc Ts tys) {a index : Nat} {r : vw_C} {nm : String} {vs : List Value} (qk ci : Nat) (hw : Cond.classLink own index nm ∈ Ts) (hca : (r.1, nm) ∈ jNc) (hv : ws[qk]? = some (a, .inr (ci, vs))) (hc : vwCl[ci]? = some r) (hd : decode cc pc = .ok (.instanceof index, 3)) (kk : J Γ D nL cs sl ws (pc + 3) lv (.int 0 :: st)) : J Γ D nL cs sl ws pc lv (.ref a :: st) := by
  obtain ⟨p, l, e, R, s, m, args, below, meth, c, A, Q⟩ := Γ
  obtain ⟨rfl, rfl, hx, hb, hml, hown, hts, hK, hA, hlk⟩ := hC
  intro H locs ls hP hD hS hl
  exact va_instNo hx hb hown (hts _ hw) (hK.2.2.2.1 _ hca) (va_recv hK.1 hP hc hv) hd (kk H locs ls hP hD hS hl)
theorem j_instS (hC : jC Γ l0 rm D nL own cc Ts tys) {a index : Nat} {r : vw_C} {vs : List Value} (qk ci : Nat) (hw : Cond.classLink own index r.1 ∈ Ts) (hv : ws[qk]? = some (a, .inr (ci, vs))) (hc : vwCl[ci]? = some r) (hd : decode cc pc = .ok (.instanceof index, 3)) (kk : J Γ D nL cs sl ws (pc + 3) lv (.int 1 :: st)) : J Γ D nL cs sl ws pc lv (.ref a :: st) := by
  obtain ⟨p, l, e, R, s, m, args, below, meth, c, A, Q⟩ := Γ
  obtain ⟨rfl, rfl, hx, hb, hml, hown, hts, hK, hA, hlk⟩ := hC
  intro H locs ls hP hD hS hl
  exact va_instS hx hb hown (hts _ hw) (hK.1.1 ci _ hc).2 (va_recv hK.1 hP hc hv) hd (kk H locs ls hP hD hS hl)
theorem j_copyi (hC : jC Γ l0 rm D nL own cc Ts tys) {index a a0 n0 n1 : Nat} {c0 c1 : ClassId} {f g : Nat → Int32} {ty : FieldType} {sp dp n : Int32} {ws' : va_W} (q0 q1 t0 t1 : Nat) (hw1 : Cond.methodLink own index arraycopyName ∈ Ts) (hw2 : Cond.native arraycopyName ∈ Ts) (hw3 : Cond.static arraycopyName ∈ Ts) (hw4 : Cond.initialized "java/lang/System" ∈ Ts) (ha0 : ws[q0]? = some (a0, .inl (c0, n0, .inl f))) (ha1 : ws[q1]? = some (a, .inl (c1, n1, .inl g))) (ht0 : tys[t0]? = some (c0, ty)) (ht1 : tys[t1]? = some (c1, ty)) (hprim : refKind ty = false) (h1 : ¬ sp < 0) (h2 : ¬ dp < 0) (h3 : ¬ n < 0) (h4 : sp.toNatClampNeg + n.toNatClampNeg ≤ n0) (h5 : dp.toNatClampNeg + n.toNatClampNeg ≤ n1) (hfit : ∀ x : Int32, fits ty (.int x) = true) (hfr : 1 ≤ rm.frames) (hlo : (st.map fun v => v.category).sum + (nativeFrameWords "java/lang/System" "arraycopy" 5 + 11) ≤ rm.locals) (hws : ws.set q1 (a, .inl (c1, n1, .inl (va_cpy f g sp.toNatClampNeg dp.toNatClampNeg n.toNatClampNeg))) = ws') (hd : decode cc pc = .ok (.invokestatic index, 3)) (kk : J Γ D nL cs sl ws' (pc + 3) lv (st)) : J Γ D nL cs sl ws pc lv (.int n :: .int dp :: .ref a :: .int sp :: .ref a0 :: st) := by
  obtain ⟨p, l, e, R, s, m, args, below, meth, c, A, Q⟩ := Γ
  obtain ⟨rfl, rfl, hx, hb, hml, hown, hts, hK, hA, hlk⟩ := hC
  intro H locs ls hP hD hS hl
  exact va_copyi hx hb (hml.trans hl.1.symm) hown (hts _ hw1) (hts _ hw2) (hts _ hw3) (hts _ hw4) hK.1 hP hD hS q0 q1 t0 t1 ha0 ha1 ht0 ht1 hprim h1 h2 h3 h4 h5 (fun i _ => hfit _) hfr hlo hd (fun H locs hP hD hS => kk H locs ls (hws ▸ hP) (hws ▸ hD) hS hl)
theorem j_copyl (hC : jC Γ l0 rm D nL own cc Ts tys) {index a a0 n0 n1 : Nat} {c0 c1 : ClassId} {f g : Nat → Int64} {ty : FieldType} {sp dp n : Int32} {ws' : va_W} (q0 q1 t0 t1 : Nat) (hw1 : Cond.methodLink own index arraycopyName ∈ Ts) (hw2 : Cond.native arraycopyName ∈ Ts) (hw3 : Cond.static arraycopyName ∈ Ts) (hw4 : Cond.initialized "java/lang/System" ∈ Ts) (ha0 : ws[q0]? = some (a0, .inl (c0, n0, .inr (.inl f)))) (ha1 : ws[q1]? = some (a, .inl (c1, n1, .inr (.inl g)))) (ht0 : tys[t0]? = some (c0, ty)) (ht1 : tys[t1]? = some (c1, ty)) (hprim : refKind ty = false) (h1 : ¬ sp < 0) (h2 : ¬ dp < 0) (h3 : ¬ n < 0) (h4 : sp.toNatClampNeg + n.toNatClampNeg ≤ n0) (h5 : dp.toNatClampNeg + n.toNatClampNeg ≤ n1) (hfit : ∀ x : Int64, fits ty (.long x) = true) (hfr : 1 ≤ rm.frames) (hlo : (st.map fun v => v.category).sum + (nativeFrameWords "java/lang/System" "arraycopy" 5 + 11) ≤ rm.locals) (hws : ws.set q1 (a, .inl (c1, n1, .inr (.inl (va_cpy f g sp.toNatClampNeg dp.toNatClampNeg n.toNatClampNeg)))) = ws') (hd : decode cc pc = .ok (.invokestatic index, 3)) (kk : J Γ D nL cs sl ws' (pc + 3) lv (st)) : J Γ D nL cs sl ws pc lv (.int n :: .int dp :: .ref a :: .int sp :: .ref a0 :: st) := by
  obtain ⟨p, l, e, R, s, m, args, below, meth, c, A, Q⟩ := Γ
  obtain ⟨rfl, rfl, hx, hb, hml, hown, hts, hK, hA, hlk⟩ := hC
  intro H locs ls hP hD hS hl
  exact va_copyl hx hb (hml.trans hl.1.symm) hown (hts _ hw1) (hts _ hw2) (hts _ hw3) (hts _ hw4) hK.1 hP hD hS q0 q1 t0 t1 ha0 ha1 ht0 ht1 hprim h1 h2 h3 h4 h5 (fun i _ => hfit _) hfr hlo hd (fun H locs hP hD hS => kk H locs ls (hws ▸ hP) (hws ▸ hD) hS hl)
theorem j_lcmp_eq (hC : jC Γ l0 rm D nL own cc Ts tys) {x y : Int64} {off : Int} {tgt : Nat} (hd : decode cc pc = .ok (.lcmp, 1)) (hd2 : decode cc (pc + 1) = .ok (.ifCond .eq off, 3)) (ht : ((pc + 1 : Nat) : Int) + off = (tgt : Int)) (kt : x = y → J Γ D nL cs sl ws (tgt) lv (st)) (kf : ¬ x = y → J Γ D nL cs sl ws (pc + 1 + 3) lv (st)) : J Γ D nL cs sl ws pc lv (.long y :: .long x :: st) :=
  j_lcmp hC hd (j_if_eq hC hd2 ht (fun h => kt (jl_eq.mp h)) (fun h => kf (fun q => h (jl_eq.mpr q))))
theorem j_lcmp_ne (hC : jC Γ l0 rm D nL own cc Ts tys) {x y : Int64} {off : Int} {tgt : Nat} (hd : decode cc pc = .ok (.lcmp, 1)) (hd2 : decode cc (pc + 1) = .ok (.ifCond .ne off, 3)) (ht : ((pc + 1 : Nat) : Int) + off = (tgt : Int)) (kt : ¬ x = y → J Γ D nL cs sl ws (tgt) lv (st)) (kf : x = y → J Γ D nL cs sl ws (pc + 1 + 3) lv (st)) : J Γ D nL cs sl ws pc lv (.long y :: .long x :: st) :=
  j_lcmp hC hd (j_if_ne hC hd2 ht (fun h => kt (jl_ne.mp h)) (fun h => kf (jl_eq.mp h)))
theorem j_lcmp_lt (hC : jC Γ l0 rm D nL own cc Ts tys) {x y : Int64} {off : Int} {tgt : Nat} (hd : decode cc pc = .ok (.lcmp, 1)) (hd2 : decode cc (pc + 1) = .ok (.ifCond .lt off, 3)) (ht : ((pc + 1 : Nat) : Int) + off = (tgt : Int)) (kt : x < y → J Γ D nL cs sl ws (tgt) lv (st)) (kf : ¬ x < y → J Γ D nL cs sl ws (pc + 1 + 3) lv (st)) : J Γ D nL cs sl ws pc lv (.long y :: .long x :: st) :=
  j_lcmp hC hd (j_if_lt hC hd2 ht (fun h => kt (jl_lt.mp h)) (fun h => kf (fun q => h (jl_lt.mpr q))))
theorem j_lcmp_ge (hC : jC Γ l0 rm D nL own cc Ts tys) {x y : Int64} {off : Int} {tgt : Nat} (hd : decode cc pc = .ok (.lcmp, 1)) (hd2 : decode cc (pc + 1) = .ok (.ifCond .ge off, 3)) (ht : ((pc + 1 : Nat) : Int) + off = (tgt : Int)) (kt : y ≤ x → J Γ D nL cs sl ws (tgt) lv (st)) (kf : ¬ y ≤ x → J Γ D nL cs sl ws (pc + 1 + 3) lv (st)) : J Γ D nL cs sl ws pc lv (.long y :: .long x :: st) :=
  j_lcmp hC hd (j_if_ge hC hd2 ht (fun h => kt (jl_ge.mp h)) (fun h => kf (fun q => h (jl_ge.mpr q))))
theorem j_lcmp_gt (hC : jC Γ l0 rm D nL own cc Ts tys) {x y : Int64} {off : Int} {tgt : Nat} (hd : decode cc pc = .ok (.lcmp, 1)) (hd2 : decode cc (pc + 1) = .ok (.ifCond .gt off, 3)) (ht : ((pc + 1 : Nat) : Int) + off = (tgt : Int)) (kt : y < x → J Γ D nL cs sl ws (tgt) lv (st)) (kf : ¬ y < x → J Γ D nL cs sl ws (pc + 1 + 3) lv (st)) : J Γ D nL cs sl ws pc lv (.long y :: .long x :: st) :=
  j_lcmp hC hd (j_if_gt hC hd2 ht (fun h => kt (jl_gt.mp h)) (fun h => kf (fun q => h (jl_gt.mpr q))))
theorem j_lcmp_le (hC : jC Γ l0 rm D nL own cc Ts tys) {x y : Int64} {off : Int} {tgt : Nat} (hd : decode cc pc = .ok (.lcmp, 1)) (hd2 : decode cc (pc + 1) = .ok (.ifCond .le off, 3)) (ht : ((pc + 1 : Nat) : Int) + off = (tgt : Int)) (kt : x ≤ y → J Γ D nL cs sl ws (tgt) lv (st)) (kf : ¬ x ≤ y → J Γ D nL cs sl ws (pc + 1 + 3) lv (st)) : J Γ D nL cs sl ws pc lv (.long y :: .long x :: st) :=
  j_lcmp hC hd (j_if_le hC hd2 ht (fun h => kt (jl_le.mp h)) (fun h => kf (fun q => h (jl_le.mpr q))))
theorem j_new (hC : jC Γ l0 rm D nL own cc Ts tys) {C : String} {T : u_T} {N ci index : Nat} {fs : List Value} (hin : ∀ w ∈ u_ws C T N, w ∈ Ts) (ty : Nat → FieldType) (hty : ∀ k, k < N → parseFieldDescriptor (T k).2.2.1 = some (ty k)) (hw1 : Cond.classLink own index C ∈ Ts) (hw2 : Cond.instantiable C N ∈ Ts) (hw3 : Cond.initialized C ∈ Ts) (hc : vwCl[ci]? = some (C, T, N)) (hfs : ∀ j, j < N → defaultValue (ty j) = vp_V fs j) (hcells : cs + 1 ≤ rm.cells) (hslots : sl + N ≤ rm.slots) (hd : decode cc pc = .ok (.new index, 3)) (kk : ∀ q : Nat, J Γ D nL (cs + 1) (sl + N) (ws ++ [(q, .inr (ci, fs))]) (pc + 3) lv (.ref q :: st)) : J Γ D nL cs sl ws pc lv (st) := by
  obtain ⟨p, l, e, R, s, m, args, below, meth, c, A, Q⟩ := Γ
  obtain ⟨rfl, rfl, hx, hb, hml, hown, hts, hK, hA, hlk⟩ := hC
  intro H locs ls hP hD hS hl
  exact va_new hx hb hts hin ty hty hown (hts _ hw1) (hts _ hw2) (hts _ hw3) hK.1 hP hD hS hA hc hfs hcells hslots hd (fun q H hP hD hS => kk q H locs ls hP hD hS hl)
theorem j_newa_int (hC : jC Γ l0 rm D nL own cc Ts tys) {cA : ClassId} {n : Int32} {N' : Nat} (t0 : Nat) (ht : tys[t0]? = some (cA, .int)) (hw : Cond.arrayClass .int ∈ Ts) (hn : ¬ n < 0) (hN : n.toNatClampNeg = N') (hbytes : N' * componentBytes .int ≤ 536870912) (hcells : cs + 1 ≤ rm.cells) (hslots : sl + N' ≤ rm.slots) (hd : decode cc pc = .ok (.newarray .int, 2)) (kk : ∀ q : Nat, J Γ D nL (cs + 1) (sl + N') (ws ++ [(q, .inl (cA, N', .inl (fun _ => 0)))]) (pc + 2) lv (.ref q :: st)) : J Γ D nL cs sl ws pc lv (.int n :: st) := by
  obtain ⟨p, l, e, R, s, m, args, below, meth, c, A, Q⟩ := Γ
  obtain ⟨rfl, rfl, hx, hb, hml, hown, hts, hK, hA, hlk⟩ := hC
  intro H locs ls hP hD hS hl
  refine va_newa (atype := .int) (ty := .int) (a0 := (N', .inl (fun _ => 0))) hx hb (hts _ hw) rfl hK.1 hP hD hS hA (fun _ => rfl) hn hN hbytes hcells hslots hd (fun q cA2 H hK2 hP hD hS => ?_)
  have h1 : s.vm.findClass ("[" ++ (FieldType.toString .int)) = some cA2 := (hK2.2 tys.length (cA2, .int) (by simp)).2
  have h2 : s.vm.findClass ("[" ++ (FieldType.toString .int)) = some cA := (hK.1.2 t0 _ ht).2
  have e9 : cA2 = cA := Option.some.inj (h1.symm.trans h2)
  subst e9
  exact kk q H locs ls hP hD hS hl
theorem j_newa_long (hC : jC Γ l0 rm D nL own cc Ts tys) {cA : ClassId} {n : Int32} {N' : Nat} (t0 : Nat) (ht : tys[t0]? = some (cA, .long)) (hw : Cond.arrayClass .long ∈ Ts) (hn : ¬ n < 0) (hN : n.toNatClampNeg = N') (hbytes : N' * componentBytes .long ≤ 536870912) (hcells : cs + 1 ≤ rm.cells) (hslots : sl + N' ≤ rm.slots) (hd : decode cc pc = .ok (.newarray .long, 2)) (kk : ∀ q : Nat, J Γ D nL (cs + 1) (sl + N') (ws ++ [(q, .inl (cA, N', .inr (.inl (fun _ => 0))))]) (pc + 2) lv (.ref q :: st)) : J Γ D nL cs sl ws pc lv (.int n :: st) := by
  obtain ⟨p, l, e, R, s, m, args, below, meth, c, A, Q⟩ := Γ
  obtain ⟨rfl, rfl, hx, hb, hml, hown, hts, hK, hA, hlk⟩ := hC
  intro H locs ls hP hD hS hl
  refine va_newa (atype := .long) (ty := .long) (a0 := (N', .inr (.inl (fun _ => 0)))) hx hb (hts _ hw) rfl hK.1 hP hD hS hA (fun _ => rfl) hn hN hbytes hcells hslots hd (fun q cA2 H hK2 hP hD hS => ?_)
  have h1 : s.vm.findClass ("[" ++ (FieldType.toString .long)) = some cA2 := (hK2.2 tys.length (cA2, .long) (by simp)).2
  have h2 : s.vm.findClass ("[" ++ (FieldType.toString .long)) = some cA := (hK.1.2 t0 _ ht).2
  have e9 : cA2 = cA := Option.some.inj (h1.symm.trans h2)
  subst e9
  exact kk q H locs ls hP hD hS hl
theorem j_newa_boolean (hC : jC Γ l0 rm D nL own cc Ts tys) {cA : ClassId} {n : Int32} {N' : Nat} (t0 : Nat) (ht : tys[t0]? = some (cA, .boolean)) (hw : Cond.arrayClass .boolean ∈ Ts) (hn : ¬ n < 0) (hN : n.toNatClampNeg = N') (hbytes : N' * componentBytes .boolean ≤ 536870912) (hcells : cs + 1 ≤ rm.cells) (hslots : sl + N' ≤ rm.slots) (hd : decode cc pc = .ok (.newarray .boolean, 2)) (kk : ∀ q : Nat, J Γ D nL (cs + 1) (sl + N') (ws ++ [(q, .inl (cA, N', .inl (fun _ => 0)))]) (pc + 2) lv (.ref q :: st)) : J Γ D nL cs sl ws pc lv (.int n :: st) := by
  obtain ⟨p, l, e, R, s, m, args, below, meth, c, A, Q⟩ := Γ
  obtain ⟨rfl, rfl, hx, hb, hml, hown, hts, hK, hA, hlk⟩ := hC
  intro H locs ls hP hD hS hl
  refine va_newa (atype := .boolean) (ty := .boolean) (a0 := (N', .inl (fun _ => 0))) hx hb (hts _ hw) rfl hK.1 hP hD hS hA (fun _ => rfl) hn hN hbytes hcells hslots hd (fun q cA2 H hK2 hP hD hS => ?_)
  have h1 : s.vm.findClass ("[" ++ (FieldType.toString .boolean)) = some cA2 := (hK2.2 tys.length (cA2, .boolean) (by simp)).2
  have h2 : s.vm.findClass ("[" ++ (FieldType.toString .boolean)) = some cA := (hK.1.2 t0 _ ht).2
  have e9 : cA2 = cA := Option.some.inj (h1.symm.trans h2)
  subst e9
  exact kk q H locs ls hP hD hS hl
theorem j_newq (hC : jC Γ l0 rm D nL own cc Ts tys) {C : String} {cA : ClassId} {n : Int32} {N' index : Nat} (t0 : Nat) (ht : tys[t0]? = some (cA, .object C)) (hw : Cond.classLink own index C ∈ Ts) (ho : FieldType.object C ∈ jAo) (hn : ¬ n < 0) (hN : n.toNatClampNeg = N') (hbytes : N' * 4 ≤ 536870912) (hcells : cs + 1 ≤ rm.cells) (hslots : sl + N' ≤ rm.slots) (hd : decode cc pc = .ok (.anewarray index, 3)) (kk : ∀ q : Nat, J Γ D nL (cs + 1) (sl + N') (ws ++ [(q, .inl (cA, N', .inr (.inr (.inr (.inr (fun _ => none))))))]) (pc + 3) lv (.ref q :: st)) : J Γ D nL cs sl ws pc lv (.int n :: st) := by
  obtain ⟨p, l, e, R, s, m, args, below, meth, c, A, Q⟩ := Γ
  obtain ⟨rfl, rfl, hx, hb, hml, hown, hts, hK, hA, hlk⟩ := hC
  intro H locs ls hP hD hS hl
  refine va_newq hx hb hown (hts _ hw) (va_AO.of (A := #[]) (hK.2.2.2.2 _ ho)) hK.1 hP hD hS hA hn hN hbytes hcells hslots hd (fun q cA2 H hK2 hP hD hS => ?_)
  obtain ⟨_, _, _, _, _, h1⟩ := (hK2.2 tys.length (cA2, .object C) (by simp)).2
  obtain ⟨_, _, _, _, _, h2⟩ := (hK.1.2 t0 _ ht).2
  have e9 : cA2 = cA := Option.some.inj (h1.symm.trans h2)
  subst e9
  exact kk q H locs ls hP hD hS hl
theorem j_mna_int (hC : jC Γ l0 rm D nL own cc Ts tys) {cA cB : ClassId} {n k : Int32} {N' K' index : Nat} (t0 t1 : Nat) (ht : tys[t0]? = some (cB, .int)) (ht1 : tys[t1]? = some (cA, .array .int)) (hw : Cond.classLink own index ("[" ++ (FieldType.array .int).toString) ∈ Ts) (hw2 : Cond.arrayClass .int ∈ Ts) (ho : FieldType.array .int ∈ jAo) (hn : ¬ n < 0) (hk : ¬ k < 0) (hN : n.toNatClampNeg = N') (hM : k.toNatClampNeg = K') (hb1 : N' * 4 ≤ 536870912) (hb2 : K' * componentBytes .int ≤ 536870912) (hb3 : K' ≤ 536870912) (hcells : cs + (1 + N') ≤ rm.cells) (hslots : sl + (N' + N' * K') ≤ rm.slots) (hd : decode cc pc = .ok (.multianewarray index 2, 4)) (kk : ∀ (q : Nat) (r : Nat → Nat), J Γ D nL (cs + 1 + N') (sl + N' + N' * K') ((ws ++ [(q, .inl (cA, N', .inr (.inr (.inr (.inr (fun i => if i < N' then some (r i) else none))))))]) ++ (List.range N').map (fun j => (r j, .inl (cB, K', .inl (fun _ => 0))))) (pc + 4) lv (.ref q :: st)) : J Γ D nL cs sl ws pc lv (.int k :: .int n :: st) := by
  obtain ⟨p, l, e, R, s, m, args, below, meth, c, A, Q⟩ := Γ
  obtain ⟨rfl, rfl, hx, hb, hml, hown, hts, hK, hA, hlk⟩ := hC
  intro H locs ls hP hD hS hl
  have hP0 : va_P D vwCl (ws ++ va_pl [] (fun _ => .inl (cB, 0, .inl (fun _ => 0)))) H := by rw [show va_pl [] (fun _ => (.inl (cB, 0, .inl (fun _ => 0)) : va_E)) = [] from rfl, List.append_nil]; exact hP
  have hD0 : va_D A (ws ++ va_pl [] (fun _ => .inl (cB, 0, .inl (fun _ => 0)))) := by rw [show va_pl [] (fun _ => (.inl (cB, 0, .inl (fun _ => 0)) : va_E)) = [] from rfl, List.append_nil]; exact hD
  refine va_mna (ty := .int) (cy := cB) (z := (K', .inl (fun _ => 0))) hx hb hown (hts _ hw) (hK.2.2.2.2 _ ho) (hts _ hw2) (hK.1.2 t0 _ ht).2 hK.1 hP0 hD0 hS hA hn hk hN hM hb1 hb2 hb3 rfl rfl hcells hslots (fun c9 => jm_inner_int c9 K') hd (fun q r cA2 H hinj hfr hK2 hP hD hS => ?_)
  have h1 : s.vm.findClass ("[" ++ (FieldType.array .int).toString) = some cA2 := (hK2.2 tys.length (cA2, .array .int) (by simp)).2
  have h2 : s.vm.findClass ("[" ++ (FieldType.array .int).toString) = some cA := (hK.1.2 t1 _ ht1).2
  have e9 : cA2 = cA := Option.some.inj (h1.symm.trans h2)
  subst e9
  rw [jm_pool] at hP hD
  exact kk q r H locs ls hP hD hS hl
theorem j_mna_long (hC : jC Γ l0 rm D nL own cc Ts tys) {cA cB : ClassId} {n k : Int32} {N' K' index : Nat} (t0 t1 : Nat) (ht : tys[t0]? = some (cB, .long)) (ht1 : tys[t1]? = some (cA, .array .long)) (hw : Cond.classLink own index ("[" ++ (FieldType.array .long).toString) ∈ Ts) (hw2 : Cond.arrayClass .long ∈ Ts) (ho : FieldType.array .long ∈ jAo) (hn : ¬ n < 0) (hk : ¬ k < 0) (hN : n.toNatClampNeg = N') (hM : k.toNatClampNeg = K') (hb1 : N' * 4 ≤ 536870912) (hb2 : K' * componentBytes .long ≤ 536870912) (hb3 : K' ≤ 536870912) (hcells : cs + (1 + N') ≤ rm.cells) (hslots : sl + (N' + N' * K') ≤ rm.slots) (hd : decode cc pc = .ok (.multianewarray index 2, 4)) (kk : ∀ (q : Nat) (r : Nat → Nat), J Γ D nL (cs + 1 + N') (sl + N' + N' * K') ((ws ++ [(q, .inl (cA, N', .inr (.inr (.inr (.inr (fun i => if i < N' then some (r i) else none))))))]) ++ (List.range N').map (fun j => (r j, .inl (cB, K', .inr (.inl (fun _ => 0)))))) (pc + 4) lv (.ref q :: st)) : J Γ D nL cs sl ws pc lv (.int k :: .int n :: st) := by
  obtain ⟨p, l, e, R, s, m, args, below, meth, c, A, Q⟩ := Γ
  obtain ⟨rfl, rfl, hx, hb, hml, hown, hts, hK, hA, hlk⟩ := hC
  intro H locs ls hP hD hS hl
  have hP0 : va_P D vwCl (ws ++ va_pl [] (fun _ => .inl (cB, 0, .inr (.inl (fun _ => 0))))) H := by rw [show va_pl [] (fun _ => (.inl (cB, 0, .inr (.inl (fun _ => 0))) : va_E)) = [] from rfl, List.append_nil]; exact hP
  have hD0 : va_D A (ws ++ va_pl [] (fun _ => .inl (cB, 0, .inr (.inl (fun _ => 0))))) := by rw [show va_pl [] (fun _ => (.inl (cB, 0, .inr (.inl (fun _ => 0))) : va_E)) = [] from rfl, List.append_nil]; exact hD
  refine va_mna (ty := .long) (cy := cB) (z := (K', .inr (.inl (fun _ => 0)))) hx hb hown (hts _ hw) (hK.2.2.2.2 _ ho) (hts _ hw2) (hK.1.2 t0 _ ht).2 hK.1 hP0 hD0 hS hA hn hk hN hM hb1 hb2 hb3 rfl rfl hcells hslots (fun c9 => jm_inner_long c9 K') hd (fun q r cA2 H hinj hfr hK2 hP hD hS => ?_)
  have h1 : s.vm.findClass ("[" ++ (FieldType.array .long).toString) = some cA2 := (hK2.2 tys.length (cA2, .array .long) (by simp)).2
  have h2 : s.vm.findClass ("[" ++ (FieldType.array .long).toString) = some cA := (hK.1.2 t1 _ ht1).2
  have e9 : cA2 = cA := Option.some.inj (h1.symm.trans h2)
  subst e9
  rw [jm_pool] at hP hD
  exact kk q r H locs ls hP hD hS hl
theorem j_objInit (hC : jC Γ l0 rm D nL own cc Ts tys) {a index : Nat} (hw1 : Cond.methodLink own index objectInit ∈ Ts) (hw2 : Cond.instanceMethod objectInit ∈ Ts) (hw3 : Cond.code objectInit ⟨#[0xb1]⟩ 1 none ∈ Ts) (hfr : 1 ≤ rm.frames) (hlo : (st.map fun v => v.category).sum + 12 ≤ rm.locals) (hd : decode cc pc = .ok (.invokespecial index, 3)) (kk : J Γ D nL cs sl ws (pc + 3) lv (st)) : J Γ D nL cs sl ws pc lv (.ref a :: st) := by
  obtain ⟨p, l, e, R, s, m, args, below, meth, c, A, Q⟩ := Γ
  obtain ⟨rfl, rfl, hx, hb, hml, hown, hts, hK, hA, hlk⟩ := hC
  intro H locs ls hP hD hS hl
  exact W.objInit hx hb hown (hts _ hw1) (hts _ hw2) (hts _ hw3) rfl (by rw [hml]; exact hl.1) rfl hd hfr (by show 2 * 0 + _ + 12 ≤ _; omega) (W.eq (g2 := F0 m (pc + 3) ls st) rfl (kk H locs ls hP hD hS hl))
theorem j_iret {S : Type} {wf : S → va_W} {post : Int32 → S → Prop} {v : Int32} {u : S} (hC : jC Γ l0 rm D nL own cc Ts tys) (hQ : jQi Γ D wf post (some .int) cs sl) (hd : decode cc pc = .ok (.ireturn, 1)) (hw : ws = wf u) (hp : post v u) : J Γ D nL cs sl ws pc lv [.int v] := by
  obtain ⟨p, l, e, R, s, m, args, below, meth, c, A, Q⟩ := Γ
  obtain ⟨rfl, rfl, hx, hb, hml, hown, hts, hK, hA, hlk⟩ := hC
  obtain ⟨rfl, hr⟩ := hQ
  subst hw
  intro H locs ls hP hD hS hl
  exact W.iret hx hb hr (fun t ht _ => ⟨⟨v, u, rfl, hp, by rw [ht]; exact hP, hD⟩, hS.F ht⟩) hS.2.2 hd
theorem j_zret {S : Type} {wf : S → va_W} {post : Int32 → S → Prop} {v : Int32} {u : S} (hC : jC Γ l0 rm D nL own cc Ts tys) (hQ : jQi Γ D wf post (some .boolean) cs sl) (hd : decode cc pc = .ok (.ireturn, 1)) (hw : ws = wf u) (hn : narrow .boolean (.int v) = .int v) (hp : post v u) : J Γ D nL cs sl ws pc lv [.int v] := by
  obtain ⟨p, l, e, R, s, m, args, below, meth, c, A, Q⟩ := Γ
  obtain ⟨rfl, rfl, hx, hb, hml, hown, hts, hK, hA, hlk⟩ := hC
  obtain ⟨rfl, hr⟩ := hQ
  subst hw
  intro H locs ls hP hD hS hl
  exact W.zret hx hb hr hn (fun t ht _ => ⟨⟨v, u, rfl, hp, by rw [ht]; exact hP, hD⟩, hS.F ht⟩) hS.2.2 hd
theorem j_lret {S : Type} {wf : S → va_W} {post : Int64 → S → Prop} {v : Int64} {u : S} (hC : jC Γ l0 rm D nL own cc Ts tys) (hQ : jQl Γ D wf post (some .long) cs sl) (hd : decode cc pc = .ok (.lreturn, 1)) (hw : ws = wf u) (hp : post v u) : J Γ D nL cs sl ws pc lv [.long v] := by
  obtain ⟨p, l, e, R, s, m, args, below, meth, c, A, Q⟩ := Γ
  obtain ⟨rfl, rfl, hx, hb, hml, hown, hts, hK, hA, hlk⟩ := hC
  obtain ⟨rfl, hr⟩ := hQ
  subst hw
  intro H locs ls hP hD hS hl
  exact W.lret hx hb hr (fun t ht _ => ⟨⟨v, u, rfl, hp, by rw [ht]; exact hP, hD⟩, hS.F ht⟩) hS.2.2 hd
theorem j_vret {S : Type} {wf : S → va_W} {post : S → Prop} {u : S} (hC : jC Γ l0 rm D nL own cc Ts tys) (hQ : jQv Γ D wf post none cs sl) (hd : decode cc pc = .ok (.return_, 1)) (hw : ws = wf u) (hp : post u) : J Γ D nL cs sl ws pc lv [] := by
  obtain ⟨p, l, e, R, s, m, args, below, meth, c, A, Q⟩ := Γ
  obtain ⟨rfl, rfl, hx, hb, hml, hown, hts, hK, hA, hlk⟩ := hC
  obtain ⟨rfl, hr⟩ := hQ
  subst hw
  intro H locs ls hP hD hS hl
  exact W.vret hx hb hr (fun t ht _ => ⟨⟨u, rfl, hp, by rw [ht]; exact hP, hD⟩, hS.F ht⟩) hS.2.2 hd
theorem j_qret {S : Type} {wf : S → va_W} {post : Option Nat → S → Prop} {v : Option Nat} {u : S} {C : String} (hC : jC Γ l0 rm D nL own cc Ts tys) (hQ : jQq Γ D wf post (some (.object C)) cs sl) (hd : decode cc pc = .ok (.areturn, 1)) (hw : ws = wf u) (hp : post v u) : J Γ D nL cs sl ws pc lv [va_rf v] := by
  obtain ⟨p, l, e, R, s, m, args, below, meth, c, A, Q⟩ := Γ
  obtain ⟨rfl, rfl, hx, hb, hml, hown, hts, hK, hA, hlk⟩ := hC
  obtain ⟨rfl, hr⟩ := hQ
  subst hw
  intro H locs ls hP hD hS hl
  exact W.aret hx hb hr (Or.inl ⟨C, rfl⟩) (by cases v with | none => exact Or.inl rfl | some a => exact Or.inr ⟨a, rfl⟩) (fun t ht _ => ⟨⟨v, u, rfl, hp, by rw [ht]; exact hP, hD⟩, hS.F ht⟩) hS.2.2 hd
theorem j_widen {k n : Nat} (h1 : cs ≤ k) (h2 : sl ≤ n) (kk : J Γ D nL k n ws pc lv st) : J Γ D nL cs sl ws pc lv st := by
  obtain ⟨p, l, e, R, s, m, args, below, meth, c, A, Q⟩ := Γ
  intro H locs ls hP hD hS hl
  exact W.widen h1 h2 (kk H locs ls hP hD hS hl)
theorem j_lv {lv' : List (Nat × Value)} (ks : List Nat) (hf : lv_pick lv ks = lv') (kk : J Γ D nL cs sl ws pc lv' st) : J Γ D nL cs sl ws pc lv st := by
  obtain ⟨p, l, e, R, s, m, args, below, meth, c, A, Q⟩ := Γ
  intro H locs ls hP hD hS hl
  exact kk H locs ls hP hD hS (lv_sub hl ks hf)

theorem jA_free {A0 : Nat → Prop} {ws : va_W} {H0 H : Heap} {locs : List Loc} (hD : va_D A0 ws) (hS : va_S A0 H0 H locs) (hA : ∀ q, H0.size ≤ q → A0 q) : ∀ q, va_A ws H.size q → A0 q := by
  intro q h
  rcases h with ⟨k, e, hk⟩ | h
  · exact hD.2 k _ hk
  · exact hA q (Nat.le_trans hS.1 h)
theorem jPre_blind {D : va_G} {tys : List (ClassId × FieldType)} {av : List Value} {w0 : va_W} {sz : Nat} : FrameBlind (jPre D tys av w0 sz) := fun a U g mk q => by
  obtain ⟨q0, q1, qP, qK, qD⟩ := q
  exact ⟨q0, q1, qP, qK.blind, qD⟩
theorem jPre_in {D : va_G} {tys : List (ClassId × FieldType)} {av : List Value} {w0 : va_W} {A : Nat → Prop} {s : State} {H : Heap} (hK : jK D tys s) (hP : va_P D vwCl w0 H) (hD : va_D A w0) : ∀ U : State, U.heap = H → s.WarmedH U.vm → jPre D tys av w0 H.size av.toArray U := fun U hU hW => ⟨rfl, by rw [hU], by rw [hU]; exact hP, hK.warm hW, hD.weaken (fun _ _ _ _ => trivial)⟩

theorem j_callV_i (hC : jC Γ l0 rm D nL own cc Ts tys) {S : Type} {wf : S → va_W} {post : Int32 → S → Prop} {y : MethodName} {wy wy' : List Cond} {ry : Room} {mc ms maxL index : Nat} {bytes : ByteArray} {rt : Option FieldType} {As rest : List Value} {b q0 ci : Nat} {fs : List Value} (hM : jMi l0 y wy ry D tys (.ref b :: As) ws wf post mc ms) {C : String} {T : u_T} {N : Nat} (n : Nat) (hG : GoodIn Ts (wsV own index C y wy)) (hwy : wy = Cond.code y bytes maxL rt :: wy') (hrc : ry.cells = mc) (hrs : ry.slots = ms) (hR : ry.frames + 1 ≤ rm.frames ∧ 8 + (maxL + 11) + ry.locals ≤ rm.locals) (hd0 : y.cls = C ∧ y.cls ≠ "java/lang/invoke/MethodHandle" ∧ y.cls ≠ "java/lang/invoke/VarHandle" ∧ (parseMethodDescriptor y.desc).map (fun d => d.parameters.length) = some n) (hn : As.length = n) (he : ws[q0]? = some (b, .inr (ci, fs))) (hc : vwCl[ci]? = some (C, T, N)) (hst : st = As.reverse ++ .ref b :: rest) (hlo : (rest.map fun v => v.category).sum ≤ 8) (hcc : cs + mc ≤ rm.cells ∧ sl + ms ≤ rm.slots) (hd : decode cc pc = .ok (.invokevirtual index, 3)) (kk : ∀ (r : Int32) (u : S), post r u → J Γ D nL (cs + mc) (sl + ms) (wf u) (pc + 3) lv (.int r :: rest)) : J Γ D nL cs sl ws pc lv st := by
  obtain ⟨p, l, e, R, s, m, args, below, meth, c, A, Q⟩ := Γ
  obtain ⟨rfl, rfl, hx, hb, hml, hown, hts, hK, hA, hlk⟩ := hC
  intro H locs ls hP hD hS hl
  subst hst
  have hF := jA_free hD hS hA
  exact va_calli (va_runV ⟨hx, hb, hml, hown, hts⟩ (hM H.size) (cwV n hts hG hwy hrc hrs hd0 hR) ⟨jPre_blind, va_recv hK.1 hP hc he, jPre_in hK hP hD⟩ rfl hn hl.1 rfl (lv_room hlo) hd hcc) hS (fun q _ h => hF q h) hF (fun r u t H1 locs ht hvm hw hB hz1 hk1 hS => kk r u hw H1 locs ls (ht ▸ hB.1) (hB.2.weaken (fun _ q _ h => hF _ h)) hS hl)
theorem j_callS_i (hC : jC Γ l0 rm D nL own cc Ts tys) {S : Type} {wf : S → va_W} {post : Int32 → S → Prop} {y : MethodName} {wy wy' : List Cond} {ry : Room} {mc ms maxL index : Nat} {bytes : ByteArray} {rt : Option FieldType} {As rest : List Value} (hM : jMi l0 y wy ry D tys As ws wf post mc ms) (n : Nat) (hG : GoodIn Ts (va_wsS own index y wy)) (hwy : wy = Cond.code y bytes maxL rt :: wy') (hrc : ry.cells = mc) (hrs : ry.slots = ms) (hR : ry.frames + 1 ≤ rm.frames ∧ 8 + (maxL + 11) + ry.locals ≤ rm.locals) (hd0 : y.cls ≠ "java/lang/invoke/MethodHandle" ∧ y.cls ≠ "java/lang/invoke/VarHandle" ∧ (parseMethodDescriptor y.desc).map (fun d => d.parameters.length) = some n) (hn : As.length = n) (hst : st = As.reverse ++ rest) (hlo : (rest.map fun v => v.category).sum ≤ 8) (hcc : cs + mc ≤ rm.cells ∧ sl + ms ≤ rm.slots) (hd : decode cc pc = .ok (.invokestatic index, 3)) (kk : ∀ (r : Int32) (u : S), post r u → J Γ D nL (cs + mc) (sl + ms) (wf u) (pc + 3) lv (.int r :: rest)) : J Γ D nL cs sl ws pc lv st := by
  obtain ⟨p, l, e, R, s, m, args, below, meth, c, A, Q⟩ := Γ
  obtain ⟨rfl, rfl, hx, hb, hml, hown, hts, hK, hA, hlk⟩ := hC
  intro H locs ls hP hD hS hl
  subst hst
  have hF := jA_free hD hS hA
  exact va_calli (va_runS ⟨hx, hb, hml, hown, hts⟩ (hM H.size) (va_cwS n hts hG hwy hrc hrs hd0 hR) ⟨jPre_blind, jPre_in hK hP hD⟩ rfl hn hl.1 rfl (lv_room hlo) hd hcc) hS (fun q _ h => hF q h) hF (fun r u t H1 locs ht hvm hw hB hz1 hk1 hS => kk r u hw H1 locs ls (ht ▸ hB.1) (hB.2.weaken (fun _ q _ h => hF _ h)) hS hl)
theorem j_callSN_i (hC : jC Γ l0 rm D nL own cc Ts tys) {S : Type} {wf : S → va_W} {post : Int32 → S → Prop} {y : MethodName} {wy wy' : List Cond} {ry : Room} {mc ms maxL index : Nat} {bytes : ByteArray} {rt : Option FieldType} {As rest : List Value} (hM : jMi l0 y wy ry D tys As ws wf post mc ms) {host : String} (n : Nat) (hG : GoodIn Ts wy) (hwy : wy = Cond.code y bytes maxL rt :: wy') (hrc : ry.cells = mc) (hrs : ry.slots = ms) (hR : ry.frames + 1 ≤ rm.frames ∧ 8 + (maxL + 11) + ry.locals ≤ rm.locals) (hnw : Cond.methodLinkNest own index y host ∈ jNw) (hws1 : Cond.initialized y.cls ∈ Ts) (hws2 : Cond.static y ∈ Ts) (hd0 : y.cls ≠ "java/lang/invoke/MethodHandle" ∧ y.cls ≠ "java/lang/invoke/VarHandle" ∧ (parseMethodDescriptor y.desc).map (fun d => d.parameters.length) = some n) (hn : As.length = n) (hst : st = As.reverse ++ rest) (hlo : (rest.map fun v => v.category).sum ≤ 8) (hcc : cs + mc ≤ rm.cells ∧ sl + ms ≤ rm.slots) (hd : decode cc pc = .ok (.invokestatic index, 3)) (kk : ∀ (r : Int32) (u : S), post r u → J Γ D nL (cs + mc) (sl + ms) (wf u) (pc + 3) lv (.int r :: rest)) : J Γ D nL cs sl ws pc lv st := by
  obtain ⟨p, l, e, R, s, m, args, below, meth, c, A, Q⟩ := Γ
  obtain ⟨rfl, rfl, hx, hb, hml, hown, hts, hK, hA, hlk⟩ := hC
  intro H locs ls hP hD hS hl
  subst hst
  have hF := jA_free hD hS hA
  exact va_calli (va_runSN ⟨hx, hb, hml, hown, hts⟩ (hM H.size) ⟨va_cnB n hts hG hwy hrc hrs (hK.2.1 _ hnw) (hts _ hws1) hd0 hR, hts _ hws2, trivial⟩ ⟨jPre_blind, jPre_in hK hP hD⟩ rfl hn hl.1 rfl (lv_room hlo) hd hcc) hS (fun q _ h => hF q h) hF (fun r u t H1 locs ht hvm hw hB hz1 hk1 hS => kk r u hw H1 locs ls (ht ▸ hB.1) (hB.2.weaken (fun _ q _ h => hF _ h)) hS hl)
theorem j_callVO_i (hC : jC Γ l0 rm D nL own cc Ts tys) {S : Type} {wf : S → va_W} {post : Int32 → S → Prop} {y : MethodName} {wy wy' : List Cond} {ry : Room} {mc ms maxL index : Nat} {bytes : ByteArray} {rt : Option FieldType} {As rest : List Value} {b q0 ci : Nat} {fs : List Value} (hM : jMi l0 y wy ry D tys (.ref b :: As) ws wf post mc ms) {C owner : String} {T : u_T} {N : Nat} {x : MethodName} {b0 : ByteArray} {m0 : Nat} {r0 : Option FieldType} (n : Nat) (hG : GoodIn Ts (va_wsO own index C owner x y wy)) (hwy : wy = Cond.code y bytes maxL rt :: wy') (hrc : ry.cells = mc) (hrs : ry.slots = ms) (hR : ry.frames + 1 ≤ rm.frames ∧ 8 + (maxL + 11) + ry.locals ≤ rm.locals) (h0 : Cond.code ⟨owner, x.name, x.desc⟩ b0 m0 r0 ∈ Ts) (hd0 : owner ≠ "java/lang/invoke/MethodHandle" ∧ owner ≠ "java/lang/invoke/VarHandle" ∧ (parseMethodDescriptor x.desc).map (fun d => d.parameters.length) = some n) (hn : As.length = n) (he : ws[q0]? = some (b, .inr (ci, fs))) (hc : vwCl[ci]? = some (C, T, N)) (hst : st = As.reverse ++ .ref b :: rest) (hlo : (rest.map fun v => v.category).sum ≤ 8) (hcc : cs + mc ≤ rm.cells ∧ sl + ms ≤ rm.slots) (hd : decode cc pc = .ok (.invokevirtual index, 3)) (kk : ∀ (r : Int32) (u : S), post r u → J Γ D nL (cs + mc) (sl + ms) (wf u) (pc + 3) lv (.int r :: rest)) : J Γ D nL cs sl ws pc lv st := by
  obtain ⟨p, l, e, R, s, m, args, below, meth, c, A, Q⟩ := Γ
  obtain ⟨rfl, rfl, hx, hb, hml, hown, hts, hK, hA, hlk⟩ := hC
  intro H locs ls hP hD hS hl
  subst hst
  have hF := jA_free hD hS hA
  exact va_calli (va_runU ⟨hx, hb, hml, hown, hts⟩ (hM H.size) (va_cwO n hts hG hwy hrc hrs h0 hd0 hR) ⟨jPre_blind, va_recv hK.1 hP hc he, jPre_in hK hP hD⟩ rfl hn hl.1 rfl (lv_room hlo) hd hcc) hS (fun q _ h => hF q h) hF (fun r u t H1 locs ht hvm hw hB hz1 hk1 hS => kk r u hw H1 locs ls (ht ▸ hB.1) (hB.2.weaken (fun _ q _ h => hF _ h)) hS hl)
theorem j_callSU_i (hC : jC Γ l0 rm D nL own cc Ts tys) {S : Type} {wf : S → va_W} {post : Int32 → S → Prop} {y : MethodName} {wy wy' : List Cond} {ry : Room} {mc ms maxL index : Nat} {bytes : ByteArray} {rt : Option FieldType} {As rest : List Value} {b q0 ci : Nat} {fs : List Value} (hM : jMi l0 y wy ry D tys (.ref b :: As) ws wf post mc ms) {C : String} {T : u_T} {N : Nat} (n : Nat) (hG : GoodIn Ts (va_wsSU own index y wy)) (hwy : wy = Cond.code y bytes maxL rt :: wy') (hrc : ry.cells = mc) (hrs : ry.slots = ms) (hR : ry.frames + 1 ≤ rm.frames ∧ 8 + (maxL + 11) + ry.locals ≤ rm.locals) (hd0 : y.name ≠ "<init>" ∧ (parseMethodDescriptor y.desc).map (fun d => d.parameters.length) = some n) (hn : As.length = n) (he : ws[q0]? = some (b, .inr (ci, fs))) (hc : vwCl[ci]? = some (C, T, N)) (hst : st = As.reverse ++ .ref b :: rest) (hlo : (rest.map fun v => v.category).sum ≤ 8) (hcc : cs + mc ≤ rm.cells ∧ sl + ms ≤ rm.slots) (hd : decode cc pc = .ok (.invokespecial index, 3)) (kk : ∀ (r : Int32) (u : S), post r u → J Γ D nL (cs + mc) (sl + ms) (wf u) (pc + 3) lv (.int r :: rest)) : J Γ D nL cs sl ws pc lv st := by
  obtain ⟨p, l, e, R, s, m, args, below, meth, c, A, Q⟩ := Γ
  obtain ⟨rfl, rfl, hx, hb, hml, hown, hts, hK, hA, hlk⟩ := hC
  intro H locs ls hP hD hS hl
  subst hst
  have hF := jA_free hD hS hA
  exact va_calli (va_runSU (hK.1.1 ci _ hc).2 ⟨hx, hb, hml, hown, hts⟩ (hM H.size) (va_cwSU n hts hG hwy hrc hrs hd0 hR) ⟨jPre_blind, va_recv hK.1 hP hc he, jPre_in hK hP hD⟩ rfl hn hl.1 rfl (lv_room hlo) hd hcc) hS (fun q _ h => hF q h) hF (fun r u t H1 locs ht hvm hw hB hz1 hk1 hS => kk r u hw H1 locs ls (ht ▸ hB.1) (hB.2.weaken (fun _ q _ h => hF _ h)) hS hl)
theorem j_callV_l (hC : jC Γ l0 rm D nL own cc Ts tys) {S : Type} {wf : S → va_W} {post : Int64 → S → Prop} {y : MethodName} {wy wy' : List Cond} {ry : Room} {mc ms maxL index : Nat} {bytes : ByteArray} {rt : Option FieldType} {As rest : List Value} {b q0 ci : Nat} {fs : List Value} (hM : jMl l0 y wy ry D tys (.ref b :: As) ws wf post mc ms) {C : String} {T : u_T} {N : Nat} (n : Nat) (hG : GoodIn Ts (wsV own index C y wy)) (hwy : wy = Cond.code y bytes maxL rt :: wy') (hrc : ry.cells = mc) (hrs : ry.slots = ms) (hR : ry.frames + 1 ≤ rm.frames ∧ 8 + (maxL + 11) + ry.locals ≤ rm.locals) (hd0 : y.cls = C ∧ y.cls ≠ "java/lang/invoke/MethodHandle" ∧ y.cls ≠ "java/lang/invoke/VarHandle" ∧ (parseMethodDescriptor y.desc).map (fun d => d.parameters.length) = some n) (hn : As.length = n) (he : ws[q0]? = some (b, .inr (ci, fs))) (hc : vwCl[ci]? = some (C, T, N)) (hst : st = As.reverse ++ .ref b :: rest) (hlo : (rest.map fun v => v.category).sum ≤ 8) (hcc : cs + mc ≤ rm.cells ∧ sl + ms ≤ rm.slots) (hd : decode cc pc = .ok (.invokevirtual index, 3)) (kk : ∀ (r : Int64) (u : S), post r u → J Γ D nL (cs + mc) (sl + ms) (wf u) (pc + 3) lv (.long r :: rest)) : J Γ D nL cs sl ws pc lv st := by
  obtain ⟨p, l, e, R, s, m, args, below, meth, c, A, Q⟩ := Γ
  obtain ⟨rfl, rfl, hx, hb, hml, hown, hts, hK, hA, hlk⟩ := hC
  intro H locs ls hP hD hS hl
  subst hst
  have hF := jA_free hD hS hA
  exact va_calll (va_runV ⟨hx, hb, hml, hown, hts⟩ (hM H.size) (cwV n hts hG hwy hrc hrs hd0 hR) ⟨jPre_blind, va_recv hK.1 hP hc he, jPre_in hK hP hD⟩ rfl hn hl.1 rfl (lv_room hlo) hd hcc) hS (fun q _ h => hF q h) hF (fun r u t H1 locs ht hvm hw hB hz1 hk1 hS => kk r u hw H1 locs ls (ht ▸ hB.1) (hB.2.weaken (fun _ q _ h => hF _ h)) hS hl)
theorem j_callS_l (hC : jC Γ l0 rm D nL own cc Ts tys) {S : Type} {wf : S → va_W} {post : Int64 → S → Prop} {y : MethodName} {wy wy' : List Cond} {ry : Room} {mc ms maxL index : Nat} {bytes : ByteArray} {rt : Option FieldType} {As rest : List Value} (hM : jMl l0 y wy ry D tys As ws wf post mc ms) (n : Nat) (hG : GoodIn Ts (va_wsS own index y wy)) (hwy : wy = Cond.code y bytes maxL rt :: wy') (hrc : ry.cells = mc) (hrs : ry.slots = ms) (hR : ry.frames + 1 ≤ rm.frames ∧ 8 + (maxL + 11) + ry.locals ≤ rm.locals) (hd0 : y.cls ≠ "java/lang/invoke/MethodHandle" ∧ y.cls ≠ "java/lang/invoke/VarHandle" ∧ (parseMethodDescriptor y.desc).map (fun d => d.parameters.length) = some n) (hn : As.length = n) (hst : st = As.reverse ++ rest) (hlo : (rest.map fun v => v.category).sum ≤ 8) (hcc : cs + mc ≤ rm.cells ∧ sl + ms ≤ rm.slots) (hd : decode cc pc = .ok (.invokestatic index, 3)) (kk : ∀ (r : Int64) (u : S), post r u → J Γ D nL (cs + mc) (sl + ms) (wf u) (pc + 3) lv (.long r :: rest)) : J Γ D nL cs sl ws pc lv st := by
  obtain ⟨p, l, e, R, s, m, args, below, meth, c, A, Q⟩ := Γ
  obtain ⟨rfl, rfl, hx, hb, hml, hown, hts, hK, hA, hlk⟩ := hC
  intro H locs ls hP hD hS hl
  subst hst
  have hF := jA_free hD hS hA
  exact va_calll (va_runS ⟨hx, hb, hml, hown, hts⟩ (hM H.size) (va_cwS n hts hG hwy hrc hrs hd0 hR) ⟨jPre_blind, jPre_in hK hP hD⟩ rfl hn hl.1 rfl (lv_room hlo) hd hcc) hS (fun q _ h => hF q h) hF (fun r u t H1 locs ht hvm hw hB hz1 hk1 hS => kk r u hw H1 locs ls (ht ▸ hB.1) (hB.2.weaken (fun _ q _ h => hF _ h)) hS hl)
theorem j_callSN_l (hC : jC Γ l0 rm D nL own cc Ts tys) {S : Type} {wf : S → va_W} {post : Int64 → S → Prop} {y : MethodName} {wy wy' : List Cond} {ry : Room} {mc ms maxL index : Nat} {bytes : ByteArray} {rt : Option FieldType} {As rest : List Value} (hM : jMl l0 y wy ry D tys As ws wf post mc ms) {host : String} (n : Nat) (hG : GoodIn Ts wy) (hwy : wy = Cond.code y bytes maxL rt :: wy') (hrc : ry.cells = mc) (hrs : ry.slots = ms) (hR : ry.frames + 1 ≤ rm.frames ∧ 8 + (maxL + 11) + ry.locals ≤ rm.locals) (hnw : Cond.methodLinkNest own index y host ∈ jNw) (hws1 : Cond.initialized y.cls ∈ Ts) (hws2 : Cond.static y ∈ Ts) (hd0 : y.cls ≠ "java/lang/invoke/MethodHandle" ∧ y.cls ≠ "java/lang/invoke/VarHandle" ∧ (parseMethodDescriptor y.desc).map (fun d => d.parameters.length) = some n) (hn : As.length = n) (hst : st = As.reverse ++ rest) (hlo : (rest.map fun v => v.category).sum ≤ 8) (hcc : cs + mc ≤ rm.cells ∧ sl + ms ≤ rm.slots) (hd : decode cc pc = .ok (.invokestatic index, 3)) (kk : ∀ (r : Int64) (u : S), post r u → J Γ D nL (cs + mc) (sl + ms) (wf u) (pc + 3) lv (.long r :: rest)) : J Γ D nL cs sl ws pc lv st := by
  obtain ⟨p, l, e, R, s, m, args, below, meth, c, A, Q⟩ := Γ
  obtain ⟨rfl, rfl, hx, hb, hml, hown, hts, hK, hA, hlk⟩ := hC
  intro H locs ls hP hD hS hl
  subst hst
  have hF := jA_free hD hS hA
  exact va_calll (va_runSN ⟨hx, hb, hml, hown, hts⟩ (hM H.size) ⟨va_cnB n hts hG hwy hrc hrs (hK.2.1 _ hnw) (hts _ hws1) hd0 hR, hts _ hws2, trivial⟩ ⟨jPre_blind, jPre_in hK hP hD⟩ rfl hn hl.1 rfl (lv_room hlo) hd hcc) hS (fun q _ h => hF q h) hF (fun r u t H1 locs ht hvm hw hB hz1 hk1 hS => kk r u hw H1 locs ls (ht ▸ hB.1) (hB.2.weaken (fun _ q _ h => hF _ h)) hS hl)
theorem j_callVO_l (hC : jC Γ l0 rm D nL own cc Ts tys) {S : Type} {wf : S → va_W} {post : Int64 → S → Prop} {y : MethodName} {wy wy' : List Cond} {ry : Room} {mc ms maxL index : Nat} {bytes : ByteArray} {rt : Option FieldType} {As rest : List Value} {b q0 ci : Nat} {fs : List Value} (hM : jMl l0 y wy ry D tys (.ref b :: As) ws wf post mc ms) {C owner : String} {T : u_T} {N : Nat} {x : MethodName} {b0 : ByteArray} {m0 : Nat} {r0 : Option FieldType} (n : Nat) (hG : GoodIn Ts (va_wsO own index C owner x y wy)) (hwy : wy = Cond.code y bytes maxL rt :: wy') (hrc : ry.cells = mc) (hrs : ry.slots = ms) (hR : ry.frames + 1 ≤ rm.frames ∧ 8 + (maxL + 11) + ry.locals ≤ rm.locals) (h0 : Cond.code ⟨owner, x.name, x.desc⟩ b0 m0 r0 ∈ Ts) (hd0 : owner ≠ "java/lang/invoke/MethodHandle" ∧ owner ≠ "java/lang/invoke/VarHandle" ∧ (parseMethodDescriptor x.desc).map (fun d => d.parameters.length) = some n) (hn : As.length = n) (he : ws[q0]? = some (b, .inr (ci, fs))) (hc : vwCl[ci]? = some (C, T, N)) (hst : st = As.reverse ++ .ref b :: rest) (hlo : (rest.map fun v => v.category).sum ≤ 8) (hcc : cs + mc ≤ rm.cells ∧ sl + ms ≤ rm.slots) (hd : decode cc pc = .ok (.invokevirtual index, 3)) (kk : ∀ (r : Int64) (u : S), post r u → J Γ D nL (cs + mc) (sl + ms) (wf u) (pc + 3) lv (.long r :: rest)) : J Γ D nL cs sl ws pc lv st := by
  obtain ⟨p, l, e, R, s, m, args, below, meth, c, A, Q⟩ := Γ
  obtain ⟨rfl, rfl, hx, hb, hml, hown, hts, hK, hA, hlk⟩ := hC
  intro H locs ls hP hD hS hl
  subst hst
  have hF := jA_free hD hS hA
  exact va_calll (va_runU ⟨hx, hb, hml, hown, hts⟩ (hM H.size) (va_cwO n hts hG hwy hrc hrs h0 hd0 hR) ⟨jPre_blind, va_recv hK.1 hP hc he, jPre_in hK hP hD⟩ rfl hn hl.1 rfl (lv_room hlo) hd hcc) hS (fun q _ h => hF q h) hF (fun r u t H1 locs ht hvm hw hB hz1 hk1 hS => kk r u hw H1 locs ls (ht ▸ hB.1) (hB.2.weaken (fun _ q _ h => hF _ h)) hS hl)
theorem j_callSU_l (hC : jC Γ l0 rm D nL own cc Ts tys) {S : Type} {wf : S → va_W} {post : Int64 → S → Prop} {y : MethodName} {wy wy' : List Cond} {ry : Room} {mc ms maxL index : Nat} {bytes : ByteArray} {rt : Option FieldType} {As rest : List Value} {b q0 ci : Nat} {fs : List Value} (hM : jMl l0 y wy ry D tys (.ref b :: As) ws wf post mc ms) {C : String} {T : u_T} {N : Nat} (n : Nat) (hG : GoodIn Ts (va_wsSU own index y wy)) (hwy : wy = Cond.code y bytes maxL rt :: wy') (hrc : ry.cells = mc) (hrs : ry.slots = ms) (hR : ry.frames + 1 ≤ rm.frames ∧ 8 + (maxL + 11) + ry.locals ≤ rm.locals) (hd0 : y.name ≠ "<init>" ∧ (parseMethodDescriptor y.desc).map (fun d => d.parameters.length) = some n) (hn : As.length = n) (he : ws[q0]? = some (b, .inr (ci, fs))) (hc : vwCl[ci]? = some (C, T, N)) (hst : st = As.reverse ++ .ref b :: rest) (hlo : (rest.map fun v => v.category).sum ≤ 8) (hcc : cs + mc ≤ rm.cells ∧ sl + ms ≤ rm.slots) (hd : decode cc pc = .ok (.invokespecial index, 3)) (kk : ∀ (r : Int64) (u : S), post r u → J Γ D nL (cs + mc) (sl + ms) (wf u) (pc + 3) lv (.long r :: rest)) : J Γ D nL cs sl ws pc lv st := by
  obtain ⟨p, l, e, R, s, m, args, below, meth, c, A, Q⟩ := Γ
  obtain ⟨rfl, rfl, hx, hb, hml, hown, hts, hK, hA, hlk⟩ := hC
  intro H locs ls hP hD hS hl
  subst hst
  have hF := jA_free hD hS hA
  exact va_calll (va_runSU (hK.1.1 ci _ hc).2 ⟨hx, hb, hml, hown, hts⟩ (hM H.size) (va_cwSU n hts hG hwy hrc hrs hd0 hR) ⟨jPre_blind, va_recv hK.1 hP hc he, jPre_in hK hP hD⟩ rfl hn hl.1 rfl (lv_room hlo) hd hcc) hS (fun q _ h => hF q h) hF (fun r u t H1 locs ht hvm hw hB hz1 hk1 hS => kk r u hw H1 locs ls (ht ▸ hB.1) (hB.2.weaken (fun _ q _ h => hF _ h)) hS hl)
theorem j_callV_v (hC : jC Γ l0 rm D nL own cc Ts tys) {S : Type} {wf : S → va_W} {post : S → Prop} {y : MethodName} {wy wy' : List Cond} {ry : Room} {mc ms maxL index : Nat} {bytes : ByteArray} {rt : Option FieldType} {As rest : List Value} {b q0 ci : Nat} {fs : List Value} (hM : jMv l0 y wy ry D tys (.ref b :: As) ws wf post mc ms) {C : String} {T : u_T} {N : Nat} (n : Nat) (hG : GoodIn Ts (wsV own index C y wy)) (hwy : wy = Cond.code y bytes maxL rt :: wy') (hrc : ry.cells = mc) (hrs : ry.slots = ms) (hR : ry.frames + 1 ≤ rm.frames ∧ 8 + (maxL + 11) + ry.locals ≤ rm.locals) (hd0 : y.cls = C ∧ y.cls ≠ "java/lang/invoke/MethodHandle" ∧ y.cls ≠ "java/lang/invoke/VarHandle" ∧ (parseMethodDescriptor y.desc).map (fun d => d.parameters.length) = some n) (hn : As.length = n) (he : ws[q0]? = some (b, .inr (ci, fs))) (hc : vwCl[ci]? = some (C, T, N)) (hst : st = As.reverse ++ .ref b :: rest) (hlo : (rest.map fun v => v.category).sum ≤ 8) (hcc : cs + mc ≤ rm.cells ∧ sl + ms ≤ rm.slots) (hd : decode cc pc = .ok (.invokevirtual index, 3)) (kk : ∀ (u : S), post u → J Γ D nL (cs + mc) (sl + ms) (wf u) (pc + 3) lv (rest)) : J Γ D nL cs sl ws pc lv st := by
  obtain ⟨p, l, e, R, s, m, args, below, meth, c, A, Q⟩ := Γ
  obtain ⟨rfl, rfl, hx, hb, hml, hown, hts, hK, hA, hlk⟩ := hC
  intro H locs ls hP hD hS hl
  subst hst
  have hF := jA_free hD hS hA
  exact va_callv (va_runV ⟨hx, hb, hml, hown, hts⟩ (hM H.size) (cwV n hts hG hwy hrc hrs hd0 hR) ⟨jPre_blind, va_recv hK.1 hP hc he, jPre_in hK hP hD⟩ rfl hn hl.1 rfl (lv_room hlo) hd hcc) hS (fun q _ h => hF q h) hF (fun u t H1 locs ht hvm hw hB hz1 hk1 hS => kk u hw H1 locs ls (ht ▸ hB.1) (hB.2.weaken (fun _ q _ h => hF _ h)) hS hl)
theorem j_callS_v (hC : jC Γ l0 rm D nL own cc Ts tys) {S : Type} {wf : S → va_W} {post : S → Prop} {y : MethodName} {wy wy' : List Cond} {ry : Room} {mc ms maxL index : Nat} {bytes : ByteArray} {rt : Option FieldType} {As rest : List Value} (hM : jMv l0 y wy ry D tys As ws wf post mc ms) (n : Nat) (hG : GoodIn Ts (va_wsS own index y wy)) (hwy : wy = Cond.code y bytes maxL rt :: wy') (hrc : ry.cells = mc) (hrs : ry.slots = ms) (hR : ry.frames + 1 ≤ rm.frames ∧ 8 + (maxL + 11) + ry.locals ≤ rm.locals) (hd0 : y.cls ≠ "java/lang/invoke/MethodHandle" ∧ y.cls ≠ "java/lang/invoke/VarHandle" ∧ (parseMethodDescriptor y.desc).map (fun d => d.parameters.length) = some n) (hn : As.length = n) (hst : st = As.reverse ++ rest) (hlo : (rest.map fun v => v.category).sum ≤ 8) (hcc : cs + mc ≤ rm.cells ∧ sl + ms ≤ rm.slots) (hd : decode cc pc = .ok (.invokestatic index, 3)) (kk : ∀ (u : S), post u → J Γ D nL (cs + mc) (sl + ms) (wf u) (pc + 3) lv (rest)) : J Γ D nL cs sl ws pc lv st := by
  obtain ⟨p, l, e, R, s, m, args, below, meth, c, A, Q⟩ := Γ
  obtain ⟨rfl, rfl, hx, hb, hml, hown, hts, hK, hA, hlk⟩ := hC
  intro H locs ls hP hD hS hl
  subst hst
  have hF := jA_free hD hS hA
  exact va_callv (va_runS ⟨hx, hb, hml, hown, hts⟩ (hM H.size) (va_cwS n hts hG hwy hrc hrs hd0 hR) ⟨jPre_blind, jPre_in hK hP hD⟩ rfl hn hl.1 rfl (lv_room hlo) hd hcc) hS (fun q _ h => hF q h) hF (fun u t H1 locs ht hvm hw hB hz1 hk1 hS => kk u hw H1 locs ls (ht ▸ hB.1) (hB.2.weaken (fun _ q _ h => hF _ h)) hS hl)
theorem j_callSN_v (hC : jC Γ l0 rm D nL own cc Ts tys) {S : Type} {wf : S → va_W} {post : S → Prop} {y : MethodName} {wy wy' : List Cond} {ry : Room} {mc ms maxL index : Nat} {bytes : ByteArray} {rt : Option FieldType} {As rest : List Value} (hM : jMv l0 y wy ry D tys As ws wf post mc ms) {host : String} (n : Nat) (hG : GoodIn Ts wy) (hwy : wy = Cond.code y bytes maxL rt :: wy') (hrc : ry.cells = mc) (hrs : ry.slots = ms) (hR : ry.frames + 1 ≤ rm.frames ∧ 8 + (maxL + 11) + ry.locals ≤ rm.locals) (hnw : Cond.methodLinkNest own index y host ∈ jNw) (hws1 : Cond.initialized y.cls ∈ Ts) (hws2 : Cond.static y ∈ Ts) (hd0 : y.cls ≠ "java/lang/invoke/MethodHandle" ∧ y.cls ≠ "java/lang/invoke/VarHandle" ∧ (parseMethodDescriptor y.desc).map (fun d => d.parameters.length) = some n) (hn : As.length = n) (hst : st = As.reverse ++ rest) (hlo : (rest.map fun v => v.category).sum ≤ 8) (hcc : cs + mc ≤ rm.cells ∧ sl + ms ≤ rm.slots) (hd : decode cc pc = .ok (.invokestatic index, 3)) (kk : ∀ (u : S), post u → J Γ D nL (cs + mc) (sl + ms) (wf u) (pc + 3) lv (rest)) : J Γ D nL cs sl ws pc lv st := by
  obtain ⟨p, l, e, R, s, m, args, below, meth, c, A, Q⟩ := Γ
  obtain ⟨rfl, rfl, hx, hb, hml, hown, hts, hK, hA, hlk⟩ := hC
  intro H locs ls hP hD hS hl
  subst hst
  have hF := jA_free hD hS hA
  exact va_callv (va_runSN ⟨hx, hb, hml, hown, hts⟩ (hM H.size) ⟨va_cnB n hts hG hwy hrc hrs (hK.2.1 _ hnw) (hts _ hws1) hd0 hR, hts _ hws2, trivial⟩ ⟨jPre_blind, jPre_in hK hP hD⟩ rfl hn hl.1 rfl (lv_room hlo) hd hcc) hS (fun q _ h => hF q h) hF (fun u t H1 locs ht hvm hw hB hz1 hk1 hS => kk u hw H1 locs ls (ht ▸ hB.1) (hB.2.weaken (fun _ q _ h => hF _ h)) hS hl)
theorem j_callVO_v (hC : jC Γ l0 rm D nL own cc Ts tys) {S : Type} {wf : S → va_W} {post : S → Prop} {y : MethodName} {wy wy' : List Cond} {ry : Room} {mc ms maxL index : Nat} {bytes : ByteArray} {rt : Option FieldType} {As rest : List Value} {b q0 ci : Nat} {fs : List Value} (hM : jMv l0 y wy ry D tys (.ref b :: As) ws wf post mc ms) {C owner : String} {T : u_T} {N : Nat} {x : MethodName} {b0 : ByteArray} {m0 : Nat} {r0 : Option FieldType} (n : Nat) (hG : GoodIn Ts (va_wsO own index C owner x y wy)) (hwy : wy = Cond.code y bytes maxL rt :: wy') (hrc : ry.cells = mc) (hrs : ry.slots = ms) (hR : ry.frames + 1 ≤ rm.frames ∧ 8 + (maxL + 11) + ry.locals ≤ rm.locals) (h0 : Cond.code ⟨owner, x.name, x.desc⟩ b0 m0 r0 ∈ Ts) (hd0 : owner ≠ "java/lang/invoke/MethodHandle" ∧ owner ≠ "java/lang/invoke/VarHandle" ∧ (parseMethodDescriptor x.desc).map (fun d => d.parameters.length) = some n) (hn : As.length = n) (he : ws[q0]? = some (b, .inr (ci, fs))) (hc : vwCl[ci]? = some (C, T, N)) (hst : st = As.reverse ++ .ref b :: rest) (hlo : (rest.map fun v => v.category).sum ≤ 8) (hcc : cs + mc ≤ rm.cells ∧ sl + ms ≤ rm.slots) (hd : decode cc pc = .ok (.invokevirtual index, 3)) (kk : ∀ (u : S), post u → J Γ D nL (cs + mc) (sl + ms) (wf u) (pc + 3) lv (rest)) : J Γ D nL cs sl ws pc lv st := by
  obtain ⟨p, l, e, R, s, m, args, below, meth, c, A, Q⟩ := Γ
  obtain ⟨rfl, rfl, hx, hb, hml, hown, hts, hK, hA, hlk⟩ := hC
  intro H locs ls hP hD hS hl
  subst hst
  have hF := jA_free hD hS hA
  exact va_callv (va_runU ⟨hx, hb, hml, hown, hts⟩ (hM H.size) (va_cwO n hts hG hwy hrc hrs h0 hd0 hR) ⟨jPre_blind, va_recv hK.1 hP hc he, jPre_in hK hP hD⟩ rfl hn hl.1 rfl (lv_room hlo) hd hcc) hS (fun q _ h => hF q h) hF (fun u t H1 locs ht hvm hw hB hz1 hk1 hS => kk u hw H1 locs ls (ht ▸ hB.1) (hB.2.weaken (fun _ q _ h => hF _ h)) hS hl)
theorem j_callSU_v (hC : jC Γ l0 rm D nL own cc Ts tys) {S : Type} {wf : S → va_W} {post : S → Prop} {y : MethodName} {wy wy' : List Cond} {ry : Room} {mc ms maxL index : Nat} {bytes : ByteArray} {rt : Option FieldType} {As rest : List Value} {b q0 ci : Nat} {fs : List Value} (hM : jMv l0 y wy ry D tys (.ref b :: As) ws wf post mc ms) {C : String} {T : u_T} {N : Nat} (n : Nat) (hG : GoodIn Ts (va_wsSU own index y wy)) (hwy : wy = Cond.code y bytes maxL rt :: wy') (hrc : ry.cells = mc) (hrs : ry.slots = ms) (hR : ry.frames + 1 ≤ rm.frames ∧ 8 + (maxL + 11) + ry.locals ≤ rm.locals) (hd0 : y.name ≠ "<init>" ∧ (parseMethodDescriptor y.desc).map (fun d => d.parameters.length) = some n) (hn : As.length = n) (he : ws[q0]? = some (b, .inr (ci, fs))) (hc : vwCl[ci]? = some (C, T, N)) (hst : st = As.reverse ++ .ref b :: rest) (hlo : (rest.map fun v => v.category).sum ≤ 8) (hcc : cs + mc ≤ rm.cells ∧ sl + ms ≤ rm.slots) (hd : decode cc pc = .ok (.invokespecial index, 3)) (kk : ∀ (u : S), post u → J Γ D nL (cs + mc) (sl + ms) (wf u) (pc + 3) lv (rest)) : J Γ D nL cs sl ws pc lv st := by
  obtain ⟨p, l, e, R, s, m, args, below, meth, c, A, Q⟩ := Γ
  obtain ⟨rfl, rfl, hx, hb, hml, hown, hts, hK, hA, hlk⟩ := hC
  intro H locs ls hP hD hS hl
  subst hst
  have hF := jA_free hD hS hA
  exact va_callv (va_runSU (hK.1.1 ci _ hc).2 ⟨hx, hb, hml, hown, hts⟩ (hM H.size) (va_cwSU n hts hG hwy hrc hrs hd0 hR) ⟨jPre_blind, va_recv hK.1 hP hc he, jPre_in hK hP hD⟩ rfl hn hl.1 rfl (lv_room hlo) hd hcc) hS (fun q _ h => hF q h) hF (fun u t H1 locs ht hvm hw hB hz1 hk1 hS => kk u hw H1 locs ls (ht ▸ hB.1) (hB.2.weaken (fun _ q _ h => hF _ h)) hS hl)
theorem j_callI_v (hC : jC Γ l0 rm D nL own cc Ts tys) {S : Type} {wf : S → va_W} {post : S → Prop} {y : MethodName} {wy wy' : List Cond} {ry : Room} {mc ms maxL index : Nat} {bytes : ByteArray} {As rest : List Value} {b : Nat} (hM : jMv l0 y wy ry D tys (.ref b :: As) ws wf post mc ms) (n : Nat) (hG : GoodIn Ts wy) (hwy : wy = Cond.code y bytes maxL none :: wy') (hrc : ry.cells = mc) (hrs : ry.slots = ms) (hR : ry.frames + 1 ≤ rm.frames ∧ 8 + (maxL + 11) + ry.locals ≤ rm.locals) (hws1 : Cond.initialized y.cls ∈ Ts) (hws2 : Cond.methodLink own index y ∈ Ts) (hws3 : Cond.instanceMethod y ∈ Ts) (hnm : y.name = "<init>") (hd0 : y.cls ≠ "java/lang/invoke/MethodHandle" ∧ y.cls ≠ "java/lang/invoke/VarHandle" ∧ (parseMethodDescriptor y.desc).map (fun d => d.parameters.length) = some n) (hn : As.length = n) (hst : st = As.reverse ++ .ref b :: rest) (hlo : (rest.map fun v => v.category).sum ≤ 8) (hcc : cs + mc ≤ rm.cells ∧ sl + ms ≤ rm.slots) (hd : decode cc pc = .ok (.invokespecial index, 3)) (kk : ∀ (u : S), post u → J Γ D nL (cs + mc) (sl + ms) (wf u) (pc + 3) lv (rest)) : J Γ D nL cs sl ws pc lv st := by
  obtain ⟨p, l, e, R, s, m, args, below, meth, c, A, Q⟩ := Γ
  obtain ⟨rfl, rfl, hx, hb, hml, hown, hts, hK, hA, hlk⟩ := hC
  intro H locs ls hP hD hS hl
  subst hst
  have hF := jA_free hD hS hA
  exact va_callv (va_runI ⟨hx, hb, hml, hown, hts⟩ (hM H.size) (cwI n hts hG hwy hrc hrs (hts _ hws1) (hts _ hws2) (hts _ hws3) hnm hd0 hR) ⟨jPre_blind, jPre_in hK hP hD⟩ rfl hn hl.1 rfl (lv_room hlo) hd hcc) hS (fun q _ h => hF q h) hF (fun u t H1 locs ht hvm hw hB hz1 hk1 hS => kk u hw H1 locs ls (ht ▸ hB.1) (hB.2.weaken (fun _ q _ h => hF _ h)) hS hl)
theorem j_callIN_v (hC : jC Γ l0 rm D nL own cc Ts tys) {S : Type} {wf : S → va_W} {post : S → Prop} {y : MethodName} {wy wy' : List Cond} {ry : Room} {mc ms maxL index : Nat} {bytes : ByteArray} {As rest : List Value} {b : Nat} (hM : jMv l0 y wy ry D tys (.ref b :: As) ws wf post mc ms) {host : String} (n : Nat) (hG : GoodIn Ts wy) (hwy : wy = Cond.code y bytes maxL none :: wy') (hrc : ry.cells = mc) (hrs : ry.slots = ms) (hR : ry.frames + 1 ≤ rm.frames ∧ 8 + (maxL + 11) + ry.locals ≤ rm.locals) (hnw : Cond.methodLinkNest own index y host ∈ jNw) (hws1 : Cond.initialized y.cls ∈ Ts) (hws3 : Cond.instanceMethod y ∈ Ts) (hnm : y.name = "<init>") (hd0 : y.cls ≠ "java/lang/invoke/MethodHandle" ∧ y.cls ≠ "java/lang/invoke/VarHandle" ∧ (parseMethodDescriptor y.desc).map (fun d => d.parameters.length) = some n) (hn : As.length = n) (hst : st = As.reverse ++ .ref b :: rest) (hlo : (rest.map fun v => v.category).sum ≤ 8) (hcc : cs + mc ≤ rm.cells ∧ sl + ms ≤ rm.slots) (hd : decode cc pc = .ok (.invokespecial index, 3)) (kk : ∀ (u : S), post u → J Γ D nL (cs + mc) (sl + ms) (wf u) (pc + 3) lv (rest)) : J Γ D nL cs sl ws pc lv st := by
  obtain ⟨p, l, e, R, s, m, args, below, meth, c, A, Q⟩ := Γ
  obtain ⟨rfl, rfl, hx, hb, hml, hown, hts, hK, hA, hlk⟩ := hC
  intro H locs ls hP hD hS hl
  subst hst
  have hF := jA_free hD hS hA
  exact va_callv (va_runIN ⟨hx, hb, hml, hown, hts⟩ (hM H.size) ⟨va_cnB n hts hG hwy hrc hrs (hK.2.1 _ hnw) (hts _ hws1) hd0 hR, hnm, hts _ hws3⟩ ⟨jPre_blind, jPre_in hK hP hD⟩ rfl hn hl.1 rfl (lv_room hlo) hd hcc) hS (fun q _ h => hF q h) hF (fun u t H1 locs ht hvm hw hB hz1 hk1 hS => kk u hw H1 locs ls (ht ▸ hB.1) (hB.2.weaken (fun _ q _ h => hF _ h)) hS hl)
theorem j_callV_q (hC : jC Γ l0 rm D nL own cc Ts tys) {S : Type} {wf : S → va_W} {post : Option Nat → S → Prop} {y : MethodName} {wy wy' : List Cond} {ry : Room} {mc ms maxL index : Nat} {bytes : ByteArray} {rt : Option FieldType} {As rest : List Value} {b q0 ci : Nat} {fs : List Value} (hM : jMq l0 y wy ry D tys (.ref b :: As) ws wf post mc ms) {C : String} {T : u_T} {N : Nat} (n : Nat) (hG : GoodIn Ts (wsV own index C y wy)) (hwy : wy = Cond.code y bytes maxL rt :: wy') (hrc : ry.cells = mc) (hrs : ry.slots = ms) (hR : ry.frames + 1 ≤ rm.frames ∧ 8 + (maxL + 11) + ry.locals ≤ rm.locals) (hd0 : y.cls = C ∧ y.cls ≠ "java/lang/invoke/MethodHandle" ∧ y.cls ≠ "java/lang/invoke/VarHandle" ∧ (parseMethodDescriptor y.desc).map (fun d => d.parameters.length) = some n) (hn : As.length = n) (he : ws[q0]? = some (b, .inr (ci, fs))) (hc : vwCl[ci]? = some (C, T, N)) (hst : st = As.reverse ++ .ref b :: rest) (hlo : (rest.map fun v => v.category).sum ≤ 8) (hcc : cs + mc ≤ rm.cells ∧ sl + ms ≤ rm.slots) (hd : decode cc pc = .ok (.invokevirtual index, 3)) (kk : ∀ (r : Option Nat) (u : S), post r u → J Γ D nL (cs + mc) (sl + ms) (wf u) (pc + 3) lv (va_rf r :: rest)) : J Γ D nL cs sl ws pc lv st := by
  obtain ⟨p, l, e, R, s, m, args, below, meth, c, A, Q⟩ := Γ
  obtain ⟨rfl, rfl, hx, hb, hml, hown, hts, hK, hA, hlk⟩ := hC
  intro H locs ls hP hD hS hl
  subst hst
  have hF := jA_free hD hS hA
  exact va_callq (va_runV ⟨hx, hb, hml, hown, hts⟩ (hM H.size) (cwV n hts hG hwy hrc hrs hd0 hR) ⟨jPre_blind, va_recv hK.1 hP hc he, jPre_in hK hP hD⟩ rfl hn hl.1 rfl (lv_room hlo) hd hcc) hS (fun q _ h => hF q h) hF (fun r u t H1 locs ht hvm hw hB hz1 hk1 hS => kk r u hw H1 locs ls (ht ▸ hB.1) (hB.2.weaken (fun _ q _ h => hF _ h)) hS hl)
theorem j_callS_q (hC : jC Γ l0 rm D nL own cc Ts tys) {S : Type} {wf : S → va_W} {post : Option Nat → S → Prop} {y : MethodName} {wy wy' : List Cond} {ry : Room} {mc ms maxL index : Nat} {bytes : ByteArray} {rt : Option FieldType} {As rest : List Value} (hM : jMq l0 y wy ry D tys As ws wf post mc ms) (n : Nat) (hG : GoodIn Ts (va_wsS own index y wy)) (hwy : wy = Cond.code y bytes maxL rt :: wy') (hrc : ry.cells = mc) (hrs : ry.slots = ms) (hR : ry.frames + 1 ≤ rm.frames ∧ 8 + (maxL + 11) + ry.locals ≤ rm.locals) (hd0 : y.cls ≠ "java/lang/invoke/MethodHandle" ∧ y.cls ≠ "java/lang/invoke/VarHandle" ∧ (parseMethodDescriptor y.desc).map (fun d => d.parameters.length) = some n) (hn : As.length = n) (hst : st = As.reverse ++ rest) (hlo : (rest.map fun v => v.category).sum ≤ 8) (hcc : cs + mc ≤ rm.cells ∧ sl + ms ≤ rm.slots) (hd : decode cc pc = .ok (.invokestatic index, 3)) (kk : ∀ (r : Option Nat) (u : S), post r u → J Γ D nL (cs + mc) (sl + ms) (wf u) (pc + 3) lv (va_rf r :: rest)) : J Γ D nL cs sl ws pc lv st := by
  obtain ⟨p, l, e, R, s, m, args, below, meth, c, A, Q⟩ := Γ
  obtain ⟨rfl, rfl, hx, hb, hml, hown, hts, hK, hA, hlk⟩ := hC
  intro H locs ls hP hD hS hl
  subst hst
  have hF := jA_free hD hS hA
  exact va_callq (va_runS ⟨hx, hb, hml, hown, hts⟩ (hM H.size) (va_cwS n hts hG hwy hrc hrs hd0 hR) ⟨jPre_blind, jPre_in hK hP hD⟩ rfl hn hl.1 rfl (lv_room hlo) hd hcc) hS (fun q _ h => hF q h) hF (fun r u t H1 locs ht hvm hw hB hz1 hk1 hS => kk r u hw H1 locs ls (ht ▸ hB.1) (hB.2.weaken (fun _ q _ h => hF _ h)) hS hl)
theorem j_callSN_q (hC : jC Γ l0 rm D nL own cc Ts tys) {S : Type} {wf : S → va_W} {post : Option Nat → S → Prop} {y : MethodName} {wy wy' : List Cond} {ry : Room} {mc ms maxL index : Nat} {bytes : ByteArray} {rt : Option FieldType} {As rest : List Value} (hM : jMq l0 y wy ry D tys As ws wf post mc ms) {host : String} (n : Nat) (hG : GoodIn Ts wy) (hwy : wy = Cond.code y bytes maxL rt :: wy') (hrc : ry.cells = mc) (hrs : ry.slots = ms) (hR : ry.frames + 1 ≤ rm.frames ∧ 8 + (maxL + 11) + ry.locals ≤ rm.locals) (hnw : Cond.methodLinkNest own index y host ∈ jNw) (hws1 : Cond.initialized y.cls ∈ Ts) (hws2 : Cond.static y ∈ Ts) (hd0 : y.cls ≠ "java/lang/invoke/MethodHandle" ∧ y.cls ≠ "java/lang/invoke/VarHandle" ∧ (parseMethodDescriptor y.desc).map (fun d => d.parameters.length) = some n) (hn : As.length = n) (hst : st = As.reverse ++ rest) (hlo : (rest.map fun v => v.category).sum ≤ 8) (hcc : cs + mc ≤ rm.cells ∧ sl + ms ≤ rm.slots) (hd : decode cc pc = .ok (.invokestatic index, 3)) (kk : ∀ (r : Option Nat) (u : S), post r u → J Γ D nL (cs + mc) (sl + ms) (wf u) (pc + 3) lv (va_rf r :: rest)) : J Γ D nL cs sl ws pc lv st := by
  obtain ⟨p, l, e, R, s, m, args, below, meth, c, A, Q⟩ := Γ
  obtain ⟨rfl, rfl, hx, hb, hml, hown, hts, hK, hA, hlk⟩ := hC
  intro H locs ls hP hD hS hl
  subst hst
  have hF := jA_free hD hS hA
  exact va_callq (va_runSN ⟨hx, hb, hml, hown, hts⟩ (hM H.size) ⟨va_cnB n hts hG hwy hrc hrs (hK.2.1 _ hnw) (hts _ hws1) hd0 hR, hts _ hws2, trivial⟩ ⟨jPre_blind, jPre_in hK hP hD⟩ rfl hn hl.1 rfl (lv_room hlo) hd hcc) hS (fun q _ h => hF q h) hF (fun r u t H1 locs ht hvm hw hB hz1 hk1 hS => kk r u hw H1 locs ls (ht ▸ hB.1) (hB.2.weaken (fun _ q _ h => hF _ h)) hS hl)
theorem j_callVO_q (hC : jC Γ l0 rm D nL own cc Ts tys) {S : Type} {wf : S → va_W} {post : Option Nat → S → Prop} {y : MethodName} {wy wy' : List Cond} {ry : Room} {mc ms maxL index : Nat} {bytes : ByteArray} {rt : Option FieldType} {As rest : List Value} {b q0 ci : Nat} {fs : List Value} (hM : jMq l0 y wy ry D tys (.ref b :: As) ws wf post mc ms) {C owner : String} {T : u_T} {N : Nat} {x : MethodName} {b0 : ByteArray} {m0 : Nat} {r0 : Option FieldType} (n : Nat) (hG : GoodIn Ts (va_wsO own index C owner x y wy)) (hwy : wy = Cond.code y bytes maxL rt :: wy') (hrc : ry.cells = mc) (hrs : ry.slots = ms) (hR : ry.frames + 1 ≤ rm.frames ∧ 8 + (maxL + 11) + ry.locals ≤ rm.locals) (h0 : Cond.code ⟨owner, x.name, x.desc⟩ b0 m0 r0 ∈ Ts) (hd0 : owner ≠ "java/lang/invoke/MethodHandle" ∧ owner ≠ "java/lang/invoke/VarHandle" ∧ (parseMethodDescriptor x.desc).map (fun d => d.parameters.length) = some n) (hn : As.length = n) (he : ws[q0]? = some (b, .inr (ci, fs))) (hc : vwCl[ci]? = some (C, T, N)) (hst : st = As.reverse ++ .ref b :: rest) (hlo : (rest.map fun v => v.category).sum ≤ 8) (hcc : cs + mc ≤ rm.cells ∧ sl + ms ≤ rm.slots) (hd : decode cc pc = .ok (.invokevirtual index, 3)) (kk : ∀ (r : Option Nat) (u : S), post r u → J Γ D nL (cs + mc) (sl + ms) (wf u) (pc + 3) lv (va_rf r :: rest)) : J Γ D nL cs sl ws pc lv st := by
  obtain ⟨p, l, e, R, s, m, args, below, meth, c, A, Q⟩ := Γ
  obtain ⟨rfl, rfl, hx, hb, hml, hown, hts, hK, hA, hlk⟩ := hC
  intro H locs ls hP hD hS hl
  subst hst
  have hF := jA_free hD hS hA
  exact va_callq (va_runU ⟨hx, hb, hml, hown, hts⟩ (hM H.size) (va_cwO n hts hG hwy hrc hrs h0 hd0 hR) ⟨jPre_blind, va_recv hK.1 hP hc he, jPre_in hK hP hD⟩ rfl hn hl.1 rfl (lv_room hlo) hd hcc) hS (fun q _ h => hF q h) hF (fun r u t H1 locs ht hvm hw hB hz1 hk1 hS => kk r u hw H1 locs ls (ht ▸ hB.1) (hB.2.weaken (fun _ q _ h => hF _ h)) hS hl)
theorem j_callSU_q (hC : jC Γ l0 rm D nL own cc Ts tys) {S : Type} {wf : S → va_W} {post : Option Nat → S → Prop} {y : MethodName} {wy wy' : List Cond} {ry : Room} {mc ms maxL index : Nat} {bytes : ByteArray} {rt : Option FieldType} {As rest : List Value} {b q0 ci : Nat} {fs : List Value} (hM : jMq l0 y wy ry D tys (.ref b :: As) ws wf post mc ms) {C : String} {T : u_T} {N : Nat} (n : Nat) (hG : GoodIn Ts (va_wsSU own index y wy)) (hwy : wy = Cond.code y bytes maxL rt :: wy') (hrc : ry.cells = mc) (hrs : ry.slots = ms) (hR : ry.frames + 1 ≤ rm.frames ∧ 8 + (maxL + 11) + ry.locals ≤ rm.locals) (hd0 : y.name ≠ "<init>" ∧ (parseMethodDescriptor y.desc).map (fun d => d.parameters.length) = some n) (hn : As.length = n) (he : ws[q0]? = some (b, .inr (ci, fs))) (hc : vwCl[ci]? = some (C, T, N)) (hst : st = As.reverse ++ .ref b :: rest) (hlo : (rest.map fun v => v.category).sum ≤ 8) (hcc : cs + mc ≤ rm.cells ∧ sl + ms ≤ rm.slots) (hd : decode cc pc = .ok (.invokespecial index, 3)) (kk : ∀ (r : Option Nat) (u : S), post r u → J Γ D nL (cs + mc) (sl + ms) (wf u) (pc + 3) lv (va_rf r :: rest)) : J Γ D nL cs sl ws pc lv st := by
  obtain ⟨p, l, e, R, s, m, args, below, meth, c, A, Q⟩ := Γ
  obtain ⟨rfl, rfl, hx, hb, hml, hown, hts, hK, hA, hlk⟩ := hC
  intro H locs ls hP hD hS hl
  subst hst
  have hF := jA_free hD hS hA
  exact va_callq (va_runSU (hK.1.1 ci _ hc).2 ⟨hx, hb, hml, hown, hts⟩ (hM H.size) (va_cwSU n hts hG hwy hrc hrs hd0 hR) ⟨jPre_blind, va_recv hK.1 hP hc he, jPre_in hK hP hD⟩ rfl hn hl.1 rfl (lv_room hlo) hd hcc) hS (fun q _ h => hF q h) hF (fun r u t H1 locs ht hvm hw hB hz1 hk1 hS => kk r u hw H1 locs ls (ht ▸ hB.1) (hB.2.weaken (fun _ q _ h => hF _ h)) hS hl)
end JR
end
