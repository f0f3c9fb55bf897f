def M_X7_on (σ : ST) (a1 : Int32) : Option (Int32 × ST) := (M_X7_in a1.toInt64 0 2).bind fun o6 => if o6 = 0 then some ((-1), σ) else (rd 3776 (σ.2.2 1) ((944 * (1 + a1)) + 0)).bind fun v27 => if 0 ≤ v27 then (M_X7_copyWell σ (944 * (1 + a1)) 0).bind fun o46 => (rd 3776 (o46.2.2 1) 0).bind fun v54 => some (v54, o46) else (M_X7_find σ 1).bind fun o33 => some (o33.1, o33.2)
abbrev rm_X7_on : Room := { frames := 1, cells := 0, slots := 0, locals := 25 }
set_option maxRecDepth 100000 in
set_option maxHeartbeats 4000000 in
theorem c_X7_on (l : Launch) (d : CD) (q : Nat → Nat) (σ : ST) (a1 : Int32) (out : Int32 × ST) (hm : M_X7_on σ a1 = some out) : MetI l yX7_on cX7_on 2 (some .int) rm_X7_on d (mw q d σ) [.ref (q 0), .int a1] out.1 (mw q d out.2) := by
  refine mkI (own := RX7) (by decide +kernel) rfl (Nat.le_of_ble_eq_true rfl) ?_
  intro p e s m below meth c A ls C hS hl
  obtain ⟨hx, hb, hml, hown, hts, -⟩ := id C
  have hl : lv_has ls 2 [(0, .ref (q 0)), (1, .int a1)] := hl
  unfold M_X7_on at hm
  refine lv_iload_n hx hb dX7_on_0 rfl (lv_at hl 1 rfl) ?_
  refine lv_i2l (v := a1.toInt64) hx hb dX7_on_1 rfl ?_
  refine lv_lconst (v := 0) hx hb dX7_on_2 (by decide) ?_
  refine lv_ldc2 (v := 2) hx hb hown (hts _ lc_X7_214) dX7_on_3 ?_
  obtain ⟨o6, e6, hm⟩ := ob hm
  refine after_i C hS (call_S (As := [.long a1.toInt64, .long 0, .long 2]) C hS (c_X7_in l d (mw q d σ) a1.toInt64 0 2 o6 e6 _) is_7_66 ⟨rfl, rfl, Nat.le_of_ble_eq_true rfl, Nat.le_of_ble_eq_true rfl⟩ rfl hl.1 (Nat.le_of_ble_eq_true rfl) dX7_on_6) (fun H locs hS => ?_)
  refine lv_if_ne (tgt := 14) hx hb dX7_on_9 (by decide) (fun c9 => ?_) (fun c9 => ?_)
  · replace hm := ie c9 hm
    refine lv_aload_n hx hb dX7_on_14 rfl (lv_at hl 0 rfl) ?_
    refine g_7_7_0 C hS dX7_on_15 ?_
    refine lv_sipush (v := 944) hx hb dX7_on_18 (by decide) ?_
    refine lv_iconst (v := 1) hx hb dX7_on_21 (by decide) ?_
    refine lv_iload_n hx hb dX7_on_22 rfl (lv_at hl 1 rfl) ?_
    refine lv_iadd hx hb dX7_on_23 ?_
    refine lv_imul hx hb dX7_on_24 ?_
    refine lv_iconst (v := 0) hx hb dX7_on_25 (by decide) ?_
    refine lv_iadd hx hb dX7_on_26 ?_
    obtain ⟨v27, e27, hm⟩ := ob hm
    refine iald' C hS mw_a1 e27 dX7_on_27 ?_
    refine lv_if_ge (tgt := 37) hx hb dX7_on_28 (by decide) (fun c28 => ?_) (fun c28 => ?_)
    · replace hm := it c28 hm
      refine lv_aload_n hx hb dX7_on_37 rfl (lv_at hl 0 rfl) ?_
      refine lv_sipush (v := 944) hx hb dX7_on_38 (by decide) ?_
      refine lv_iconst (v := 1) hx hb dX7_on_41 (by decide) ?_
      refine lv_iload_n hx hb dX7_on_42 rfl (lv_at hl 1 rfl) ?_
      refine lv_iadd hx hb dX7_on_43 ?_
      refine lv_imul hx hb dX7_on_44 ?_
      refine lv_iconst (v := 0) hx hb dX7_on_45 (by decide) ?_
      obtain ⟨o46, e46, hm⟩ := ob hm
      refine after_v C hS (call_V (As := [.int (944 * (1 + a1)), .int 0]) C hS (c_X7_copyWell l d q σ (944 * (1 + a1)) 0 o46 e46 _) iv_7_216 ⟨rfl, rfl, Nat.le_of_ble_eq_true rfl, Nat.le_of_ble_eq_true rfl⟩ mw_o0 rfl rfl rfl hl.1 (Nat.le_of_ble_eq_true rfl) dX7_on_46) (fun H locs hS => ?_)
      refine lv_aload_n hx hb dX7_on_49 rfl (lv_at hl 0 rfl) ?_
      refine g_7_7_0 C hS dX7_on_50 ?_
      refine lv_iconst (v := 0) hx hb dX7_on_53 (by decide) ?_
      obtain ⟨v54, e54, hm⟩ := ob hm
      refine iald' C hS mw_a1 e54 dX7_on_54 ?_
      exact retIw (wf := mw q d) C hS hm dX7_on_55
    · replace hm := ie c28 hm
      refine lv_aload_n hx hb dX7_on_31 rfl (lv_at hl 0 rfl) ?_
      refine lv_iconst (v := 1) hx hb dX7_on_32 (by decide) ?_
      obtain ⟨o33, e33, hm⟩ := ob hm
      refine after_i C hS (call_V (As := [.int 1]) C hS (c_X7_find l d q σ 1 o33 e33 _) iv_7_76 ⟨rfl, rfl, Nat.le_of_ble_eq_true rfl, Nat.le_of_ble_eq_true rfl⟩ mw_o0 rfl rfl rfl hl.1 (Nat.le_of_ble_eq_true rfl) dX7_on_33) (fun H locs hS => ?_)
      exact retIw (wf := mw q d) C hS hm dX7_on_36
  · replace hm := it c9 hm
    refine lv_iconst (v := (-1)) hx hb dX7_on_12 (by decide) ?_
    exact retIw (wf := mw q d) C hS hm dX7_on_13
def M_X7_isSet (σ : ST) (a1 : Int32) : Option Int32 := (M_X7_all σ).bind fun o4 => (M_X7_in a1.toInt64 0 o4.toInt64).bind fun o8 => okZ o8
abbrev rm_X7_isSet : Room := { frames := 1, cells := 0, slots := 0, locals := 25 }
set_option maxRecDepth 100000 in
set_option maxHeartbeats 4000000 in
theorem c_X7_isSet (l : Launch) (d : CD) (q : Nat → Nat) (σ : ST) (a1 : Int32) (out : Int32) (hm : M_X7_isSet σ a1 = some out) : MetI l yX7_isSet cX7_isSet 2 (some .boolean) rm_X7_isSet d (mw q d σ) [.ref (q 0), .int a1] out (mw q d σ) := by
  refine mkI (own := RX7) (by decide +kernel) rfl (Nat.le_of_ble_eq_true rfl) ?_
  intro p e s m below meth c A ls C hS hl
  obtain ⟨hx, hb, hml, hown, hts, -⟩ := id C
  have hl : lv_has ls 2 [(0, .ref (q 0)), (1, .int a1)] := hl
  unfold M_X7_isSet at hm
  refine lv_iload_n hx hb dX7_isSet_0 rfl (lv_at hl 1 rfl) ?_
  refine lv_i2l (v := a1.toInt64) hx hb dX7_isSet_1 rfl ?_
  refine lv_lconst (v := 0) hx hb dX7_isSet_2 (by decide) ?_
  refine lv_aload_n hx hb dX7_isSet_3 rfl (lv_at hl 0 rfl) ?_
  obtain ⟨o4, e4, hm⟩ := ob hm
  refine after_i C hS (call_V (As := []) C hS (c_X7_all l d q σ o4 e4 _) iv_7_164 ⟨rfl, rfl, Nat.le_of_ble_eq_true rfl, Nat.le_of_ble_eq_true rfl⟩ mw_o0 rfl rfl rfl hl.1 (Nat.le_of_ble_eq_true rfl) dX7_isSet_4) (fun H locs hS => ?_)
  refine lv_i2l (v := o4.toInt64) hx hb dX7_isSet_7 rfl ?_
  obtain ⟨o8, e8, hm⟩ := ob hm
  refine after_i C hS (call_S (As := [.long a1.toInt64, .long 0, .long o4.toInt64]) C hS (c_X7_in l d (mw q d σ) a1.toInt64 0 o4.toInt64 o8 e8 _) is_7_66 ⟨rfl, rfl, Nat.le_of_ble_eq_true rfl, Nat.le_of_ble_eq_true rfl⟩ rfl hl.1 (Nat.le_of_ble_eq_true rfl) dX7_isSet_8) (fun H locs hS => ?_)
  exact retZr C hS hm dX7_isSet_11
def M_X7_weight_24 (σ : ST) (x1 : Int32) (y1 : Int32) : Option (Int32 × ST) := (some (setI σ 12 (y1))).bind fun σ24 => (M_X7_weightOf σ24 x1).bind fun o29 => some (o29, σ24)
def M_X7_weight (σ : ST) (a1 : Int32) : Option (Int32 × ST) := (M_X7_isSet σ a1).bind fun o2 => if o2 = 0 then some ((-1), σ) else (M_X7_isOpen σ a1).bind fun o13 => if o13 = 0 then M_X7_weight_24 σ a1 0 else M_X7_weight_24 σ a1 1
abbrev rm_X7_weight : Room := { frames := 3, cells := 0, slots := 0, locals := 66 }
set_option maxRecDepth 100000 in
set_option maxHeartbeats 4000000 in
theorem c_X7_weight (l : Launch) (d : CD) (q : Nat → Nat) (σ : ST) (a1 : Int32) (out : Int32 × ST) (hm : M_X7_weight σ a1 = some out) : MetI l yX7_weight cX7_weight 2 (some .int) rm_X7_weight d (mw q d σ) [.ref (q 0), .int a1] out.1 (mw q d out.2) := by
  refine mkI (own := RX7) (by decide +kernel) rfl (Nat.le_of_ble_eq_true rfl) ?_
  intro p e s m below meth c A ls C hS hl
  obtain ⟨hx, hb, hml, hown, hts, -⟩ := id C
  have hl : lv_has ls 2 [(0, .ref (q 0)), (1, .int a1)] := hl
  have J24 : ∀ (σ : ST) (x1 : Int32) (y1 : Int32) (H : Heap) (locs : List Loc) (ls : Array Slot), HS d A s.heap H locs (mw q d σ) → lv_has ls 2 [(0, .ref (q 0)), (1, .int x1)] → M_X7_weight_24 σ x1 y1 = some out → WI p l e rm_X7_weight s m [.ref (q 0), .int a1].toArray below meth c A d H locs out.1 (mw q d out.2) (F0 m 24 ls [.int y1, .ref (q 0)]) := by
    intro σ x1 y1 H locs ls hS hl hm
    unfold M_X7_weight_24 at hm
    obtain ⟨σ24, e24, hm⟩ := ob hm
    refine p_7_61_0 C hS e24 dX7_weight_24 (fun H locs hS => ?_)
    refine lv_aload_n hx hb dX7_weight_27 rfl (lv_at hl 0 rfl) ?_
    refine lv_iload_n hx hb dX7_weight_28 rfl (lv_at hl 1 rfl) ?_
    obtain ⟨o29, e29, hm⟩ := ob hm
    refine after_i C hS (call_V (As := [.int x1]) C hS (c_X7_weightOf l d q σ24 x1 o29 e29 _) iv_7_170 ⟨rfl, rfl, Nat.le_of_ble_eq_true rfl, Nat.le_of_ble_eq_true rfl⟩ mw_o0 rfl rfl rfl hl.1 (Nat.le_of_ble_eq_true rfl) dX7_weight_29) (fun H locs hS => ?_)
    exact retIw (wf := mw q d) C hS hm dX7_weight_32
  unfold M_X7_weight at hm
  refine lv_aload_n hx hb dX7_weight_0 rfl (lv_at hl 0 rfl) ?_
  refine lv_iload_n hx hb dX7_weight_1 rfl (lv_at hl 1 rfl) ?_
  obtain ⟨o2, e2, hm⟩ := ob hm
  refine after_i C hS (call_V (As := [.int a1]) C hS (c_X7_isSet l d q σ a1 o2 e2 _) iv_7_219 ⟨rfl, rfl, Nat.le_of_ble_eq_true rfl, Nat.le_of_ble_eq_true rfl⟩ mw_o0 rfl rfl rfl hl.1 (Nat.le_of_ble_eq_true rfl) dX7_weight_2) (fun H locs hS => ?_)
  refine lv_if_ne (tgt := 10) hx hb dX7_weight_5 (by decide) (fun c5 => ?_) (fun c5 => ?_)
  · replace hm := ie c5 hm
    refine lv_aload_n hx hb dX7_weight_10 rfl (lv_at hl 0 rfl) ?_
    refine lv_aload_n hx hb dX7_weight_11 rfl (lv_at hl 0 rfl) ?_
    refine lv_iload_n hx hb dX7_weight_12 rfl (lv_at hl 1 rfl) ?_
    obtain ⟨o13, e13, hm⟩ := ob hm
    refine after_i C hS (call_V (As := [.int a1]) C hS (c_X7_isOpen l d q σ a1 o13 e13 _) iv_7_187 ⟨rfl, rfl, Nat.le_of_ble_eq_true rfl, Nat.le_of_ble_eq_true rfl⟩ mw_o0 rfl rfl rfl hl.1 (Nat.le_of_ble_eq_true rfl) dX7_weight_13) (fun H locs hS => ?_)
    refine lv_if_eq (tgt := 23) hx hb dX7_weight_16 (by decide) (fun c16 => ?_) (fun c16 => ?_)
    · replace hm := it c16 hm
      refine lv_iconst (v := 0) hx hb dX7_weight_23 (by decide) ?_
      exact J24 σ a1 0 _ _ _ hS (lv_sub hl [0, 1] rfl) hm
    · replace hm := ie c16 hm
      refine lv_iconst (v := 1) hx hb dX7_weight_19 (by decide) ?_
      refine lv_goto (tgt := 24) hx hb dX7_weight_20 (by decide) ?_
      exact J24 σ a1 1 _ _ _ hS (lv_sub hl [0, 1] rfl) hm
  · replace hm := it c5 hm
    refine lv_iconst (v := (-1)) hx hb dX7_weight_8 (by decide) ?_
    exact retIw (wf := mw q d) C hS hm dX7_weight_9
def M_X7_bits_4 : Nat → Int32 → Int32 → Int32 → Option Int32
  | 0, _, _, _ => none
  | n + 1, x0, x1, x2 => if 7 ≤ x2 then some x1 else M_X7_bits_4 n x0 (x1 + ((x0 >>> (x2 &&& 31)) &&& 1)) (x2 + 1)
def M_X7_bits (a0 : Int32) : Option Int32 := M_X7_bits_4 10000 a0 0 0
abbrev rm_X7_bits : Room := { frames := 0, cells := 0, slots := 0, locals := 0 }
set_option maxRecDepth 100000 in
set_option maxHeartbeats 4000000 in
theorem c_X7_bits (l : Launch) (d : CD) (w : va_W) (a0 : Int32) (out : Int32) (hm : M_X7_bits a0 = some out) : MetI l yX7_bits cX7_bits 3 (some .int) rm_X7_bits d w [.int a0] out w := by
  refine mkI (own := RX7) (by decide +kernel) rfl (Nat.le_of_ble_eq_true rfl) ?_
  intro p e s m below meth c A ls C hS hl
  obtain ⟨hx, hb, hml, hown, hts, -⟩ := id C
  have hl : lv_has ls 3 [(0, .int a0)] := hl
  have L4 : ∀ (n : Nat) (x0 : Int32) (x1 : Int32) (x2 : Int32) (H : Heap) (locs : List Loc) (ls : Array Slot), HS d A s.heap H locs w → lv_has ls 3 [(0, .int x0), (1, .int x1), (2, .int x2)] → M_X7_bits_4 n x0 x1 x2 = some out → WI p l e rm_X7_bits s m [.int a0].toArray below meth c A d H locs out w (F0 m 4 ls []) := by
    intro n
    induction n with
    | zero =>
      intro x0 x1 x2 H locs ls hS hl hm
      exact absurd hm (by rw [M_X7_bits_4]; exact fun h => nomatch h)
    | succ n ih =>
      intro x0 x1 x2 H locs ls hS hl hm
      rw [M_X7_bits_4] at hm
      refine lv_iload_n hx hb dX7_bits_4 rfl (lv_at hl 2 rfl) ?_
      refine lv_bipush (v := 7) hx hb dX7_bits_5 (by decide) ?_
      refine lv_icmp_ge (tgt := 24) hx hb dX7_bits_7 (by decide) (fun c7 => ?_) (fun c7 => ?_)
      · replace hm := it c7 hm
        refine lv_iload_n hx hb dX7_bits_24 rfl (lv_at hl 1 rfl) ?_
        exact retIr C hS hm dX7_bits_25
      · replace hm := ie c7 hm
        refine lv_iload_n hx hb dX7_bits_10 rfl (lv_at hl 1 rfl) ?_
        refine lv_iload_n hx hb dX7_bits_11 rfl (lv_at hl 0 rfl) ?_
        refine lv_iload_n hx hb dX7_bits_12 rfl (lv_at hl 2 rfl) ?_
        refine lv_ishr hx hb dX7_bits_13 ?_
        refine lv_iconst (v := 1) hx hb dX7_bits_14 (by decide) ?_
        refine lv_iand hx hb dX7_bits_15 ?_
        refine lv_iadd hx hb dX7_bits_16 ?_
        refine lv_istore_n (lv' := [(1, .int (x1 + ((x0 >>> (x2 &&& 31)) &&& 1))), (0, .int x0), (2, .int x2)]) hx hb dX7_bits_17 rfl hl (by decide) rfl (fun ls hl => ?_)
        refine lv_iinc (v := x2 + 1) (lv' := [(2, .int (x2 + 1)), (1, .int (x1 + ((x0 >>> (x2 &&& 31)) &&& 1))), (0, .int x0)]) hx hb dX7_bits_18 hl (k := 2) rfl rfl (by decide) rfl (fun ls hl => ?_)
        refine lv_goto (tgt := 4) hx hb dX7_bits_21 (by decide) ?_
        exact ih x0 (x1 + ((x0 >>> (x2 &&& 31)) &&& 1)) (x2 + 1) _ _ _ hS (lv_sub hl [2, 1, 0] rfl) hm
  unfold M_X7_bits at hm
  refine lv_iconst (v := 0) hx hb dX7_bits_0 (by decide) ?_
  refine lv_istore_n (lv' := [(1, .int 0), (0, .int a0)]) hx hb dX7_bits_1 rfl hl (by decide) rfl (fun ls hl => ?_)
  refine lv_iconst (v := 0) hx hb dX7_bits_2 (by decide) ?_
  refine lv_istore_n (lv' := [(2, .int 0), (1, .int 0), (0, .int a0)]) hx hb dX7_bits_3 rfl hl (by decide) rfl (fun ls hl => ?_)
  exact L4 10000 a0 0 0 _ _ _ hS (lv_sub hl [2, 1, 0] rfl) hm
def M_X7_tellMany (σ : ST) (a1 : Int64) : Option (Int32 × ST) := (some (setL σ 13 (a1))).bind fun σ2 => (some (setL σ2 14 (1))).bind fun σ7 => some (1, σ7)
abbrev rm_X7_tellMany : Room := { frames := 0, cells := 0, slots := 0, locals := 0 }
set_option maxRecDepth 100000 in
set_option maxHeartbeats 4000000 in
theorem c_X7_tellMany (l : Launch) (d : CD) (q : Nat → Nat) (σ : ST) (a1 : Int64) (out : Int32 × ST) (hm : M_X7_tellMany σ a1 = some out) : MetI l yX7_tellMany cX7_tellMany 3 (some .int) rm_X7_tellMany d (mw q d σ) [.ref (q 0), .long a1] out.1 (mw q d out.2) := by
  refine mkI (own := RX7) (by decide +kernel) rfl (Nat.le_of_ble_eq_true rfl) ?_
  intro p e s m below meth c A ls C hS hl
  obtain ⟨hx, hb, hml, hown, hts, -⟩ := id C
  have hl : lv_has ls 3 [(0, .ref (q 0)), (1, .long a1)] := hl
  unfold M_X7_tellMany at hm
  refine lv_aload_n hx hb dX7_tellMany_0 rfl (lv_at hl 0 rfl) ?_
  refine lv_lload_n hx hb dX7_tellMany_1 rfl (lv_at hl 1 rfl) ?_
  obtain ⟨σ2, e2, hm⟩ := ob hm
  refine p_7_222_0 C hS e2 dX7_tellMany_2 (fun H locs hS => ?_)
  refine lv_aload_n hx hb dX7_tellMany_5 rfl (lv_at hl 0 rfl) ?_
  refine lv_lconst (v := 1) hx hb dX7_tellMany_6 (by decide) ?_
  obtain ⟨σ7, e7, hm⟩ := ob hm
  refine p_7_34_0 C hS e7 dX7_tellMany_7 (fun H locs hS => ?_)
  refine lv_iconst (v := 1) hx hb dX7_tellMany_10 (by decide) ?_
  exact retIw (wf := mw q d) C hS hm dX7_tellMany_11
def M_X7_opens_72 (k10 : ST → Int32 → Int32 → Option (Int32 × ST)) (σ : ST) (x1 : Int32) (x2 : Int32) (y1 : Int32) : Option (Int32 × ST) := (some (setI σ 12 (y1))).bind fun σ72 => k10 σ72 x1 (x2 + 1)
def M_X7_opens_68 (k10 : ST → Int32 → Int32 → Option (Int32 × ST)) (σ : ST) (x1 : Int32) (x2 : Int32) : Option (Int32 × ST) := M_X7_opens_72 k10 σ x1 x2 (σ.1 12)
def M_X7_opens_64 (k10 : ST → Int32 → Int32 → Option (Int32 × ST)) (σ : ST) (x1 : Int32) (x2 : Int32) : Option (Int32 × ST) := M_X7_opens_72 k10 σ x1 x2 x2
def M_X7_opens_34 (k10 : ST → Int32 → Int32 → Option (Int32 × ST)) (σ : ST) (x2 : Int32) (x3 : Int32) (y0 : Int32) (y1 : Int32) : Option (Int32 × ST) := if x3 = 0 then M_X7_opens_68 k10 σ (y0 + y1) x2 else if (σ.1 12) = (-9) then M_X7_opens_64 k10 σ (y0 + y1) x2 else (M_X7_bits x2).bind fun o51 => (M_X7_bits (σ.1 12)).bind fun o58 => if o58 ≤ o51 then M_X7_opens_68 k10 σ (y0 + y1) x2 else M_X7_opens_64 k10 σ (y0 + y1) x2
def M_X7_opens_10 : Nat → ST → Int32 → Int32 → Option (Int32 × ST)
  | 0, _, _, _ => none
  | n + 1, σ, x1, x2 => (M_X7_all σ).bind fun o12 => if o12 < x2 then (M_X7_tellMany σ x1.toInt64).bind fun o84 => some (o84.1, o84.2) else (M_X7_isOpen σ x2).bind fun o20 => if o20 = 0 then M_X7_opens_34 (M_X7_opens_10 n) σ x2 o20 x1 0 else M_X7_opens_34 (M_X7_opens_10 n) σ x2 o20 x1 1
def M_X7_opens (σ : ST) : Option (Int32 × ST) := (some (setI σ 12 ((-9)))).bind fun σ5 => M_X7_opens_10 10000 σ5 0 0
abbrev rm_X7_opens : Room := { frames := 3, cells := 0, slots := 0, locals := 66 }
set_option maxRecDepth 100000 in
set_option maxHeartbeats 4000000 in
theorem c_X7_opens (l : Launch) (d : CD) (q : Nat → Nat) (σ : ST) (out : Int32 × ST) (hm : M_X7_opens σ = some out) : MetI l yX7_opens cX7_opens 4 (some .int) rm_X7_opens d (mw q d σ) [.ref (q 0)] out.1 (mw q d out.2) := by
  refine mkI (own := RX7) (by decide +kernel) rfl (Nat.le_of_ble_eq_true rfl) ?_
  intro p e s m below meth c A ls C hS hl
  obtain ⟨hx, hb, hml, hown, hts, -⟩ := id C
  have hl : lv_has ls 4 [(0, .ref (q 0))] := hl
  have J72 : ∀ (k10 : ST → Int32 → Int32 → Option (Int32 × ST)) (hk10 : ∀ (σ : ST) (x1 : Int32) (x2 : Int32) (H : Heap) (locs : List Loc) (ls : Array Slot), HS d A s.heap H locs (mw q d σ) → lv_has ls 4 [(0, .ref (q 0)), (1, .int x1), (2, .int x2)] → k10 σ x1 x2 = some out → WI p l e rm_X7_opens s m [.ref (q 0)].toArray below meth c A d H locs out.1 (mw q d out.2) (F0 m 10 ls [])) (σ : ST) (x1 : Int32) (x2 : Int32) (y1 : Int32) (H : Heap) (locs : List Loc) (ls : Array Slot), HS d A s.heap H locs (mw q d σ) → lv_has ls 4 [(0, .ref (q 0)), (1, .int x1), (2, .int x2)] → M_X7_opens_72 k10 σ x1 x2 y1 = some out → WI p l e rm_X7_opens s m [.ref (q 0)].toArray below meth c A d H locs out.1 (mw q d out.2) (F0 m 72 ls [.int y1, .ref (q 0)]) := by
    intro k10 hk10 σ x1 x2 y1 H locs ls hS hl hm
    unfold M_X7_opens_72 at hm
    obtain ⟨σ72, e72, hm⟩ := ob hm
    refine p_7_61_0 C hS e72 dX7_opens_72 (fun H locs hS => ?_)
    refine lv_iinc (v := x2 + 1) (lv' := [(2, .int (x2 + 1)), (0, .ref (q 0)), (1, .int x1)]) hx hb dX7_opens_75 hl (k := 2) rfl rfl (by decide) rfl (fun ls hl => ?_)
    refine lv_goto (tgt := 10) hx hb dX7_opens_78 (by decide) ?_
    exact hk10 σ72 x1 (x2 + 1) _ _ _ hS (lv_sub hl [1, 2, 0] rfl) hm
  have J68 : ∀ (k10 : ST → Int32 → Int32 → Option (Int32 × ST)) (hk10 : ∀ (σ : ST) (x1 : Int32) (x2 : Int32) (H : Heap) (locs : List Loc) (ls : Array Slot), HS d A s.heap H locs (mw q d σ) → lv_has ls 4 [(0, .ref (q 0)), (1, .int x1), (2, .int x2)] → k10 σ x1 x2 = some out → WI p l e rm_X7_opens s m [.ref (q 0)].toArray below meth c A d H locs out.1 (mw q d out.2) (F0 m 10 ls [])) (σ : ST) (x1 : Int32) (x2 : Int32) (H : Heap) (locs : List Loc) (ls : Array Slot), HS d A s.heap H locs (mw q d σ) → lv_has ls 4 [(0, .ref (q 0)), (1, .int x1), (2, .int x2)] → M_X7_opens_68 k10 σ x1 x2 = some out → WI p l e rm_X7_opens s m [.ref (q 0)].toArray below meth c A d H locs out.1 (mw q d out.2) (F0 m 68 ls [.ref (q 0)]) := by
    intro k10 hk10 σ x1 x2 H locs ls hS hl hm
    unfold M_X7_opens_68 at hm
    refine lv_aload_n hx hb dX7_opens_68 rfl (lv_at hl 0 rfl) ?_
    refine g_7_61_0 C hS dX7_opens_69 ?_
    exact J72 k10 hk10 σ x1 x2 (σ.1 12) _ _ _ hS (lv_sub hl [0, 1, 2] rfl) hm
  have J64 : ∀ (k10 : ST → Int32 → Int32 → Option (Int32 × ST)) (hk10 : ∀ (σ : ST) (x1 : Int32) (x2 : Int32) (H : Heap) (locs : List Loc) (ls : Array Slot), HS d A s.heap H locs (mw q d σ) → lv_has ls 4 [(0, .ref (q 0)), (1, .int x1), (2, .int x2)] → k10 σ x1 x2 = some out → WI p l e rm_X7_opens s m [.ref (q 0)].toArray below meth c A d H locs out.1 (mw q d out.2) (F0 m 10 ls [])) (σ : ST) (x1 : Int32) (x2 : Int32) (H : Heap) (locs : List Loc) (ls : Array Slot), HS d A s.heap H locs (mw q d σ) → lv_has ls 4 [(0, .ref (q 0)), (1, .int x1), (2, .int x2)] → M_X7_opens_64 k10 σ x1 x2 = some out → WI p l e rm_X7_opens s m [.ref (q 0)].toArray below meth c A d H locs out.1 (mw q d out.2) (F0 m 64 ls [.ref (q 0)]) := by
    intro k10 hk10 σ x1 x2 H locs ls hS hl hm
    unfold M_X7_opens_64 at hm
    refine lv_iload_n hx hb dX7_opens_64 rfl (lv_at hl 2 rfl) ?_
    refine lv_goto (tgt := 72) hx hb dX7_opens_65 (by decide) ?_
    exact J72 k10 hk10 σ x1 x2 x2 _ _ _ hS (lv_sub hl [0, 1, 2] rfl) hm
  have J34 : ∀ (k10 : ST → Int32 → Int32 → Option (Int32 × ST)) (hk10 : ∀ (σ : ST) (x1 : Int32) (x2 : Int32) (H : Heap) (locs : List Loc) (ls : Array Slot), HS d A s.heap H locs (mw q d σ) → lv_has ls 4 [(0, .ref (q 0)), (1, .int x1), (2, .int x2)] → k10 σ x1 x2 = some out → WI p l e rm_X7_opens s m [.ref (q 0)].toArray below meth c A d H locs out.1 (mw q d out.2) (F0 m 10 ls [])) (σ : ST) (x2 : Int32) (x3 : Int32) (y0 : Int32) (y1 : Int32) (H : Heap) (locs : List Loc) (ls : Array Slot), HS d A s.heap H locs (mw q d σ) → lv_has ls 4 [(0, .ref (q 0)), (2, .int x2), (3, .int x3)] → M_X7_opens_34 k10 σ x2 x3 y0 y1 = some out → WI p l e rm_X7_opens s m [.ref (q 0)].toArray below meth c A d H locs out.1 (mw q d out.2) (F0 m 34 ls [.int y1, .int y0]) := by
    intro k10 hk10 σ x2 x3 y0 y1 H locs ls hS hl hm
    unfold M_X7_opens_34 at hm
    refine lv_iadd hx hb dX7_opens_34 ?_
    refine lv_istore_n (lv' := [(1, .int (y0 + y1)), (0, .ref (q 0)), (2, .int x2), (3, .int x3)]) hx hb dX7_opens_35 rfl hl (by decide) rfl (fun ls hl => ?_)
    refine lv_aload_n hx hb dX7_opens_36 rfl (lv_at hl 1 rfl) ?_
    refine lv_iload_n hx hb dX7_opens_37 rfl (lv_at hl 3 rfl) ?_
    refine lv_if_eq (tgt := 68) hx hb dX7_opens_38 (by decide) (fun c38 => ?_) (fun c38 => ?_)
    · replace hm := it c38 hm
      exact J68 k10 hk10 σ (y0 + y1) x2 _ _ _ hS (lv_sub hl [1, 0, 2] rfl) hm
    · replace hm := ie c38 hm
      refine lv_aload_n hx hb dX7_opens_41 rfl (lv_at hl 1 rfl) ?_
      refine g_7_61_0 C hS dX7_opens_42 ?_
      refine lv_bipush (v := (-9)) hx hb dX7_opens_45 (by decide) ?_
      refine lv_icmp_eq (tgt := 64) hx hb dX7_opens_47 (by decide) (fun c47 => ?_) (fun c47 => ?_)
      · replace hm := it c47 hm
        exact J64 k10 hk10 σ (y0 + y1) x2 _ _ _ hS (lv_sub hl [1, 0, 2] rfl) hm
      · replace hm := ie c47 hm
        refine lv_iload_n hx hb dX7_opens_50 rfl (lv_at hl 2 rfl) ?_
        obtain ⟨o51, e51, hm⟩ := ob hm
        refine after_i C hS (call_S (As := [.int x2]) C hS (c_X7_bits l d (mw q d σ) x2 o51 e51 _) is_7_225 ⟨rfl, rfl, Nat.le_of_ble_eq_true rfl, Nat.le_of_ble_eq_true rfl⟩ rfl hl.1 (Nat.le_of_ble_eq_true rfl) dX7_opens_51) (fun H locs hS => ?_)
        refine lv_aload_n hx hb dX7_opens_54 rfl (lv_at hl 1 rfl) ?_
        refine g_7_61_0 C hS dX7_opens_55 ?_
        obtain ⟨o58, e58, hm⟩ := ob hm
        refine after_i C hS (call_S (As := [.int (σ.1 12)]) C hS (c_X7_bits l d (mw q d σ) (σ.1 12) o58 e58 _) is_7_225 ⟨rfl, rfl, Nat.le_of_ble_eq_true rfl, Nat.le_of_ble_eq_true rfl⟩ rfl hl.1 (Nat.le_of_ble_eq_true rfl) dX7_opens_58) (fun H locs hS => ?_)
        refine lv_icmp_ge (tgt := 68) hx hb dX7_opens_61 (by decide) (fun c61 => ?_) (fun c61 => ?_)
        · replace hm := it c61 hm
          exact J68 k10 hk10 σ (y0 + y1) x2 _ _ _ hS (lv_sub hl [1, 0, 2] rfl) hm
        · replace hm := ie c61 hm
          exact J64 k10 hk10 σ (y0 + y1) x2 _ _ _ hS (lv_sub hl [1, 0, 2] rfl) hm
  have L10 : ∀ (n : Nat) (σ : ST) (x1 : Int32) (x2 : Int32) (H : Heap) (locs : List Loc) (ls : Array Slot), HS d A s.heap H locs (mw q d σ) → lv_has ls 4 [(0, .ref (q 0)), (1, .int x1), (2, .int x2)] → M_X7_opens_10 n σ x1 x2 = some out → WI p l e rm_X7_opens s m [.ref (q 0)].toArray below meth c A d H locs out.1 (mw q d out.2) (F0 m 10 ls []) := by
    intro n
    induction n with
    | zero =>
      intro σ x1 x2 H locs ls hS hl hm
      exact absurd hm (by rw [M_X7_opens_10]; exact fun h => nomatch h)
    | succ n ih =>
      intro σ x1 x2 H locs ls hS hl hm
      rw [M_X7_opens_10] at hm
      refine lv_iload_n hx hb dX7_opens_10 rfl (lv_at hl 2 rfl) ?_
      refine lv_aload_n hx hb dX7_opens_11 rfl (lv_at hl 0 rfl) ?_
      obtain ⟨o12, e12, hm⟩ := ob hm
      refine after_i C hS (call_V (As := []) C hS (c_X7_all l d q σ o12 e12 _) iv_7_164 ⟨rfl, rfl, Nat.le_of_ble_eq_true rfl, Nat.le_of_ble_eq_true rfl⟩ mw_o0 rfl rfl rfl hl.1 (Nat.le_of_ble_eq_true rfl) dX7_opens_12) (fun H locs hS => ?_)
      refine lv_icmp_gt (tgt := 81) hx hb dX7_opens_15 (by decide) (fun c15 => ?_) (fun c15 => ?_)
      · replace hm := it c15 hm
        refine lv_aload_n hx hb dX7_opens_81 rfl (lv_at hl 0 rfl) ?_
        refine lv_iload_n hx hb dX7_opens_82 rfl (lv_at hl 1 rfl) ?_
        refine lv_i2l (v := x1.toInt64) hx hb dX7_opens_83 rfl ?_
        obtain ⟨o84, e84, hm⟩ := ob hm
        refine after_i C hS (call_V (As := [.long x1.toInt64]) C hS (c_X7_tellMany l d q σ x1.toInt64 o84 e84 _) iv_7_228 ⟨rfl, rfl, Nat.le_of_ble_eq_true rfl, Nat.le_of_ble_eq_true rfl⟩ mw_o0 rfl rfl rfl hl.1 (Nat.le_of_ble_eq_true rfl) dX7_opens_84) (fun H locs hS => ?_)
        exact retIw (wf := mw q d) C hS hm dX7_opens_87
      · replace hm := ie c15 hm
        refine lv_aload_n hx hb dX7_opens_18 rfl (lv_at hl 0 rfl) ?_
        refine lv_iload_n hx hb dX7_opens_19 rfl (lv_at hl 2 rfl) ?_
        obtain ⟨o20, e20, hm⟩ := ob hm
        refine after_i C hS (call_V (As := [.int x2]) C hS (c_X7_isOpen l d q σ x2 o20 e20 _) iv_7_187 ⟨rfl, rfl, Nat.le_of_ble_eq_true rfl, Nat.le_of_ble_eq_true rfl⟩ mw_o0 rfl rfl rfl hl.1 (Nat.le_of_ble_eq_true rfl) dX7_opens_20) (fun H locs hS => ?_)
        refine lv_istore_n (lv' := [(3, .int o20), (0, .ref (q 0)), (1, .int x1), (2, .int x2)]) hx hb dX7_opens_23 rfl hl (by decide) rfl (fun ls hl => ?_)
        refine lv_iload_n hx hb dX7_opens_24 rfl (lv_at hl 2 rfl) ?_
        refine lv_iload_n hx hb dX7_opens_25 rfl (lv_at hl 0 rfl) ?_
        refine lv_if_eq (tgt := 33) hx hb dX7_opens_26 (by decide) (fun c26 => ?_) (fun c26 => ?_)
        · replace hm := it c26 hm
          refine lv_iconst (v := 0) hx hb dX7_opens_33 (by decide) ?_
          exact J34 (M_X7_opens_10 n) ih σ x2 o20 x1 0 _ _ _ hS (lv_sub hl [1, 3, 0] rfl) hm
        · replace hm := ie c26 hm
          refine lv_iconst (v := 1) hx hb dX7_opens_29 (by decide) ?_
          refine lv_goto (tgt := 34) hx hb dX7_opens_30 (by decide) ?_
          exact J34 (M_X7_opens_10 n) ih σ x2 o20 x1 1 _ _ _ hS (lv_sub hl [1, 3, 0] rfl) hm
  unfold M_X7_opens at hm
  refine lv_iconst (v := 0) hx hb dX7_opens_0 (by decide) ?_
  refine lv_istore_n (lv' := [(1, .int 0), (0, .ref (q 0))]) hx hb dX7_opens_1 rfl hl (by decide) rfl (fun ls hl => ?_)
  refine lv_aload_n hx hb dX7_opens_2 rfl (lv_at hl 1 rfl) ?_
  refine lv_bipush (v := (-9)) hx hb dX7_opens_3 (by decide) ?_
  obtain ⟨σ5, e5, hm⟩ := ob hm
  refine p_7_61_0 C hS e5 dX7_opens_5 (fun H locs hS => ?_)
  refine lv_iconst (v := 0) hx hb dX7_opens_8 (by decide) ?_
  refine lv_istore_n (lv' := [(2, .int 0), (1, .int 0), (0, .ref (q 0))]) hx hb dX7_opens_9 rfl hl (by decide) rfl (fun ls hl => ?_)
  exact L10 10000 σ5 0 0 _ _ _ hS (lv_sub hl [2, 1, 0] rfl) hm
def M_X7_must_12 : Nat → ST → Int32 → Int32 → Int32 → Int32 → Option (Int32 × ST)
  | 0, _, _, _, _, _ => none
  | n + 1, σ, x1, x2, x3, x4 => (M_X7_all σ).bind fun o15 => if o15 < x4 then if x3 = 0 then some ((-4), σ) else (some (setI σ 12 (x2))).bind fun σ57 => some (x1, σ57) else (M_X7_isOpen σ x4).bind fun o24 => if o24 = 0 then M_X7_must_12 n σ x1 x2 x3 (x4 + 1) else M_X7_must_12 n σ (x1 &&& x4) (x2 ||| x4) 1 (x4 + 1)
def M_X7_must (σ : ST) : Option (Int32 × ST) := (M_X7_all σ).bind fun o1 => M_X7_must_12 10000 σ o1 0 0 0
abbrev rm_X7_must : Room := { frames := 3, cells := 0, slots := 0, locals := 66 }
set_option maxRecDepth 100000 in
set_option maxHeartbeats 4000000 in
theorem c_X7_must (l : Launch) (d : CD) (q : Nat → Nat) (σ : ST) (out : Int32 × ST) (hm : M_X7_must σ = some out) : MetI l yX7_must cX7_must 5 (some .int) rm_X7_must d (mw q d σ) [.ref (q 0)] out.1 (mw q d out.2) := by
  refine mkI (own := RX7) (by decide +kernel) rfl (Nat.le_of_ble_eq_true rfl) ?_
  intro p e s m below meth c A ls C hS hl
  obtain ⟨hx, hb, hml, hown, hts, -⟩ := id C
  have hl : lv_has ls 5 [(0, .ref (q 0))] := hl
  have L12 : ∀ (n : Nat) (σ : ST) (x1 : Int32) (x2 : Int32) (x3 : Int32) (x4 : Int32) (H : Heap) (locs : List Loc) (ls : Array Slot), HS d A s.heap H locs (mw q d σ) → lv_has ls 5 [(0, .ref (q 0)), (1, .int x1), (2, .int x2), (3, .int x3), (4, .int x4)] → M_X7_must_12 n σ x1 x2 x3 x4 = some out → WI p l e rm_X7_must s m [.ref (q 0)].toArray below meth c A d H locs out.1 (mw q d out.2) (F0 m 12 ls []) := by
    intro n
    induction n with
    | zero =>
      intro σ x1 x2 x3 x4 H locs ls hS hl hm
      exact absurd hm (by rw [M_X7_must_12]; exact fun h => nomatch h)
    | succ n ih =>
      intro σ x1 x2 x3 x4 H locs ls hS hl hm
      rw [M_X7_must_12] at hm
      refine lv_iload hx hb dX7_must_12 (lv_at hl 4 rfl) ?_
      refine lv_aload_n hx hb dX7_must_14 rfl (lv_at hl 0 rfl) ?_
      obtain ⟨o15, e15, hm⟩ := ob hm
      refine after_i C hS (call_V (As := []) C hS (c_X7_all l d q σ o15 e15 _) iv_7_164 ⟨rfl, rfl, Nat.le_of_ble_eq_true rfl, Nat.le_of_ble_eq_true rfl⟩ mw_o0 rfl rfl rfl hl.1 (Nat.le_of_ble_eq_true rfl) dX7_must_15) (fun H locs hS => ?_)
      refine lv_icmp_gt (tgt := 48) hx hb dX7_must_18 (by decide) (fun c18 => ?_) (fun c18 => ?_)
      · replace hm := it c18 hm
        refine lv_iload_n hx hb dX7_must_48 rfl (lv_at hl 3 rfl) ?_
        refine lv_if_ne (tgt := 55) hx hb dX7_must_49 (by decide) (fun c49 => ?_) (fun c49 => ?_)
        · replace hm := ie c49 hm
          refine lv_aload_n hx hb dX7_must_55 rfl (lv_at hl 0 rfl) ?_
          refine lv_iload_n hx hb dX7_must_56 rfl (lv_at hl 2 rfl) ?_
          obtain ⟨σ57, e57, hm⟩ := ob hm
          refine p_7_61_0 C hS e57 dX7_must_57 (fun H locs hS => ?_)
          refine lv_iload_n hx hb dX7_must_60 rfl (lv_at hl 1 rfl) ?_
          exact retIw (wf := mw q d) C hS hm dX7_must_61
        · replace hm := it c49 hm
          refine lv_bipush (v := (-4)) hx hb dX7_must_52 (by decide) ?_
          exact retIw (wf := mw q d) C hS hm dX7_must_54
      · replace hm := ie c18 hm
        refine lv_aload_n hx hb dX7_must_21 rfl (lv_at hl 0 rfl) ?_
        refine lv_iload hx hb dX7_must_22 (lv_at hl 4 rfl) ?_
        obtain ⟨o24, e24, hm⟩ := ob hm
        refine after_i C hS (call_V (As := [.int x4]) C hS (c_X7_isOpen l d q σ x4 o24 e24 _) iv_7_187 ⟨rfl, rfl, Nat.le_of_ble_eq_true rfl, Nat.le_of_ble_eq_true rfl⟩ mw_o0 rfl rfl rfl hl.1 (Nat.le_of_ble_eq_true rfl) dX7_must_24) (fun H locs hS => ?_)
        refine lv_if_eq (tgt := 42) hx hb dX7_must_27 (by decide) (fun c27 => ?_) (fun c27 => ?_)
        · replace hm := it c27 hm
          refine lv_iinc (v := x4 + 1) (lv' := [(4, .int (x4 + 1)), (0, .ref (q 0)), (1, .int x1), (2, .int x2), (3, .int x3)]) hx hb dX7_must_42 hl (k := 4) rfl rfl (by decide) rfl (fun ls hl => ?_)
          refine lv_goto (tgt := 12) hx hb dX7_must_45 (by decide) ?_
          exact ih σ x1 x2 x3 (x4 + 1) _ _ _ hS (lv_sub hl [1, 2, 3, 4, 0] rfl) hm
        · replace hm := ie c27 hm
          refine lv_iload_n hx hb dX7_must_30 rfl (lv_at hl 1 rfl) ?_
          refine lv_iload hx hb dX7_must_31 (lv_at hl 4 rfl) ?_
          refine lv_iand hx hb dX7_must_33 ?_
          refine lv_istore_n (lv' := [(1, .int (x1 &&& x4)), (0, .ref (q 0)), (2, .int x2), (3, .int x3), (4, .int x4)]) hx hb dX7_must_34 rfl hl (by decide) rfl (fun ls hl => ?_)
          refine lv_iload_n hx hb dX7_must_35 rfl (lv_at hl 2 rfl) ?_
          refine lv_iload hx hb dX7_must_36 (lv_at hl 4 rfl) ?_
          refine lv_ior hx hb dX7_must_38 ?_
          refine lv_istore_n (lv' := [(2, .int (x2 ||| x4)), (1, .int (x1 &&& x4)), (0, .ref (q 0)), (3, .int x3), (4, .int x4)]) hx hb dX7_must_39 rfl hl (by decide) rfl (fun ls hl => ?_)
          refine lv_iconst (v := 1) hx hb dX7_must_40 (by decide) ?_
          refine lv_istore_n (lv' := [(3, .int 1), (2, .int (x2 ||| x4)), (1, .int (x1 &&& x4)), (0, .ref (q 0)), (4, .int x4)]) hx hb dX7_must_41 rfl hl (by decide) rfl (fun ls hl => ?_)
          refine lv_iinc (v := x4 + 1) (lv' := [(4, .int (x4 + 1)), (3, .int 1), (2, .int (x2 ||| x4)), (1, .int (x1 &&& x4)), (0, .ref (q 0))]) hx hb dX7_must_42 hl (k := 4) rfl rfl (by decide) rfl (fun ls hl => ?_)
          refine lv_goto (tgt := 12) hx hb dX7_must_45 (by decide) ?_
          exact ih σ (x1 &&& x4) (x2 ||| x4) 1 (x4 + 1) _ _ _ hS (lv_sub hl [4, 3, 2, 1, 0] rfl) hm
  unfold M_X7_must at hm
  refine lv_aload_n hx hb dX7_must_0 rfl (lv_at hl 0 rfl) ?_
  obtain ⟨o1, e1, hm⟩ := ob hm
  refine after_i C hS (call_V (As := []) C hS (c_X7_all l d q σ o1 e1 _) iv_7_164 ⟨rfl, rfl, Nat.le_of_ble_eq_true rfl, Nat.le_of_ble_eq_true rfl⟩ mw_o0 rfl rfl rfl hl.1 (Nat.le_of_ble_eq_true rfl) dX7_must_1) (fun H locs hS => ?_)
  refine lv_istore_n (lv' := [(1, .int o1), (0, .ref (q 0))]) hx hb dX7_must_4 rfl hl (by decide) rfl (fun ls hl => ?_)
  refine lv_iconst (v := 0) hx hb dX7_must_5 (by decide) ?_
  refine lv_istore_n (lv' := [(2, .int 0), (1, .int o1), (0, .ref (q 0))]) hx hb dX7_must_6 rfl hl (by decide) rfl (fun ls hl => ?_)
  refine lv_iconst (v := 0) hx hb dX7_must_7 (by decide) ?_
  refine lv_istore_n (lv' := [(3, .int 0), (2, .int 0), (1, .int o1), (0, .ref (q 0))]) hx hb dX7_must_8 rfl hl (by decide) rfl (fun ls hl => ?_)
  refine lv_iconst (v := 0) hx hb dX7_must_9 (by decide) ?_
  refine lv_istore (lv' := [(4, .int 0), (3, .int 0), (2, .int 0), (1, .int o1), (0, .ref (q 0))]) hx hb dX7_must_10 hl (by decide) rfl (fun ls hl => ?_)
  exact L12 10000 σ o1 0 0 0 _ _ _ hS (lv_sub hl [4, 3, 2, 1, 0] rfl) hm
def M_X7_holds_14 (σ : ST) : Nat → Int32 → Int32 → Int32 → Option Int32
  | 0, _, _, _ => none
  | n + 1, x1, x2, x3 => (M_X7_all σ).bind fun o16 => if o16 < x3 then some x2 else (M_X7_has x3 x1).bind fun o25 => if o25 = 0 then M_X7_holds_14 σ n x1 (x2 + 0) (x3 + 1) else (M_X7_isOpen σ x3).bind fun o33 => if o33 = 0 then M_X7_holds_14 σ n x1 (x2 + 0) (x3 + 1) else (M_X7_isOpen σ (x3 &&& (((1 : Int32) <<< (x1 &&& 31)) ^^^ (-1)))).bind fun o47 => if o47 = 0 then M_X7_holds_14 σ n x1 (x2 + 1) (x3 + 1) else M_X7_holds_14 σ n x1 (x2 + 0) (x3 + 1)
def M_X7_holds (σ : ST) (a1 : Int32) : Option Int32 := (M_X7_isHouse σ a1).bind fun o2 => if o2 = 0 then some (-1) else M_X7_holds_14 σ 10000 a1 0 0
abbrev rm_X7_holds : Room := { frames := 3, cells := 0, slots := 0, locals := 66 }
set_option maxRecDepth 100000 in
set_option maxHeartbeats 4000000 in
theorem c_X7_holds (l : Launch) (d : CD) (q : Nat → Nat) (σ : ST) (a1 : Int32) (out : Int32) (hm : M_X7_holds σ a1 = some out) : MetI l yX7_holds cX7_holds 4 (some .int) rm_X7_holds d (mw q d σ) [.ref (q 0), .int a1] out (mw q d σ) := by
  refine mkI (own := RX7) (by decide +kernel) rfl (Nat.le_of_ble_eq_true rfl) ?_
  intro p e s m below meth c A ls C hS hl
  obtain ⟨hx, hb, hml, hown, hts, -⟩ := id C
  have hl : lv_has ls 4 [(0, .ref (q 0)), (1, .int a1)] := hl
  have L14 : ∀ (n : Nat) (x1 : Int32) (x2 : Int32) (x3 : Int32) (H : Heap) (locs : List Loc) (ls : Array Slot), HS d A s.heap H locs (mw q d σ) → lv_has ls 4 [(0, .ref (q 0)), (1, .int x1), (2, .int x2), (3, .int x3)] → M_X7_holds_14 σ n x1 x2 x3 = some out → WI p l e rm_X7_holds s m [.ref (q 0), .int a1].toArray below meth c A d H locs out (mw q d σ) (F0 m 14 ls []) := by
    intro n
    induction n with
    | zero =>
      intro x1 x2 x3 H locs ls hS hl hm
      exact absurd hm (by rw [M_X7_holds_14]; exact fun h => nomatch h)
    | succ n ih =>
      intro x1 x2 x3 H locs ls hS hl hm
      rw [M_X7_holds_14] at hm
      refine lv_iload_n hx hb dX7_holds_14 rfl (lv_at hl 3 rfl) ?_
      refine lv_aload_n hx hb dX7_holds_15 rfl (lv_at hl 0 rfl) ?_
      obtain ⟨o16, e16, hm⟩ := ob hm
      refine after_i C hS (call_V (As := []) C hS (c_X7_all l d q σ o16 e16 _) iv_7_164 ⟨rfl, rfl, Nat.le_of_ble_eq_true rfl, Nat.le_of_ble_eq_true rfl⟩ mw_o0 rfl rfl rfl hl.1 (Nat.le_of_ble_eq_true rfl) dX7_holds_16) (fun H locs hS => ?_)
      refine lv_icmp_gt (tgt := 66) hx hb dX7_holds_19 (by decide) (fun c19 => ?_) (fun c19 => ?_)
      · replace hm := it c19 hm
        refine lv_iload_n hx hb dX7_holds_66 rfl (lv_at hl 2 rfl) ?_
        exact retIr C hS hm dX7_holds_67
      · replace hm := ie c19 hm
        refine lv_iload_n hx hb dX7_holds_22 rfl (lv_at hl 2 rfl) ?_
        refine lv_iload_n hx hb dX7_holds_23 rfl (lv_at hl 3 rfl) ?_
        refine lv_iload_n hx hb dX7_holds_24 rfl (lv_at hl 1 rfl) ?_
        obtain ⟨o25, e25, hm⟩ := ob hm
        refine after_i C hS (call_S (As := [.int x3, .int x1]) C hS (c_X7_has l d (mw q d σ) x3 x1 o25 e25 _) is_7_135 ⟨rfl, rfl, Nat.le_of_ble_eq_true rfl, Nat.le_of_ble_eq_true rfl⟩ rfl hl.1 (Nat.le_of_ble_eq_true rfl) dX7_holds_25) (fun H locs hS => ?_)
        refine lv_if_eq (tgt := 57) hx hb dX7_holds_28 (by decide) (fun c28 => ?_) (fun c28 => ?_)
        · replace hm := it c28 hm
          refine lv_iconst (v := 0) hx hb dX7_holds_57 (by decide) ?_
          refine lv_iadd hx hb dX7_holds_58 ?_
          refine lv_istore_n (lv' := [(2, .int (x2 + 0)), (0, .ref (q 0)), (1, .int x1), (3, .int x3)]) hx hb dX7_holds_59 rfl hl (by decide) rfl (fun ls hl => ?_)
          refine lv_iinc (v := x3 + 1) (lv' := [(3, .int (x3 + 1)), (2, .int (x2 + 0)), (0, .ref (q 0)), (1, .int x1)]) hx hb dX7_holds_60 hl (k := 3) rfl rfl (by decide) rfl (fun ls hl => ?_)
          refine lv_goto (tgt := 14) hx hb dX7_holds_63 (by decide) ?_
          exact ih x1 (x2 + 0) (x3 + 1) _ _ _ hS (lv_sub hl [2, 3, 1, 0] rfl) hm
        · replace hm := ie c28 hm
          refine lv_aload_n hx hb dX7_holds_31 rfl (lv_at hl 0 rfl) ?_
          refine lv_iload_n hx hb dX7_holds_32 rfl (lv_at hl 3 rfl) ?_
          obtain ⟨o33, e33, hm⟩ := ob hm
          refine after_i C hS (call_V (As := [.int x3]) C hS (c_X7_isOpen l d q σ x3 o33 e33 _) iv_7_187 ⟨rfl, rfl, Nat.le_of_ble_eq_true rfl, Nat.le_of_ble_eq_true rfl⟩ mw_o0 rfl rfl rfl hl.1 (Nat.le_of_ble_eq_true rfl) dX7_holds_33) (fun H locs hS => ?_)
          refine lv_if_eq (tgt := 57) hx hb dX7_holds_36 (by decide) (fun c36 => ?_) (fun c36 => ?_)
          · replace hm := it c36 hm
            refine lv_iconst (v := 0) hx hb dX7_holds_57 (by decide) ?_
            refine lv_iadd hx hb dX7_holds_58 ?_
            refine lv_istore_n (lv' := [(2, .int (x2 + 0)), (0, .ref (q 0)), (1, .int x1), (3, .int x3)]) hx hb dX7_holds_59 rfl hl (by decide) rfl (fun ls hl => ?_)
            refine lv_iinc (v := x3 + 1) (lv' := [(3, .int (x3 + 1)), (2, .int (x2 + 0)), (0, .ref (q 0)), (1, .int x1)]) hx hb dX7_holds_60 hl (k := 3) rfl rfl (by decide) rfl (fun ls hl => ?_)
            refine lv_goto (tgt := 14) hx hb dX7_holds_63 (by decide) ?_
            exact ih x1 (x2 + 0) (x3 + 1) _ _ _ hS (lv_sub hl [2, 3, 1, 0] rfl) hm
          · replace hm := ie c36 hm
            refine lv_aload_n hx hb dX7_holds_39 rfl (lv_at hl 0 rfl) ?_
            refine lv_iload_n hx hb dX7_holds_40 rfl (lv_at hl 3 rfl) ?_
            refine lv_iconst (v := 1) hx hb dX7_holds_41 (by decide) ?_
            refine lv_iload_n hx hb dX7_holds_42 rfl (lv_at hl 1 rfl) ?_
            refine lv_ishl hx hb dX7_holds_43 ?_
            refine lv_iconst (v := (-1)) hx hb dX7_holds_44 (by decide) ?_
            refine lv_ixor hx hb dX7_holds_45 ?_
            refine lv_iand hx hb dX7_holds_46 ?_
            obtain ⟨o47, e47, hm⟩ := ob hm
            refine after_i C hS (call_V (As := [.int (x3 &&& (((1 : Int32) <<< (x1 &&& 31)) ^^^ (-1)))]) C hS (c_X7_isOpen l d q σ (x3 &&& (((1 : Int32) <<< (x1 &&& 31)) ^^^ (-1))) o47 e47 _) iv_7_187 ⟨rfl, rfl, Nat.le_of_ble_eq_true rfl, Nat.le_of_ble_eq_true rfl⟩ mw_o0 rfl rfl rfl hl.1 (Nat.le_of_ble_eq_true rfl) dX7_holds_47) (fun H locs hS => ?_)
            refine lv_if_ne (tgt := 57) hx hb dX7_holds_50 (by decide) (fun c50 => ?_) (fun c50 => ?_)
            · replace hm := ie c50 hm
              refine lv_iconst (v := 0) hx hb dX7_holds_57 (by decide) ?_
              refine lv_iadd hx hb dX7_holds_58 ?_
              refine lv_istore_n (lv' := [(2, .int (x2 + 0)), (0, .ref (q 0)), (1, .int x1), (3, .int x3)]) hx hb dX7_holds_59 rfl hl (by decide) rfl (fun ls hl => ?_)
              refine lv_iinc (v := x3 + 1) (lv' := [(3, .int (x3 + 1)), (2, .int (x2 + 0)), (0, .ref (q 0)), (1, .int x1)]) hx hb dX7_holds_60 hl (k := 3) rfl rfl (by decide) rfl (fun ls hl => ?_)
              refine lv_goto (tgt := 14) hx hb dX7_holds_63 (by decide) ?_
              exact ih x1 (x2 + 0) (x3 + 1) _ _ _ hS (lv_sub hl [2, 3, 1, 0] rfl) hm
            · replace hm := it c50 hm
              refine lv_iconst (v := 1) hx hb dX7_holds_53 (by decide) ?_
              refine lv_goto (tgt := 58) hx hb dX7_holds_54 (by decide) ?_
              refine lv_iadd hx hb dX7_holds_58 ?_
              refine lv_istore_n (lv' := [(2, .int (x2 + 1)), (0, .ref (q 0)), (1, .int x1), (3, .int x3)]) hx hb dX7_holds_59 rfl hl (by decide) rfl (fun ls hl => ?_)
              refine lv_iinc (v := x3 + 1) (lv' := [(3, .int (x3 + 1)), (2, .int (x2 + 1)), (0, .ref (q 0)), (1, .int x1)]) hx hb dX7_holds_60 hl (k := 3) rfl rfl (by decide) rfl (fun ls hl => ?_)
              refine lv_goto (tgt := 14) hx hb dX7_holds_63 (by decide) ?_
              exact ih x1 (x2 + 1) (x3 + 1) _ _ _ hS (lv_sub hl [2, 3, 1, 0] rfl) hm
  unfold M_X7_holds at hm
  refine lv_aload_n hx hb dX7_holds_0 rfl (lv_at hl 0 rfl) ?_
  refine lv_iload_n hx hb dX7_holds_1 rfl (lv_at hl 1 rfl) ?_
  obtain ⟨o2, e2, hm⟩ := ob hm
  refine after_i C hS (call_V (As := [.int a1]) C hS (c_X7_isHouse l d q σ a1 o2 e2 _) iv_7_179 ⟨rfl, rfl, Nat.le_of_ble_eq_true rfl, Nat.le_of_ble_eq_true rfl⟩ mw_o0 rfl rfl rfl hl.1 (Nat.le_of_ble_eq_true rfl) dX7_holds_2) (fun H locs hS => ?_)
  refine lv_if_ne (tgt := 10) hx hb dX7_holds_5 (by decide) (fun c5 => ?_) (fun c5 => ?_)
  · replace hm := ie c5 hm
    refine lv_iconst (v := 0) hx hb dX7_holds_10 (by decide) ?_
    refine lv_istore_n (lv' := [(2, .int 0), (0, .ref (q 0)), (1, .int a1)]) hx hb dX7_holds_11 rfl hl (by decide) rfl (fun ls hl => ?_)
    refine lv_iconst (v := 0) hx hb dX7_holds_12 (by decide) ?_
    refine lv_istore_n (lv' := [(3, .int 0), (2, .int 0), (0, .ref (q 0)), (1, .int a1)]) hx hb dX7_holds_13 rfl hl (by decide) rfl (fun ls hl => ?_)
    exact L14 10000 a1 0 0 _ _ _ hS (lv_sub hl [2, 3, 1, 0] rfl) hm
  · replace hm := it c5 hm
    refine lv_iconst (v := (-1)) hx hb dX7_holds_8 (by decide) ?_
    exact retIr C hS hm dX7_holds_9
def M_X7_orders_4 : Nat → Int32 → Int32 → Int32 → Option Int32
  | 0, _, _, _ => none
  | n + 1, x0, x1, x2 => if x0 < x2 then some x1 else M_X7_orders_4 n x0 (x1 * x2) (x2 + 1)
def M_X7_orders (a0 : Int32) : Option Int32 := M_X7_orders_4 10000 a0 1 2
abbrev rm_X7_orders : Room := { frames := 0, cells := 0, slots := 0, locals := 0 }
set_option maxRecDepth 100000 in
set_option maxHeartbeats 4000000 in
theorem c_X7_orders (l : Launch) (d : CD) (w : va_W) (a0 : Int32) (out : Int32) (hm : M_X7_orders a0 = some out) : MetI l yX7_orders cX7_orders 3 (some .int) rm_X7_orders d w [.int a0] out w := by
  refine mkI (own := RX7) (by decide +kernel) rfl (Nat.le_of_ble_eq_true rfl) ?_
  intro p e s m below meth c A ls C hS hl
  obtain ⟨hx, hb, hml, hown, hts, -⟩ := id C
  have hl : lv_has ls 3 [(0, .int a0)] := hl
  have L4 : ∀ (n : Nat) (x0 : Int32) (x1 : Int32) (x2 : Int32) (H : Heap) (locs : List Loc) (ls : Array Slot), HS d A s.heap H locs w → lv_has ls 3 [(0, .int x0), (1, .int x1), (2, .int x2)] → M_X7_orders_4 n x0 x1 x2 = some out → WI p l e rm_X7_orders s m [.int a0].toArray below meth c A d H locs out w (F0 m 4 ls []) := by
    intro n
    induction n with
    | zero =>
      intro x0 x1 x2 H locs ls hS hl hm
      exact absurd hm (by rw [M_X7_orders_4]; exact fun h => nomatch h)
    | succ n ih =>
      intro x0 x1 x2 H locs ls hS hl hm
      rw [M_X7_orders_4] at hm
      refine lv_iload_n hx hb dX7_orders_4 rfl (lv_at hl 2 rfl) ?_
      refine lv_iload_n hx hb dX7_orders_5 rfl (lv_at hl 0 rfl) ?_
      refine lv_icmp_gt (tgt := 19) hx hb dX7_orders_6 (by decide) (fun c6 => ?_) (fun c6 => ?_)
      · replace hm := it c6 hm
        refine lv_iload_n hx hb dX7_orders_19 rfl (lv_at hl 1 rfl) ?_
        exact retIr C hS hm dX7_orders_20
      · replace hm := ie c6 hm
        refine lv_iload_n hx hb dX7_orders_9 rfl (lv_at hl 1 rfl) ?_
        refine lv_iload_n hx hb dX7_orders_10 rfl (lv_at hl 2 rfl) ?_
        refine lv_imul hx hb dX7_orders_11 ?_
        refine lv_istore_n (lv' := [(1, .int (x1 * x2)), (0, .int x0), (2, .int x2)]) hx hb dX7_orders_12 rfl hl (by decide) rfl (fun ls hl => ?_)
        refine lv_iinc (v := x2 + 1) (lv' := [(2, .int (x2 + 1)), (1, .int (x1 * x2)), (0, .int x0)]) hx hb dX7_orders_13 hl (k := 2) rfl rfl (by decide) rfl (fun ls hl => ?_)
        refine lv_goto (tgt := 4) hx hb dX7_orders_16 (by decide) ?_
        exact ih x0 (x1 * x2) (x2 + 1) _ _ _ hS (lv_sub hl [2, 1, 0] rfl) hm
  unfold M_X7_orders at hm
  refine lv_iconst (v := 1) hx hb dX7_orders_0 (by decide) ?_
  refine lv_istore_n (lv' := [(1, .int 1), (0, .int a0)]) hx hb dX7_orders_1 rfl hl (by decide) rfl (fun ls hl => ?_)
  refine lv_iconst (v := 2) hx hb dX7_orders_2 (by decide) ?_
  refine lv_istore_n (lv' := [(2, .int 2), (1, .int 1), (0, .int a0)]) hx hb dX7_orders_3 rfl hl (by decide) rfl (fun ls hl => ?_)
  exact L4 10000 a0 1 2 _ _ _ hS (lv_sub hl [2, 1, 0] rfl) hm
