def M_X7_in (a0 : Int64) (a2 : Int64) (a4 : Int64) : Option Int32 := if (lg_cmp a0 a2) < 0 then okZ 0 else if 0 < (lg_cmp a0 a4) then okZ 0 else okZ 1
abbrev rm_X7_in : Room := { frames := 0, cells := 0, slots := 0, locals := 0 }
set_option maxRecDepth 100000 in
set_option maxHeartbeats 4000000 in
theorem c_X7_in (l : Launch) (d : CD) (w : va_W) (a0 : Int64) (a2 : Int64) (a4 : Int64) (out : Int32) (hm : M_X7_in a0 a2 a4 = some out) : MetI l yX7_in cX7_in 6 (some .boolean) rm_X7_in d w [.long a0, .long a2, .long a4] out w := by
  refine mkI (own := RX7) (by decide +kernel) rfl (Nat.le_of_ble_eq_true rfl) ?_
  intro p e s m below meth c A ls C hS hl
  obtain ⟨hx, hb, hml, hown, hts, -⟩ := id C
  have hl : lv_has ls 6 [(0, .long a0), (2, .long a2), (4, .long a4)] := hl
  unfold M_X7_in at hm
  refine lv_lload_n hx hb dX7_in_0 rfl (lv_at hl 0 rfl) ?_
  refine lv_lload_n hx hb dX7_in_1 rfl (lv_at hl 1 rfl) ?_
  refine W.lcmp hx hb dX7_in_2 ?_
  refine lv_if_lt (tgt := 17) hx hb dX7_in_3 (by decide) (fun c3 => ?_) (fun c3 => ?_)
  · replace hm := it c3 hm
    refine lv_iconst (v := 0) hx hb dX7_in_17 (by decide) ?_
    exact retZr C hS hm dX7_in_18
  · replace hm := ie c3 hm
    refine lv_lload_n hx hb dX7_in_6 rfl (lv_at hl 0 rfl) ?_
    refine lv_lload hx hb dX7_in_7 (lv_at hl 2 rfl) ?_
    refine W.lcmp hx hb dX7_in_9 ?_
    refine lv_if_gt (tgt := 17) hx hb dX7_in_10 (by decide) (fun c10 => ?_) (fun c10 => ?_)
    · replace hm := it c10 hm
      refine lv_iconst (v := 0) hx hb dX7_in_17 (by decide) ?_
      exact retZr C hS hm dX7_in_18
    · replace hm := ie c10 hm
      refine lv_iconst (v := 1) hx hb dX7_in_13 (by decide) ?_
      refine lv_goto (tgt := 18) hx hb dX7_in_14 (by decide) ?_
      exact retZr C hS hm dX7_in_18
def M_X7_isRow (a0 : Int32) : Option Int32 := (M_X7_in a0.toInt64 0 5).bind fun o6 => okZ o6
abbrev rm_X7_isRow : Room := { frames := 1, cells := 0, slots := 0, locals := 25 }
set_option maxRecDepth 100000 in
set_option maxHeartbeats 4000000 in
theorem c_X7_isRow (l : Launch) (d : CD) (w : va_W) (a0 : Int32) (out : Int32) (hm : M_X7_isRow a0 = some out) : MetI l yX7_isRow cX7_isRow 1 (some .boolean) rm_X7_isRow d w [.int a0] out w := by
  refine mkI (own := RX7) (by decide +kernel) rfl (Nat.le_of_ble_eq_true rfl) ?_
  intro p e s m below meth c A ls C hS hl
  obtain ⟨hx, hb, hml, hown, hts, -⟩ := id C
  have hl : lv_has ls 1 [(0, .int a0)] := hl
  unfold M_X7_isRow at hm
  refine lv_iload_n hx hb dX7_isRow_0 rfl (lv_at hl 0 rfl) ?_
  refine lv_i2l (v := a0.toInt64) hx hb dX7_isRow_1 rfl ?_
  refine lv_lconst (v := 0) hx hb dX7_isRow_2 (by decide) ?_
  refine lv_ldc2 (v := 5) hx hb hown (hts _ lc_X7_64) dX7_isRow_3 ?_
  obtain ⟨o6, e6, hm⟩ := ob hm
  refine after_i C hS (call_S (As := [.long a0.toInt64, .long 0, .long 5]) C hS (c_X7_in l d w a0.toInt64 0 5 o6 e6 _) is_7_66 ⟨rfl, rfl, Nat.le_of_ble_eq_true rfl, Nat.le_of_ble_eq_true rfl⟩ rfl hl.1 (Nat.le_of_ble_eq_true rfl) dX7_isRow_6) (fun H locs hS => ?_)
  exact retZr C hS hm dX7_isRow_9
def M_X7_makeRow_9 : Nat → ST → Int32 → Int32 → Option ST
  | 0, _, _, _ => none
  | n + 1, σ, x1, x3 => if 40 ≤ x3 then some σ else (wrA 240 σ 6 ((40 * x1) + x3) 0).bind fun σ26 => M_X7_makeRow_9 n σ26 x1 (x3 + 1)
def M_X7_makeRow (σ : ST) (a1 : Int32) (a2 : Int32) : Option ST := (wrA 6 σ 5 a1 a2).bind fun σ6 => M_X7_makeRow_9 10000 σ6 a1 0
abbrev rm_X7_makeRow : Room := { frames := 0, cells := 0, slots := 0, locals := 0 }
set_option maxRecDepth 100000 in
set_option maxHeartbeats 4000000 in
theorem c_X7_makeRow (l : Launch) (d : CD) (q : Nat → Nat) (σ : ST) (a1 : Int32) (a2 : Int32) (out : ST) (hm : M_X7_makeRow σ a1 a2 = some out) : MetV l yX7_makeRow cX7_makeRow 4 (none) rm_X7_makeRow d (mw q d σ) [.ref (q 0), .int a1, .int a2] (mw q d out) := by
  refine mkV (own := RX7) (by decide +kernel) rfl (Nat.le_of_ble_eq_true rfl) ?_
  intro p e s m below meth c A ls C hS hl
  obtain ⟨hx, hb, hml, hown, hts, -⟩ := id C
  have hl : lv_has ls 4 [(0, .ref (q 0)), (1, .int a1), (2, .int a2)] := hl
  have L9 : ∀ (n : Nat) (σ : ST) (x1 : Int32) (x3 : Int32) (H : Heap) (locs : List Loc) (ls : Array Slot), HS d A s.heap H locs (mw q d σ) → lv_has ls 4 [(0, .ref (q 0)), (1, .int x1), (3, .int x3)] → M_X7_makeRow_9 n σ x1 x3 = some out → WV p l e rm_X7_makeRow s m [.ref (q 0), .int a1, .int a2].toArray below meth c A d H locs (mw q d out) (F0 m 9 ls []) := by
    intro n
    induction n with
    | zero =>
      intro σ x1 x3 H locs ls hS hl hm
      exact absurd hm (by rw [M_X7_makeRow_9]; exact fun h => nomatch h)
    | succ n ih =>
      intro σ x1 x3 H locs ls hS hl hm
      rw [M_X7_makeRow_9] at hm
      refine lv_iload_n hx hb dX7_makeRow_9 rfl (lv_at hl 2 rfl) ?_
      refine lv_bipush (v := 40) hx hb dX7_makeRow_10 (by decide) ?_
      refine lv_icmp_ge (tgt := 33) hx hb dX7_makeRow_12 (by decide) (fun c12 => ?_) (fun c12 => ?_)
      · replace hm := it c12 hm
        exact retVw (wf := mw q d) C hS hm dX7_makeRow_33
      · replace hm := ie c12 hm
        refine lv_aload_n hx hb dX7_makeRow_15 rfl (lv_at hl 0 rfl) ?_
        refine g_7_25_0 C hS dX7_makeRow_16 ?_
        refine lv_bipush (v := 40) hx hb dX7_makeRow_19 (by decide) ?_
        refine lv_iload_n hx hb dX7_makeRow_21 rfl (lv_at hl 1 rfl) ?_
        refine lv_imul hx hb dX7_makeRow_22 ?_
        refine lv_iload_n hx hb dX7_makeRow_23 rfl (lv_at hl 2 rfl) ?_
        refine lv_iadd hx hb dX7_makeRow_24 ?_
        refine lv_iconst (v := 0) hx hb dX7_makeRow_25 (by decide) ?_
        obtain ⟨σ26, e26, hm⟩ := ob hm
        refine iast' (wf := mw q d) C hS mw_a6 mw_s6 e26 dX7_makeRow_26 (fun H locs hS => ?_)
        refine lv_iinc (v := x3 + 1) (lv' := [(3, .int (x3 + 1)), (0, .ref (q 0)), (1, .int x1)]) hx hb dX7_makeRow_27 hl (k := 2) rfl rfl (by decide) rfl (fun ls hl => ?_)
        refine lv_goto (tgt := 9) hx hb dX7_makeRow_30 (by decide) ?_
        exact ih σ26 x1 (x3 + 1) _ _ _ hS (lv_sub hl [1, 2, 0] rfl) hm
  unfold M_X7_makeRow at hm
  refine lv_aload_n hx hb dX7_makeRow_0 rfl (lv_at hl 0 rfl) ?_
  refine g_7_22_0 C hS dX7_makeRow_1 ?_
  refine lv_iload_n hx hb dX7_makeRow_4 rfl (lv_at hl 1 rfl) ?_
  refine lv_iload_n hx hb dX7_makeRow_5 rfl (lv_at hl 2 rfl) ?_
  obtain ⟨σ6, e6, hm⟩ := ob hm
  refine iast' (wf := mw q d) C hS mw_a5 mw_s5 e6 dX7_makeRow_6 (fun H locs hS => ?_)
  refine lv_iconst (v := 0) hx hb dX7_makeRow_7 (by decide) ?_
  refine lv_istore_n (lv' := [(3, .int 0), (0, .ref (q 0)), (1, .int a1), (2, .int a2)]) hx hb dX7_makeRow_8 rfl hl (by decide) rfl (fun ls hl => ?_)
  exact L9 10000 σ6 a1 0 _ _ _ hS (lv_sub hl [1, 2, 0] rfl) hm
def M_X7_find (σ : ST) (a1 : Int32) : Option (Int32 × ST) := (some (setI σ 15 (a1))).bind fun σ2 => (rd 6 (σ2.2.2 9) a1).bind fun v11 => (wrA 6 σ2 9 a1 (v11 + 1)).bind fun σ14 => some ((-3), σ14)
abbrev rm_X7_find : Room := { frames := 0, cells := 0, slots := 0, locals := 0 }
set_option maxRecDepth 100000 in
set_option maxHeartbeats 4000000 in
theorem c_X7_find (l : Launch) (d : CD) (q : Nat → Nat) (σ : ST) (a1 : Int32) (out : Int32 × ST) (hm : M_X7_find σ a1 = some out) : MetI l yX7_find cX7_find 2 (some .int) rm_X7_find d (mw q d σ) [.ref (q 0), .int a1] out.1 (mw q d out.2) := by
  refine mkI (own := RX7) (by decide +kernel) rfl (Nat.le_of_ble_eq_true rfl) ?_
  intro p e s m below meth c A ls C hS hl
  obtain ⟨hx, hb, hml, hown, hts, -⟩ := id C
  have hl : lv_has ls 2 [(0, .ref (q 0)), (1, .int a1)] := hl
  unfold M_X7_find at hm
  refine lv_aload_n hx hb dX7_find_0 rfl (lv_at hl 0 rfl) ?_
  refine lv_iload_n hx hb dX7_find_1 rfl (lv_at hl 1 rfl) ?_
  obtain ⟨σ2, e2, hm⟩ := ob hm
  refine p_7_57_0 C hS e2 dX7_find_2 (fun H locs hS => ?_)
  refine lv_aload_n hx hb dX7_find_5 rfl (lv_at hl 0 rfl) ?_
  refine g_7_38_0 C hS dX7_find_6 ?_
  refine lv_iload_n hx hb dX7_find_9 rfl (lv_at hl 1 rfl) ?_
  refine lv_dup2_11 hx hb dX7_find_10 rfl rfl ?_
  obtain ⟨v11, e11, hm⟩ := ob hm
  refine iald' C hS mw_a9 e11 dX7_find_11 ?_
  refine lv_iconst (v := 1) hx hb dX7_find_12 (by decide) ?_
  refine lv_iadd hx hb dX7_find_13 ?_
  obtain ⟨σ14, e14, hm⟩ := ob hm
  refine iast' (wf := mw q d) C hS mw_a9 mw_s9 e14 dX7_find_14 (fun H locs hS => ?_)
  refine lv_bipush (v := (-3)) hx hb dX7_find_15 (by decide) ?_
  exact retIw (wf := mw q d) C hS hm dX7_find_17
def M_X7_row (σ : ST) (a1 : Int32) (a2 : Int32) : Option (Int32 × ST) := (M_X7_isRow a1).bind fun o1 => if o1 = 0 then some ((-1), σ) else if a2 ≤ 40 then if 0 ≤ a2 then (M_X7_makeRow σ a1 a2).bind fun o28 => some (a2, o28) else (M_X7_find σ 5).bind fun o21 => some (o21.1, o21.2) else some ((-1), σ)
abbrev rm_X7_row : Room := { frames := 2, cells := 0, slots := 0, locals := 45 }
set_option maxRecDepth 100000 in
set_option maxHeartbeats 4000000 in
theorem c_X7_row (l : Launch) (d : CD) (q : Nat → Nat) (σ : ST) (a1 : Int32) (a2 : Int32) (out : Int32 × ST) (hm : M_X7_row σ a1 a2 = some out) : MetI l yX7_row cX7_row 3 (some .int) rm_X7_row d (mw q d σ) [.ref (q 0), .int a1, .int a2] out.1 (mw q d out.2) := by
  refine mkI (own := RX7) (by decide +kernel) rfl (Nat.le_of_ble_eq_true rfl) ?_
  intro p e s m below meth c A ls C hS hl
  obtain ⟨hx, hb, hml, hown, hts, -⟩ := id C
  have hl : lv_has ls 3 [(0, .ref (q 0)), (1, .int a1), (2, .int a2)] := hl
  unfold M_X7_row at hm
  refine lv_iload_n hx hb dX7_row_0 rfl (lv_at hl 1 rfl) ?_
  obtain ⟨o1, e1, hm⟩ := ob hm
  refine after_i C hS (call_S (As := [.int a1]) C hS (c_X7_isRow l d (mw q d σ) a1 o1 e1 _) is_7_72 ⟨rfl, rfl, Nat.le_of_ble_eq_true rfl, Nat.le_of_ble_eq_true rfl⟩ rfl hl.1 (Nat.le_of_ble_eq_true rfl) dX7_row_1) (fun H locs hS => ?_)
  refine lv_if_eq (tgt := 13) hx hb dX7_row_4 (by decide) (fun c4 => ?_) (fun c4 => ?_)
  · replace hm := it c4 hm
    refine lv_iconst (v := (-1)) hx hb dX7_row_13 (by decide) ?_
    exact retIw (wf := mw q d) C hS hm dX7_row_14
  · replace hm := ie c4 hm
    refine lv_iload_n hx hb dX7_row_7 rfl (lv_at hl 2 rfl) ?_
    refine lv_bipush (v := 40) hx hb dX7_row_8 (by decide) ?_
    refine lv_icmp_le (tgt := 15) hx hb dX7_row_10 (by decide) (fun c10 => ?_) (fun c10 => ?_)
    · replace hm := it c10 hm
      refine lv_iload_n hx hb dX7_row_15 rfl (lv_at hl 2 rfl) ?_
      refine lv_if_ge (tgt := 25) hx hb dX7_row_16 (by decide) (fun c16 => ?_) (fun c16 => ?_)
      · replace hm := it c16 hm
        refine lv_aload_n hx hb dX7_row_25 rfl (lv_at hl 0 rfl) ?_
        refine lv_iload_n hx hb dX7_row_26 rfl (lv_at hl 1 rfl) ?_
        refine lv_iload_n hx hb dX7_row_27 rfl (lv_at hl 2 rfl) ?_
        obtain ⟨o28, e28, hm⟩ := ob hm
        refine after_v C hS (call_V (As := [.int a1, .int a2]) C hS (c_X7_makeRow l d q σ a1 a2 o28 e28 _) iv_7_80 ⟨rfl, rfl, Nat.le_of_ble_eq_true rfl, Nat.le_of_ble_eq_true rfl⟩ mw_o0 rfl rfl rfl hl.1 (Nat.le_of_ble_eq_true rfl) dX7_row_28) (fun H locs hS => ?_)
        refine lv_iload_n hx hb dX7_row_31 rfl (lv_at hl 2 rfl) ?_
        exact retIw (wf := mw q d) C hS hm dX7_row_32
      · replace hm := ie c16 hm
        refine lv_aload_n hx hb dX7_row_19 rfl (lv_at hl 0 rfl) ?_
        refine lv_iconst (v := 5) hx hb dX7_row_20 (by decide) ?_
        obtain ⟨o21, e21, hm⟩ := ob hm
        refine after_i C hS (call_V (As := [.int 5]) C hS (c_X7_find l d q σ 5 o21 e21 _) iv_7_76 ⟨rfl, rfl, Nat.le_of_ble_eq_true rfl, Nat.le_of_ble_eq_true rfl⟩ mw_o0 rfl rfl rfl hl.1 (Nat.le_of_ble_eq_true rfl) dX7_row_21) (fun H locs hS => ?_)
        exact retIw (wf := mw q d) C hS hm dX7_row_24
    · replace hm := ie c10 hm
      refine lv_iconst (v := (-1)) hx hb dX7_row_13 (by decide) ?_
      exact retIw (wf := mw q d) C hS hm dX7_row_14
def M_X7_refused (σ : ST) (a1 : Int32) (a2 : Int32) : Option (Int32 × ST) := (M_X7_isRow a1).bind fun o1 => if o1 = 0 then some ((-1), σ) else (rd 6 (σ.2.2 5) a1).bind fun v16 => if 0 ≤ v16 then (rd 6 (σ.2.2 5) a1).bind fun v36 => (M_X7_in a2.toInt64 0 ((v36 - 1).toInt64)).bind fun o40 => if o40 = 0 then (M_X7_find σ 2).bind fun o52 => some (o52.1, o52.2) else some (0, σ) else (M_X7_find σ 1).bind fun o22 => some (o22.1, o22.2)
abbrev rm_X7_refused : Room := { frames := 2, cells := 0, slots := 0, locals := 45 }
set_option maxRecDepth 100000 in
set_option maxHeartbeats 4000000 in
theorem c_X7_refused (l : Launch) (d : CD) (q : Nat → Nat) (σ : ST) (a1 : Int32) (a2 : Int32) (out : Int32 × ST) (hm : M_X7_refused σ a1 a2 = some out) : MetI l yX7_refused cX7_refused 3 (some .int) rm_X7_refused d (mw q d σ) [.ref (q 0), .int a1, .int a2] out.1 (mw q d out.2) := by
  refine mkI (own := RX7) (by decide +kernel) rfl (Nat.le_of_ble_eq_true rfl) ?_
  intro p e s m below meth c A ls C hS hl
  obtain ⟨hx, hb, hml, hown, hts, -⟩ := id C
  have hl : lv_has ls 3 [(0, .ref (q 0)), (1, .int a1), (2, .int a2)] := hl
  unfold M_X7_refused at hm
  refine lv_iload_n hx hb dX7_refused_0 rfl (lv_at hl 1 rfl) ?_
  obtain ⟨o1, e1, hm⟩ := ob hm
  refine after_i C hS (call_S (As := [.int a1]) C hS (c_X7_isRow l d (mw q d σ) a1 o1 e1 _) is_7_72 ⟨rfl, rfl, Nat.le_of_ble_eq_true rfl, Nat.le_of_ble_eq_true rfl⟩ rfl hl.1 (Nat.le_of_ble_eq_true rfl) dX7_refused_1) (fun H locs hS => ?_)
  refine lv_if_ne (tgt := 11) hx hb dX7_refused_4 (by decide) (fun c4 => ?_) (fun c4 => ?_)
  · replace hm := ie c4 hm
    refine lv_aload_n hx hb dX7_refused_11 rfl (lv_at hl 0 rfl) ?_
    refine g_7_22_0 C hS dX7_refused_12 ?_
    refine lv_iload_n hx hb dX7_refused_15 rfl (lv_at hl 1 rfl) ?_
    obtain ⟨v16, e16, hm⟩ := ob hm
    refine iald' C hS mw_a5 e16 dX7_refused_16 ?_
    refine lv_if_ge (tgt := 28) hx hb dX7_refused_17 (by decide) (fun c17 => ?_) (fun c17 => ?_)
    · replace hm := it c17 hm
      refine lv_iload_n hx hb dX7_refused_28 rfl (lv_at hl 2 rfl) ?_
      refine lv_i2l (v := a2.toInt64) hx hb dX7_refused_29 rfl ?_
      refine lv_lconst (v := 0) hx hb dX7_refused_30 (by decide) ?_
      refine lv_aload_n hx hb dX7_refused_31 rfl (lv_at hl 0 rfl) ?_
      refine g_7_22_0 C hS dX7_refused_32 ?_
      refine lv_iload_n hx hb dX7_refused_35 rfl (lv_at hl 1 rfl) ?_
      obtain ⟨v36, e36, hm⟩ := ob hm
      refine iald' C hS mw_a5 e36 dX7_refused_36 ?_
      refine lv_iconst (v := 1) hx hb dX7_refused_37 (by decide) ?_
      refine lv_isub hx hb dX7_refused_38 ?_
      refine lv_i2l (v := (v36 - 1).toInt64) hx hb dX7_refused_39 rfl ?_
      obtain ⟨o40, e40, hm⟩ := ob hm
      refine after_i C hS (call_S (As := [.long a2.toInt64, .long 0, .long ((v36 - 1).toInt64)]) C hS (c_X7_in l d (mw q d σ) a2.toInt64 0 ((v36 - 1).toInt64) o40 e40 _) is_7_66 ⟨rfl, rfl, Nat.le_of_ble_eq_true rfl, Nat.le_of_ble_eq_true rfl⟩ rfl hl.1 (Nat.le_of_ble_eq_true rfl) dX7_refused_40) (fun H locs hS => ?_)
      refine lv_if_eq (tgt := 50) hx hb dX7_refused_43 (by decide) (fun c43 => ?_) (fun c43 => ?_)
      · replace hm := it c43 hm
        refine lv_aload_n hx hb dX7_refused_50 rfl (lv_at hl 0 rfl) ?_
        refine lv_iconst (v := 2) hx hb dX7_refused_51 (by decide) ?_
        obtain ⟨o52, e52, hm⟩ := ob hm
        refine after_i C hS (call_V (As := [.int 2]) C hS (c_X7_find l d q σ 2 o52 e52 _) iv_7_76 ⟨rfl, rfl, Nat.le_of_ble_eq_true rfl, Nat.le_of_ble_eq_true rfl⟩ mw_o0 rfl rfl rfl hl.1 (Nat.le_of_ble_eq_true rfl) dX7_refused_52) (fun H locs hS => ?_)
        exact retIw (wf := mw q d) C hS hm dX7_refused_55
      · replace hm := ie c43 hm
        refine lv_iconst (v := 0) hx hb dX7_refused_46 (by decide) ?_
        refine lv_goto (tgt := 55) hx hb dX7_refused_47 (by decide) ?_
        exact retIw (wf := mw q d) C hS hm dX7_refused_55
    · replace hm := ie c17 hm
      refine lv_aload_n hx hb dX7_refused_20 rfl (lv_at hl 0 rfl) ?_
      refine lv_iconst (v := 1) hx hb dX7_refused_21 (by decide) ?_
      obtain ⟨o22, e22, hm⟩ := ob hm
      refine after_i C hS (call_V (As := [.int 1]) C hS (c_X7_find l d q σ 1 o22 e22 _) iv_7_76 ⟨rfl, rfl, Nat.le_of_ble_eq_true rfl, Nat.le_of_ble_eq_true rfl⟩ mw_o0 rfl rfl rfl hl.1 (Nat.le_of_ble_eq_true rfl) dX7_refused_22) (fun H locs hS => ?_)
      refine lv_goto (tgt := 55) hx hb dX7_refused_25 (by decide) ?_
      exact retIw (wf := mw q d) C hS hm dX7_refused_55
  · replace hm := it c4 hm
    refine lv_iconst (v := (-1)) hx hb dX7_refused_7 (by decide) ?_
    refine lv_goto (tgt := 55) hx hb dX7_refused_8 (by decide) ?_
    exact retIw (wf := mw q d) C hS hm dX7_refused_55
def M_X7_tell (σ : ST) (a1 : Int32) : Option (Int32 × ST) := (some (setI σ 12 (a1))).bind fun σ2 => some (1, σ2)
abbrev rm_X7_tell : Room := { frames := 0, cells := 0, slots := 0, locals := 0 }
set_option maxRecDepth 100000 in
set_option maxHeartbeats 4000000 in
theorem c_X7_tell (l : Launch) (d : CD) (q : Nat → Nat) (σ : ST) (a1 : Int32) (out : Int32 × ST) (hm : M_X7_tell σ a1 = some out) : MetI l yX7_tell cX7_tell 2 (some .int) rm_X7_tell d (mw q d σ) [.ref (q 0), .int a1] out.1 (mw q d out.2) := by
  refine mkI (own := RX7) (by decide +kernel) rfl (Nat.le_of_ble_eq_true rfl) ?_
  intro p e s m below meth c A ls C hS hl
  obtain ⟨hx, hb, hml, hown, hts, -⟩ := id C
  have hl : lv_has ls 2 [(0, .ref (q 0)), (1, .int a1)] := hl
  unfold M_X7_tell at hm
  refine lv_aload_n hx hb dX7_tell_0 rfl (lv_at hl 0 rfl) ?_
  refine lv_iload_n hx hb dX7_tell_1 rfl (lv_at hl 1 rfl) ?_
  obtain ⟨σ2, e2, hm⟩ := ob hm
  refine p_7_61_0 C hS e2 dX7_tell_2 (fun H locs hS => ?_)
  refine lv_iconst (v := 1) hx hb dX7_tell_5 (by decide) ?_
  exact retIw (wf := mw q d) C hS hm dX7_tell_6
def M_X7_lay (σ : ST) (a1 : Int32) (a2 : Int32) (a3 : Int32) : Option (Int32 × ST) := (M_X7_refused σ a1 a2).bind fun o3 => if o3.1 = 0 then (rd 240 (o3.2.2.2 6) ((40 * a1) + a2)).bind fun v26 => (wrA 240 o3.2 6 ((40 * a1) + a2) a3).bind fun σ40 => (M_X7_tell σ40 v26).bind fun o44 => some (o44.1, o44.2) else some (o3.1, o3.2)
abbrev rm_X7_lay : Room := { frames := 3, cells := 0, slots := 0, locals := 67 }
set_option maxRecDepth 100000 in
set_option maxHeartbeats 4000000 in
theorem c_X7_lay (l : Launch) (d : CD) (q : Nat → Nat) (σ : ST) (a1 : Int32) (a2 : Int32) (a3 : Int32) (out : Int32 × ST) (hm : M_X7_lay σ a1 a2 a3 = some out) : MetI l yX7_lay cX7_lay 6 (some .int) rm_X7_lay d (mw q d σ) [.ref (q 0), .int a1, .int a2, .int a3] out.1 (mw q d out.2) := by
  refine mkI (own := RX7) (by decide +kernel) rfl (Nat.le_of_ble_eq_true rfl) ?_
  intro p e s m below meth c A ls C hS hl
  obtain ⟨hx, hb, hml, hown, hts, -⟩ := id C
  have hl : lv_has ls 6 [(0, .ref (q 0)), (1, .int a1), (2, .int a2), (3, .int a3)] := hl
  unfold M_X7_lay at hm
  refine lv_aload_n hx hb dX7_lay_0 rfl (lv_at hl 0 rfl) ?_
  refine lv_iload_n hx hb dX7_lay_1 rfl (lv_at hl 1 rfl) ?_
  refine lv_iload_n hx hb dX7_lay_2 rfl (lv_at hl 2 rfl) ?_
  obtain ⟨o3, e3, hm⟩ := ob hm
  refine after_i C hS (call_V (As := [.int a1, .int a2]) C hS (c_X7_refused l d q σ a1 a2 o3 e3 _) iv_7_84 ⟨rfl, rfl, Nat.le_of_ble_eq_true rfl, Nat.le_of_ble_eq_true rfl⟩ mw_o0 rfl rfl rfl hl.1 (Nat.le_of_ble_eq_true rfl) dX7_lay_3) (fun H locs hS => ?_)
  refine lv_istore (lv' := [(4, .int o3.1), (0, .ref (q 0)), (1, .int a1), (2, .int a2), (3, .int a3)]) hx hb dX7_lay_6 hl (by decide) rfl (fun ls hl => ?_)
  refine lv_iload hx hb dX7_lay_8 (lv_at hl 0 rfl) ?_
  refine lv_if_eq (tgt := 16) hx hb dX7_lay_10 (by decide) (fun c10 => ?_) (fun c10 => ?_)
  · replace hm := it c10 hm
    refine lv_aload_n hx hb dX7_lay_16 rfl (lv_at hl 1 rfl) ?_
    refine g_7_25_0 C hS dX7_lay_17 ?_
    refine lv_bipush (v := 40) hx hb dX7_lay_20 (by decide) ?_
    refine lv_iload_n hx hb dX7_lay_22 rfl (lv_at hl 2 rfl) ?_
    refine lv_imul hx hb dX7_lay_23 ?_
    refine lv_iload_n hx hb dX7_lay_24 rfl (lv_at hl 3 rfl) ?_
    refine lv_iadd hx hb dX7_lay_25 ?_
    obtain ⟨v26, e26, hm⟩ := ob hm
    refine iald' C hS mw_a6 e26 dX7_lay_26 ?_
    refine lv_istore (lv' := [(5, .int v26), (4, .int o3.1), (0, .ref (q 0)), (1, .int a1), (2, .int a2), (3, .int a3)]) hx hb dX7_lay_27 hl (by decide) rfl (fun ls hl => ?_)
    refine lv_aload_n hx hb dX7_lay_29 rfl (lv_at hl 2 rfl) ?_
    refine g_7_25_0 C hS dX7_lay_30 ?_
    refine lv_bipush (v := 40) hx hb dX7_lay_33 (by decide) ?_
    refine lv_iload_n hx hb dX7_lay_35 rfl (lv_at hl 3 rfl) ?_
    refine lv_imul hx hb dX7_lay_36 ?_
    refine lv_iload_n hx hb dX7_lay_37 rfl (lv_at hl 4 rfl) ?_
    refine lv_iadd hx hb dX7_lay_38 ?_
    refine lv_iload_n hx hb dX7_lay_39 rfl (lv_at hl 5 rfl) ?_
    obtain ⟨σ40, e40, hm⟩ := ob hm
    refine iast' (wf := mw q d) C hS mw_a6 mw_s6 e40 dX7_lay_40 (fun H locs hS => ?_)
    refine lv_aload_n hx hb dX7_lay_41 rfl (lv_at hl 2 rfl) ?_
    refine lv_iload hx hb dX7_lay_42 (lv_at hl 0 rfl) ?_
    obtain ⟨o44, e44, hm⟩ := ob hm
    refine after_i C hS (call_V (As := [.int v26]) C hS (c_X7_tell l d q σ40 v26 o44 e44 _) iv_7_88 ⟨rfl, rfl, Nat.le_of_ble_eq_true rfl, Nat.le_of_ble_eq_true rfl⟩ mw_o0 rfl rfl rfl hl.1 (Nat.le_of_ble_eq_true rfl) dX7_lay_44) (fun H locs hS => ?_)
    exact retIw (wf := mw q d) C hS hm dX7_lay_47
  · replace hm := ie c10 hm
    refine lv_iload hx hb dX7_lay_13 (lv_at hl 0 rfl) ?_
    exact retIw (wf := mw q d) C hS hm dX7_lay_15
def M_X7_at (σ : ST) (a1 : Int32) (a2 : Int32) : Option (Int32 × ST) := (M_X7_refused σ a1 a2).bind fun o3 => if o3.1 = 0 then (rd 240 (o3.2.2.2 6) ((40 * a1) + a2)).bind fun v26 => (M_X7_tell o3.2 v26).bind fun o27 => some (o27.1, o27.2) else some (o3.1, o3.2)
abbrev rm_X7_at : Room := { frames := 3, cells := 0, slots := 0, locals := 67 }
set_option maxRecDepth 100000 in
set_option maxHeartbeats 4000000 in
theorem c_X7_at (l : Launch) (d : CD) (q : Nat → Nat) (σ : ST) (a1 : Int32) (a2 : Int32) (out : Int32 × ST) (hm : M_X7_at σ a1 a2 = some out) : MetI l yX7_at cX7_at 4 (some .int) rm_X7_at d (mw q d σ) [.ref (q 0), .int a1, .int a2] out.1 (mw q d out.2) := by
  refine mkI (own := RX7) (by decide +kernel) rfl (Nat.le_of_ble_eq_true rfl) ?_
  intro p e s m below meth c A ls C hS hl
  obtain ⟨hx, hb, hml, hown, hts, -⟩ := id C
  have hl : lv_has ls 4 [(0, .ref (q 0)), (1, .int a1), (2, .int a2)] := hl
  unfold M_X7_at at hm
  refine lv_aload_n hx hb dX7_at_0 rfl (lv_at hl 0 rfl) ?_
  refine lv_iload_n hx hb dX7_at_1 rfl (lv_at hl 1 rfl) ?_
  refine lv_iload_n hx hb dX7_at_2 rfl (lv_at hl 2 rfl) ?_
  obtain ⟨o3, e3, hm⟩ := ob hm
  refine after_i C hS (call_V (As := [.int a1, .int a2]) C hS (c_X7_refused l d q σ a1 a2 o3 e3 _) iv_7_84 ⟨rfl, rfl, Nat.le_of_ble_eq_true rfl, Nat.le_of_ble_eq_true rfl⟩ mw_o0 rfl rfl rfl hl.1 (Nat.le_of_ble_eq_true rfl) dX7_at_3) (fun H locs hS => ?_)
  refine lv_istore_n (lv' := [(3, .int o3.1), (0, .ref (q 0)), (1, .int a1), (2, .int a2)]) hx hb dX7_at_6 rfl hl (by decide) rfl (fun ls hl => ?_)
  refine lv_iload_n hx hb dX7_at_7 rfl (lv_at hl 0 rfl) ?_
  refine lv_if_eq (tgt := 15) hx hb dX7_at_8 (by decide) (fun c8 => ?_) (fun c8 => ?_)
  · replace hm := it c8 hm
    refine lv_aload_n hx hb dX7_at_15 rfl (lv_at hl 1 rfl) ?_
    refine lv_aload_n hx hb dX7_at_16 rfl (lv_at hl 1 rfl) ?_
    refine g_7_25_0 C hS dX7_at_17 ?_
    refine lv_bipush (v := 40) hx hb dX7_at_20 (by decide) ?_
    refine lv_iload_n hx hb dX7_at_22 rfl (lv_at hl 2 rfl) ?_
    refine lv_imul hx hb dX7_at_23 ?_
    refine lv_iload_n hx hb dX7_at_24 rfl (lv_at hl 3 rfl) ?_
    refine lv_iadd hx hb dX7_at_25 ?_
    obtain ⟨v26, e26, hm⟩ := ob hm
    refine iald' C hS mw_a6 e26 dX7_at_26 ?_
    obtain ⟨o27, e27, hm⟩ := ob hm
    refine after_i C hS (call_V (As := [.int v26]) C hS (c_X7_tell l d q o3.2 v26 o27 e27 _) iv_7_88 ⟨rfl, rfl, Nat.le_of_ble_eq_true rfl, Nat.le_of_ble_eq_true rfl⟩ mw_o0 rfl rfl rfl hl.1 (Nat.le_of_ble_eq_true rfl) dX7_at_27) (fun H locs hS => ?_)
    exact retIw (wf := mw q d) C hS hm dX7_at_30
  · replace hm := ie c8 hm
    refine lv_iload_n hx hb dX7_at_11 rfl (lv_at hl 0 rfl) ?_
    refine lv_goto (tgt := 30) hx hb dX7_at_12 (by decide) ?_
    exact retIw (wf := mw q d) C hS hm dX7_at_30
def M_X7_tear (σ : ST) (a1 : Int32) : Option (Int32 × ST) := (M_X7_isRow a1).bind fun o1 => if o1 = 0 then some ((-1), σ) else (rd 6 (σ.2.2 5) a1).bind fun v14 => if 0 ≤ v14 then (wrA 6 σ 5 a1 (-1)).bind fun σ30 => some (1, σ30) else (M_X7_find σ 1).bind fun o20 => some (o20.1, o20.2)
abbrev rm_X7_tear : Room := { frames := 2, cells := 0, slots := 0, locals := 45 }
set_option maxRecDepth 100000 in
set_option maxHeartbeats 4000000 in
theorem c_X7_tear (l : Launch) (d : CD) (q : Nat → Nat) (σ : ST) (a1 : Int32) (out : Int32 × ST) (hm : M_X7_tear σ a1 = some out) : MetI l yX7_tear cX7_tear 2 (some .int) rm_X7_tear d (mw q d σ) [.ref (q 0), .int a1] out.1 (mw q d out.2) := by
  refine mkI (own := RX7) (by decide +kernel) rfl (Nat.le_of_ble_eq_true rfl) ?_
  intro p e s m below meth c A ls C hS hl
  obtain ⟨hx, hb, hml, hown, hts, -⟩ := id C
  have hl : lv_has ls 2 [(0, .ref (q 0)), (1, .int a1)] := hl
  unfold M_X7_tear at hm
  refine lv_iload_n hx hb dX7_tear_0 rfl (lv_at hl 1 rfl) ?_
  obtain ⟨o1, e1, hm⟩ := ob hm
  refine after_i C hS (call_S (As := [.int a1]) C hS (c_X7_isRow l d (mw q d σ) a1 o1 e1 _) is_7_72 ⟨rfl, rfl, Nat.le_of_ble_eq_true rfl, Nat.le_of_ble_eq_true rfl⟩ rfl hl.1 (Nat.le_of_ble_eq_true rfl) dX7_tear_1) (fun H locs hS => ?_)
  refine lv_if_ne (tgt := 9) hx hb dX7_tear_4 (by decide) (fun c4 => ?_) (fun c4 => ?_)
  · replace hm := ie c4 hm
    refine lv_aload_n hx hb dX7_tear_9 rfl (lv_at hl 0 rfl) ?_
    refine g_7_22_0 C hS dX7_tear_10 ?_
    refine lv_iload_n hx hb dX7_tear_13 rfl (lv_at hl 1 rfl) ?_
    obtain ⟨v14, e14, hm⟩ := ob hm
    refine iald' C hS mw_a5 e14 dX7_tear_14 ?_
    refine lv_if_ge (tgt := 24) hx hb dX7_tear_15 (by decide) (fun c15 => ?_) (fun c15 => ?_)
    · replace hm := it c15 hm
      refine lv_aload_n hx hb dX7_tear_24 rfl (lv_at hl 0 rfl) ?_
      refine g_7_22_0 C hS dX7_tear_25 ?_
      refine lv_iload_n hx hb dX7_tear_28 rfl (lv_at hl 1 rfl) ?_
      refine lv_iconst (v := (-1)) hx hb dX7_tear_29 (by decide) ?_
      obtain ⟨σ30, e30, hm⟩ := ob hm
      refine iast' (wf := mw q d) C hS mw_a5 mw_s5 e30 dX7_tear_30 (fun H locs hS => ?_)
      refine lv_iconst (v := 1) hx hb dX7_tear_31 (by decide) ?_
      exact retIw (wf := mw q d) C hS hm dX7_tear_32
    · replace hm := ie c15 hm
      refine lv_aload_n hx hb dX7_tear_18 rfl (lv_at hl 0 rfl) ?_
      refine lv_iconst (v := 1) hx hb dX7_tear_19 (by decide) ?_
      obtain ⟨o20, e20, hm⟩ := ob hm
      refine after_i C hS (call_V (As := [.int 1]) C hS (c_X7_find l d q σ 1 o20 e20 _) iv_7_76 ⟨rfl, rfl, Nat.le_of_ble_eq_true rfl, Nat.le_of_ble_eq_true rfl⟩ mw_o0 rfl rfl rfl hl.1 (Nat.le_of_ble_eq_true rfl) dX7_tear_20) (fun H locs hS => ?_)
      exact retIw (wf := mw q d) C hS hm dX7_tear_23
  · replace hm := it c4 hm
    refine lv_iconst (v := (-1)) hx hb dX7_tear_7 (by decide) ?_
    exact retIw (wf := mw q d) C hS hm dX7_tear_8
def M_X7_isSpan (σ : ST) (a1 : Int32) (a2 : Int32) (a3 : Int32) : Option Int32 := if a2 < 0 then okZ 0 else (rd 6 (σ.2.2 5) a1).bind fun v14 => if 0 < (lg_cmp (a2.toInt64 + a3.toInt64) v14.toInt64) then okZ 0 else okZ 1
abbrev rm_X7_isSpan : Room := { frames := 0, cells := 0, slots := 0, locals := 0 }
set_option maxRecDepth 100000 in
set_option maxHeartbeats 4000000 in
theorem c_X7_isSpan (l : Launch) (d : CD) (q : Nat → Nat) (σ : ST) (a1 : Int32) (a2 : Int32) (a3 : Int32) (out : Int32) (hm : M_X7_isSpan σ a1 a2 a3 = some out) : MetI l yX7_isSpan cX7_isSpan 4 (some .boolean) rm_X7_isSpan d (mw q d σ) [.ref (q 0), .int a1, .int a2, .int a3] out (mw q d σ) := by
  refine mkI (own := RX7) (by decide +kernel) rfl (Nat.le_of_ble_eq_true rfl) ?_
  intro p e s m below meth c A ls C hS hl
  obtain ⟨hx, hb, hml, hown, hts, -⟩ := id C
  have hl : lv_has ls 4 [(0, .ref (q 0)), (1, .int a1), (2, .int a2), (3, .int a3)] := hl
  unfold M_X7_isSpan at hm
  refine lv_iload_n hx hb dX7_isSpan_0 rfl (lv_at hl 2 rfl) ?_
  refine lv_if_lt (tgt := 24) hx hb dX7_isSpan_1 (by decide) (fun c1 => ?_) (fun c1 => ?_)
  · replace hm := it c1 hm
    refine lv_iconst (v := 0) hx hb dX7_isSpan_24 (by decide) ?_
    exact retZr C hS hm dX7_isSpan_25
  · replace hm := ie c1 hm
    refine lv_iload_n hx hb dX7_isSpan_4 rfl (lv_at hl 2 rfl) ?_
    refine lv_i2l (v := a2.toInt64) hx hb dX7_isSpan_5 rfl ?_
    refine lv_iload_n hx hb dX7_isSpan_6 rfl (lv_at hl 3 rfl) ?_
    refine lv_i2l (v := a3.toInt64) hx hb dX7_isSpan_7 rfl ?_
    refine lv_ladd hx hb dX7_isSpan_8 ?_
    refine lv_aload_n hx hb dX7_isSpan_9 rfl (lv_at hl 0 rfl) ?_
    refine g_7_22_0 C hS dX7_isSpan_10 ?_
    refine lv_iload_n hx hb dX7_isSpan_13 rfl (lv_at hl 1 rfl) ?_
    obtain ⟨v14, e14, hm⟩ := ob hm
    refine iald' C hS mw_a5 e14 dX7_isSpan_14 ?_
    refine lv_i2l (v := v14.toInt64) hx hb dX7_isSpan_15 rfl ?_
    refine W.lcmp hx hb dX7_isSpan_16 ?_
    refine lv_if_gt (tgt := 24) hx hb dX7_isSpan_17 (by decide) (fun c17 => ?_) (fun c17 => ?_)
    · replace hm := it c17 hm
      refine lv_iconst (v := 0) hx hb dX7_isSpan_24 (by decide) ?_
      exact retZr C hS hm dX7_isSpan_25
    · replace hm := ie c17 hm
      refine lv_iconst (v := 1) hx hb dX7_isSpan_20 (by decide) ?_
      refine lv_goto (tgt := 25) hx hb dX7_isSpan_21 (by decide) ?_
      exact retZr C hS hm dX7_isSpan_25
