def M_X5_weightOf_20 (σ : ST) : Nat → Int32 → Int32 → Int32 → Int32 → Option Int32
  | 0, _, _, _, _ => none
  | n + 1, x1, x2, x3, x4 => if (σ.1 33) ≤ x4 then some x3 else (rd 7 (σ.2.2 29) x4).bind fun v38 => (M_X6_isIn v38 x1).bind fun o40 => if o40 = 0 then (rd 7 (σ.2.2 24) x4).bind fun v67 => if v67 = 2 then M_X5_weightOf_20 σ n x1 x2 (x3 + x2) (x4 + 1) else M_X5_weightOf_20 σ n x1 x2 x3 (x4 + 1) else (M_X5_keyWeight σ x4).bind fun o50 => M_X5_weightOf_20 σ n x1 x2 (x3 + o50) (x4 + 1)
def M_X5_weightOf (σ : ST) (a1 : Int32) : Option Int32 := if ((σ.1 36) - (σ.1 36) / 3 * 3) = 0 then M_X5_weightOf_20 σ 10000 a1 1 0 0 else M_X5_weightOf_20 σ 10000 a1 0 0 0
abbrev rm_X5_weightOf : Room := { frames := 2, cells := 0, slots := 0, locals := 43 }
set_option maxRecDepth 100000 in
set_option maxHeartbeats 4000000 in
theorem c_X5_weightOf (l : Launch) (d : CD) (q : Nat → Nat) (σ : ST) (a1 : Int32) (out : Int32) (hm : M_X5_weightOf σ a1 = some out) : MetI l yX5_weightOf cX5_weightOf 5 (some .int) rm_X5_weightOf d (cw q d σ) [.ref (q 22), .int a1] out (cw q d σ) := by
  refine mkI (own := RX5) (by decide +kernel) rfl (Nat.le_of_ble_eq_true rfl) ?_
  intro p e s m below meth c A ls C hS hl
  obtain ⟨hx, hb, hml, hown, hts, -⟩ := id C
  have hl : lv_has ls 5 [(0, .ref (q 22)), (1, .int a1)] := hl
  have L20 : ∀ (n : Nat) (x1 : Int32) (x2 : Int32) (x3 : Int32) (x4 : Int32) (H : Heap) (locs : List Loc) (ls : Array Slot), HS d A s.heap H locs (cw q d σ) → lv_has ls 5 [(0, .ref (q 22)), (1, .int x1), (2, .int x2), (3, .int x3), (4, .int x4)] → M_X5_weightOf_20 σ n x1 x2 x3 x4 = some out → WI p l e rm_X5_weightOf s m [.ref (q 22), .int a1].toArray below meth c A d H locs out (cw q d σ) (F0 m 20 ls []) := by
    intro n
    induction n with
    | zero =>
      intro x1 x2 x3 x4 H locs ls hS hl hm
      exact absurd hm (by rw [M_X5_weightOf_20]; exact fun h => nomatch h)
    | succ n ih =>
      intro x1 x2 x3 x4 H locs ls hS hl hm
      rw [M_X5_weightOf_20] at hm
      refine lv_iload hx hb dX5_weightOf_20 (lv_at hl 4 rfl) ?_
      refine lv_aload_n hx hb dX5_weightOf_22 rfl (lv_at hl 0 rfl) ?_
      refine g_5_12_22 C hS dX5_weightOf_23 ?_
      refine g_5_95_23 C hS dX5_weightOf_26 ?_
      refine lv_icmp_ge (tgt := 82) hx hb dX5_weightOf_29 (by decide) (fun c29 => ?_) (fun c29 => ?_)
      · replace hm := it c29 hm
        refine lv_iload_n hx hb dX5_weightOf_82 rfl (lv_at hl 3 rfl) ?_
        exact retIr C hS hm dX5_weightOf_83
      · replace hm := ie c29 hm
        refine lv_aload_n hx hb dX5_weightOf_32 rfl (lv_at hl 0 rfl) ?_
        refine g_5_27_22 C hS dX5_weightOf_33 ?_
        refine lv_iload hx hb dX5_weightOf_36 (lv_at hl 4 rfl) ?_
        obtain ⟨v38, e38, hm⟩ := ob hm
        refine iald' C hS cw_a29 e38 dX5_weightOf_38 ?_
        refine lv_iload_n hx hb dX5_weightOf_39 rfl (lv_at hl 1 rfl) ?_
        obtain ⟨o40, e40, hm⟩ := ob hm
        refine after_i C hS (call_N (As := [.int v38, .int x1]) C hS (c_X6_isIn l d (cw q d σ) v38 x1 o40 e40 _) is_5_109 ⟨rfl, rfl, Nat.le_of_ble_eq_true rfl, Nat.le_of_ble_eq_true rfl⟩ rfl hl.1 (Nat.le_of_ble_eq_true rfl) dX5_weightOf_40) (fun H locs hS => ?_)
        refine lv_if_eq (tgt := 58) hx hb dX5_weightOf_43 (by decide) (fun c43 => ?_) (fun c43 => ?_)
        · replace hm := it c43 hm
          refine lv_aload_n hx hb dX5_weightOf_58 rfl (lv_at hl 0 rfl) ?_
          refine g_5_12_22 C hS dX5_weightOf_59 ?_
          refine g_5_102_23 C hS dX5_weightOf_62 ?_
          refine lv_iload hx hb dX5_weightOf_65 (lv_at hl 4 rfl) ?_
          obtain ⟨v67, e67, hm⟩ := ob hm
          refine iald' C hS cw_a24 e67 dX5_weightOf_67 ?_
          refine lv_iconst (v := 2) hx hb dX5_weightOf_68 (by decide) ?_
          refine lv_icmp_ne (tgt := 76) hx hb dX5_weightOf_69 (by decide) (fun c69 => ?_) (fun c69 => ?_)
          · replace hm := ie c69 hm
            refine lv_iinc (v := x4 + 1) (lv' := [(4, .int (x4 + 1)), (0, .ref (q 22)), (1, .int x1), (2, .int x2), (3, .int x3)]) hx hb dX5_weightOf_76 hl (k := 4) rfl rfl (by decide) rfl (fun ls hl => ?_)
            refine lv_goto (tgt := 20) hx hb dX5_weightOf_79 (by decide) ?_
            exact ih x1 x2 x3 (x4 + 1) _ _ _ hS (lv_sub hl [1, 2, 3, 4, 0] rfl) hm
          · replace hm := it c69 hm
            refine lv_iload_n hx hb dX5_weightOf_72 rfl (lv_at hl 3 rfl) ?_
            refine lv_iload_n hx hb dX5_weightOf_73 rfl (lv_at hl 2 rfl) ?_
            refine lv_iadd hx hb dX5_weightOf_74 ?_
            refine lv_istore_n (lv' := [(3, .int (x3 + x2)), (0, .ref (q 22)), (1, .int x1), (2, .int x2), (4, .int x4)]) hx hb dX5_weightOf_75 rfl hl (by decide) rfl (fun ls hl => ?_)
            refine lv_iinc (v := x4 + 1) (lv' := [(4, .int (x4 + 1)), (3, .int (x3 + x2)), (0, .ref (q 22)), (1, .int x1), (2, .int x2)]) hx hb dX5_weightOf_76 hl (k := 4) rfl rfl (by decide) rfl (fun ls hl => ?_)
            refine lv_goto (tgt := 20) hx hb dX5_weightOf_79 (by decide) ?_
            exact ih x1 x2 (x3 + x2) (x4 + 1) _ _ _ hS (lv_sub hl [2, 3, 4, 1, 0] rfl) hm
        · replace hm := ie c43 hm
          refine lv_iload_n hx hb dX5_weightOf_46 rfl (lv_at hl 3 rfl) ?_
          refine lv_aload_n hx hb dX5_weightOf_47 rfl (lv_at hl 0 rfl) ?_
          refine lv_iload hx hb dX5_weightOf_48 (lv_at hl 4 rfl) ?_
          obtain ⟨o50, e50, hm⟩ := ob hm
          refine after_i C hS (call_V (As := [.int x4]) C hS (c_X5_keyWeight l d q σ x4 o50 e50 _) iv_5_112 ⟨rfl, rfl, Nat.le_of_ble_eq_true rfl, Nat.le_of_ble_eq_true rfl⟩ cw_o22 rfl rfl rfl hl.1 (Nat.le_of_ble_eq_true rfl) dX5_weightOf_50) (fun H locs hS => ?_)
          refine lv_iadd hx hb dX5_weightOf_53 ?_
          refine lv_istore_n (lv' := [(3, .int (x3 + o50)), (0, .ref (q 22)), (1, .int x1), (2, .int x2), (4, .int x4)]) hx hb dX5_weightOf_54 rfl hl (by decide) rfl (fun ls hl => ?_)
          refine lv_goto (tgt := 76) hx hb dX5_weightOf_55 (by decide) ?_
          refine lv_iinc (v := x4 + 1) (lv' := [(4, .int (x4 + 1)), (3, .int (x3 + o50)), (0, .ref (q 22)), (1, .int x1), (2, .int x2)]) hx hb dX5_weightOf_76 hl (k := 4) rfl rfl (by decide) rfl (fun ls hl => ?_)
          refine lv_goto (tgt := 20) hx hb dX5_weightOf_79 (by decide) ?_
          exact ih x1 x2 (x3 + o50) (x4 + 1) _ _ _ hS (lv_sub hl [2, 3, 4, 1, 0] rfl) hm
  unfold M_X5_weightOf at hm
  refine lv_aload_n hx hb dX5_weightOf_0 rfl (lv_at hl 0 rfl) ?_
  refine g_5_50_22 C hS dX5_weightOf_1 ?_
  refine lv_iconst (v := 3) hx hb dX5_weightOf_4 (by decide) ?_
  refine lv_irem hx hb dX5_weightOf_5 (by decide) ?_
  refine lv_if_ne (tgt := 13) hx hb dX5_weightOf_6 (by decide) (fun c6 => ?_) (fun c6 => ?_)
  · replace hm := ie c6 hm
    refine lv_iconst (v := 0) hx hb dX5_weightOf_13 (by decide) ?_
    refine lv_istore_n (lv' := [(2, .int 0), (0, .ref (q 22)), (1, .int a1)]) hx hb dX5_weightOf_14 rfl hl (by decide) rfl (fun ls hl => ?_)
    refine lv_iconst (v := 0) hx hb dX5_weightOf_15 (by decide) ?_
    refine lv_istore_n (lv' := [(3, .int 0), (2, .int 0), (0, .ref (q 22)), (1, .int a1)]) hx hb dX5_weightOf_16 rfl hl (by decide) rfl (fun ls hl => ?_)
    refine lv_iconst (v := 0) hx hb dX5_weightOf_17 (by decide) ?_
    refine lv_istore (lv' := [(4, .int 0), (3, .int 0), (2, .int 0), (0, .ref (q 22)), (1, .int a1)]) hx hb dX5_weightOf_18 hl (by decide) rfl (fun ls hl => ?_)
    exact L20 10000 a1 0 0 0 _ _ _ hS (lv_sub hl [3, 4, 2, 1, 0] rfl) hm
  · replace hm := it c6 hm
    refine lv_iconst (v := 1) hx hb dX5_weightOf_9 (by decide) ?_
    refine lv_goto (tgt := 14) hx hb dX5_weightOf_10 (by decide) ?_
    refine lv_istore_n (lv' := [(2, .int 1), (0, .ref (q 22)), (1, .int a1)]) hx hb dX5_weightOf_14 rfl hl (by decide) rfl (fun ls hl => ?_)
    refine lv_iconst (v := 0) hx hb dX5_weightOf_15 (by decide) ?_
    refine lv_istore_n (lv' := [(3, .int 0), (2, .int 1), (0, .ref (q 22)), (1, .int a1)]) hx hb dX5_weightOf_16 rfl hl (by decide) rfl (fun ls hl => ?_)
    refine lv_iconst (v := 0) hx hb dX5_weightOf_17 (by decide) ?_
    refine lv_istore (lv' := [(4, .int 0), (3, .int 0), (2, .int 1), (0, .ref (q 22)), (1, .int a1)]) hx hb dX5_weightOf_18 hl (by decide) rfl (fun ls hl => ?_)
    exact L20 10000 a1 1 0 0 _ _ _ hS (lv_sub hl [3, 4, 2, 1, 0] rfl) hm
def M_X0_isPeaceful_2 (σ : ST) : Nat → Int32 → Int32 → Option Int32
  | 0, _, _ => none
  | n + 1, x1, x2 => if (σ.1 33) ≤ x2 then okZ 1 else (M_X6_isIn x2 x1).bind fun o12 => if o12 = 0 then M_X0_isPeaceful_2 σ n x1 (x2 + 1) else (rd 7 (σ.2.2 26) x2).bind fun v23 => if (v23 &&& x1) = 0 then M_X0_isPeaceful_2 σ n x1 (x2 + 1) else okZ 0
def M_X0_isPeaceful (σ : ST) (a1 : Int32) : Option Int32 := M_X0_isPeaceful_2 σ 10000 a1 0
abbrev rm_X0_isPeaceful : Room := { frames := 1, cells := 0, slots := 0, locals := 21 }
set_option maxRecDepth 100000 in
set_option maxHeartbeats 4000000 in
theorem c_X0_isPeaceful (l : Launch) (d : CD) (q : Nat → Nat) (σ : ST) (a1 : Int32) (out : Int32) (hm : M_X0_isPeaceful σ a1 = some out) : MetI l yX0_isPeaceful cX0_isPeaceful 3 (some .boolean) rm_X0_isPeaceful d (cw q d σ) [.ref (q 23), .int a1] out (cw q d σ) := by
  refine mkI (own := RX0) (by decide +kernel) rfl (Nat.le_of_ble_eq_true rfl) ?_
  intro p e s m below meth c A ls C hS hl
  obtain ⟨hx, hb, hml, hown, hts, -⟩ := id C
  have hl : lv_has ls 3 [(0, .ref (q 23)), (1, .int a1)] := hl
  have L2 : ∀ (n : Nat) (x1 : Int32) (x2 : Int32) (H : Heap) (locs : List Loc) (ls : Array Slot), HS d A s.heap H locs (cw q d σ) → lv_has ls 3 [(0, .ref (q 23)), (1, .int x1), (2, .int x2)] → M_X0_isPeaceful_2 σ n x1 x2 = some out → WI p l e rm_X0_isPeaceful s m [.ref (q 23), .int a1].toArray below meth c A d H locs out (cw q d σ) (F0 m 2 ls []) := by
    intro n
    induction n with
    | zero =>
      intro x1 x2 H locs ls hS hl hm
      exact absurd hm (by rw [M_X0_isPeaceful_2]; exact fun h => nomatch h)
    | succ n ih =>
      intro x1 x2 H locs ls hS hl hm
      rw [M_X0_isPeaceful_2] at hm
      refine lv_iload_n hx hb dX0_isPeaceful_2 rfl (lv_at hl 2 rfl) ?_
      refine lv_aload_n hx hb dX0_isPeaceful_3 rfl (lv_at hl 0 rfl) ?_
      refine g_0_31_23 C hS dX0_isPeaceful_4 ?_
      refine lv_icmp_ge (tgt := 37) hx hb dX0_isPeaceful_7 (by decide) (fun c7 => ?_) (fun c7 => ?_)
      · replace hm := it c7 hm
        refine lv_iconst (v := 1) hx hb dX0_isPeaceful_37 (by decide) ?_
        exact retZr C hS hm dX0_isPeaceful_38
      · replace hm := ie c7 hm
        refine lv_iload_n hx hb dX0_isPeaceful_10 rfl (lv_at hl 2 rfl) ?_
        refine lv_iload_n hx hb dX0_isPeaceful_11 rfl (lv_at hl 1 rfl) ?_
        obtain ⟨o12, e12, hm⟩ := ob hm
        refine after_i C hS (call_N (As := [.int x2, .int x1]) C hS (c_X6_isIn l d (cw q d σ) x2 x1 o12 e12 _) is_0_43 ⟨rfl, rfl, Nat.le_of_ble_eq_true rfl, Nat.le_of_ble_eq_true rfl⟩ rfl hl.1 (Nat.le_of_ble_eq_true rfl) dX0_isPeaceful_12) (fun H locs hS => ?_)
        refine lv_if_eq (tgt := 31) hx hb dX0_isPeaceful_15 (by decide) (fun c15 => ?_) (fun c15 => ?_)
        · replace hm := it c15 hm
          refine lv_iinc (v := x2 + 1) (lv' := [(2, .int (x2 + 1)), (0, .ref (q 23)), (1, .int x1)]) hx hb dX0_isPeaceful_31 hl (k := 2) rfl rfl (by decide) rfl (fun ls hl => ?_)
          refine lv_goto (tgt := 2) hx hb dX0_isPeaceful_34 (by decide) ?_
          exact ih x1 (x2 + 1) _ _ _ hS (lv_sub hl [1, 2, 0] rfl) hm
        · replace hm := ie c15 hm
          refine lv_aload_n hx hb dX0_isPeaceful_18 rfl (lv_at hl 0 rfl) ?_
          refine g_0_18_23 C hS dX0_isPeaceful_19 ?_
          refine lv_iload_n hx hb dX0_isPeaceful_22 rfl (lv_at hl 2 rfl) ?_
          obtain ⟨v23, e23, hm⟩ := ob hm
          refine iald' C hS cw_a26 e23 dX0_isPeaceful_23 ?_
          refine lv_iload_n hx hb dX0_isPeaceful_24 rfl (lv_at hl 1 rfl) ?_
          refine lv_iand hx hb dX0_isPeaceful_25 ?_
          refine lv_if_eq (tgt := 31) hx hb dX0_isPeaceful_26 (by decide) (fun c26 => ?_) (fun c26 => ?_)
          · replace hm := it c26 hm
            refine lv_iinc (v := x2 + 1) (lv' := [(2, .int (x2 + 1)), (0, .ref (q 23)), (1, .int x1)]) hx hb dX0_isPeaceful_31 hl (k := 2) rfl rfl (by decide) rfl (fun ls hl => ?_)
            refine lv_goto (tgt := 2) hx hb dX0_isPeaceful_34 (by decide) ?_
            exact ih x1 (x2 + 1) _ _ _ hS (lv_sub hl [1, 2, 0] rfl) hm
          · replace hm := ie c26 hm
            refine lv_iconst (v := 0) hx hb dX0_isPeaceful_29 (by decide) ?_
            exact retZr C hS hm dX0_isPeaceful_30
  unfold M_X0_isPeaceful at hm
  refine lv_iconst (v := 0) hx hb dX0_isPeaceful_0 (by decide) ?_
  refine lv_istore_n (lv' := [(2, .int 0), (0, .ref (q 23)), (1, .int a1)]) hx hb dX0_isPeaceful_1 rfl hl (by decide) rfl (fun ls hl => ?_)
  exact L2 10000 a1 0 _ _ _ hS (lv_sub hl [1, 2, 0] rfl) hm
def M_X5_wouldOpen (σ : ST) (a1 : Int32) (a2 : Int32) (a3 : Int32) : Option Int32 := if (σ.1 33) ≤ 0 then okZ 0 else if a2 < a3 then okZ 0 else (M_X0_isPeaceful σ a1).bind fun o20 => if o20 = 0 then okZ 0 else okZ 1
abbrev rm_X5_wouldOpen : Room := { frames := 2, cells := 0, slots := 0, locals := 43 }
set_option maxRecDepth 100000 in
set_option maxHeartbeats 4000000 in
theorem c_X5_wouldOpen (l : Launch) (d : CD) (q : Nat → Nat) (σ : ST) (a1 : Int32) (a2 : Int32) (a3 : Int32) (out : Int32) (hm : M_X5_wouldOpen σ a1 a2 a3 = some out) : MetI l yX5_wouldOpen cX5_wouldOpen 4 (some .boolean) rm_X5_wouldOpen d (cw q d σ) [.ref (q 22), .int a1, .int a2, .int a3] out (cw q d σ) := by
  refine mkI (own := RX5) (by decide +kernel) rfl (Nat.le_of_ble_eq_true rfl) ?_
  intro p e s m below meth c A ls C hS hl
  obtain ⟨hx, hb, hml, hown, hts, -⟩ := id C
  have hl : lv_has ls 4 [(0, .ref (q 22)), (1, .int a1), (2, .int a2), (3, .int a3)] := hl
  unfold M_X5_wouldOpen at hm
  refine lv_aload_n hx hb dX5_wouldOpen_0 rfl (lv_at hl 0 rfl) ?_
  refine g_5_12_22 C hS dX5_wouldOpen_1 ?_
  refine g_5_95_23 C hS dX5_wouldOpen_4 ?_
  refine lv_if_le (tgt := 30) hx hb dX5_wouldOpen_7 (by decide) (fun c7 => ?_) (fun c7 => ?_)
  · replace hm := it c7 hm
    refine lv_iconst (v := 0) hx hb dX5_wouldOpen_30 (by decide) ?_
    exact retZr C hS hm dX5_wouldOpen_31
  · replace hm := ie c7 hm
    refine lv_iload_n hx hb dX5_wouldOpen_10 rfl (lv_at hl 2 rfl) ?_
    refine lv_iload_n hx hb dX5_wouldOpen_11 rfl (lv_at hl 3 rfl) ?_
    refine lv_icmp_lt (tgt := 30) hx hb dX5_wouldOpen_12 (by decide) (fun c12 => ?_) (fun c12 => ?_)
    · replace hm := it c12 hm
      refine lv_iconst (v := 0) hx hb dX5_wouldOpen_30 (by decide) ?_
      exact retZr C hS hm dX5_wouldOpen_31
    · replace hm := ie c12 hm
      refine lv_aload_n hx hb dX5_wouldOpen_15 rfl (lv_at hl 0 rfl) ?_
      refine g_5_12_22 C hS dX5_wouldOpen_16 ?_
      refine lv_iload_n hx hb dX5_wouldOpen_19 rfl (lv_at hl 1 rfl) ?_
      obtain ⟨o20, e20, hm⟩ := ob hm
      refine after_i C hS (call_V (As := [.int a1]) C hS (c_X0_isPeaceful l d q σ a1 o20 e20 _) iv_5_115 ⟨rfl, rfl, Nat.le_of_ble_eq_true rfl, Nat.le_of_ble_eq_true rfl⟩ cw_o23 rfl rfl rfl hl.1 (Nat.le_of_ble_eq_true rfl) dX5_wouldOpen_20) (fun H locs hS => ?_)
      refine lv_if_eq (tgt := 30) hx hb dX5_wouldOpen_23 (by decide) (fun c23 => ?_) (fun c23 => ?_)
      · replace hm := it c23 hm
        refine lv_iconst (v := 0) hx hb dX5_wouldOpen_30 (by decide) ?_
        exact retZr C hS hm dX5_wouldOpen_31
      · replace hm := ie c23 hm
        refine lv_iconst (v := 1) hx hb dX5_wouldOpen_26 (by decide) ?_
        refine lv_goto (tgt := 31) hx hb dX5_wouldOpen_27 (by decide) ?_
        exact retZr C hS hm dX5_wouldOpen_31
def M_X5_isOpenTo (σ : ST) (a1 : Int32) : Option Int32 := (M_X5_weightOf σ a1).bind fun o4 => (M_X5_wouldOpen σ a1 o4 (σ.1 30)).bind fun o14 => okZ o14
abbrev rm_X5_isOpenTo : Room := { frames := 3, cells := 0, slots := 0, locals := 67 }
set_option maxRecDepth 100000 in
set_option maxHeartbeats 4000000 in
theorem c_X5_isOpenTo (l : Launch) (d : CD) (q : Nat → Nat) (σ : ST) (a1 : Int32) (out : Int32) (hm : M_X5_isOpenTo σ a1 = some out) : MetI l yX5_isOpenTo cX5_isOpenTo 2 (some .boolean) rm_X5_isOpenTo d (cw q d σ) [.ref (q 22), .int a1] out (cw q d σ) := by
  refine mkI (own := RX5) (by decide +kernel) rfl (Nat.le_of_ble_eq_true rfl) ?_
  intro p e s m below meth c A ls C hS hl
  obtain ⟨hx, hb, hml, hown, hts, -⟩ := id C
  have hl : lv_has ls 2 [(0, .ref (q 22)), (1, .int a1)] := hl
  unfold M_X5_isOpenTo at hm
  refine lv_aload_n hx hb dX5_isOpenTo_0 rfl (lv_at hl 0 rfl) ?_
  refine lv_iload_n hx hb dX5_isOpenTo_1 rfl (lv_at hl 1 rfl) ?_
  refine lv_aload_n hx hb dX5_isOpenTo_2 rfl (lv_at hl 0 rfl) ?_
  refine lv_iload_n hx hb dX5_isOpenTo_3 rfl (lv_at hl 1 rfl) ?_
  obtain ⟨o4, e4, hm⟩ := ob hm
  refine after_i C hS (call_V (As := [.int a1]) C hS (c_X5_weightOf l d q σ a1 o4 e4 _) iv_5_118 ⟨rfl, rfl, Nat.le_of_ble_eq_true rfl, Nat.le_of_ble_eq_true rfl⟩ cw_o22 rfl rfl rfl hl.1 (Nat.le_of_ble_eq_true rfl) dX5_isOpenTo_4) (fun H locs hS => ?_)
  refine lv_aload_n hx hb dX5_isOpenTo_7 rfl (lv_at hl 0 rfl) ?_
  refine g_5_12_22 C hS dX5_isOpenTo_8 ?_
  refine g_5_121_23 C hS dX5_isOpenTo_11 ?_
  obtain ⟨o14, e14, hm⟩ := ob hm
  refine after_i C hS (call_V (As := [.int a1, .int o4, .int (σ.1 30)]) C hS (c_X5_wouldOpen l d q σ a1 o4 (σ.1 30) o14 e14 _) iv_5_124 ⟨rfl, rfl, Nat.le_of_ble_eq_true rfl, Nat.le_of_ble_eq_true rfl⟩ cw_o22 rfl rfl rfl hl.1 (Nat.le_of_ble_eq_true rfl) dX5_isOpenTo_14) (fun H locs hS => ?_)
  exact retZr C hS hm dX5_isOpenTo_17
def M_X5_sets (σ : ST) : Option Int32 := some ((1 : Int32) <<< ((σ.1 33) &&& 31))
abbrev rm_X5_sets : Room := { frames := 0, cells := 0, slots := 0, locals := 0 }
set_option maxRecDepth 100000 in
set_option maxHeartbeats 4000000 in
theorem c_X5_sets (l : Launch) (d : CD) (q : Nat → Nat) (σ : ST) (out : Int32) (hm : M_X5_sets σ = some out) : MetI l yX5_sets cX5_sets 1 (some .int) rm_X5_sets d (cw q d σ) [.ref (q 22)] out (cw q d σ) := by
  refine mkI (own := RX5) (by decide +kernel) rfl (Nat.le_of_ble_eq_true rfl) ?_
  intro p e s m below meth c A ls C hS hl
  obtain ⟨hx, hb, hml, hown, hts, -⟩ := id C
  have hl : lv_has ls 1 [(0, .ref (q 22))] := hl
  unfold M_X5_sets at hm
  refine lv_iconst (v := 1) hx hb dX5_sets_0 (by decide) ?_
  refine lv_aload_n hx hb dX5_sets_1 rfl (lv_at hl 0 rfl) ?_
  refine g_5_12_22 C hS dX5_sets_2 ?_
  refine g_5_95_23 C hS dX5_sets_5 ?_
  refine lv_ishl hx hb dX5_sets_8 ?_
  exact retIr C hS hm dX5_sets_9
def M_X5_othersNeededByAll_12 (σ : ST) : Nat → Int32 → Int32 → Int32 → Int32 → Option Int32
  | 0, _, _, _, _ => none
  | n + 1, x1, x2, x3, x4 => if (σ.1 33) ≤ x4 then some x3 else if x4 = x1 then M_X5_othersNeededByAll_12 σ n x1 x2 x3 (x4 + 1) else (M_X5_isOpenTo σ (x2 &&& (((1 : Int32) <<< (x4 &&& 31)) ^^^ (-1)))).bind fun o39 => if o39 = 0 then M_X5_othersNeededByAll_12 σ n x1 x2 (x3 + 1) (x4 + 1) else M_X5_othersNeededByAll_12 σ n x1 x2 x3 (x4 + 1)
def M_X5_othersNeededByAll (σ : ST) (a1 : Int32) : Option Int32 := (M_X5_sets σ).bind fun o1 => M_X5_othersNeededByAll_12 σ 10000 a1 (o1 - 1) 0 0
abbrev rm_X5_othersNeededByAll : Room := { frames := 4, cells := 0, slots := 0, locals := 88 }
set_option maxRecDepth 100000 in
set_option maxHeartbeats 4000000 in
theorem c_X5_othersNeededByAll (l : Launch) (d : CD) (q : Nat → Nat) (σ : ST) (a1 : Int32) (out : Int32) (hm : M_X5_othersNeededByAll σ a1 = some out) : MetI l yX5_othersNeededByAll cX5_othersNeededByAll 5 (some .int) rm_X5_othersNeededByAll d (cw q d σ) [.ref (q 22), .int a1] out (cw q d σ) := by
  refine mkI (own := RX5) (by decide +kernel) rfl (Nat.le_of_ble_eq_true rfl) ?_
  intro p e s m below meth c A ls C hS hl
  obtain ⟨hx, hb, hml, hown, hts, -⟩ := id C
  have hl : lv_has ls 5 [(0, .ref (q 22)), (1, .int a1)] := hl
  have L12 : ∀ (n : Nat) (x1 : Int32) (x2 : Int32) (x3 : Int32) (x4 : Int32) (H : Heap) (locs : List Loc) (ls : Array Slot), HS d A s.heap H locs (cw q d σ) → lv_has ls 5 [(0, .ref (q 22)), (1, .int x1), (2, .int x2), (3, .int x3), (4, .int x4)] → M_X5_othersNeededByAll_12 σ n x1 x2 x3 x4 = some out → WI p l e rm_X5_othersNeededByAll s m [.ref (q 22), .int a1].toArray below meth c A d H locs out (cw q d σ) (F0 m 12 ls []) := by
    intro n
    induction n with
    | zero =>
      intro x1 x2 x3 x4 H locs ls hS hl hm
      exact absurd hm (by rw [M_X5_othersNeededByAll_12]; exact fun h => nomatch h)
    | succ n ih =>
      intro x1 x2 x3 x4 H locs ls hS hl hm
      rw [M_X5_othersNeededByAll_12] at hm
      refine lv_iload hx hb dX5_othersNeededByAll_12 (lv_at hl 4 rfl) ?_
      refine lv_aload_n hx hb dX5_othersNeededByAll_14 rfl (lv_at hl 0 rfl) ?_
      refine g_5_12_22 C hS dX5_othersNeededByAll_15 ?_
      refine g_5_95_23 C hS dX5_othersNeededByAll_18 ?_
      refine lv_icmp_ge (tgt := 54) hx hb dX5_othersNeededByAll_21 (by decide) (fun c21 => ?_) (fun c21 => ?_)
      · replace hm := it c21 hm
        refine lv_iload_n hx hb dX5_othersNeededByAll_54 rfl (lv_at hl 3 rfl) ?_
        exact retIr C hS hm dX5_othersNeededByAll_55
      · replace hm := ie c21 hm
        refine lv_iload hx hb dX5_othersNeededByAll_24 (lv_at hl 4 rfl) ?_
        refine lv_iload_n hx hb dX5_othersNeededByAll_26 rfl (lv_at hl 1 rfl) ?_
        refine lv_icmp_eq (tgt := 48) hx hb dX5_othersNeededByAll_27 (by decide) (fun c27 => ?_) (fun c27 => ?_)
        · replace hm := it c27 hm
          refine lv_iinc (v := x4 + 1) (lv' := [(4, .int (x4 + 1)), (0, .ref (q 22)), (1, .int x1), (2, .int x2), (3, .int x3)]) hx hb dX5_othersNeededByAll_48 hl (k := 4) rfl rfl (by decide) rfl (fun ls hl => ?_)
          refine lv_goto (tgt := 12) hx hb dX5_othersNeededByAll_51 (by decide) ?_
          exact ih x1 x2 x3 (x4 + 1) _ _ _ hS (lv_sub hl [1, 2, 3, 4, 0] rfl) hm
        · replace hm := ie c27 hm
          refine lv_aload_n hx hb dX5_othersNeededByAll_30 rfl (lv_at hl 0 rfl) ?_
          refine lv_iload_n hx hb dX5_othersNeededByAll_31 rfl (lv_at hl 2 rfl) ?_
          refine lv_iconst (v := 1) hx hb dX5_othersNeededByAll_32 (by decide) ?_
          refine lv_iload hx hb dX5_othersNeededByAll_33 (lv_at hl 4 rfl) ?_
          refine lv_ishl hx hb dX5_othersNeededByAll_35 ?_
          refine lv_iconst (v := (-1)) hx hb dX5_othersNeededByAll_36 (by decide) ?_
          refine lv_ixor hx hb dX5_othersNeededByAll_37 ?_
          refine lv_iand hx hb dX5_othersNeededByAll_38 ?_
          obtain ⟨o39, e39, hm⟩ := ob hm
          refine after_i C hS (call_V (As := [.int (x2 &&& (((1 : Int32) <<< (x4 &&& 31)) ^^^ (-1)))]) C hS (c_X5_isOpenTo l d q σ (x2 &&& (((1 : Int32) <<< (x4 &&& 31)) ^^^ (-1))) o39 e39 _) iv_5_143 ⟨rfl, rfl, Nat.le_of_ble_eq_true rfl, Nat.le_of_ble_eq_true rfl⟩ cw_o22 rfl rfl rfl hl.1 (Nat.le_of_ble_eq_true rfl) dX5_othersNeededByAll_39) (fun H locs hS => ?_)
          refine lv_if_ne (tgt := 48) hx hb dX5_othersNeededByAll_42 (by decide) (fun c42 => ?_) (fun c42 => ?_)
          · replace hm := ie c42 hm
            refine lv_iinc (v := x4 + 1) (lv' := [(4, .int (x4 + 1)), (0, .ref (q 22)), (1, .int x1), (2, .int x2), (3, .int x3)]) hx hb dX5_othersNeededByAll_48 hl (k := 4) rfl rfl (by decide) rfl (fun ls hl => ?_)
            refine lv_goto (tgt := 12) hx hb dX5_othersNeededByAll_51 (by decide) ?_
            exact ih x1 x2 x3 (x4 + 1) _ _ _ hS (lv_sub hl [1, 2, 3, 4, 0] rfl) hm
          · replace hm := it c42 hm
            refine lv_iinc (v := x3 + 1) (lv' := [(3, .int (x3 + 1)), (0, .ref (q 22)), (1, .int x1), (2, .int x2), (4, .int x4)]) hx hb dX5_othersNeededByAll_45 hl (k := 3) rfl rfl (by decide) rfl (fun ls hl => ?_)
            refine lv_iinc (v := x4 + 1) (lv' := [(4, .int (x4 + 1)), (3, .int (x3 + 1)), (0, .ref (q 22)), (1, .int x1), (2, .int x2)]) hx hb dX5_othersNeededByAll_48 hl (k := 4) rfl rfl (by decide) rfl (fun ls hl => ?_)
            refine lv_goto (tgt := 12) hx hb dX5_othersNeededByAll_51 (by decide) ?_
            exact ih x1 x2 (x3 + 1) (x4 + 1) _ _ _ hS (lv_sub hl [2, 3, 4, 1, 0] rfl) hm
  unfold M_X5_othersNeededByAll at hm
  refine lv_aload_n hx hb dX5_othersNeededByAll_0 rfl (lv_at hl 0 rfl) ?_
  obtain ⟨o1, e1, hm⟩ := ob hm
  refine after_i C hS (call_V (As := []) C hS (c_X5_sets l d q σ o1 e1 _) iv_5_98 ⟨rfl, rfl, Nat.le_of_ble_eq_true rfl, Nat.le_of_ble_eq_true rfl⟩ cw_o22 rfl rfl rfl hl.1 (Nat.le_of_ble_eq_true rfl) dX5_othersNeededByAll_1) (fun H locs hS => ?_)
  refine lv_iconst (v := 1) hx hb dX5_othersNeededByAll_4 (by decide) ?_
  refine lv_isub hx hb dX5_othersNeededByAll_5 ?_
  refine lv_istore_n (lv' := [(2, .int (o1 - 1)), (0, .ref (q 22)), (1, .int a1)]) hx hb dX5_othersNeededByAll_6 rfl hl (by decide) rfl (fun ls hl => ?_)
  refine lv_iconst (v := 0) hx hb dX5_othersNeededByAll_7 (by decide) ?_
  refine lv_istore_n (lv' := [(3, .int 0), (2, .int (o1 - 1)), (0, .ref (q 22)), (1, .int a1)]) hx hb dX5_othersNeededByAll_8 rfl hl (by decide) rfl (fun ls hl => ?_)
  refine lv_iconst (v := 0) hx hb dX5_othersNeededByAll_9 (by decide) ?_
  refine lv_istore (lv' := [(4, .int 0), (3, .int 0), (2, .int (o1 - 1)), (0, .ref (q 22)), (1, .int a1)]) hx hb dX5_othersNeededByAll_10 hl (by decide) rfl (fun ls hl => ?_)
  exact L12 10000 a1 (o1 - 1) 0 0 _ _ _ hS (lv_sub hl [3, 4, 2, 1, 0] rfl) hm
def M_X5_markOf (σ : ST) (a1 : Int32) (a2 : Int32) : Option Int32 := if a2 = 1 then some ((σ.1 36) - (σ.1 36) / 2 * 2) else if a2 = 2 then some ((3 - ((σ.1 36) - (σ.1 36) / 3 * 3)) - (3 - ((σ.1 36) - (σ.1 36) / 3 * 3)) / 3 * 3) else if a2 = 3 then (M_X5_othersNeededByAll σ a1).bind fun o52 => some o52 else if a2 = 4 then (rd 7 (σ.2.2 25) a1).bind fun v64 => (M_X0_wants σ a1).bind fun o70 => some (v64 - o70) else (M_X5_keysHeldBy σ a1).bind fun o77 => some o77
abbrev rm_X5_markOf : Room := { frames := 5, cells := 0, slots := 0, locals := 112 }
set_option maxRecDepth 100000 in
set_option maxHeartbeats 4000000 in
theorem c_X5_markOf (l : Launch) (d : CD) (q : Nat → Nat) (σ : ST) (a1 : Int32) (a2 : Int32) (out : Int32) (hm : M_X5_markOf σ a1 a2 = some out) : MetI l yX5_markOf cX5_markOf 3 (some .int) rm_X5_markOf d (cw q d σ) [.ref (q 22), .int a1, .int a2] out (cw q d σ) := by
  refine mkI (own := RX5) (by decide +kernel) rfl (Nat.le_of_ble_eq_true rfl) ?_
  intro p e s m below meth c A ls C hS hl
  obtain ⟨hx, hb, hml, hown, hts, -⟩ := id C
  have hl : lv_has ls 3 [(0, .ref (q 22)), (1, .int a1), (2, .int a2)] := hl
  unfold M_X5_markOf at hm
  refine lv_iload_n hx hb dX5_markOf_0 rfl (lv_at hl 2 rfl) ?_
  by_cases c1_0 : a2 = 1
  · replace hm := it c1_0 hm
    refine lv_tableIn (off := 31) (tgt := 32) hx hb dX5_markOf_1 (by rw [c1_0]; decide) (by rw [c1_0]; decide) (by rw [c1_0]; rfl) (by decide) ?_
    refine lv_aload_n hx hb dX5_markOf_32 rfl (lv_at hl 0 rfl) ?_
    refine g_5_50_22 C hS dX5_markOf_33 ?_
    refine lv_iconst (v := 2) hx hb dX5_markOf_36 (by decide) ?_
    refine lv_irem hx hb dX5_markOf_37 (by decide) ?_
    exact retIr C hS hm dX5_markOf_38
  · replace hm := ie c1_0 hm
    by_cases c1_1 : a2 = 2
    · replace hm := it c1_1 hm
      refine lv_tableIn (off := 38) (tgt := 39) hx hb dX5_markOf_1 (by rw [c1_1]; decide) (by rw [c1_1]; decide) (by rw [c1_1]; rfl) (by decide) ?_
      refine lv_iconst (v := 3) hx hb dX5_markOf_39 (by decide) ?_
      refine lv_aload_n hx hb dX5_markOf_40 rfl (lv_at hl 0 rfl) ?_
      refine g_5_50_22 C hS dX5_markOf_41 ?_
      refine lv_iconst (v := 3) hx hb dX5_markOf_44 (by decide) ?_
      refine lv_irem hx hb dX5_markOf_45 (by decide) ?_
      refine lv_isub hx hb dX5_markOf_46 ?_
      refine lv_iconst (v := 3) hx hb dX5_markOf_47 (by decide) ?_
      refine lv_irem hx hb dX5_markOf_48 (by decide) ?_
      exact retIr C hS hm dX5_markOf_49
    · replace hm := ie c1_1 hm
      by_cases c1_2 : a2 = 3
      · replace hm := it c1_2 hm
        refine lv_tableIn (off := 49) (tgt := 50) hx hb dX5_markOf_1 (by rw [c1_2]; decide) (by rw [c1_2]; decide) (by rw [c1_2]; rfl) (by decide) ?_
        refine lv_aload_n hx hb dX5_markOf_50 rfl (lv_at hl 0 rfl) ?_
        refine lv_iload_n hx hb dX5_markOf_51 rfl (lv_at hl 1 rfl) ?_
        obtain ⟨o52, e52, hm⟩ := ob hm
        refine after_i C hS (call_V (As := [.int a1]) C hS (c_X5_othersNeededByAll l d q σ a1 o52 e52 _) iv_5_134 ⟨rfl, rfl, Nat.le_of_ble_eq_true rfl, Nat.le_of_ble_eq_true rfl⟩ cw_o22 rfl rfl rfl hl.1 (Nat.le_of_ble_eq_true rfl) dX5_markOf_52) (fun H locs hS => ?_)
        exact retIr C hS hm dX5_markOf_55
      · replace hm := ie c1_2 hm
        by_cases c1_3 : a2 = 4
        · replace hm := it c1_3 hm
          refine lv_tableIn (off := 55) (tgt := 56) hx hb dX5_markOf_1 (by rw [c1_3]; decide) (by rw [c1_3]; decide) (by rw [c1_3]; rfl) (by decide) ?_
          refine lv_aload_n hx hb dX5_markOf_56 rfl (lv_at hl 0 rfl) ?_
          refine g_5_12_22 C hS dX5_markOf_57 ?_
          refine g_5_128_23 C hS dX5_markOf_60 ?_
          refine lv_iload_n hx hb dX5_markOf_63 rfl (lv_at hl 1 rfl) ?_
          obtain ⟨v64, e64, hm⟩ := ob hm
          refine iald' C hS cw_a25 e64 dX5_markOf_64 ?_
          refine lv_aload_n hx hb dX5_markOf_65 rfl (lv_at hl 0 rfl) ?_
          refine g_5_12_22 C hS dX5_markOf_66 ?_
          refine lv_iload_n hx hb dX5_markOf_69 rfl (lv_at hl 1 rfl) ?_
          obtain ⟨o70, e70, hm⟩ := ob hm
          refine after_i C hS (call_V (As := [.int a1]) C hS (c_X0_wants l d q σ a1 o70 e70 _) iv_5_137 ⟨rfl, rfl, Nat.le_of_ble_eq_true rfl, Nat.le_of_ble_eq_true rfl⟩ cw_o23 rfl rfl rfl hl.1 (Nat.le_of_ble_eq_true rfl) dX5_markOf_70) (fun H locs hS => ?_)
          refine lv_isub hx hb dX5_markOf_73 ?_
          exact retIr C hS hm dX5_markOf_74
        · replace hm := ie c1_3 hm
          refine lv_tableOut (tgt := 75) hx hb dX5_markOf_1 (by have h0 : a2.toInt ≠ 1 := ts_ne c1_0; have h1 : a2.toInt ≠ 2 := ts_ne c1_1; have h2 : a2.toInt ≠ 3 := ts_ne c1_2; have h3 : a2.toInt ≠ 4 := ts_ne c1_3; omega) (by decide) ?_
          refine lv_aload_n hx hb dX5_markOf_75 rfl (lv_at hl 0 rfl) ?_
          refine lv_iload_n hx hb dX5_markOf_76 rfl (lv_at hl 1 rfl) ?_
          obtain ⟨o77, e77, hm⟩ := ob hm
          refine after_i C hS (call_V (As := [.int a1]) C hS (c_X5_keysHeldBy l d q σ a1 o77 e77 _) iv_5_140 ⟨rfl, rfl, Nat.le_of_ble_eq_true rfl, Nat.le_of_ble_eq_true rfl⟩ cw_o22 rfl rfl rfl hl.1 (Nat.le_of_ble_eq_true rfl) dX5_markOf_77) (fun H locs hS => ?_)
          exact retIr C hS hm dX5_markOf_80
def M_X6_mark (σ : ST) (a1 : Int32) (a2 : Int32) : Option (Int32 × ST) := (M_X5_isHouse σ a1).bind fun o5 => if o5 = 0 then some ((-1), σ) else if a2 < 1 then some ((-1), σ) else if a2 ≤ 5 then (rd 7 (σ.2.2 24) a1).bind fun v34 => (M_X6_isOfKind v34 a2).bind fun o36 => if o36 = 0 then (M_X6_refuse σ 3).bind fun o44 => some (o44.1, o44.2) else (M_X5_markOf σ a1 a2).bind fun o54 => some (o54, σ) else some ((-1), σ)
abbrev rm_X6_mark : Room := { frames := 6, cells := 0, slots := 0, locals := 134 }
set_option maxRecDepth 100000 in
set_option maxHeartbeats 4000000 in
theorem c_X6_mark (l : Launch) (d : CD) (q : Nat → Nat) (σ : ST) (a1 : Int32) (a2 : Int32) (out : Int32 × ST) (hm : M_X6_mark σ a1 a2 = some out) : MetI l yX6_mark cX6_mark 3 (some .int) rm_X6_mark d (cw q d σ) [.ref (q 0), .int a1, .int a2] out.1 (cw q d out.2) := by
  refine mkI (own := RX6) (by decide +kernel) rfl (Nat.le_of_ble_eq_true rfl) ?_
  intro p e s m below meth c A ls C hS hl
  obtain ⟨hx, hb, hml, hown, hts, -⟩ := id C
  have hl : lv_has ls 3 [(0, .ref (q 0)), (1, .int a1), (2, .int a2)] := hl
  unfold M_X6_mark at hm
  refine lv_aload_n hx hb dX6_mark_0 rfl (lv_at hl 0 rfl) ?_
  refine g_6_33_0 C hS dX6_mark_1 ?_
  refine lv_iload_n hx hb dX6_mark_4 rfl (lv_at hl 1 rfl) ?_
  obtain ⟨o5, e5, hm⟩ := ob hm
  refine after_i C hS (call_V (As := [.int a1]) C hS (c_X5_isHouse l d q σ a1 o5 e5 _) iv_6_144 ⟨rfl, rfl, Nat.le_of_ble_eq_true rfl, Nat.le_of_ble_eq_true rfl⟩ cw_o22 rfl rfl rfl hl.1 (Nat.le_of_ble_eq_true rfl) dX6_mark_5) (fun H locs hS => ?_)
  refine lv_if_eq (tgt := 21) hx hb dX6_mark_8 (by decide) (fun c8 => ?_) (fun c8 => ?_)
  · replace hm := it c8 hm
    refine lv_iconst (v := (-1)) hx hb dX6_mark_21 (by decide) ?_
    exact retIw (wf := cw q d) C hS hm dX6_mark_22
  · replace hm := ie c8 hm
    refine lv_iload_n hx hb dX6_mark_11 rfl (lv_at hl 2 rfl) ?_
    refine lv_iconst (v := 1) hx hb dX6_mark_12 (by decide) ?_
    refine lv_icmp_lt (tgt := 21) hx hb dX6_mark_13 (by decide) (fun c13 => ?_) (fun c13 => ?_)
    · replace hm := it c13 hm
      refine lv_iconst (v := (-1)) hx hb dX6_mark_21 (by decide) ?_
      exact retIw (wf := cw q d) C hS hm dX6_mark_22
    · replace hm := ie c13 hm
      refine lv_iload_n hx hb dX6_mark_16 rfl (lv_at hl 2 rfl) ?_
      refine lv_iconst (v := 5) hx hb dX6_mark_17 (by decide) ?_
      refine lv_icmp_le (tgt := 23) hx hb dX6_mark_18 (by decide) (fun c18 => ?_) (fun c18 => ?_)
      · replace hm := it c18 hm
        refine lv_aload_n hx hb dX6_mark_23 rfl (lv_at hl 0 rfl) ?_
        refine g_6_33_0 C hS dX6_mark_24 ?_
        refine g_6_125_22 C hS dX6_mark_27 ?_
        refine g_6_150_23 C hS dX6_mark_30 ?_
        refine lv_iload_n hx hb dX6_mark_33 rfl (lv_at hl 1 rfl) ?_
        obtain ⟨v34, e34, hm⟩ := ob hm
        refine iald' C hS cw_a24 e34 dX6_mark_34 ?_
        refine lv_iload_n hx hb dX6_mark_35 rfl (lv_at hl 2 rfl) ?_
        obtain ⟨o36, e36, hm⟩ := ob hm
        refine after_i C hS (call_S (As := [.int v34, .int a2]) C hS (c_X6_isOfKind l d (cw q d σ) v34 a2 o36 e36 _) is_6_155 ⟨rfl, rfl, Nat.le_of_ble_eq_true rfl, Nat.le_of_ble_eq_true rfl⟩ rfl hl.1 (Nat.le_of_ble_eq_true rfl) dX6_mark_36) (fun H locs hS => ?_)
        refine lv_if_ne (tgt := 48) hx hb dX6_mark_39 (by decide) (fun c39 => ?_) (fun c39 => ?_)
        · replace hm := ie c39 hm
          refine lv_aload_n hx hb dX6_mark_48 rfl (lv_at hl 0 rfl) ?_
          refine g_6_33_0 C hS dX6_mark_49 ?_
          refine lv_iload_n hx hb dX6_mark_52 rfl (lv_at hl 1 rfl) ?_
          refine lv_iload_n hx hb dX6_mark_53 rfl (lv_at hl 2 rfl) ?_
          obtain ⟨o54, e54, hm⟩ := ob hm
          refine after_i C hS (call_V (As := [.int a1, .int a2]) C hS (c_X5_markOf l d q σ a1 a2 o54 e54 _) iv_6_159 ⟨rfl, rfl, Nat.le_of_ble_eq_true rfl, Nat.le_of_ble_eq_true rfl⟩ cw_o22 rfl rfl rfl hl.1 (Nat.le_of_ble_eq_true rfl) dX6_mark_54) (fun H locs hS => ?_)
          exact retIw (wf := cw q d) C hS hm dX6_mark_57
        · replace hm := it c39 hm
          refine lv_aload_n hx hb dX6_mark_42 rfl (lv_at hl 0 rfl) ?_
          refine lv_iconst (v := 3) hx hb dX6_mark_43 (by decide) ?_
          obtain ⟨o44, e44, hm⟩ := ob hm
          refine after_i C hS (call_V (As := [.int 3]) C hS (c_X6_refuse l d q σ 3 o44 e44 _) iv_6_100 ⟨rfl, rfl, Nat.le_of_ble_eq_true rfl, Nat.le_of_ble_eq_true rfl⟩ cw_o0 rfl rfl rfl hl.1 (Nat.le_of_ble_eq_true rfl) dX6_mark_44) (fun H locs hS => ?_)
          exact retIw (wf := cw q d) C hS hm dX6_mark_47
      · replace hm := ie c18 hm
        refine lv_iconst (v := (-1)) hx hb dX6_mark_21 (by decide) ?_
        exact retIw (wf := cw q d) C hS hm dX6_mark_22
def M_X5_houses (σ : ST) : Option Int32 := some (σ.1 33)
abbrev rm_X5_houses : Room := { frames := 0, cells := 0, slots := 0, locals := 0 }
set_option maxRecDepth 100000 in
set_option maxHeartbeats 4000000 in
theorem c_X5_houses (l : Launch) (d : CD) (q : Nat → Nat) (σ : ST) (out : Int32) (hm : M_X5_houses σ = some out) : MetI l yX5_houses cX5_houses 1 (some .int) rm_X5_houses d (cw q d σ) [.ref (q 22)] out (cw q d σ) := by
  refine mkI (own := RX5) (by decide +kernel) rfl (Nat.le_of_ble_eq_true rfl) ?_
  intro p e s m below meth c A ls C hS hl
  obtain ⟨hx, hb, hml, hown, hts, -⟩ := id C
  have hl : lv_has ls 1 [(0, .ref (q 22))] := hl
  unfold M_X5_houses at hm
  refine lv_aload_n hx hb dX5_houses_0 rfl (lv_at hl 0 rfl) ?_
  refine g_5_12_22 C hS dX5_houses_1 ?_
  refine g_5_95_23 C hS dX5_houses_4 ?_
  exact retIr C hS hm dX5_houses_7
def M_X6_setInRow_4 (σ : ST) : Nat → Int32 → Int32 → Int32 → Option Int32
  | 0, _, _, _ => none
  | n + 1, x1, x2, x3 => (M_X3_sizeOf_r σ x1).bind fun o10 => if o10 ≤ x3 then some x2 else (M_X3_get_r σ x1 x3).bind fun o22 => (M_X5_isHouse σ o22).bind fun o33 => if o33 = 0 then some (-9) else (M_X6_isIn o22 x2).bind fun o42 => if o42 = 0 then M_X6_setInRow_4 σ n x1 (x2 ||| ((1 : Int32) <<< (o22 &&& 31))) (x3 + 1) else some (-9)
def M_X6_setInRow (σ : ST) (a1 : Int32) : Option Int32 := M_X6_setInRow_4 σ 10000 a1 0 0
abbrev rm_X6_setInRow : Room := { frames := 4, cells := 0, slots := 0, locals := 86 }
set_option maxRecDepth 100000 in
set_option maxHeartbeats 4000000 in
theorem c_X6_setInRow (l : Launch) (d : CD) (q : Nat → Nat) (σ : ST) (a1 : Int32) (out : Int32) (hm : M_X6_setInRow σ a1 = some out) : MetI l yX6_setInRow cX6_setInRow 5 (some .int) rm_X6_setInRow d (cw q d σ) [.ref (q 0), .int a1] out (cw q d σ) := by
  refine mkI (own := RX6) (by decide +kernel) rfl (Nat.le_of_ble_eq_true rfl) ?_
  intro p e s m below meth c A ls C hS hl
  obtain ⟨hx, hb, hml, hown, hts, -⟩ := id C
  have hl : lv_has ls 5 [(0, .ref (q 0)), (1, .int a1)] := hl
  have L4 : ∀ (n : Nat) (x1 : Int32) (x2 : Int32) (x3 : Int32) (H : Heap) (locs : List Loc) (ls : Array Slot), HS d A s.heap H locs (cw q d σ) → lv_has ls 5 [(0, .ref (q 0)), (1, .int x1), (2, .int x2), (3, .int x3)] → M_X6_setInRow_4 σ n x1 x2 x3 = some out → WI p l e rm_X6_setInRow s m [.ref (q 0), .int a1].toArray below meth c A d H locs out (cw q d σ) (F0 m 4 ls []) := by
    intro n
    induction n with
    | zero =>
      intro x1 x2 x3 H locs ls hS hl hm
      exact absurd hm (by rw [M_X6_setInRow_4]; exact fun h => nomatch h)
    | succ n ih =>
      intro x1 x2 x3 H locs ls hS hl hm
      rw [M_X6_setInRow_4] at hm
      refine lv_iload_n hx hb dX6_setInRow_4 rfl (lv_at hl 3 rfl) ?_
      refine lv_aload_n hx hb dX6_setInRow_5 rfl (lv_at hl 0 rfl) ?_
      refine g_6_14_0 C hS dX6_setInRow_6 ?_
      refine lv_iload_n hx hb dX6_setInRow_9 rfl (lv_at hl 1 rfl) ?_
      obtain ⟨o10, e10, hm⟩ := ob hm
      refine after_i C hS (call_V (As := [.int x1]) C hS (c_X3_sizeOf_r l d q σ x1 o10 e10 _) iv_6_115 ⟨rfl, rfl, Nat.le_of_ble_eq_true rfl, Nat.le_of_ble_eq_true rfl⟩ cw_o1 rfl rfl rfl hl.1 (Nat.le_of_ble_eq_true rfl) dX6_setInRow_10) (fun H locs hS => ?_)
      refine lv_icmp_ge (tgt := 64) hx hb dX6_setInRow_13 (by decide) (fun c13 => ?_) (fun c13 => ?_)
      · replace hm := it c13 hm
        refine lv_iload_n hx hb dX6_setInRow_64 rfl (lv_at hl 2 rfl) ?_
        exact retIr C hS hm dX6_setInRow_65
      · replace hm := ie c13 hm
        refine lv_aload_n hx hb dX6_setInRow_16 rfl (lv_at hl 0 rfl) ?_
        refine g_6_14_0 C hS dX6_setInRow_17 ?_
        refine lv_iload_n hx hb dX6_setInRow_20 rfl (lv_at hl 1 rfl) ?_
        refine lv_iload_n hx hb dX6_setInRow_21 rfl (lv_at hl 3 rfl) ?_
        obtain ⟨o22, e22, hm⟩ := ob hm
        refine after_i C hS (call_V (As := [.int x1, .int x3]) C hS (c_X3_get_r l d q σ x1 x3 o22 e22 _) iv_6_81 ⟨rfl, rfl, Nat.le_of_ble_eq_true rfl, Nat.le_of_ble_eq_true rfl⟩ cw_o1 rfl rfl rfl hl.1 (Nat.le_of_ble_eq_true rfl) dX6_setInRow_22) (fun H locs hS => ?_)
        refine lv_istore (lv' := [(4, .int o22), (0, .ref (q 0)), (1, .int x1), (2, .int x2), (3, .int x3)]) hx hb dX6_setInRow_25 hl (by decide) rfl (fun ls hl => ?_)
        refine lv_aload_n hx hb dX6_setInRow_27 rfl (lv_at hl 1 rfl) ?_
        refine g_6_33_0 C hS dX6_setInRow_28 ?_
        refine lv_iload hx hb dX6_setInRow_31 (lv_at hl 0 rfl) ?_
        obtain ⟨o33, e33, hm⟩ := ob hm
        refine after_i C hS (call_V (As := [.int o22]) C hS (c_X5_isHouse l d q σ o22 o33 e33 _) iv_6_144 ⟨rfl, rfl, Nat.le_of_ble_eq_true rfl, Nat.le_of_ble_eq_true rfl⟩ cw_o22 rfl rfl rfl hl.1 (Nat.le_of_ble_eq_true rfl) dX6_setInRow_33) (fun H locs hS => ?_)
        refine lv_if_eq (tgt := 48) hx hb dX6_setInRow_36 (by decide) (fun c36 => ?_) (fun c36 => ?_)
        · replace hm := it c36 hm
          refine lv_bipush (v := (-9)) hx hb dX6_setInRow_48 (by decide) ?_
          exact retIr C hS hm dX6_setInRow_50
        · replace hm := ie c36 hm
          refine lv_iload hx hb dX6_setInRow_39 (lv_at hl 0 rfl) ?_
          refine lv_iload_n hx hb dX6_setInRow_41 rfl (lv_at hl 3 rfl) ?_
          obtain ⟨o42, e42, hm⟩ := ob hm
          refine after_i C hS (call_S (As := [.int o22, .int x2]) C hS (c_X6_isIn l d (cw q d σ) o22 x2 o42 e42 _) is_6_337 ⟨rfl, rfl, Nat.le_of_ble_eq_true rfl, Nat.le_of_ble_eq_true rfl⟩ rfl hl.1 (Nat.le_of_ble_eq_true rfl) dX6_setInRow_42) (fun H locs hS => ?_)
          refine lv_if_eq (tgt := 51) hx hb dX6_setInRow_45 (by decide) (fun c45 => ?_) (fun c45 => ?_)
          · replace hm := it c45 hm
            refine lv_iload_n hx hb dX6_setInRow_51 rfl (lv_at hl 3 rfl) ?_
            refine lv_iconst (v := 1) hx hb dX6_setInRow_52 (by decide) ?_
            refine lv_iload hx hb dX6_setInRow_53 (lv_at hl 0 rfl) ?_
            refine lv_ishl hx hb dX6_setInRow_55 ?_
            refine lv_ior hx hb dX6_setInRow_56 ?_
            refine lv_istore_n (lv' := [(2, .int (x2 ||| ((1 : Int32) <<< (o22 &&& 31)))), (4, .int o22), (0, .ref (q 0)), (1, .int x1), (3, .int x3)]) hx hb dX6_setInRow_57 rfl hl (by decide) rfl (fun ls hl => ?_)
            refine lv_iinc (v := x3 + 1) (lv' := [(3, .int (x3 + 1)), (2, .int (x2 ||| ((1 : Int32) <<< (o22 &&& 31)))), (4, .int o22), (0, .ref (q 0)), (1, .int x1)]) hx hb dX6_setInRow_58 hl (k := 4) rfl rfl (by decide) rfl (fun ls hl => ?_)
            refine lv_goto (tgt := 4) hx hb dX6_setInRow_61 (by decide) ?_
            exact ih x1 (x2 ||| ((1 : Int32) <<< (o22 &&& 31))) (x3 + 1) _ _ _ hS (lv_sub hl [3, 4, 1, 0] rfl) hm
          · replace hm := ie c45 hm
            refine lv_bipush (v := (-9)) hx hb dX6_setInRow_48 (by decide) ?_
            exact retIr C hS hm dX6_setInRow_50
  unfold M_X6_setInRow at hm
  refine lv_iconst (v := 0) hx hb dX6_setInRow_0 (by decide) ?_
  refine lv_istore_n (lv' := [(2, .int 0), (0, .ref (q 0)), (1, .int a1)]) hx hb dX6_setInRow_1 rfl hl (by decide) rfl (fun ls hl => ?_)
  refine lv_iconst (v := 0) hx hb dX6_setInRow_2 (by decide) ?_
  refine lv_istore_n (lv' := [(3, .int 0), (2, .int 0), (0, .ref (q 0)), (1, .int a1)]) hx hb dX6_setInRow_3 rfl hl (by decide) rfl (fun ls hl => ?_)
  exact L4 10000 a1 0 0 _ _ _ hS (lv_sub hl [2, 3, 1, 0] rfl) hm
def M_X1_isFull (σ : ST) (a1 : Int32) : Option Int32 := if ((σ.1 37) + a1) ≤ 40 then okZ 0 else okZ 1
abbrev rm_X1_isFull : Room := { frames := 0, cells := 0, slots := 0, locals := 0 }
set_option maxRecDepth 100000 in
set_option maxHeartbeats 4000000 in
theorem c_X1_isFull (l : Launch) (d : CD) (q : Nat → Nat) (σ : ST) (a1 : Int32) (out : Int32) (hm : M_X1_isFull σ a1 = some out) : MetI l yX1_isFull cX1_isFull 2 (some .boolean) rm_X1_isFull d (cw q d σ) [.ref (q 27), .int a1] out (cw q d σ) := by
  refine mkI (own := RX1) (by decide +kernel) rfl (Nat.le_of_ble_eq_true rfl) ?_
  intro p e s m below meth c A ls C hS hl
  obtain ⟨hx, hb, hml, hown, hts, -⟩ := id C
  have hl : lv_has ls 2 [(0, .ref (q 27)), (1, .int a1)] := hl
  unfold M_X1_isFull at hm
  refine lv_aload_n hx hb dX1_isFull_0 rfl (lv_at hl 0 rfl) ?_
  refine g_1_15_27 C hS dX1_isFull_1 ?_
  refine lv_iload_n hx hb dX1_isFull_4 rfl (lv_at hl 1 rfl) ?_
  refine lv_iadd hx hb dX1_isFull_5 ?_
  refine lv_bipush (v := 40) hx hb dX1_isFull_6 (by decide) ?_
  refine lv_icmp_le (tgt := 15) hx hb dX1_isFull_8 (by decide) (fun c8 => ?_) (fun c8 => ?_)
  · replace hm := it c8 hm
    refine lv_iconst (v := 0) hx hb dX1_isFull_15 (by decide) ?_
    exact retZr C hS hm dX1_isFull_16
  · replace hm := ie c8 hm
    refine lv_iconst (v := 1) hx hb dX1_isFull_11 (by decide) ?_
    refine lv_goto (tgt := 16) hx hb dX1_isFull_12 (by decide) ?_
    exact retZr C hS hm dX1_isFull_16
