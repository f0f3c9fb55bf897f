def M_X7_best_137 (k74 : ST → Int32 → Int32 → Int32 → Int32 → Option (Int32 × ST)) (σ : ST) (x2 : Int32) (x3 : Int32) (x4 : Int32) : Option (Int32 × ST) := (M_X7_nextOrder σ x3).bind fun o139 => k74 o139.2 x2 x3 x4 o139.1
def M_X7_best_106 (k74 : ST → Int32 → Int32 → Int32 → Int32 → Option (Int32 × ST)) : Nat → ST → Int32 → Int32 → Int32 → Int32 → Option (Int32 × ST)
  | 0, _, _, _, _, _ => none
  | n + 1, σ, x2, x3, x4, x7 => if x3 ≤ x7 then M_X7_best_137 k74 σ x2 x3 x4 else (rd 7 (σ.2.2 13) x7).bind fun v129 => (wrA 240 σ 6 ((40 * x2) + x7) v129).bind fun σ130 => M_X7_best_106 k74 n σ130 x2 x3 x4 (x7 + 1)
def M_X7_best_74 : Nat → ST → Int32 → Int32 → Int32 → Int32 → Option (Int32 × ST)
  | 0, _, _, _, _, _ => none
  | n + 1, σ, x2, x3, x4, x5 => if x5 = 0 then some (x4, σ) else (M_X7_served σ x3).bind fun o81 => if o81 ≤ x4 then M_X7_best_137 (M_X7_best_74 n) σ x2 x3 x4 else (M_X7_makeRow σ x2 x3).bind fun o100 => M_X7_best_106 (M_X7_best_74 n) 10000 o100 x2 x3 o81 0
def M_X7_best_33 : Nat → ST → Int32 → Int32 → Int32 → Int32 → Option (Int32 × ST)
  | 0, _, _, _, _, _ => none
  | n + 1, σ, x1, x2, x3, x4 => if (σ.1 3) ≤ x4 then M_X7_best_74 10000 σ x2 x3 (-1) 1 else (M_X7_has x1 x4).bind fun o45 => if o45 = 0 then M_X7_best_33 n σ x1 x2 x3 (x4 + 1) else (wrA 7 σ 13 x3 x4).bind fun σ58 => M_X7_best_33 n σ58 x1 x2 (x3 + 1) (x4 + 1)
def M_X7_best (σ : ST) (a1 : Int32) (a2 : Int32) : Option (Int32 × ST) := (M_X7_isSet σ a1).bind fun o2 => if o2 = 0 then some ((-1), σ) else (M_X7_isRow a2).bind fun o9 => if o9 = 0 then some ((-1), σ) else (M_X7_isOpen σ a1).bind fun o19 => if o19 = 0 then some ((-4), σ) else M_X7_best_33 10000 σ a1 a2 0 0
abbrev rm_X7_best : Room := { frames := 3, cells := 0, slots := 0, locals := 67 }
set_option maxRecDepth 100000 in
set_option maxHeartbeats 4000000 in
theorem c_X7_best (l : Launch) (d : CD) (q : Nat → Nat) (σ : ST) (a1 : Int32) (a2 : Int32) (out : Int32 × ST) (hm : M_X7_best σ a1 a2 = some out) : MetI l yX7_best cX7_best 8 (some .int) rm_X7_best d (mw q d σ) [.ref (q 0), .int a1, .int a2] out.1 (mw q d out.2) := by
  refine mkI (own := RX7) (by decide +kernel) rfl (Nat.le_of_ble_eq_true rfl) ?_
  intro p e s m below meth c A ls C hS hl
  obtain ⟨hx, hb, hml, hown, hts, -⟩ := id C
  have hl : lv_has ls 8 [(0, .ref (q 0)), (1, .int a1), (2, .int a2)] := hl
  have J137 : ∀ (k74 : ST → Int32 → Int32 → Int32 → Int32 → Option (Int32 × ST)) (hk74 : ∀ (σ : ST) (x2 : Int32) (x3 : Int32) (x4 : Int32) (x5 : Int32) (H : Heap) (locs : List Loc) (ls : Array Slot), HS d A s.heap H locs (mw q d σ) → lv_has ls 8 [(0, .ref (q 0)), (2, .int x2), (3, .int x3), (4, .int x4), (5, .int x5)] → k74 σ x2 x3 x4 x5 = some out → WI p l e rm_X7_best s m [.ref (q 0), .int a1, .int a2].toArray below meth c A d H locs out.1 (mw q d out.2) (F0 m 74 ls [])) (σ : ST) (x2 : Int32) (x3 : Int32) (x4 : Int32) (H : Heap) (locs : List Loc) (ls : Array Slot), HS d A s.heap H locs (mw q d σ) → lv_has ls 8 [(0, .ref (q 0)), (2, .int x2), (3, .int x3), (4, .int x4)] → M_X7_best_137 k74 σ x2 x3 x4 = some out → WI p l e rm_X7_best s m [.ref (q 0), .int a1, .int a2].toArray below meth c A d H locs out.1 (mw q d out.2) (F0 m 137 ls []) := by
    intro k74 hk74 σ x2 x3 x4 H locs ls hS hl hm
    unfold M_X7_best_137 at hm
    refine lv_aload_n hx hb dX7_best_137 rfl (lv_at hl 0 rfl) ?_
    refine lv_iload_n hx hb dX7_best_138 rfl (lv_at hl 2 rfl) ?_
    obtain ⟨o139, e139, hm⟩ := ob hm
    refine after_i C hS (call_V (As := [.int x3]) C hS (c_X7_nextOrder l d q σ x3 o139 e139 _) iv_7_251 ⟨rfl, rfl, Nat.le_of_ble_eq_true rfl, Nat.le_of_ble_eq_true rfl⟩ mw_o0 rfl rfl rfl hl.1 (Nat.le_of_ble_eq_true rfl) dX7_best_139) (fun H locs hS => ?_)
    refine lv_istore (lv' := [(5, .int o139.1), (0, .ref (q 0)), (2, .int x2), (3, .int x3), (4, .int x4)]) hx hb dX7_best_142 hl (by decide) rfl (fun ls hl => ?_)
    refine lv_goto (tgt := 74) hx hb dX7_best_144 (by decide) ?_
    exact hk74 o139.2 x2 x3 x4 o139.1 _ _ _ hS (lv_sub hl [1, 2, 3, 4, 0] rfl) hm
  have L106 : ∀ (k74 : ST → Int32 → Int32 → Int32 → Int32 → Option (Int32 × ST)) (hk74 : ∀ (σ : ST) (x2 : Int32) (x3 : Int32) (x4 : Int32) (x5 : Int32) (H : Heap) (locs : List Loc) (ls : Array Slot), HS d A s.heap H locs (mw q d σ) → lv_has ls 8 [(0, .ref (q 0)), (2, .int x2), (3, .int x3), (4, .int x4), (5, .int x5)] → k74 σ x2 x3 x4 x5 = some out → WI p l e rm_X7_best s m [.ref (q 0), .int a1, .int a2].toArray below meth c A d H locs out.1 (mw q d out.2) (F0 m 74 ls [])) (n : Nat) (σ : ST) (x2 : Int32) (x3 : Int32) (x4 : Int32) (x7 : Int32) (H : Heap) (locs : List Loc) (ls : Array Slot), HS d A s.heap H locs (mw q d σ) → lv_has ls 8 [(0, .ref (q 0)), (2, .int x2), (3, .int x3), (4, .int x4), (7, .int x7)] → M_X7_best_106 k74 n σ x2 x3 x4 x7 = some out → WI p l e rm_X7_best s m [.ref (q 0), .int a1, .int a2].toArray below meth c A d H locs out.1 (mw q d out.2) (F0 m 106 ls []) := by
    intro k74 hk74 n
    induction n with
    | zero =>
      intro σ x2 x3 x4 x7 H locs ls hS hl hm
      exact absurd hm (by rw [M_X7_best_106]; exact fun h => nomatch h)
    | succ n ih =>
      intro σ x2 x3 x4 x7 H locs ls hS hl hm
      rw [M_X7_best_106] at hm
      refine lv_iload hx hb dX7_best_106 (lv_at hl 4 rfl) ?_
      refine lv_iload_n hx hb dX7_best_108 rfl (lv_at hl 2 rfl) ?_
      refine lv_icmp_ge (tgt := 137) hx hb dX7_best_109 (by decide) (fun c109 => ?_) (fun c109 => ?_)
      · replace hm := it c109 hm
        exact J137 k74 hk74 σ x2 x3 x4 _ _ _ hS (lv_sub hl [0, 1, 2, 3] rfl) hm
      · replace hm := ie c109 hm
        refine lv_aload_n hx hb dX7_best_112 rfl (lv_at hl 0 rfl) ?_
        refine g_7_25_0 C hS dX7_best_113 ?_
        refine lv_bipush (v := 40) hx hb dX7_best_116 (by decide) ?_
        refine lv_iload_n hx hb dX7_best_118 rfl (lv_at hl 1 rfl) ?_
        refine lv_imul hx hb dX7_best_119 ?_
        refine lv_iload hx hb dX7_best_120 (lv_at hl 4 rfl) ?_
        refine lv_iadd hx hb dX7_best_122 ?_
        refine lv_aload_n hx hb dX7_best_123 rfl (lv_at hl 0 rfl) ?_
        refine g_7_50_0 C hS dX7_best_124 ?_
        refine lv_iload hx hb dX7_best_127 (lv_at hl 4 rfl) ?_
        obtain ⟨v129, e129, hm⟩ := ob hm
        refine iald' C hS mw_a13 e129 dX7_best_129 ?_
        obtain ⟨σ130, e130, hm⟩ := ob hm
        refine iast' (wf := mw q d) C hS mw_a6 mw_s6 e130 dX7_best_130 (fun H locs hS => ?_)
        refine lv_iinc (v := x7 + 1) (lv' := [(7, .int (x7 + 1)), (0, .ref (q 0)), (2, .int x2), (3, .int x3), (4, .int x4)]) hx hb dX7_best_131 hl (k := 4) rfl rfl (by decide) rfl (fun ls hl => ?_)
        refine lv_goto (tgt := 106) hx hb dX7_best_134 (by decide) ?_
        exact ih σ130 x2 x3 x4 (x7 + 1) _ _ _ hS (lv_sub hl [1, 2, 3, 4, 0] rfl) hm
  have L74 : ∀ (n : Nat) (σ : ST) (x2 : Int32) (x3 : Int32) (x4 : Int32) (x5 : Int32) (H : Heap) (locs : List Loc) (ls : Array Slot), HS d A s.heap H locs (mw q d σ) → lv_has ls 8 [(0, .ref (q 0)), (2, .int x2), (3, .int x3), (4, .int x4), (5, .int x5)] → M_X7_best_74 n σ x2 x3 x4 x5 = some out → WI p l e rm_X7_best s m [.ref (q 0), .int a1, .int a2].toArray below meth c A d H locs out.1 (mw q d out.2) (F0 m 74 ls []) := by
    intro n
    induction n with
    | zero =>
      intro σ x2 x3 x4 x5 H locs ls hS hl hm
      exact absurd hm (by rw [M_X7_best_74]; exact fun h => nomatch h)
    | succ n ih =>
      intro σ x2 x3 x4 x5 H locs ls hS hl hm
      rw [M_X7_best_74] at hm
      refine lv_iload hx hb dX7_best_74 (lv_at hl 4 rfl) ?_
      refine lv_if_eq (tgt := 147) hx hb dX7_best_76 (by decide) (fun c76 => ?_) (fun c76 => ?_)
      · replace hm := it c76 hm
        refine lv_iload hx hb dX7_best_147 (lv_at hl 3 rfl) ?_
        exact retIw (wf := mw q d) C hS hm dX7_best_149
      · replace hm := ie c76 hm
        refine lv_aload_n hx hb dX7_best_79 rfl (lv_at hl 0 rfl) ?_
        refine lv_iload_n hx hb dX7_best_80 rfl (lv_at hl 2 rfl) ?_
        obtain ⟨o81, e81, hm⟩ := ob hm
        refine after_i C hS (call_V (As := [.int x3]) C hS (c_X7_served l d q σ x3 o81 e81 _) iv_7_248 ⟨rfl, rfl, Nat.le_of_ble_eq_true rfl, Nat.le_of_ble_eq_true rfl⟩ mw_o0 rfl rfl rfl hl.1 (Nat.le_of_ble_eq_true rfl) dX7_best_81) (fun H locs hS => ?_)
        refine lv_istore (lv' := [(6, .int o81), (0, .ref (q 0)), (2, .int x2), (3, .int x3), (4, .int x4), (5, .int x5)]) hx hb dX7_best_84 hl (by decide) rfl (fun ls hl => ?_)
        refine lv_iload hx hb dX7_best_86 (lv_at hl 0 rfl) ?_
        refine lv_iload hx hb dX7_best_88 (lv_at hl 4 rfl) ?_
        refine lv_icmp_le (tgt := 137) hx hb dX7_best_90 (by decide) (fun c90 => ?_) (fun c90 => ?_)
        · replace hm := it c90 hm
          exact J137 (M_X7_best_74 n) ih σ x2 x3 x4 _ _ _ hS (lv_sub hl [1, 2, 3, 4] rfl) hm
        · replace hm := ie c90 hm
          refine lv_iload hx hb dX7_best_93 (lv_at hl 0 rfl) ?_
          refine lv_istore (lv' := [(4, .int o81), (6, .int o81), (0, .ref (q 0)), (2, .int x2), (3, .int x3), (5, .int x5)]) hx hb dX7_best_95 hl (by decide) rfl (fun ls hl => ?_)
          refine lv_aload_n hx hb dX7_best_97 rfl (lv_at hl 2 rfl) ?_
          refine lv_iload_n hx hb dX7_best_98 rfl (lv_at hl 3 rfl) ?_
          refine lv_iload_n hx hb dX7_best_99 rfl (lv_at hl 4 rfl) ?_
          obtain ⟨o100, e100, hm⟩ := ob hm
          refine after_v C hS (call_V (As := [.int x2, .int x3]) C hS (c_X7_makeRow l d q σ x2 x3 o100 e100 _) iv_7_80 ⟨rfl, rfl, Nat.le_of_ble_eq_true rfl, Nat.le_of_ble_eq_true rfl⟩ mw_o0 rfl rfl rfl hl.1 (Nat.le_of_ble_eq_true rfl) dX7_best_100) (fun H locs hS => ?_)
          refine lv_iconst (v := 0) hx hb dX7_best_103 (by decide) ?_
          refine lv_istore (lv' := [(7, .int 0), (4, .int o81), (6, .int o81), (0, .ref (q 0)), (2, .int x2), (3, .int x3), (5, .int x5)]) hx hb dX7_best_104 hl (by decide) rfl (fun ls hl => ?_)
          exact L106 (M_X7_best_74 n) ih 10000 o100 x2 x3 o81 0 _ _ _ hS (lv_sub hl [3, 4, 5, 1, 0] rfl) hm
  have L33 : ∀ (n : Nat) (σ : ST) (x1 : Int32) (x2 : Int32) (x3 : Int32) (x4 : Int32) (H : Heap) (locs : List Loc) (ls : Array Slot), HS d A s.heap H locs (mw q d σ) → lv_has ls 8 [(0, .ref (q 0)), (1, .int x1), (2, .int x2), (3, .int x3), (4, .int x4)] → M_X7_best_33 n σ x1 x2 x3 x4 = some out → WI p l e rm_X7_best s m [.ref (q 0), .int a1, .int a2].toArray below meth c A d H locs out.1 (mw q d out.2) (F0 m 33 ls []) := by
    intro n
    induction n with
    | zero =>
      intro σ x1 x2 x3 x4 H locs ls hS hl hm
      exact absurd hm (by rw [M_X7_best_33]; exact fun h => nomatch h)
    | succ n ih =>
      intro σ x1 x2 x3 x4 H locs ls hS hl hm
      rw [M_X7_best_33] at hm
      refine lv_iload hx hb dX7_best_33 (lv_at hl 4 rfl) ?_
      refine lv_aload_n hx hb dX7_best_35 rfl (lv_at hl 0 rfl) ?_
      refine g_7_158_0 C hS dX7_best_36 ?_
      refine lv_icmp_ge (tgt := 68) hx hb dX7_best_39 (by decide) (fun c39 => ?_) (fun c39 => ?_)
      · replace hm := it c39 hm
        refine lv_iconst (v := (-1)) hx hb dX7_best_68 (by decide) ?_
        refine lv_istore (lv' := [(4, .int (-1)), (0, .ref (q 0)), (1, .int x1), (2, .int x2), (3, .int x3)]) hx hb dX7_best_69 hl (by decide) rfl (fun ls hl => ?_)
        refine lv_iconst (v := 1) hx hb dX7_best_71 (by decide) ?_
        refine lv_istore (lv' := [(5, .int 1), (4, .int (-1)), (0, .ref (q 0)), (1, .int x1), (2, .int x2), (3, .int x3)]) hx hb dX7_best_72 hl (by decide) rfl (fun ls hl => ?_)
        exact L74 10000 σ x2 x3 (-1) 1 _ _ _ hS (lv_sub hl [2, 4, 5, 1, 0] rfl) hm
      · replace hm := ie c39 hm
        refine lv_iload_n hx hb dX7_best_42 rfl (lv_at hl 1 rfl) ?_
        refine lv_iload hx hb dX7_best_43 (lv_at hl 4 rfl) ?_
        obtain ⟨o45, e45, hm⟩ := ob hm
        refine after_i C hS (call_S (As := [.int x1, .int x4]) C hS (c_X7_has l d (mw q d σ) x1 x4 o45 e45 _) is_7_135 ⟨rfl, rfl, Nat.le_of_ble_eq_true rfl, Nat.le_of_ble_eq_true rfl⟩ rfl hl.1 (Nat.le_of_ble_eq_true rfl) dX7_best_45) (fun H locs hS => ?_)
        refine lv_if_eq (tgt := 62) hx hb dX7_best_48 (by decide) (fun c48 => ?_) (fun c48 => ?_)
        · replace hm := it c48 hm
          refine lv_iinc (v := x4 + 1) (lv' := [(4, .int (x4 + 1)), (0, .ref (q 0)), (1, .int x1), (2, .int x2), (3, .int x3)]) hx hb dX7_best_62 hl (k := 4) rfl rfl (by decide) rfl (fun ls hl => ?_)
          refine lv_goto (tgt := 33) hx hb dX7_best_65 (by decide) ?_
          exact ih σ x1 x2 x3 (x4 + 1) _ _ _ hS (lv_sub hl [1, 2, 3, 4, 0] rfl) hm
        · replace hm := ie c48 hm
          refine lv_aload_n hx hb dX7_best_51 rfl (lv_at hl 0 rfl) ?_
          refine g_7_50_0 C hS dX7_best_52 ?_
          refine lv_iload_n hx hb dX7_best_55 rfl (lv_at hl 3 rfl) ?_
          refine lv_iload hx hb dX7_best_56 (lv_at hl 4 rfl) ?_
          obtain ⟨σ58, e58, hm⟩ := ob hm
          refine iast' (wf := mw q d) C hS mw_a13 mw_s13 e58 dX7_best_58 (fun H locs hS => ?_)
          refine lv_iinc (v := x3 + 1) (lv' := [(3, .int (x3 + 1)), (0, .ref (q 0)), (1, .int x1), (2, .int x2), (4, .int x4)]) hx hb dX7_best_59 hl (k := 3) rfl rfl (by decide) rfl (fun ls hl => ?_)
          refine lv_iinc (v := x4 + 1) (lv' := [(4, .int (x4 + 1)), (3, .int (x3 + 1)), (0, .ref (q 0)), (1, .int x1), (2, .int x2)]) hx hb dX7_best_62 hl (k := 4) rfl rfl (by decide) rfl (fun ls hl => ?_)
          refine lv_goto (tgt := 33) hx hb dX7_best_65 (by decide) ?_
          exact ih σ58 x1 x2 (x3 + 1) (x4 + 1) _ _ _ hS (lv_sub hl [2, 3, 4, 1, 0] rfl) hm
  unfold M_X7_best at hm
  refine lv_aload_n hx hb dX7_best_0 rfl (lv_at hl 0 rfl) ?_
  refine lv_iload_n hx hb dX7_best_1 rfl (lv_at hl 1 rfl) ?_
  obtain ⟨o2, e2, hm⟩ := ob hm
  refine after_i C hS (call_V (As := [.int a1]) C hS (c_X7_isSet l d q σ a1 o2 e2 _) iv_7_219 ⟨rfl, rfl, Nat.le_of_ble_eq_true rfl, Nat.le_of_ble_eq_true rfl⟩ mw_o0 rfl rfl rfl hl.1 (Nat.le_of_ble_eq_true rfl) dX7_best_2) (fun H locs hS => ?_)
  refine lv_if_eq (tgt := 15) hx hb dX7_best_5 (by decide) (fun c5 => ?_) (fun c5 => ?_)
  · replace hm := it c5 hm
    refine lv_iconst (v := (-1)) hx hb dX7_best_15 (by decide) ?_
    exact retIw (wf := mw q d) C hS hm dX7_best_16
  · replace hm := ie c5 hm
    refine lv_iload_n hx hb dX7_best_8 rfl (lv_at hl 2 rfl) ?_
    obtain ⟨o9, e9, hm⟩ := ob hm
    refine after_i C hS (call_S (As := [.int a2]) C hS (c_X7_isRow l d (mw q d σ) a2 o9 e9 _) is_7_72 ⟨rfl, rfl, Nat.le_of_ble_eq_true rfl, Nat.le_of_ble_eq_true rfl⟩ rfl hl.1 (Nat.le_of_ble_eq_true rfl) dX7_best_9) (fun H locs hS => ?_)
    refine lv_if_ne (tgt := 17) hx hb dX7_best_12 (by decide) (fun c12 => ?_) (fun c12 => ?_)
    · replace hm := ie c12 hm
      refine lv_aload_n hx hb dX7_best_17 rfl (lv_at hl 0 rfl) ?_
      refine lv_iload_n hx hb dX7_best_18 rfl (lv_at hl 1 rfl) ?_
      obtain ⟨o19, e19, hm⟩ := ob hm
      refine after_i C hS (call_V (As := [.int a1]) C hS (c_X7_isOpen l d q σ a1 o19 e19 _) iv_7_187 ⟨rfl, rfl, Nat.le_of_ble_eq_true rfl, Nat.le_of_ble_eq_true rfl⟩ mw_o0 rfl rfl rfl hl.1 (Nat.le_of_ble_eq_true rfl) dX7_best_19) (fun H locs hS => ?_)
      refine lv_if_ne (tgt := 28) hx hb dX7_best_22 (by decide) (fun c22 => ?_) (fun c22 => ?_)
      · replace hm := ie c22 hm
        refine lv_iconst (v := 0) hx hb dX7_best_28 (by decide) ?_
        refine lv_istore_n (lv' := [(3, .int 0), (0, .ref (q 0)), (1, .int a1), (2, .int a2)]) hx hb dX7_best_29 rfl hl (by decide) rfl (fun ls hl => ?_)
        refine lv_iconst (v := 0) hx hb dX7_best_30 (by decide) ?_
        refine lv_istore (lv' := [(4, .int 0), (3, .int 0), (0, .ref (q 0)), (1, .int a1), (2, .int a2)]) hx hb dX7_best_31 hl (by decide) rfl (fun ls hl => ?_)
        exact L33 10000 σ a1 a2 0 0 _ _ _ hS (lv_sub hl [2, 3, 4, 1, 0] rfl) hm
      · replace hm := it c22 hm
        refine lv_bipush (v := (-4)) hx hb dX7_best_25 (by decide) ?_
        exact retIw (wf := mw q d) C hS hm dX7_best_27
    · replace hm := it c12 hm
      refine lv_iconst (v := (-1)) hx hb dX7_best_15 (by decide) ?_
      exact retIw (wf := mw q d) C hS hm dX7_best_16
def M_X7_drawnBy_4 (σ : ST) : Nat → Int32 → Int32 → Int32 → Option Int32
  | 0, _, _, _ => none
  | n + 1, x1, x2, x3 => if (σ.1 3) ≤ x3 then some x2 else (M_X7_wantsYet σ x3).bind fun o15 => if x1 ≤ o15 then M_X7_drawnBy_4 σ n x1 (x2 + x1) (x3 + 1) else (M_X7_wantsYet σ x3).bind fun o24 => M_X7_drawnBy_4 σ n x1 (x2 + o24) (x3 + 1)
def M_X7_drawnBy (σ : ST) (a1 : Int32) : Option Int32 := M_X7_drawnBy_4 σ 10000 a1 0 0
abbrev rm_X7_drawnBy : Room := { frames := 2, cells := 0, slots := 0, locals := 42 }
set_option maxRecDepth 100000 in
set_option maxHeartbeats 4000000 in
theorem c_X7_drawnBy (l : Launch) (d : CD) (q : Nat → Nat) (σ : ST) (a1 : Int32) (out : Int32) (hm : M_X7_drawnBy σ a1 = some out) : MetI l yX7_drawnBy cX7_drawnBy 4 (some .int) rm_X7_drawnBy d (mw q d σ) [.ref (q 0), .int a1] out (mw q d σ) := by
  refine mkI (own := RX7) (by decide +kernel) rfl (Nat.le_of_ble_eq_true rfl) ?_
  intro p e s m below meth c A ls C hS hl
  obtain ⟨hx, hb, hml, hown, hts, -⟩ := id C
  have hl : lv_has ls 4 [(0, .ref (q 0)), (1, .int a1)] := hl
  have L4 : ∀ (n : Nat) (x1 : Int32) (x2 : Int32) (x3 : Int32) (H : Heap) (locs : List Loc) (ls : Array Slot), HS d A s.heap H locs (mw q d σ) → lv_has ls 4 [(0, .ref (q 0)), (1, .int x1), (2, .int x2), (3, .int x3)] → M_X7_drawnBy_4 σ n x1 x2 x3 = some out → WI p l e rm_X7_drawnBy s m [.ref (q 0), .int a1].toArray below meth c A d H locs out (mw q d σ) (F0 m 4 ls []) := by
    intro n
    induction n with
    | zero =>
      intro x1 x2 x3 H locs ls hS hl hm
      exact absurd hm (by rw [M_X7_drawnBy_4]; exact fun h => nomatch h)
    | succ n ih =>
      intro x1 x2 x3 H locs ls hS hl hm
      rw [M_X7_drawnBy_4] at hm
      refine lv_iload_n hx hb dX7_drawnBy_4 rfl (lv_at hl 3 rfl) ?_
      refine lv_aload_n hx hb dX7_drawnBy_5 rfl (lv_at hl 0 rfl) ?_
      refine g_7_158_0 C hS dX7_drawnBy_6 ?_
      refine lv_icmp_ge (tgt := 39) hx hb dX7_drawnBy_9 (by decide) (fun c9 => ?_) (fun c9 => ?_)
      · replace hm := it c9 hm
        refine lv_iload_n hx hb dX7_drawnBy_39 rfl (lv_at hl 2 rfl) ?_
        exact retIr C hS hm dX7_drawnBy_40
      · replace hm := ie c9 hm
        refine lv_iload_n hx hb dX7_drawnBy_12 rfl (lv_at hl 2 rfl) ?_
        refine lv_aload_n hx hb dX7_drawnBy_13 rfl (lv_at hl 0 rfl) ?_
        refine lv_iload_n hx hb dX7_drawnBy_14 rfl (lv_at hl 3 rfl) ?_
        obtain ⟨o15, e15, hm⟩ := ob hm
        refine after_i C hS (call_V (As := [.int x3]) C hS (c_X7_wantsYet l d q σ x3 o15 e15 _) iv_7_199 ⟨rfl, rfl, Nat.le_of_ble_eq_true rfl, Nat.le_of_ble_eq_true rfl⟩ mw_o0 rfl rfl rfl hl.1 (Nat.le_of_ble_eq_true rfl) dX7_drawnBy_15) (fun H locs hS => ?_)
        refine lv_iload_n hx hb dX7_drawnBy_18 rfl (lv_at hl 1 rfl) ?_
        refine lv_icmp_ge (tgt := 30) hx hb dX7_drawnBy_19 (by decide) (fun c19 => ?_) (fun c19 => ?_)
        · replace hm := it c19 hm
          refine lv_iload_n hx hb dX7_drawnBy_30 rfl (lv_at hl 1 rfl) ?_
          refine lv_iadd hx hb dX7_drawnBy_31 ?_
          refine lv_istore_n (lv' := [(2, .int (x2 + x1)), (0, .ref (q 0)), (1, .int x1), (3, .int x3)]) hx hb dX7_drawnBy_32 rfl hl (by decide) rfl (fun ls hl => ?_)
          refine lv_iinc (v := x3 + 1) (lv' := [(3, .int (x3 + 1)), (2, .int (x2 + x1)), (0, .ref (q 0)), (1, .int x1)]) hx hb dX7_drawnBy_33 hl (k := 3) rfl rfl (by decide) rfl (fun ls hl => ?_)
          refine lv_goto (tgt := 4) hx hb dX7_drawnBy_36 (by decide) ?_
          exact ih x1 (x2 + x1) (x3 + 1) _ _ _ hS (lv_sub hl [2, 3, 1, 0] rfl) hm
        · replace hm := ie c19 hm
          refine lv_aload_n hx hb dX7_drawnBy_22 rfl (lv_at hl 0 rfl) ?_
          refine lv_iload_n hx hb dX7_drawnBy_23 rfl (lv_at hl 3 rfl) ?_
          obtain ⟨o24, e24, hm⟩ := ob hm
          refine after_i C hS (call_V (As := [.int x3]) C hS (c_X7_wantsYet l d q σ x3 o24 e24 _) iv_7_199 ⟨rfl, rfl, Nat.le_of_ble_eq_true rfl, Nat.le_of_ble_eq_true rfl⟩ mw_o0 rfl rfl rfl hl.1 (Nat.le_of_ble_eq_true rfl) dX7_drawnBy_24) (fun H locs hS => ?_)
          refine lv_goto (tgt := 31) hx hb dX7_drawnBy_27 (by decide) ?_
          refine lv_iadd hx hb dX7_drawnBy_31 ?_
          refine lv_istore_n (lv' := [(2, .int (x2 + o24)), (0, .ref (q 0)), (1, .int x1), (3, .int x3)]) hx hb dX7_drawnBy_32 rfl hl (by decide) rfl (fun ls hl => ?_)
          refine lv_iinc (v := x3 + 1) (lv' := [(3, .int (x3 + 1)), (2, .int (x2 + o24)), (0, .ref (q 0)), (1, .int x1)]) hx hb dX7_drawnBy_33 hl (k := 3) rfl rfl (by decide) rfl (fun ls hl => ?_)
          refine lv_goto (tgt := 4) hx hb dX7_drawnBy_36 (by decide) ?_
          exact ih x1 (x2 + o24) (x3 + 1) _ _ _ hS (lv_sub hl [2, 3, 1, 0] rfl) hm
  unfold M_X7_drawnBy at hm
  refine lv_iconst (v := 0) hx hb dX7_drawnBy_0 (by decide) ?_
  refine lv_istore_n (lv' := [(2, .int 0), (0, .ref (q 0)), (1, .int a1)]) hx hb dX7_drawnBy_1 rfl hl (by decide) rfl (fun ls hl => ?_)
  refine lv_iconst (v := 0) hx hb dX7_drawnBy_2 (by decide) ?_
  refine lv_istore_n (lv' := [(3, .int 0), (2, .int 0), (0, .ref (q 0)), (1, .int a1)]) hx hb dX7_drawnBy_3 rfl hl (by decide) rfl (fun ls hl => ?_)
  exact L4 10000 a1 0 0 _ _ _ hS (lv_sub hl [2, 3, 1, 0] rfl) hm
def M_X7_ration_14 : Nat → ST → Int32 → Int32 → Option (Int32 × ST)
  | 0, _, _, _ => none
  | n + 1, σ, x1, x2 => if 100 ≤ x2 then (M_X7_drawnBy σ x1).bind fun o49 => (some (setI σ 12 (o49))).bind fun σ52 => some (x1, σ52) else (M_X7_drawnBy σ x2).bind fun o22 => (rd 3776 (σ.2.2 1) 2).bind fun v30 => if v30 < o22 then M_X7_ration_14 n σ x1 (x2 + 1) else M_X7_ration_14 n σ x2 (x2 + 1)
def M_X7_ration (σ : ST) : Option (Int32 × ST) := if (σ.1 3) = 0 then some ((-4), σ) else M_X7_ration_14 10000 σ 0 0
abbrev rm_X7_ration : Room := { frames := 3, cells := 0, slots := 0, locals := 65 }
set_option maxRecDepth 100000 in
set_option maxHeartbeats 4000000 in
theorem c_X7_ration (l : Launch) (d : CD) (q : Nat → Nat) (σ : ST) (out : Int32 × ST) (hm : M_X7_ration σ = some out) : MetI l yX7_ration cX7_ration 3 (some .int) rm_X7_ration d (mw q d σ) [.ref (q 0)] out.1 (mw q d out.2) := by
  refine mkI (own := RX7) (by decide +kernel) rfl (Nat.le_of_ble_eq_true rfl) ?_
  intro p e s m below meth c A ls C hS hl
  obtain ⟨hx, hb, hml, hown, hts, -⟩ := id C
  have hl : lv_has ls 3 [(0, .ref (q 0))] := hl
  have L14 : ∀ (n : Nat) (σ : ST) (x1 : Int32) (x2 : Int32) (H : Heap) (locs : List Loc) (ls : Array Slot), HS d A s.heap H locs (mw q d σ) → lv_has ls 3 [(0, .ref (q 0)), (1, .int x1), (2, .int x2)] → M_X7_ration_14 n σ x1 x2 = some out → WI p l e rm_X7_ration s m [.ref (q 0)].toArray below meth c A d H locs out.1 (mw q d out.2) (F0 m 14 ls []) := by
    intro n
    induction n with
    | zero =>
      intro σ x1 x2 H locs ls hS hl hm
      exact absurd hm (by rw [M_X7_ration_14]; exact fun h => nomatch h)
    | succ n ih =>
      intro σ x1 x2 H locs ls hS hl hm
      rw [M_X7_ration_14] at hm
      refine lv_iload_n hx hb dX7_ration_14 rfl (lv_at hl 2 rfl) ?_
      refine lv_bipush (v := 100) hx hb dX7_ration_15 (by decide) ?_
      refine lv_icmp_ge (tgt := 46) hx hb dX7_ration_17 (by decide) (fun c17 => ?_) (fun c17 => ?_)
      · replace hm := it c17 hm
        refine lv_aload_n hx hb dX7_ration_46 rfl (lv_at hl 0 rfl) ?_
        refine lv_aload_n hx hb dX7_ration_47 rfl (lv_at hl 0 rfl) ?_
        refine lv_iload_n hx hb dX7_ration_48 rfl (lv_at hl 1 rfl) ?_
        obtain ⟨o49, e49, hm⟩ := ob hm
        refine after_i C hS (call_V (As := [.int x1]) C hS (c_X7_drawnBy l d q σ x1 o49 e49 _) iv_7_254 ⟨rfl, rfl, Nat.le_of_ble_eq_true rfl, Nat.le_of_ble_eq_true rfl⟩ mw_o0 rfl rfl rfl hl.1 (Nat.le_of_ble_eq_true rfl) dX7_ration_49) (fun H locs hS => ?_)
        obtain ⟨σ52, e52, hm⟩ := ob hm
        refine p_7_61_0 C hS e52 dX7_ration_52 (fun H locs hS => ?_)
        refine lv_iload_n hx hb dX7_ration_55 rfl (lv_at hl 1 rfl) ?_
        exact retIw (wf := mw q d) C hS hm dX7_ration_56
      · replace hm := ie c17 hm
        refine lv_aload_n hx hb dX7_ration_20 rfl (lv_at hl 0 rfl) ?_
        refine lv_iload_n hx hb dX7_ration_21 rfl (lv_at hl 2 rfl) ?_
        obtain ⟨o22, e22, hm⟩ := ob hm
        refine after_i C hS (call_V (As := [.int x2]) C hS (c_X7_drawnBy l d q σ x2 o22 e22 _) iv_7_254 ⟨rfl, rfl, Nat.le_of_ble_eq_true rfl, Nat.le_of_ble_eq_true rfl⟩ mw_o0 rfl rfl rfl hl.1 (Nat.le_of_ble_eq_true rfl) dX7_ration_22) (fun H locs hS => ?_)
        refine lv_aload_n hx hb dX7_ration_25 rfl (lv_at hl 0 rfl) ?_
        refine g_7_7_0 C hS dX7_ration_26 ?_
        refine lv_iconst (v := 2) hx hb dX7_ration_29 (by decide) ?_
        obtain ⟨v30, e30, hm⟩ := ob hm
        refine iald' C hS mw_a1 e30 dX7_ration_30 ?_
        refine lv_icmp_gt (tgt := 38) hx hb dX7_ration_31 (by decide) (fun c31 => ?_) (fun c31 => ?_)
        · replace hm := it c31 hm
          refine lv_iload_n hx hb dX7_ration_38 rfl (lv_at hl 1 rfl) ?_
          refine lv_istore_n (lv' := [(1, .int x1), (0, .ref (q 0)), (2, .int x2)]) hx hb dX7_ration_39 rfl hl (by decide) rfl (fun ls hl => ?_)
          refine lv_iinc (v := x2 + 1) (lv' := [(2, .int (x2 + 1)), (1, .int x1), (0, .ref (q 0))]) hx hb dX7_ration_40 hl (k := 2) rfl rfl (by decide) rfl (fun ls hl => ?_)
          refine lv_goto (tgt := 14) hx hb dX7_ration_43 (by decide) ?_
          exact ih σ x1 (x2 + 1) _ _ _ hS (lv_sub hl [2, 1, 0] rfl) hm
        · replace hm := ie c31 hm
          refine lv_iload_n hx hb dX7_ration_34 rfl (lv_at hl 2 rfl) ?_
          refine lv_goto (tgt := 39) hx hb dX7_ration_35 (by decide) ?_
          refine lv_istore_n (lv' := [(1, .int x2), (0, .ref (q 0)), (2, .int x2)]) hx hb dX7_ration_39 rfl hl (by decide) rfl (fun ls hl => ?_)
          refine lv_iinc (v := x2 + 1) (lv' := [(2, .int (x2 + 1)), (1, .int x2), (0, .ref (q 0))]) hx hb dX7_ration_40 hl (k := 2) rfl rfl (by decide) rfl (fun ls hl => ?_)
          refine lv_goto (tgt := 14) hx hb dX7_ration_43 (by decide) ?_
          exact ih σ x2 (x2 + 1) _ _ _ hS (lv_sub hl [2, 1, 0] rfl) hm
  unfold M_X7_ration at hm
  refine lv_aload_n hx hb dX7_ration_0 rfl (lv_at hl 0 rfl) ?_
  refine g_7_158_0 C hS dX7_ration_1 ?_
  refine lv_if_ne (tgt := 10) hx hb dX7_ration_4 (by decide) (fun c4 => ?_) (fun c4 => ?_)
  · replace hm := ie c4 hm
    refine lv_iconst (v := 0) hx hb dX7_ration_10 (by decide) ?_
    refine lv_istore_n (lv' := [(1, .int 0), (0, .ref (q 0))]) hx hb dX7_ration_11 rfl hl (by decide) rfl (fun ls hl => ?_)
    refine lv_iconst (v := 0) hx hb dX7_ration_12 (by decide) ?_
    refine lv_istore_n (lv' := [(2, .int 0), (1, .int 0), (0, .ref (q 0))]) hx hb dX7_ration_13 rfl hl (by decide) rfl (fun ls hl => ?_)
    exact L14 10000 σ 0 0 _ _ _ hS (lv_sub hl [2, 1, 0] rfl) hm
  · replace hm := it c4 hm
    refine lv_bipush (v := (-4)) hx hb dX7_ration_7 (by decide) ?_
    exact retIw (wf := mw q d) C hS hm dX7_ration_9
def M_X7_drawnOf_4 (σ : ST) : Nat → Int32 → Int32 → Int32 → Option Int32
  | 0, _, _, _ => none
  | n + 1, x1, x2, x3 => if (σ.1 3) ≤ x3 then (rd 3776 (σ.2.2 1) 2).bind fun v44 => if v44 ≤ x2 then (rd 3776 (σ.2.2 1) 2).bind fun v57 => some v57 else some x2 else (M_X7_has x1 x3).bind fun o15 => if o15 = 0 then M_X7_drawnOf_4 σ n x1 (x2 + 0) (x3 + 1) else (M_X7_wantsYet σ x3).bind fun o23 => M_X7_drawnOf_4 σ n x1 (x2 + o23) (x3 + 1)
def M_X7_drawnOf (σ : ST) (a1 : Int32) : Option Int32 := M_X7_drawnOf_4 σ 10000 a1 0 0
abbrev rm_X7_drawnOf : Room := { frames := 2, cells := 0, slots := 0, locals := 42 }
set_option maxRecDepth 100000 in
set_option maxHeartbeats 4000000 in
theorem c_X7_drawnOf (l : Launch) (d : CD) (q : Nat → Nat) (σ : ST) (a1 : Int32) (out : Int32) (hm : M_X7_drawnOf σ a1 = some out) : MetI l yX7_drawnOf cX7_drawnOf 4 (some .int) rm_X7_drawnOf d (mw q d σ) [.ref (q 0), .int a1] out (mw q d σ) := by
  refine mkI (own := RX7) (by decide +kernel) rfl (Nat.le_of_ble_eq_true rfl) ?_
  intro p e s m below meth c A ls C hS hl
  obtain ⟨hx, hb, hml, hown, hts, -⟩ := id C
  have hl : lv_has ls 4 [(0, .ref (q 0)), (1, .int a1)] := hl
  have L4 : ∀ (n : Nat) (x1 : Int32) (x2 : Int32) (x3 : Int32) (H : Heap) (locs : List Loc) (ls : Array Slot), HS d A s.heap H locs (mw q d σ) → lv_has ls 4 [(0, .ref (q 0)), (1, .int x1), (2, .int x2), (3, .int x3)] → M_X7_drawnOf_4 σ n x1 x2 x3 = some out → WI p l e rm_X7_drawnOf s m [.ref (q 0), .int a1].toArray below meth c A d H locs out (mw q d σ) (F0 m 4 ls []) := by
    intro n
    induction n with
    | zero =>
      intro x1 x2 x3 H locs ls hS hl hm
      exact absurd hm (by rw [M_X7_drawnOf_4]; exact fun h => nomatch h)
    | succ n ih =>
      intro x1 x2 x3 H locs ls hS hl hm
      rw [M_X7_drawnOf_4] at hm
      refine lv_iload_n hx hb dX7_drawnOf_4 rfl (lv_at hl 3 rfl) ?_
      refine lv_aload_n hx hb dX7_drawnOf_5 rfl (lv_at hl 0 rfl) ?_
      refine g_7_158_0 C hS dX7_drawnOf_6 ?_
      refine lv_icmp_ge (tgt := 38) hx hb dX7_drawnOf_9 (by decide) (fun c9 => ?_) (fun c9 => ?_)
      · replace hm := it c9 hm
        refine lv_iload_n hx hb dX7_drawnOf_38 rfl (lv_at hl 2 rfl) ?_
        refine lv_aload_n hx hb dX7_drawnOf_39 rfl (lv_at hl 0 rfl) ?_
        refine g_7_7_0 C hS dX7_drawnOf_40 ?_
        refine lv_iconst (v := 2) hx hb dX7_drawnOf_43 (by decide) ?_
        obtain ⟨v44, e44, hm⟩ := ob hm
        refine iald' C hS mw_a1 e44 dX7_drawnOf_44 ?_
        refine lv_icmp_ge (tgt := 52) hx hb dX7_drawnOf_45 (by decide) (fun c45 => ?_) (fun c45 => ?_)
        · replace hm := it c45 hm
          refine lv_aload_n hx hb dX7_drawnOf_52 rfl (lv_at hl 0 rfl) ?_
          refine g_7_7_0 C hS dX7_drawnOf_53 ?_
          refine lv_iconst (v := 2) hx hb dX7_drawnOf_56 (by decide) ?_
          obtain ⟨v57, e57, hm⟩ := ob hm
          refine iald' C hS mw_a1 e57 dX7_drawnOf_57 ?_
          exact retIr C hS hm dX7_drawnOf_58
        · replace hm := ie c45 hm
          refine lv_iload_n hx hb dX7_drawnOf_48 rfl (lv_at hl 2 rfl) ?_
          refine lv_goto (tgt := 58) hx hb dX7_drawnOf_49 (by decide) ?_
          exact retIr C hS hm dX7_drawnOf_58
      · replace hm := ie c9 hm
        refine lv_iload_n hx hb dX7_drawnOf_12 rfl (lv_at hl 2 rfl) ?_
        refine lv_iload_n hx hb dX7_drawnOf_13 rfl (lv_at hl 1 rfl) ?_
        refine lv_iload_n hx hb dX7_drawnOf_14 rfl (lv_at hl 3 rfl) ?_
        obtain ⟨o15, e15, hm⟩ := ob hm
        refine after_i C hS (call_S (As := [.int x1, .int x3]) C hS (c_X7_has l d (mw q d σ) x1 x3 o15 e15 _) is_7_135 ⟨rfl, rfl, Nat.le_of_ble_eq_true rfl, Nat.le_of_ble_eq_true rfl⟩ rfl hl.1 (Nat.le_of_ble_eq_true rfl) dX7_drawnOf_15) (fun H locs hS => ?_)
        refine lv_if_eq (tgt := 29) hx hb dX7_drawnOf_18 (by decide) (fun c18 => ?_) (fun c18 => ?_)
        · replace hm := it c18 hm
          refine lv_iconst (v := 0) hx hb dX7_drawnOf_29 (by decide) ?_
          refine lv_iadd hx hb dX7_drawnOf_30 ?_
          refine lv_istore_n (lv' := [(2, .int (x2 + 0)), (0, .ref (q 0)), (1, .int x1), (3, .int x3)]) hx hb dX7_drawnOf_31 rfl hl (by decide) rfl (fun ls hl => ?_)
          refine lv_iinc (v := x3 + 1) (lv' := [(3, .int (x3 + 1)), (2, .int (x2 + 0)), (0, .ref (q 0)), (1, .int x1)]) hx hb dX7_drawnOf_32 hl (k := 3) rfl rfl (by decide) rfl (fun ls hl => ?_)
          refine lv_goto (tgt := 4) hx hb dX7_drawnOf_35 (by decide) ?_
          exact ih x1 (x2 + 0) (x3 + 1) _ _ _ hS (lv_sub hl [2, 3, 1, 0] rfl) hm
        · replace hm := ie c18 hm
          refine lv_aload_n hx hb dX7_drawnOf_21 rfl (lv_at hl 0 rfl) ?_
          refine lv_iload_n hx hb dX7_drawnOf_22 rfl (lv_at hl 3 rfl) ?_
          obtain ⟨o23, e23, hm⟩ := ob hm
          refine after_i C hS (call_V (As := [.int x3]) C hS (c_X7_wantsYet l d q σ x3 o23 e23 _) iv_7_199 ⟨rfl, rfl, Nat.le_of_ble_eq_true rfl, Nat.le_of_ble_eq_true rfl⟩ mw_o0 rfl rfl rfl hl.1 (Nat.le_of_ble_eq_true rfl) dX7_drawnOf_23) (fun H locs hS => ?_)
          refine lv_goto (tgt := 30) hx hb dX7_drawnOf_26 (by decide) ?_
          refine lv_iadd hx hb dX7_drawnOf_30 ?_
          refine lv_istore_n (lv' := [(2, .int (x2 + o23)), (0, .ref (q 0)), (1, .int x1), (3, .int x3)]) hx hb dX7_drawnOf_31 rfl hl (by decide) rfl (fun ls hl => ?_)
          refine lv_iinc (v := x3 + 1) (lv' := [(3, .int (x3 + 1)), (2, .int (x2 + o23)), (0, .ref (q 0)), (1, .int x1)]) hx hb dX7_drawnOf_32 hl (k := 3) rfl rfl (by decide) rfl (fun ls hl => ?_)
          refine lv_goto (tgt := 4) hx hb dX7_drawnOf_35 (by decide) ?_
          exact ih x1 (x2 + o23) (x3 + 1) _ _ _ hS (lv_sub hl [2, 3, 1, 0] rfl) hm
  unfold M_X7_drawnOf at hm
  refine lv_iconst (v := 0) hx hb dX7_drawnOf_0 (by decide) ?_
  refine lv_istore_n (lv' := [(2, .int 0), (0, .ref (q 0)), (1, .int a1)]) hx hb dX7_drawnOf_1 rfl hl (by decide) rfl (fun ls hl => ?_)
  refine lv_iconst (v := 0) hx hb dX7_drawnOf_2 (by decide) ?_
  refine lv_istore_n (lv' := [(3, .int 0), (2, .int 0), (0, .ref (q 0)), (1, .int a1)]) hx hb dX7_drawnOf_3 rfl hl (by decide) rfl (fun ls hl => ?_)
  exact L4 10000 a1 0 0 _ _ _ hS (lv_sub hl [2, 3, 1, 0] rfl) hm
def M_X7_frogs_102 (σ : ST) (x2 : Int32) (y1 : Int32) : Option (Int32 × ST) := (some (setI σ 12 (y1))).bind fun σ102 => (M_X7_tellMany σ102 x2.toInt64).bind fun o108 => some (o108.1, o108.2)
def M_X7_frogs_70 (k24 : ST → Int32 → Int32 → Int32 → Int32 → Option (Int32 × ST)) (σ : ST) (x1 : Int32) (x3 : Int32) (x4 : Int32) (x5 : Int32) (y0 : Int32) (y1 : Int32) : Option (Int32 × ST) := if x5 = 0 then k24 σ x1 (y0 + y1) (x3 &&& x3) (x4 + 1) else k24 σ x1 (y0 + y1) (x3 &&& x4) (x4 + 1)
def M_X7_frogs_57 (k24 : ST → Int32 → Int32 → Int32 → Int32 → Option (Int32 × ST)) (σ : ST) (x1 : Int32) (x2 : Int32) (x3 : Int32) (x4 : Int32) (y0 : Int32) : Option (Int32 × ST) := if y0 = 0 then M_X7_frogs_70 k24 σ x1 x3 x4 y0 x2 0 else M_X7_frogs_70 k24 σ x1 x3 x4 y0 x2 1
def M_X7_frogs_56 (k24 : ST → Int32 → Int32 → Int32 → Int32 → Option (Int32 × ST)) (σ : ST) (x1 : Int32) (x2 : Int32) (x3 : Int32) (x4 : Int32) : Option (Int32 × ST) := M_X7_frogs_57 k24 σ x1 x2 x3 x4 0
def M_X7_frogs_24 : Nat → ST → Int32 → Int32 → Int32 → Int32 → Option (Int32 × ST)
  | 0, _, _, _, _, _ => none
  | n + 1, σ, x1, x2, x3, x4 => (M_X7_all σ).bind fun o27 => if o27 < x4 then if x2 = 0 then M_X7_frogs_102 σ x2 0 else M_X7_frogs_102 σ x2 x3 else (M_X7_isOpen σ x4).bind fun o36 => if o36 = 0 then M_X7_frogs_56 (M_X7_frogs_24 n) σ x1 x2 x3 x4 else (M_X7_drawnOf σ x4).bind fun o45 => if o45 = x1 then M_X7_frogs_57 (M_X7_frogs_24 n) σ x1 x2 x3 x4 1 else M_X7_frogs_56 (M_X7_frogs_24 n) σ x1 x2 x3 x4
def M_X7_frogs (σ : ST) (a1 : Int32) : Option (Int32 × ST) := (M_X7_in a1.toInt64 0 99).bind fun o6 => if o6 = 0 then some ((-1), σ) else (M_X7_all σ).bind fun o17 => M_X7_frogs_24 10000 σ a1 0 o17 0
abbrev rm_X7_frogs : Room := { frames := 3, cells := 0, slots := 0, locals := 66 }
set_option maxRecDepth 100000 in
set_option maxHeartbeats 4000000 in
theorem c_X7_frogs (l : Launch) (d : CD) (q : Nat → Nat) (σ : ST) (a1 : Int32) (out : Int32 × ST) (hm : M_X7_frogs σ a1 = some out) : MetI l yX7_frogs cX7_frogs 6 (some .int) rm_X7_frogs d (mw q d σ) [.ref (q 0), .int a1] out.1 (mw q d out.2) := by
  refine mkI (own := RX7) (by decide +kernel) rfl (Nat.le_of_ble_eq_true rfl) ?_
  intro p e s m below meth c A ls C hS hl
  obtain ⟨hx, hb, hml, hown, hts, -⟩ := id C
  have hl : lv_has ls 6 [(0, .ref (q 0)), (1, .int a1)] := hl
  have J102 : ∀ (σ : ST) (x2 : Int32) (y1 : Int32) (H : Heap) (locs : List Loc) (ls : Array Slot), HS d A s.heap H locs (mw q d σ) → lv_has ls 6 [(0, .ref (q 0)), (2, .int x2)] → M_X7_frogs_102 σ x2 y1 = some out → WI p l e rm_X7_frogs s m [.ref (q 0), .int a1].toArray below meth c A d H locs out.1 (mw q d out.2) (F0 m 102 ls [.int y1, .ref (q 0)]) := by
    intro σ x2 y1 H locs ls hS hl hm
    unfold M_X7_frogs_102 at hm
    obtain ⟨σ102, e102, hm⟩ := ob hm
    refine p_7_61_0 C hS e102 dX7_frogs_102 (fun H locs hS => ?_)
    refine lv_aload_n hx hb dX7_frogs_105 rfl (lv_at hl 0 rfl) ?_
    refine lv_iload_n hx hb dX7_frogs_106 rfl (lv_at hl 1 rfl) ?_
    refine lv_i2l (v := x2.toInt64) hx hb dX7_frogs_107 rfl ?_
    obtain ⟨o108, e108, hm⟩ := ob hm
    refine after_i C hS (call_V (As := [.long x2.toInt64]) C hS (c_X7_tellMany l d q σ102 x2.toInt64 o108 e108 _) iv_7_228 ⟨rfl, rfl, Nat.le_of_ble_eq_true rfl, Nat.le_of_ble_eq_true rfl⟩ mw_o0 rfl rfl rfl hl.1 (Nat.le_of_ble_eq_true rfl) dX7_frogs_108) (fun H locs hS => ?_)
    exact retIw (wf := mw q d) C hS hm dX7_frogs_111
  have J70 : ∀ (k24 : ST → Int32 → Int32 → Int32 → Int32 → Option (Int32 × ST)) (hk24 : ∀ (σ : ST) (x1 : Int32) (x2 : Int32) (x3 : Int32) (x4 : Int32) (H : Heap) (locs : List Loc) (ls : Array Slot), HS d A s.heap H locs (mw q d σ) → lv_has ls 6 [(0, .ref (q 0)), (1, .int x1), (2, .int x2), (3, .int x3), (4, .int x4)] → k24 σ x1 x2 x3 x4 = some out → WI p l e rm_X7_frogs s m [.ref (q 0), .int a1].toArray below meth c A d H locs out.1 (mw q d out.2) (F0 m 24 ls [])) (σ : ST) (x1 : Int32) (x3 : Int32) (x4 : Int32) (x5 : Int32) (y0 : Int32) (y1 : Int32) (H : Heap) (locs : List Loc) (ls : Array Slot), HS d A s.heap H locs (mw q d σ) → lv_has ls 6 [(0, .ref (q 0)), (1, .int x1), (3, .int x3), (4, .int x4), (5, .int x5)] → M_X7_frogs_70 k24 σ x1 x3 x4 x5 y0 y1 = some out → WI p l e rm_X7_frogs s m [.ref (q 0), .int a1].toArray below meth c A d H locs out.1 (mw q d out.2) (F0 m 70 ls [.int y1, .int y0]) := by
    intro k24 hk24 σ x1 x3 x4 x5 y0 y1 H locs ls hS hl hm
    unfold M_X7_frogs_70 at hm
    refine lv_iadd hx hb dX7_frogs_70 ?_
    refine lv_istore_n (lv' := [(2, .int (y0 + y1)), (0, .ref (q 0)), (1, .int x1), (3, .int x3), (4, .int x4), (5, .int x5)]) hx hb dX7_frogs_71 rfl hl (by decide) rfl (fun ls hl => ?_)
    refine lv_iload_n hx hb dX7_frogs_72 rfl (lv_at hl 3 rfl) ?_
    refine lv_iload hx hb dX7_frogs_73 (lv_at hl 5 rfl) ?_
    refine lv_if_eq (tgt := 83) hx hb dX7_frogs_75 (by decide) (fun c75 => ?_) (fun c75 => ?_)
    · replace hm := it c75 hm
      refine lv_iload_n hx hb dX7_frogs_83 rfl (lv_at hl 3 rfl) ?_
      refine lv_iand hx hb dX7_frogs_84 ?_
      refine lv_istore_n (lv' := [(3, .int (x3 &&& x3)), (2, .int (y0 + y1)), (0, .ref (q 0)), (1, .int x1), (4, .int x4), (5, .int x5)]) hx hb dX7_frogs_85 rfl hl (by decide) rfl (fun ls hl => ?_)
      refine lv_iinc (v := x4 + 1) (lv' := [(4, .int (x4 + 1)), (3, .int (x3 &&& x3)), (2, .int (y0 + y1)), (0, .ref (q 0)), (1, .int x1), (5, .int x5)]) hx hb dX7_frogs_86 hl (k := 4) rfl rfl (by decide) rfl (fun ls hl => ?_)
      refine lv_goto (tgt := 24) hx hb dX7_frogs_89 (by decide) ?_
      exact hk24 σ x1 (y0 + y1) (x3 &&& x3) (x4 + 1) _ _ _ hS (lv_sub hl [3, 4, 2, 1, 0] rfl) hm
    · replace hm := ie c75 hm
      refine lv_iload hx hb dX7_frogs_78 (lv_at hl 4 rfl) ?_
      refine lv_goto (tgt := 84) hx hb dX7_frogs_80 (by decide) ?_
      refine lv_iand hx hb dX7_frogs_84 ?_
      refine lv_istore_n (lv' := [(3, .int (x3 &&& x4)), (2, .int (y0 + y1)), (0, .ref (q 0)), (1, .int x1), (4, .int x4), (5, .int x5)]) hx hb dX7_frogs_85 rfl hl (by decide) rfl (fun ls hl => ?_)
      refine lv_iinc (v := x4 + 1) (lv' := [(4, .int (x4 + 1)), (3, .int (x3 &&& x4)), (2, .int (y0 + y1)), (0, .ref (q 0)), (1, .int x1), (5, .int x5)]) hx hb dX7_frogs_86 hl (k := 4) rfl rfl (by decide) rfl (fun ls hl => ?_)
      refine lv_goto (tgt := 24) hx hb dX7_frogs_89 (by decide) ?_
      exact hk24 σ x1 (y0 + y1) (x3 &&& x4) (x4 + 1) _ _ _ hS (lv_sub hl [3, 4, 2, 1, 0] rfl) hm
  have J57 : ∀ (k24 : ST → Int32 → Int32 → Int32 → Int32 → Option (Int32 × ST)) (hk24 : ∀ (σ : ST) (x1 : Int32) (x2 : Int32) (x3 : Int32) (x4 : Int32) (H : Heap) (locs : List Loc) (ls : Array Slot), HS d A s.heap H locs (mw q d σ) → lv_has ls 6 [(0, .ref (q 0)), (1, .int x1), (2, .int x2), (3, .int x3), (4, .int x4)] → k24 σ x1 x2 x3 x4 = some out → WI p l e rm_X7_frogs s m [.ref (q 0), .int a1].toArray below meth c A d H locs out.1 (mw q d out.2) (F0 m 24 ls [])) (σ : ST) (x1 : Int32) (x2 : Int32) (x3 : Int32) (x4 : Int32) (y0 : Int32) (H : Heap) (locs : List Loc) (ls : Array Slot), HS d A s.heap H locs (mw q d σ) → lv_has ls 6 [(0, .ref (q 0)), (1, .int x1), (2, .int x2), (3, .int x3), (4, .int x4)] → M_X7_frogs_57 k24 σ x1 x2 x3 x4 y0 = some out → WI p l e rm_X7_frogs s m [.ref (q 0), .int a1].toArray below meth c A d H locs out.1 (mw q d out.2) (F0 m 57 ls [.int y0]) := by
    intro k24 hk24 σ x1 x2 x3 x4 y0 H locs ls hS hl hm
    unfold M_X7_frogs_57 at hm
    refine lv_istore (lv' := [(5, .int y0), (0, .ref (q 0)), (1, .int x1), (2, .int x2), (3, .int x3), (4, .int x4)]) hx hb dX7_frogs_57 hl (by decide) rfl (fun ls hl => ?_)
    refine lv_iload_n hx hb dX7_frogs_59 rfl (lv_at hl 3 rfl) ?_
    refine lv_iload hx hb dX7_frogs_60 (lv_at hl 0 rfl) ?_
    refine lv_if_eq (tgt := 69) hx hb dX7_frogs_62 (by decide) (fun c62 => ?_) (fun c62 => ?_)
    · replace hm := it c62 hm
      refine lv_iconst (v := 0) hx hb dX7_frogs_69 (by decide) ?_
      exact J70 k24 hk24 σ x1 x3 x4 y0 x2 0 _ _ _ hS (lv_sub hl [1, 2, 4, 5, 0] rfl) hm
    · replace hm := ie c62 hm
      refine lv_iconst (v := 1) hx hb dX7_frogs_65 (by decide) ?_
      refine lv_goto (tgt := 70) hx hb dX7_frogs_66 (by decide) ?_
      exact J70 k24 hk24 σ x1 x3 x4 y0 x2 1 _ _ _ hS (lv_sub hl [1, 2, 4, 5, 0] rfl) hm
  have J56 : ∀ (k24 : ST → Int32 → Int32 → Int32 → Int32 → Option (Int32 × ST)) (hk24 : ∀ (σ : ST) (x1 : Int32) (x2 : Int32) (x3 : Int32) (x4 : Int32) (H : Heap) (locs : List Loc) (ls : Array Slot), HS d A s.heap H locs (mw q d σ) → lv_has ls 6 [(0, .ref (q 0)), (1, .int x1), (2, .int x2), (3, .int x3), (4, .int x4)] → k24 σ x1 x2 x3 x4 = some out → WI p l e rm_X7_frogs s m [.ref (q 0), .int a1].toArray below meth c A d H locs out.1 (mw q d out.2) (F0 m 24 ls [])) (σ : ST) (x1 : Int32) (x2 : Int32) (x3 : Int32) (x4 : Int32) (H : Heap) (locs : List Loc) (ls : Array Slot), HS d A s.heap H locs (mw q d σ) → lv_has ls 6 [(0, .ref (q 0)), (1, .int x1), (2, .int x2), (3, .int x3), (4, .int x4)] → M_X7_frogs_56 k24 σ x1 x2 x3 x4 = some out → WI p l e rm_X7_frogs s m [.ref (q 0), .int a1].toArray below meth c A d H locs out.1 (mw q d out.2) (F0 m 56 ls []) := by
    intro k24 hk24 σ x1 x2 x3 x4 H locs ls hS hl hm
    unfold M_X7_frogs_56 at hm
    refine lv_iconst (v := 0) hx hb dX7_frogs_56 (by decide) ?_
    exact J57 k24 hk24 σ x1 x2 x3 x4 0 _ _ _ hS (lv_sub hl [0, 1, 2, 3, 4] rfl) hm
  have L24 : ∀ (n : Nat) (σ : ST) (x1 : Int32) (x2 : Int32) (x3 : Int32) (x4 : Int32) (H : Heap) (locs : List Loc) (ls : Array Slot), HS d A s.heap H locs (mw q d σ) → lv_has ls 6 [(0, .ref (q 0)), (1, .int x1), (2, .int x2), (3, .int x3), (4, .int x4)] → M_X7_frogs_24 n σ x1 x2 x3 x4 = some out → WI p l e rm_X7_frogs s m [.ref (q 0), .int a1].toArray below meth c A d H locs out.1 (mw q d out.2) (F0 m 24 ls []) := by
    intro n
    induction n with
    | zero =>
      intro σ x1 x2 x3 x4 H locs ls hS hl hm
      exact absurd hm (by rw [M_X7_frogs_24]; exact fun h => nomatch h)
    | succ n ih =>
      intro σ x1 x2 x3 x4 H locs ls hS hl hm
      rw [M_X7_frogs_24] at hm
      refine lv_iload hx hb dX7_frogs_24 (lv_at hl 4 rfl) ?_
      refine lv_aload_n hx hb dX7_frogs_26 rfl (lv_at hl 0 rfl) ?_
      obtain ⟨o27, e27, hm⟩ := ob hm
      refine after_i C hS (call_V (As := []) C hS (c_X7_all l d q σ o27 e27 _) iv_7_164 ⟨rfl, rfl, Nat.le_of_ble_eq_true rfl, Nat.le_of_ble_eq_true rfl⟩ mw_o0 rfl rfl rfl hl.1 (Nat.le_of_ble_eq_true rfl) dX7_frogs_27) (fun H locs hS => ?_)
      refine lv_icmp_gt (tgt := 92) hx hb dX7_frogs_30 (by decide) (fun c30 => ?_) (fun c30 => ?_)
      · replace hm := it c30 hm
        refine lv_aload_n hx hb dX7_frogs_92 rfl (lv_at hl 0 rfl) ?_
        refine lv_iload_n hx hb dX7_frogs_93 rfl (lv_at hl 2 rfl) ?_
        refine lv_if_ne (tgt := 101) hx hb dX7_frogs_94 (by decide) (fun c94 => ?_) (fun c94 => ?_)
        · replace hm := ie c94 hm
          refine lv_iload_n hx hb dX7_frogs_101 rfl (lv_at hl 3 rfl) ?_
          exact J102 σ x2 x3 _ _ _ hS (lv_sub hl [0, 2] rfl) hm
        · replace hm := it c94 hm
          refine lv_iconst (v := 0) hx hb dX7_frogs_97 (by decide) ?_
          refine lv_goto (tgt := 102) hx hb dX7_frogs_98 (by decide) ?_
          exact J102 σ x2 0 _ _ _ hS (lv_sub hl [0, 2] rfl) hm
      · replace hm := ie c30 hm
        refine lv_aload_n hx hb dX7_frogs_33 rfl (lv_at hl 0 rfl) ?_
        refine lv_iload hx hb dX7_frogs_34 (lv_at hl 4 rfl) ?_
        obtain ⟨o36, e36, hm⟩ := ob hm
        refine after_i C hS (call_V (As := [.int x4]) C hS (c_X7_isOpen l d q σ x4 o36 e36 _) iv_7_187 ⟨rfl, rfl, Nat.le_of_ble_eq_true rfl, Nat.le_of_ble_eq_true rfl⟩ mw_o0 rfl rfl rfl hl.1 (Nat.le_of_ble_eq_true rfl) dX7_frogs_36) (fun H locs hS => ?_)
        refine lv_if_eq (tgt := 56) hx hb dX7_frogs_39 (by decide) (fun c39 => ?_) (fun c39 => ?_)
        · replace hm := it c39 hm
          exact J56 (M_X7_frogs_24 n) ih σ x1 x2 x3 x4 _ _ _ hS (lv_sub hl [0, 1, 2, 3, 4] rfl) hm
        · replace hm := ie c39 hm
          refine lv_aload_n hx hb dX7_frogs_42 rfl (lv_at hl 0 rfl) ?_
          refine lv_iload hx hb dX7_frogs_43 (lv_at hl 4 rfl) ?_
          obtain ⟨o45, e45, hm⟩ := ob hm
          refine after_i C hS (call_V (As := [.int x4]) C hS (c_X7_drawnOf l d q σ x4 o45 e45 _) iv_7_259 ⟨rfl, rfl, Nat.le_of_ble_eq_true rfl, Nat.le_of_ble_eq_true rfl⟩ mw_o0 rfl rfl rfl hl.1 (Nat.le_of_ble_eq_true rfl) dX7_frogs_45) (fun H locs hS => ?_)
          refine lv_iload_n hx hb dX7_frogs_48 rfl (lv_at hl 1 rfl) ?_
          refine lv_icmp_ne (tgt := 56) hx hb dX7_frogs_49 (by decide) (fun c49 => ?_) (fun c49 => ?_)
          · replace hm := ie c49 hm
            exact J56 (M_X7_frogs_24 n) ih σ x1 x2 x3 x4 _ _ _ hS (lv_sub hl [0, 1, 2, 3, 4] rfl) hm
          · replace hm := it c49 hm
            refine lv_iconst (v := 1) hx hb dX7_frogs_52 (by decide) ?_
            refine lv_goto (tgt := 57) hx hb dX7_frogs_53 (by decide) ?_
            exact J57 (M_X7_frogs_24 n) ih σ x1 x2 x3 x4 1 _ _ _ hS (lv_sub hl [0, 1, 2, 3, 4] rfl) hm
  unfold M_X7_frogs at hm
  refine lv_iload_n hx hb dX7_frogs_0 rfl (lv_at hl 1 rfl) ?_
  refine lv_i2l (v := a1.toInt64) hx hb dX7_frogs_1 rfl ?_
  refine lv_lconst (v := 0) hx hb dX7_frogs_2 (by decide) ?_
  refine lv_ldc2 (v := 99) hx hb hown (hts _ lc_X7_257) dX7_frogs_3 ?_
  obtain ⟨o6, e6, hm⟩ := ob hm
  refine after_i C hS (call_S (As := [.long a1.toInt64, .long 0, .long 99]) C hS (c_X7_in l d (mw q d σ) a1.toInt64 0 99 o6 e6 _) is_7_66 ⟨rfl, rfl, Nat.le_of_ble_eq_true rfl, Nat.le_of_ble_eq_true rfl⟩ rfl hl.1 (Nat.le_of_ble_eq_true rfl) dX7_frogs_6) (fun H locs hS => ?_)
  refine lv_if_ne (tgt := 14) hx hb dX7_frogs_9 (by decide) (fun c9 => ?_) (fun c9 => ?_)
  · replace hm := ie c9 hm
    refine lv_iconst (v := 0) hx hb dX7_frogs_14 (by decide) ?_
    refine lv_istore_n (lv' := [(2, .int 0), (0, .ref (q 0)), (1, .int a1)]) hx hb dX7_frogs_15 rfl hl (by decide) rfl (fun ls hl => ?_)
    refine lv_aload_n hx hb dX7_frogs_16 rfl (lv_at hl 1 rfl) ?_
    obtain ⟨o17, e17, hm⟩ := ob hm
    refine after_i C hS (call_V (As := []) C hS (c_X7_all l d q σ o17 e17 _) iv_7_164 ⟨rfl, rfl, Nat.le_of_ble_eq_true rfl, Nat.le_of_ble_eq_true rfl⟩ mw_o0 rfl rfl rfl hl.1 (Nat.le_of_ble_eq_true rfl) dX7_frogs_17) (fun H locs hS => ?_)
    refine lv_istore_n (lv' := [(3, .int o17), (2, .int 0), (0, .ref (q 0)), (1, .int a1)]) hx hb dX7_frogs_20 rfl hl (by decide) rfl (fun ls hl => ?_)
    refine lv_iconst (v := 0) hx hb dX7_frogs_21 (by decide) ?_
    refine lv_istore (lv' := [(4, .int 0), (3, .int o17), (2, .int 0), (0, .ref (q 0)), (1, .int a1)]) hx hb dX7_frogs_22 hl (by decide) rfl (fun ls hl => ?_)
    exact L24 10000 σ a1 0 o17 0 _ _ _ hS (lv_sub hl [3, 4, 2, 1, 0] rfl) hm
  · replace hm := it c9 hm
    refine lv_iconst (v := (-1)) hx hb dX7_frogs_12 (by decide) ?_
    exact retIw (wf := mw q d) C hS hm dX7_frogs_13
