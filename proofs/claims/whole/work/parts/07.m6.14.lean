def M_X0_howManyOf_4 (σ : ST) : Nat → Int32 → Int32 → Int32 → Option Int32
  | 0, _, _, _ => none
  | n + 1, x1, x2, x3 => if (σ.1 33) ≤ x3 then some x2 else (rd 7 (σ.2.2 24) x3).bind fun v17 => (M_X6_isOfKind v17 x1).bind fun o19 => if o19 = 0 then M_X0_howManyOf_4 σ n x1 x2 (x3 + 1) else M_X0_howManyOf_4 σ n x1 (x2 + 1) (x3 + 1)
def M_X0_howManyOf (σ : ST) (a1 : Int32) : Option Int32 := M_X0_howManyOf_4 σ 10000 a1 0 0
abbrev rm_X0_howManyOf : Room := { frames := 1, cells := 0, slots := 0, locals := 21 }
set_option maxRecDepth 100000 in
set_option maxHeartbeats 4000000 in
theorem c_X0_howManyOf (l : Launch) (d : CD) (q : Nat → Nat) (σ : ST) (a1 : Int32) (out : Int32) (hm : M_X0_howManyOf σ a1 = some out) : MetI l yX0_howManyOf cX0_howManyOf 4 (some .int) rm_X0_howManyOf d (cw q d σ) [.ref (q 23), .int a1] out (cw q d σ) := by
  refine mkI (own := RX0) (by decide +kernel) rfl (Nat.le_of_ble_eq_true rfl) ?_
  intro p e s m below meth c A ls C hS hl
  obtain ⟨hx, hb, hml, hown, hts, -⟩ := id C
  have hl : lv_has ls 4 [(0, .ref (q 23)), (1, .int a1)] := hl
  have L4 : ∀ (n : Nat) (x1 : Int32) (x2 : Int32) (x3 : Int32) (H : Heap) (locs : List Loc) (ls : Array Slot), HS d A s.heap H locs (cw q d σ) → lv_has ls 4 [(0, .ref (q 23)), (1, .int x1), (2, .int x2), (3, .int x3)] → M_X0_howManyOf_4 σ n x1 x2 x3 = some out → WI p l e rm_X0_howManyOf s m [.ref (q 23), .int a1].toArray below meth c A d H locs out (cw q d σ) (F0 m 4 ls []) := by
    intro n
    induction n with
    | zero =>
      intro x1 x2 x3 H locs ls hS hl hm
      exact absurd hm (by rw [M_X0_howManyOf_4]; exact fun h => nomatch h)
    | succ n ih =>
      intro x1 x2 x3 H locs ls hS hl hm
      rw [M_X0_howManyOf_4] at hm
      refine lv_iload_n hx hb dX0_howManyOf_4 rfl (lv_at hl 3 rfl) ?_
      refine lv_aload_n hx hb dX0_howManyOf_5 rfl (lv_at hl 0 rfl) ?_
      refine g_0_31_23 C hS dX0_howManyOf_6 ?_
      refine lv_icmp_ge (tgt := 34) hx hb dX0_howManyOf_9 (by decide) (fun c9 => ?_) (fun c9 => ?_)
      · replace hm := it c9 hm
        refine lv_iload_n hx hb dX0_howManyOf_34 rfl (lv_at hl 2 rfl) ?_
        exact retIr C hS hm dX0_howManyOf_35
      · replace hm := ie c9 hm
        refine lv_aload_n hx hb dX0_howManyOf_12 rfl (lv_at hl 0 rfl) ?_
        refine g_0_9_23 C hS dX0_howManyOf_13 ?_
        refine lv_iload_n hx hb dX0_howManyOf_16 rfl (lv_at hl 3 rfl) ?_
        obtain ⟨v17, e17, hm⟩ := ob hm
        refine iald' C hS cw_a24 e17 dX0_howManyOf_17 ?_
        refine lv_iload_n hx hb dX0_howManyOf_18 rfl (lv_at hl 1 rfl) ?_
        obtain ⟨o19, e19, hm⟩ := ob hm
        refine after_i C hS (call_N (As := [.int v17, .int x1]) C hS (c_X6_isOfKind l d (cw q d σ) v17 x1 o19 e19 _) is_0_47 ⟨rfl, rfl, Nat.le_of_ble_eq_true rfl, Nat.le_of_ble_eq_true rfl⟩ rfl hl.1 (Nat.le_of_ble_eq_true rfl) dX0_howManyOf_19) (fun H locs hS => ?_)
        refine lv_if_eq (tgt := 28) hx hb dX0_howManyOf_22 (by decide) (fun c22 => ?_) (fun c22 => ?_)
        · replace hm := it c22 hm
          refine lv_iinc (v := x3 + 1) (lv' := [(3, .int (x3 + 1)), (0, .ref (q 23)), (1, .int x1), (2, .int x2)]) hx hb dX0_howManyOf_28 hl (k := 3) rfl rfl (by decide) rfl (fun ls hl => ?_)
          refine lv_goto (tgt := 4) hx hb dX0_howManyOf_31 (by decide) ?_
          exact ih x1 x2 (x3 + 1) _ _ _ hS (lv_sub hl [1, 2, 3, 0] rfl) hm
        · replace hm := ie c22 hm
          refine lv_iinc (v := x2 + 1) (lv' := [(2, .int (x2 + 1)), (0, .ref (q 23)), (1, .int x1), (3, .int x3)]) hx hb dX0_howManyOf_25 hl (k := 2) rfl rfl (by decide) rfl (fun ls hl => ?_)
          refine lv_iinc (v := x3 + 1) (lv' := [(3, .int (x3 + 1)), (2, .int (x2 + 1)), (0, .ref (q 23)), (1, .int x1)]) hx hb dX0_howManyOf_28 hl (k := 3) rfl rfl (by decide) rfl (fun ls hl => ?_)
          refine lv_goto (tgt := 4) hx hb dX0_howManyOf_31 (by decide) ?_
          exact ih x1 (x2 + 1) (x3 + 1) _ _ _ hS (lv_sub hl [2, 3, 1, 0] rfl) hm
  unfold M_X0_howManyOf at hm
  refine lv_iconst (v := 0) hx hb dX0_howManyOf_0 (by decide) ?_
  refine lv_istore_n (lv' := [(2, .int 0), (0, .ref (q 23)), (1, .int a1)]) hx hb dX0_howManyOf_1 rfl hl (by decide) rfl (fun ls hl => ?_)
  refine lv_iconst (v := 0) hx hb dX0_howManyOf_2 (by decide) ?_
  refine lv_istore_n (lv' := [(3, .int 0), (2, .int 0), (0, .ref (q 23)), (1, .int a1)]) hx hb dX0_howManyOf_3 rfl hl (by decide) rfl (fun ls hl => ?_)
  exact L4 10000 a1 0 0 _ _ _ hS (lv_sub hl [2, 3, 1, 0] rfl) hm
def M_X6_countOf (σ : ST) (a1 : Int32) : Option Int32 := if a1 = 0 then (M_X5_houses σ).bind fun o60 => some o60 else if a1 = 1 then some (σ.1 36) else if a1 = 2 then some (σ.1 37) else if a1 = 3 then some (σ.1 35) else if a1 = 4 then some (σ.1 30) else if a1 = 5 then some (σ.1 34) else if a1 = 6 then (M_X0_howManyOf σ 1).bind fun o121 => some o121 else if a1 = 7 then (M_X0_howManyOf σ 3).bind fun o133 => some o133 else if a1 = 8 then (M_X3_howManyThere_r σ).bind fun o141 => some o141 else if a1 = 9 then (M_X3_howManyThere_t σ).bind fun o149 => some o149 else (M_X6_keptWells σ).bind fun o154 => some o154
abbrev rm_X6_countOf : Room := { frames := 3, cells := 0, slots := 0, locals := 64 }
set_option maxRecDepth 100000 in
set_option maxHeartbeats 4000000 in
theorem c_X6_countOf (l : Launch) (d : CD) (q : Nat → Nat) (σ : ST) (a1 : Int32) (out : Int32) (hm : M_X6_countOf σ a1 = some out) : MetI l yX6_countOf cX6_countOf 2 (some .int) rm_X6_countOf d (cw q d σ) [.ref (q 0), .int a1] out (cw q d σ) := by
  refine mkI (own := RX6) (by decide +kernel) rfl (Nat.le_of_ble_eq_true rfl) ?_
  intro p e s m below meth c A ls C hS hl
  obtain ⟨hx, hb, hml, hown, hts, -⟩ := id C
  have hl : lv_has ls 2 [(0, .ref (q 0)), (1, .int a1)] := hl
  unfold M_X6_countOf at hm
  refine lv_iload_n hx hb dX6_countOf_0 rfl (lv_at hl 1 rfl) ?_
  by_cases c1_0 : a1 = 0
  · replace hm := it c1_0 hm
    refine lv_tableIn (off := 55) (tgt := 56) hx hb dX6_countOf_1 (by rw [c1_0]; decide) (by rw [c1_0]; decide) (by rw [c1_0]; rfl) (by decide) ?_
    refine lv_aload_n hx hb dX6_countOf_56 rfl (lv_at hl 0 rfl) ?_
    refine g_6_33_0 C hS dX6_countOf_57 ?_
    obtain ⟨o60, e60, hm⟩ := ob hm
    refine after_i C hS (call_V (As := []) C hS (c_X5_houses l d q σ o60 e60 _) iv_6_140 ⟨rfl, rfl, Nat.le_of_ble_eq_true rfl, Nat.le_of_ble_eq_true rfl⟩ cw_o22 rfl rfl rfl hl.1 (Nat.le_of_ble_eq_true rfl) dX6_countOf_60) (fun H locs hS => ?_)
    exact retIr C hS hm dX6_countOf_63
  · replace hm := ie c1_0 hm
    by_cases c1_1 : a1 = 1
    · replace hm := it c1_1 hm
      refine lv_tableIn (off := 63) (tgt := 64) hx hb dX6_countOf_1 (by rw [c1_1]; decide) (by rw [c1_1]; decide) (by rw [c1_1]; rfl) (by decide) ?_
      refine lv_aload_n hx hb dX6_countOf_64 rfl (lv_at hl 0 rfl) ?_
      refine g_6_33_0 C hS dX6_countOf_65 ?_
      refine g_6_319_22 C hS dX6_countOf_68 ?_
      exact retIr C hS hm dX6_countOf_71
    · replace hm := ie c1_1 hm
      by_cases c1_2 : a1 = 2
      · replace hm := it c1_2 hm
        refine lv_tableIn (off := 71) (tgt := 72) hx hb dX6_countOf_1 (by rw [c1_2]; decide) (by rw [c1_2]; decide) (by rw [c1_2]; rfl) (by decide) ?_
        refine lv_aload_n hx hb dX6_countOf_72 rfl (lv_at hl 0 rfl) ?_
        refine g_6_33_0 C hS dX6_countOf_73 ?_
        refine g_6_168_22 C hS dX6_countOf_76 ?_
        refine g_6_137_27 C hS dX6_countOf_79 ?_
        exact retIr C hS hm dX6_countOf_82
      · replace hm := ie c1_2 hm
        by_cases c1_3 : a1 = 3
        · replace hm := it c1_3 hm
          refine lv_tableIn (off := 82) (tgt := 83) hx hb dX6_countOf_1 (by rw [c1_3]; decide) (by rw [c1_3]; decide) (by rw [c1_3]; rfl) (by decide) ?_
          refine lv_aload_n hx hb dX6_countOf_83 rfl (lv_at hl 0 rfl) ?_
          refine g_6_33_0 C hS dX6_countOf_84 ?_
          refine g_6_187_22 C hS dX6_countOf_87 ?_
          exact retIr C hS hm dX6_countOf_90
        · replace hm := ie c1_3 hm
          by_cases c1_4 : a1 = 4
          · replace hm := it c1_4 hm
            refine lv_tableIn (off := 90) (tgt := 91) hx hb dX6_countOf_1 (by rw [c1_4]; decide) (by rw [c1_4]; decide) (by rw [c1_4]; rfl) (by decide) ?_
            refine lv_aload_n hx hb dX6_countOf_91 rfl (lv_at hl 0 rfl) ?_
            refine g_6_33_0 C hS dX6_countOf_92 ?_
            refine g_6_125_22 C hS dX6_countOf_95 ?_
            refine g_6_322_23 C hS dX6_countOf_98 ?_
            exact retIr C hS hm dX6_countOf_101
          · replace hm := ie c1_4 hm
            by_cases c1_5 : a1 = 5
            · replace hm := it c1_5 hm
              refine lv_tableIn (off := 101) (tgt := 102) hx hb dX6_countOf_1 (by rw [c1_5]; decide) (by rw [c1_5]; decide) (by rw [c1_5]; rfl) (by decide) ?_
              refine lv_aload_n hx hb dX6_countOf_102 rfl (lv_at hl 0 rfl) ?_
              refine g_6_33_0 C hS dX6_countOf_103 ?_
              refine g_6_125_22 C hS dX6_countOf_106 ?_
              refine g_6_325_23 C hS dX6_countOf_109 ?_
              exact retIr C hS hm dX6_countOf_112
            · replace hm := ie c1_5 hm
              by_cases c1_6 : a1 = 6
              · replace hm := it c1_6 hm
                refine lv_tableIn (off := 112) (tgt := 113) hx hb dX6_countOf_1 (by rw [c1_6]; decide) (by rw [c1_6]; decide) (by rw [c1_6]; rfl) (by decide) ?_
                refine lv_aload_n hx hb dX6_countOf_113 rfl (lv_at hl 0 rfl) ?_
                refine g_6_33_0 C hS dX6_countOf_114 ?_
                refine g_6_125_22 C hS dX6_countOf_117 ?_
                refine lv_iconst (v := 1) hx hb dX6_countOf_120 (by decide) ?_
                obtain ⟨o121, e121, hm⟩ := ob hm
                refine after_i C hS (call_V (As := [.int 1]) C hS (c_X0_howManyOf l d q σ 1 o121 e121 _) iv_6_328 ⟨rfl, rfl, Nat.le_of_ble_eq_true rfl, Nat.le_of_ble_eq_true rfl⟩ cw_o23 rfl rfl rfl hl.1 (Nat.le_of_ble_eq_true rfl) dX6_countOf_121) (fun H locs hS => ?_)
                exact retIr C hS hm dX6_countOf_124
              · replace hm := ie c1_6 hm
                by_cases c1_7 : a1 = 7
                · replace hm := it c1_7 hm
                  refine lv_tableIn (off := 124) (tgt := 125) hx hb dX6_countOf_1 (by rw [c1_7]; decide) (by rw [c1_7]; decide) (by rw [c1_7]; rfl) (by decide) ?_
                  refine lv_aload_n hx hb dX6_countOf_125 rfl (lv_at hl 0 rfl) ?_
                  refine g_6_33_0 C hS dX6_countOf_126 ?_
                  refine g_6_125_22 C hS dX6_countOf_129 ?_
                  refine lv_iconst (v := 3) hx hb dX6_countOf_132 (by decide) ?_
                  obtain ⟨o133, e133, hm⟩ := ob hm
                  refine after_i C hS (call_V (As := [.int 3]) C hS (c_X0_howManyOf l d q σ 3 o133 e133 _) iv_6_328 ⟨rfl, rfl, Nat.le_of_ble_eq_true rfl, Nat.le_of_ble_eq_true rfl⟩ cw_o23 rfl rfl rfl hl.1 (Nat.le_of_ble_eq_true rfl) dX6_countOf_133) (fun H locs hS => ?_)
                  exact retIr C hS hm dX6_countOf_136
                · replace hm := ie c1_7 hm
                  by_cases c1_8 : a1 = 8
                  · replace hm := it c1_8 hm
                    refine lv_tableIn (off := 136) (tgt := 137) hx hb dX6_countOf_1 (by rw [c1_8]; decide) (by rw [c1_8]; decide) (by rw [c1_8]; rfl) (by decide) ?_
                    refine lv_aload_n hx hb dX6_countOf_137 rfl (lv_at hl 0 rfl) ?_
                    refine g_6_14_0 C hS dX6_countOf_138 ?_
                    obtain ⟨o141, e141, hm⟩ := ob hm
                    refine after_i C hS (call_V (As := []) C hS (c_X3_howManyThere_r l d q σ o141 e141 _) iv_6_331 ⟨rfl, rfl, Nat.le_of_ble_eq_true rfl, Nat.le_of_ble_eq_true rfl⟩ cw_o1 rfl rfl rfl hl.1 (Nat.le_of_ble_eq_true rfl) dX6_countOf_141) (fun H locs hS => ?_)
                    exact retIr C hS hm dX6_countOf_144
                  · replace hm := ie c1_8 hm
                    by_cases c1_9 : a1 = 9
                    · replace hm := it c1_9 hm
                      refine lv_tableIn (off := 144) (tgt := 145) hx hb dX6_countOf_1 (by rw [c1_9]; decide) (by rw [c1_9]; decide) (by rw [c1_9]; rfl) (by decide) ?_
                      refine lv_aload_n hx hb dX6_countOf_145 rfl (lv_at hl 0 rfl) ?_
                      refine g_6_18_0 C hS dX6_countOf_146 ?_
                      obtain ⟨o149, e149, hm⟩ := ob hm
                      refine after_i C hS (call_V (As := []) C hS (c_X3_howManyThere_t l d q σ o149 e149 _) iv_6_331 ⟨rfl, rfl, Nat.le_of_ble_eq_true rfl, Nat.le_of_ble_eq_true rfl⟩ cw_o10 rfl rfl rfl hl.1 (Nat.le_of_ble_eq_true rfl) dX6_countOf_149) (fun H locs hS => ?_)
                      exact retIr C hS hm dX6_countOf_152
                    · replace hm := ie c1_9 hm
                      refine lv_tableOut (tgt := 153) hx hb dX6_countOf_1 (by have h0 : a1.toInt ≠ 0 := ts_ne c1_0; have h1 : a1.toInt ≠ 1 := ts_ne c1_1; have h2 : a1.toInt ≠ 2 := ts_ne c1_2; have h3 : a1.toInt ≠ 3 := ts_ne c1_3; have h4 : a1.toInt ≠ 4 := ts_ne c1_4; have h5 : a1.toInt ≠ 5 := ts_ne c1_5; have h6 : a1.toInt ≠ 6 := ts_ne c1_6; have h7 : a1.toInt ≠ 7 := ts_ne c1_7; have h8 : a1.toInt ≠ 8 := ts_ne c1_8; have h9 : a1.toInt ≠ 9 := ts_ne c1_9; omega) (by decide) ?_
                      refine lv_aload_n hx hb dX6_countOf_153 rfl (lv_at hl 0 rfl) ?_
                      obtain ⟨o154, e154, hm⟩ := ob hm
                      refine after_i C hS (call_V (As := []) C hS (c_X6_keptWells l d q σ o154 e154 _) iv_6_334 ⟨rfl, rfl, Nat.le_of_ble_eq_true rfl, Nat.le_of_ble_eq_true rfl⟩ cw_o0 rfl rfl rfl hl.1 (Nat.le_of_ble_eq_true rfl) dX6_countOf_154) (fun H locs hS => ?_)
                      exact retIr C hS hm dX6_countOf_157
def M_X6_count (σ : ST) (a1 : Int32) : Option Int32 := if a1 < 0 then some (-1) else if a1 < 11 then (M_X6_countOf σ a1).bind fun o16 => some o16 else some (-1)
abbrev rm_X6_count : Room := { frames := 4, cells := 0, slots := 0, locals := 85 }
set_option maxRecDepth 100000 in
set_option maxHeartbeats 4000000 in
theorem c_X6_count (l : Launch) (d : CD) (q : Nat → Nat) (σ : ST) (a1 : Int32) (out : Int32) (hm : M_X6_count σ a1 = some out) : MetI l yX6_count cX6_count 2 (some .int) rm_X6_count d (cw q d σ) [.ref (q 0), .int a1] out (cw q d σ) := by
  refine mkI (own := RX6) (by decide +kernel) rfl (Nat.le_of_ble_eq_true rfl) ?_
  intro p e s m below meth c A ls C hS hl
  obtain ⟨hx, hb, hml, hown, hts, -⟩ := id C
  have hl : lv_has ls 2 [(0, .ref (q 0)), (1, .int a1)] := hl
  unfold M_X6_count at hm
  refine lv_iload_n hx hb dX6_count_0 rfl (lv_at hl 1 rfl) ?_
  refine lv_if_lt (tgt := 10) hx hb dX6_count_1 (by decide) (fun c1 => ?_) (fun c1 => ?_)
  · replace hm := it c1 hm
    refine lv_iconst (v := (-1)) hx hb dX6_count_10 (by decide) ?_
    refine lv_goto (tgt := 19) hx hb dX6_count_11 (by decide) ?_
    exact retIr C hS hm dX6_count_19
  · replace hm := ie c1 hm
    refine lv_iload_n hx hb dX6_count_4 rfl (lv_at hl 1 rfl) ?_
    refine lv_bipush (v := 11) hx hb dX6_count_5 (by decide) ?_
    refine lv_icmp_lt (tgt := 14) hx hb dX6_count_7 (by decide) (fun c7 => ?_) (fun c7 => ?_)
    · replace hm := it c7 hm
      refine lv_aload_n hx hb dX6_count_14 rfl (lv_at hl 0 rfl) ?_
      refine lv_iload_n hx hb dX6_count_15 rfl (lv_at hl 1 rfl) ?_
      obtain ⟨o16, e16, hm⟩ := ob hm
      refine after_i C hS (call_V (As := [.int a1]) C hS (c_X6_countOf l d q σ a1 o16 e16 _) iv_6_298 ⟨rfl, rfl, Nat.le_of_ble_eq_true rfl, Nat.le_of_ble_eq_true rfl⟩ cw_o0 rfl rfl rfl hl.1 (Nat.le_of_ble_eq_true rfl) dX6_count_16) (fun H locs hS => ?_)
      exact retIr C hS hm dX6_count_19
    · replace hm := ie c7 hm
      refine lv_iconst (v := (-1)) hx hb dX6_count_10 (by decide) ?_
      refine lv_goto (tgt := 19) hx hb dX6_count_11 (by decide) ?_
      exact retIr C hS hm dX6_count_19
def M_X6_finding (σ : ST) : Option Int32 := some (σ.1 7)
abbrev rm_X6_finding : Room := { frames := 0, cells := 0, slots := 0, locals := 0 }
set_option maxRecDepth 100000 in
set_option maxHeartbeats 4000000 in
theorem c_X6_finding (l : Launch) (d : CD) (q : Nat → Nat) (σ : ST) (out : Int32) (hm : M_X6_finding σ = some out) : MetI l yX6_finding cX6_finding 1 (some .int) rm_X6_finding d (cw q d σ) [.ref (q 0)] out (cw q d σ) := by
  refine mkI (own := RX6) (by decide +kernel) rfl (Nat.le_of_ble_eq_true rfl) ?_
  intro p e s m below meth c A ls C hS hl
  obtain ⟨hx, hb, hml, hown, hts, -⟩ := id C
  have hl : lv_has ls 1 [(0, .ref (q 0))] := hl
  unfold M_X6_finding at hm
  refine lv_aload_n hx hb dX6_finding_0 rfl (lv_at hl 0 rfl) ?_
  refine g_6_56_0 C hS dX6_finding_1 ?_
  exact retIr C hS hm dX6_finding_4
def M_X6_findings (σ : ST) (a1 : Int32) : Option Int32 := if a1 < 1 then some (-1) else if a1 ≤ 5 then (rd 6 (σ.2.2 42) a1).bind fun v19 => some v19 else some (-1)
abbrev rm_X6_findings : Room := { frames := 0, cells := 0, slots := 0, locals := 0 }
set_option maxRecDepth 100000 in
set_option maxHeartbeats 4000000 in
theorem c_X6_findings (l : Launch) (d : CD) (q : Nat → Nat) (σ : ST) (a1 : Int32) (out : Int32) (hm : M_X6_findings σ a1 = some out) : MetI l yX6_findings cX6_findings 2 (some .int) rm_X6_findings d (cw q d σ) [.ref (q 0), .int a1] out (cw q d σ) := by
  refine mkI (own := RX6) (by decide +kernel) rfl (Nat.le_of_ble_eq_true rfl) ?_
  intro p e s m below meth c A ls C hS hl
  obtain ⟨hx, hb, hml, hown, hts, -⟩ := id C
  have hl : lv_has ls 2 [(0, .ref (q 0)), (1, .int a1)] := hl
  unfold M_X6_findings at hm
  refine lv_iload_n hx hb dX6_findings_0 rfl (lv_at hl 1 rfl) ?_
  refine lv_iconst (v := 1) hx hb dX6_findings_1 (by decide) ?_
  refine lv_icmp_lt (tgt := 10) hx hb dX6_findings_2 (by decide) (fun c2 => ?_) (fun c2 => ?_)
  · replace hm := it c2 hm
    refine lv_iconst (v := (-1)) hx hb dX6_findings_10 (by decide) ?_
    refine lv_goto (tgt := 20) hx hb dX6_findings_11 (by decide) ?_
    exact retIr C hS hm dX6_findings_20
  · replace hm := ie c2 hm
    refine lv_iload_n hx hb dX6_findings_5 rfl (lv_at hl 1 rfl) ?_
    refine lv_iconst (v := 5) hx hb dX6_findings_6 (by decide) ?_
    refine lv_icmp_le (tgt := 14) hx hb dX6_findings_7 (by decide) (fun c7 => ?_) (fun c7 => ?_)
    · replace hm := it c7 hm
      refine lv_aload_n hx hb dX6_findings_14 rfl (lv_at hl 0 rfl) ?_
      refine g_6_52_0 C hS dX6_findings_15 ?_
      refine lv_iload_n hx hb dX6_findings_18 rfl (lv_at hl 1 rfl) ?_
      obtain ⟨v19, e19, hm⟩ := ob hm
      refine iald' C hS cw_a42 e19 dX6_findings_19 ?_
      exact retIr C hS hm dX6_findings_20
    · replace hm := ie c7 hm
      refine lv_iconst (v := (-1)) hx hb dX6_findings_10 (by decide) ?_
      refine lv_goto (tgt := 20) hx hb dX6_findings_11 (by decide) ?_
      exact retIr C hS hm dX6_findings_20
def M_X3_fold_r_33 (σ : ST) (k5 : Int64 → Int32 → Option Int64) : Nat → Int64 → Int32 → Int32 → Option Int64
  | 0, _, _, _ => none
  | n + 1, x3, x5, x6 => (rd 6 (σ.2.2 3) x5).bind fun v41 => if v41 ≤ x6 then k5 x3 (x5 + 1) else (M_X3_get_r σ x5 x6).bind fun o55 => M_X3_fold_r_33 σ k5 n ((31 * x3) + o55.toInt64) x5 (x6 + 1)
def M_X3_fold_r_5 (σ : ST) : Nat → Int64 → Int32 → Option Int64
  | 0, _, _ => none
  | n + 1, x3, x5 => if 6 ≤ x5 then some x3 else (rd 6 (σ.2.2 3) x5).bind fun v26 => M_X3_fold_r_33 σ (M_X3_fold_r_5 σ n) 10000 ((31 * x3) + v26.toInt64) x5 0
def M_X3_fold_r (σ : ST) (a1 : Int64) : Option Int64 := M_X3_fold_r_5 σ 10000 a1 0
abbrev rm_X3_fold_r : Room := { frames := 4, cells := 0, slots := 0, locals := 86 }
set_option maxRecDepth 100000 in
set_option maxHeartbeats 4000000 in
theorem c_X3_fold_r (l : Launch) (d : CD) (q : Nat → Nat) (σ : ST) (a1 : Int64) (out : Int64) (hm : M_X3_fold_r σ a1 = some out) : MetL l yX3_fold cX3_fold 7 (some .long) rm_X3_fold_r d (cw q d σ) [.ref (q 1), .long a1] out (cw q d σ) := by
  refine mkL (own := RX3) (by decide +kernel) rfl (Nat.le_of_ble_eq_true rfl) ?_
  intro p e s m below meth c A ls C hS hl
  obtain ⟨hx, hb, hml, hown, hts, -⟩ := id C
  have hl : lv_has ls 7 [(0, .ref (q 1)), (1, .long a1)] := hl
  have L33 : ∀ (k5 : Int64 → Int32 → Option Int64) (hk5 : ∀ (x3 : Int64) (x5 : Int32) (H : Heap) (locs : List Loc) (ls : Array Slot), HS d A s.heap H locs (cw q d σ) → lv_has ls 7 [(0, .ref (q 1)), (3, .long x3), (5, .int x5)] → k5 x3 x5 = some out → WL p l e rm_X3_fold_r s m [.ref (q 1), .long a1].toArray below meth c A d H locs out (cw q d σ) (F0 m 5 ls [])) (n : Nat) (x3 : Int64) (x5 : Int32) (x6 : Int32) (H : Heap) (locs : List Loc) (ls : Array Slot), HS d A s.heap H locs (cw q d σ) → lv_has ls 7 [(0, .ref (q 1)), (3, .long x3), (5, .int x5), (6, .int x6)] → M_X3_fold_r_33 σ k5 n x3 x5 x6 = some out → WL p l e rm_X3_fold_r s m [.ref (q 1), .long a1].toArray below meth c A d H locs out (cw q d σ) (F0 m 33 ls []) := by
    intro k5 hk5 n
    induction n with
    | zero =>
      intro x3 x5 x6 H locs ls hS hl hm
      exact absurd hm (by rw [M_X3_fold_r_33]; exact fun h => nomatch h)
    | succ n ih =>
      intro x3 x5 x6 H locs ls hS hl hm
      rw [M_X3_fold_r_33] at hm
      refine lv_iload hx hb dX3_fold_33 (lv_at hl 3 rfl) ?_
      refine lv_aload_n hx hb dX3_fold_35 rfl (lv_at hl 0 rfl) ?_
      refine g_3_20_1 C hS dX3_fold_36 ?_
      refine lv_iload hx hb dX3_fold_39 (lv_at hl 2 rfl) ?_
      obtain ⟨v41, e41, hm⟩ := ob hm
      refine iald' C hS cw_a3 e41 dX3_fold_41 ?_
      refine lv_icmp_ge (tgt := 67) hx hb dX3_fold_42 (by decide) (fun c42 => ?_) (fun c42 => ?_)
      · replace hm := it c42 hm
        refine lv_iinc (v := x5 + 1) (lv' := [(5, .int (x5 + 1)), (0, .ref (q 1)), (3, .long x3), (6, .int x6)]) hx hb dX3_fold_67 hl (k := 2) rfl rfl (by decide) rfl (fun ls hl => ?_)
        refine lv_goto (tgt := 5) hx hb dX3_fold_70 (by decide) ?_
        exact hk5 x3 (x5 + 1) _ _ _ hS (lv_sub hl [1, 2, 0] rfl) hm
      · replace hm := ie c42 hm
        refine lv_ldc2 (v := 31) hx hb hown (hts _ lc_X3_67) dX3_fold_45 ?_
        refine lv_lload_n hx hb dX3_fold_48 rfl (lv_at hl 1 rfl) ?_
        refine lv_lmul hx hb dX3_fold_49 ?_
        refine lv_aload_n hx hb dX3_fold_50 rfl (lv_at hl 0 rfl) ?_
        refine lv_iload hx hb dX3_fold_51 (lv_at hl 2 rfl) ?_
        refine lv_iload hx hb dX3_fold_53 (lv_at hl 3 rfl) ?_
        obtain ⟨o55, e55, hm⟩ := ob hm
        refine after_i C hS (call_V (As := [.int x5, .int x6]) C hS (c_X3_get_r l d q σ x5 x6 o55 e55 _) iv_3_64 ⟨rfl, rfl, Nat.le_of_ble_eq_true rfl, Nat.le_of_ble_eq_true rfl⟩ cw_o1 rfl rfl rfl hl.1 (Nat.le_of_ble_eq_true rfl) dX3_fold_55) (fun H locs hS => ?_)
        refine lv_i2l (v := o55.toInt64) hx hb dX3_fold_58 rfl ?_
        refine lv_ladd hx hb dX3_fold_59 ?_
        refine lv_lstore_n (lv' := [(3, .long ((31 * x3) + o55.toInt64)), (0, .ref (q 1)), (5, .int x5), (6, .int x6)]) hx hb dX3_fold_60 rfl hl (by decide) rfl (fun ls hl => ?_)
        refine lv_iinc (v := x6 + 1) (lv' := [(6, .int (x6 + 1)), (3, .long ((31 * x3) + o55.toInt64)), (0, .ref (q 1)), (5, .int x5)]) hx hb dX3_fold_61 hl (k := 3) rfl rfl (by decide) rfl (fun ls hl => ?_)
        refine lv_goto (tgt := 33) hx hb dX3_fold_64 (by decide) ?_
        exact ih ((31 * x3) + o55.toInt64) x5 (x6 + 1) _ _ _ hS (lv_sub hl [2, 1, 3, 0] rfl) hm
  have L5 : ∀ (n : Nat) (x3 : Int64) (x5 : Int32) (H : Heap) (locs : List Loc) (ls : Array Slot), HS d A s.heap H locs (cw q d σ) → lv_has ls 7 [(0, .ref (q 1)), (3, .long x3), (5, .int x5)] → M_X3_fold_r_5 σ n x3 x5 = some out → WL p l e rm_X3_fold_r s m [.ref (q 1), .long a1].toArray below meth c A d H locs out (cw q d σ) (F0 m 5 ls []) := by
    intro n
    induction n with
    | zero =>
      intro x3 x5 H locs ls hS hl hm
      exact absurd hm (by rw [M_X3_fold_r_5]; exact fun h => nomatch h)
    | succ n ih =>
      intro x3 x5 H locs ls hS hl hm
      rw [M_X3_fold_r_5] at hm
      refine lv_iload hx hb dX3_fold_5 (lv_at hl 2 rfl) ?_
      refine lv_aload_n hx hb dX3_fold_7 rfl (lv_at hl 0 rfl) ?_
      refine g_3_20_1 C hS dX3_fold_8 ?_
      refine alen' (v := 6) C hS cw_a3 rfl dX3_fold_11 ?_
      refine lv_icmp_ge (tgt := 73) hx hb dX3_fold_12 (by decide) (fun c12 => ?_) (fun c12 => ?_)
      · replace hm := it c12 hm
        refine lv_lload_n hx hb dX3_fold_73 rfl (lv_at hl 1 rfl) ?_
        exact retLr C hS hm dX3_fold_74
      · replace hm := ie c12 hm
        refine lv_ldc2 (v := 31) hx hb hown (hts _ lc_X3_67) dX3_fold_15 ?_
        refine lv_lload_n hx hb dX3_fold_18 rfl (lv_at hl 1 rfl) ?_
        refine lv_lmul hx hb dX3_fold_19 ?_
        refine lv_aload_n hx hb dX3_fold_20 rfl (lv_at hl 0 rfl) ?_
        refine g_3_20_1 C hS dX3_fold_21 ?_
        refine lv_iload hx hb dX3_fold_24 (lv_at hl 2 rfl) ?_
        obtain ⟨v26, e26, hm⟩ := ob hm
        refine iald' C hS cw_a3 e26 dX3_fold_26 ?_
        refine lv_i2l (v := v26.toInt64) hx hb dX3_fold_27 rfl ?_
        refine lv_ladd hx hb dX3_fold_28 ?_
        refine lv_lstore_n (lv' := [(3, .long ((31 * x3) + v26.toInt64)), (0, .ref (q 1)), (5, .int x5)]) hx hb dX3_fold_29 rfl hl (by decide) rfl (fun ls hl => ?_)
        refine lv_iconst (v := 0) hx hb dX3_fold_30 (by decide) ?_
        refine lv_istore (lv' := [(6, .int 0), (3, .long ((31 * x3) + v26.toInt64)), (0, .ref (q 1)), (5, .int x5)]) hx hb dX3_fold_31 hl (by decide) rfl (fun ls hl => ?_)
        exact L33 (M_X3_fold_r_5 σ n) ih 10000 ((31 * x3) + v26.toInt64) x5 0 _ _ _ hS (lv_sub hl [2, 1, 3, 0] rfl) hm
  unfold M_X3_fold_r at hm
  refine lv_lload_n hx hb dX3_fold_0 rfl (lv_at hl 1 rfl) ?_
  refine lv_lstore_n (lv' := [(3, .long a1), (0, .ref (q 1)), (1, .long a1)]) hx hb dX3_fold_1 rfl hl (by decide) rfl (fun ls hl => ?_)
  refine lv_iconst (v := 0) hx hb dX3_fold_2 (by decide) ?_
  refine lv_istore (lv' := [(5, .int 0), (3, .long a1), (0, .ref (q 1)), (1, .long a1)]) hx hb dX3_fold_3 hl (by decide) rfl (fun ls hl => ?_)
  exact L5 10000 a1 0 _ _ _ hS (lv_sub hl [2, 1, 0] rfl) hm
def M_X3_fold_t_33 (σ : ST) (k5 : Int64 → Int32 → Option Int64) : Nat → Int64 → Int32 → Int32 → Option Int64
  | 0, _, _, _ => none
  | n + 1, x3, x5, x6 => (rd 4 (σ.2.2 12) x5).bind fun v41 => if v41 ≤ x6 then k5 x3 (x5 + 1) else (M_X3_get_t σ x5 x6).bind fun o55 => M_X3_fold_t_33 σ k5 n ((31 * x3) + o55.toInt64) x5 (x6 + 1)
def M_X3_fold_t_5 (σ : ST) : Nat → Int64 → Int32 → Option Int64
  | 0, _, _ => none
  | n + 1, x3, x5 => if 4 ≤ x5 then some x3 else (rd 4 (σ.2.2 12) x5).bind fun v26 => M_X3_fold_t_33 σ (M_X3_fold_t_5 σ n) 10000 ((31 * x3) + v26.toInt64) x5 0
def M_X3_fold_t (σ : ST) (a1 : Int64) : Option Int64 := M_X3_fold_t_5 σ 10000 a1 0
abbrev rm_X3_fold_t : Room := { frames := 4, cells := 0, slots := 0, locals := 86 }
set_option maxRecDepth 100000 in
set_option maxHeartbeats 4000000 in
theorem c_X3_fold_t (l : Launch) (d : CD) (q : Nat → Nat) (σ : ST) (a1 : Int64) (out : Int64) (hm : M_X3_fold_t σ a1 = some out) : MetL l yX3_fold cX3_fold 7 (some .long) rm_X3_fold_t d (cw q d σ) [.ref (q 10), .long a1] out (cw q d σ) := by
  refine mkL (own := RX3) (by decide +kernel) rfl (Nat.le_of_ble_eq_true rfl) ?_
  intro p e s m below meth c A ls C hS hl
  obtain ⟨hx, hb, hml, hown, hts, -⟩ := id C
  have hl : lv_has ls 7 [(0, .ref (q 10)), (1, .long a1)] := hl
  have L33 : ∀ (k5 : Int64 → Int32 → Option Int64) (hk5 : ∀ (x3 : Int64) (x5 : Int32) (H : Heap) (locs : List Loc) (ls : Array Slot), HS d A s.heap H locs (cw q d σ) → lv_has ls 7 [(0, .ref (q 10)), (3, .long x3), (5, .int x5)] → k5 x3 x5 = some out → WL p l e rm_X3_fold_t s m [.ref (q 10), .long a1].toArray below meth c A d H locs out (cw q d σ) (F0 m 5 ls [])) (n : Nat) (x3 : Int64) (x5 : Int32) (x6 : Int32) (H : Heap) (locs : List Loc) (ls : Array Slot), HS d A s.heap H locs (cw q d σ) → lv_has ls 7 [(0, .ref (q 10)), (3, .long x3), (5, .int x5), (6, .int x6)] → M_X3_fold_t_33 σ k5 n x3 x5 x6 = some out → WL p l e rm_X3_fold_t s m [.ref (q 10), .long a1].toArray below meth c A d H locs out (cw q d σ) (F0 m 33 ls []) := by
    intro k5 hk5 n
    induction n with
    | zero =>
      intro x3 x5 x6 H locs ls hS hl hm
      exact absurd hm (by rw [M_X3_fold_t_33]; exact fun h => nomatch h)
    | succ n ih =>
      intro x3 x5 x6 H locs ls hS hl hm
      rw [M_X3_fold_t_33] at hm
      refine lv_iload hx hb dX3_fold_33 (lv_at hl 3 rfl) ?_
      refine lv_aload_n hx hb dX3_fold_35 rfl (lv_at hl 0 rfl) ?_
      refine g_3_20_10 C hS dX3_fold_36 ?_
      refine lv_iload hx hb dX3_fold_39 (lv_at hl 2 rfl) ?_
      obtain ⟨v41, e41, hm⟩ := ob hm
      refine iald' C hS cw_a12 e41 dX3_fold_41 ?_
      refine lv_icmp_ge (tgt := 67) hx hb dX3_fold_42 (by decide) (fun c42 => ?_) (fun c42 => ?_)
      · replace hm := it c42 hm
        refine lv_iinc (v := x5 + 1) (lv' := [(5, .int (x5 + 1)), (0, .ref (q 10)), (3, .long x3), (6, .int x6)]) hx hb dX3_fold_67 hl (k := 2) rfl rfl (by decide) rfl (fun ls hl => ?_)
        refine lv_goto (tgt := 5) hx hb dX3_fold_70 (by decide) ?_
        exact hk5 x3 (x5 + 1) _ _ _ hS (lv_sub hl [1, 2, 0] rfl) hm
      · replace hm := ie c42 hm
        refine lv_ldc2 (v := 31) hx hb hown (hts _ lc_X3_67) dX3_fold_45 ?_
        refine lv_lload_n hx hb dX3_fold_48 rfl (lv_at hl 1 rfl) ?_
        refine lv_lmul hx hb dX3_fold_49 ?_
        refine lv_aload_n hx hb dX3_fold_50 rfl (lv_at hl 0 rfl) ?_
        refine lv_iload hx hb dX3_fold_51 (lv_at hl 2 rfl) ?_
        refine lv_iload hx hb dX3_fold_53 (lv_at hl 3 rfl) ?_
        obtain ⟨o55, e55, hm⟩ := ob hm
        refine after_i C hS (call_V (As := [.int x5, .int x6]) C hS (c_X3_get_t l d q σ x5 x6 o55 e55 _) iv_3_64 ⟨rfl, rfl, Nat.le_of_ble_eq_true rfl, Nat.le_of_ble_eq_true rfl⟩ cw_o10 rfl rfl rfl hl.1 (Nat.le_of_ble_eq_true rfl) dX3_fold_55) (fun H locs hS => ?_)
        refine lv_i2l (v := o55.toInt64) hx hb dX3_fold_58 rfl ?_
        refine lv_ladd hx hb dX3_fold_59 ?_
        refine lv_lstore_n (lv' := [(3, .long ((31 * x3) + o55.toInt64)), (0, .ref (q 10)), (5, .int x5), (6, .int x6)]) hx hb dX3_fold_60 rfl hl (by decide) rfl (fun ls hl => ?_)
        refine lv_iinc (v := x6 + 1) (lv' := [(6, .int (x6 + 1)), (3, .long ((31 * x3) + o55.toInt64)), (0, .ref (q 10)), (5, .int x5)]) hx hb dX3_fold_61 hl (k := 3) rfl rfl (by decide) rfl (fun ls hl => ?_)
        refine lv_goto (tgt := 33) hx hb dX3_fold_64 (by decide) ?_
        exact ih ((31 * x3) + o55.toInt64) x5 (x6 + 1) _ _ _ hS (lv_sub hl [2, 1, 3, 0] rfl) hm
  have L5 : ∀ (n : Nat) (x3 : Int64) (x5 : Int32) (H : Heap) (locs : List Loc) (ls : Array Slot), HS d A s.heap H locs (cw q d σ) → lv_has ls 7 [(0, .ref (q 10)), (3, .long x3), (5, .int x5)] → M_X3_fold_t_5 σ n x3 x5 = some out → WL p l e rm_X3_fold_t s m [.ref (q 10), .long a1].toArray below meth c A d H locs out (cw q d σ) (F0 m 5 ls []) := by
    intro n
    induction n with
    | zero =>
      intro x3 x5 H locs ls hS hl hm
      exact absurd hm (by rw [M_X3_fold_t_5]; exact fun h => nomatch h)
    | succ n ih =>
      intro x3 x5 H locs ls hS hl hm
      rw [M_X3_fold_t_5] at hm
      refine lv_iload hx hb dX3_fold_5 (lv_at hl 2 rfl) ?_
      refine lv_aload_n hx hb dX3_fold_7 rfl (lv_at hl 0 rfl) ?_
      refine g_3_20_10 C hS dX3_fold_8 ?_
      refine alen' (v := 4) C hS cw_a12 rfl dX3_fold_11 ?_
      refine lv_icmp_ge (tgt := 73) hx hb dX3_fold_12 (by decide) (fun c12 => ?_) (fun c12 => ?_)
      · replace hm := it c12 hm
        refine lv_lload_n hx hb dX3_fold_73 rfl (lv_at hl 1 rfl) ?_
        exact retLr C hS hm dX3_fold_74
      · replace hm := ie c12 hm
        refine lv_ldc2 (v := 31) hx hb hown (hts _ lc_X3_67) dX3_fold_15 ?_
        refine lv_lload_n hx hb dX3_fold_18 rfl (lv_at hl 1 rfl) ?_
        refine lv_lmul hx hb dX3_fold_19 ?_
        refine lv_aload_n hx hb dX3_fold_20 rfl (lv_at hl 0 rfl) ?_
        refine g_3_20_10 C hS dX3_fold_21 ?_
        refine lv_iload hx hb dX3_fold_24 (lv_at hl 2 rfl) ?_
        obtain ⟨v26, e26, hm⟩ := ob hm
        refine iald' C hS cw_a12 e26 dX3_fold_26 ?_
        refine lv_i2l (v := v26.toInt64) hx hb dX3_fold_27 rfl ?_
        refine lv_ladd hx hb dX3_fold_28 ?_
        refine lv_lstore_n (lv' := [(3, .long ((31 * x3) + v26.toInt64)), (0, .ref (q 10)), (5, .int x5)]) hx hb dX3_fold_29 rfl hl (by decide) rfl (fun ls hl => ?_)
        refine lv_iconst (v := 0) hx hb dX3_fold_30 (by decide) ?_
        refine lv_istore (lv' := [(6, .int 0), (3, .long ((31 * x3) + v26.toInt64)), (0, .ref (q 10)), (5, .int x5)]) hx hb dX3_fold_31 hl (by decide) rfl (fun ls hl => ?_)
        exact L33 (M_X3_fold_t_5 σ n) ih 10000 ((31 * x3) + v26.toInt64) x5 0 _ _ _ hS (lv_sub hl [2, 1, 3, 0] rfl) hm
  unfold M_X3_fold_t at hm
  refine lv_lload_n hx hb dX3_fold_0 rfl (lv_at hl 1 rfl) ?_
  refine lv_lstore_n (lv' := [(3, .long a1), (0, .ref (q 10)), (1, .long a1)]) hx hb dX3_fold_1 rfl hl (by decide) rfl (fun ls hl => ?_)
  refine lv_iconst (v := 0) hx hb dX3_fold_2 (by decide) ?_
  refine lv_istore (lv' := [(5, .int 0), (3, .long a1), (0, .ref (q 10)), (1, .long a1)]) hx hb dX3_fold_3 hl (by decide) rfl (fun ls hl => ?_)
  exact L5 10000 a1 0 _ _ _ hS (lv_sub hl [2, 1, 0] rfl) hm
