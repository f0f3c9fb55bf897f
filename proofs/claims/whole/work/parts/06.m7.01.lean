def M_X7_copy_120 (k96 : ST → Int32 → Int32 → Int32 → Int32 → Int32 → Int32 → Int32 → Option (Int32 × ST)) (σ : ST) (x1 : Int32) (x2 : Int32) (x3 : Int32) (x4 : Int32) (x5 : Int32) (x6 : Int32) (x7 : Int32) (y0 : Int32) : Option (Int32 × ST) := (rd 240 (σ.2.2 6) (((40 * x1) + x2) + y0)).bind fun v149 => (wrA 240 σ 6 (((40 * x3) + x4) + y0) v149).bind fun σ150 => k96 σ150 x1 x2 x3 x4 x5 x6 (x7 + 1)
def M_X7_copy_96 : Nat → ST → Int32 → Int32 → Int32 → Int32 → Int32 → Int32 → Int32 → Option (Int32 × ST)
  | 0, _, _, _, _, _, _, _, _ => none
  | n + 1, σ, x1, x2, x3, x4, x5, x6, x7 => if x5 ≤ x7 then some (1, σ) else if x6 = 0 then M_X7_copy_120 (M_X7_copy_96 n) σ x1 x2 x3 x4 x5 x6 x7 x7 else M_X7_copy_120 (M_X7_copy_96 n) σ x1 x2 x3 x4 x5 x6 x7 ((x5 - 1) - x7)
def M_X7_copy_74 (σ : ST) : Option (Int32 × ST) := (M_X7_find σ 2).bind fun o76 => some (o76.1, o76.2)
def M_X7_copy_45 (σ : ST) : Option (Int32 × ST) := (M_X7_find σ 1).bind fun o47 => some (o47.1, o47.2)
def M_X7_copy (σ : ST) (a1 : Int32) (a2 : Int32) (a3 : Int32) (a4 : Int32) (a5 : Int32) : Option (Int32 × ST) := (M_X7_isRow a1).bind fun o1 => if o1 = 0 then some ((-1), σ) else (M_X7_isRow a3).bind fun o8 => if o8 = 0 then some ((-1), σ) else if 0 ≤ a5 then (rd 6 (σ.2.2 5) a1).bind fun v32 => if v32 < 0 then M_X7_copy_45 σ else (rd 6 (σ.2.2 5) a3).bind fun v41 => if 0 ≤ v41 then (M_X7_isSpan σ a1 a2 a5).bind fun o56 => if o56 = 0 then M_X7_copy_74 σ else (M_X7_isSpan σ a3 a4 a5).bind fun o68 => if o68 = 0 then M_X7_copy_74 σ else if a4 ≤ a2 then M_X7_copy_96 10000 σ a1 a2 a3 a4 a5 0 0 else M_X7_copy_96 10000 σ a1 a2 a3 a4 a5 1 0 else M_X7_copy_45 σ else (M_X7_find σ 5).bind fun o23 => some (o23.1, o23.2)
abbrev rm_X7_copy : Room := { frames := 2, cells := 0, slots := 0, locals := 45 }
set_option maxRecDepth 100000 in
set_option maxHeartbeats 4000000 in
theorem c_X7_copy (l : Launch) (d : CD) (q : Nat → Nat) (σ : ST) (a1 : Int32) (a2 : Int32) (a3 : Int32) (a4 : Int32) (a5 : Int32) (out : Int32 × ST) (hm : M_X7_copy σ a1 a2 a3 a4 a5 = some out) : MetI l yX7_copy cX7_copy 9 (some .int) rm_X7_copy d (mw q d σ) [.ref (q 0), .int a1, .int a2, .int a3, .int a4, .int a5] out.1 (mw q d out.2) := by
  refine mkI (own := RX7) (by decide +kernel) rfl (Nat.le_of_ble_eq_true rfl) ?_
  intro p e s m below meth c A ls C hS hl
  obtain ⟨hx, hb, hml, hown, hts, -⟩ := id C
  have hl : lv_has ls 9 [(0, .ref (q 0)), (1, .int a1), (2, .int a2), (3, .int a3), (4, .int a4), (5, .int a5)] := hl
  have J120 : ∀ (k96 : ST → Int32 → Int32 → Int32 → Int32 → Int32 → Int32 → Int32 → Option (Int32 × ST)) (hk96 : ∀ (σ : ST) (x1 : Int32) (x2 : Int32) (x3 : Int32) (x4 : Int32) (x5 : Int32) (x6 : Int32) (x7 : Int32) (H : Heap) (locs : List Loc) (ls : Array Slot), HS d A s.heap H locs (mw q d σ) → lv_has ls 9 [(0, .ref (q 0)), (1, .int x1), (2, .int x2), (3, .int x3), (4, .int x4), (5, .int x5), (6, .int x6), (7, .int x7)] → k96 σ x1 x2 x3 x4 x5 x6 x7 = some out → WI p l e rm_X7_copy s m [.ref (q 0), .int a1, .int a2, .int a3, .int a4, .int a5].toArray below meth c A d H locs out.1 (mw q d out.2) (F0 m 96 ls [])) (σ : ST) (x1 : Int32) (x2 : Int32) (x3 : Int32) (x4 : Int32) (x5 : Int32) (x6 : Int32) (x7 : Int32) (y0 : Int32) (H : Heap) (locs : List Loc) (ls : Array Slot), HS d A s.heap H locs (mw q d σ) → lv_has ls 9 [(0, .ref (q 0)), (1, .int x1), (2, .int x2), (3, .int x3), (4, .int x4), (5, .int x5), (6, .int x6), (7, .int x7)] → M_X7_copy_120 k96 σ x1 x2 x3 x4 x5 x6 x7 y0 = some out → WI p l e rm_X7_copy s m [.ref (q 0), .int a1, .int a2, .int a3, .int a4, .int a5].toArray below meth c A d H locs out.1 (mw q d out.2) (F0 m 120 ls [.int y0]) := by
    intro k96 hk96 σ x1 x2 x3 x4 x5 x6 x7 y0 H locs ls hS hl hm
    unfold M_X7_copy_120 at hm
    refine lv_istore (lv' := [(8, .int y0), (0, .ref (q 0)), (1, .int x1), (2, .int x2), (3, .int x3), (4, .int x4), (5, .int x5), (6, .int x6), (7, .int x7)]) hx hb dX7_copy_120 hl (by decide) rfl (fun ls hl => ?_)
    refine lv_aload_n hx hb dX7_copy_122 rfl (lv_at hl 1 rfl) ?_
    refine g_7_25_0 C hS dX7_copy_123 ?_
    refine lv_bipush (v := 40) hx hb dX7_copy_126 (by decide) ?_
    refine lv_iload_n hx hb dX7_copy_128 rfl (lv_at hl 4 rfl) ?_
    refine lv_imul hx hb dX7_copy_129 ?_
    refine lv_iload hx hb dX7_copy_130 (lv_at hl 5 rfl) ?_
    refine lv_iadd hx hb dX7_copy_132 ?_
    refine lv_iload hx hb dX7_copy_133 (lv_at hl 0 rfl) ?_
    refine lv_iadd hx hb dX7_copy_135 ?_
    refine lv_aload_n hx hb dX7_copy_136 rfl (lv_at hl 1 rfl) ?_
    refine g_7_25_0 C hS dX7_copy_137 ?_
    refine lv_bipush (v := 40) hx hb dX7_copy_140 (by decide) ?_
    refine lv_iload_n hx hb dX7_copy_142 rfl (lv_at hl 2 rfl) ?_
    refine lv_imul hx hb dX7_copy_143 ?_
    refine lv_iload_n hx hb dX7_copy_144 rfl (lv_at hl 3 rfl) ?_
    refine lv_iadd hx hb dX7_copy_145 ?_
    refine lv_iload hx hb dX7_copy_146 (lv_at hl 0 rfl) ?_
    refine lv_iadd hx hb dX7_copy_148 ?_
    obtain ⟨v149, e149, hm⟩ := ob hm
    refine iald' C hS mw_a6 e149 dX7_copy_149 ?_
    obtain ⟨σ150, e150, hm⟩ := ob hm
    refine iast' (wf := mw q d) C hS mw_a6 mw_s6 e150 dX7_copy_150 (fun H locs hS => ?_)
    refine lv_iinc (v := x7 + 1) (lv' := [(7, .int (x7 + 1)), (8, .int y0), (0, .ref (q 0)), (1, .int x1), (2, .int x2), (3, .int x3), (4, .int x4), (5, .int x5), (6, .int x6)]) hx hb dX7_copy_151 hl (k := 8) rfl rfl (by decide) rfl (fun ls hl => ?_)
    refine lv_goto (tgt := 96) hx hb dX7_copy_154 (by decide) ?_
    exact hk96 σ150 x1 x2 x3 x4 x5 x6 (x7 + 1) _ _ _ hS (lv_sub hl [2, 3, 4, 5, 6, 7, 8, 0] rfl) hm
  have L96 : ∀ (n : Nat) (σ : ST) (x1 : Int32) (x2 : Int32) (x3 : Int32) (x4 : Int32) (x5 : Int32) (x6 : Int32) (x7 : Int32) (H : Heap) (locs : List Loc) (ls : Array Slot), HS d A s.heap H locs (mw q d σ) → lv_has ls 9 [(0, .ref (q 0)), (1, .int x1), (2, .int x2), (3, .int x3), (4, .int x4), (5, .int x5), (6, .int x6), (7, .int x7)] → M_X7_copy_96 n σ x1 x2 x3 x4 x5 x6 x7 = some out → WI p l e rm_X7_copy s m [.ref (q 0), .int a1, .int a2, .int a3, .int a4, .int a5].toArray below meth c A d H locs out.1 (mw q d out.2) (F0 m 96 ls []) := by
    intro n
    induction n with
    | zero =>
      intro σ x1 x2 x3 x4 x5 x6 x7 H locs ls hS hl hm
      exact absurd hm (by rw [M_X7_copy_96]; exact fun h => nomatch h)
    | succ n ih =>
      intro σ x1 x2 x3 x4 x5 x6 x7 H locs ls hS hl hm
      rw [M_X7_copy_96] at hm
      refine lv_iload hx hb dX7_copy_96 (lv_at hl 7 rfl) ?_
      refine lv_iload hx hb dX7_copy_98 (lv_at hl 5 rfl) ?_
      refine lv_icmp_ge (tgt := 157) hx hb dX7_copy_100 (by decide) (fun c100 => ?_) (fun c100 => ?_)
      · replace hm := it c100 hm
        refine lv_iconst (v := 1) hx hb dX7_copy_157 (by decide) ?_
        exact retIw (wf := mw q d) C hS hm dX7_copy_158
      · replace hm := ie c100 hm
        refine lv_iload hx hb dX7_copy_103 (lv_at hl 6 rfl) ?_
        refine lv_if_eq (tgt := 118) hx hb dX7_copy_105 (by decide) (fun c105 => ?_) (fun c105 => ?_)
        · replace hm := it c105 hm
          refine lv_iload hx hb dX7_copy_118 (lv_at hl 7 rfl) ?_
          exact J120 (M_X7_copy_96 n) ih σ x1 x2 x3 x4 x5 x6 x7 x7 _ _ _ hS (lv_sub hl [0, 1, 2, 3, 4, 5, 6, 7] rfl) hm
        · replace hm := ie c105 hm
          refine lv_iload hx hb dX7_copy_108 (lv_at hl 5 rfl) ?_
          refine lv_iconst (v := 1) hx hb dX7_copy_110 (by decide) ?_
          refine lv_isub hx hb dX7_copy_111 ?_
          refine lv_iload hx hb dX7_copy_112 (lv_at hl 7 rfl) ?_
          refine lv_isub hx hb dX7_copy_114 ?_
          refine lv_goto (tgt := 120) hx hb dX7_copy_115 (by decide) ?_
          exact J120 (M_X7_copy_96 n) ih σ x1 x2 x3 x4 x5 x6 x7 ((x5 - 1) - x7) _ _ _ hS (lv_sub hl [0, 1, 2, 3, 4, 5, 6, 7] rfl) hm
  have J74 : ∀ (σ : ST) (H : Heap) (locs : List Loc) (ls : Array Slot), HS d A s.heap H locs (mw q d σ) → lv_has ls 9 [(0, .ref (q 0))] → M_X7_copy_74 σ = some out → WI p l e rm_X7_copy s m [.ref (q 0), .int a1, .int a2, .int a3, .int a4, .int a5].toArray below meth c A d H locs out.1 (mw q d out.2) (F0 m 74 ls []) := by
    intro σ H locs ls hS hl hm
    unfold M_X7_copy_74 at hm
    refine lv_aload_n hx hb dX7_copy_74 rfl (lv_at hl 0 rfl) ?_
    refine lv_iconst (v := 2) hx hb dX7_copy_75 (by decide) ?_
    obtain ⟨o76, e76, hm⟩ := ob hm
    refine after_i C hS (call_V (As := [.int 2]) C hS (c_X7_find l d q σ 2 o76 e76 _) iv_7_76 ⟨rfl, rfl, Nat.le_of_ble_eq_true rfl, Nat.le_of_ble_eq_true rfl⟩ mw_o0 rfl rfl rfl hl.1 (Nat.le_of_ble_eq_true rfl) dX7_copy_76) (fun H locs hS => ?_)
    exact retIw (wf := mw q d) C hS hm dX7_copy_79
  have J45 : ∀ (σ : ST) (H : Heap) (locs : List Loc) (ls : Array Slot), HS d A s.heap H locs (mw q d σ) → lv_has ls 9 [(0, .ref (q 0))] → M_X7_copy_45 σ = some out → WI p l e rm_X7_copy s m [.ref (q 0), .int a1, .int a2, .int a3, .int a4, .int a5].toArray below meth c A d H locs out.1 (mw q d out.2) (F0 m 45 ls []) := by
    intro σ H locs ls hS hl hm
    unfold M_X7_copy_45 at hm
    refine lv_aload_n hx hb dX7_copy_45 rfl (lv_at hl 0 rfl) ?_
    refine lv_iconst (v := 1) hx hb dX7_copy_46 (by decide) ?_
    obtain ⟨o47, e47, hm⟩ := ob hm
    refine after_i C hS (call_V (As := [.int 1]) C hS (c_X7_find l d q σ 1 o47 e47 _) iv_7_76 ⟨rfl, rfl, Nat.le_of_ble_eq_true rfl, Nat.le_of_ble_eq_true rfl⟩ mw_o0 rfl rfl rfl hl.1 (Nat.le_of_ble_eq_true rfl) dX7_copy_47) (fun H locs hS => ?_)
    exact retIw (wf := mw q d) C hS hm dX7_copy_50
  unfold M_X7_copy at hm
  refine lv_iload_n hx hb dX7_copy_0 rfl (lv_at hl 1 rfl) ?_
  obtain ⟨o1, e1, hm⟩ := ob hm
  refine after_i C hS (call_S (As := [.int a1]) C hS (c_X7_isRow l d (mw q d σ) a1 o1 e1 _) is_7_72 ⟨rfl, rfl, Nat.le_of_ble_eq_true rfl, Nat.le_of_ble_eq_true rfl⟩ rfl hl.1 (Nat.le_of_ble_eq_true rfl) dX7_copy_1) (fun H locs hS => ?_)
  refine lv_if_eq (tgt := 14) hx hb dX7_copy_4 (by decide) (fun c4 => ?_) (fun c4 => ?_)
  · replace hm := it c4 hm
    refine lv_iconst (v := (-1)) hx hb dX7_copy_14 (by decide) ?_
    exact retIw (wf := mw q d) C hS hm dX7_copy_15
  · replace hm := ie c4 hm
    refine lv_iload_n hx hb dX7_copy_7 rfl (lv_at hl 3 rfl) ?_
    obtain ⟨o8, e8, hm⟩ := ob hm
    refine after_i C hS (call_S (As := [.int a3]) C hS (c_X7_isRow l d (mw q d σ) a3 o8 e8 _) is_7_72 ⟨rfl, rfl, Nat.le_of_ble_eq_true rfl, Nat.le_of_ble_eq_true rfl⟩ rfl hl.1 (Nat.le_of_ble_eq_true rfl) dX7_copy_8) (fun H locs hS => ?_)
    refine lv_if_ne (tgt := 16) hx hb dX7_copy_11 (by decide) (fun c11 => ?_) (fun c11 => ?_)
    · replace hm := ie c11 hm
      refine lv_iload hx hb dX7_copy_16 (lv_at hl 5 rfl) ?_
      refine lv_if_ge (tgt := 27) hx hb dX7_copy_18 (by decide) (fun c18 => ?_) (fun c18 => ?_)
      · replace hm := it c18 hm
        refine lv_aload_n hx hb dX7_copy_27 rfl (lv_at hl 0 rfl) ?_
        refine g_7_22_0 C hS dX7_copy_28 ?_
        refine lv_iload_n hx hb dX7_copy_31 rfl (lv_at hl 1 rfl) ?_
        obtain ⟨v32, e32, hm⟩ := ob hm
        refine iald' C hS mw_a5 e32 dX7_copy_32 ?_
        refine lv_if_lt (tgt := 45) hx hb dX7_copy_33 (by decide) (fun c33 => ?_) (fun c33 => ?_)
        · replace hm := it c33 hm
          exact J45 σ _ _ _ hS (lv_sub hl [0] rfl) hm
        · replace hm := ie c33 hm
          refine lv_aload_n hx hb dX7_copy_36 rfl (lv_at hl 0 rfl) ?_
          refine g_7_22_0 C hS dX7_copy_37 ?_
          refine lv_iload_n hx hb dX7_copy_40 rfl (lv_at hl 3 rfl) ?_
          obtain ⟨v41, e41, hm⟩ := ob hm
          refine iald' C hS mw_a5 e41 dX7_copy_41 ?_
          refine lv_if_ge (tgt := 51) hx hb dX7_copy_42 (by decide) (fun c42 => ?_) (fun c42 => ?_)
          · replace hm := it c42 hm
            refine lv_aload_n hx hb dX7_copy_51 rfl (lv_at hl 0 rfl) ?_
            refine lv_iload_n hx hb dX7_copy_52 rfl (lv_at hl 1 rfl) ?_
            refine lv_iload_n hx hb dX7_copy_53 rfl (lv_at hl 2 rfl) ?_
            refine lv_iload hx hb dX7_copy_54 (lv_at hl 5 rfl) ?_
            obtain ⟨o56, e56, hm⟩ := ob hm
            refine after_i C hS (call_V (As := [.int a1, .int a2, .int a5]) C hS (c_X7_isSpan l d q σ a1 a2 a5 o56 e56 _) iv_7_91 ⟨rfl, rfl, Nat.le_of_ble_eq_true rfl, Nat.le_of_ble_eq_true rfl⟩ mw_o0 rfl rfl rfl hl.1 (Nat.le_of_ble_eq_true rfl) dX7_copy_56) (fun H locs hS => ?_)
            refine lv_if_eq (tgt := 74) hx hb dX7_copy_59 (by decide) (fun c59 => ?_) (fun c59 => ?_)
            · replace hm := it c59 hm
              exact J74 σ _ _ _ hS (lv_sub hl [0] rfl) hm
            · replace hm := ie c59 hm
              refine lv_aload_n hx hb dX7_copy_62 rfl (lv_at hl 0 rfl) ?_
              refine lv_iload_n hx hb dX7_copy_63 rfl (lv_at hl 3 rfl) ?_
              refine lv_iload hx hb dX7_copy_64 (lv_at hl 4 rfl) ?_
              refine lv_iload hx hb dX7_copy_66 (lv_at hl 5 rfl) ?_
              obtain ⟨o68, e68, hm⟩ := ob hm
              refine after_i C hS (call_V (As := [.int a3, .int a4, .int a5]) C hS (c_X7_isSpan l d q σ a3 a4 a5 o68 e68 _) iv_7_91 ⟨rfl, rfl, Nat.le_of_ble_eq_true rfl, Nat.le_of_ble_eq_true rfl⟩ mw_o0 rfl rfl rfl hl.1 (Nat.le_of_ble_eq_true rfl) dX7_copy_68) (fun H locs hS => ?_)
              refine lv_if_ne (tgt := 80) hx hb dX7_copy_71 (by decide) (fun c71 => ?_) (fun c71 => ?_)
              · replace hm := ie c71 hm
                refine lv_iload_n hx hb dX7_copy_80 rfl (lv_at hl 2 rfl) ?_
                refine lv_iload hx hb dX7_copy_81 (lv_at hl 4 rfl) ?_
                refine lv_icmp_ge (tgt := 90) hx hb dX7_copy_83 (by decide) (fun c83 => ?_) (fun c83 => ?_)
                · replace hm := it c83 hm
                  refine lv_iconst (v := 0) hx hb dX7_copy_90 (by decide) ?_
                  refine lv_istore (lv' := [(6, .int 0), (0, .ref (q 0)), (1, .int a1), (2, .int a2), (3, .int a3), (4, .int a4), (5, .int a5)]) hx hb dX7_copy_91 hl (by decide) rfl (fun ls hl => ?_)
                  refine lv_iconst (v := 0) hx hb dX7_copy_93 (by decide) ?_
                  refine lv_istore (lv' := [(7, .int 0), (6, .int 0), (0, .ref (q 0)), (1, .int a1), (2, .int a2), (3, .int a3), (4, .int a4), (5, .int a5)]) hx hb dX7_copy_94 hl (by decide) rfl (fun ls hl => ?_)
                  exact L96 10000 σ a1 a2 a3 a4 a5 0 0 _ _ _ hS (lv_sub hl [2, 3, 4, 5, 6, 7, 1, 0] rfl) hm
                · replace hm := ie c83 hm
                  refine lv_iconst (v := 1) hx hb dX7_copy_86 (by decide) ?_
                  refine lv_goto (tgt := 91) hx hb dX7_copy_87 (by decide) ?_
                  refine lv_istore (lv' := [(6, .int 1), (0, .ref (q 0)), (1, .int a1), (2, .int a2), (3, .int a3), (4, .int a4), (5, .int a5)]) hx hb dX7_copy_91 hl (by decide) rfl (fun ls hl => ?_)
                  refine lv_iconst (v := 0) hx hb dX7_copy_93 (by decide) ?_
                  refine lv_istore (lv' := [(7, .int 0), (6, .int 1), (0, .ref (q 0)), (1, .int a1), (2, .int a2), (3, .int a3), (4, .int a4), (5, .int a5)]) hx hb dX7_copy_94 hl (by decide) rfl (fun ls hl => ?_)
                  exact L96 10000 σ a1 a2 a3 a4 a5 1 0 _ _ _ hS (lv_sub hl [2, 3, 4, 5, 6, 7, 1, 0] rfl) hm
              · replace hm := it c71 hm
                exact J74 σ _ _ _ hS (lv_sub hl [0] rfl) hm
          · replace hm := ie c42 hm
            exact J45 σ _ _ _ hS (lv_sub hl [0] rfl) hm
      · replace hm := ie c18 hm
        refine lv_aload_n hx hb dX7_copy_21 rfl (lv_at hl 0 rfl) ?_
        refine lv_iconst (v := 5) hx hb dX7_copy_22 (by decide) ?_
        obtain ⟨o23, e23, hm⟩ := ob hm
        refine after_i C hS (call_V (As := [.int 5]) C hS (c_X7_find l d q σ 5 o23 e23 _) iv_7_76 ⟨rfl, rfl, Nat.le_of_ble_eq_true rfl, Nat.le_of_ble_eq_true rfl⟩ mw_o0 rfl rfl rfl hl.1 (Nat.le_of_ble_eq_true rfl) dX7_copy_23) (fun H locs hS => ?_)
        exact retIw (wf := mw q d) C hS hm dX7_copy_26
    · replace hm := it c11 hm
      refine lv_iconst (v := (-1)) hx hb dX7_copy_14 (by decide) ?_
      exact retIw (wf := mw q d) C hS hm dX7_copy_15
def M_X7_mean_44 : Nat → ST → Int32 → Int64 → Int32 → Option (Int32 × ST)
  | 0, _, _, _, _ => none
  | n + 1, σ, x1, x2, x4 => (rd 6 (σ.2.2 5) x1).bind fun v51 => if v51 ≤ x4 then (rd 6 (σ.2.2 5) x1).bind fun v84 => (dvL x2 v84.toInt64).bind fun v86 => (M_X7_tell σ v86.toInt32).bind fun o88 => some (o88.1, o88.2) else (rd 240 (σ.2.2 6) ((40 * x1) + x4)).bind fun v67 => M_X7_mean_44 n σ x1 (x2 + v67.toInt64) (x4 + 1)
def M_X7_mean (σ : ST) (a1 : Int32) : Option (Int32 × ST) := (M_X7_isRow a1).bind fun o1 => if o1 = 0 then some ((-1), σ) else (rd 6 (σ.2.2 5) a1).bind fun v14 => if 0 ≤ v14 then (rd 6 (σ.2.2 5) a1).bind fun v29 => if v29 = 0 then (M_X7_find σ 4).bind fun o35 => some (o35.1, o35.2) else M_X7_mean_44 10000 σ a1 0 0 else (M_X7_find σ 1).bind fun o20 => some (o20.1, o20.2)
abbrev rm_X7_mean : Room := { frames := 2, cells := 0, slots := 0, locals := 45 }
set_option maxRecDepth 100000 in
set_option maxHeartbeats 4000000 in
theorem c_X7_mean (l : Launch) (d : CD) (q : Nat → Nat) (σ : ST) (a1 : Int32) (out : Int32 × ST) (hm : M_X7_mean σ a1 = some out) : MetI l yX7_mean cX7_mean 5 (some .int) rm_X7_mean d (mw q d σ) [.ref (q 0), .int a1] out.1 (mw q d out.2) := by
  refine mkI (own := RX7) (by decide +kernel) rfl (Nat.le_of_ble_eq_true rfl) ?_
  intro p e s m below meth c A ls C hS hl
  obtain ⟨hx, hb, hml, hown, hts, -⟩ := id C
  have hl : lv_has ls 5 [(0, .ref (q 0)), (1, .int a1)] := hl
  have L44 : ∀ (n : Nat) (σ : ST) (x1 : Int32) (x2 : Int64) (x4 : Int32) (H : Heap) (locs : List Loc) (ls : Array Slot), HS d A s.heap H locs (mw q d σ) → lv_has ls 5 [(0, .ref (q 0)), (1, .int x1), (2, .long x2), (4, .int x4)] → M_X7_mean_44 n σ x1 x2 x4 = some out → WI p l e rm_X7_mean s m [.ref (q 0), .int a1].toArray below meth c A d H locs out.1 (mw q d out.2) (F0 m 44 ls []) := by
    intro n
    induction n with
    | zero =>
      intro σ x1 x2 x4 H locs ls hS hl hm
      exact absurd hm (by rw [M_X7_mean_44]; exact fun h => nomatch h)
    | succ n ih =>
      intro σ x1 x2 x4 H locs ls hS hl hm
      rw [M_X7_mean_44] at hm
      refine lv_iload hx hb dX7_mean_44 (lv_at hl 3 rfl) ?_
      refine lv_aload_n hx hb dX7_mean_46 rfl (lv_at hl 0 rfl) ?_
      refine g_7_22_0 C hS dX7_mean_47 ?_
      refine lv_iload_n hx hb dX7_mean_50 rfl (lv_at hl 1 rfl) ?_
      obtain ⟨v51, e51, hm⟩ := ob hm
      refine iald' C hS mw_a5 e51 dX7_mean_51 ?_
      refine lv_icmp_ge (tgt := 77) hx hb dX7_mean_52 (by decide) (fun c52 => ?_) (fun c52 => ?_)
      · replace hm := it c52 hm
        refine lv_aload_n hx hb dX7_mean_77 rfl (lv_at hl 0 rfl) ?_
        refine lv_lload_n hx hb dX7_mean_78 rfl (lv_at hl 2 rfl) ?_
        refine lv_aload_n hx hb dX7_mean_79 rfl (lv_at hl 0 rfl) ?_
        refine g_7_22_0 C hS dX7_mean_80 ?_
        refine lv_iload_n hx hb dX7_mean_83 rfl (lv_at hl 1 rfl) ?_
        obtain ⟨v84, e84, hm⟩ := ob hm
        refine iald' C hS mw_a5 e84 dX7_mean_84 ?_
        refine lv_i2l (v := v84.toInt64) hx hb dX7_mean_85 rfl ?_
        obtain ⟨v86, e86, hm⟩ := ob hm
        refine ldiv' C e86 dX7_mean_86 ?_
        refine lv_l2i (v := v86.toInt32) hx hb dX7_mean_87 rfl ?_
        obtain ⟨o88, e88, hm⟩ := ob hm
        refine after_i C hS (call_V (As := [.int v86.toInt32]) C hS (c_X7_tell l d q σ v86.toInt32 o88 e88 _) iv_7_88 ⟨rfl, rfl, Nat.le_of_ble_eq_true rfl, Nat.le_of_ble_eq_true rfl⟩ mw_o0 rfl rfl rfl hl.1 (Nat.le_of_ble_eq_true rfl) dX7_mean_88) (fun H locs hS => ?_)
        exact retIw (wf := mw q d) C hS hm dX7_mean_91
      · replace hm := ie c52 hm
        refine lv_lload_n hx hb dX7_mean_55 rfl (lv_at hl 2 rfl) ?_
        refine lv_aload_n hx hb dX7_mean_56 rfl (lv_at hl 0 rfl) ?_
        refine g_7_25_0 C hS dX7_mean_57 ?_
        refine lv_bipush (v := 40) hx hb dX7_mean_60 (by decide) ?_
        refine lv_iload_n hx hb dX7_mean_62 rfl (lv_at hl 1 rfl) ?_
        refine lv_imul hx hb dX7_mean_63 ?_
        refine lv_iload hx hb dX7_mean_64 (lv_at hl 3 rfl) ?_
        refine lv_iadd hx hb dX7_mean_66 ?_
        obtain ⟨v67, e67, hm⟩ := ob hm
        refine iald' C hS mw_a6 e67 dX7_mean_67 ?_
        refine lv_i2l (v := v67.toInt64) hx hb dX7_mean_68 rfl ?_
        refine lv_ladd hx hb dX7_mean_69 ?_
        refine lv_lstore_n (lv' := [(2, .long (x2 + v67.toInt64)), (0, .ref (q 0)), (1, .int x1), (4, .int x4)]) hx hb dX7_mean_70 rfl hl (by decide) rfl (fun ls hl => ?_)
        refine lv_iinc (v := x4 + 1) (lv' := [(4, .int (x4 + 1)), (2, .long (x2 + v67.toInt64)), (0, .ref (q 0)), (1, .int x1)]) hx hb dX7_mean_71 hl (k := 3) rfl rfl (by decide) rfl (fun ls hl => ?_)
        refine lv_goto (tgt := 44) hx hb dX7_mean_74 (by decide) ?_
        exact ih σ x1 (x2 + v67.toInt64) (x4 + 1) _ _ _ hS (lv_sub hl [2, 3, 1, 0] rfl) hm
  unfold M_X7_mean at hm
  refine lv_iload_n hx hb dX7_mean_0 rfl (lv_at hl 1 rfl) ?_
  obtain ⟨o1, e1, hm⟩ := ob hm
  refine after_i C hS (call_S (As := [.int a1]) C hS (c_X7_isRow l d (mw q d σ) a1 o1 e1 _) is_7_72 ⟨rfl, rfl, Nat.le_of_ble_eq_true rfl, Nat.le_of_ble_eq_true rfl⟩ rfl hl.1 (Nat.le_of_ble_eq_true rfl) dX7_mean_1) (fun H locs hS => ?_)
  refine lv_if_ne (tgt := 9) hx hb dX7_mean_4 (by decide) (fun c4 => ?_) (fun c4 => ?_)
  · replace hm := ie c4 hm
    refine lv_aload_n hx hb dX7_mean_9 rfl (lv_at hl 0 rfl) ?_
    refine g_7_22_0 C hS dX7_mean_10 ?_
    refine lv_iload_n hx hb dX7_mean_13 rfl (lv_at hl 1 rfl) ?_
    obtain ⟨v14, e14, hm⟩ := ob hm
    refine iald' C hS mw_a5 e14 dX7_mean_14 ?_
    refine lv_if_ge (tgt := 24) hx hb dX7_mean_15 (by decide) (fun c15 => ?_) (fun c15 => ?_)
    · replace hm := it c15 hm
      refine lv_aload_n hx hb dX7_mean_24 rfl (lv_at hl 0 rfl) ?_
      refine g_7_22_0 C hS dX7_mean_25 ?_
      refine lv_iload_n hx hb dX7_mean_28 rfl (lv_at hl 1 rfl) ?_
      obtain ⟨v29, e29, hm⟩ := ob hm
      refine iald' C hS mw_a5 e29 dX7_mean_29 ?_
      refine lv_if_ne (tgt := 39) hx hb dX7_mean_30 (by decide) (fun c30 => ?_) (fun c30 => ?_)
      · replace hm := ie c30 hm
        refine lv_lconst (v := 0) hx hb dX7_mean_39 (by decide) ?_
        refine lv_lstore_n (lv' := [(2, .long 0), (0, .ref (q 0)), (1, .int a1)]) hx hb dX7_mean_40 rfl hl (by decide) rfl (fun ls hl => ?_)
        refine lv_iconst (v := 0) hx hb dX7_mean_41 (by decide) ?_
        refine lv_istore (lv' := [(4, .int 0), (2, .long 0), (0, .ref (q 0)), (1, .int a1)]) hx hb dX7_mean_42 hl (by decide) rfl (fun ls hl => ?_)
        exact L44 10000 σ a1 0 0 _ _ _ hS (lv_sub hl [2, 3, 1, 0] rfl) hm
      · replace hm := it c30 hm
        refine lv_aload_n hx hb dX7_mean_33 rfl (lv_at hl 0 rfl) ?_
        refine lv_iconst (v := 4) hx hb dX7_mean_34 (by decide) ?_
        obtain ⟨o35, e35, hm⟩ := ob hm
        refine after_i C hS (call_V (As := [.int 4]) C hS (c_X7_find l d q σ 4 o35 e35 _) iv_7_76 ⟨rfl, rfl, Nat.le_of_ble_eq_true rfl, Nat.le_of_ble_eq_true rfl⟩ mw_o0 rfl rfl rfl hl.1 (Nat.le_of_ble_eq_true rfl) dX7_mean_35) (fun H locs hS => ?_)
        exact retIw (wf := mw q d) C hS hm dX7_mean_38
    · replace hm := ie c15 hm
      refine lv_aload_n hx hb dX7_mean_18 rfl (lv_at hl 0 rfl) ?_
      refine lv_iconst (v := 1) hx hb dX7_mean_19 (by decide) ?_
      obtain ⟨o20, e20, hm⟩ := ob hm
      refine after_i C hS (call_V (As := [.int 1]) C hS (c_X7_find l d q σ 1 o20 e20 _) iv_7_76 ⟨rfl, rfl, Nat.le_of_ble_eq_true rfl, Nat.le_of_ble_eq_true rfl⟩ mw_o0 rfl rfl rfl hl.1 (Nat.le_of_ble_eq_true rfl) dX7_mean_20) (fun H locs hS => ?_)
      exact retIw (wf := mw q d) C hS hm dX7_mean_23
  · replace hm := it c4 hm
    refine lv_iconst (v := (-1)) hx hb dX7_mean_7 (by decide) ?_
    exact retIw (wf := mw q d) C hS hm dX7_mean_8
def M_X7_isText (a0 : Int32) : Option Int32 := (M_X7_in a0.toInt64 0 3).bind fun o6 => okZ o6
abbrev rm_X7_isText : Room := { frames := 1, cells := 0, slots := 0, locals := 25 }
set_option maxRecDepth 100000 in
set_option maxHeartbeats 4000000 in
theorem c_X7_isText (l : Launch) (d : CD) (w : va_W) (a0 : Int32) (out : Int32) (hm : M_X7_isText a0 = some out) : MetI l yX7_isText cX7_isText 1 (some .boolean) rm_X7_isText d w [.int a0] out w := by
  refine mkI (own := RX7) (by decide +kernel) rfl (Nat.le_of_ble_eq_true rfl) ?_
  intro p e s m below meth c A ls C hS hl
  obtain ⟨hx, hb, hml, hown, hts, -⟩ := id C
  have hl : lv_has ls 1 [(0, .int a0)] := hl
  unfold M_X7_isText at hm
  refine lv_iload_n hx hb dX7_isText_0 rfl (lv_at hl 0 rfl) ?_
  refine lv_i2l (v := a0.toInt64) hx hb dX7_isText_1 rfl ?_
  refine lv_lconst (v := 0) hx hb dX7_isText_2 (by decide) ?_
  refine lv_ldc2 (v := 3) hx hb hown (hts _ lc_X7_70) dX7_isText_3 ?_
  obtain ⟨o6, e6, hm⟩ := ob hm
  refine after_i C hS (call_S (As := [.long a0.toInt64, .long 0, .long 3]) C hS (c_X7_in l d w a0.toInt64 0 3 o6 e6 _) is_7_66 ⟨rfl, rfl, Nat.le_of_ble_eq_true rfl, Nat.le_of_ble_eq_true rfl⟩ rfl hl.1 (Nat.le_of_ble_eq_true rfl) dX7_isText_6) (fun H locs hS => ?_)
  exact retZr C hS hm dX7_isText_9
def M_X7_text_34 : Nat → ST → Int32 → Int32 → Int32 → Option (Int32 × ST)
  | 0, _, _, _, _ => none
  | n + 1, σ, x1, x2, x3 => if 80 ≤ x3 then some (x2, σ) else (wrA 320 σ 8 ((80 * x1) + x3) 32).bind fun σ52 => M_X7_text_34 n σ52 x1 x2 (x3 + 1)
def M_X7_text (σ : ST) (a1 : Int32) (a2 : Int32) : Option (Int32 × ST) := (M_X7_isText a1).bind fun o1 => if o1 = 0 then some ((-1), σ) else if a2 ≤ 80 then if 0 ≤ a2 then (wrA 4 σ 7 a1 a2).bind fun σ31 => M_X7_text_34 10000 σ31 a1 a2 0 else (M_X7_find σ 5).bind fun o21 => some (o21.1, o21.2) else some ((-1), σ)
abbrev rm_X7_text : Room := { frames := 2, cells := 0, slots := 0, locals := 45 }
set_option maxRecDepth 100000 in
set_option maxHeartbeats 4000000 in
theorem c_X7_text (l : Launch) (d : CD) (q : Nat → Nat) (σ : ST) (a1 : Int32) (a2 : Int32) (out : Int32 × ST) (hm : M_X7_text σ a1 a2 = some out) : MetI l yX7_text cX7_text 4 (some .int) rm_X7_text d (mw q d σ) [.ref (q 0), .int a1, .int a2] out.1 (mw q d out.2) := by
  refine mkI (own := RX7) (by decide +kernel) rfl (Nat.le_of_ble_eq_true rfl) ?_
  intro p e s m below meth c A ls C hS hl
  obtain ⟨hx, hb, hml, hown, hts, -⟩ := id C
  have hl : lv_has ls 4 [(0, .ref (q 0)), (1, .int a1), (2, .int a2)] := hl
  have L34 : ∀ (n : Nat) (σ : ST) (x1 : Int32) (x2 : Int32) (x3 : Int32) (H : Heap) (locs : List Loc) (ls : Array Slot), HS d A s.heap H locs (mw q d σ) → lv_has ls 4 [(0, .ref (q 0)), (1, .int x1), (2, .int x2), (3, .int x3)] → M_X7_text_34 n σ x1 x2 x3 = some out → WI p l e rm_X7_text s m [.ref (q 0), .int a1, .int a2].toArray below meth c A d H locs out.1 (mw q d out.2) (F0 m 34 ls []) := by
    intro n
    induction n with
    | zero =>
      intro σ x1 x2 x3 H locs ls hS hl hm
      exact absurd hm (by rw [M_X7_text_34]; exact fun h => nomatch h)
    | succ n ih =>
      intro σ x1 x2 x3 H locs ls hS hl hm
      rw [M_X7_text_34] at hm
      refine lv_iload_n hx hb dX7_text_34 rfl (lv_at hl 3 rfl) ?_
      refine lv_bipush (v := 80) hx hb dX7_text_35 (by decide) ?_
      refine lv_icmp_ge (tgt := 59) hx hb dX7_text_37 (by decide) (fun c37 => ?_) (fun c37 => ?_)
      · replace hm := it c37 hm
        refine lv_iload_n hx hb dX7_text_59 rfl (lv_at hl 2 rfl) ?_
        exact retIw (wf := mw q d) C hS hm dX7_text_60
      · replace hm := ie c37 hm
        refine lv_aload_n hx hb dX7_text_40 rfl (lv_at hl 0 rfl) ?_
        refine g_7_31_0 C hS dX7_text_41 ?_
        refine lv_bipush (v := 80) hx hb dX7_text_44 (by decide) ?_
        refine lv_iload_n hx hb dX7_text_46 rfl (lv_at hl 1 rfl) ?_
        refine lv_imul hx hb dX7_text_47 ?_
        refine lv_iload_n hx hb dX7_text_48 rfl (lv_at hl 3 rfl) ?_
        refine lv_iadd hx hb dX7_text_49 ?_
        refine lv_bipush (v := 32) hx hb dX7_text_50 (by decide) ?_
        obtain ⟨σ52, e52, hm⟩ := ob hm
        refine iast' (wf := mw q d) C hS mw_a8 mw_s8 e52 dX7_text_52 (fun H locs hS => ?_)
        refine lv_iinc (v := x3 + 1) (lv' := [(3, .int (x3 + 1)), (0, .ref (q 0)), (1, .int x1), (2, .int x2)]) hx hb dX7_text_53 hl (k := 3) rfl rfl (by decide) rfl (fun ls hl => ?_)
        refine lv_goto (tgt := 34) hx hb dX7_text_56 (by decide) ?_
        exact ih σ52 x1 x2 (x3 + 1) _ _ _ hS (lv_sub hl [1, 2, 3, 0] rfl) hm
  unfold M_X7_text at hm
  refine lv_iload_n hx hb dX7_text_0 rfl (lv_at hl 1 rfl) ?_
  obtain ⟨o1, e1, hm⟩ := ob hm
  refine after_i C hS (call_S (As := [.int a1]) C hS (c_X7_isText l d (mw q d σ) a1 o1 e1 _) is_7_95 ⟨rfl, rfl, Nat.le_of_ble_eq_true rfl, Nat.le_of_ble_eq_true rfl⟩ rfl hl.1 (Nat.le_of_ble_eq_true rfl) dX7_text_1) (fun H locs hS => ?_)
  refine lv_if_eq (tgt := 13) hx hb dX7_text_4 (by decide) (fun c4 => ?_) (fun c4 => ?_)
  · replace hm := it c4 hm
    refine lv_iconst (v := (-1)) hx hb dX7_text_13 (by decide) ?_
    exact retIw (wf := mw q d) C hS hm dX7_text_14
  · replace hm := ie c4 hm
    refine lv_iload_n hx hb dX7_text_7 rfl (lv_at hl 2 rfl) ?_
    refine lv_bipush (v := 80) hx hb dX7_text_8 (by decide) ?_
    refine lv_icmp_le (tgt := 15) hx hb dX7_text_10 (by decide) (fun c10 => ?_) (fun c10 => ?_)
    · replace hm := it c10 hm
      refine lv_iload_n hx hb dX7_text_15 rfl (lv_at hl 2 rfl) ?_
      refine lv_if_ge (tgt := 25) hx hb dX7_text_16 (by decide) (fun c16 => ?_) (fun c16 => ?_)
      · replace hm := it c16 hm
        refine lv_aload_n hx hb dX7_text_25 rfl (lv_at hl 0 rfl) ?_
        refine g_7_28_0 C hS dX7_text_26 ?_
        refine lv_iload_n hx hb dX7_text_29 rfl (lv_at hl 1 rfl) ?_
        refine lv_iload_n hx hb dX7_text_30 rfl (lv_at hl 2 rfl) ?_
        obtain ⟨σ31, e31, hm⟩ := ob hm
        refine iast' (wf := mw q d) C hS mw_a7 mw_s7 e31 dX7_text_31 (fun H locs hS => ?_)
        refine lv_iconst (v := 0) hx hb dX7_text_32 (by decide) ?_
        refine lv_istore_n (lv' := [(3, .int 0), (0, .ref (q 0)), (1, .int a1), (2, .int a2)]) hx hb dX7_text_33 rfl hl (by decide) rfl (fun ls hl => ?_)
        exact L34 10000 σ31 a1 a2 0 _ _ _ hS (lv_sub hl [1, 2, 3, 0] rfl) hm
      · replace hm := ie c16 hm
        refine lv_aload_n hx hb dX7_text_19 rfl (lv_at hl 0 rfl) ?_
        refine lv_iconst (v := 5) hx hb dX7_text_20 (by decide) ?_
        obtain ⟨o21, e21, hm⟩ := ob hm
        refine after_i C hS (call_V (As := [.int 5]) C hS (c_X7_find l d q σ 5 o21 e21 _) iv_7_76 ⟨rfl, rfl, Nat.le_of_ble_eq_true rfl, Nat.le_of_ble_eq_true rfl⟩ mw_o0 rfl rfl rfl hl.1 (Nat.le_of_ble_eq_true rfl) dX7_text_21) (fun H locs hS => ?_)
        exact retIw (wf := mw q d) C hS hm dX7_text_24
    · replace hm := ie c10 hm
      refine lv_iconst (v := (-1)) hx hb dX7_text_13 (by decide) ?_
      exact retIw (wf := mw q d) C hS hm dX7_text_14
def M_X7_put (σ : ST) (a1 : Int32) (a2 : Int32) (a3 : Int32) : Option (Int32 × ST) := (M_X7_isText a1).bind fun o1 => if o1 = 0 then some ((-1), σ) else (rd 4 (σ.2.2 7) a1).bind fun v14 => if 0 ≤ v14 then (rd 4 (σ.2.2 7) a1).bind fun v32 => (M_X7_in a2.toInt64 0 ((v32 - 1).toInt64)).bind fun o36 => if o36 = 0 then (M_X7_find σ 2).bind fun o44 => some (o44.1, o44.2) else (rd 320 (σ.2.2 8) ((80 * a1) + a2)).bind fun v58 => (wrA 320 σ 8 ((80 * a1) + a2) a3.toInt8.toInt32).bind fun σ73 => some (v58 + 1000, σ73) else (M_X7_find σ 1).bind fun o20 => some (o20.1, o20.2)
abbrev rm_X7_put : Room := { frames := 2, cells := 0, slots := 0, locals := 45 }
set_option maxRecDepth 100000 in
set_option maxHeartbeats 4000000 in
theorem c_X7_put (l : Launch) (d : CD) (q : Nat → Nat) (σ : ST) (a1 : Int32) (a2 : Int32) (a3 : Int32) (out : Int32 × ST) (hm : M_X7_put σ a1 a2 a3 = some out) : MetI l yX7_put cX7_put 5 (some .int) rm_X7_put d (mw q d σ) [.ref (q 0), .int a1, .int a2, .int a3] out.1 (mw q d out.2) := by
  refine mkI (own := RX7) (by decide +kernel) rfl (Nat.le_of_ble_eq_true rfl) ?_
  intro p e s m below meth c A ls C hS hl
  obtain ⟨hx, hb, hml, hown, hts, -⟩ := id C
  have hl : lv_has ls 5 [(0, .ref (q 0)), (1, .int a1), (2, .int a2), (3, .int a3)] := hl
  unfold M_X7_put at hm
  refine lv_iload_n hx hb dX7_put_0 rfl (lv_at hl 1 rfl) ?_
  obtain ⟨o1, e1, hm⟩ := ob hm
  refine after_i C hS (call_S (As := [.int a1]) C hS (c_X7_isText l d (mw q d σ) a1 o1 e1 _) is_7_95 ⟨rfl, rfl, Nat.le_of_ble_eq_true rfl, Nat.le_of_ble_eq_true rfl⟩ rfl hl.1 (Nat.le_of_ble_eq_true rfl) dX7_put_1) (fun H locs hS => ?_)
  refine lv_if_ne (tgt := 9) hx hb dX7_put_4 (by decide) (fun c4 => ?_) (fun c4 => ?_)
  · replace hm := ie c4 hm
    refine lv_aload_n hx hb dX7_put_9 rfl (lv_at hl 0 rfl) ?_
    refine g_7_28_0 C hS dX7_put_10 ?_
    refine lv_iload_n hx hb dX7_put_13 rfl (lv_at hl 1 rfl) ?_
    obtain ⟨v14, e14, hm⟩ := ob hm
    refine iald' C hS mw_a7 e14 dX7_put_14 ?_
    refine lv_if_ge (tgt := 24) hx hb dX7_put_15 (by decide) (fun c15 => ?_) (fun c15 => ?_)
    · replace hm := it c15 hm
      refine lv_iload_n hx hb dX7_put_24 rfl (lv_at hl 2 rfl) ?_
      refine lv_i2l (v := a2.toInt64) hx hb dX7_put_25 rfl ?_
      refine lv_lconst (v := 0) hx hb dX7_put_26 (by decide) ?_
      refine lv_aload_n hx hb dX7_put_27 rfl (lv_at hl 0 rfl) ?_
      refine g_7_28_0 C hS dX7_put_28 ?_
      refine lv_iload_n hx hb dX7_put_31 rfl (lv_at hl 1 rfl) ?_
      obtain ⟨v32, e32, hm⟩ := ob hm
      refine iald' C hS mw_a7 e32 dX7_put_32 ?_
      refine lv_iconst (v := 1) hx hb dX7_put_33 (by decide) ?_
      refine lv_isub hx hb dX7_put_34 ?_
      refine lv_i2l (v := (v32 - 1).toInt64) hx hb dX7_put_35 rfl ?_
      obtain ⟨o36, e36, hm⟩ := ob hm
      refine after_i C hS (call_S (As := [.long a2.toInt64, .long 0, .long ((v32 - 1).toInt64)]) C hS (c_X7_in l d (mw q d σ) a2.toInt64 0 ((v32 - 1).toInt64) o36 e36 _) is_7_66 ⟨rfl, rfl, Nat.le_of_ble_eq_true rfl, Nat.le_of_ble_eq_true rfl⟩ rfl hl.1 (Nat.le_of_ble_eq_true rfl) dX7_put_36) (fun H locs hS => ?_)
      refine lv_if_ne (tgt := 48) hx hb dX7_put_39 (by decide) (fun c39 => ?_) (fun c39 => ?_)
      · replace hm := ie c39 hm
        refine lv_aload_n hx hb dX7_put_48 rfl (lv_at hl 0 rfl) ?_
        refine g_7_31_0 C hS dX7_put_49 ?_
        refine lv_bipush (v := 80) hx hb dX7_put_52 (by decide) ?_
        refine lv_iload_n hx hb dX7_put_54 rfl (lv_at hl 1 rfl) ?_
        refine lv_imul hx hb dX7_put_55 ?_
        refine lv_iload_n hx hb dX7_put_56 rfl (lv_at hl 2 rfl) ?_
        refine lv_iadd hx hb dX7_put_57 ?_
        obtain ⟨v58, e58, hm⟩ := ob hm
        refine iald' C hS mw_a8 e58 dX7_put_58 ?_
        refine lv_istore (lv' := [(4, .int v58), (0, .ref (q 0)), (1, .int a1), (2, .int a2), (3, .int a3)]) hx hb dX7_put_59 hl (by decide) rfl (fun ls hl => ?_)
        refine lv_aload_n hx hb dX7_put_61 rfl (lv_at hl 1 rfl) ?_
        refine g_7_31_0 C hS dX7_put_62 ?_
        refine lv_bipush (v := 80) hx hb dX7_put_65 (by decide) ?_
        refine lv_iload_n hx hb dX7_put_67 rfl (lv_at hl 2 rfl) ?_
        refine lv_imul hx hb dX7_put_68 ?_
        refine lv_iload_n hx hb dX7_put_69 rfl (lv_at hl 3 rfl) ?_
        refine lv_iadd hx hb dX7_put_70 ?_
        refine lv_iload_n hx hb dX7_put_71 rfl (lv_at hl 4 rfl) ?_
        refine lv_i2b (v := a3.toInt8.toInt32) hx hb dX7_put_72 rfl ?_
        obtain ⟨σ73, e73, hm⟩ := ob hm
        refine iast' (wf := mw q d) C hS mw_a8 mw_s8 e73 dX7_put_73 (fun H locs hS => ?_)
        refine lv_iload hx hb dX7_put_74 (lv_at hl 0 rfl) ?_
        refine lv_sipush (v := 1000) hx hb dX7_put_76 (by decide) ?_
        refine lv_iadd hx hb dX7_put_79 ?_
        exact retIw (wf := mw q d) C hS hm dX7_put_80
      · replace hm := it c39 hm
        refine lv_aload_n hx hb dX7_put_42 rfl (lv_at hl 0 rfl) ?_
        refine lv_iconst (v := 2) hx hb dX7_put_43 (by decide) ?_
        obtain ⟨o44, e44, hm⟩ := ob hm
        refine after_i C hS (call_V (As := [.int 2]) C hS (c_X7_find l d q σ 2 o44 e44 _) iv_7_76 ⟨rfl, rfl, Nat.le_of_ble_eq_true rfl, Nat.le_of_ble_eq_true rfl⟩ mw_o0 rfl rfl rfl hl.1 (Nat.le_of_ble_eq_true rfl) dX7_put_44) (fun H locs hS => ?_)
        exact retIw (wf := mw q d) C hS hm dX7_put_47
    · replace hm := ie c15 hm
      refine lv_aload_n hx hb dX7_put_18 rfl (lv_at hl 0 rfl) ?_
      refine lv_iconst (v := 1) hx hb dX7_put_19 (by decide) ?_
      obtain ⟨o20, e20, hm⟩ := ob hm
      refine after_i C hS (call_V (As := [.int 1]) C hS (c_X7_find l d q σ 1 o20 e20 _) iv_7_76 ⟨rfl, rfl, Nat.le_of_ble_eq_true rfl, Nat.le_of_ble_eq_true rfl⟩ mw_o0 rfl rfl rfl hl.1 (Nat.le_of_ble_eq_true rfl) dX7_put_20) (fun H locs hS => ?_)
      exact retIw (wf := mw q d) C hS hm dX7_put_23
  · replace hm := it c4 hm
    refine lv_iconst (v := (-1)) hx hb dX7_put_7 (by decide) ?_
    exact retIw (wf := mw q d) C hS hm dX7_put_8
def M_X7_here (σ : ST) : Option Int32 := (rd 320 (σ.2.2 8) ((σ.1 17) + (σ.1 18))).bind fun v13 => some v13
abbrev rm_X7_here : Room := { frames := 0, cells := 0, slots := 0, locals := 0 }
set_option maxRecDepth 100000 in
set_option maxHeartbeats 4000000 in
theorem c_X7_here (l : Launch) (d : CD) (q : Nat → Nat) (σ : ST) (out : Int32) (hm : M_X7_here σ = some out) : MetI l yX7_here cX7_here 1 (some .int) rm_X7_here d (mw q d σ) [.ref (q 0)] out (mw q d σ) := by
  refine mkI (own := RX7) (by decide +kernel) rfl (Nat.le_of_ble_eq_true rfl) ?_
  intro p e s m below meth c A ls C hS hl
  obtain ⟨hx, hb, hml, hown, hts, -⟩ := id C
  have hl : lv_has ls 1 [(0, .ref (q 0))] := hl
  unfold M_X7_here at hm
  refine lv_aload_n hx hb dX7_here_0 rfl (lv_at hl 0 rfl) ?_
  refine g_7_31_0 C hS dX7_here_1 ?_
  refine lv_aload_n hx hb dX7_here_4 rfl (lv_at hl 0 rfl) ?_
  refine g_7_98_0 C hS dX7_here_5 ?_
  refine lv_aload_n hx hb dX7_here_8 rfl (lv_at hl 0 rfl) ?_
  refine g_7_101_0 C hS dX7_here_9 ?_
  refine lv_iadd hx hb dX7_here_12 ?_
  obtain ⟨v13, e13, hm⟩ := ob hm
  refine iald' C hS mw_a8 e13 dX7_here_13 ?_
  exact retIr C hS hm dX7_here_14
def M_X7_skip_0 : Nat → ST → Option ST
  | 0, _ => none
  | n + 1, σ => if (σ.1 19) ≤ (σ.1 18) then some σ else (M_X7_here σ).bind fun o12 => if o12 = 32 then (some (setI σ 18 ((σ.1 18) + 1))).bind fun σ27 => M_X7_skip_0 n σ27 else some σ
def M_X7_skip (σ : ST) : Option ST := M_X7_skip_0 10000 σ
abbrev rm_X7_skip : Room := { frames := 1, cells := 0, slots := 0, locals := 20 }
set_option maxRecDepth 100000 in
set_option maxHeartbeats 4000000 in
theorem c_X7_skip (l : Launch) (d : CD) (q : Nat → Nat) (σ : ST) (out : ST) (hm : M_X7_skip σ = some out) : MetV l yX7_skip cX7_skip 1 (none) rm_X7_skip d (mw q d σ) [.ref (q 0)] (mw q d out) := by
  refine mkV (own := RX7) (by decide +kernel) rfl (Nat.le_of_ble_eq_true rfl) ?_
  intro p e s m below meth c A ls C hS hl
  obtain ⟨hx, hb, hml, hown, hts, -⟩ := id C
  have hl : lv_has ls 1 [(0, .ref (q 0))] := hl
  have L0 : ∀ (n : Nat) (σ : ST) (H : Heap) (locs : List Loc) (ls : Array Slot), HS d A s.heap H locs (mw q d σ) → lv_has ls 1 [(0, .ref (q 0))] → M_X7_skip_0 n σ = some out → WV p l e rm_X7_skip s m [.ref (q 0)].toArray below meth c A d H locs (mw q d out) (F0 m 0 ls []) := by
    intro n
    induction n with
    | zero =>
      intro σ H locs ls hS hl hm
      exact absurd hm (by rw [M_X7_skip_0]; exact fun h => nomatch h)
    | succ n ih =>
      intro σ H locs ls hS hl hm
      rw [M_X7_skip_0] at hm
      refine lv_aload_n hx hb dX7_skip_0 rfl (lv_at hl 0 rfl) ?_
      refine g_7_101_0 C hS dX7_skip_1 ?_
      refine lv_aload_n hx hb dX7_skip_4 rfl (lv_at hl 0 rfl) ?_
      refine g_7_104_0 C hS dX7_skip_5 ?_
      refine lv_icmp_ge (tgt := 33) hx hb dX7_skip_8 (by decide) (fun c8 => ?_) (fun c8 => ?_)
      · replace hm := it c8 hm
        exact retVw (wf := mw q d) C hS hm dX7_skip_33
      · replace hm := ie c8 hm
        refine lv_aload_n hx hb dX7_skip_11 rfl (lv_at hl 0 rfl) ?_
        obtain ⟨o12, e12, hm⟩ := ob hm
        refine after_i C hS (call_V (As := []) C hS (c_X7_here l d q σ o12 e12 _) iv_7_107 ⟨rfl, rfl, Nat.le_of_ble_eq_true rfl, Nat.le_of_ble_eq_true rfl⟩ mw_o0 rfl rfl rfl hl.1 (Nat.le_of_ble_eq_true rfl) dX7_skip_12) (fun H locs hS => ?_)
        refine lv_bipush (v := 32) hx hb dX7_skip_15 (by decide) ?_
        refine lv_icmp_ne (tgt := 33) hx hb dX7_skip_17 (by decide) (fun c17 => ?_) (fun c17 => ?_)
        · replace hm := ie c17 hm
          exact retVw (wf := mw q d) C hS hm dX7_skip_33
        · replace hm := it c17 hm
          refine lv_aload_n hx hb dX7_skip_20 rfl (lv_at hl 0 rfl) ?_
          refine lv_dup hx hb dX7_skip_21 rfl ?_
          refine g_7_101_0 C hS dX7_skip_22 ?_
          refine lv_iconst (v := 1) hx hb dX7_skip_25 (by decide) ?_
          refine lv_iadd hx hb dX7_skip_26 ?_
          obtain ⟨σ27, e27, hm⟩ := ob hm
          refine p_7_101_0 C hS e27 dX7_skip_27 (fun H locs hS => ?_)
          refine lv_goto (tgt := 0) hx hb dX7_skip_30 (by decide) ?_
          exact ih σ27 _ _ _ hS (lv_sub hl [0] rfl) hm
  unfold M_X7_skip at hm
  exact L0 10000 σ _ _ _ hS (lv_sub hl [0] rfl) hm
