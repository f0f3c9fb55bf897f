def M_X7_thereOf_4 (σ : ST) : Nat → Int32 → Int32 → Int32 → Option Int32
  | 0, _, _, _ => none
  | n + 1, x1, x2, x3 => if 6 ≤ x3 then some x2 else if x1 = 8 then (rd 6 (σ.2.2 5) x3).bind fun v22 => if 0 ≤ v22 then M_X7_thereOf_4 σ n x1 (x2 + 1) (x3 + 1) else M_X7_thereOf_4 σ n x1 (x2 + 0) (x3 + 1) else if x1 = 9 then if 4 ≤ x3 then M_X7_thereOf_4 σ n x1 (x2 + 0) (x3 + 1) else (rd 4 (σ.2.2 7) x3).bind fun v50 => if v50 < 0 then M_X7_thereOf_4 σ n x1 (x2 + 0) (x3 + 1) else M_X7_thereOf_4 σ n x1 (x2 + 1) (x3 + 1) else if 3 ≤ x3 then M_X7_thereOf_4 σ n x1 (x2 + 0) (x3 + 1) else (rd 3776 (σ.2.2 1) ((944 * (1 + x3)) + 0)).bind fun v80 => if v80 < 0 then M_X7_thereOf_4 σ n x1 (x2 + 0) (x3 + 1) else M_X7_thereOf_4 σ n x1 (x2 + 1) (x3 + 1)
def M_X7_thereOf (σ : ST) (a1 : Int32) : Option Int32 := M_X7_thereOf_4 σ 10000 a1 0 0
abbrev rm_X7_thereOf : Room := { frames := 0, cells := 0, slots := 0, locals := 0 }
set_option maxRecDepth 100000 in
set_option maxHeartbeats 4000000 in
theorem c_X7_thereOf (l : Launch) (d : CD) (q : Nat → Nat) (σ : ST) (a1 : Int32) (out : Int32) (hm : M_X7_thereOf σ a1 = some out) : MetI l yX7_thereOf cX7_thereOf 4 (some .int) rm_X7_thereOf d (mw q d σ) [.ref (q 0), .int a1] out (mw q d σ) := by
  refine mkI (own := RX7) (by decide +kernel) rfl (Nat.le_of_ble_eq_true rfl) ?_
  intro p e s m below meth c A ls C hS hl
  obtain ⟨hx, hb, hml, hown, hts, -⟩ := id C
  have hl : lv_has ls 4 [(0, .ref (q 0)), (1, .int a1)] := hl
  have L4 : ∀ (n : Nat) (x1 : Int32) (x2 : Int32) (x3 : Int32) (H : Heap) (locs : List Loc) (ls : Array Slot), HS d A s.heap H locs (mw q d σ) → lv_has ls 4 [(0, .ref (q 0)), (1, .int x1), (2, .int x2), (3, .int x3)] → M_X7_thereOf_4 σ n x1 x2 x3 = some out → WI p l e rm_X7_thereOf s m [.ref (q 0), .int a1].toArray below meth c A d H locs out (mw q d σ) (F0 m 4 ls []) := by
    intro n
    induction n with
    | zero =>
      intro x1 x2 x3 H locs ls hS hl hm
      exact absurd hm (by rw [M_X7_thereOf_4]; exact fun h => nomatch h)
    | succ n ih =>
      intro x1 x2 x3 H locs ls hS hl hm
      rw [M_X7_thereOf_4] at hm
      refine lv_iload_n hx hb dX7_thereOf_4 rfl (lv_at hl 3 rfl) ?_
      refine lv_bipush (v := 6) hx hb dX7_thereOf_5 (by decide) ?_
      refine lv_icmp_ge (tgt := 97) hx hb dX7_thereOf_7 (by decide) (fun c7 => ?_) (fun c7 => ?_)
      · replace hm := it c7 hm
        refine lv_iload_n hx hb dX7_thereOf_97 rfl (lv_at hl 2 rfl) ?_
        exact retIr C hS hm dX7_thereOf_98
      · replace hm := ie c7 hm
        refine lv_iload_n hx hb dX7_thereOf_10 rfl (lv_at hl 2 rfl) ?_
        refine lv_iload_n hx hb dX7_thereOf_11 rfl (lv_at hl 1 rfl) ?_
        refine lv_bipush (v := 8) hx hb dX7_thereOf_12 (by decide) ?_
        refine lv_icmp_ne (tgt := 34) hx hb dX7_thereOf_14 (by decide) (fun c14 => ?_) (fun c14 => ?_)
        · replace hm := ie c14 hm
          refine lv_iload_n hx hb dX7_thereOf_34 rfl (lv_at hl 1 rfl) ?_
          refine lv_bipush (v := 9) hx hb dX7_thereOf_35 (by decide) ?_
          refine lv_icmp_ne (tgt := 62) hx hb dX7_thereOf_37 (by decide) (fun c37 => ?_) (fun c37 => ?_)
          · replace hm := ie c37 hm
            refine lv_iload_n hx hb dX7_thereOf_62 rfl (lv_at hl 3 rfl) ?_
            refine lv_iconst (v := 3) hx hb dX7_thereOf_63 (by decide) ?_
            refine lv_icmp_ge (tgt := 88) hx hb dX7_thereOf_64 (by decide) (fun c64 => ?_) (fun c64 => ?_)
            · replace hm := it c64 hm
              refine lv_iconst (v := 0) hx hb dX7_thereOf_88 (by decide) ?_
              refine lv_iadd hx hb dX7_thereOf_89 ?_
              refine lv_istore_n (lv' := [(2, .int (x2 + 0)), (0, .ref (q 0)), (1, .int x1), (3, .int x3)]) hx hb dX7_thereOf_90 rfl hl (by decide) rfl (fun ls hl => ?_)
              refine lv_iinc (v := x3 + 1) (lv' := [(3, .int (x3 + 1)), (2, .int (x2 + 0)), (0, .ref (q 0)), (1, .int x1)]) hx hb dX7_thereOf_91 hl (k := 3) rfl rfl (by decide) rfl (fun ls hl => ?_)
              refine lv_goto (tgt := 4) hx hb dX7_thereOf_94 (by decide) ?_
              exact ih x1 (x2 + 0) (x3 + 1) _ _ _ hS (lv_sub hl [2, 3, 1, 0] rfl) hm
            · replace hm := ie c64 hm
              refine lv_aload_n hx hb dX7_thereOf_67 rfl (lv_at hl 0 rfl) ?_
              refine g_7_7_0 C hS dX7_thereOf_68 ?_
              refine lv_sipush (v := 944) hx hb dX7_thereOf_71 (by decide) ?_
              refine lv_iconst (v := 1) hx hb dX7_thereOf_74 (by decide) ?_
              refine lv_iload_n hx hb dX7_thereOf_75 rfl (lv_at hl 3 rfl) ?_
              refine lv_iadd hx hb dX7_thereOf_76 ?_
              refine lv_imul hx hb dX7_thereOf_77 ?_
              refine lv_iconst (v := 0) hx hb dX7_thereOf_78 (by decide) ?_
              refine lv_iadd hx hb dX7_thereOf_79 ?_
              obtain ⟨v80, e80, hm⟩ := ob hm
              refine iald' C hS mw_a1 e80 dX7_thereOf_80 ?_
              refine lv_if_lt (tgt := 88) hx hb dX7_thereOf_81 (by decide) (fun c81 => ?_) (fun c81 => ?_)
              · replace hm := it c81 hm
                refine lv_iconst (v := 0) hx hb dX7_thereOf_88 (by decide) ?_
                refine lv_iadd hx hb dX7_thereOf_89 ?_
                refine lv_istore_n (lv' := [(2, .int (x2 + 0)), (0, .ref (q 0)), (1, .int x1), (3, .int x3)]) hx hb dX7_thereOf_90 rfl hl (by decide) rfl (fun ls hl => ?_)
                refine lv_iinc (v := x3 + 1) (lv' := [(3, .int (x3 + 1)), (2, .int (x2 + 0)), (0, .ref (q 0)), (1, .int x1)]) hx hb dX7_thereOf_91 hl (k := 3) rfl rfl (by decide) rfl (fun ls hl => ?_)
                refine lv_goto (tgt := 4) hx hb dX7_thereOf_94 (by decide) ?_
                exact ih x1 (x2 + 0) (x3 + 1) _ _ _ hS (lv_sub hl [2, 3, 1, 0] rfl) hm
              · replace hm := ie c81 hm
                refine lv_iconst (v := 1) hx hb dX7_thereOf_84 (by decide) ?_
                refine lv_goto (tgt := 89) hx hb dX7_thereOf_85 (by decide) ?_
                refine lv_iadd hx hb dX7_thereOf_89 ?_
                refine lv_istore_n (lv' := [(2, .int (x2 + 1)), (0, .ref (q 0)), (1, .int x1), (3, .int x3)]) hx hb dX7_thereOf_90 rfl hl (by decide) rfl (fun ls hl => ?_)
                refine lv_iinc (v := x3 + 1) (lv' := [(3, .int (x3 + 1)), (2, .int (x2 + 1)), (0, .ref (q 0)), (1, .int x1)]) hx hb dX7_thereOf_91 hl (k := 3) rfl rfl (by decide) rfl (fun ls hl => ?_)
                refine lv_goto (tgt := 4) hx hb dX7_thereOf_94 (by decide) ?_
                exact ih x1 (x2 + 1) (x3 + 1) _ _ _ hS (lv_sub hl [2, 3, 1, 0] rfl) hm
          · replace hm := it c37 hm
            refine lv_iload_n hx hb dX7_thereOf_40 rfl (lv_at hl 3 rfl) ?_
            refine lv_iconst (v := 4) hx hb dX7_thereOf_41 (by decide) ?_
            refine lv_icmp_ge (tgt := 58) hx hb dX7_thereOf_42 (by decide) (fun c42 => ?_) (fun c42 => ?_)
            · replace hm := it c42 hm
              refine lv_iconst (v := 0) hx hb dX7_thereOf_58 (by decide) ?_
              refine lv_goto (tgt := 89) hx hb dX7_thereOf_59 (by decide) ?_
              refine lv_iadd hx hb dX7_thereOf_89 ?_
              refine lv_istore_n (lv' := [(2, .int (x2 + 0)), (0, .ref (q 0)), (1, .int x1), (3, .int x3)]) hx hb dX7_thereOf_90 rfl hl (by decide) rfl (fun ls hl => ?_)
              refine lv_iinc (v := x3 + 1) (lv' := [(3, .int (x3 + 1)), (2, .int (x2 + 0)), (0, .ref (q 0)), (1, .int x1)]) hx hb dX7_thereOf_91 hl (k := 3) rfl rfl (by decide) rfl (fun ls hl => ?_)
              refine lv_goto (tgt := 4) hx hb dX7_thereOf_94 (by decide) ?_
              exact ih x1 (x2 + 0) (x3 + 1) _ _ _ hS (lv_sub hl [2, 3, 1, 0] rfl) hm
            · replace hm := ie c42 hm
              refine lv_aload_n hx hb dX7_thereOf_45 rfl (lv_at hl 0 rfl) ?_
              refine g_7_28_0 C hS dX7_thereOf_46 ?_
              refine lv_iload_n hx hb dX7_thereOf_49 rfl (lv_at hl 3 rfl) ?_
              obtain ⟨v50, e50, hm⟩ := ob hm
              refine iald' C hS mw_a7 e50 dX7_thereOf_50 ?_
              refine lv_if_lt (tgt := 58) hx hb dX7_thereOf_51 (by decide) (fun c51 => ?_) (fun c51 => ?_)
              · replace hm := it c51 hm
                refine lv_iconst (v := 0) hx hb dX7_thereOf_58 (by decide) ?_
                refine lv_goto (tgt := 89) hx hb dX7_thereOf_59 (by decide) ?_
                refine lv_iadd hx hb dX7_thereOf_89 ?_
                refine lv_istore_n (lv' := [(2, .int (x2 + 0)), (0, .ref (q 0)), (1, .int x1), (3, .int x3)]) hx hb dX7_thereOf_90 rfl hl (by decide) rfl (fun ls hl => ?_)
                refine lv_iinc (v := x3 + 1) (lv' := [(3, .int (x3 + 1)), (2, .int (x2 + 0)), (0, .ref (q 0)), (1, .int x1)]) hx hb dX7_thereOf_91 hl (k := 3) rfl rfl (by decide) rfl (fun ls hl => ?_)
                refine lv_goto (tgt := 4) hx hb dX7_thereOf_94 (by decide) ?_
                exact ih x1 (x2 + 0) (x3 + 1) _ _ _ hS (lv_sub hl [2, 3, 1, 0] rfl) hm
              · replace hm := ie c51 hm
                refine lv_iconst (v := 1) hx hb dX7_thereOf_54 (by decide) ?_
                refine lv_goto (tgt := 89) hx hb dX7_thereOf_55 (by decide) ?_
                refine lv_iadd hx hb dX7_thereOf_89 ?_
                refine lv_istore_n (lv' := [(2, .int (x2 + 1)), (0, .ref (q 0)), (1, .int x1), (3, .int x3)]) hx hb dX7_thereOf_90 rfl hl (by decide) rfl (fun ls hl => ?_)
                refine lv_iinc (v := x3 + 1) (lv' := [(3, .int (x3 + 1)), (2, .int (x2 + 1)), (0, .ref (q 0)), (1, .int x1)]) hx hb dX7_thereOf_91 hl (k := 3) rfl rfl (by decide) rfl (fun ls hl => ?_)
                refine lv_goto (tgt := 4) hx hb dX7_thereOf_94 (by decide) ?_
                exact ih x1 (x2 + 1) (x3 + 1) _ _ _ hS (lv_sub hl [2, 3, 1, 0] rfl) hm
        · replace hm := it c14 hm
          refine lv_aload_n hx hb dX7_thereOf_17 rfl (lv_at hl 0 rfl) ?_
          refine g_7_22_0 C hS dX7_thereOf_18 ?_
          refine lv_iload_n hx hb dX7_thereOf_21 rfl (lv_at hl 3 rfl) ?_
          obtain ⟨v22, e22, hm⟩ := ob hm
          refine iald' C hS mw_a5 e22 dX7_thereOf_22 ?_
          refine lv_if_ge (tgt := 30) hx hb dX7_thereOf_23 (by decide) (fun c23 => ?_) (fun c23 => ?_)
          · replace hm := it c23 hm
            refine lv_iconst (v := 1) hx hb dX7_thereOf_30 (by decide) ?_
            refine lv_goto (tgt := 89) hx hb dX7_thereOf_31 (by decide) ?_
            refine lv_iadd hx hb dX7_thereOf_89 ?_
            refine lv_istore_n (lv' := [(2, .int (x2 + 1)), (0, .ref (q 0)), (1, .int x1), (3, .int x3)]) hx hb dX7_thereOf_90 rfl hl (by decide) rfl (fun ls hl => ?_)
            refine lv_iinc (v := x3 + 1) (lv' := [(3, .int (x3 + 1)), (2, .int (x2 + 1)), (0, .ref (q 0)), (1, .int x1)]) hx hb dX7_thereOf_91 hl (k := 3) rfl rfl (by decide) rfl (fun ls hl => ?_)
            refine lv_goto (tgt := 4) hx hb dX7_thereOf_94 (by decide) ?_
            exact ih x1 (x2 + 1) (x3 + 1) _ _ _ hS (lv_sub hl [2, 3, 1, 0] rfl) hm
          · replace hm := ie c23 hm
            refine lv_iconst (v := 0) hx hb dX7_thereOf_26 (by decide) ?_
            refine lv_goto (tgt := 89) hx hb dX7_thereOf_27 (by decide) ?_
            refine lv_iadd hx hb dX7_thereOf_89 ?_
            refine lv_istore_n (lv' := [(2, .int (x2 + 0)), (0, .ref (q 0)), (1, .int x1), (3, .int x3)]) hx hb dX7_thereOf_90 rfl hl (by decide) rfl (fun ls hl => ?_)
            refine lv_iinc (v := x3 + 1) (lv' := [(3, .int (x3 + 1)), (2, .int (x2 + 0)), (0, .ref (q 0)), (1, .int x1)]) hx hb dX7_thereOf_91 hl (k := 3) rfl rfl (by decide) rfl (fun ls hl => ?_)
            refine lv_goto (tgt := 4) hx hb dX7_thereOf_94 (by decide) ?_
            exact ih x1 (x2 + 0) (x3 + 1) _ _ _ hS (lv_sub hl [2, 3, 1, 0] rfl) hm
  unfold M_X7_thereOf at hm
  refine lv_iconst (v := 0) hx hb dX7_thereOf_0 (by decide) ?_
  refine lv_istore_n (lv' := [(2, .int 0), (0, .ref (q 0)), (1, .int a1)]) hx hb dX7_thereOf_1 rfl hl (by decide) rfl (fun ls hl => ?_)
  refine lv_iconst (v := 0) hx hb dX7_thereOf_2 (by decide) ?_
  refine lv_istore_n (lv' := [(3, .int 0), (2, .int 0), (0, .ref (q 0)), (1, .int a1)]) hx hb dX7_thereOf_3 rfl hl (by decide) rfl (fun ls hl => ?_)
  exact L4 10000 a1 0 0 _ _ _ hS (lv_sub hl [2, 3, 1, 0] rfl) hm
def M_X7_kindMany_4 (σ : ST) : Nat → Int32 → Int32 → Int32 → Option Int32
  | 0, _, _, _ => none
  | n + 1, x1, x2, x3 => if (σ.1 3) ≤ x3 then some x2 else (M_X7_isOf σ x3 x1).bind fun o16 => if o16 = 0 then M_X7_kindMany_4 σ n x1 (x2 + 0) (x3 + 1) else M_X7_kindMany_4 σ n x1 (x2 + 1) (x3 + 1)
def M_X7_kindMany (σ : ST) (a1 : Int32) : Option Int32 := M_X7_kindMany_4 σ 10000 a1 0 0
abbrev rm_X7_kindMany : Room := { frames := 1, cells := 0, slots := 0, locals := 22 }
set_option maxRecDepth 100000 in
set_option maxHeartbeats 4000000 in
theorem c_X7_kindMany (l : Launch) (d : CD) (q : Nat → Nat) (σ : ST) (a1 : Int32) (out : Int32) (hm : M_X7_kindMany σ a1 = some out) : MetI l yX7_kindMany cX7_kindMany 4 (some .int) rm_X7_kindMany d (mw q d σ) [.ref (q 0), .int a1] out (mw q d σ) := by
  refine mkI (own := RX7) (by decide +kernel) rfl (Nat.le_of_ble_eq_true rfl) ?_
  intro p e s m below meth c A ls C hS hl
  obtain ⟨hx, hb, hml, hown, hts, -⟩ := id C
  have hl : lv_has ls 4 [(0, .ref (q 0)), (1, .int a1)] := hl
  have L4 : ∀ (n : Nat) (x1 : Int32) (x2 : Int32) (x3 : Int32) (H : Heap) (locs : List Loc) (ls : Array Slot), HS d A s.heap H locs (mw q d σ) → lv_has ls 4 [(0, .ref (q 0)), (1, .int x1), (2, .int x2), (3, .int x3)] → M_X7_kindMany_4 σ n x1 x2 x3 = some out → WI p l e rm_X7_kindMany s m [.ref (q 0), .int a1].toArray below meth c A d H locs out (mw q d σ) (F0 m 4 ls []) := by
    intro n
    induction n with
    | zero =>
      intro x1 x2 x3 H locs ls hS hl hm
      exact absurd hm (by rw [M_X7_kindMany_4]; exact fun h => nomatch h)
    | succ n ih =>
      intro x1 x2 x3 H locs ls hS hl hm
      rw [M_X7_kindMany_4] at hm
      refine lv_iload_n hx hb dX7_kindMany_4 rfl (lv_at hl 3 rfl) ?_
      refine lv_aload_n hx hb dX7_kindMany_5 rfl (lv_at hl 0 rfl) ?_
      refine g_7_158_0 C hS dX7_kindMany_6 ?_
      refine lv_icmp_ge (tgt := 35) hx hb dX7_kindMany_9 (by decide) (fun c9 => ?_) (fun c9 => ?_)
      · replace hm := it c9 hm
        refine lv_iload_n hx hb dX7_kindMany_35 rfl (lv_at hl 2 rfl) ?_
        exact retIr C hS hm dX7_kindMany_36
      · replace hm := ie c9 hm
        refine lv_iload_n hx hb dX7_kindMany_12 rfl (lv_at hl 2 rfl) ?_
        refine lv_aload_n hx hb dX7_kindMany_13 rfl (lv_at hl 0 rfl) ?_
        refine lv_iload_n hx hb dX7_kindMany_14 rfl (lv_at hl 3 rfl) ?_
        refine lv_iload_n hx hb dX7_kindMany_15 rfl (lv_at hl 1 rfl) ?_
        obtain ⟨o16, e16, hm⟩ := ob hm
        refine after_i C hS (call_V (As := [.int x3, .int x1]) C hS (c_X7_isOf l d q σ x3 x1 o16 e16 _) iv_7_190 ⟨rfl, rfl, Nat.le_of_ble_eq_true rfl, Nat.le_of_ble_eq_true rfl⟩ mw_o0 rfl rfl rfl hl.1 (Nat.le_of_ble_eq_true rfl) dX7_kindMany_16) (fun H locs hS => ?_)
        refine lv_if_eq (tgt := 26) hx hb dX7_kindMany_19 (by decide) (fun c19 => ?_) (fun c19 => ?_)
        · replace hm := it c19 hm
          refine lv_iconst (v := 0) hx hb dX7_kindMany_26 (by decide) ?_
          refine lv_iadd hx hb dX7_kindMany_27 ?_
          refine lv_istore_n (lv' := [(2, .int (x2 + 0)), (0, .ref (q 0)), (1, .int x1), (3, .int x3)]) hx hb dX7_kindMany_28 rfl hl (by decide) rfl (fun ls hl => ?_)
          refine lv_iinc (v := x3 + 1) (lv' := [(3, .int (x3 + 1)), (2, .int (x2 + 0)), (0, .ref (q 0)), (1, .int x1)]) hx hb dX7_kindMany_29 hl (k := 3) rfl rfl (by decide) rfl (fun ls hl => ?_)
          refine lv_goto (tgt := 4) hx hb dX7_kindMany_32 (by decide) ?_
          exact ih x1 (x2 + 0) (x3 + 1) _ _ _ hS (lv_sub hl [2, 3, 1, 0] rfl) hm
        · replace hm := ie c19 hm
          refine lv_iconst (v := 1) hx hb dX7_kindMany_22 (by decide) ?_
          refine lv_goto (tgt := 27) hx hb dX7_kindMany_23 (by decide) ?_
          refine lv_iadd hx hb dX7_kindMany_27 ?_
          refine lv_istore_n (lv' := [(2, .int (x2 + 1)), (0, .ref (q 0)), (1, .int x1), (3, .int x3)]) hx hb dX7_kindMany_28 rfl hl (by decide) rfl (fun ls hl => ?_)
          refine lv_iinc (v := x3 + 1) (lv' := [(3, .int (x3 + 1)), (2, .int (x2 + 1)), (0, .ref (q 0)), (1, .int x1)]) hx hb dX7_kindMany_29 hl (k := 3) rfl rfl (by decide) rfl (fun ls hl => ?_)
          refine lv_goto (tgt := 4) hx hb dX7_kindMany_32 (by decide) ?_
          exact ih x1 (x2 + 1) (x3 + 1) _ _ _ hS (lv_sub hl [2, 3, 1, 0] rfl) hm
  unfold M_X7_kindMany at hm
  refine lv_iconst (v := 0) hx hb dX7_kindMany_0 (by decide) ?_
  refine lv_istore_n (lv' := [(2, .int 0), (0, .ref (q 0)), (1, .int a1)]) hx hb dX7_kindMany_1 rfl hl (by decide) rfl (fun ls hl => ?_)
  refine lv_iconst (v := 0) hx hb dX7_kindMany_2 (by decide) ?_
  refine lv_istore_n (lv' := [(3, .int 0), (2, .int 0), (0, .ref (q 0)), (1, .int a1)]) hx hb dX7_kindMany_3 rfl hl (by decide) rfl (fun ls hl => ?_)
  exact L4 10000 a1 0 0 _ _ _ hS (lv_sub hl [2, 3, 1, 0] rfl) hm
def M_X7_countOf (σ : ST) (a1 : Int32) : Option Int32 := if a1 = 0 then some (σ.1 3) else if a1 = 1 then (rd 3776 (σ.2.2 1) 1).bind fun v58 => some v58 else if a1 = 2 then (rd 3776 (σ.2.2 1) 0).bind fun v65 => some v65 else if a1 = 3 then (rd 3776 (σ.2.2 1) 2).bind fun v72 => some v72 else if a1 = 4 then some (σ.1 1) else if a1 = 5 then some (σ.1 7) else if a1 = 6 then (M_X7_kindMany σ 1).bind fun o86 => some o86 else if a1 = 7 then (M_X7_kindMany σ 3).bind fun o92 => some o92 else (M_X7_thereOf σ a1).bind fun o98 => some o98
abbrev rm_X7_countOf : Room := { frames := 2, cells := 0, slots := 0, locals := 45 }
set_option maxRecDepth 100000 in
set_option maxHeartbeats 4000000 in
theorem c_X7_countOf (l : Launch) (d : CD) (q : Nat → Nat) (σ : ST) (a1 : Int32) (out : Int32) (hm : M_X7_countOf σ a1 = some out) : MetI l yX7_countOf cX7_countOf 2 (some .int) rm_X7_countOf d (mw q d σ) [.ref (q 0), .int a1] out (mw q d σ) := by
  refine mkI (own := RX7) (by decide +kernel) rfl (Nat.le_of_ble_eq_true rfl) ?_
  intro p e s m below meth c A ls C hS hl
  obtain ⟨hx, hb, hml, hown, hts, -⟩ := id C
  have hl : lv_has ls 2 [(0, .ref (q 0)), (1, .int a1)] := hl
  unfold M_X7_countOf at hm
  refine lv_iload_n hx hb dX7_countOf_0 rfl (lv_at hl 1 rfl) ?_
  by_cases c1_0 : a1 = 0
  · replace hm := it c1_0 hm
    refine lv_tableIn (off := 47) (tgt := 48) hx hb dX7_countOf_1 (by rw [c1_0]; decide) (by rw [c1_0]; decide) (by rw [c1_0]; rfl) (by decide) ?_
    refine lv_aload_n hx hb dX7_countOf_48 rfl (lv_at hl 0 rfl) ?_
    refine g_7_158_0 C hS dX7_countOf_49 ?_
    exact retIr C hS hm dX7_countOf_52
  · replace hm := ie c1_0 hm
    by_cases c1_1 : a1 = 1
    · replace hm := it c1_1 hm
      refine lv_tableIn (off := 52) (tgt := 53) hx hb dX7_countOf_1 (by rw [c1_1]; decide) (by rw [c1_1]; decide) (by rw [c1_1]; rfl) (by decide) ?_
      refine lv_aload_n hx hb dX7_countOf_53 rfl (lv_at hl 0 rfl) ?_
      refine g_7_7_0 C hS dX7_countOf_54 ?_
      refine lv_iconst (v := 1) hx hb dX7_countOf_57 (by decide) ?_
      obtain ⟨v58, e58, hm⟩ := ob hm
      refine iald' C hS mw_a1 e58 dX7_countOf_58 ?_
      exact retIr C hS hm dX7_countOf_59
    · replace hm := ie c1_1 hm
      by_cases c1_2 : a1 = 2
      · replace hm := it c1_2 hm
        refine lv_tableIn (off := 59) (tgt := 60) hx hb dX7_countOf_1 (by rw [c1_2]; decide) (by rw [c1_2]; decide) (by rw [c1_2]; rfl) (by decide) ?_
        refine lv_aload_n hx hb dX7_countOf_60 rfl (lv_at hl 0 rfl) ?_
        refine g_7_7_0 C hS dX7_countOf_61 ?_
        refine lv_iconst (v := 0) hx hb dX7_countOf_64 (by decide) ?_
        obtain ⟨v65, e65, hm⟩ := ob hm
        refine iald' C hS mw_a1 e65 dX7_countOf_65 ?_
        exact retIr C hS hm dX7_countOf_66
      · replace hm := ie c1_2 hm
        by_cases c1_3 : a1 = 3
        · replace hm := it c1_3 hm
          refine lv_tableIn (off := 66) (tgt := 67) hx hb dX7_countOf_1 (by rw [c1_3]; decide) (by rw [c1_3]; decide) (by rw [c1_3]; rfl) (by decide) ?_
          refine lv_aload_n hx hb dX7_countOf_67 rfl (lv_at hl 0 rfl) ?_
          refine g_7_7_0 C hS dX7_countOf_68 ?_
          refine lv_iconst (v := 2) hx hb dX7_countOf_71 (by decide) ?_
          obtain ⟨v72, e72, hm⟩ := ob hm
          refine iald' C hS mw_a1 e72 dX7_countOf_72 ?_
          exact retIr C hS hm dX7_countOf_73
        · replace hm := ie c1_3 hm
          by_cases c1_4 : a1 = 4
          · replace hm := it c1_4 hm
            refine lv_tableIn (off := 73) (tgt := 74) hx hb dX7_countOf_1 (by rw [c1_4]; decide) (by rw [c1_4]; decide) (by rw [c1_4]; rfl) (by decide) ?_
            refine lv_aload_n hx hb dX7_countOf_74 rfl (lv_at hl 0 rfl) ?_
            refine g_7_152_0 C hS dX7_countOf_75 ?_
            exact retIr C hS hm dX7_countOf_78
          · replace hm := ie c1_4 hm
            by_cases c1_5 : a1 = 5
            · replace hm := it c1_5 hm
              refine lv_tableIn (off := 78) (tgt := 79) hx hb dX7_countOf_1 (by rw [c1_5]; decide) (by rw [c1_5]; decide) (by rw [c1_5]; rfl) (by decide) ?_
              refine lv_aload_n hx hb dX7_countOf_79 rfl (lv_at hl 0 rfl) ?_
              refine g_7_161_0 C hS dX7_countOf_80 ?_
              exact retIr C hS hm dX7_countOf_83
            · replace hm := ie c1_5 hm
              by_cases c1_6 : a1 = 6
              · replace hm := it c1_6 hm
                refine lv_tableIn (off := 83) (tgt := 84) hx hb dX7_countOf_1 (by rw [c1_6]; decide) (by rw [c1_6]; decide) (by rw [c1_6]; rfl) (by decide) ?_
                refine lv_aload_n hx hb dX7_countOf_84 rfl (lv_at hl 0 rfl) ?_
                refine lv_iconst (v := 1) hx hb dX7_countOf_85 (by decide) ?_
                obtain ⟨o86, e86, hm⟩ := ob hm
                refine after_i C hS (call_V (As := [.int 1]) C hS (c_X7_kindMany l d q σ 1 o86 e86 _) iv_7_290 ⟨rfl, rfl, Nat.le_of_ble_eq_true rfl, Nat.le_of_ble_eq_true rfl⟩ mw_o0 rfl rfl rfl hl.1 (Nat.le_of_ble_eq_true rfl) dX7_countOf_86) (fun H locs hS => ?_)
                exact retIr C hS hm dX7_countOf_89
              · replace hm := ie c1_6 hm
                by_cases c1_7 : a1 = 7
                · replace hm := it c1_7 hm
                  refine lv_tableIn (off := 89) (tgt := 90) hx hb dX7_countOf_1 (by rw [c1_7]; decide) (by rw [c1_7]; decide) (by rw [c1_7]; rfl) (by decide) ?_
                  refine lv_aload_n hx hb dX7_countOf_90 rfl (lv_at hl 0 rfl) ?_
                  refine lv_iconst (v := 3) hx hb dX7_countOf_91 (by decide) ?_
                  obtain ⟨o92, e92, hm⟩ := ob hm
                  refine after_i C hS (call_V (As := [.int 3]) C hS (c_X7_kindMany l d q σ 3 o92 e92 _) iv_7_290 ⟨rfl, rfl, Nat.le_of_ble_eq_true rfl, Nat.le_of_ble_eq_true rfl⟩ mw_o0 rfl rfl rfl hl.1 (Nat.le_of_ble_eq_true rfl) dX7_countOf_92) (fun H locs hS => ?_)
                  exact retIr C hS hm dX7_countOf_95
                · replace hm := ie c1_7 hm
                  refine lv_tableOut (tgt := 96) hx hb dX7_countOf_1 (by have h0 : a1.toInt ≠ 0 := ts_ne c1_0; have h1 : a1.toInt ≠ 1 := ts_ne c1_1; have h2 : a1.toInt ≠ 2 := ts_ne c1_2; have h3 : a1.toInt ≠ 3 := ts_ne c1_3; have h4 : a1.toInt ≠ 4 := ts_ne c1_4; have h5 : a1.toInt ≠ 5 := ts_ne c1_5; have h6 : a1.toInt ≠ 6 := ts_ne c1_6; have h7 : a1.toInt ≠ 7 := ts_ne c1_7; omega) (by decide) ?_
                  refine lv_aload_n hx hb dX7_countOf_96 rfl (lv_at hl 0 rfl) ?_
                  refine lv_iload_n hx hb dX7_countOf_97 rfl (lv_at hl 1 rfl) ?_
                  obtain ⟨o98, e98, hm⟩ := ob hm
                  refine after_i C hS (call_V (As := [.int a1]) C hS (c_X7_thereOf l d q σ a1 o98 e98 _) iv_7_293 ⟨rfl, rfl, Nat.le_of_ble_eq_true rfl, Nat.le_of_ble_eq_true rfl⟩ mw_o0 rfl rfl rfl hl.1 (Nat.le_of_ble_eq_true rfl) dX7_countOf_98) (fun H locs hS => ?_)
                  exact retIr C hS hm dX7_countOf_101
def M_X7_count (σ : ST) (a1 : Int32) : Option Int32 := (M_X7_in a1.toInt64 0 10).bind fun o6 => if o6 = 0 then some (-1) else (M_X7_countOf σ a1).bind fun o14 => some o14
abbrev rm_X7_count : Room := { frames := 3, cells := 0, slots := 0, locals := 66 }
set_option maxRecDepth 100000 in
set_option maxHeartbeats 4000000 in
theorem c_X7_count (l : Launch) (d : CD) (q : Nat → Nat) (σ : ST) (a1 : Int32) (out : Int32) (hm : M_X7_count σ a1 = some out) : MetI l yX7_count cX7_count 2 (some .int) rm_X7_count d (mw q d σ) [.ref (q 0), .int a1] out (mw q d σ) := by
  refine mkI (own := RX7) (by decide +kernel) rfl (Nat.le_of_ble_eq_true rfl) ?_
  intro p e s m below meth c A ls C hS hl
  obtain ⟨hx, hb, hml, hown, hts, -⟩ := id C
  have hl : lv_has ls 2 [(0, .ref (q 0)), (1, .int a1)] := hl
  unfold M_X7_count at hm
  refine lv_iload_n hx hb dX7_count_0 rfl (lv_at hl 1 rfl) ?_
  refine lv_i2l (v := a1.toInt64) hx hb dX7_count_1 rfl ?_
  refine lv_lconst (v := 0) hx hb dX7_count_2 (by decide) ?_
  refine lv_ldc2 (v := 10) hx hb hown (hts _ lc_X7_296) dX7_count_3 ?_
  obtain ⟨o6, e6, hm⟩ := ob hm
  refine after_i C hS (call_S (As := [.long a1.toInt64, .long 0, .long 10]) C hS (c_X7_in l d (mw q d σ) a1.toInt64 0 10 o6 e6 _) is_7_66 ⟨rfl, rfl, Nat.le_of_ble_eq_true rfl, Nat.le_of_ble_eq_true rfl⟩ rfl hl.1 (Nat.le_of_ble_eq_true rfl) dX7_count_6) (fun H locs hS => ?_)
  refine lv_if_eq (tgt := 20) hx hb dX7_count_9 (by decide) (fun c9 => ?_) (fun c9 => ?_)
  · replace hm := it c9 hm
    refine lv_iconst (v := (-1)) hx hb dX7_count_20 (by decide) ?_
    exact retIr C hS hm dX7_count_21
  · replace hm := ie c9 hm
    refine lv_aload_n hx hb dX7_count_12 rfl (lv_at hl 0 rfl) ?_
    refine lv_iload_n hx hb dX7_count_13 rfl (lv_at hl 1 rfl) ?_
    obtain ⟨o14, e14, hm⟩ := ob hm
    refine after_i C hS (call_V (As := [.int a1]) C hS (c_X7_countOf l d q σ a1 o14 e14 _) iv_7_298 ⟨rfl, rfl, Nat.le_of_ble_eq_true rfl, Nat.le_of_ble_eq_true rfl⟩ mw_o0 rfl rfl rfl hl.1 (Nat.le_of_ble_eq_true rfl) dX7_count_14) (fun H locs hS => ?_)
    refine lv_goto (tgt := 21) hx hb dX7_count_17 (by decide) ?_
    exact retIr C hS hm dX7_count_21
def M_X7_finding (σ : ST) : Option Int32 := some (σ.1 15)
abbrev rm_X7_finding : Room := { frames := 0, cells := 0, slots := 0, locals := 0 }
set_option maxRecDepth 100000 in
set_option maxHeartbeats 4000000 in
theorem c_X7_finding (l : Launch) (d : CD) (q : Nat → Nat) (σ : ST) (out : Int32) (hm : M_X7_finding σ = some out) : MetI l yX7_finding cX7_finding 1 (some .int) rm_X7_finding d (mw q d σ) [.ref (q 0)] out (mw q d σ) := by
  refine mkI (own := RX7) (by decide +kernel) rfl (Nat.le_of_ble_eq_true rfl) ?_
  intro p e s m below meth c A ls C hS hl
  obtain ⟨hx, hb, hml, hown, hts, -⟩ := id C
  have hl : lv_has ls 1 [(0, .ref (q 0))] := hl
  unfold M_X7_finding at hm
  refine lv_aload_n hx hb dX7_finding_0 rfl (lv_at hl 0 rfl) ?_
  refine g_7_57_0 C hS dX7_finding_1 ?_
  exact retIr C hS hm dX7_finding_4
def M_X7_findings (σ : ST) (a1 : Int32) : Option Int32 := (M_X7_in a1.toInt64 1 5).bind fun o6 => if o6 = 0 then some (-1) else (rd 6 (σ.2.2 9) a1).bind fun v17 => some v17
abbrev rm_X7_findings : Room := { frames := 1, cells := 0, slots := 0, locals := 25 }
set_option maxRecDepth 100000 in
set_option maxHeartbeats 4000000 in
theorem c_X7_findings (l : Launch) (d : CD) (q : Nat → Nat) (σ : ST) (a1 : Int32) (out : Int32) (hm : M_X7_findings σ a1 = some out) : MetI l yX7_findings cX7_findings 2 (some .int) rm_X7_findings d (mw q d σ) [.ref (q 0), .int a1] out (mw q d σ) := by
  refine mkI (own := RX7) (by decide +kernel) rfl (Nat.le_of_ble_eq_true rfl) ?_
  intro p e s m below meth c A ls C hS hl
  obtain ⟨hx, hb, hml, hown, hts, -⟩ := id C
  have hl : lv_has ls 2 [(0, .ref (q 0)), (1, .int a1)] := hl
  unfold M_X7_findings at hm
  refine lv_iload_n hx hb dX7_findings_0 rfl (lv_at hl 1 rfl) ?_
  refine lv_i2l (v := a1.toInt64) hx hb dX7_findings_1 rfl ?_
  refine lv_lconst (v := 1) hx hb dX7_findings_2 (by decide) ?_
  refine lv_ldc2 (v := 5) hx hb hown (hts _ lc_X7_64) dX7_findings_3 ?_
  obtain ⟨o6, e6, hm⟩ := ob hm
  refine after_i C hS (call_S (As := [.long a1.toInt64, .long 1, .long 5]) C hS (c_X7_in l d (mw q d σ) a1.toInt64 1 5 o6 e6 _) is_7_66 ⟨rfl, rfl, Nat.le_of_ble_eq_true rfl, Nat.le_of_ble_eq_true rfl⟩ rfl hl.1 (Nat.le_of_ble_eq_true rfl) dX7_findings_6) (fun H locs hS => ?_)
  refine lv_if_eq (tgt := 21) hx hb dX7_findings_9 (by decide) (fun c9 => ?_) (fun c9 => ?_)
  · replace hm := it c9 hm
    refine lv_iconst (v := (-1)) hx hb dX7_findings_21 (by decide) ?_
    exact retIr C hS hm dX7_findings_22
  · replace hm := ie c9 hm
    refine lv_aload_n hx hb dX7_findings_12 rfl (lv_at hl 0 rfl) ?_
    refine g_7_38_0 C hS dX7_findings_13 ?_
    refine lv_iload_n hx hb dX7_findings_16 rfl (lv_at hl 1 rfl) ?_
    obtain ⟨v17, e17, hm⟩ := ob hm
    refine iald' C hS mw_a9 e17 dX7_findings_17 ?_
    refine lv_goto (tgt := 22) hx hb dX7_findings_18 (by decide) ?_
    exact retIr C hS hm dX7_findings_22
