def M_X7_noPairs_50 : Nat → ST → Int32 → Int32 → Int32 → Option (Int32 × ST)
  | 0, _, _, _, _ => none
  | n + 1, σ, x1, x2, x3 => (rd 6 (σ.2.2 5) x1).bind fun v60 => if ((40 * x1) + v60) ≤ x3 then if x2 = 0 then (M_X7_find σ 3).bind fun o121 => some (o121.1, o121.2) else some (0, σ) else if x2 = 0 then M_X7_noPairs_50 n σ x1 0 (x3 + 2) else (rd 240 (σ.2.2 6) x3).bind fun v75 => (M_X7_isSet σ v75).bind fun o76 => if o76 = 0 then M_X7_noPairs_50 n σ x1 0 (x3 + 2) else (rd 240 (σ.2.2 6) (x3 + 1)).bind fun v89 => (M_X7_in v89.toInt64 0 1).bind fun o93 => if o93 = 0 then M_X7_noPairs_50 n σ x1 0 (x3 + 2) else M_X7_noPairs_50 n σ x1 1 (x3 + 2)
def M_X7_noPairs_37 (σ : ST) : Option (Int32 × ST) := (M_X7_find σ 5).bind fun o39 => some (o39.1, o39.2)
def M_X7_noPairs (σ : ST) (a1 : Int32) : Option (Int32 × ST) := (rd 6 (σ.2.2 5) a1).bind fun v5 => if 0 ≤ v5 then (rd 6 (σ.2.2 5) a1).bind fun v20 => if (v20 - v20 / 2 * 2) = 0 then (rd 6 (σ.2.2 5) a1).bind fun v31 => if v31 ≤ 16 then M_X7_noPairs_50 10000 σ a1 1 (40 * a1) else M_X7_noPairs_37 σ else M_X7_noPairs_37 σ else (M_X7_find σ 1).bind fun o11 => some (o11.1, o11.2)
abbrev rm_X7_noPairs : Room := { frames := 2, cells := 0, slots := 0, locals := 46 }
set_option maxRecDepth 100000 in
set_option maxHeartbeats 4000000 in
theorem c_X7_noPairs (l : Launch) (d : CD) (q : Nat → Nat) (σ : ST) (a1 : Int32) (out : Int32 × ST) (hm : M_X7_noPairs σ a1 = some out) : MetI l yX7_noPairs cX7_noPairs 4 (some .int) rm_X7_noPairs d (mw q d σ) [.ref (q 0), .int a1] out.1 (mw q d out.2) := by
  refine mkI (own := RX7) (by decide +kernel) rfl (Nat.le_of_ble_eq_true rfl) ?_
  intro p e s m below meth c A ls C hS hl
  obtain ⟨hx, hb, hml, hown, hts, -⟩ := id C
  have hl : lv_has ls 4 [(0, .ref (q 0)), (1, .int a1)] := hl
  have L50 : ∀ (n : Nat) (σ : ST) (x1 : Int32) (x2 : Int32) (x3 : Int32) (H : Heap) (locs : List Loc) (ls : Array Slot), HS d A s.heap H locs (mw q d σ) → lv_has ls 4 [(0, .ref (q 0)), (1, .int x1), (2, .int x2), (3, .int x3)] → M_X7_noPairs_50 n σ x1 x2 x3 = some out → WI p l e rm_X7_noPairs s m [.ref (q 0), .int a1].toArray below meth c A d H locs out.1 (mw q d out.2) (F0 m 50 ls []) := by
    intro n
    induction n with
    | zero =>
      intro σ x1 x2 x3 H locs ls hS hl hm
      exact absurd hm (by rw [M_X7_noPairs_50]; exact fun h => nomatch h)
    | succ n ih =>
      intro σ x1 x2 x3 H locs ls hS hl hm
      rw [M_X7_noPairs_50] at hm
      refine lv_iload_n hx hb dX7_noPairs_50 rfl (lv_at hl 3 rfl) ?_
      refine lv_bipush (v := 40) hx hb dX7_noPairs_51 (by decide) ?_
      refine lv_iload_n hx hb dX7_noPairs_53 rfl (lv_at hl 1 rfl) ?_
      refine lv_imul hx hb dX7_noPairs_54 ?_
      refine lv_aload_n hx hb dX7_noPairs_55 rfl (lv_at hl 0 rfl) ?_
      refine g_7_22_0 C hS dX7_noPairs_56 ?_
      refine lv_iload_n hx hb dX7_noPairs_59 rfl (lv_at hl 1 rfl) ?_
      obtain ⟨v60, e60, hm⟩ := ob hm
      refine iald' C hS mw_a5 e60 dX7_noPairs_60 ?_
      refine lv_iadd hx hb dX7_noPairs_61 ?_
      refine lv_icmp_ge (tgt := 111) hx hb dX7_noPairs_62 (by decide) (fun c62 => ?_) (fun c62 => ?_)
      · replace hm := it c62 hm
        refine lv_iload_n hx hb dX7_noPairs_111 rfl (lv_at hl 2 rfl) ?_
        refine lv_if_eq (tgt := 119) hx hb dX7_noPairs_112 (by decide) (fun c112 => ?_) (fun c112 => ?_)
        · replace hm := it c112 hm
          refine lv_aload_n hx hb dX7_noPairs_119 rfl (lv_at hl 0 rfl) ?_
          refine lv_iconst (v := 3) hx hb dX7_noPairs_120 (by decide) ?_
          obtain ⟨o121, e121, hm⟩ := ob hm
          refine after_i C hS (call_V (As := [.int 3]) C hS (c_X7_find l d q σ 3 o121 e121 _) iv_7_76 ⟨rfl, rfl, Nat.le_of_ble_eq_true rfl, Nat.le_of_ble_eq_true rfl⟩ mw_o0 rfl rfl rfl hl.1 (Nat.le_of_ble_eq_true rfl) dX7_noPairs_121) (fun H locs hS => ?_)
          exact retIw (wf := mw q d) C hS hm dX7_noPairs_124
        · replace hm := ie c112 hm
          refine lv_iconst (v := 0) hx hb dX7_noPairs_115 (by decide) ?_
          refine lv_goto (tgt := 124) hx hb dX7_noPairs_116 (by decide) ?_
          exact retIw (wf := mw q d) C hS hm dX7_noPairs_124
      · replace hm := ie c62 hm
        refine lv_iload_n hx hb dX7_noPairs_65 rfl (lv_at hl 2 rfl) ?_
        refine lv_if_eq (tgt := 103) hx hb dX7_noPairs_66 (by decide) (fun c66 => ?_) (fun c66 => ?_)
        · replace hm := it c66 hm
          refine lv_iconst (v := 0) hx hb dX7_noPairs_103 (by decide) ?_
          refine lv_istore_n (lv' := [(2, .int 0), (0, .ref (q 0)), (1, .int x1), (3, .int x3)]) hx hb dX7_noPairs_104 rfl hl (by decide) rfl (fun ls hl => ?_)
          refine lv_iinc (v := x3 + 2) (lv' := [(3, .int (x3 + 2)), (2, .int 0), (0, .ref (q 0)), (1, .int x1)]) hx hb dX7_noPairs_105 hl (k := 3) rfl rfl (by decide) rfl (fun ls hl => ?_)
          refine lv_goto (tgt := 50) hx hb dX7_noPairs_108 (by decide) ?_
          exact ih σ x1 0 (x3 + 2) _ _ _ hS (lv_sub hl [2, 3, 1, 0] rfl) hm
        · replace hm := ie c66 hm
          refine lv_aload_n hx hb dX7_noPairs_69 rfl (lv_at hl 0 rfl) ?_
          refine lv_aload_n hx hb dX7_noPairs_70 rfl (lv_at hl 0 rfl) ?_
          refine g_7_25_0 C hS dX7_noPairs_71 ?_
          refine lv_iload_n hx hb dX7_noPairs_74 rfl (lv_at hl 3 rfl) ?_
          obtain ⟨v75, e75, hm⟩ := ob hm
          refine iald' C hS mw_a6 e75 dX7_noPairs_75 ?_
          obtain ⟨o76, e76, hm⟩ := ob hm
          refine after_i C hS (call_V (As := [.int v75]) C hS (c_X7_isSet l d q σ v75 o76 e76 _) iv_7_219 ⟨rfl, rfl, Nat.le_of_ble_eq_true rfl, Nat.le_of_ble_eq_true rfl⟩ mw_o0 rfl rfl rfl hl.1 (Nat.le_of_ble_eq_true rfl) dX7_noPairs_76) (fun H locs hS => ?_)
          refine lv_if_eq (tgt := 103) hx hb dX7_noPairs_79 (by decide) (fun c79 => ?_) (fun c79 => ?_)
          · replace hm := it c79 hm
            refine lv_iconst (v := 0) hx hb dX7_noPairs_103 (by decide) ?_
            refine lv_istore_n (lv' := [(2, .int 0), (0, .ref (q 0)), (1, .int x1), (3, .int x3)]) hx hb dX7_noPairs_104 rfl hl (by decide) rfl (fun ls hl => ?_)
            refine lv_iinc (v := x3 + 2) (lv' := [(3, .int (x3 + 2)), (2, .int 0), (0, .ref (q 0)), (1, .int x1)]) hx hb dX7_noPairs_105 hl (k := 3) rfl rfl (by decide) rfl (fun ls hl => ?_)
            refine lv_goto (tgt := 50) hx hb dX7_noPairs_108 (by decide) ?_
            exact ih σ x1 0 (x3 + 2) _ _ _ hS (lv_sub hl [2, 3, 1, 0] rfl) hm
          · replace hm := ie c79 hm
            refine lv_aload_n hx hb dX7_noPairs_82 rfl (lv_at hl 0 rfl) ?_
            refine g_7_25_0 C hS dX7_noPairs_83 ?_
            refine lv_iload_n hx hb dX7_noPairs_86 rfl (lv_at hl 3 rfl) ?_
            refine lv_iconst (v := 1) hx hb dX7_noPairs_87 (by decide) ?_
            refine lv_iadd hx hb dX7_noPairs_88 ?_
            obtain ⟨v89, e89, hm⟩ := ob hm
            refine iald' C hS mw_a6 e89 dX7_noPairs_89 ?_
            refine lv_i2l (v := v89.toInt64) hx hb dX7_noPairs_90 rfl ?_
            refine lv_lconst (v := 0) hx hb dX7_noPairs_91 (by decide) ?_
            refine lv_lconst (v := 1) hx hb dX7_noPairs_92 (by decide) ?_
            obtain ⟨o93, e93, hm⟩ := ob hm
            refine after_i C hS (call_S (As := [.long v89.toInt64, .long 0, .long 1]) C hS (c_X7_in l d (mw q d σ) v89.toInt64 0 1 o93 e93 _) is_7_66 ⟨rfl, rfl, Nat.le_of_ble_eq_true rfl, Nat.le_of_ble_eq_true rfl⟩ rfl hl.1 (Nat.le_of_ble_eq_true rfl) dX7_noPairs_93) (fun H locs hS => ?_)
            refine lv_if_eq (tgt := 103) hx hb dX7_noPairs_96 (by decide) (fun c96 => ?_) (fun c96 => ?_)
            · replace hm := it c96 hm
              refine lv_iconst (v := 0) hx hb dX7_noPairs_103 (by decide) ?_
              refine lv_istore_n (lv' := [(2, .int 0), (0, .ref (q 0)), (1, .int x1), (3, .int x3)]) hx hb dX7_noPairs_104 rfl hl (by decide) rfl (fun ls hl => ?_)
              refine lv_iinc (v := x3 + 2) (lv' := [(3, .int (x3 + 2)), (2, .int 0), (0, .ref (q 0)), (1, .int x1)]) hx hb dX7_noPairs_105 hl (k := 3) rfl rfl (by decide) rfl (fun ls hl => ?_)
              refine lv_goto (tgt := 50) hx hb dX7_noPairs_108 (by decide) ?_
              exact ih σ x1 0 (x3 + 2) _ _ _ hS (lv_sub hl [2, 3, 1, 0] rfl) hm
            · replace hm := ie c96 hm
              refine lv_iconst (v := 1) hx hb dX7_noPairs_99 (by decide) ?_
              refine lv_goto (tgt := 104) hx hb dX7_noPairs_100 (by decide) ?_
              refine lv_istore_n (lv' := [(2, .int 1), (0, .ref (q 0)), (1, .int x1), (3, .int x3)]) hx hb dX7_noPairs_104 rfl hl (by decide) rfl (fun ls hl => ?_)
              refine lv_iinc (v := x3 + 2) (lv' := [(3, .int (x3 + 2)), (2, .int 1), (0, .ref (q 0)), (1, .int x1)]) hx hb dX7_noPairs_105 hl (k := 3) rfl rfl (by decide) rfl (fun ls hl => ?_)
              refine lv_goto (tgt := 50) hx hb dX7_noPairs_108 (by decide) ?_
              exact ih σ x1 1 (x3 + 2) _ _ _ hS (lv_sub hl [2, 3, 1, 0] rfl) hm
  have J37 : ∀ (σ : ST) (H : Heap) (locs : List Loc) (ls : Array Slot), HS d A s.heap H locs (mw q d σ) → lv_has ls 4 [(0, .ref (q 0))] → M_X7_noPairs_37 σ = some out → WI p l e rm_X7_noPairs s m [.ref (q 0), .int a1].toArray below meth c A d H locs out.1 (mw q d out.2) (F0 m 37 ls []) := by
    intro σ H locs ls hS hl hm
    unfold M_X7_noPairs_37 at hm
    refine lv_aload_n hx hb dX7_noPairs_37 rfl (lv_at hl 0 rfl) ?_
    refine lv_iconst (v := 5) hx hb dX7_noPairs_38 (by decide) ?_
    obtain ⟨o39, e39, hm⟩ := ob hm
    refine after_i C hS (call_V (As := [.int 5]) C hS (c_X7_find l d q σ 5 o39 e39 _) iv_7_76 ⟨rfl, rfl, Nat.le_of_ble_eq_true rfl, Nat.le_of_ble_eq_true rfl⟩ mw_o0 rfl rfl rfl hl.1 (Nat.le_of_ble_eq_true rfl) dX7_noPairs_39) (fun H locs hS => ?_)
    exact retIw (wf := mw q d) C hS hm dX7_noPairs_42
  unfold M_X7_noPairs at hm
  refine lv_aload_n hx hb dX7_noPairs_0 rfl (lv_at hl 0 rfl) ?_
  refine g_7_22_0 C hS dX7_noPairs_1 ?_
  refine lv_iload_n hx hb dX7_noPairs_4 rfl (lv_at hl 1 rfl) ?_
  obtain ⟨v5, e5, hm⟩ := ob hm
  refine iald' C hS mw_a5 e5 dX7_noPairs_5 ?_
  refine lv_if_ge (tgt := 15) hx hb dX7_noPairs_6 (by decide) (fun c6 => ?_) (fun c6 => ?_)
  · replace hm := it c6 hm
    refine lv_aload_n hx hb dX7_noPairs_15 rfl (lv_at hl 0 rfl) ?_
    refine g_7_22_0 C hS dX7_noPairs_16 ?_
    refine lv_iload_n hx hb dX7_noPairs_19 rfl (lv_at hl 1 rfl) ?_
    obtain ⟨v20, e20, hm⟩ := ob hm
    refine iald' C hS mw_a5 e20 dX7_noPairs_20 ?_
    refine lv_iconst (v := 2) hx hb dX7_noPairs_21 (by decide) ?_
    refine lv_irem hx hb dX7_noPairs_22 (by decide) ?_
    refine lv_if_ne (tgt := 37) hx hb dX7_noPairs_23 (by decide) (fun c23 => ?_) (fun c23 => ?_)
    · replace hm := ie c23 hm
      exact J37 σ _ _ _ hS (lv_sub hl [0] rfl) hm
    · replace hm := it c23 hm
      refine lv_aload_n hx hb dX7_noPairs_26 rfl (lv_at hl 0 rfl) ?_
      refine g_7_22_0 C hS dX7_noPairs_27 ?_
      refine lv_iload_n hx hb dX7_noPairs_30 rfl (lv_at hl 1 rfl) ?_
      obtain ⟨v31, e31, hm⟩ := ob hm
      refine iald' C hS mw_a5 e31 dX7_noPairs_31 ?_
      refine lv_bipush (v := 16) hx hb dX7_noPairs_32 (by decide) ?_
      refine lv_icmp_le (tgt := 43) hx hb dX7_noPairs_34 (by decide) (fun c34 => ?_) (fun c34 => ?_)
      · replace hm := it c34 hm
        refine lv_iconst (v := 1) hx hb dX7_noPairs_43 (by decide) ?_
        refine lv_istore_n (lv' := [(2, .int 1), (0, .ref (q 0)), (1, .int a1)]) hx hb dX7_noPairs_44 rfl hl (by decide) rfl (fun ls hl => ?_)
        refine lv_bipush (v := 40) hx hb dX7_noPairs_45 (by decide) ?_
        refine lv_iload_n hx hb dX7_noPairs_47 rfl (lv_at hl 2 rfl) ?_
        refine lv_imul hx hb dX7_noPairs_48 ?_
        refine lv_istore_n (lv' := [(3, .int (40 * a1)), (2, .int 1), (0, .ref (q 0)), (1, .int a1)]) hx hb dX7_noPairs_49 rfl hl (by decide) rfl (fun ls hl => ?_)
        exact L50 10000 σ a1 1 (40 * a1) _ _ _ hS (lv_sub hl [2, 3, 1, 0] rfl) hm
      · replace hm := ie c34 hm
        exact J37 σ _ _ _ hS (lv_sub hl [0] rfl) hm
  · replace hm := ie c6 hm
    refine lv_aload_n hx hb dX7_noPairs_9 rfl (lv_at hl 0 rfl) ?_
    refine lv_iconst (v := 1) hx hb dX7_noPairs_10 (by decide) ?_
    obtain ⟨o11, e11, hm⟩ := ob hm
    refine after_i C hS (call_V (As := [.int 1]) C hS (c_X7_find l d q σ 1 o11 e11 _) iv_7_76 ⟨rfl, rfl, Nat.le_of_ble_eq_true rfl, Nat.le_of_ble_eq_true rfl⟩ mw_o0 rfl rfl rfl hl.1 (Nat.le_of_ble_eq_true rfl) dX7_noPairs_11) (fun H locs hS => ?_)
    exact retIw (wf := mw q d) C hS hm dX7_noPairs_14
def M_X7_twice_144 (k26 : ST → Int32 → Int32 → Int32 → Option (Int32 × ST)) (k44 : ST → Int32 → Int32 → Int32 → Int32 → Int32 → Option (Int32 × ST)) (σ : ST) (x1 : Int32) (x3 : Int32) (x4 : Int32) (x6 : Int32) (y0 : Int32) (y1 : Int32) : Option (Int32 × ST) := if y0 = y1 then k44 σ x1 x3 x4 1 (x6 + 2) else k44 σ x1 x3 x4 0 (x6 + 2)
def M_X7_twice_126 (k26 : ST → Int32 → Int32 → Int32 → Option (Int32 × ST)) (k44 : ST → Int32 → Int32 → Int32 → Int32 → Int32 → Option (Int32 × ST)) (σ : ST) (x1 : Int32) (x3 : Int32) (x4 : Int32) (x6 : Int32) (y0 : Int32) : Option (Int32 × ST) := (rd 240 (σ.2.2 6) (x6 + 1)).bind fun v134 => if v134 = 1 then M_X7_twice_144 k26 k44 σ x1 x3 x4 x6 y0 1 else M_X7_twice_144 k26 k44 σ x1 x3 x4 x6 y0 0
def M_X7_twice_125 (k26 : ST → Int32 → Int32 → Int32 → Option (Int32 × ST)) (k44 : ST → Int32 → Int32 → Int32 → Int32 → Int32 → Option (Int32 × ST)) (σ : ST) (x1 : Int32) (x3 : Int32) (x4 : Int32) (x6 : Int32) : Option (Int32 × ST) := M_X7_twice_126 k26 k44 σ x1 x3 x4 x6 0
def M_X7_twice_90 (k26 : ST → Int32 → Int32 → Int32 → Option (Int32 × ST)) (k44 : ST → Int32 → Int32 → Int32 → Int32 → Int32 → Option (Int32 × ST)) (σ : ST) (x1 : Int32) (x3 : Int32) (x4 : Int32) (x5 : Int32) (x6 : Int32) (y0 : Int32) (y1 : Int32) : Option (Int32 × ST) := if x5 = 0 then k44 σ x1 x3 x4 0 (x6 + 2) else if (y0 + y1) < (σ.1 1) then M_X7_twice_125 k26 k44 σ x1 x3 x4 x6 else (rd 240 (σ.2.2 6) x6).bind fun v114 => (M_X7_isPeace σ v114).bind fun o115 => if o115 = 0 then M_X7_twice_125 k26 k44 σ x1 x3 x4 x6 else M_X7_twice_126 k26 k44 σ x1 x3 x4 x6 1
def M_X7_twice_44 (k26 : ST → Int32 → Int32 → Int32 → Option (Int32 × ST)) : Nat → ST → Int32 → Int32 → Int32 → Int32 → Int32 → Option (Int32 × ST)
  | 0, _, _, _, _, _, _ => none
  | n + 1, σ, x1, x3, x4, x5, x6 => (rd 6 (σ.2.2 5) x1).bind fun v55 => if ((40 * x1) + v55) ≤ x6 then if x5 = 0 then k26 σ x1 (x3 ||| 0) (x4 + 1) else k26 σ x1 (x3 ||| ((1 : Int32) <<< (x4 &&& 31))) (x4 + 1) else (rd 240 (σ.2.2 6) x6).bind fun v66 => (M_X7_bits v66).bind fun o67 => (rd 240 (σ.2.2 6) x6).bind fun v76 => (M_X7_has v76 x4).bind fun o79 => if o79 = 0 then M_X7_twice_90 k26 (M_X7_twice_44 k26 n) σ x1 x3 x4 x5 x6 o67 0 else M_X7_twice_90 k26 (M_X7_twice_44 k26 n) σ x1 x3 x4 x5 x6 o67 1
def M_X7_twice_26 : Nat → ST → Int32 → Int32 → Int32 → Option (Int32 × ST)
  | 0, _, _, _, _ => none
  | n + 1, σ, x1, x3, x4 => if (σ.1 3) ≤ x4 then some (x3, σ) else M_X7_twice_44 (M_X7_twice_26 n) 10000 σ x1 x3 x4 1 (40 * x1)
def M_X7_twice (σ : ST) (a1 : Int32) : Option (Int32 × ST) := (M_X7_isRow a1).bind fun o1 => if o1 = 0 then some ((-1), σ) else (M_X7_noPairs σ a1).bind fun o11 => if o11.1 = 0 then M_X7_twice_26 10000 o11.2 a1 0 0 else some (o11.1, o11.2)
abbrev rm_X7_twice : Room := { frames := 3, cells := 0, slots := 0, locals := 69 }
set_option maxRecDepth 100000 in
set_option maxHeartbeats 4000000 in
theorem c_X7_twice (l : Launch) (d : CD) (q : Nat → Nat) (σ : ST) (a1 : Int32) (out : Int32 × ST) (hm : M_X7_twice σ a1 = some out) : MetI l yX7_twice cX7_twice 8 (some .int) rm_X7_twice d (mw q d σ) [.ref (q 0), .int a1] out.1 (mw q d out.2) := by
  refine mkI (own := RX7) (by decide +kernel) rfl (Nat.le_of_ble_eq_true rfl) ?_
  intro p e s m below meth c A ls C hS hl
  obtain ⟨hx, hb, hml, hown, hts, -⟩ := id C
  have hl : lv_has ls 8 [(0, .ref (q 0)), (1, .int a1)] := hl
  have J144 : ∀ (k26 : ST → Int32 → Int32 → Int32 → Option (Int32 × ST)) (hk26 : ∀ (σ : ST) (x1 : Int32) (x3 : Int32) (x4 : Int32) (H : Heap) (locs : List Loc) (ls : Array Slot), HS d A s.heap H locs (mw q d σ) → lv_has ls 8 [(0, .ref (q 0)), (1, .int x1), (3, .int x3), (4, .int x4)] → k26 σ x1 x3 x4 = some out → WI p l e rm_X7_twice s m [.ref (q 0), .int a1].toArray below meth c A d H locs out.1 (mw q d out.2) (F0 m 26 ls [])) (k44 : ST → Int32 → Int32 → Int32 → Int32 → Int32 → Option (Int32 × ST)) (hk44 : ∀ (σ : ST) (x1 : Int32) (x3 : Int32) (x4 : Int32) (x5 : Int32) (x6 : Int32) (H : Heap) (locs : List Loc) (ls : Array Slot), HS d A s.heap H locs (mw q d σ) → lv_has ls 8 [(0, .ref (q 0)), (1, .int x1), (3, .int x3), (4, .int x4), (5, .int x5), (6, .int x6)] → k44 σ x1 x3 x4 x5 x6 = some out → WI p l e rm_X7_twice s m [.ref (q 0), .int a1].toArray below meth c A d H locs out.1 (mw q d out.2) (F0 m 44 ls [])) (σ : ST) (x1 : Int32) (x3 : Int32) (x4 : Int32) (x6 : Int32) (y0 : Int32) (y1 : Int32) (H : Heap) (locs : List Loc) (ls : Array Slot), HS d A s.heap H locs (mw q d σ) → lv_has ls 8 [(0, .ref (q 0)), (1, .int x1), (3, .int x3), (4, .int x4), (6, .int x6)] → M_X7_twice_144 k26 k44 σ x1 x3 x4 x6 y0 y1 = some out → WI p l e rm_X7_twice s m [.ref (q 0), .int a1].toArray below meth c A d H locs out.1 (mw q d out.2) (F0 m 144 ls [.int y1, .int y0]) := by
    intro k26 hk26 k44 hk44 σ x1 x3 x4 x6 y0 y1 H locs ls hS hl hm
    unfold M_X7_twice_144 at hm
    refine lv_icmp_ne (tgt := 151) hx hb dX7_twice_144 (by decide) (fun c144 => ?_) (fun c144 => ?_)
    · replace hm := ie c144 hm
      refine lv_iconst (v := 0) hx hb dX7_twice_151 (by decide) ?_
      refine lv_istore (lv' := [(5, .int 0), (0, .ref (q 0)), (1, .int x1), (3, .int x3), (4, .int x4), (6, .int x6)]) hx hb dX7_twice_152 hl (by decide) rfl (fun ls hl => ?_)
      refine lv_iinc (v := x6 + 2) (lv' := [(6, .int (x6 + 2)), (5, .int 0), (0, .ref (q 0)), (1, .int x1), (3, .int x3), (4, .int x4)]) hx hb dX7_twice_154 hl (k := 5) rfl rfl (by decide) rfl (fun ls hl => ?_)
      refine lv_goto (tgt := 44) hx hb dX7_twice_157 (by decide) ?_
      exact hk44 σ x1 x3 x4 0 (x6 + 2) _ _ _ hS (lv_sub hl [2, 3, 4, 5, 1, 0] rfl) hm
    · replace hm := it c144 hm
      refine lv_iconst (v := 1) hx hb dX7_twice_147 (by decide) ?_
      refine lv_goto (tgt := 152) hx hb dX7_twice_148 (by decide) ?_
      refine lv_istore (lv' := [(5, .int 1), (0, .ref (q 0)), (1, .int x1), (3, .int x3), (4, .int x4), (6, .int x6)]) hx hb dX7_twice_152 hl (by decide) rfl (fun ls hl => ?_)
      refine lv_iinc (v := x6 + 2) (lv' := [(6, .int (x6 + 2)), (5, .int 1), (0, .ref (q 0)), (1, .int x1), (3, .int x3), (4, .int x4)]) hx hb dX7_twice_154 hl (k := 5) rfl rfl (by decide) rfl (fun ls hl => ?_)
      refine lv_goto (tgt := 44) hx hb dX7_twice_157 (by decide) ?_
      exact hk44 σ x1 x3 x4 1 (x6 + 2) _ _ _ hS (lv_sub hl [2, 3, 4, 5, 1, 0] rfl) hm
  have J126 : ∀ (k26 : ST → Int32 → Int32 → Int32 → Option (Int32 × ST)) (hk26 : ∀ (σ : ST) (x1 : Int32) (x3 : Int32) (x4 : Int32) (H : Heap) (locs : List Loc) (ls : Array Slot), HS d A s.heap H locs (mw q d σ) → lv_has ls 8 [(0, .ref (q 0)), (1, .int x1), (3, .int x3), (4, .int x4)] → k26 σ x1 x3 x4 = some out → WI p l e rm_X7_twice s m [.ref (q 0), .int a1].toArray below meth c A d H locs out.1 (mw q d out.2) (F0 m 26 ls [])) (k44 : ST → Int32 → Int32 → Int32 → Int32 → Int32 → Option (Int32 × ST)) (hk44 : ∀ (σ : ST) (x1 : Int32) (x3 : Int32) (x4 : Int32) (x5 : Int32) (x6 : Int32) (H : Heap) (locs : List Loc) (ls : Array Slot), HS d A s.heap H locs (mw q d σ) → lv_has ls 8 [(0, .ref (q 0)), (1, .int x1), (3, .int x3), (4, .int x4), (5, .int x5), (6, .int x6)] → k44 σ x1 x3 x4 x5 x6 = some out → WI p l e rm_X7_twice s m [.ref (q 0), .int a1].toArray below meth c A d H locs out.1 (mw q d out.2) (F0 m 44 ls [])) (σ : ST) (x1 : Int32) (x3 : Int32) (x4 : Int32) (x6 : Int32) (y0 : Int32) (H : Heap) (locs : List Loc) (ls : Array Slot), HS d A s.heap H locs (mw q d σ) → lv_has ls 8 [(0, .ref (q 0)), (1, .int x1), (3, .int x3), (4, .int x4), (6, .int x6)] → M_X7_twice_126 k26 k44 σ x1 x3 x4 x6 y0 = some out → WI p l e rm_X7_twice s m [.ref (q 0), .int a1].toArray below meth c A d H locs out.1 (mw q d out.2) (F0 m 126 ls [.int y0]) := by
    intro k26 hk26 k44 hk44 σ x1 x3 x4 x6 y0 H locs ls hS hl hm
    unfold M_X7_twice_126 at hm
    refine lv_aload_n hx hb dX7_twice_126 rfl (lv_at hl 0 rfl) ?_
    refine g_7_25_0 C hS dX7_twice_127 ?_
    refine lv_iload hx hb dX7_twice_130 (lv_at hl 4 rfl) ?_
    refine lv_iconst (v := 1) hx hb dX7_twice_132 (by decide) ?_
    refine lv_iadd hx hb dX7_twice_133 ?_
    obtain ⟨v134, e134, hm⟩ := ob hm
    refine iald' C hS mw_a6 e134 dX7_twice_134 ?_
    refine lv_iconst (v := 1) hx hb dX7_twice_135 (by decide) ?_
    refine lv_icmp_ne (tgt := 143) hx hb dX7_twice_136 (by decide) (fun c136 => ?_) (fun c136 => ?_)
    · replace hm := ie c136 hm
      refine lv_iconst (v := 0) hx hb dX7_twice_143 (by decide) ?_
      exact J144 k26 hk26 k44 hk44 σ x1 x3 x4 x6 y0 0 _ _ _ hS (lv_sub hl [0, 1, 2, 3, 4] rfl) hm
    · replace hm := it c136 hm
      refine lv_iconst (v := 1) hx hb dX7_twice_139 (by decide) ?_
      refine lv_goto (tgt := 144) hx hb dX7_twice_140 (by decide) ?_
      exact J144 k26 hk26 k44 hk44 σ x1 x3 x4 x6 y0 1 _ _ _ hS (lv_sub hl [0, 1, 2, 3, 4] rfl) hm
  have J125 : ∀ (k26 : ST → Int32 → Int32 → Int32 → Option (Int32 × ST)) (hk26 : ∀ (σ : ST) (x1 : Int32) (x3 : Int32) (x4 : Int32) (H : Heap) (locs : List Loc) (ls : Array Slot), HS d A s.heap H locs (mw q d σ) → lv_has ls 8 [(0, .ref (q 0)), (1, .int x1), (3, .int x3), (4, .int x4)] → k26 σ x1 x3 x4 = some out → WI p l e rm_X7_twice s m [.ref (q 0), .int a1].toArray below meth c A d H locs out.1 (mw q d out.2) (F0 m 26 ls [])) (k44 : ST → Int32 → Int32 → Int32 → Int32 → Int32 → Option (Int32 × ST)) (hk44 : ∀ (σ : ST) (x1 : Int32) (x3 : Int32) (x4 : Int32) (x5 : Int32) (x6 : Int32) (H : Heap) (locs : List Loc) (ls : Array Slot), HS d A s.heap H locs (mw q d σ) → lv_has ls 8 [(0, .ref (q 0)), (1, .int x1), (3, .int x3), (4, .int x4), (5, .int x5), (6, .int x6)] → k44 σ x1 x3 x4 x5 x6 = some out → WI p l e rm_X7_twice s m [.ref (q 0), .int a1].toArray below meth c A d H locs out.1 (mw q d out.2) (F0 m 44 ls [])) (σ : ST) (x1 : Int32) (x3 : Int32) (x4 : Int32) (x6 : Int32) (H : Heap) (locs : List Loc) (ls : Array Slot), HS d A s.heap H locs (mw q d σ) → lv_has ls 8 [(0, .ref (q 0)), (1, .int x1), (3, .int x3), (4, .int x4), (6, .int x6)] → M_X7_twice_125 k26 k44 σ x1 x3 x4 x6 = some out → WI p l e rm_X7_twice s m [.ref (q 0), .int a1].toArray below meth c A d H locs out.1 (mw q d out.2) (F0 m 125 ls []) := by
    intro k26 hk26 k44 hk44 σ x1 x3 x4 x6 H locs ls hS hl hm
    unfold M_X7_twice_125 at hm
    refine lv_iconst (v := 0) hx hb dX7_twice_125 (by decide) ?_
    exact J126 k26 hk26 k44 hk44 σ x1 x3 x4 x6 0 _ _ _ hS (lv_sub hl [0, 1, 2, 3, 4] rfl) hm
  have J90 : ∀ (k26 : ST → Int32 → Int32 → Int32 → Option (Int32 × ST)) (hk26 : ∀ (σ : ST) (x1 : Int32) (x3 : Int32) (x4 : Int32) (H : Heap) (locs : List Loc) (ls : Array Slot), HS d A s.heap H locs (mw q d σ) → lv_has ls 8 [(0, .ref (q 0)), (1, .int x1), (3, .int x3), (4, .int x4)] → k26 σ x1 x3 x4 = some out → WI p l e rm_X7_twice s m [.ref (q 0), .int a1].toArray below meth c A d H locs out.1 (mw q d out.2) (F0 m 26 ls [])) (k44 : ST → Int32 → Int32 → Int32 → Int32 → Int32 → Option (Int32 × ST)) (hk44 : ∀ (σ : ST) (x1 : Int32) (x3 : Int32) (x4 : Int32) (x5 : Int32) (x6 : Int32) (H : Heap) (locs : List Loc) (ls : Array Slot), HS d A s.heap H locs (mw q d σ) → lv_has ls 8 [(0, .ref (q 0)), (1, .int x1), (3, .int x3), (4, .int x4), (5, .int x5), (6, .int x6)] → k44 σ x1 x3 x4 x5 x6 = some out → WI p l e rm_X7_twice s m [.ref (q 0), .int a1].toArray below meth c A d H locs out.1 (mw q d out.2) (F0 m 44 ls [])) (σ : ST) (x1 : Int32) (x3 : Int32) (x4 : Int32) (x5 : Int32) (x6 : Int32) (y0 : Int32) (y1 : Int32) (H : Heap) (locs : List Loc) (ls : Array Slot), HS d A s.heap H locs (mw q d σ) → lv_has ls 8 [(0, .ref (q 0)), (1, .int x1), (3, .int x3), (4, .int x4), (5, .int x5), (6, .int x6)] → M_X7_twice_90 k26 k44 σ x1 x3 x4 x5 x6 y0 y1 = some out → WI p l e rm_X7_twice s m [.ref (q 0), .int a1].toArray below meth c A d H locs out.1 (mw q d out.2) (F0 m 90 ls [.int y1, .int y0]) := by
    intro k26 hk26 k44 hk44 σ x1 x3 x4 x5 x6 y0 y1 H locs ls hS hl hm
    unfold M_X7_twice_90 at hm
    refine lv_iadd hx hb dX7_twice_90 ?_
    refine lv_istore (lv' := [(7, .int (y0 + y1)), (0, .ref (q 0)), (1, .int x1), (3, .int x3), (4, .int x4), (5, .int x5), (6, .int x6)]) hx hb dX7_twice_91 hl (by decide) rfl (fun ls hl => ?_)
    refine lv_iload hx hb dX7_twice_93 (lv_at hl 5 rfl) ?_
    refine lv_if_eq (tgt := 151) hx hb dX7_twice_95 (by decide) (fun c95 => ?_) (fun c95 => ?_)
    · replace hm := it c95 hm
      refine lv_iconst (v := 0) hx hb dX7_twice_151 (by decide) ?_
      refine lv_istore (lv' := [(5, .int 0), (7, .int (y0 + y1)), (0, .ref (q 0)), (1, .int x1), (3, .int x3), (4, .int x4), (6, .int x6)]) hx hb dX7_twice_152 hl (by decide) rfl (fun ls hl => ?_)
      refine lv_iinc (v := x6 + 2) (lv' := [(6, .int (x6 + 2)), (5, .int 0), (7, .int (y0 + y1)), (0, .ref (q 0)), (1, .int x1), (3, .int x3), (4, .int x4)]) hx hb dX7_twice_154 hl (k := 6) rfl rfl (by decide) rfl (fun ls hl => ?_)
      refine lv_goto (tgt := 44) hx hb dX7_twice_157 (by decide) ?_
      exact hk44 σ x1 x3 x4 0 (x6 + 2) _ _ _ hS (lv_sub hl [3, 4, 5, 6, 1, 0] rfl) hm
    · replace hm := ie c95 hm
      refine lv_iload hx hb dX7_twice_98 (lv_at hl 0 rfl) ?_
      refine lv_aload_n hx hb dX7_twice_100 rfl (lv_at hl 1 rfl) ?_
      refine g_7_152_0 C hS dX7_twice_101 ?_
      refine lv_icmp_lt (tgt := 125) hx hb dX7_twice_104 (by decide) (fun c104 => ?_) (fun c104 => ?_)
      · replace hm := it c104 hm
        exact J125 k26 hk26 k44 hk44 σ x1 x3 x4 x6 _ _ _ hS (lv_sub hl [1, 2, 3, 4, 6] rfl) hm
      · replace hm := ie c104 hm
        refine lv_aload_n hx hb dX7_twice_107 rfl (lv_at hl 1 rfl) ?_
        refine lv_aload_n hx hb dX7_twice_108 rfl (lv_at hl 1 rfl) ?_
        refine g_7_25_0 C hS dX7_twice_109 ?_
        refine lv_iload hx hb dX7_twice_112 (lv_at hl 6 rfl) ?_
        obtain ⟨v114, e114, hm⟩ := ob hm
        refine iald' C hS mw_a6 e114 dX7_twice_114 ?_
        obtain ⟨o115, e115, hm⟩ := ob hm
        refine after_i C hS (call_V (As := [.int v114]) C hS (c_X7_isPeace l d q σ v114 o115 e115 _) iv_7_173 ⟨rfl, rfl, Nat.le_of_ble_eq_true rfl, Nat.le_of_ble_eq_true rfl⟩ mw_o0 rfl rfl rfl hl.1 (Nat.le_of_ble_eq_true rfl) dX7_twice_115) (fun H locs hS => ?_)
        refine lv_if_eq (tgt := 125) hx hb dX7_twice_118 (by decide) (fun c118 => ?_) (fun c118 => ?_)
        · replace hm := it c118 hm
          exact J125 k26 hk26 k44 hk44 σ x1 x3 x4 x6 _ _ _ hS (lv_sub hl [1, 2, 3, 4, 6] rfl) hm
        · replace hm := ie c118 hm
          refine lv_iconst (v := 1) hx hb dX7_twice_121 (by decide) ?_
          refine lv_goto (tgt := 126) hx hb dX7_twice_122 (by decide) ?_
          exact J126 k26 hk26 k44 hk44 σ x1 x3 x4 x6 1 _ _ _ hS (lv_sub hl [1, 2, 3, 4, 6] rfl) hm
  have L44 : ∀ (k26 : ST → Int32 → Int32 → Int32 → Option (Int32 × ST)) (hk26 : ∀ (σ : ST) (x1 : Int32) (x3 : Int32) (x4 : Int32) (H : Heap) (locs : List Loc) (ls : Array Slot), HS d A s.heap H locs (mw q d σ) → lv_has ls 8 [(0, .ref (q 0)), (1, .int x1), (3, .int x3), (4, .int x4)] → k26 σ x1 x3 x4 = some out → WI p l e rm_X7_twice s m [.ref (q 0), .int a1].toArray below meth c A d H locs out.1 (mw q d out.2) (F0 m 26 ls [])) (n : Nat) (σ : ST) (x1 : Int32) (x3 : Int32) (x4 : Int32) (x5 : Int32) (x6 : Int32) (H : Heap) (locs : List Loc) (ls : Array Slot), HS d A s.heap H locs (mw q d σ) → lv_has ls 8 [(0, .ref (q 0)), (1, .int x1), (3, .int x3), (4, .int x4), (5, .int x5), (6, .int x6)] → M_X7_twice_44 k26 n σ x1 x3 x4 x5 x6 = some out → WI p l e rm_X7_twice s m [.ref (q 0), .int a1].toArray below meth c A d H locs out.1 (mw q d out.2) (F0 m 44 ls []) := by
    intro k26 hk26 n
    induction n with
    | zero =>
      intro σ x1 x3 x4 x5 x6 H locs ls hS hl hm
      exact absurd hm (by rw [M_X7_twice_44]; exact fun h => nomatch h)
    | succ n ih =>
      intro σ x1 x3 x4 x5 x6 H locs ls hS hl hm
      rw [M_X7_twice_44] at hm
      refine lv_iload hx hb dX7_twice_44 (lv_at hl 5 rfl) ?_
      refine lv_bipush (v := 40) hx hb dX7_twice_46 (by decide) ?_
      refine lv_iload_n hx hb dX7_twice_48 rfl (lv_at hl 1 rfl) ?_
      refine lv_imul hx hb dX7_twice_49 ?_
      refine lv_aload_n hx hb dX7_twice_50 rfl (lv_at hl 0 rfl) ?_
      refine g_7_22_0 C hS dX7_twice_51 ?_
      refine lv_iload_n hx hb dX7_twice_54 rfl (lv_at hl 1 rfl) ?_
      obtain ⟨v55, e55, hm⟩ := ob hm
      refine iald' C hS mw_a5 e55 dX7_twice_55 ?_
      refine lv_iadd hx hb dX7_twice_56 ?_
      refine lv_icmp_ge (tgt := 160) hx hb dX7_twice_57 (by decide) (fun c57 => ?_) (fun c57 => ?_)
      · replace hm := it c57 hm
        refine lv_iload_n hx hb dX7_twice_160 rfl (lv_at hl 2 rfl) ?_
        refine lv_iload hx hb dX7_twice_161 (lv_at hl 4 rfl) ?_
        refine lv_if_eq (tgt := 173) hx hb dX7_twice_163 (by decide) (fun c163 => ?_) (fun c163 => ?_)
        · replace hm := it c163 hm
          refine lv_iconst (v := 0) hx hb dX7_twice_173 (by decide) ?_
          refine lv_ior hx hb dX7_twice_174 ?_
          refine lv_istore_n (lv' := [(3, .int (x3 ||| 0)), (0, .ref (q 0)), (1, .int x1), (4, .int x4), (5, .int x5), (6, .int x6)]) hx hb dX7_twice_175 rfl hl (by decide) rfl (fun ls hl => ?_)
          refine lv_iinc (v := x4 + 1) (lv' := [(4, .int (x4 + 1)), (3, .int (x3 ||| 0)), (0, .ref (q 0)), (1, .int x1), (5, .int x5), (6, .int x6)]) hx hb dX7_twice_176 hl (k := 3) rfl rfl (by decide) rfl (fun ls hl => ?_)
          refine lv_goto (tgt := 26) hx hb dX7_twice_179 (by decide) ?_
          exact hk26 σ x1 (x3 ||| 0) (x4 + 1) _ _ _ hS (lv_sub hl [2, 3, 1, 0] rfl) hm
        · replace hm := ie c163 hm
          refine lv_iconst (v := 1) hx hb dX7_twice_166 (by decide) ?_
          refine lv_iload hx hb dX7_twice_167 (lv_at hl 3 rfl) ?_
          refine lv_ishl hx hb dX7_twice_169 ?_
          refine lv_goto (tgt := 174) hx hb dX7_twice_170 (by decide) ?_
          refine lv_ior hx hb dX7_twice_174 ?_
          refine lv_istore_n (lv' := [(3, .int (x3 ||| ((1 : Int32) <<< (x4 &&& 31)))), (0, .ref (q 0)), (1, .int x1), (4, .int x4), (5, .int x5), (6, .int x6)]) hx hb dX7_twice_175 rfl hl (by decide) rfl (fun ls hl => ?_)
          refine lv_iinc (v := x4 + 1) (lv' := [(4, .int (x4 + 1)), (3, .int (x3 ||| ((1 : Int32) <<< (x4 &&& 31)))), (0, .ref (q 0)), (1, .int x1), (5, .int x5), (6, .int x6)]) hx hb dX7_twice_176 hl (k := 3) rfl rfl (by decide) rfl (fun ls hl => ?_)
          refine lv_goto (tgt := 26) hx hb dX7_twice_179 (by decide) ?_
          exact hk26 σ x1 (x3 ||| ((1 : Int32) <<< (x4 &&& 31))) (x4 + 1) _ _ _ hS (lv_sub hl [2, 3, 1, 0] rfl) hm
      · replace hm := ie c57 hm
        refine lv_aload_n hx hb dX7_twice_60 rfl (lv_at hl 0 rfl) ?_
        refine g_7_25_0 C hS dX7_twice_61 ?_
        refine lv_iload hx hb dX7_twice_64 (lv_at hl 5 rfl) ?_
        obtain ⟨v66, e66, hm⟩ := ob hm
        refine iald' C hS mw_a6 e66 dX7_twice_66 ?_
        obtain ⟨o67, e67, hm⟩ := ob hm
        refine after_i C hS (call_S (As := [.int v66]) C hS (c_X7_bits l d (mw q d σ) v66 o67 e67 _) is_7_225 ⟨rfl, rfl, Nat.le_of_ble_eq_true rfl, Nat.le_of_ble_eq_true rfl⟩ rfl hl.1 (Nat.le_of_ble_eq_true rfl) dX7_twice_67) (fun H locs hS => ?_)
        refine lv_aload_n hx hb dX7_twice_70 rfl (lv_at hl 0 rfl) ?_
        refine g_7_25_0 C hS dX7_twice_71 ?_
        refine lv_iload hx hb dX7_twice_74 (lv_at hl 5 rfl) ?_
        obtain ⟨v76, e76, hm⟩ := ob hm
        refine iald' C hS mw_a6 e76 dX7_twice_76 ?_
        refine lv_iload hx hb dX7_twice_77 (lv_at hl 3 rfl) ?_
        obtain ⟨o79, e79, hm⟩ := ob hm
        refine after_i C hS (call_S (As := [.int v76, .int x4]) C hS (c_X7_has l d (mw q d σ) v76 x4 o79 e79 _) is_7_135 ⟨rfl, rfl, Nat.le_of_ble_eq_true rfl, Nat.le_of_ble_eq_true rfl⟩ rfl hl.1 (Nat.le_of_ble_eq_true rfl) dX7_twice_79) (fun H locs hS => ?_)
        refine lv_if_eq (tgt := 89) hx hb dX7_twice_82 (by decide) (fun c82 => ?_) (fun c82 => ?_)
        · replace hm := it c82 hm
          refine lv_iconst (v := 0) hx hb dX7_twice_89 (by decide) ?_
          exact J90 k26 hk26 (M_X7_twice_44 k26 n) ih σ x1 x3 x4 x5 x6 o67 0 _ _ _ hS (lv_sub hl [0, 1, 2, 3, 4, 5] rfl) hm
        · replace hm := ie c82 hm
          refine lv_iconst (v := 1) hx hb dX7_twice_85 (by decide) ?_
          refine lv_goto (tgt := 90) hx hb dX7_twice_86 (by decide) ?_
          exact J90 k26 hk26 (M_X7_twice_44 k26 n) ih σ x1 x3 x4 x5 x6 o67 1 _ _ _ hS (lv_sub hl [0, 1, 2, 3, 4, 5] rfl) hm
  have L26 : ∀ (n : Nat) (σ : ST) (x1 : Int32) (x3 : Int32) (x4 : Int32) (H : Heap) (locs : List Loc) (ls : Array Slot), HS d A s.heap H locs (mw q d σ) → lv_has ls 8 [(0, .ref (q 0)), (1, .int x1), (3, .int x3), (4, .int x4)] → M_X7_twice_26 n σ x1 x3 x4 = some out → WI p l e rm_X7_twice s m [.ref (q 0), .int a1].toArray below meth c A d H locs out.1 (mw q d out.2) (F0 m 26 ls []) := by
    intro n
    induction n with
    | zero =>
      intro σ x1 x3 x4 H locs ls hS hl hm
      exact absurd hm (by rw [M_X7_twice_26]; exact fun h => nomatch h)
    | succ n ih =>
      intro σ x1 x3 x4 H locs ls hS hl hm
      rw [M_X7_twice_26] at hm
      refine lv_iload hx hb dX7_twice_26 (lv_at hl 3 rfl) ?_
      refine lv_aload_n hx hb dX7_twice_28 rfl (lv_at hl 0 rfl) ?_
      refine g_7_158_0 C hS dX7_twice_29 ?_
      refine lv_icmp_ge (tgt := 182) hx hb dX7_twice_32 (by decide) (fun c32 => ?_) (fun c32 => ?_)
      · replace hm := it c32 hm
        refine lv_iload_n hx hb dX7_twice_182 rfl (lv_at hl 2 rfl) ?_
        exact retIw (wf := mw q d) C hS hm dX7_twice_183
      · replace hm := ie c32 hm
        refine lv_iconst (v := 1) hx hb dX7_twice_35 (by decide) ?_
        refine lv_istore (lv' := [(5, .int 1), (0, .ref (q 0)), (1, .int x1), (3, .int x3), (4, .int x4)]) hx hb dX7_twice_36 hl (by decide) rfl (fun ls hl => ?_)
        refine lv_bipush (v := 40) hx hb dX7_twice_38 (by decide) ?_
        refine lv_iload_n hx hb dX7_twice_40 rfl (lv_at hl 2 rfl) ?_
        refine lv_imul hx hb dX7_twice_41 ?_
        refine lv_istore (lv' := [(6, .int (40 * x1)), (5, .int 1), (0, .ref (q 0)), (1, .int x1), (3, .int x3), (4, .int x4)]) hx hb dX7_twice_42 hl (by decide) rfl (fun ls hl => ?_)
        exact L44 (M_X7_twice_26 n) ih 10000 σ x1 x3 x4 1 (40 * x1) _ _ _ hS (lv_sub hl [2, 3, 4, 5, 1, 0] rfl) hm
  unfold M_X7_twice at hm
  refine lv_iload_n hx hb dX7_twice_0 rfl (lv_at hl 1 rfl) ?_
  obtain ⟨o1, e1, hm⟩ := ob hm
  refine after_i C hS (call_S (As := [.int a1]) C hS (c_X7_isRow l d (mw q d σ) a1 o1 e1 _) is_7_72 ⟨rfl, rfl, Nat.le_of_ble_eq_true rfl, Nat.le_of_ble_eq_true rfl⟩ rfl hl.1 (Nat.le_of_ble_eq_true rfl) dX7_twice_1) (fun H locs hS => ?_)
  refine lv_if_ne (tgt := 9) hx hb dX7_twice_4 (by decide) (fun c4 => ?_) (fun c4 => ?_)
  · replace hm := ie c4 hm
    refine lv_aload_n hx hb dX7_twice_9 rfl (lv_at hl 0 rfl) ?_
    refine lv_iload_n hx hb dX7_twice_10 rfl (lv_at hl 1 rfl) ?_
    obtain ⟨o11, e11, hm⟩ := ob hm
    refine after_i C hS (call_V (As := [.int a1]) C hS (c_X7_noPairs l d q σ a1 o11 e11 _) iv_7_262 ⟨rfl, rfl, Nat.le_of_ble_eq_true rfl, Nat.le_of_ble_eq_true rfl⟩ mw_o0 rfl rfl rfl hl.1 (Nat.le_of_ble_eq_true rfl) dX7_twice_11) (fun H locs hS => ?_)
    refine lv_istore_n (lv' := [(2, .int o11.1), (0, .ref (q 0)), (1, .int a1)]) hx hb dX7_twice_14 rfl hl (by decide) rfl (fun ls hl => ?_)
    refine lv_iload_n hx hb dX7_twice_15 rfl (lv_at hl 0 rfl) ?_
    refine lv_if_eq (tgt := 21) hx hb dX7_twice_16 (by decide) (fun c16 => ?_) (fun c16 => ?_)
    · replace hm := it c16 hm
      refine lv_iconst (v := 0) hx hb dX7_twice_21 (by decide) ?_
      refine lv_istore_n (lv' := [(3, .int 0), (2, .int o11.1), (0, .ref (q 0)), (1, .int a1)]) hx hb dX7_twice_22 rfl hl (by decide) rfl (fun ls hl => ?_)
      refine lv_iconst (v := 0) hx hb dX7_twice_23 (by decide) ?_
      refine lv_istore (lv' := [(4, .int 0), (3, .int 0), (2, .int o11.1), (0, .ref (q 0)), (1, .int a1)]) hx hb dX7_twice_24 hl (by decide) rfl (fun ls hl => ?_)
      exact L26 10000 o11.2 a1 0 0 _ _ _ hS (lv_sub hl [3, 4, 1, 0] rfl) hm
    · replace hm := ie c16 hm
      refine lv_iload_n hx hb dX7_twice_19 rfl (lv_at hl 0 rfl) ?_
      exact retIw (wf := mw q d) C hS hm dX7_twice_20
  · replace hm := it c4 hm
    refine lv_iconst (v := (-1)) hx hb dX7_twice_7 (by decide) ?_
    exact retIw (wf := mw q d) C hS hm dX7_twice_8
