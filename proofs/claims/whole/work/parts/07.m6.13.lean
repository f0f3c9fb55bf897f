def M_X6_lots_130 (k68 : ST → Int32 → Int64 → Int32 → Int32 → Option (Int32 × ST)) (σ : ST) (x1 : Int32) (x3 : Int64) (x5 : Int32) (x6 : Int32) : Option (Int32 × ST) := (M_X5_perform σ 2).bind fun o135 => k68 o135.2 x1 x3 x5 (x6 + 1)
def M_X6_lots_68 : Nat → ST → Int32 → Int64 → Int32 → Int32 → Option (Int32 × ST)
  | 0, _, _, _, _, _ => none
  | n + 1, σ, x1, x3, x5, x6 => if x1 ≤ x6 then some (x5, σ) else (M_X5_sets σ).bind fun o93 => (rmL (((x3 * 48271) - (x3 * 48271) / 2147483647 * 2147483647) / 8) o93.toInt64).bind fun v97 => (M_X5_isOpenTo σ v97.toInt32).bind fun o107 => if o107 = 0 then M_X6_lots_130 (M_X6_lots_68 n) σ x1 ((x3 * 48271) - (x3 * 48271) / 2147483647 * 2147483647) x5 x6 else (M_X6_meetingRising v97.toInt32).bind fun o121 => (M_X5_perform σ o121).bind fun o124 => M_X6_lots_130 (M_X6_lots_68 n) o124.2 x1 ((x3 * 48271) - (x3 * 48271) / 2147483647 * 2147483647) (x5 + o124.1) x6
def M_X6_lots (σ : ST) (a1 : Int32) (a2 : Int32) : Option (Int32 × ST) := if a1 < 1 then some ((-1), σ) else if 20 < a1 then some ((-1), σ) else if a2 < 1 then some ((-1), σ) else if (lg_cmp a2.toInt64 2147483647) < 0 then (M_X5_houses σ).bind fun o31 => if o31 = 0 then some ((-4), σ) else (M_X1_isFull σ (2 * a1)).bind fun o50 => if o50 = 0 then M_X6_lots_68 10000 σ a1 a2.toInt64 0 0 else some ((-2), σ) else some ((-1), σ)
abbrev rm_X6_lots : Room := { frames := 5, cells := 0, slots := 0, locals := 110 }
set_option maxRecDepth 100000 in
set_option maxHeartbeats 4000000 in
theorem c_X6_lots (l : Launch) (d : CD) (q : Nat → Nat) (σ : ST) (a1 : Int32) (a2 : Int32) (out : Int32 × ST) (hm : M_X6_lots σ a1 a2 = some out) : MetI l yX6_lots cX6_lots 8 (some .int) rm_X6_lots d (cw q d σ) [.ref (q 0), .int a1, .int a2] out.1 (cw q d out.2) := by
  refine mkI (own := RX6) (by decide +kernel) rfl (Nat.le_of_ble_eq_true rfl) ?_
  intro p e s m below meth c A ls C hS hl
  obtain ⟨hx, hb, hml, hown, hts, -⟩ := id C
  have hl : lv_has ls 8 [(0, .ref (q 0)), (1, .int a1), (2, .int a2)] := hl
  have J130 : ∀ (k68 : ST → Int32 → Int64 → Int32 → Int32 → Option (Int32 × ST)) (hk68 : ∀ (σ : ST) (x1 : Int32) (x3 : Int64) (x5 : Int32) (x6 : Int32) (H : Heap) (locs : List Loc) (ls : Array Slot), HS d A s.heap H locs (cw q d σ) → lv_has ls 8 [(0, .ref (q 0)), (1, .int x1), (3, .long x3), (5, .int x5), (6, .int x6)] → k68 σ x1 x3 x5 x6 = some out → WI p l e rm_X6_lots s m [.ref (q 0), .int a1, .int a2].toArray below meth c A d H locs out.1 (cw q d out.2) (F0 m 68 ls [])) (σ : ST) (x1 : Int32) (x3 : Int64) (x5 : Int32) (x6 : Int32) (H : Heap) (locs : List Loc) (ls : Array Slot), HS d A s.heap H locs (cw q d σ) → lv_has ls 8 [(0, .ref (q 0)), (1, .int x1), (3, .long x3), (5, .int x5), (6, .int x6)] → M_X6_lots_130 k68 σ x1 x3 x5 x6 = some out → WI p l e rm_X6_lots s m [.ref (q 0), .int a1, .int a2].toArray below meth c A d H locs out.1 (cw q d out.2) (F0 m 130 ls []) := by
    intro k68 hk68 σ x1 x3 x5 x6 H locs ls hS hl hm
    unfold M_X6_lots_130 at hm
    refine lv_aload_n hx hb dX6_lots_130 rfl (lv_at hl 0 rfl) ?_
    refine g_6_33_0 C hS dX6_lots_131 ?_
    refine lv_iconst (v := 2) hx hb dX6_lots_134 (by decide) ?_
    obtain ⟨o135, e135, hm⟩ := ob hm
    refine after_i C hS (call_V (As := [.int 2]) C hS (c_X5_perform l d q σ 2 o135 e135 _) iv_6_178 ⟨rfl, rfl, Nat.le_of_ble_eq_true rfl, Nat.le_of_ble_eq_true rfl⟩ cw_o22 rfl rfl rfl hl.1 (Nat.le_of_ble_eq_true rfl) dX6_lots_135) (fun H locs hS => ?_)
    refine lv_pop hx hb dX6_lots_138 rfl ?_
    refine lv_iinc (v := x6 + 1) (lv' := [(6, .int (x6 + 1)), (0, .ref (q 0)), (1, .int x1), (3, .long x3), (5, .int x5)]) hx hb dX6_lots_139 hl (k := 4) rfl rfl (by decide) rfl (fun ls hl => ?_)
    refine lv_goto (tgt := 68) hx hb dX6_lots_142 (by decide) ?_
    exact hk68 o135.2 x1 x3 x5 (x6 + 1) _ _ _ hS (lv_sub hl [1, 2, 3, 4, 0] rfl) hm
  have L68 : ∀ (n : Nat) (σ : ST) (x1 : Int32) (x3 : Int64) (x5 : Int32) (x6 : Int32) (H : Heap) (locs : List Loc) (ls : Array Slot), HS d A s.heap H locs (cw q d σ) → lv_has ls 8 [(0, .ref (q 0)), (1, .int x1), (3, .long x3), (5, .int x5), (6, .int x6)] → M_X6_lots_68 n σ x1 x3 x5 x6 = some out → WI p l e rm_X6_lots s m [.ref (q 0), .int a1, .int a2].toArray below meth c A d H locs out.1 (cw q d out.2) (F0 m 68 ls []) := by
    intro n
    induction n with
    | zero =>
      intro σ x1 x3 x5 x6 H locs ls hS hl hm
      exact absurd hm (by rw [M_X6_lots_68]; exact fun h => nomatch h)
    | succ n ih =>
      intro σ x1 x3 x5 x6 H locs ls hS hl hm
      rw [M_X6_lots_68] at hm
      refine lv_iload hx hb dX6_lots_68 (lv_at hl 4 rfl) ?_
      refine lv_iload_n hx hb dX6_lots_70 rfl (lv_at hl 1 rfl) ?_
      refine lv_icmp_ge (tgt := 145) hx hb dX6_lots_71 (by decide) (fun c71 => ?_) (fun c71 => ?_)
      · replace hm := it c71 hm
        refine lv_iload hx hb dX6_lots_145 (lv_at hl 3 rfl) ?_
        exact retIw (wf := cw q d) C hS hm dX6_lots_147
      · replace hm := ie c71 hm
        refine lv_lload_n hx hb dX6_lots_74 rfl (lv_at hl 2 rfl) ?_
        refine lv_ldc2 (v := 48271) hx hb hown (hts _ lc_X6_288) dX6_lots_75 ?_
        refine lv_lmul hx hb dX6_lots_78 ?_
        refine lv_ldc2 (v := 2147483647) hx hb hown (hts _ lc_X6_286) dX6_lots_79 ?_
        refine lv_lrem hx hb dX6_lots_82 (by decide) ?_
        refine lv_lstore_n (lv' := [(3, .long ((x3 * 48271) - (x3 * 48271) / 2147483647 * 2147483647)), (0, .ref (q 0)), (1, .int x1), (5, .int x5), (6, .int x6)]) hx hb dX6_lots_83 rfl hl (by decide) rfl (fun ls hl => ?_)
        refine lv_lload_n hx hb dX6_lots_84 rfl (lv_at hl 0 rfl) ?_
        refine lv_ldc2 (v := 8) hx hb hown (hts _ lc_X6_290) dX6_lots_85 ?_
        refine lv_ldiv hx hb dX6_lots_88 (by decide) ?_
        refine lv_aload_n hx hb dX6_lots_89 rfl (lv_at hl 1 rfl) ?_
        refine g_6_33_0 C hS dX6_lots_90 ?_
        obtain ⟨o93, e93, hm⟩ := ob hm
        refine after_i C hS (call_V (As := []) C hS (c_X5_sets l d q σ o93 e93 _) iv_6_292 ⟨rfl, rfl, Nat.le_of_ble_eq_true rfl, Nat.le_of_ble_eq_true rfl⟩ cw_o22 rfl rfl rfl hl.1 (Nat.le_of_ble_eq_true rfl) dX6_lots_93) (fun H locs hS => ?_)
        refine lv_i2l (v := o93.toInt64) hx hb dX6_lots_96 rfl ?_
        obtain ⟨v97, e97, hm⟩ := ob hm
        refine lrem' C e97 dX6_lots_97 ?_
        refine lv_l2i (v := v97.toInt32) hx hb dX6_lots_98 rfl ?_
        refine lv_istore (lv' := [(7, .int v97.toInt32), (3, .long ((x3 * 48271) - (x3 * 48271) / 2147483647 * 2147483647)), (0, .ref (q 0)), (1, .int x1), (5, .int x5), (6, .int x6)]) hx hb dX6_lots_99 hl (by decide) rfl (fun ls hl => ?_)
        refine lv_aload_n hx hb dX6_lots_101 rfl (lv_at hl 2 rfl) ?_
        refine g_6_33_0 C hS dX6_lots_102 ?_
        refine lv_iload hx hb dX6_lots_105 (lv_at hl 0 rfl) ?_
        obtain ⟨o107, e107, hm⟩ := ob hm
        refine after_i C hS (call_V (As := [.int v97.toInt32]) C hS (c_X5_isOpenTo l d q σ v97.toInt32 o107 e107 _) iv_6_165 ⟨rfl, rfl, Nat.le_of_ble_eq_true rfl, Nat.le_of_ble_eq_true rfl⟩ cw_o22 rfl rfl rfl hl.1 (Nat.le_of_ble_eq_true rfl) dX6_lots_107) (fun H locs hS => ?_)
        refine lv_if_eq (tgt := 130) hx hb dX6_lots_110 (by decide) (fun c110 => ?_) (fun c110 => ?_)
        · replace hm := it c110 hm
          exact J130 (M_X6_lots_68 n) ih σ x1 ((x3 * 48271) - (x3 * 48271) / 2147483647 * 2147483647) x5 x6 _ _ _ hS (lv_sub hl [2, 3, 1, 4, 5] rfl) hm
        · replace hm := ie c110 hm
          refine lv_iload hx hb dX6_lots_113 (lv_at hl 4 rfl) ?_
          refine lv_aload_n hx hb dX6_lots_115 rfl (lv_at hl 2 rfl) ?_
          refine g_6_33_0 C hS dX6_lots_116 ?_
          refine lv_iload hx hb dX6_lots_119 (lv_at hl 0 rfl) ?_
          obtain ⟨o121, e121, hm⟩ := ob hm
          refine after_i C hS (call_S (As := [.int v97.toInt32]) C hS (c_X6_meetingRising l d (cw q d σ) v97.toInt32 o121 e121 _) is_6_295 ⟨rfl, rfl, Nat.le_of_ble_eq_true rfl, Nat.le_of_ble_eq_true rfl⟩ rfl hl.1 (Nat.le_of_ble_eq_true rfl) dX6_lots_121) (fun H locs hS => ?_)
          obtain ⟨o124, e124, hm⟩ := ob hm
          refine after_i C hS (call_V (As := [.int o121]) C hS (c_X5_perform l d q σ o121 o124 e124 _) iv_6_178 ⟨rfl, rfl, Nat.le_of_ble_eq_true rfl, Nat.le_of_ble_eq_true rfl⟩ cw_o22 rfl rfl rfl hl.1 (Nat.le_of_ble_eq_true rfl) dX6_lots_124) (fun H locs hS => ?_)
          refine lv_iadd hx hb dX6_lots_127 ?_
          refine lv_istore (lv' := [(5, .int (x5 + o124.1)), (7, .int v97.toInt32), (3, .long ((x3 * 48271) - (x3 * 48271) / 2147483647 * 2147483647)), (0, .ref (q 0)), (1, .int x1), (6, .int x6)]) hx hb dX6_lots_128 hl (by decide) rfl (fun ls hl => ?_)
          exact J130 (M_X6_lots_68 n) ih o124.2 x1 ((x3 * 48271) - (x3 * 48271) / 2147483647 * 2147483647) (x5 + o124.1) x6 _ _ _ hS (lv_sub hl [3, 4, 2, 0, 5] rfl) hm
  unfold M_X6_lots at hm
  refine lv_iload_n hx hb dX6_lots_0 rfl (lv_at hl 1 rfl) ?_
  refine lv_iconst (v := 1) hx hb dX6_lots_1 (by decide) ?_
  refine lv_icmp_lt (tgt := 25) hx hb dX6_lots_2 (by decide) (fun c2 => ?_) (fun c2 => ?_)
  · replace hm := it c2 hm
    refine lv_iconst (v := (-1)) hx hb dX6_lots_25 (by decide) ?_
    exact retIw (wf := cw q d) C hS hm dX6_lots_26
  · replace hm := ie c2 hm
    refine lv_iload_n hx hb dX6_lots_5 rfl (lv_at hl 1 rfl) ?_
    refine lv_bipush (v := 20) hx hb dX6_lots_6 (by decide) ?_
    refine lv_icmp_gt (tgt := 25) hx hb dX6_lots_8 (by decide) (fun c8 => ?_) (fun c8 => ?_)
    · replace hm := it c8 hm
      refine lv_iconst (v := (-1)) hx hb dX6_lots_25 (by decide) ?_
      exact retIw (wf := cw q d) C hS hm dX6_lots_26
    · replace hm := ie c8 hm
      refine lv_iload_n hx hb dX6_lots_11 rfl (lv_at hl 2 rfl) ?_
      refine lv_iconst (v := 1) hx hb dX6_lots_12 (by decide) ?_
      refine lv_icmp_lt (tgt := 25) hx hb dX6_lots_13 (by decide) (fun c13 => ?_) (fun c13 => ?_)
      · replace hm := it c13 hm
        refine lv_iconst (v := (-1)) hx hb dX6_lots_25 (by decide) ?_
        exact retIw (wf := cw q d) C hS hm dX6_lots_26
      · replace hm := ie c13 hm
        refine lv_iload_n hx hb dX6_lots_16 rfl (lv_at hl 2 rfl) ?_
        refine lv_i2l (v := a2.toInt64) hx hb dX6_lots_17 rfl ?_
        refine lv_ldc2 (v := 2147483647) hx hb hown (hts _ lc_X6_286) dX6_lots_18 ?_
        refine W.lcmp hx hb dX6_lots_21 ?_
        refine lv_if_lt (tgt := 27) hx hb dX6_lots_22 (by decide) (fun c22 => ?_) (fun c22 => ?_)
        · replace hm := it c22 hm
          refine lv_aload_n hx hb dX6_lots_27 rfl (lv_at hl 0 rfl) ?_
          refine g_6_33_0 C hS dX6_lots_28 ?_
          obtain ⟨o31, e31, hm⟩ := ob hm
          refine after_i C hS (call_V (As := []) C hS (c_X5_houses l d q σ o31 e31 _) iv_6_140 ⟨rfl, rfl, Nat.le_of_ble_eq_true rfl, Nat.le_of_ble_eq_true rfl⟩ cw_o22 rfl rfl rfl hl.1 (Nat.le_of_ble_eq_true rfl) dX6_lots_31) (fun H locs hS => ?_)
          refine lv_if_ne (tgt := 40) hx hb dX6_lots_34 (by decide) (fun c34 => ?_) (fun c34 => ?_)
          · replace hm := ie c34 hm
            refine lv_aload_n hx hb dX6_lots_40 rfl (lv_at hl 0 rfl) ?_
            refine g_6_33_0 C hS dX6_lots_41 ?_
            refine g_6_168_22 C hS dX6_lots_44 ?_
            refine lv_iconst (v := 2) hx hb dX6_lots_47 (by decide) ?_
            refine lv_iload_n hx hb dX6_lots_48 rfl (lv_at hl 1 rfl) ?_
            refine lv_imul hx hb dX6_lots_49 ?_
            obtain ⟨o50, e50, hm⟩ := ob hm
            refine after_i C hS (call_V (As := [.int (2 * a1)]) C hS (c_X1_isFull l d q σ (2 * a1) o50 e50 _) iv_6_172 ⟨rfl, rfl, Nat.le_of_ble_eq_true rfl, Nat.le_of_ble_eq_true rfl⟩ cw_o27 rfl rfl rfl hl.1 (Nat.le_of_ble_eq_true rfl) dX6_lots_50) (fun H locs hS => ?_)
            refine lv_if_eq (tgt := 59) hx hb dX6_lots_53 (by decide) (fun c53 => ?_) (fun c53 => ?_)
            · replace hm := it c53 hm
              refine lv_iload_n hx hb dX6_lots_59 rfl (lv_at hl 2 rfl) ?_
              refine lv_i2l (v := a2.toInt64) hx hb dX6_lots_60 rfl ?_
              refine lv_lstore_n (lv' := [(3, .long a2.toInt64), (0, .ref (q 0)), (1, .int a1), (2, .int a2)]) hx hb dX6_lots_61 rfl hl (by decide) rfl (fun ls hl => ?_)
              refine lv_iconst (v := 0) hx hb dX6_lots_62 (by decide) ?_
              refine lv_istore (lv' := [(5, .int 0), (3, .long a2.toInt64), (0, .ref (q 0)), (1, .int a1), (2, .int a2)]) hx hb dX6_lots_63 hl (by decide) rfl (fun ls hl => ?_)
              refine lv_iconst (v := 0) hx hb dX6_lots_65 (by decide) ?_
              refine lv_istore (lv' := [(6, .int 0), (5, .int 0), (3, .long a2.toInt64), (0, .ref (q 0)), (1, .int a1), (2, .int a2)]) hx hb dX6_lots_66 hl (by decide) rfl (fun ls hl => ?_)
              exact L68 10000 σ a1 a2.toInt64 0 0 _ _ _ hS (lv_sub hl [3, 4, 2, 1, 0] rfl) hm
            · replace hm := ie c53 hm
              refine lv_bipush (v := (-2)) hx hb dX6_lots_56 (by decide) ?_
              exact retIw (wf := cw q d) C hS hm dX6_lots_58
          · replace hm := it c34 hm
            refine lv_bipush (v := (-4)) hx hb dX6_lots_37 (by decide) ?_
            exact retIw (wf := cw q d) C hS hm dX6_lots_39
        · replace hm := ie c22 hm
          refine lv_iconst (v := (-1)) hx hb dX6_lots_25 (by decide) ?_
          exact retIw (wf := cw q d) C hS hm dX6_lots_26
def M_X6_asked (σ : ST) : Option Int32 := some (σ.1 8)
abbrev rm_X6_asked : Room := { frames := 0, cells := 0, slots := 0, locals := 0 }
set_option maxRecDepth 100000 in
set_option maxHeartbeats 4000000 in
theorem c_X6_asked (l : Launch) (d : CD) (q : Nat → Nat) (σ : ST) (out : Int32) (hm : M_X6_asked σ = some out) : MetI l yX6_asked cX6_asked 1 (some .int) rm_X6_asked d (cw q d σ) [.ref (q 0)] out (cw q d σ) := by
  refine mkI (own := RX6) (by decide +kernel) rfl (Nat.le_of_ble_eq_true rfl) ?_
  intro p e s m below meth c A ls C hS hl
  obtain ⟨hx, hb, hml, hown, hts, -⟩ := id C
  have hl : lv_has ls 1 [(0, .ref (q 0))] := hl
  unfold M_X6_asked at hm
  refine lv_aload_n hx hb dX6_asked_0 rfl (lv_at hl 0 rfl) ?_
  refine g_6_60_0 C hS dX6_asked_1 ?_
  exact retIr C hS hm dX6_asked_4
def M_X6_upper (σ : ST) : Option Int64 := some (σ.2.1 9)
abbrev rm_X6_upper : Room := { frames := 0, cells := 0, slots := 0, locals := 0 }
set_option maxRecDepth 100000 in
set_option maxHeartbeats 4000000 in
theorem c_X6_upper (l : Launch) (d : CD) (q : Nat → Nat) (σ : ST) (out : Int64) (hm : M_X6_upper σ = some out) : MetL l yX6_upper cX6_upper 1 (some .long) rm_X6_upper d (cw q d σ) [.ref (q 0)] out (cw q d σ) := by
  refine mkL (own := RX6) (by decide +kernel) rfl (Nat.le_of_ble_eq_true rfl) ?_
  intro p e s m below meth c A ls C hS hl
  obtain ⟨hx, hb, hml, hown, hts, -⟩ := id C
  have hl : lv_has ls 1 [(0, .ref (q 0))] := hl
  unfold M_X6_upper at hm
  refine lv_aload_n hx hb dX6_upper_0 rfl (lv_at hl 0 rfl) ?_
  refine g_6_63_0 C hS dX6_upper_1 ?_
  exact retLr C hS hm dX6_upper_4
def M_X6_lower (σ : ST) : Option Int64 := some (σ.2.1 10)
abbrev rm_X6_lower : Room := { frames := 0, cells := 0, slots := 0, locals := 0 }
set_option maxRecDepth 100000 in
set_option maxHeartbeats 4000000 in
theorem c_X6_lower (l : Launch) (d : CD) (q : Nat → Nat) (σ : ST) (out : Int64) (hm : M_X6_lower σ = some out) : MetL l yX6_lower cX6_lower 1 (some .long) rm_X6_lower d (cw q d σ) [.ref (q 0)] out (cw q d σ) := by
  refine mkL (own := RX6) (by decide +kernel) rfl (Nat.le_of_ble_eq_true rfl) ?_
  intro p e s m below meth c A ls C hS hl
  obtain ⟨hx, hb, hml, hown, hts, -⟩ := id C
  have hl : lv_has ls 1 [(0, .ref (q 0))] := hl
  unfold M_X6_lower at hm
  refine lv_aload_n hx hb dX6_lower_0 rfl (lv_at hl 0 rfl) ?_
  refine g_6_67_0 C hS dX6_lower_1 ?_
  exact retLr C hS hm dX6_lower_4
def M_X6_keptWells_4 (σ : ST) : Nat → Int32 → Int32 → Option Int32
  | 0, _, _ => none
  | n + 1, x1, x2 => if 3 ≤ x2 then some x1 else (inR 3 x2).bind fun j14 => if (σ.1 (40 + j14)) = (-1) then M_X6_keptWells_4 σ n x1 (x2 + 1) else M_X6_keptWells_4 σ n (x1 + 1) (x2 + 1)
def M_X6_keptWells (σ : ST) : Option Int32 := M_X6_keptWells_4 σ 10000 0 0
abbrev rm_X6_keptWells : Room := { frames := 0, cells := 0, slots := 0, locals := 0 }
set_option maxRecDepth 100000 in
set_option maxHeartbeats 4000000 in
theorem c_X6_keptWells (l : Launch) (d : CD) (q : Nat → Nat) (σ : ST) (out : Int32) (hm : M_X6_keptWells σ = some out) : MetI l yX6_keptWells cX6_keptWells 3 (some .int) rm_X6_keptWells d (cw q d σ) [.ref (q 0)] out (cw q d σ) := by
  refine mkI (own := RX6) (by decide +kernel) rfl (Nat.le_of_ble_eq_true rfl) ?_
  intro p e s m below meth c A ls C hS hl
  obtain ⟨hx, hb, hml, hown, hts, -⟩ := id C
  have hl : lv_has ls 3 [(0, .ref (q 0))] := hl
  have L4 : ∀ (n : Nat) (x1 : Int32) (x2 : Int32) (H : Heap) (locs : List Loc) (ls : Array Slot), HS d A s.heap H locs (cw q d σ) → lv_has ls 3 [(0, .ref (q 0)), (1, .int x1), (2, .int x2)] → M_X6_keptWells_4 σ n x1 x2 = some out → WI p l e rm_X6_keptWells s m [.ref (q 0)].toArray below meth c A d H locs out (cw q d σ) (F0 m 4 ls []) := by
    intro n
    induction n with
    | zero =>
      intro x1 x2 H locs ls hS hl hm
      exact absurd hm (by rw [M_X6_keptWells_4]; exact fun h => nomatch h)
    | succ n ih =>
      intro x1 x2 H locs ls hS hl hm
      rw [M_X6_keptWells_4] at hm
      refine lv_iload_n hx hb dX6_keptWells_4 rfl (lv_at hl 2 rfl) ?_
      refine lv_iconst (v := 3) hx hb dX6_keptWells_5 (by decide) ?_
      refine lv_icmp_ge (tgt := 31) hx hb dX6_keptWells_6 (by decide) (fun c6 => ?_) (fun c6 => ?_)
      · replace hm := it c6 hm
        refine lv_iload_n hx hb dX6_keptWells_31 rfl (lv_at hl 1 rfl) ?_
        exact retIr C hS hm dX6_keptWells_32
      · replace hm := ie c6 hm
        refine lv_aload_n hx hb dX6_keptWells_9 rfl (lv_at hl 0 rfl) ?_
        refine g_6_48_0 C hS dX6_keptWells_10 ?_
        refine lv_iload_n hx hb dX6_keptWells_13 rfl (lv_at hl 2 rfl) ?_
        obtain ⟨j14, e14, hm⟩ := ob hm
        have hj14 := inR_lt e14
        refine aaldD (g := fun j => q (36 + j)) C hS cw_r35 e14 dX6_keptWells_14 ?_
        refine g_6_137_f36 hj14 C hS dX6_keptWells_15 ?_
        refine lv_iconst (v := (-1)) hx hb dX6_keptWells_18 (by decide) ?_
        refine lv_icmp_eq (tgt := 25) hx hb dX6_keptWells_19 (by decide) (fun c19 => ?_) (fun c19 => ?_)
        · replace hm := it c19 hm
          refine lv_iinc (v := x2 + 1) (lv' := [(2, .int (x2 + 1)), (0, .ref (q 0)), (1, .int x1)]) hx hb dX6_keptWells_25 hl (k := 2) rfl rfl (by decide) rfl (fun ls hl => ?_)
          refine lv_goto (tgt := 4) hx hb dX6_keptWells_28 (by decide) ?_
          exact ih x1 (x2 + 1) _ _ _ hS (lv_sub hl [1, 2, 0] rfl) hm
        · replace hm := ie c19 hm
          refine lv_iinc (v := x1 + 1) (lv' := [(1, .int (x1 + 1)), (0, .ref (q 0)), (2, .int x2)]) hx hb dX6_keptWells_22 hl (k := 1) rfl rfl (by decide) rfl (fun ls hl => ?_)
          refine lv_iinc (v := x2 + 1) (lv' := [(2, .int (x2 + 1)), (1, .int (x1 + 1)), (0, .ref (q 0))]) hx hb dX6_keptWells_25 hl (k := 2) rfl rfl (by decide) rfl (fun ls hl => ?_)
          refine lv_goto (tgt := 4) hx hb dX6_keptWells_28 (by decide) ?_
          exact ih (x1 + 1) (x2 + 1) _ _ _ hS (lv_sub hl [2, 1, 0] rfl) hm
  unfold M_X6_keptWells at hm
  refine lv_iconst (v := 0) hx hb dX6_keptWells_0 (by decide) ?_
  refine lv_istore_n (lv' := [(1, .int 0), (0, .ref (q 0))]) hx hb dX6_keptWells_1 rfl hl (by decide) rfl (fun ls hl => ?_)
  refine lv_iconst (v := 0) hx hb dX6_keptWells_2 (by decide) ?_
  refine lv_istore_n (lv' := [(2, .int 0), (1, .int 0), (0, .ref (q 0))]) hx hb dX6_keptWells_3 rfl hl (by decide) rfl (fun ls hl => ?_)
  exact L4 10000 0 0 _ _ _ hS (lv_sub hl [2, 1, 0] rfl) hm
def M_X3_howManyThere_t_4 (σ : ST) : Nat → Int32 → Int32 → Option Int32
  | 0, _, _ => none
  | n + 1, x1, x2 => if 4 ≤ x2 then some x1 else (M_X3_isThere_t σ x2).bind fun o15 => if o15 = 0 then M_X3_howManyThere_t_4 σ n x1 (x2 + 1) else M_X3_howManyThere_t_4 σ n (x1 + 1) (x2 + 1)
def M_X3_howManyThere_t (σ : ST) : Option Int32 := M_X3_howManyThere_t_4 σ 10000 0 0
abbrev rm_X3_howManyThere_t : Room := { frames := 2, cells := 0, slots := 0, locals := 42 }
set_option maxRecDepth 100000 in
set_option maxHeartbeats 4000000 in
theorem c_X3_howManyThere_t (l : Launch) (d : CD) (q : Nat → Nat) (σ : ST) (out : Int32) (hm : M_X3_howManyThere_t σ = some out) : MetI l yX3_howManyThere cX3_howManyThere 3 (some .int) rm_X3_howManyThere_t d (cw q d σ) [.ref (q 10)] out (cw q d σ) := by
  refine mkI (own := RX3) (by decide +kernel) rfl (Nat.le_of_ble_eq_true rfl) ?_
  intro p e s m below meth c A ls C hS hl
  obtain ⟨hx, hb, hml, hown, hts, -⟩ := id C
  have hl : lv_has ls 3 [(0, .ref (q 10))] := hl
  have L4 : ∀ (n : Nat) (x1 : Int32) (x2 : Int32) (H : Heap) (locs : List Loc) (ls : Array Slot), HS d A s.heap H locs (cw q d σ) → lv_has ls 3 [(0, .ref (q 10)), (1, .int x1), (2, .int x2)] → M_X3_howManyThere_t_4 σ n x1 x2 = some out → WI p l e rm_X3_howManyThere_t s m [.ref (q 10)].toArray below meth c A d H locs out (cw q d σ) (F0 m 4 ls []) := by
    intro n
    induction n with
    | zero =>
      intro x1 x2 H locs ls hS hl hm
      exact absurd hm (by rw [M_X3_howManyThere_t_4]; exact fun h => nomatch h)
    | succ n ih =>
      intro x1 x2 H locs ls hS hl hm
      rw [M_X3_howManyThere_t_4] at hm
      refine lv_iload_n hx hb dX3_howManyThere_4 rfl (lv_at hl 2 rfl) ?_
      refine lv_aload_n hx hb dX3_howManyThere_5 rfl (lv_at hl 0 rfl) ?_
      refine g_3_20_10 C hS dX3_howManyThere_6 ?_
      refine alen' (v := 4) C hS cw_a12 rfl dX3_howManyThere_9 ?_
      refine lv_icmp_ge (tgt := 30) hx hb dX3_howManyThere_10 (by decide) (fun c10 => ?_) (fun c10 => ?_)
      · replace hm := it c10 hm
        refine lv_iload_n hx hb dX3_howManyThere_30 rfl (lv_at hl 1 rfl) ?_
        exact retIr C hS hm dX3_howManyThere_31
      · replace hm := ie c10 hm
        refine lv_aload_n hx hb dX3_howManyThere_13 rfl (lv_at hl 0 rfl) ?_
        refine lv_iload_n hx hb dX3_howManyThere_14 rfl (lv_at hl 2 rfl) ?_
        obtain ⟨o15, e15, hm⟩ := ob hm
        refine after_i C hS (call_V (As := [.int x2]) C hS (c_X3_isThere_t l d q σ x2 o15 e15 _) iv_3_34 ⟨rfl, rfl, Nat.le_of_ble_eq_true rfl, Nat.le_of_ble_eq_true rfl⟩ cw_o10 rfl rfl rfl hl.1 (Nat.le_of_ble_eq_true rfl) dX3_howManyThere_15) (fun H locs hS => ?_)
        refine lv_if_eq (tgt := 24) hx hb dX3_howManyThere_18 (by decide) (fun c18 => ?_) (fun c18 => ?_)
        · replace hm := it c18 hm
          refine lv_iinc (v := x2 + 1) (lv' := [(2, .int (x2 + 1)), (0, .ref (q 10)), (1, .int x1)]) hx hb dX3_howManyThere_24 hl (k := 2) rfl rfl (by decide) rfl (fun ls hl => ?_)
          refine lv_goto (tgt := 4) hx hb dX3_howManyThere_27 (by decide) ?_
          exact ih x1 (x2 + 1) _ _ _ hS (lv_sub hl [1, 2, 0] rfl) hm
        · replace hm := ie c18 hm
          refine lv_iinc (v := x1 + 1) (lv' := [(1, .int (x1 + 1)), (0, .ref (q 10)), (2, .int x2)]) hx hb dX3_howManyThere_21 hl (k := 1) rfl rfl (by decide) rfl (fun ls hl => ?_)
          refine lv_iinc (v := x2 + 1) (lv' := [(2, .int (x2 + 1)), (1, .int (x1 + 1)), (0, .ref (q 10))]) hx hb dX3_howManyThere_24 hl (k := 2) rfl rfl (by decide) rfl (fun ls hl => ?_)
          refine lv_goto (tgt := 4) hx hb dX3_howManyThere_27 (by decide) ?_
          exact ih (x1 + 1) (x2 + 1) _ _ _ hS (lv_sub hl [2, 1, 0] rfl) hm
  unfold M_X3_howManyThere_t at hm
  refine lv_iconst (v := 0) hx hb dX3_howManyThere_0 (by decide) ?_
  refine lv_istore_n (lv' := [(1, .int 0), (0, .ref (q 10))]) hx hb dX3_howManyThere_1 rfl hl (by decide) rfl (fun ls hl => ?_)
  refine lv_iconst (v := 0) hx hb dX3_howManyThere_2 (by decide) ?_
  refine lv_istore_n (lv' := [(2, .int 0), (1, .int 0), (0, .ref (q 10))]) hx hb dX3_howManyThere_3 rfl hl (by decide) rfl (fun ls hl => ?_)
  exact L4 10000 0 0 _ _ _ hS (lv_sub hl [2, 1, 0] rfl) hm
def M_X3_howManyThere_r_4 (σ : ST) : Nat → Int32 → Int32 → Option Int32
  | 0, _, _ => none
  | n + 1, x1, x2 => if 6 ≤ x2 then some x1 else (M_X3_isThere_r σ x2).bind fun o15 => if o15 = 0 then M_X3_howManyThere_r_4 σ n x1 (x2 + 1) else M_X3_howManyThere_r_4 σ n (x1 + 1) (x2 + 1)
def M_X3_howManyThere_r (σ : ST) : Option Int32 := M_X3_howManyThere_r_4 σ 10000 0 0
abbrev rm_X3_howManyThere_r : Room := { frames := 2, cells := 0, slots := 0, locals := 42 }
set_option maxRecDepth 100000 in
set_option maxHeartbeats 4000000 in
theorem c_X3_howManyThere_r (l : Launch) (d : CD) (q : Nat → Nat) (σ : ST) (out : Int32) (hm : M_X3_howManyThere_r σ = some out) : MetI l yX3_howManyThere cX3_howManyThere 3 (some .int) rm_X3_howManyThere_r d (cw q d σ) [.ref (q 1)] out (cw q d σ) := by
  refine mkI (own := RX3) (by decide +kernel) rfl (Nat.le_of_ble_eq_true rfl) ?_
  intro p e s m below meth c A ls C hS hl
  obtain ⟨hx, hb, hml, hown, hts, -⟩ := id C
  have hl : lv_has ls 3 [(0, .ref (q 1))] := hl
  have L4 : ∀ (n : Nat) (x1 : Int32) (x2 : Int32) (H : Heap) (locs : List Loc) (ls : Array Slot), HS d A s.heap H locs (cw q d σ) → lv_has ls 3 [(0, .ref (q 1)), (1, .int x1), (2, .int x2)] → M_X3_howManyThere_r_4 σ n x1 x2 = some out → WI p l e rm_X3_howManyThere_r s m [.ref (q 1)].toArray below meth c A d H locs out (cw q d σ) (F0 m 4 ls []) := by
    intro n
    induction n with
    | zero =>
      intro x1 x2 H locs ls hS hl hm
      exact absurd hm (by rw [M_X3_howManyThere_r_4]; exact fun h => nomatch h)
    | succ n ih =>
      intro x1 x2 H locs ls hS hl hm
      rw [M_X3_howManyThere_r_4] at hm
      refine lv_iload_n hx hb dX3_howManyThere_4 rfl (lv_at hl 2 rfl) ?_
      refine lv_aload_n hx hb dX3_howManyThere_5 rfl (lv_at hl 0 rfl) ?_
      refine g_3_20_1 C hS dX3_howManyThere_6 ?_
      refine alen' (v := 6) C hS cw_a3 rfl dX3_howManyThere_9 ?_
      refine lv_icmp_ge (tgt := 30) hx hb dX3_howManyThere_10 (by decide) (fun c10 => ?_) (fun c10 => ?_)
      · replace hm := it c10 hm
        refine lv_iload_n hx hb dX3_howManyThere_30 rfl (lv_at hl 1 rfl) ?_
        exact retIr C hS hm dX3_howManyThere_31
      · replace hm := ie c10 hm
        refine lv_aload_n hx hb dX3_howManyThere_13 rfl (lv_at hl 0 rfl) ?_
        refine lv_iload_n hx hb dX3_howManyThere_14 rfl (lv_at hl 2 rfl) ?_
        obtain ⟨o15, e15, hm⟩ := ob hm
        refine after_i C hS (call_V (As := [.int x2]) C hS (c_X3_isThere_r l d q σ x2 o15 e15 _) iv_3_34 ⟨rfl, rfl, Nat.le_of_ble_eq_true rfl, Nat.le_of_ble_eq_true rfl⟩ cw_o1 rfl rfl rfl hl.1 (Nat.le_of_ble_eq_true rfl) dX3_howManyThere_15) (fun H locs hS => ?_)
        refine lv_if_eq (tgt := 24) hx hb dX3_howManyThere_18 (by decide) (fun c18 => ?_) (fun c18 => ?_)
        · replace hm := it c18 hm
          refine lv_iinc (v := x2 + 1) (lv' := [(2, .int (x2 + 1)), (0, .ref (q 1)), (1, .int x1)]) hx hb dX3_howManyThere_24 hl (k := 2) rfl rfl (by decide) rfl (fun ls hl => ?_)
          refine lv_goto (tgt := 4) hx hb dX3_howManyThere_27 (by decide) ?_
          exact ih x1 (x2 + 1) _ _ _ hS (lv_sub hl [1, 2, 0] rfl) hm
        · replace hm := ie c18 hm
          refine lv_iinc (v := x1 + 1) (lv' := [(1, .int (x1 + 1)), (0, .ref (q 1)), (2, .int x2)]) hx hb dX3_howManyThere_21 hl (k := 1) rfl rfl (by decide) rfl (fun ls hl => ?_)
          refine lv_iinc (v := x2 + 1) (lv' := [(2, .int (x2 + 1)), (1, .int (x1 + 1)), (0, .ref (q 1))]) hx hb dX3_howManyThere_24 hl (k := 2) rfl rfl (by decide) rfl (fun ls hl => ?_)
          refine lv_goto (tgt := 4) hx hb dX3_howManyThere_27 (by decide) ?_
          exact ih (x1 + 1) (x2 + 1) _ _ _ hS (lv_sub hl [2, 1, 0] rfl) hm
  unfold M_X3_howManyThere_r at hm
  refine lv_iconst (v := 0) hx hb dX3_howManyThere_0 (by decide) ?_
  refine lv_istore_n (lv' := [(1, .int 0), (0, .ref (q 1))]) hx hb dX3_howManyThere_1 rfl hl (by decide) rfl (fun ls hl => ?_)
  refine lv_iconst (v := 0) hx hb dX3_howManyThere_2 (by decide) ?_
  refine lv_istore_n (lv' := [(2, .int 0), (1, .int 0), (0, .ref (q 1))]) hx hb dX3_howManyThere_3 rfl hl (by decide) rfl (fun ls hl => ?_)
  exact L4 10000 0 0 _ _ _ hS (lv_sub hl [2, 1, 0] rfl) hm
def M_X0_howManyOf_4 (σ : ST) : Nat → Int32 → Int32 → Int32 → Option Int32
  | 0, _, _, _ => none
  | n + 1, x1, x2, x3 => if (σ.1 33) ≤ x3 then some x2 else (rd 7 (σ.2.2 24) x3).bind fun v17 => (M_X6_isOfKind v17 x1).bind fun o19 => if o19 = 0 then M_X0_howManyOf_4 σ n x1 x2 (x3 + 1) else M_X0_howManyOf_4 σ n x1 (x2 + 1) (x3 + 1)
def M_X0_howManyOf (σ : ST) (a1 : Int32) : Option Int32 := M_X0_howManyOf_4 σ 10000 a1 0 0
abbrev rm_X0_howManyOf : Room := { frames := 1, cells := 0, slots := 0, locals := 21 }
set_option maxRecDepth 100000 in
set_option maxHeartbeats 4000000 in
theorem c_X0_howManyOf (l : Launch) (d : CD) (q : Nat → Nat) (σ : ST) (a1 : Int32) (out : Int32) (hm : M_X0_howManyOf σ a1 = some out) : MetI l yX0_howManyOf cX0_howManyOf 4 (some .int) rm_X0_howManyOf d (cw q d σ) [.ref (q 23), .int a1] out (cw q d σ) := by
  refine mkI (own := RX0) (by decide +kernel) rfl (Nat.le_of_ble_eq_true rfl) ?_
  intro p e s m below meth c A ls C hS hl
  obtain ⟨hx, hb, hml, hown, hts, -⟩ := id C
  have hl : lv_has ls 4 [(0, .ref (q 23)), (1, .int a1)] := hl
  have L4 : ∀ (n : Nat) (x1 : Int32) (x2 : Int32) (x3 : Int32) (H : Heap) (locs : List Loc) (ls : Array Slot), HS d A s.heap H locs (cw q d σ) → lv_has ls 4 [(0, .ref (q 23)), (1, .int x1), (2, .int x2), (3, .int x3)] → M_X0_howManyOf_4 σ n x1 x2 x3 = some out → WI p l e rm_X0_howManyOf s m [.ref (q 23), .int a1].toArray below meth c A d H locs out (cw q d σ) (F0 m 4 ls []) := by
    intro n
    induction n with
    | zero =>
      intro x1 x2 x3 H locs ls hS hl hm
      exact absurd hm (by rw [M_X0_howManyOf_4]; exact fun h => nomatch h)
    | succ n ih =>
      intro x1 x2 x3 H locs ls hS hl hm
      rw [M_X0_howManyOf_4] at hm
      refine lv_iload_n hx hb dX0_howManyOf_4 rfl (lv_at hl 3 rfl) ?_
      refine lv_aload_n hx hb dX0_howManyOf_5 rfl (lv_at hl 0 rfl) ?_
      refine g_0_31_23 C hS dX0_howManyOf_6 ?_
      refine lv_icmp_ge (tgt := 34) hx hb dX0_howManyOf_9 (by decide) (fun c9 => ?_) (fun c9 => ?_)
      · replace hm := it c9 hm
        refine lv_iload_n hx hb dX0_howManyOf_34 rfl (lv_at hl 2 rfl) ?_
        exact retIr C hS hm dX0_howManyOf_35
      · replace hm := ie c9 hm
        refine lv_aload_n hx hb dX0_howManyOf_12 rfl (lv_at hl 0 rfl) ?_
        refine g_0_9_23 C hS dX0_howManyOf_13 ?_
        refine lv_iload_n hx hb dX0_howManyOf_16 rfl (lv_at hl 3 rfl) ?_
        obtain ⟨v17, e17, hm⟩ := ob hm
        refine iald' C hS cw_a24 e17 dX0_howManyOf_17 ?_
        refine lv_iload_n hx hb dX0_howManyOf_18 rfl (lv_at hl 1 rfl) ?_
        obtain ⟨o19, e19, hm⟩ := ob hm
        refine after_i C hS (call_N (As := [.int v17, .int x1]) C hS (c_X6_isOfKind l d (cw q d σ) v17 x1 o19 e19 _) is_0_47 ⟨rfl, rfl, Nat.le_of_ble_eq_true rfl, Nat.le_of_ble_eq_true rfl⟩ rfl hl.1 (Nat.le_of_ble_eq_true rfl) dX0_howManyOf_19) (fun H locs hS => ?_)
        refine lv_if_eq (tgt := 28) hx hb dX0_howManyOf_22 (by decide) (fun c22 => ?_) (fun c22 => ?_)
        · replace hm := it c22 hm
          refine lv_iinc (v := x3 + 1) (lv' := [(3, .int (x3 + 1)), (0, .ref (q 23)), (1, .int x1), (2, .int x2)]) hx hb dX0_howManyOf_28 hl (k := 3) rfl rfl (by decide) rfl (fun ls hl => ?_)
          refine lv_goto (tgt := 4) hx hb dX0_howManyOf_31 (by decide) ?_
          exact ih x1 x2 (x3 + 1) _ _ _ hS (lv_sub hl [1, 2, 3, 0] rfl) hm
        · replace hm := ie c22 hm
          refine lv_iinc (v := x2 + 1) (lv' := [(2, .int (x2 + 1)), (0, .ref (q 23)), (1, .int x1), (3, .int x3)]) hx hb dX0_howManyOf_25 hl (k := 2) rfl rfl (by decide) rfl (fun ls hl => ?_)
          refine lv_iinc (v := x3 + 1) (lv' := [(3, .int (x3 + 1)), (2, .int (x2 + 1)), (0, .ref (q 23)), (1, .int x1)]) hx hb dX0_howManyOf_28 hl (k := 3) rfl rfl (by decide) rfl (fun ls hl => ?_)
          refine lv_goto (tgt := 4) hx hb dX0_howManyOf_31 (by decide) ?_
          exact ih x1 (x2 + 1) (x3 + 1) _ _ _ hS (lv_sub hl [2, 3, 1, 0] rfl) hm
  unfold M_X0_howManyOf at hm
  refine lv_iconst (v := 0) hx hb dX0_howManyOf_0 (by decide) ?_
  refine lv_istore_n (lv' := [(2, .int 0), (0, .ref (q 23)), (1, .int a1)]) hx hb dX0_howManyOf_1 rfl hl (by decide) rfl (fun ls hl => ?_)
  refine lv_iconst (v := 0) hx hb dX0_howManyOf_2 (by decide) ?_
  refine lv_istore_n (lv' := [(3, .int 0), (2, .int 0), (0, .ref (q 23)), (1, .int a1)]) hx hb dX0_howManyOf_3 rfl hl (by decide) rfl (fun ls hl => ?_)
  exact L4 10000 a1 0 0 _ _ _ hS (lv_sub hl [2, 3, 1, 0] rfl) hm
def M_X6_countOf (σ : ST) (a1 : Int32) : Option Int32 := if a1 = 0 then (M_X5_houses σ).bind fun o60 => some o60 else if a1 = 1 then some (σ.1 36) else if a1 = 2 then some (σ.1 37) else if a1 = 3 then some (σ.1 35) else if a1 = 4 then some (σ.1 30) else if a1 = 5 then some (σ.1 34) else if a1 = 6 then (M_X0_howManyOf σ 1).bind fun o121 => some o121 else if a1 = 7 then (M_X0_howManyOf σ 3).bind fun o133 => some o133 else if a1 = 8 then (M_X3_howManyThere_r σ).bind fun o141 => some o141 else if a1 = 9 then (M_X3_howManyThere_t σ).bind fun o149 => some o149 else (M_X6_keptWells σ).bind fun o154 => some o154
abbrev rm_X6_countOf : Room := { frames := 3, cells := 0, slots := 0, locals := 64 }
set_option maxRecDepth 100000 in
set_option maxHeartbeats 4000000 in
theorem c_X6_countOf (l : Launch) (d : CD) (q : Nat → Nat) (σ : ST) (a1 : Int32) (out : Int32) (hm : M_X6_countOf σ a1 = some out) : MetI l yX6_countOf cX6_countOf 2 (some .int) rm_X6_countOf d (cw q d σ) [.ref (q 0), .int a1] out (cw q d σ) := by
  refine mkI (own := RX6) (by decide +kernel) rfl (Nat.le_of_ble_eq_true rfl) ?_
  intro p e s m below meth c A ls C hS hl
  obtain ⟨hx, hb, hml, hown, hts, -⟩ := id C
  have hl : lv_has ls 2 [(0, .ref (q 0)), (1, .int a1)] := hl
  unfold M_X6_countOf at hm
  refine lv_iload_n hx hb dX6_countOf_0 rfl (lv_at hl 1 rfl) ?_
  by_cases c1_0 : a1 = 0
  · replace hm := it c1_0 hm
    refine lv_tableIn (off := 55) (tgt := 56) hx hb dX6_countOf_1 (by rw [c1_0]; decide) (by rw [c1_0]; decide) (by rw [c1_0]; rfl) (by decide) ?_
    refine lv_aload_n hx hb dX6_countOf_56 rfl (lv_at hl 0 rfl) ?_
    refine g_6_33_0 C hS dX6_countOf_57 ?_
    obtain ⟨o60, e60, hm⟩ := ob hm
    refine after_i C hS (call_V (As := []) C hS (c_X5_houses l d q σ o60 e60 _) iv_6_140 ⟨rfl, rfl, Nat.le_of_ble_eq_true rfl, Nat.le_of_ble_eq_true rfl⟩ cw_o22 rfl rfl rfl hl.1 (Nat.le_of_ble_eq_true rfl) dX6_countOf_60) (fun H locs hS => ?_)
    exact retIr C hS hm dX6_countOf_63
  · replace hm := ie c1_0 hm
    by_cases c1_1 : a1 = 1
    · replace hm := it c1_1 hm
      refine lv_tableIn (off := 63) (tgt := 64) hx hb dX6_countOf_1 (by rw [c1_1]; decide) (by rw [c1_1]; decide) (by rw [c1_1]; rfl) (by decide) ?_
      refine lv_aload_n hx hb dX6_countOf_64 rfl (lv_at hl 0 rfl) ?_
      refine g_6_33_0 C hS dX6_countOf_65 ?_
      refine g_6_319_22 C hS dX6_countOf_68 ?_
      exact retIr C hS hm dX6_countOf_71
    · replace hm := ie c1_1 hm
      by_cases c1_2 : a1 = 2
      · replace hm := it c1_2 hm
        refine lv_tableIn (off := 71) (tgt := 72) hx hb dX6_countOf_1 (by rw [c1_2]; decide) (by rw [c1_2]; decide) (by rw [c1_2]; rfl) (by decide) ?_
        refine lv_aload_n hx hb dX6_countOf_72 rfl (lv_at hl 0 rfl) ?_
        refine g_6_33_0 C hS dX6_countOf_73 ?_
        refine g_6_168_22 C hS dX6_countOf_76 ?_
        refine g_6_137_27 C hS dX6_countOf_79 ?_
        exact retIr C hS hm dX6_countOf_82
      · replace hm := ie c1_2 hm
        by_cases c1_3 : a1 = 3
        · replace hm := it c1_3 hm
          refine lv_tableIn (off := 82) (tgt := 83) hx hb dX6_countOf_1 (by rw [c1_3]; decide) (by rw [c1_3]; decide) (by rw [c1_3]; rfl) (by decide) ?_
          refine lv_aload_n hx hb dX6_countOf_83 rfl (lv_at hl 0 rfl) ?_
          refine g_6_33_0 C hS dX6_countOf_84 ?_
          refine g_6_187_22 C hS dX6_countOf_87 ?_
          exact retIr C hS hm dX6_countOf_90
        · replace hm := ie c1_3 hm
          by_cases c1_4 : a1 = 4
          · replace hm := it c1_4 hm
            refine lv_tableIn (off := 90) (tgt := 91) hx hb dX6_countOf_1 (by rw [c1_4]; decide) (by rw [c1_4]; decide) (by rw [c1_4]; rfl) (by decide) ?_
            refine lv_aload_n hx hb dX6_countOf_91 rfl (lv_at hl 0 rfl) ?_
            refine g_6_33_0 C hS dX6_countOf_92 ?_
            refine g_6_125_22 C hS dX6_countOf_95 ?_
            refine g_6_322_23 C hS dX6_countOf_98 ?_
            exact retIr C hS hm dX6_countOf_101
          · replace hm := ie c1_4 hm
            by_cases c1_5 : a1 = 5
            · replace hm := it c1_5 hm
              refine lv_tableIn (off := 101) (tgt := 102) hx hb dX6_countOf_1 (by rw [c1_5]; decide) (by rw [c1_5]; decide) (by rw [c1_5]; rfl) (by decide) ?_
              refine lv_aload_n hx hb dX6_countOf_102 rfl (lv_at hl 0 rfl) ?_
              refine g_6_33_0 C hS dX6_countOf_103 ?_
              refine g_6_125_22 C hS dX6_countOf_106 ?_
              refine g_6_325_23 C hS dX6_countOf_109 ?_
              exact retIr C hS hm dX6_countOf_112
            · replace hm := ie c1_5 hm
              by_cases c1_6 : a1 = 6
              · replace hm := it c1_6 hm
                refine lv_tableIn (off := 112) (tgt := 113) hx hb dX6_countOf_1 (by rw [c1_6]; decide) (by rw [c1_6]; decide) (by rw [c1_6]; rfl) (by decide) ?_
                refine lv_aload_n hx hb dX6_countOf_113 rfl (lv_at hl 0 rfl) ?_
                refine g_6_33_0 C hS dX6_countOf_114 ?_
                refine g_6_125_22 C hS dX6_countOf_117 ?_
                refine lv_iconst (v := 1) hx hb dX6_countOf_120 (by decide) ?_
                obtain ⟨o121, e121, hm⟩ := ob hm
                refine after_i C hS (call_V (As := [.int 1]) C hS (c_X0_howManyOf l d q σ 1 o121 e121 _) iv_6_328 ⟨rfl, rfl, Nat.le_of_ble_eq_true rfl, Nat.le_of_ble_eq_true rfl⟩ cw_o23 rfl rfl rfl hl.1 (Nat.le_of_ble_eq_true rfl) dX6_countOf_121) (fun H locs hS => ?_)
                exact retIr C hS hm dX6_countOf_124
              · replace hm := ie c1_6 hm
                by_cases c1_7 : a1 = 7
                · replace hm := it c1_7 hm
                  refine lv_tableIn (off := 124) (tgt := 125) hx hb dX6_countOf_1 (by rw [c1_7]; decide) (by rw [c1_7]; decide) (by rw [c1_7]; rfl) (by decide) ?_
                  refine lv_aload_n hx hb dX6_countOf_125 rfl (lv_at hl 0 rfl) ?_
                  refine g_6_33_0 C hS dX6_countOf_126 ?_
                  refine g_6_125_22 C hS dX6_countOf_129 ?_
                  refine lv_iconst (v := 3) hx hb dX6_countOf_132 (by decide) ?_
                  obtain ⟨o133, e133, hm⟩ := ob hm
                  refine after_i C hS (call_V (As := [.int 3]) C hS (c_X0_howManyOf l d q σ 3 o133 e133 _) iv_6_328 ⟨rfl, rfl, Nat.le_of_ble_eq_true rfl, Nat.le_of_ble_eq_true rfl⟩ cw_o23 rfl rfl rfl hl.1 (Nat.le_of_ble_eq_true rfl) dX6_countOf_133) (fun H locs hS => ?_)
                  exact retIr C hS hm dX6_countOf_136
                · replace hm := ie c1_7 hm
                  by_cases c1_8 : a1 = 8
                  · replace hm := it c1_8 hm
                    refine lv_tableIn (off := 136) (tgt := 137) hx hb dX6_countOf_1 (by rw [c1_8]; decide) (by rw [c1_8]; decide) (by rw [c1_8]; rfl) (by decide) ?_
                    refine lv_aload_n hx hb dX6_countOf_137 rfl (lv_at hl 0 rfl) ?_
                    refine g_6_14_0 C hS dX6_countOf_138 ?_
                    obtain ⟨o141, e141, hm⟩ := ob hm
                    refine after_i C hS (call_V (As := []) C hS (c_X3_howManyThere_r l d q σ o141 e141 _) iv_6_331 ⟨rfl, rfl, Nat.le_of_ble_eq_true rfl, Nat.le_of_ble_eq_true rfl⟩ cw_o1 rfl rfl rfl hl.1 (Nat.le_of_ble_eq_true rfl) dX6_countOf_141) (fun H locs hS => ?_)
                    exact retIr C hS hm dX6_countOf_144
                  · replace hm := ie c1_8 hm
                    by_cases c1_9 : a1 = 9
                    · replace hm := it c1_9 hm
                      refine lv_tableIn (off := 144) (tgt := 145) hx hb dX6_countOf_1 (by rw [c1_9]; decide) (by rw [c1_9]; decide) (by rw [c1_9]; rfl) (by decide) ?_
                      refine lv_aload_n hx hb dX6_countOf_145 rfl (lv_at hl 0 rfl) ?_
                      refine g_6_18_0 C hS dX6_countOf_146 ?_
                      obtain ⟨o149, e149, hm⟩ := ob hm
                      refine after_i C hS (call_V (As := []) C hS (c_X3_howManyThere_t l d q σ o149 e149 _) iv_6_331 ⟨rfl, rfl, Nat.le_of_ble_eq_true rfl, Nat.le_of_ble_eq_true rfl⟩ cw_o10 rfl rfl rfl hl.1 (Nat.le_of_ble_eq_true rfl) dX6_countOf_149) (fun H locs hS => ?_)
                      exact retIr C hS hm dX6_countOf_152
                    · replace hm := ie c1_9 hm
                      refine lv_tableOut (tgt := 153) hx hb dX6_countOf_1 (by have h0 : a1.toInt ≠ 0 := ts_ne c1_0; have h1 : a1.toInt ≠ 1 := ts_ne c1_1; have h2 : a1.toInt ≠ 2 := ts_ne c1_2; have h3 : a1.toInt ≠ 3 := ts_ne c1_3; have h4 : a1.toInt ≠ 4 := ts_ne c1_4; have h5 : a1.toInt ≠ 5 := ts_ne c1_5; have h6 : a1.toInt ≠ 6 := ts_ne c1_6; have h7 : a1.toInt ≠ 7 := ts_ne c1_7; have h8 : a1.toInt ≠ 8 := ts_ne c1_8; have h9 : a1.toInt ≠ 9 := ts_ne c1_9; omega) (by decide) ?_
                      refine lv_aload_n hx hb dX6_countOf_153 rfl (lv_at hl 0 rfl) ?_
                      obtain ⟨o154, e154, hm⟩ := ob hm
                      refine after_i C hS (call_V (As := []) C hS (c_X6_keptWells l d q σ o154 e154 _) iv_6_334 ⟨rfl, rfl, Nat.le_of_ble_eq_true rfl, Nat.le_of_ble_eq_true rfl⟩ cw_o0 rfl rfl rfl hl.1 (Nat.le_of_ble_eq_true rfl) dX6_countOf_154) (fun H locs hS => ?_)
                      exact retIr C hS hm dX6_countOf_157
def M_X6_count (σ : ST) (a1 : Int32) : Option Int32 := if a1 < 0 then some (-1) else if a1 < 11 then (M_X6_countOf σ a1).bind fun o16 => some o16 else some (-1)
abbrev rm_X6_count : Room := { frames := 4, cells := 0, slots := 0, locals := 85 }
set_option maxRecDepth 100000 in
set_option maxHeartbeats 4000000 in
theorem c_X6_count (l : Launch) (d : CD) (q : Nat → Nat) (σ : ST) (a1 : Int32) (out : Int32) (hm : M_X6_count σ a1 = some out) : MetI l yX6_count cX6_count 2 (some .int) rm_X6_count d (cw q d σ) [.ref (q 0), .int a1] out (cw q d σ) := by
  refine mkI (own := RX6) (by decide +kernel) rfl (Nat.le_of_ble_eq_true rfl) ?_
  intro p e s m below meth c A ls C hS hl
  obtain ⟨hx, hb, hml, hown, hts, -⟩ := id C
  have hl : lv_has ls 2 [(0, .ref (q 0)), (1, .int a1)] := hl
  unfold M_X6_count at hm
  refine lv_iload_n hx hb dX6_count_0 rfl (lv_at hl 1 rfl) ?_
  refine lv_if_lt (tgt := 10) hx hb dX6_count_1 (by decide) (fun c1 => ?_) (fun c1 => ?_)
  · replace hm := it c1 hm
    refine lv_iconst (v := (-1)) hx hb dX6_count_10 (by decide) ?_
    refine lv_goto (tgt := 19) hx hb dX6_count_11 (by decide) ?_
    exact retIr C hS hm dX6_count_19
  · replace hm := ie c1 hm
    refine lv_iload_n hx hb dX6_count_4 rfl (lv_at hl 1 rfl) ?_
    refine lv_bipush (v := 11) hx hb dX6_count_5 (by decide) ?_
    refine lv_icmp_lt (tgt := 14) hx hb dX6_count_7 (by decide) (fun c7 => ?_) (fun c7 => ?_)
    · replace hm := it c7 hm
      refine lv_aload_n hx hb dX6_count_14 rfl (lv_at hl 0 rfl) ?_
      refine lv_iload_n hx hb dX6_count_15 rfl (lv_at hl 1 rfl) ?_
      obtain ⟨o16, e16, hm⟩ := ob hm
      refine after_i C hS (call_V (As := [.int a1]) C hS (c_X6_countOf l d q σ a1 o16 e16 _) iv_6_298 ⟨rfl, rfl, Nat.le_of_ble_eq_true rfl, Nat.le_of_ble_eq_true rfl⟩ cw_o0 rfl rfl rfl hl.1 (Nat.le_of_ble_eq_true rfl) dX6_count_16) (fun H locs hS => ?_)
      exact retIr C hS hm dX6_count_19
    · replace hm := ie c7 hm
      refine lv_iconst (v := (-1)) hx hb dX6_count_10 (by decide) ?_
      refine lv_goto (tgt := 19) hx hb dX6_count_11 (by decide) ?_
      exact retIr C hS hm dX6_count_19
def M_X6_finding (σ : ST) : Option Int32 := some (σ.1 7)
abbrev rm_X6_finding : Room := { frames := 0, cells := 0, slots := 0, locals := 0 }
set_option maxRecDepth 100000 in
set_option maxHeartbeats 4000000 in
theorem c_X6_finding (l : Launch) (d : CD) (q : Nat → Nat) (σ : ST) (out : Int32) (hm : M_X6_finding σ = some out) : MetI l yX6_finding cX6_finding 1 (some .int) rm_X6_finding d (cw q d σ) [.ref (q 0)] out (cw q d σ) := by
  refine mkI (own := RX6) (by decide +kernel) rfl (Nat.le_of_ble_eq_true rfl) ?_
  intro p e s m below meth c A ls C hS hl
  obtain ⟨hx, hb, hml, hown, hts, -⟩ := id C
  have hl : lv_has ls 1 [(0, .ref (q 0))] := hl
  unfold M_X6_finding at hm
  refine lv_aload_n hx hb dX6_finding_0 rfl (lv_at hl 0 rfl) ?_
  refine g_6_56_0 C hS dX6_finding_1 ?_
  exact retIr C hS hm dX6_finding_4
