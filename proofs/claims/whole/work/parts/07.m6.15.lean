def M_X6_digest_86 (σ : ST) : Nat → Int64 → Int32 → Option Int64
  | 0, _, _ => none
  | n + 1, x1, x3 => if 3 ≤ x3 then (M_X3_fold_r σ x1).bind fun o123 => (M_X3_fold_t σ o123).bind fun o126 => some o126 else (inR 3 x3).bind fun j101 => M_X6_digest_86 σ n ((31 * x1) + ((σ.1 (40 + j101)).toInt64)) (x3 + 1)
def M_X6_digest_47 (σ : ST) (k33 : Int64 → Int32 → Option Int64) : Nat → Int64 → Int32 → Int32 → Option Int64
  | 0, _, _, _ => none
  | n + 1, x1, x3, x4 => if 7 ≤ x4 then k33 x1 (x3 + 1) else (M_X5_factOf σ x3 x4).bind fun o66 => M_X6_digest_47 σ k33 n ((31 * x1) + o66.toInt64) x3 (x4 + 1)
def M_X6_digest_33 (σ : ST) : Nat → Int64 → Int32 → Option Int64
  | 0, _, _ => none
  | n + 1, x1, x3 => (M_X5_houses σ).bind fun o38 => if o38 ≤ x3 then M_X6_digest_86 σ 10000 x1 0 else M_X6_digest_47 σ (M_X6_digest_33 σ n) 10000 x1 x3 0
def M_X6_digest_6 (σ : ST) : Nat → Int64 → Int32 → Option Int64
  | 0, _, _ => none
  | n + 1, x1, x3 => if 11 ≤ x3 then M_X6_digest_33 σ 10000 x1 0 else (M_X6_countOf σ x3).bind fun o19 => M_X6_digest_6 σ n ((31 * x1) + o19.toInt64) (x3 + 1)
def M_X6_digest (σ : ST) : Option Int64 := M_X6_digest_6 σ 10000 17 0
abbrev rm_X6_digest : Room := { frames := 5, cells := 0, slots := 0, locals := 112 }
set_option maxRecDepth 100000 in
set_option maxHeartbeats 4000000 in
theorem c_X6_digest (l : Launch) (d : CD) (q : Nat → Nat) (σ : ST) (out : Int64) (hm : M_X6_digest σ = some out) : MetL l yX6_digest cX6_digest 5 (some .long) rm_X6_digest d (cw q d σ) [.ref (q 0)] out (cw q d σ) := by
  refine mkL (own := RX6) (by decide +kernel) rfl (Nat.le_of_ble_eq_true rfl) ?_
  intro p e s m below meth c A ls C hS hl
  obtain ⟨hx, hb, hml, hown, hts, -⟩ := id C
  have hl : lv_has ls 5 [(0, .ref (q 0))] := hl
  have L86 : ∀ (n : Nat) (x1 : Int64) (x3 : Int32) (H : Heap) (locs : List Loc) (ls : Array Slot), HS d A s.heap H locs (cw q d σ) → lv_has ls 5 [(0, .ref (q 0)), (1, .long x1), (3, .int x3)] → M_X6_digest_86 σ n x1 x3 = some out → WL p l e rm_X6_digest s m [.ref (q 0)].toArray below meth c A d H locs out (cw q d σ) (F0 m 86 ls []) := by
    intro n
    induction n with
    | zero =>
      intro x1 x3 H locs ls hS hl hm
      exact absurd hm (by rw [M_X6_digest_86]; exact fun h => nomatch h)
    | succ n ih =>
      intro x1 x3 H locs ls hS hl hm
      rw [M_X6_digest_86] at hm
      refine lv_iload_n hx hb dX6_digest_86 rfl (lv_at hl 2 rfl) ?_
      refine lv_iconst (v := 3) hx hb dX6_digest_87 (by decide) ?_
      refine lv_icmp_ge (tgt := 114) hx hb dX6_digest_88 (by decide) (fun c88 => ?_) (fun c88 => ?_)
      · replace hm := it c88 hm
        refine lv_aload_n hx hb dX6_digest_114 rfl (lv_at hl 0 rfl) ?_
        refine g_6_18_0 C hS dX6_digest_115 ?_
        refine lv_aload_n hx hb dX6_digest_118 rfl (lv_at hl 0 rfl) ?_
        refine g_6_14_0 C hS dX6_digest_119 ?_
        refine lv_lload_n hx hb dX6_digest_122 rfl (lv_at hl 1 rfl) ?_
        obtain ⟨o123, e123, hm⟩ := ob hm
        refine after_l C hS (call_V (As := [.long x1]) C hS (c_X3_fold_r l d q σ x1 o123 e123 _) iv_6_305 ⟨rfl, rfl, Nat.le_of_ble_eq_true rfl, Nat.le_of_ble_eq_true rfl⟩ cw_o1 rfl rfl rfl hl.1 (Nat.le_of_ble_eq_true rfl) dX6_digest_123) (fun H locs hS => ?_)
        obtain ⟨o126, e126, hm⟩ := ob hm
        refine after_l C hS (call_V (As := [.long o123]) C hS (c_X3_fold_t l d q σ o123 o126 e126 _) iv_6_305 ⟨rfl, rfl, Nat.le_of_ble_eq_true rfl, Nat.le_of_ble_eq_true rfl⟩ cw_o10 rfl rfl rfl hl.1 (Nat.le_of_ble_eq_true rfl) dX6_digest_126) (fun H locs hS => ?_)
        exact retLr C hS hm dX6_digest_129
      · replace hm := ie c88 hm
        refine lv_ldc2 (v := 31) hx hb hown (hts _ lc_X6_303) dX6_digest_91 ?_
        refine lv_lload_n hx hb dX6_digest_94 rfl (lv_at hl 1 rfl) ?_
        refine lv_lmul hx hb dX6_digest_95 ?_
        refine lv_aload_n hx hb dX6_digest_96 rfl (lv_at hl 0 rfl) ?_
        refine g_6_48_0 C hS dX6_digest_97 ?_
        refine lv_iload_n hx hb dX6_digest_100 rfl (lv_at hl 2 rfl) ?_
        obtain ⟨j101, e101, hm⟩ := ob hm
        have hj101 := inR_lt e101
        refine aaldD (g := fun j => q (36 + j)) C hS cw_r35 e101 dX6_digest_101 ?_
        refine g_6_137_f36 hj101 C hS dX6_digest_102 ?_
        refine lv_i2l (v := (σ.1 (40 + j101)).toInt64) hx hb dX6_digest_105 rfl ?_
        refine lv_ladd hx hb dX6_digest_106 ?_
        refine lv_lstore_n (lv' := [(1, .long ((31 * x1) + ((σ.1 (40 + j101)).toInt64))), (0, .ref (q 0)), (3, .int x3)]) hx hb dX6_digest_107 rfl hl (by decide) rfl (fun ls hl => ?_)
        refine lv_iinc (v := x3 + 1) (lv' := [(3, .int (x3 + 1)), (1, .long ((31 * x1) + ((σ.1 (40 + j101)).toInt64))), (0, .ref (q 0))]) hx hb dX6_digest_108 hl (k := 2) rfl rfl (by decide) rfl (fun ls hl => ?_)
        refine lv_goto (tgt := 86) hx hb dX6_digest_111 (by decide) ?_
        exact ih ((31 * x1) + ((σ.1 (40 + j101)).toInt64)) (x3 + 1) _ _ _ hS (lv_sub hl [2, 1, 0] rfl) hm
  have L47 : ∀ (k33 : Int64 → Int32 → Option Int64) (hk33 : ∀ (x1 : Int64) (x3 : Int32) (H : Heap) (locs : List Loc) (ls : Array Slot), HS d A s.heap H locs (cw q d σ) → lv_has ls 5 [(0, .ref (q 0)), (1, .long x1), (3, .int x3)] → k33 x1 x3 = some out → WL p l e rm_X6_digest s m [.ref (q 0)].toArray below meth c A d H locs out (cw q d σ) (F0 m 33 ls [])) (n : Nat) (x1 : Int64) (x3 : Int32) (x4 : Int32) (H : Heap) (locs : List Loc) (ls : Array Slot), HS d A s.heap H locs (cw q d σ) → lv_has ls 5 [(0, .ref (q 0)), (1, .long x1), (3, .int x3), (4, .int x4)] → M_X6_digest_47 σ k33 n x1 x3 x4 = some out → WL p l e rm_X6_digest s m [.ref (q 0)].toArray below meth c A d H locs out (cw q d σ) (F0 m 47 ls []) := by
    intro k33 hk33 n
    induction n with
    | zero =>
      intro x1 x3 x4 H locs ls hS hl hm
      exact absurd hm (by rw [M_X6_digest_47]; exact fun h => nomatch h)
    | succ n ih =>
      intro x1 x3 x4 H locs ls hS hl hm
      rw [M_X6_digest_47] at hm
      refine lv_iload hx hb dX6_digest_47 (lv_at hl 3 rfl) ?_
      refine lv_bipush (v := 7) hx hb dX6_digest_49 (by decide) ?_
      refine lv_icmp_ge (tgt := 78) hx hb dX6_digest_51 (by decide) (fun c51 => ?_) (fun c51 => ?_)
      · replace hm := it c51 hm
        refine lv_iinc (v := x3 + 1) (lv' := [(3, .int (x3 + 1)), (0, .ref (q 0)), (1, .long x1), (4, .int x4)]) hx hb dX6_digest_78 hl (k := 2) rfl rfl (by decide) rfl (fun ls hl => ?_)
        refine lv_goto (tgt := 33) hx hb dX6_digest_81 (by decide) ?_
        exact hk33 x1 (x3 + 1) _ _ _ hS (lv_sub hl [1, 2, 0] rfl) hm
      · replace hm := ie c51 hm
        refine lv_ldc2 (v := 31) hx hb hown (hts _ lc_X6_303) dX6_digest_54 ?_
        refine lv_lload_n hx hb dX6_digest_57 rfl (lv_at hl 1 rfl) ?_
        refine lv_lmul hx hb dX6_digest_58 ?_
        refine lv_aload_n hx hb dX6_digest_59 rfl (lv_at hl 0 rfl) ?_
        refine g_6_33_0 C hS dX6_digest_60 ?_
        refine lv_iload_n hx hb dX6_digest_63 rfl (lv_at hl 2 rfl) ?_
        refine lv_iload hx hb dX6_digest_64 (lv_at hl 3 rfl) ?_
        obtain ⟨o66, e66, hm⟩ := ob hm
        refine after_i C hS (call_V (As := [.int x3, .int x4]) C hS (c_X5_factOf l d q σ x3 x4 o66 e66 _) iv_6_147 ⟨rfl, rfl, Nat.le_of_ble_eq_true rfl, Nat.le_of_ble_eq_true rfl⟩ cw_o22 rfl rfl rfl hl.1 (Nat.le_of_ble_eq_true rfl) dX6_digest_66) (fun H locs hS => ?_)
        refine lv_i2l (v := o66.toInt64) hx hb dX6_digest_69 rfl ?_
        refine lv_ladd hx hb dX6_digest_70 ?_
        refine lv_lstore_n (lv' := [(1, .long ((31 * x1) + o66.toInt64)), (0, .ref (q 0)), (3, .int x3), (4, .int x4)]) hx hb dX6_digest_71 rfl hl (by decide) rfl (fun ls hl => ?_)
        refine lv_iinc (v := x4 + 1) (lv' := [(4, .int (x4 + 1)), (1, .long ((31 * x1) + o66.toInt64)), (0, .ref (q 0)), (3, .int x3)]) hx hb dX6_digest_72 hl (k := 3) rfl rfl (by decide) rfl (fun ls hl => ?_)
        refine lv_goto (tgt := 47) hx hb dX6_digest_75 (by decide) ?_
        exact ih ((31 * x1) + o66.toInt64) x3 (x4 + 1) _ _ _ hS (lv_sub hl [2, 1, 3, 0] rfl) hm
  have L33 : ∀ (n : Nat) (x1 : Int64) (x3 : Int32) (H : Heap) (locs : List Loc) (ls : Array Slot), HS d A s.heap H locs (cw q d σ) → lv_has ls 5 [(0, .ref (q 0)), (1, .long x1), (3, .int x3)] → M_X6_digest_33 σ n x1 x3 = some out → WL p l e rm_X6_digest s m [.ref (q 0)].toArray below meth c A d H locs out (cw q d σ) (F0 m 33 ls []) := by
    intro n
    induction n with
    | zero =>
      intro x1 x3 H locs ls hS hl hm
      exact absurd hm (by rw [M_X6_digest_33]; exact fun h => nomatch h)
    | succ n ih =>
      intro x1 x3 H locs ls hS hl hm
      rw [M_X6_digest_33] at hm
      refine lv_iload_n hx hb dX6_digest_33 rfl (lv_at hl 2 rfl) ?_
      refine lv_aload_n hx hb dX6_digest_34 rfl (lv_at hl 0 rfl) ?_
      refine g_6_33_0 C hS dX6_digest_35 ?_
      obtain ⟨o38, e38, hm⟩ := ob hm
      refine after_i C hS (call_V (As := []) C hS (c_X5_houses l d q σ o38 e38 _) iv_6_140 ⟨rfl, rfl, Nat.le_of_ble_eq_true rfl, Nat.le_of_ble_eq_true rfl⟩ cw_o22 rfl rfl rfl hl.1 (Nat.le_of_ble_eq_true rfl) dX6_digest_38) (fun H locs hS => ?_)
      refine lv_icmp_ge (tgt := 84) hx hb dX6_digest_41 (by decide) (fun c41 => ?_) (fun c41 => ?_)
      · replace hm := it c41 hm
        refine lv_iconst (v := 0) hx hb dX6_digest_84 (by decide) ?_
        refine lv_istore_n (lv' := [(3, .int 0), (0, .ref (q 0)), (1, .long x1)]) hx hb dX6_digest_85 rfl hl (by decide) rfl (fun ls hl => ?_)
        exact L86 10000 x1 0 _ _ _ hS (lv_sub hl [1, 2, 0] rfl) hm
      · replace hm := ie c41 hm
        refine lv_iconst (v := 0) hx hb dX6_digest_44 (by decide) ?_
        refine lv_istore (lv' := [(4, .int 0), (0, .ref (q 0)), (1, .long x1), (3, .int x3)]) hx hb dX6_digest_45 hl (by decide) rfl (fun ls hl => ?_)
        exact L47 (M_X6_digest_33 σ n) ih 10000 x1 x3 0 _ _ _ hS (lv_sub hl [1, 2, 3, 0] rfl) hm
  have L6 : ∀ (n : Nat) (x1 : Int64) (x3 : Int32) (H : Heap) (locs : List Loc) (ls : Array Slot), HS d A s.heap H locs (cw q d σ) → lv_has ls 5 [(0, .ref (q 0)), (1, .long x1), (3, .int x3)] → M_X6_digest_6 σ n x1 x3 = some out → WL p l e rm_X6_digest s m [.ref (q 0)].toArray below meth c A d H locs out (cw q d σ) (F0 m 6 ls []) := by
    intro n
    induction n with
    | zero =>
      intro x1 x3 H locs ls hS hl hm
      exact absurd hm (by rw [M_X6_digest_6]; exact fun h => nomatch h)
    | succ n ih =>
      intro x1 x3 H locs ls hS hl hm
      rw [M_X6_digest_6] at hm
      refine lv_iload_n hx hb dX6_digest_6 rfl (lv_at hl 2 rfl) ?_
      refine lv_bipush (v := 11) hx hb dX6_digest_7 (by decide) ?_
      refine lv_icmp_ge (tgt := 31) hx hb dX6_digest_9 (by decide) (fun c9 => ?_) (fun c9 => ?_)
      · replace hm := it c9 hm
        refine lv_iconst (v := 0) hx hb dX6_digest_31 (by decide) ?_
        refine lv_istore_n (lv' := [(3, .int 0), (0, .ref (q 0)), (1, .long x1)]) hx hb dX6_digest_32 rfl hl (by decide) rfl (fun ls hl => ?_)
        exact L33 10000 x1 0 _ _ _ hS (lv_sub hl [1, 2, 0] rfl) hm
      · replace hm := ie c9 hm
        refine lv_ldc2 (v := 31) hx hb hown (hts _ lc_X6_303) dX6_digest_12 ?_
        refine lv_lload_n hx hb dX6_digest_15 rfl (lv_at hl 1 rfl) ?_
        refine lv_lmul hx hb dX6_digest_16 ?_
        refine lv_aload_n hx hb dX6_digest_17 rfl (lv_at hl 0 rfl) ?_
        refine lv_iload_n hx hb dX6_digest_18 rfl (lv_at hl 2 rfl) ?_
        obtain ⟨o19, e19, hm⟩ := ob hm
        refine after_i C hS (call_V (As := [.int x3]) C hS (c_X6_countOf l d q σ x3 o19 e19 _) iv_6_298 ⟨rfl, rfl, Nat.le_of_ble_eq_true rfl, Nat.le_of_ble_eq_true rfl⟩ cw_o0 rfl rfl rfl hl.1 (Nat.le_of_ble_eq_true rfl) dX6_digest_19) (fun H locs hS => ?_)
        refine lv_i2l (v := o19.toInt64) hx hb dX6_digest_22 rfl ?_
        refine lv_ladd hx hb dX6_digest_23 ?_
        refine lv_lstore_n (lv' := [(1, .long ((31 * x1) + o19.toInt64)), (0, .ref (q 0)), (3, .int x3)]) hx hb dX6_digest_24 rfl hl (by decide) rfl (fun ls hl => ?_)
        refine lv_iinc (v := x3 + 1) (lv' := [(3, .int (x3 + 1)), (1, .long ((31 * x1) + o19.toInt64)), (0, .ref (q 0))]) hx hb dX6_digest_25 hl (k := 2) rfl rfl (by decide) rfl (fun ls hl => ?_)
        refine lv_goto (tgt := 6) hx hb dX6_digest_28 (by decide) ?_
        exact ih ((31 * x1) + o19.toInt64) (x3 + 1) _ _ _ hS (lv_sub hl [2, 1, 0] rfl) hm
  unfold M_X6_digest at hm
  refine lv_ldc2 (v := 17) hx hb hown (hts _ lc_X6_301) dX6_digest_0 ?_
  refine lv_lstore_n (lv' := [(1, .long 17), (0, .ref (q 0))]) hx hb dX6_digest_3 rfl hl (by decide) rfl (fun ls hl => ?_)
  refine lv_iconst (v := 0) hx hb dX6_digest_4 (by decide) ?_
  refine lv_istore_n (lv' := [(3, .int 0), (1, .long 17), (0, .ref (q 0))]) hx hb dX6_digest_5 rfl hl (by decide) rfl (fun ls hl => ?_)
  exact L6 10000 17 0 _ _ _ hS (lv_sub hl [2, 1, 0] rfl) hm
