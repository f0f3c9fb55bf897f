def M_X4_callerWins_71 (kr : Int32 → Int32 → Int32 → Option Int32) (σ : ST) (k14 : Int32 → Int32 → Int32 → Int32 → Option Int32) (x1 : Int32) (x2 : Int32) (x3 : Int32) (x4 : Int32) (y1 : Int32) (y2 : Int32) (y3 : Int32) : Option Int32 := (kr y1 y2 y3).bind fun o71 => if o71 = x3 then okZ x3 else k14 x1 x2 x3 (x4 + 1)
def M_X4_callerWins_49 (kr : Int32 → Int32 → Int32 → Option Int32) (σ : ST) (k14 : Int32 → Int32 → Int32 → Int32 → Option Int32) (x1 : Int32) (x2 : Int32) (x3 : Int32) (x4 : Int32) (y0 : Int32) : Option Int32 := if x3 = 0 then M_X4_callerWins_71 kr σ k14 x1 x2 x3 x4 y0 (x2 &&& (((1 : Int32) <<< (x4 &&& 31)) ^^^ (-1))) 1 else M_X4_callerWins_71 kr σ k14 x1 x2 x3 x4 y0 (x2 &&& (((1 : Int32) <<< (x4 &&& 31)) ^^^ (-1))) 0
def M_X4_callerWins_14 (kr : Int32 → Int32 → Int32 → Option Int32) (σ : ST) : Nat → Int32 → Int32 → Int32 → Int32 → Option Int32
  | 0, _, _, _, _ => none
  | n + 1, x1, x2, x3, x4 => (M_X5_houses σ).bind fun o20 => if o20 ≤ x4 then if x3 = 0 then okZ 1 else okZ 0 else (M_X6_isIn x4 x2).bind fun o29 => if o29 = 0 then M_X4_callerWins_14 kr σ n x1 x2 x3 (x4 + 1) else if x3 = 0 then M_X4_callerWins_49 kr σ (M_X4_callerWins_14 kr σ n) x1 x2 x3 x4 x1 else M_X4_callerWins_49 kr σ (M_X4_callerWins_14 kr σ n) x1 x2 x3 x4 (x1 ||| ((1 : Int32) <<< (x4 &&& 31)))
def M_X4_callerWins_m (kr : Int32 → Int32 → Int32 → Option Int32) (σ : ST) (a1 : Int32) (a2 : Int32) (a3 : Int32) : Option Int32 := if a2 = 0 then (rd 128 (σ.2.2 33) a1).bind fun v9 => okZ v9 else M_X4_callerWins_14 kr σ 10000 a1 a2 a3 0
def M_X4_callerWins (σ : ST) : Nat → Int32 → Int32 → Int32 → Option Int32
  | 0, _, _, _ => none
  | n + 1, a1, a2, a3 => M_X4_callerWins_m (M_X4_callerWins σ n) σ a1 a2 a3
abbrev rmw_X4_callerWins (k : Nat) : Room := { frames := k + 2, cells := 0, slots := 0, locals := 40 + 40 * k }
set_option maxRecDepth 100000 in
set_option maxHeartbeats 4000000 in
theorem c_X4_callerWins_m (l : Launch) (d : CD) (q : Nat → Nat) (σ : ST) (kr : Int32 → Int32 → Int32 → Option Int32) (k : Nat) (hk : ∀ (a1 : Int32) (a2 : Int32) (a3 : Int32) (out : Int32), kr a1 a2 a3 = some out → MetI l yX4_callerWins cX4_callerWins 6 (some .boolean) (rmw_X4_callerWins k) d (cw q d σ) [.ref (q 32), .int a1, .int a2, .int a3] out (cw q d σ)) (a1 : Int32) (a2 : Int32) (a3 : Int32) (out : Int32) (hm : M_X4_callerWins_m kr σ a1 a2 a3 = some out) : MetI l yX4_callerWins cX4_callerWins 6 (some .boolean) (rmw_X4_callerWins (k + 1)) d (cw q d σ) [.ref (q 32), .int a1, .int a2, .int a3] out (cw q d σ) := by
  refine mkI (own := RX4) (by decide +kernel) rfl (Nat.le_of_ble_eq_true rfl) ?_
  intro p e s m below meth c A ls C hS hl
  obtain ⟨hx, hb, hml, hown, hts, -⟩ := id C
  have hl : lv_has ls 6 [(0, .ref (q 32)), (1, .int a1), (2, .int a2), (3, .int a3)] := hl
  have J71 : ∀ (k14 : Int32 → Int32 → Int32 → Int32 → Option Int32) (hk14 : ∀ (x1 : Int32) (x2 : Int32) (x3 : Int32) (x4 : Int32) (H : Heap) (locs : List Loc) (ls : Array Slot), HS d A s.heap H locs (cw q d σ) → lv_has ls 6 [(0, .ref (q 32)), (1, .int x1), (2, .int x2), (3, .int x3), (4, .int x4)] → k14 x1 x2 x3 x4 = some out → WI p l e (rmw_X4_callerWins (k + 1)) s m [.ref (q 32), .int a1, .int a2, .int a3].toArray below meth c A d H locs out (cw q d σ) (F0 m 14 ls [])) (x1 : Int32) (x2 : Int32) (x3 : Int32) (x4 : Int32) (y1 : Int32) (y2 : Int32) (y3 : Int32) (H : Heap) (locs : List Loc) (ls : Array Slot), HS d A s.heap H locs (cw q d σ) → lv_has ls 6 [(0, .ref (q 32)), (1, .int x1), (2, .int x2), (3, .int x3), (4, .int x4)] → M_X4_callerWins_71 kr σ k14 x1 x2 x3 x4 y1 y2 y3 = some out → WI p l e (rmw_X4_callerWins (k + 1)) s m [.ref (q 32), .int a1, .int a2, .int a3].toArray below meth c A d H locs out (cw q d σ) (F0 m 71 ls [.int y3, .int y2, .int y1, .ref (q 32)]) := by
    intro k14 hk14 x1 x2 x3 x4 y1 y2 y3 H locs ls hS hl hm
    unfold M_X4_callerWins_71 at hm
    obtain ⟨o71, e71, hm⟩ := ob hm
    refine after_i C hS (call_V (As := [.int y1, .int y2, .int y3]) C hS (hk y1 y2 y3 o71 e71 _) iv_4_73 ⟨rfl, rfl, (by show (k + 2) + 1 ≤ (k + 1) + 2; omega), (by show 8 + (6 + 11) + (40 + 40 * k) ≤ 40 + 40 * (k + 1); omega)⟩ cw_o32 rfl rfl rfl hl.1 (Nat.le_of_ble_eq_true rfl) dX4_callerWins_71) (fun H locs hS => ?_)
    refine lv_iload_n hx hb dX4_callerWins_74 rfl (lv_at hl 3 rfl) ?_
    refine lv_icmp_ne (tgt := 80) hx hb dX4_callerWins_75 (by decide) (fun c75 => ?_) (fun c75 => ?_)
    · replace hm := ie c75 hm
      refine lv_iinc (v := x4 + 1) (lv' := [(4, .int (x4 + 1)), (0, .ref (q 32)), (1, .int x1), (2, .int x2), (3, .int x3)]) hx hb dX4_callerWins_80 hl (k := 4) rfl rfl (by decide) rfl (fun ls hl => ?_)
      refine lv_goto (tgt := 14) hx hb dX4_callerWins_83 (by decide) ?_
      exact hk14 x1 x2 x3 (x4 + 1) _ _ _ hS (lv_sub hl [1, 2, 3, 4, 0] rfl) hm
    · replace hm := it c75 hm
      refine lv_iload_n hx hb dX4_callerWins_78 rfl (lv_at hl 3 rfl) ?_
      exact retZr C hS hm dX4_callerWins_79
  have J49 : ∀ (k14 : Int32 → Int32 → Int32 → Int32 → Option Int32) (hk14 : ∀ (x1 : Int32) (x2 : Int32) (x3 : Int32) (x4 : Int32) (H : Heap) (locs : List Loc) (ls : Array Slot), HS d A s.heap H locs (cw q d σ) → lv_has ls 6 [(0, .ref (q 32)), (1, .int x1), (2, .int x2), (3, .int x3), (4, .int x4)] → k14 x1 x2 x3 x4 = some out → WI p l e (rmw_X4_callerWins (k + 1)) s m [.ref (q 32), .int a1, .int a2, .int a3].toArray below meth c A d H locs out (cw q d σ) (F0 m 14 ls [])) (x1 : Int32) (x2 : Int32) (x3 : Int32) (x4 : Int32) (y0 : Int32) (H : Heap) (locs : List Loc) (ls : Array Slot), HS d A s.heap H locs (cw q d σ) → lv_has ls 6 [(0, .ref (q 32)), (1, .int x1), (2, .int x2), (3, .int x3), (4, .int x4)] → M_X4_callerWins_49 kr σ k14 x1 x2 x3 x4 y0 = some out → WI p l e (rmw_X4_callerWins (k + 1)) s m [.ref (q 32), .int a1, .int a2, .int a3].toArray below meth c A d H locs out (cw q d σ) (F0 m 49 ls [.int y0]) := by
    intro k14 hk14 x1 x2 x3 x4 y0 H locs ls hS hl hm
    unfold M_X4_callerWins_49 at hm
    refine lv_istore (lv' := [(5, .int y0), (0, .ref (q 32)), (1, .int x1), (2, .int x2), (3, .int x3), (4, .int x4)]) hx hb dX4_callerWins_49 hl (by decide) rfl (fun ls hl => ?_)
    refine lv_aload_n hx hb dX4_callerWins_51 rfl (lv_at hl 1 rfl) ?_
    refine lv_iload hx hb dX4_callerWins_52 (lv_at hl 0 rfl) ?_
    refine lv_iload_n hx hb dX4_callerWins_54 rfl (lv_at hl 3 rfl) ?_
    refine lv_iconst (v := 1) hx hb dX4_callerWins_55 (by decide) ?_
    refine lv_iload hx hb dX4_callerWins_56 (lv_at hl 5 rfl) ?_
    refine lv_ishl hx hb dX4_callerWins_58 ?_
    refine lv_iconst (v := (-1)) hx hb dX4_callerWins_59 (by decide) ?_
    refine lv_ixor hx hb dX4_callerWins_60 ?_
    refine lv_iand hx hb dX4_callerWins_61 ?_
    refine lv_iload_n hx hb dX4_callerWins_62 rfl (lv_at hl 4 rfl) ?_
    refine lv_if_ne (tgt := 70) hx hb dX4_callerWins_63 (by decide) (fun c63 => ?_) (fun c63 => ?_)
    · replace hm := ie c63 hm
      refine lv_iconst (v := 0) hx hb dX4_callerWins_70 (by decide) ?_
      exact J71 k14 hk14 x1 x2 x3 x4 y0 (x2 &&& (((1 : Int32) <<< (x4 &&& 31)) ^^^ (-1))) 0 _ _ _ hS (lv_sub hl [1, 2, 3, 4, 5] rfl) hm
    · replace hm := it c63 hm
      refine lv_iconst (v := 1) hx hb dX4_callerWins_66 (by decide) ?_
      refine lv_goto (tgt := 71) hx hb dX4_callerWins_67 (by decide) ?_
      exact J71 k14 hk14 x1 x2 x3 x4 y0 (x2 &&& (((1 : Int32) <<< (x4 &&& 31)) ^^^ (-1))) 1 _ _ _ hS (lv_sub hl [1, 2, 3, 4, 5] rfl) hm
  have L14 : ∀ (n : Nat) (x1 : Int32) (x2 : Int32) (x3 : Int32) (x4 : Int32) (H : Heap) (locs : List Loc) (ls : Array Slot), HS d A s.heap H locs (cw q d σ) → lv_has ls 6 [(0, .ref (q 32)), (1, .int x1), (2, .int x2), (3, .int x3), (4, .int x4)] → M_X4_callerWins_14 kr σ n x1 x2 x3 x4 = some out → WI p l e (rmw_X4_callerWins (k + 1)) s m [.ref (q 32), .int a1, .int a2, .int a3].toArray below meth c A d H locs out (cw q d σ) (F0 m 14 ls []) := by
    intro n
    induction n with
    | zero =>
      intro x1 x2 x3 x4 H locs ls hS hl hm
      exact absurd hm (by rw [M_X4_callerWins_14]; exact fun h => nomatch h)
    | succ n ih =>
      intro x1 x2 x3 x4 H locs ls hS hl hm
      rw [M_X4_callerWins_14] at hm
      refine lv_iload hx hb dX4_callerWins_14 (lv_at hl 4 rfl) ?_
      refine lv_aload_n hx hb dX4_callerWins_16 rfl (lv_at hl 0 rfl) ?_
      refine g_4_19_32 C hS dX4_callerWins_17 ?_
      obtain ⟨o20, e20, hm⟩ := ob hm
      refine after_i C hS (call_V (As := []) C hS (c_X5_houses l d q σ o20 e20 _) iv_4_70 ⟨rfl, rfl, (by show 0 + 1 ≤ (k + 1) + 2; omega), (by show 8 + (1 + 11) + 0 ≤ 40 + 40 * (k + 1); omega)⟩ cw_o22 rfl rfl rfl hl.1 (Nat.le_of_ble_eq_true rfl) dX4_callerWins_20) (fun H locs hS => ?_)
      refine lv_icmp_ge (tgt := 86) hx hb dX4_callerWins_23 (by decide) (fun c23 => ?_) (fun c23 => ?_)
      · replace hm := it c23 hm
        refine lv_iload_n hx hb dX4_callerWins_86 rfl (lv_at hl 3 rfl) ?_
        refine lv_if_ne (tgt := 94) hx hb dX4_callerWins_87 (by decide) (fun c87 => ?_) (fun c87 => ?_)
        · replace hm := ie c87 hm
          refine lv_iconst (v := 0) hx hb dX4_callerWins_94 (by decide) ?_
          exact retZr C hS hm dX4_callerWins_95
        · replace hm := it c87 hm
          refine lv_iconst (v := 1) hx hb dX4_callerWins_90 (by decide) ?_
          refine lv_goto (tgt := 95) hx hb dX4_callerWins_91 (by decide) ?_
          exact retZr C hS hm dX4_callerWins_95
      · replace hm := ie c23 hm
        refine lv_iload hx hb dX4_callerWins_26 (lv_at hl 4 rfl) ?_
        refine lv_iload_n hx hb dX4_callerWins_28 rfl (lv_at hl 2 rfl) ?_
        obtain ⟨o29, e29, hm⟩ := ob hm
        refine after_i C hS (call_N (As := [.int x4, .int x2]) C hS (c_X6_isIn l d (cw q d σ) x4 x2 o29 e29 _) is_4_51 ⟨rfl, rfl, (by show 0 + 1 ≤ (k + 1) + 2; omega), (by show 8 + (2 + 11) + 0 ≤ 40 + 40 * (k + 1); omega)⟩ rfl hl.1 (Nat.le_of_ble_eq_true rfl) dX4_callerWins_29) (fun H locs hS => ?_)
        refine lv_if_eq (tgt := 80) hx hb dX4_callerWins_32 (by decide) (fun c32 => ?_) (fun c32 => ?_)
        · replace hm := it c32 hm
          refine lv_iinc (v := x4 + 1) (lv' := [(4, .int (x4 + 1)), (0, .ref (q 32)), (1, .int x1), (2, .int x2), (3, .int x3)]) hx hb dX4_callerWins_80 hl (k := 4) rfl rfl (by decide) rfl (fun ls hl => ?_)
          refine lv_goto (tgt := 14) hx hb dX4_callerWins_83 (by decide) ?_
          exact ih x1 x2 x3 (x4 + 1) _ _ _ hS (lv_sub hl [1, 2, 3, 4, 0] rfl) hm
        · replace hm := ie c32 hm
          refine lv_iload_n hx hb dX4_callerWins_35 rfl (lv_at hl 3 rfl) ?_
          refine lv_if_eq (tgt := 48) hx hb dX4_callerWins_36 (by decide) (fun c36 => ?_) (fun c36 => ?_)
          · replace hm := it c36 hm
            refine lv_iload_n hx hb dX4_callerWins_48 rfl (lv_at hl 1 rfl) ?_
            exact J49 (M_X4_callerWins_14 kr σ n) ih x1 x2 x3 x4 x1 _ _ _ hS (lv_sub hl [0, 1, 2, 3, 4] rfl) hm
          · replace hm := ie c36 hm
            refine lv_iload_n hx hb dX4_callerWins_39 rfl (lv_at hl 1 rfl) ?_
            refine lv_iconst (v := 1) hx hb dX4_callerWins_40 (by decide) ?_
            refine lv_iload hx hb dX4_callerWins_41 (lv_at hl 4 rfl) ?_
            refine lv_ishl hx hb dX4_callerWins_43 ?_
            refine lv_ior hx hb dX4_callerWins_44 ?_
            refine lv_goto (tgt := 49) hx hb dX4_callerWins_45 (by decide) ?_
            exact J49 (M_X4_callerWins_14 kr σ n) ih x1 x2 x3 x4 (x1 ||| ((1 : Int32) <<< (x4 &&& 31))) _ _ _ hS (lv_sub hl [0, 1, 2, 3, 4] rfl) hm
  unfold M_X4_callerWins_m at hm
  refine lv_iload_n hx hb dX4_callerWins_0 rfl (lv_at hl 2 rfl) ?_
  refine lv_if_ne (tgt := 11) hx hb dX4_callerWins_1 (by decide) (fun c1 => ?_) (fun c1 => ?_)
  · replace hm := ie c1 hm
    refine lv_iconst (v := 0) hx hb dX4_callerWins_11 (by decide) ?_
    refine lv_istore (lv' := [(4, .int 0), (0, .ref (q 32)), (1, .int a1), (2, .int a2), (3, .int a3)]) hx hb dX4_callerWins_12 hl (by decide) rfl (fun ls hl => ?_)
    exact L14 10000 a1 a2 a3 0 _ _ _ hS (lv_sub hl [1, 2, 3, 4, 0] rfl) hm
  · replace hm := it c1 hm
    refine lv_aload_n hx hb dX4_callerWins_4 rfl (lv_at hl 0 rfl) ?_
    refine g_4_9_32 C hS dX4_callerWins_5 ?_
    refine lv_iload_n hx hb dX4_callerWins_8 rfl (lv_at hl 1 rfl) ?_
    obtain ⟨v9, e9, hm⟩ := ob hm
    refine zald' C hS cw_a33 e9 dX4_callerWins_9 ?_
    exact retZr C hS hm dX4_callerWins_10
theorem c_X4_callerWins (l : Launch) (d : CD) (q : Nat → Nat) (σ : ST) : ∀ (n : Nat) (a1 : Int32) (a2 : Int32) (a3 : Int32) (out : Int32), M_X4_callerWins σ n a1 a2 a3 = some out → MetI l yX4_callerWins cX4_callerWins 6 (some .boolean) (rmw_X4_callerWins n) d (cw q d σ) [.ref (q 32), .int a1, .int a2, .int a3] out (cw q d σ)
  | 0, _, _, _, _, h => absurd h (by rw [M_X4_callerWins]; exact fun h => nomatch h)
  | n + 1, a1, a2, a3, out, h => c_X4_callerWins_m l d q σ (M_X4_callerWins σ n) n (c_X4_callerWins l d q σ n) a1 a2 a3 out (by rw [M_X4_callerWins] at h; exact h)
def M_X4_winningCall_2 (σ : ST) : Nat → Int32 → Option Int32
  | 0, _ => none
  | n + 1, x1 => (M_X5_houses σ).bind fun o7 => if o7 ≤ x1 then some (-9) else (M_X4_callerWins σ 10 ((1 : Int32) <<< (x1 &&& 31)) (((σ.1 38) - 1) &&& (((1 : Int32) <<< (x1 &&& 31)) ^^^ (-1))) 0).bind fun o30 => if o30 = 0 then M_X4_winningCall_2 σ n (x1 + 1) else some x1
def M_X4_winningCall (σ : ST) : Option Int32 := M_X4_winningCall_2 σ 10000 0
abbrev rm_X4_winningCall : Room := { frames := 13, cells := 0, slots := 0, locals := 465 }
set_option maxRecDepth 100000 in
set_option maxHeartbeats 4000000 in
theorem c_X4_winningCall (l : Launch) (d : CD) (q : Nat → Nat) (σ : ST) (out : Int32) (hm : M_X4_winningCall σ = some out) : MetI l yX4_winningCall cX4_winningCall 2 (some .int) rm_X4_winningCall d (cw q d σ) [.ref (q 32)] out (cw q d σ) := by
  refine mkI (own := RX4) (by decide +kernel) rfl (Nat.le_of_ble_eq_true rfl) ?_
  intro p e s m below meth c A ls C hS hl
  obtain ⟨hx, hb, hml, hown, hts, -⟩ := id C
  have hl : lv_has ls 2 [(0, .ref (q 32))] := hl
  have L2 : ∀ (n : Nat) (x1 : Int32) (H : Heap) (locs : List Loc) (ls : Array Slot), HS d A s.heap H locs (cw q d σ) → lv_has ls 2 [(0, .ref (q 32)), (1, .int x1)] → M_X4_winningCall_2 σ n x1 = some out → WI p l e rm_X4_winningCall s m [.ref (q 32)].toArray below meth c A d H locs out (cw q d σ) (F0 m 2 ls []) := by
    intro n
    induction n with
    | zero =>
      intro x1 H locs ls hS hl hm
      exact absurd hm (by rw [M_X4_winningCall_2]; exact fun h => nomatch h)
    | succ n ih =>
      intro x1 H locs ls hS hl hm
      rw [M_X4_winningCall_2] at hm
      refine lv_iload_n hx hb dX4_winningCall_2 rfl (lv_at hl 1 rfl) ?_
      refine lv_aload_n hx hb dX4_winningCall_3 rfl (lv_at hl 0 rfl) ?_
      refine g_4_19_32 C hS dX4_winningCall_4 ?_
      obtain ⟨o7, e7, hm⟩ := ob hm
      refine after_i C hS (call_V (As := []) C hS (c_X5_houses l d q σ o7 e7 _) iv_4_70 ⟨rfl, rfl, Nat.le_of_ble_eq_true rfl, Nat.le_of_ble_eq_true rfl⟩ cw_o22 rfl rfl rfl hl.1 (Nat.le_of_ble_eq_true rfl) dX4_winningCall_7) (fun H locs hS => ?_)
      refine lv_icmp_ge (tgt := 44) hx hb dX4_winningCall_10 (by decide) (fun c10 => ?_) (fun c10 => ?_)
      · replace hm := it c10 hm
        refine lv_bipush (v := (-9)) hx hb dX4_winningCall_44 (by decide) ?_
        exact retIr C hS hm dX4_winningCall_46
      · replace hm := ie c10 hm
        refine lv_aload_n hx hb dX4_winningCall_13 rfl (lv_at hl 0 rfl) ?_
        refine lv_iconst (v := 1) hx hb dX4_winningCall_14 (by decide) ?_
        refine lv_iload_n hx hb dX4_winningCall_15 rfl (lv_at hl 1 rfl) ?_
        refine lv_ishl hx hb dX4_winningCall_16 ?_
        refine lv_aload_n hx hb dX4_winningCall_17 rfl (lv_at hl 0 rfl) ?_
        refine g_4_35_32 C hS dX4_winningCall_18 ?_
        refine lv_iconst (v := 1) hx hb dX4_winningCall_21 (by decide) ?_
        refine lv_isub hx hb dX4_winningCall_22 ?_
        refine lv_iconst (v := 1) hx hb dX4_winningCall_23 (by decide) ?_
        refine lv_iload_n hx hb dX4_winningCall_24 rfl (lv_at hl 1 rfl) ?_
        refine lv_ishl hx hb dX4_winningCall_25 ?_
        refine lv_iconst (v := (-1)) hx hb dX4_winningCall_26 (by decide) ?_
        refine lv_ixor hx hb dX4_winningCall_27 ?_
        refine lv_iand hx hb dX4_winningCall_28 ?_
        refine lv_iconst (v := 0) hx hb dX4_winningCall_29 (by decide) ?_
        obtain ⟨o30, e30, hm⟩ := ob hm
        refine after_i C hS (call_V (As := [.int ((1 : Int32) <<< (x1 &&& 31)), .int (((σ.1 38) - 1) &&& (((1 : Int32) <<< (x1 &&& 31)) ^^^ (-1))), .int 0]) C hS (c_X4_callerWins l d q σ 10 ((1 : Int32) <<< (x1 &&& 31)) (((σ.1 38) - 1) &&& (((1 : Int32) <<< (x1 &&& 31)) ^^^ (-1))) 0 o30 e30 _) iv_4_73 ⟨rfl, rfl, Nat.le_of_ble_eq_true rfl, Nat.le_of_ble_eq_true rfl⟩ cw_o32 rfl rfl rfl hl.1 (Nat.le_of_ble_eq_true rfl) dX4_winningCall_30) (fun H locs hS => ?_)
        refine lv_if_eq (tgt := 38) hx hb dX4_winningCall_33 (by decide) (fun c33 => ?_) (fun c33 => ?_)
        · replace hm := it c33 hm
          refine lv_iinc (v := x1 + 1) (lv' := [(1, .int (x1 + 1)), (0, .ref (q 32))]) hx hb dX4_winningCall_38 hl (k := 1) rfl rfl (by decide) rfl (fun ls hl => ?_)
          refine lv_goto (tgt := 2) hx hb dX4_winningCall_41 (by decide) ?_
          exact ih (x1 + 1) _ _ _ hS (lv_sub hl [1, 0] rfl) hm
        · replace hm := ie c33 hm
          refine lv_iload_n hx hb dX4_winningCall_36 rfl (lv_at hl 1 rfl) ?_
          exact retIr C hS hm dX4_winningCall_37
  unfold M_X4_winningCall at hm
  refine lv_iconst (v := 0) hx hb dX4_winningCall_0 (by decide) ?_
  refine lv_istore_n (lv' := [(1, .int 0), (0, .ref (q 32))]) hx hb dX4_winningCall_1 rfl hl (by decide) rfl (fun ls hl => ?_)
  exact L2 10000 0 _ _ _ hS (lv_sub hl [1, 0] rfl) hm
def M_X6_call (σ : ST) : Option (Int32 × ST) := (M_X5_houses σ).bind fun o4 => if o4 = 0 then some ((-4), σ) else (M_X4_look σ).bind fun o17 => (M_X4_winningCall o17).bind fun o24 => if o24 = (-9) then some (0, o17) else some (1, o17)
abbrev rm_X6_call : Room := { frames := 14, cells := 0, slots := 0, locals := 486 }
set_option maxRecDepth 100000 in
set_option maxHeartbeats 4000000 in
theorem c_X6_call (l : Launch) (d : CD) (q : Nat → Nat) (σ : ST) (out : Int32 × ST) (hm : M_X6_call σ = some out) : MetI l yX6_call cX6_call 1 (some .int) rm_X6_call d (cw q d σ) [.ref (q 0)] out.1 (cw q d out.2) := by
  refine mkI (own := RX6) (by decide +kernel) rfl (Nat.le_of_ble_eq_true rfl) ?_
  intro p e s m below meth c A ls C hS hl
  obtain ⟨hx, hb, hml, hown, hts, -⟩ := id C
  have hl : lv_has ls 1 [(0, .ref (q 0))] := hl
  unfold M_X6_call at hm
  refine lv_aload_n hx hb dX6_call_0 rfl (lv_at hl 0 rfl) ?_
  refine g_6_33_0 C hS dX6_call_1 ?_
  obtain ⟨o4, e4, hm⟩ := ob hm
  refine after_i C hS (call_V (As := []) C hS (c_X5_houses l d q σ o4 e4 _) iv_6_140 ⟨rfl, rfl, Nat.le_of_ble_eq_true rfl, Nat.le_of_ble_eq_true rfl⟩ cw_o22 rfl rfl rfl hl.1 (Nat.le_of_ble_eq_true rfl) dX6_call_4) (fun H locs hS => ?_)
  refine lv_if_ne (tgt := 13) hx hb dX6_call_7 (by decide) (fun c7 => ?_) (fun c7 => ?_)
  · replace hm := ie c7 hm
    refine lv_aload_n hx hb dX6_call_13 rfl (lv_at hl 0 rfl) ?_
    refine g_6_42_0 C hS dX6_call_14 ?_
    obtain ⟨o17, e17, hm⟩ := ob hm
    refine after_v C hS (call_V (As := []) C hS (c_X4_look l d q σ o17 e17 _) iv_6_203 ⟨rfl, rfl, Nat.le_of_ble_eq_true rfl, Nat.le_of_ble_eq_true rfl⟩ cw_o32 rfl rfl rfl hl.1 (Nat.le_of_ble_eq_true rfl) dX6_call_17) (fun H locs hS => ?_)
    refine lv_aload_n hx hb dX6_call_20 rfl (lv_at hl 0 rfl) ?_
    refine g_6_42_0 C hS dX6_call_21 ?_
    obtain ⟨o24, e24, hm⟩ := ob hm
    refine after_i C hS (call_V (As := []) C hS (c_X4_winningCall l d q o17 o24 e24 _) iv_6_270 ⟨rfl, rfl, Nat.le_of_ble_eq_true rfl, Nat.le_of_ble_eq_true rfl⟩ cw_o32 rfl rfl rfl hl.1 (Nat.le_of_ble_eq_true rfl) dX6_call_24) (fun H locs hS => ?_)
    refine lv_bipush (v := (-9)) hx hb dX6_call_27 (by decide) ?_
    refine lv_icmp_ne (tgt := 36) hx hb dX6_call_29 (by decide) (fun c29 => ?_) (fun c29 => ?_)
    · replace hm := ie c29 hm
      refine lv_iconst (v := 1) hx hb dX6_call_36 (by decide) ?_
      exact retIw (wf := cw q d) C hS hm dX6_call_37
    · replace hm := it c29 hm
      refine lv_iconst (v := 0) hx hb dX6_call_32 (by decide) ?_
      refine lv_goto (tgt := 37) hx hb dX6_call_33 (by decide) ?_
      exact retIw (wf := cw q d) C hS hm dX6_call_37
  · replace hm := it c7 hm
    refine lv_bipush (v := (-4)) hx hb dX6_call_10 (by decide) ?_
    exact retIw (wf := cw q d) C hS hm dX6_call_12
def M_X6_first (σ : ST) : Option (Int32 × ST) := (M_X5_houses σ).bind fun o4 => if o4 = 0 then some ((-4), σ) else (M_X4_look σ).bind fun o17 => (M_X4_winningCall o17).bind fun o24 => some (o24, o17)
abbrev rm_X6_first : Room := { frames := 14, cells := 0, slots := 0, locals := 486 }
set_option maxRecDepth 100000 in
set_option maxHeartbeats 4000000 in
theorem c_X6_first (l : Launch) (d : CD) (q : Nat → Nat) (σ : ST) (out : Int32 × ST) (hm : M_X6_first σ = some out) : MetI l yX6_first cX6_first 1 (some .int) rm_X6_first d (cw q d σ) [.ref (q 0)] out.1 (cw q d out.2) := by
  refine mkI (own := RX6) (by decide +kernel) rfl (Nat.le_of_ble_eq_true rfl) ?_
  intro p e s m below meth c A ls C hS hl
  obtain ⟨hx, hb, hml, hown, hts, -⟩ := id C
  have hl : lv_has ls 1 [(0, .ref (q 0))] := hl
  unfold M_X6_first at hm
  refine lv_aload_n hx hb dX6_first_0 rfl (lv_at hl 0 rfl) ?_
  refine g_6_33_0 C hS dX6_first_1 ?_
  obtain ⟨o4, e4, hm⟩ := ob hm
  refine after_i C hS (call_V (As := []) C hS (c_X5_houses l d q σ o4 e4 _) iv_6_140 ⟨rfl, rfl, Nat.le_of_ble_eq_true rfl, Nat.le_of_ble_eq_true rfl⟩ cw_o22 rfl rfl rfl hl.1 (Nat.le_of_ble_eq_true rfl) dX6_first_4) (fun H locs hS => ?_)
  refine lv_if_ne (tgt := 13) hx hb dX6_first_7 (by decide) (fun c7 => ?_) (fun c7 => ?_)
  · replace hm := ie c7 hm
    refine lv_aload_n hx hb dX6_first_13 rfl (lv_at hl 0 rfl) ?_
    refine g_6_42_0 C hS dX6_first_14 ?_
    obtain ⟨o17, e17, hm⟩ := ob hm
    refine after_v C hS (call_V (As := []) C hS (c_X4_look l d q σ o17 e17 _) iv_6_203 ⟨rfl, rfl, Nat.le_of_ble_eq_true rfl, Nat.le_of_ble_eq_true rfl⟩ cw_o32 rfl rfl rfl hl.1 (Nat.le_of_ble_eq_true rfl) dX6_first_17) (fun H locs hS => ?_)
    refine lv_aload_n hx hb dX6_first_20 rfl (lv_at hl 0 rfl) ?_
    refine g_6_42_0 C hS dX6_first_21 ?_
    obtain ⟨o24, e24, hm⟩ := ob hm
    refine after_i C hS (call_V (As := []) C hS (c_X4_winningCall l d q o17 o24 e24 _) iv_6_270 ⟨rfl, rfl, Nat.le_of_ble_eq_true rfl, Nat.le_of_ble_eq_true rfl⟩ cw_o32 rfl rfl rfl hl.1 (Nat.le_of_ble_eq_true rfl) dX6_first_24) (fun H locs hS => ?_)
    exact retIw (wf := cw q d) C hS hm dX6_first_27
  · replace hm := it c7 hm
    refine lv_bipush (v := (-4)) hx hb dX6_first_10 (by decide) ?_
    exact retIw (wf := cw q d) C hS hm dX6_first_12
