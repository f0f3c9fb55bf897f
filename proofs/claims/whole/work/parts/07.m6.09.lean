def M_X4_decidedBy_4 (σ : ST) : Nat → Int32 → Int32 → Int32 → Option Int32
  | 0, _, _, _ => none
  | n + 1, x1, x2, x3 => if (σ.1 38) ≤ x3 then some x2 else (M_X6_isIn x1 x3).bind fun o14 => if o14 = 0 then M_X4_decidedBy_4 σ n x1 x2 (x3 + 1) else (rd 128 (σ.2.2 33) x3).bind fun v25 => if v25 = 0 then M_X4_decidedBy_4 σ n x1 x2 (x3 + 1) else (rd 128 (σ.2.2 33) (x3 &&& (((1 : Int32) <<< (x1 &&& 31)) ^^^ (-1)))).bind fun v40 => if v40 = 0 then M_X4_decidedBy_4 σ n x1 (x2 + 1) (x3 + 1) else M_X4_decidedBy_4 σ n x1 x2 (x3 + 1)
def M_X4_decidedBy (σ : ST) (a1 : Int32) : Option Int32 := M_X4_decidedBy_4 σ 10000 a1 0 0
abbrev rm_X4_decidedBy : Room := { frames := 1, cells := 0, slots := 0, locals := 21 }
set_option maxRecDepth 100000 in
set_option maxHeartbeats 4000000 in
theorem c_X4_decidedBy (l : Launch) (d : CD) (q : Nat → Nat) (σ : ST) (a1 : Int32) (out : Int32) (hm : M_X4_decidedBy σ a1 = some out) : MetI l yX4_decidedBy cX4_decidedBy 4 (some .int) rm_X4_decidedBy d (cw q d σ) [.ref (q 32), .int a1] out (cw q d σ) := by
  refine mkI (own := RX4) (by decide +kernel) rfl (Nat.le_of_ble_eq_true rfl) ?_
  intro p e s m below meth c A ls C hS hl
  obtain ⟨hx, hb, hml, hown, hts, -⟩ := id C
  have hl : lv_has ls 4 [(0, .ref (q 32)), (1, .int a1)] := hl
  have L4 : ∀ (n : Nat) (x1 : Int32) (x2 : Int32) (x3 : Int32) (H : Heap) (locs : List Loc) (ls : Array Slot), HS d A s.heap H locs (cw q d σ) → lv_has ls 4 [(0, .ref (q 32)), (1, .int x1), (2, .int x2), (3, .int x3)] → M_X4_decidedBy_4 σ n x1 x2 x3 = some out → WI p l e rm_X4_decidedBy s m [.ref (q 32), .int a1].toArray below meth c A d H locs out (cw q d σ) (F0 m 4 ls []) := by
    intro n
    induction n with
    | zero =>
      intro x1 x2 x3 H locs ls hS hl hm
      exact absurd hm (by rw [M_X4_decidedBy_4]; exact fun h => nomatch h)
    | succ n ih =>
      intro x1 x2 x3 H locs ls hS hl hm
      rw [M_X4_decidedBy_4] at hm
      refine lv_iload_n hx hb dX4_decidedBy_4 rfl (lv_at hl 3 rfl) ?_
      refine lv_aload_n hx hb dX4_decidedBy_5 rfl (lv_at hl 0 rfl) ?_
      refine g_4_35_32 C hS dX4_decidedBy_6 ?_
      refine lv_icmp_ge (tgt := 53) hx hb dX4_decidedBy_9 (by decide) (fun c9 => ?_) (fun c9 => ?_)
      · replace hm := it c9 hm
        refine lv_iload_n hx hb dX4_decidedBy_53 rfl (lv_at hl 2 rfl) ?_
        exact retIr C hS hm dX4_decidedBy_54
      · replace hm := ie c9 hm
        refine lv_iload_n hx hb dX4_decidedBy_12 rfl (lv_at hl 1 rfl) ?_
        refine lv_iload_n hx hb dX4_decidedBy_13 rfl (lv_at hl 3 rfl) ?_
        obtain ⟨o14, e14, hm⟩ := ob hm
        refine after_i C hS (call_N (As := [.int x1, .int x3]) C hS (c_X6_isIn l d (cw q d σ) x1 x3 o14 e14 _) is_4_51 ⟨rfl, rfl, Nat.le_of_ble_eq_true rfl, Nat.le_of_ble_eq_true rfl⟩ rfl hl.1 (Nat.le_of_ble_eq_true rfl) dX4_decidedBy_14) (fun H locs hS => ?_)
        refine lv_if_eq (tgt := 47) hx hb dX4_decidedBy_17 (by decide) (fun c17 => ?_) (fun c17 => ?_)
        · replace hm := it c17 hm
          refine lv_iinc (v := x3 + 1) (lv' := [(3, .int (x3 + 1)), (0, .ref (q 32)), (1, .int x1), (2, .int x2)]) hx hb dX4_decidedBy_47 hl (k := 3) rfl rfl (by decide) rfl (fun ls hl => ?_)
          refine lv_goto (tgt := 4) hx hb dX4_decidedBy_50 (by decide) ?_
          exact ih x1 x2 (x3 + 1) _ _ _ hS (lv_sub hl [1, 2, 3, 0] rfl) hm
        · replace hm := ie c17 hm
          refine lv_aload_n hx hb dX4_decidedBy_20 rfl (lv_at hl 0 rfl) ?_
          refine g_4_9_32 C hS dX4_decidedBy_21 ?_
          refine lv_iload_n hx hb dX4_decidedBy_24 rfl (lv_at hl 3 rfl) ?_
          obtain ⟨v25, e25, hm⟩ := ob hm
          refine zald' C hS cw_a33 e25 dX4_decidedBy_25 ?_
          refine lv_if_eq (tgt := 47) hx hb dX4_decidedBy_26 (by decide) (fun c26 => ?_) (fun c26 => ?_)
          · replace hm := it c26 hm
            refine lv_iinc (v := x3 + 1) (lv' := [(3, .int (x3 + 1)), (0, .ref (q 32)), (1, .int x1), (2, .int x2)]) hx hb dX4_decidedBy_47 hl (k := 3) rfl rfl (by decide) rfl (fun ls hl => ?_)
            refine lv_goto (tgt := 4) hx hb dX4_decidedBy_50 (by decide) ?_
            exact ih x1 x2 (x3 + 1) _ _ _ hS (lv_sub hl [1, 2, 3, 0] rfl) hm
          · replace hm := ie c26 hm
            refine lv_aload_n hx hb dX4_decidedBy_29 rfl (lv_at hl 0 rfl) ?_
            refine g_4_9_32 C hS dX4_decidedBy_30 ?_
            refine lv_iload_n hx hb dX4_decidedBy_33 rfl (lv_at hl 3 rfl) ?_
            refine lv_iconst (v := 1) hx hb dX4_decidedBy_34 (by decide) ?_
            refine lv_iload_n hx hb dX4_decidedBy_35 rfl (lv_at hl 1 rfl) ?_
            refine lv_ishl hx hb dX4_decidedBy_36 ?_
            refine lv_iconst (v := (-1)) hx hb dX4_decidedBy_37 (by decide) ?_
            refine lv_ixor hx hb dX4_decidedBy_38 ?_
            refine lv_iand hx hb dX4_decidedBy_39 ?_
            obtain ⟨v40, e40, hm⟩ := ob hm
            refine zald' C hS cw_a33 e40 dX4_decidedBy_40 ?_
            refine lv_if_ne (tgt := 47) hx hb dX4_decidedBy_41 (by decide) (fun c41 => ?_) (fun c41 => ?_)
            · replace hm := ie c41 hm
              refine lv_iinc (v := x3 + 1) (lv' := [(3, .int (x3 + 1)), (0, .ref (q 32)), (1, .int x1), (2, .int x2)]) hx hb dX4_decidedBy_47 hl (k := 3) rfl rfl (by decide) rfl (fun ls hl => ?_)
              refine lv_goto (tgt := 4) hx hb dX4_decidedBy_50 (by decide) ?_
              exact ih x1 x2 (x3 + 1) _ _ _ hS (lv_sub hl [1, 2, 3, 0] rfl) hm
            · replace hm := it c41 hm
              refine lv_iinc (v := x2 + 1) (lv' := [(2, .int (x2 + 1)), (0, .ref (q 32)), (1, .int x1), (3, .int x3)]) hx hb dX4_decidedBy_44 hl (k := 2) rfl rfl (by decide) rfl (fun ls hl => ?_)
              refine lv_iinc (v := x3 + 1) (lv' := [(3, .int (x3 + 1)), (2, .int (x2 + 1)), (0, .ref (q 32)), (1, .int x1)]) hx hb dX4_decidedBy_47 hl (k := 3) rfl rfl (by decide) rfl (fun ls hl => ?_)
              refine lv_goto (tgt := 4) hx hb dX4_decidedBy_50 (by decide) ?_
              exact ih x1 (x2 + 1) (x3 + 1) _ _ _ hS (lv_sub hl [2, 3, 1, 0] rfl) hm
  unfold M_X4_decidedBy at hm
  refine lv_iconst (v := 0) hx hb dX4_decidedBy_0 (by decide) ?_
  refine lv_istore_n (lv' := [(2, .int 0), (0, .ref (q 32)), (1, .int a1)]) hx hb dX4_decidedBy_1 rfl hl (by decide) rfl (fun ls hl => ?_)
  refine lv_iconst (v := 0) hx hb dX4_decidedBy_2 (by decide) ?_
  refine lv_istore_n (lv' := [(3, .int 0), (2, .int 0), (0, .ref (q 32)), (1, .int a1)]) hx hb dX4_decidedBy_3 rfl hl (by decide) rfl (fun ls hl => ?_)
  exact L4 10000 a1 0 0 _ _ _ hS (lv_sub hl [2, 3, 1, 0] rfl) hm
def M_X6_holds (σ : ST) (a1 : Int32) : Option (Int32 × ST) := (M_X5_isHouse σ a1).bind fun o5 => if o5 = 0 then some ((-1), σ) else (M_X4_look σ).bind fun o17 => (M_X4_decidedBy o17 a1).bind fun o25 => some (o25, o17)
abbrev rm_X6_holds : Room := { frames := 5, cells := 0, slots := 0, locals := 109 }
set_option maxRecDepth 100000 in
set_option maxHeartbeats 4000000 in
theorem c_X6_holds (l : Launch) (d : CD) (q : Nat → Nat) (σ : ST) (a1 : Int32) (out : Int32 × ST) (hm : M_X6_holds σ a1 = some out) : MetI l yX6_holds cX6_holds 2 (some .int) rm_X6_holds d (cw q d σ) [.ref (q 0), .int a1] out.1 (cw q d out.2) := by
  refine mkI (own := RX6) (by decide +kernel) rfl (Nat.le_of_ble_eq_true rfl) ?_
  intro p e s m below meth c A ls C hS hl
  obtain ⟨hx, hb, hml, hown, hts, -⟩ := id C
  have hl : lv_has ls 2 [(0, .ref (q 0)), (1, .int a1)] := hl
  unfold M_X6_holds at hm
  refine lv_aload_n hx hb dX6_holds_0 rfl (lv_at hl 0 rfl) ?_
  refine g_6_33_0 C hS dX6_holds_1 ?_
  refine lv_iload_n hx hb dX6_holds_4 rfl (lv_at hl 1 rfl) ?_
  obtain ⟨o5, e5, hm⟩ := ob hm
  refine after_i C hS (call_V (As := [.int a1]) C hS (c_X5_isHouse l d q σ a1 o5 e5 _) iv_6_144 ⟨rfl, rfl, Nat.le_of_ble_eq_true rfl, Nat.le_of_ble_eq_true rfl⟩ cw_o22 rfl rfl rfl hl.1 (Nat.le_of_ble_eq_true rfl) dX6_holds_5) (fun H locs hS => ?_)
  refine lv_if_ne (tgt := 13) hx hb dX6_holds_8 (by decide) (fun c8 => ?_) (fun c8 => ?_)
  · replace hm := ie c8 hm
    refine lv_aload_n hx hb dX6_holds_13 rfl (lv_at hl 0 rfl) ?_
    refine g_6_42_0 C hS dX6_holds_14 ?_
    obtain ⟨o17, e17, hm⟩ := ob hm
    refine after_v C hS (call_V (As := []) C hS (c_X4_look l d q σ o17 e17 _) iv_6_203 ⟨rfl, rfl, Nat.le_of_ble_eq_true rfl, Nat.le_of_ble_eq_true rfl⟩ cw_o32 rfl rfl rfl hl.1 (Nat.le_of_ble_eq_true rfl) dX6_holds_17) (fun H locs hS => ?_)
    refine lv_aload_n hx hb dX6_holds_20 rfl (lv_at hl 0 rfl) ?_
    refine g_6_42_0 C hS dX6_holds_21 ?_
    refine lv_iload_n hx hb dX6_holds_24 rfl (lv_at hl 1 rfl) ?_
    obtain ⟨o25, e25, hm⟩ := ob hm
    refine after_i C hS (call_V (As := [.int a1]) C hS (c_X4_decidedBy l d q o17 a1 o25 e25 _) iv_6_222 ⟨rfl, rfl, Nat.le_of_ble_eq_true rfl, Nat.le_of_ble_eq_true rfl⟩ cw_o32 rfl rfl rfl hl.1 (Nat.le_of_ble_eq_true rfl) dX6_holds_25) (fun H locs hS => ?_)
    exact retIw (wf := cw q d) C hS hm dX6_holds_28
  · replace hm := it c8 hm
    refine lv_iconst (v := (-1)) hx hb dX6_holds_11 (by decide) ?_
    exact retIw (wf := cw q d) C hS hm dX6_holds_12
def M_X6_factorial_4 : Nat → Int32 → Int64 → Int32 → Option Int64
  | 0, _, _, _ => none
  | n + 1, x0, x1, x3 => if x0 < x3 then some x1 else M_X6_factorial_4 n x0 (x1 * x3.toInt64) (x3 + 1)
def M_X6_factorial (a0 : Int32) : Option Int64 := M_X6_factorial_4 10000 a0 1 2
abbrev rm_X6_factorial : Room := { frames := 0, cells := 0, slots := 0, locals := 0 }
set_option maxRecDepth 100000 in
set_option maxHeartbeats 4000000 in
theorem c_X6_factorial (l : Launch) (d : CD) (w : va_W) (a0 : Int32) (out : Int64) (hm : M_X6_factorial a0 = some out) : MetL l yX6_factorial cX6_factorial 4 (some .long) rm_X6_factorial d w [.int a0] out w := by
  refine mkL (own := RX6) (by decide +kernel) rfl (Nat.le_of_ble_eq_true rfl) ?_
  intro p e s m below meth c A ls C hS hl
  obtain ⟨hx, hb, hml, hown, hts, -⟩ := id C
  have hl : lv_has ls 4 [(0, .int a0)] := hl
  have L4 : ∀ (n : Nat) (x0 : Int32) (x1 : Int64) (x3 : Int32) (H : Heap) (locs : List Loc) (ls : Array Slot), HS d A s.heap H locs w → lv_has ls 4 [(0, .int x0), (1, .long x1), (3, .int x3)] → M_X6_factorial_4 n x0 x1 x3 = some out → WL p l e rm_X6_factorial s m [.int a0].toArray below meth c A d H locs out w (F0 m 4 ls []) := by
    intro n
    induction n with
    | zero =>
      intro x0 x1 x3 H locs ls hS hl hm
      exact absurd hm (by rw [M_X6_factorial_4]; exact fun h => nomatch h)
    | succ n ih =>
      intro x0 x1 x3 H locs ls hS hl hm
      rw [M_X6_factorial_4] at hm
      refine lv_iload_n hx hb dX6_factorial_4 rfl (lv_at hl 2 rfl) ?_
      refine lv_iload_n hx hb dX6_factorial_5 rfl (lv_at hl 0 rfl) ?_
      refine lv_icmp_gt (tgt := 20) hx hb dX6_factorial_6 (by decide) (fun c6 => ?_) (fun c6 => ?_)
      · replace hm := it c6 hm
        refine lv_lload_n hx hb dX6_factorial_20 rfl (lv_at hl 1 rfl) ?_
        exact retLr C hS hm dX6_factorial_21
      · replace hm := ie c6 hm
        refine lv_lload_n hx hb dX6_factorial_9 rfl (lv_at hl 1 rfl) ?_
        refine lv_iload_n hx hb dX6_factorial_10 rfl (lv_at hl 2 rfl) ?_
        refine lv_i2l (v := x3.toInt64) hx hb dX6_factorial_11 rfl ?_
        refine lv_lmul hx hb dX6_factorial_12 ?_
        refine lv_lstore_n (lv' := [(1, .long (x1 * x3.toInt64)), (0, .int x0), (3, .int x3)]) hx hb dX6_factorial_13 rfl hl (by decide) rfl (fun ls hl => ?_)
        refine lv_iinc (v := x3 + 1) (lv' := [(3, .int (x3 + 1)), (1, .long (x1 * x3.toInt64)), (0, .int x0)]) hx hb dX6_factorial_14 hl (k := 2) rfl rfl (by decide) rfl (fun ls hl => ?_)
        refine lv_goto (tgt := 4) hx hb dX6_factorial_17 (by decide) ?_
        exact ih x0 (x1 * x3.toInt64) (x3 + 1) _ _ _ hS (lv_sub hl [2, 1, 0] rfl) hm
  unfold M_X6_factorial at hm
  refine lv_lconst (v := 1) hx hb dX6_factorial_0 (by decide) ?_
  refine lv_lstore_n (lv' := [(1, .long 1), (0, .int a0)]) hx hb dX6_factorial_1 rfl hl (by decide) rfl (fun ls hl => ?_)
  refine lv_iconst (v := 2) hx hb dX6_factorial_2 (by decide) ?_
  refine lv_istore_n (lv' := [(3, .int 2), (1, .long 1), (0, .int a0)]) hx hb dX6_factorial_3 rfl hl (by decide) rfl (fun ls hl => ?_)
  exact L4 10000 a0 1 2 _ _ _ hS (lv_sub hl [2, 1, 0] rfl) hm
def M_X5_ordersDecidedBy_5 (σ : ST) : Nat → Int32 → Int64 → Int32 → Option Int64
  | 0, _, _, _ => none
  | n + 1, x1, x2, x4 => (M_X5_sets σ).bind fun o8 => if o8 ≤ x4 then some x2 else (M_X6_isIn x1 x4).bind fun o17 => if o17 = 0 then (M_X5_weightOf σ x4).bind fun o26 => if (σ.1 30) ≤ o26 then M_X5_ordersDecidedBy_5 σ n x1 x2 (x4 + 1) else (M_X5_weightOf σ (x4 ||| ((1 : Int32) <<< (x1 &&& 31)))).bind fun o46 => if o46 < (σ.1 30) then M_X5_ordersDecidedBy_5 σ n x1 x2 (x4 + 1) else (M_J6_bitCount_0f7a4 x4).bind fun o61 => (M_X6_factorial o61).bind fun o69 => (M_X6_factorial (((σ.1 33) - 1) - o61)).bind fun o84 => M_X5_ordersDecidedBy_5 σ n x1 (x2 + (o69 * o84)) (x4 + 1) else M_X5_ordersDecidedBy_5 σ n x1 x2 (x4 + 1)
def M_X5_ordersDecidedBy (σ : ST) (a1 : Int32) : Option Int64 := M_X5_ordersDecidedBy_5 σ 10000 a1 0 0
abbrev rm_X5_ordersDecidedBy : Room := { frames := 3, cells := 0, slots := 0, locals := 67 }
set_option maxRecDepth 100000 in
set_option maxHeartbeats 4000000 in
theorem c_X5_ordersDecidedBy (l : Launch) (d : CD) (q : Nat → Nat) (σ : ST) (a1 : Int32) (out : Int64) (hm : M_X5_ordersDecidedBy σ a1 = some out) : MetL l yX5_ordersDecidedBy cX5_ordersDecidedBy 6 (some .long) rm_X5_ordersDecidedBy d (cw q d σ) [.ref (q 22), .int a1] out (cw q d σ) := by
  refine mkL (own := RX5) (by decide +kernel) rfl (Nat.le_of_ble_eq_true rfl) ?_
  intro p e s m below meth c A ls C hS hl
  obtain ⟨hx, hb, hml, hown, hts, -⟩ := id C
  have hl : lv_has ls 6 [(0, .ref (q 22)), (1, .int a1)] := hl
  have L5 : ∀ (n : Nat) (x1 : Int32) (x2 : Int64) (x4 : Int32) (H : Heap) (locs : List Loc) (ls : Array Slot), HS d A s.heap H locs (cw q d σ) → lv_has ls 6 [(0, .ref (q 22)), (1, .int x1), (2, .long x2), (4, .int x4)] → M_X5_ordersDecidedBy_5 σ n x1 x2 x4 = some out → WL p l e rm_X5_ordersDecidedBy s m [.ref (q 22), .int a1].toArray below meth c A d H locs out (cw q d σ) (F0 m 5 ls []) := by
    intro n
    induction n with
    | zero =>
      intro x1 x2 x4 H locs ls hS hl hm
      exact absurd hm (by rw [M_X5_ordersDecidedBy_5]; exact fun h => nomatch h)
    | succ n ih =>
      intro x1 x2 x4 H locs ls hS hl hm
      rw [M_X5_ordersDecidedBy_5] at hm
      refine lv_iload hx hb dX5_ordersDecidedBy_5 (lv_at hl 3 rfl) ?_
      refine lv_aload_n hx hb dX5_ordersDecidedBy_7 rfl (lv_at hl 0 rfl) ?_
      obtain ⟨o8, e8, hm⟩ := ob hm
      refine after_i C hS (call_V (As := []) C hS (c_X5_sets l d q σ o8 e8 _) iv_5_98 ⟨rfl, rfl, Nat.le_of_ble_eq_true rfl, Nat.le_of_ble_eq_true rfl⟩ cw_o22 rfl rfl rfl hl.1 (Nat.le_of_ble_eq_true rfl) dX5_ordersDecidedBy_8) (fun H locs hS => ?_)
      refine lv_icmp_ge (tgt := 96) hx hb dX5_ordersDecidedBy_11 (by decide) (fun c11 => ?_) (fun c11 => ?_)
      · replace hm := it c11 hm
        refine lv_lload_n hx hb dX5_ordersDecidedBy_96 rfl (lv_at hl 2 rfl) ?_
        exact retLr C hS hm dX5_ordersDecidedBy_97
      · replace hm := ie c11 hm
        refine lv_iload_n hx hb dX5_ordersDecidedBy_14 rfl (lv_at hl 1 rfl) ?_
        refine lv_iload hx hb dX5_ordersDecidedBy_15 (lv_at hl 3 rfl) ?_
        obtain ⟨o17, e17, hm⟩ := ob hm
        refine after_i C hS (call_N (As := [.int x1, .int x4]) C hS (c_X6_isIn l d (cw q d σ) x1 x4 o17 e17 _) is_5_109 ⟨rfl, rfl, Nat.le_of_ble_eq_true rfl, Nat.le_of_ble_eq_true rfl⟩ rfl hl.1 (Nat.le_of_ble_eq_true rfl) dX5_ordersDecidedBy_17) (fun H locs hS => ?_)
        refine lv_if_ne (tgt := 90) hx hb dX5_ordersDecidedBy_20 (by decide) (fun c20 => ?_) (fun c20 => ?_)
        · replace hm := ie c20 hm
          refine lv_iinc (v := x4 + 1) (lv' := [(4, .int (x4 + 1)), (0, .ref (q 22)), (1, .int x1), (2, .long x2)]) hx hb dX5_ordersDecidedBy_90 hl (k := 3) rfl rfl (by decide) rfl (fun ls hl => ?_)
          refine lv_goto (tgt := 5) hx hb dX5_ordersDecidedBy_93 (by decide) ?_
          exact ih x1 x2 (x4 + 1) _ _ _ hS (lv_sub hl [1, 2, 3, 0] rfl) hm
        · replace hm := it c20 hm
          refine lv_aload_n hx hb dX5_ordersDecidedBy_23 rfl (lv_at hl 0 rfl) ?_
          refine lv_iload hx hb dX5_ordersDecidedBy_24 (lv_at hl 3 rfl) ?_
          obtain ⟨o26, e26, hm⟩ := ob hm
          refine after_i C hS (call_V (As := [.int x4]) C hS (c_X5_weightOf l d q σ x4 o26 e26 _) iv_5_118 ⟨rfl, rfl, Nat.le_of_ble_eq_true rfl, Nat.le_of_ble_eq_true rfl⟩ cw_o22 rfl rfl rfl hl.1 (Nat.le_of_ble_eq_true rfl) dX5_ordersDecidedBy_26) (fun H locs hS => ?_)
          refine lv_aload_n hx hb dX5_ordersDecidedBy_29 rfl (lv_at hl 0 rfl) ?_
          refine g_5_12_22 C hS dX5_ordersDecidedBy_30 ?_
          refine g_5_121_23 C hS dX5_ordersDecidedBy_33 ?_
          refine lv_icmp_ge (tgt := 90) hx hb dX5_ordersDecidedBy_36 (by decide) (fun c36 => ?_) (fun c36 => ?_)
          · replace hm := it c36 hm
            refine lv_iinc (v := x4 + 1) (lv' := [(4, .int (x4 + 1)), (0, .ref (q 22)), (1, .int x1), (2, .long x2)]) hx hb dX5_ordersDecidedBy_90 hl (k := 3) rfl rfl (by decide) rfl (fun ls hl => ?_)
            refine lv_goto (tgt := 5) hx hb dX5_ordersDecidedBy_93 (by decide) ?_
            exact ih x1 x2 (x4 + 1) _ _ _ hS (lv_sub hl [1, 2, 3, 0] rfl) hm
          · replace hm := ie c36 hm
            refine lv_aload_n hx hb dX5_ordersDecidedBy_39 rfl (lv_at hl 0 rfl) ?_
            refine lv_iload hx hb dX5_ordersDecidedBy_40 (lv_at hl 3 rfl) ?_
            refine lv_iconst (v := 1) hx hb dX5_ordersDecidedBy_42 (by decide) ?_
            refine lv_iload_n hx hb dX5_ordersDecidedBy_43 rfl (lv_at hl 1 rfl) ?_
            refine lv_ishl hx hb dX5_ordersDecidedBy_44 ?_
            refine lv_ior hx hb dX5_ordersDecidedBy_45 ?_
            obtain ⟨o46, e46, hm⟩ := ob hm
            refine after_i C hS (call_V (As := [.int (x4 ||| ((1 : Int32) <<< (x1 &&& 31)))]) C hS (c_X5_weightOf l d q σ (x4 ||| ((1 : Int32) <<< (x1 &&& 31))) o46 e46 _) iv_5_118 ⟨rfl, rfl, Nat.le_of_ble_eq_true rfl, Nat.le_of_ble_eq_true rfl⟩ cw_o22 rfl rfl rfl hl.1 (Nat.le_of_ble_eq_true rfl) dX5_ordersDecidedBy_46) (fun H locs hS => ?_)
            refine lv_aload_n hx hb dX5_ordersDecidedBy_49 rfl (lv_at hl 0 rfl) ?_
            refine g_5_12_22 C hS dX5_ordersDecidedBy_50 ?_
            refine g_5_121_23 C hS dX5_ordersDecidedBy_53 ?_
            refine lv_icmp_lt (tgt := 90) hx hb dX5_ordersDecidedBy_56 (by decide) (fun c56 => ?_) (fun c56 => ?_)
            · replace hm := it c56 hm
              refine lv_iinc (v := x4 + 1) (lv' := [(4, .int (x4 + 1)), (0, .ref (q 22)), (1, .int x1), (2, .long x2)]) hx hb dX5_ordersDecidedBy_90 hl (k := 3) rfl rfl (by decide) rfl (fun ls hl => ?_)
              refine lv_goto (tgt := 5) hx hb dX5_ordersDecidedBy_93 (by decide) ?_
              exact ih x1 x2 (x4 + 1) _ _ _ hS (lv_sub hl [1, 2, 3, 0] rfl) hm
            · replace hm := ie c56 hm
              refine lv_iload hx hb dX5_ordersDecidedBy_59 (lv_at hl 3 rfl) ?_
              obtain ⟨o61, e61, hm⟩ := ob hm
              refine after_i C hS (call_S (As := [.int x4]) C hS (c_J6_bitCount_0f7a4 l d (cw q d σ) x4 o61 e61 _) is_5_146 ⟨rfl, rfl, Nat.le_of_ble_eq_true rfl, Nat.le_of_ble_eq_true rfl⟩ rfl hl.1 (Nat.le_of_ble_eq_true rfl) dX5_ordersDecidedBy_61) (fun H locs hS => ?_)
              refine lv_istore (lv' := [(5, .int o61), (0, .ref (q 22)), (1, .int x1), (2, .long x2), (4, .int x4)]) hx hb dX5_ordersDecidedBy_64 hl (by decide) rfl (fun ls hl => ?_)
              refine lv_lload_n hx hb dX5_ordersDecidedBy_66 rfl (lv_at hl 3 rfl) ?_
              refine lv_iload hx hb dX5_ordersDecidedBy_67 (lv_at hl 0 rfl) ?_
              obtain ⟨o69, e69, hm⟩ := ob hm
              refine after_l C hS (call_N (As := [.int o61]) C hS (c_X6_factorial l d (cw q d σ) o61 o69 e69 _) is_5_151 ⟨rfl, rfl, Nat.le_of_ble_eq_true rfl, Nat.le_of_ble_eq_true rfl⟩ rfl hl.1 (Nat.le_of_ble_eq_true rfl) dX5_ordersDecidedBy_69) (fun H locs hS => ?_)
              refine lv_aload_n hx hb dX5_ordersDecidedBy_72 rfl (lv_at hl 1 rfl) ?_
              refine g_5_12_22 C hS dX5_ordersDecidedBy_73 ?_
              refine g_5_95_23 C hS dX5_ordersDecidedBy_76 ?_
              refine lv_iconst (v := 1) hx hb dX5_ordersDecidedBy_79 (by decide) ?_
              refine lv_isub hx hb dX5_ordersDecidedBy_80 ?_
              refine lv_iload hx hb dX5_ordersDecidedBy_81 (lv_at hl 0 rfl) ?_
              refine lv_isub hx hb dX5_ordersDecidedBy_83 ?_
              obtain ⟨o84, e84, hm⟩ := ob hm
              refine after_l C hS (call_N (As := [.int (((σ.1 33) - 1) - o61)]) C hS (c_X6_factorial l d (cw q d σ) (((σ.1 33) - 1) - o61) o84 e84 _) is_5_151 ⟨rfl, rfl, Nat.le_of_ble_eq_true rfl, Nat.le_of_ble_eq_true rfl⟩ rfl hl.1 (Nat.le_of_ble_eq_true rfl) dX5_ordersDecidedBy_84) (fun H locs hS => ?_)
              refine lv_lmul hx hb dX5_ordersDecidedBy_87 ?_
              refine lv_ladd hx hb dX5_ordersDecidedBy_88 ?_
              refine lv_lstore_n (lv' := [(2, .long (x2 + (o69 * o84))), (5, .int o61), (0, .ref (q 22)), (1, .int x1), (4, .int x4)]) hx hb dX5_ordersDecidedBy_89 rfl hl (by decide) rfl (fun ls hl => ?_)
              refine lv_iinc (v := x4 + 1) (lv' := [(4, .int (x4 + 1)), (2, .long (x2 + (o69 * o84))), (5, .int o61), (0, .ref (q 22)), (1, .int x1)]) hx hb dX5_ordersDecidedBy_90 hl (k := 4) rfl rfl (by decide) rfl (fun ls hl => ?_)
              refine lv_goto (tgt := 5) hx hb dX5_ordersDecidedBy_93 (by decide) ?_
              exact ih x1 (x2 + (o69 * o84)) (x4 + 1) _ _ _ hS (lv_sub hl [3, 4, 1, 0] rfl) hm
  unfold M_X5_ordersDecidedBy at hm
  refine lv_lconst (v := 0) hx hb dX5_ordersDecidedBy_0 (by decide) ?_
  refine lv_lstore_n (lv' := [(2, .long 0), (0, .ref (q 22)), (1, .int a1)]) hx hb dX5_ordersDecidedBy_1 rfl hl (by decide) rfl (fun ls hl => ?_)
  refine lv_iconst (v := 0) hx hb dX5_ordersDecidedBy_2 (by decide) ?_
  refine lv_istore (lv' := [(4, .int 0), (2, .long 0), (0, .ref (q 22)), (1, .int a1)]) hx hb dX5_ordersDecidedBy_3 hl (by decide) rfl (fun ls hl => ?_)
  exact L5 10000 a1 0 0 _ _ _ hS (lv_sub hl [2, 3, 1, 0] rfl) hm
def M_X6_part (σ : ST) (a1 : Int32) : Option (Int32 × ST) := (M_X5_isHouse σ a1).bind fun o5 => if o5 = 0 then some ((-1), σ) else (M_X5_ordersDecidedBy σ a1).bind fun o19 => (M_X5_houses σ).bind fun o26 => (M_X6_factorial o26).bind fun o29 => (M_X6_tell σ o19 o29).bind fun o32 => some (1, o32)
abbrev rm_X6_part : Room := { frames := 4, cells := 0, slots := 0, locals := 92 }
set_option maxRecDepth 100000 in
set_option maxHeartbeats 4000000 in
theorem c_X6_part (l : Launch) (d : CD) (q : Nat → Nat) (σ : ST) (a1 : Int32) (out : Int32 × ST) (hm : M_X6_part σ a1 = some out) : MetI l yX6_part cX6_part 2 (some .int) rm_X6_part d (cw q d σ) [.ref (q 0), .int a1] out.1 (cw q d out.2) := by
  refine mkI (own := RX6) (by decide +kernel) rfl (Nat.le_of_ble_eq_true rfl) ?_
  intro p e s m below meth c A ls C hS hl
  obtain ⟨hx, hb, hml, hown, hts, -⟩ := id C
  have hl : lv_has ls 2 [(0, .ref (q 0)), (1, .int a1)] := hl
  unfold M_X6_part at hm
  refine lv_aload_n hx hb dX6_part_0 rfl (lv_at hl 0 rfl) ?_
  refine g_6_33_0 C hS dX6_part_1 ?_
  refine lv_iload_n hx hb dX6_part_4 rfl (lv_at hl 1 rfl) ?_
  obtain ⟨o5, e5, hm⟩ := ob hm
  refine after_i C hS (call_V (As := [.int a1]) C hS (c_X5_isHouse l d q σ a1 o5 e5 _) iv_6_144 ⟨rfl, rfl, Nat.le_of_ble_eq_true rfl, Nat.le_of_ble_eq_true rfl⟩ cw_o22 rfl rfl rfl hl.1 (Nat.le_of_ble_eq_true rfl) dX6_part_5) (fun H locs hS => ?_)
  refine lv_if_ne (tgt := 13) hx hb dX6_part_8 (by decide) (fun c8 => ?_) (fun c8 => ?_)
  · replace hm := ie c8 hm
    refine lv_aload_n hx hb dX6_part_13 rfl (lv_at hl 0 rfl) ?_
    refine lv_aload_n hx hb dX6_part_14 rfl (lv_at hl 0 rfl) ?_
    refine g_6_33_0 C hS dX6_part_15 ?_
    refine lv_iload_n hx hb dX6_part_18 rfl (lv_at hl 1 rfl) ?_
    obtain ⟨o19, e19, hm⟩ := ob hm
    refine after_l C hS (call_V (As := [.int a1]) C hS (c_X5_ordersDecidedBy l d q σ a1 o19 e19 _) iv_6_225 ⟨rfl, rfl, Nat.le_of_ble_eq_true rfl, Nat.le_of_ble_eq_true rfl⟩ cw_o22 rfl rfl rfl hl.1 (Nat.le_of_ble_eq_true rfl) dX6_part_19) (fun H locs hS => ?_)
    refine lv_aload_n hx hb dX6_part_22 rfl (lv_at hl 0 rfl) ?_
    refine g_6_33_0 C hS dX6_part_23 ?_
    obtain ⟨o26, e26, hm⟩ := ob hm
    refine after_i C hS (call_V (As := []) C hS (c_X5_houses l d q σ o26 e26 _) iv_6_140 ⟨rfl, rfl, Nat.le_of_ble_eq_true rfl, Nat.le_of_ble_eq_true rfl⟩ cw_o22 rfl rfl rfl hl.1 (Nat.le_of_ble_eq_true rfl) dX6_part_26) (fun H locs hS => ?_)
    obtain ⟨o29, e29, hm⟩ := ob hm
    refine after_l C hS (call_S (As := [.int o26]) C hS (c_X6_factorial l d (cw q d σ) o26 o29 e29 _) is_6_228 ⟨rfl, rfl, Nat.le_of_ble_eq_true rfl, Nat.le_of_ble_eq_true rfl⟩ rfl hl.1 (Nat.le_of_ble_eq_true rfl) dX6_part_29) (fun H locs hS => ?_)
    obtain ⟨o32, e32, hm⟩ := ob hm
    refine after_v C hS (call_V (As := [.long o19, .long o29]) C hS (c_X6_tell l d q σ o19 o29 o32 e32 _) iv_6_209 ⟨rfl, rfl, Nat.le_of_ble_eq_true rfl, Nat.le_of_ble_eq_true rfl⟩ cw_o0 rfl rfl rfl hl.1 (Nat.le_of_ble_eq_true rfl) dX6_part_32) (fun H locs hS => ?_)
    refine lv_iconst (v := 1) hx hb dX6_part_35 (by decide) ?_
    exact retIw (wf := cw q d) C hS hm dX6_part_36
  · replace hm := it c8 hm
    refine lv_iconst (v := (-1)) hx hb dX6_part_11 (by decide) ?_
    exact retIw (wf := cw q d) C hS hm dX6_part_12
def M_X5_thirsty_4 (σ : ST) : Nat → Int32 → Int32 → Option Int32
  | 0, _, _ => none
  | n + 1, x1, x2 => if (σ.1 33) ≤ x2 then some x1 else (M_X5_wantsYet σ x2).bind fun o17 => if o17 ≤ 0 then M_X5_thirsty_4 σ n x1 (x2 + 1) else M_X5_thirsty_4 σ n (x1 ||| ((1 : Int32) <<< (x2 &&& 31))) (x2 + 1)
def M_X5_thirsty (σ : ST) : Option Int32 := M_X5_thirsty_4 σ 10000 0 0
abbrev rm_X5_thirsty : Room := { frames := 2, cells := 0, slots := 0, locals := 42 }
set_option maxRecDepth 100000 in
set_option maxHeartbeats 4000000 in
theorem c_X5_thirsty (l : Launch) (d : CD) (q : Nat → Nat) (σ : ST) (out : Int32) (hm : M_X5_thirsty σ = some out) : MetI l yX5_thirsty cX5_thirsty 3 (some .int) rm_X5_thirsty d (cw q d σ) [.ref (q 22)] out (cw q d σ) := by
  refine mkI (own := RX5) (by decide +kernel) rfl (Nat.le_of_ble_eq_true rfl) ?_
  intro p e s m below meth c A ls C hS hl
  obtain ⟨hx, hb, hml, hown, hts, -⟩ := id C
  have hl : lv_has ls 3 [(0, .ref (q 22))] := hl
  have L4 : ∀ (n : Nat) (x1 : Int32) (x2 : Int32) (H : Heap) (locs : List Loc) (ls : Array Slot), HS d A s.heap H locs (cw q d σ) → lv_has ls 3 [(0, .ref (q 22)), (1, .int x1), (2, .int x2)] → M_X5_thirsty_4 σ n x1 x2 = some out → WI p l e rm_X5_thirsty s m [.ref (q 22)].toArray below meth c A d H locs out (cw q d σ) (F0 m 4 ls []) := by
    intro n
    induction n with
    | zero =>
      intro x1 x2 H locs ls hS hl hm
      exact absurd hm (by rw [M_X5_thirsty_4]; exact fun h => nomatch h)
    | succ n ih =>
      intro x1 x2 H locs ls hS hl hm
      rw [M_X5_thirsty_4] at hm
      refine lv_iload_n hx hb dX5_thirsty_4 rfl (lv_at hl 2 rfl) ?_
      refine lv_aload_n hx hb dX5_thirsty_5 rfl (lv_at hl 0 rfl) ?_
      refine g_5_12_22 C hS dX5_thirsty_6 ?_
      refine g_5_95_23 C hS dX5_thirsty_9 ?_
      refine lv_icmp_ge (tgt := 35) hx hb dX5_thirsty_12 (by decide) (fun c12 => ?_) (fun c12 => ?_)
      · replace hm := it c12 hm
        refine lv_iload_n hx hb dX5_thirsty_35 rfl (lv_at hl 1 rfl) ?_
        exact retIr C hS hm dX5_thirsty_36
      · replace hm := ie c12 hm
        refine lv_aload_n hx hb dX5_thirsty_15 rfl (lv_at hl 0 rfl) ?_
        refine lv_iload_n hx hb dX5_thirsty_16 rfl (lv_at hl 2 rfl) ?_
        obtain ⟨o17, e17, hm⟩ := ob hm
        refine after_i C hS (call_V (As := [.int x2]) C hS (c_X5_wantsYet l d q σ x2 o17 e17 _) iv_5_77 ⟨rfl, rfl, Nat.le_of_ble_eq_true rfl, Nat.le_of_ble_eq_true rfl⟩ cw_o22 rfl rfl rfl hl.1 (Nat.le_of_ble_eq_true rfl) dX5_thirsty_17) (fun H locs hS => ?_)
        refine lv_if_le (tgt := 29) hx hb dX5_thirsty_20 (by decide) (fun c20 => ?_) (fun c20 => ?_)
        · replace hm := it c20 hm
          refine lv_iinc (v := x2 + 1) (lv' := [(2, .int (x2 + 1)), (0, .ref (q 22)), (1, .int x1)]) hx hb dX5_thirsty_29 hl (k := 2) rfl rfl (by decide) rfl (fun ls hl => ?_)
          refine lv_goto (tgt := 4) hx hb dX5_thirsty_32 (by decide) ?_
          exact ih x1 (x2 + 1) _ _ _ hS (lv_sub hl [1, 2, 0] rfl) hm
        · replace hm := ie c20 hm
          refine lv_iload_n hx hb dX5_thirsty_23 rfl (lv_at hl 1 rfl) ?_
          refine lv_iconst (v := 1) hx hb dX5_thirsty_24 (by decide) ?_
          refine lv_iload_n hx hb dX5_thirsty_25 rfl (lv_at hl 2 rfl) ?_
          refine lv_ishl hx hb dX5_thirsty_26 ?_
          refine lv_ior hx hb dX5_thirsty_27 ?_
          refine lv_istore_n (lv' := [(1, .int (x1 ||| ((1 : Int32) <<< (x2 &&& 31)))), (0, .ref (q 22)), (2, .int x2)]) hx hb dX5_thirsty_28 rfl hl (by decide) rfl (fun ls hl => ?_)
          refine lv_iinc (v := x2 + 1) (lv' := [(2, .int (x2 + 1)), (1, .int (x1 ||| ((1 : Int32) <<< (x2 &&& 31)))), (0, .ref (q 22))]) hx hb dX5_thirsty_29 hl (k := 2) rfl rfl (by decide) rfl (fun ls hl => ?_)
          refine lv_goto (tgt := 4) hx hb dX5_thirsty_32 (by decide) ?_
          exact ih (x1 ||| ((1 : Int32) <<< (x2 &&& 31))) (x2 + 1) _ _ _ hS (lv_sub hl [2, 1, 0] rfl) hm
  unfold M_X5_thirsty at hm
  refine lv_iconst (v := 0) hx hb dX5_thirsty_0 (by decide) ?_
  refine lv_istore_n (lv' := [(1, .int 0), (0, .ref (q 22))]) hx hb dX5_thirsty_1 rfl hl (by decide) rfl (fun ls hl => ?_)
  refine lv_iconst (v := 0) hx hb dX5_thirsty_2 (by decide) ?_
  refine lv_istore_n (lv' := [(2, .int 0), (1, .int 0), (0, .ref (q 22))]) hx hb dX5_thirsty_3 rfl hl (by decide) rfl (fun ls hl => ?_)
  exact L4 10000 0 0 _ _ _ hS (lv_sub hl [2, 1, 0] rfl) hm
def M_X4_fewestToCoverByLesser_11 (σ : ST) : Nat → Int32 → Int32 → Int32 → Int32 → Option Int32
  | 0, _, _, _, _ => none
  | n + 1, x1, x2, x3, x4 => if (σ.1 38) ≤ x4 then some x2 else (rd 128 (σ.2.2 33) x4).bind fun v26 => if v26 = 0 then M_X4_fewestToCoverByLesser_11 σ n x1 x2 x3 (x4 + 1) else if (x4 &&& x3) = 0 then M_X4_fewestToCoverByLesser_11 σ n x1 x2 x3 (x4 + 1) else (rd 128 (σ.2.2 34) (x1 &&& (x4 ^^^ (-1)))).bind fun v47 => if v47 = (-9) then M_X4_fewestToCoverByLesser_11 σ n x1 x2 x3 (x4 + 1) else if x2 = (-9) then M_X4_fewestToCoverByLesser_11 σ n x1 (v47 + 1) x3 (x4 + 1) else if x2 ≤ (v47 + 1) then M_X4_fewestToCoverByLesser_11 σ n x1 x2 x3 (x4 + 1) else M_X4_fewestToCoverByLesser_11 σ n x1 (v47 + 1) x3 (x4 + 1)
def M_X4_fewestToCoverByLesser (σ : ST) (a1 : Int32) : Option Int32 := M_X4_fewestToCoverByLesser_11 σ 10000 a1 (-9) (a1 &&& (-a1)) 0
abbrev rm_X4_fewestToCoverByLesser : Room := { frames := 0, cells := 0, slots := 0, locals := 0 }
set_option maxRecDepth 100000 in
set_option maxHeartbeats 4000000 in
theorem c_X4_fewestToCoverByLesser (l : Launch) (d : CD) (q : Nat → Nat) (σ : ST) (a1 : Int32) (out : Int32) (hm : M_X4_fewestToCoverByLesser σ a1 = some out) : MetI l yX4_fewestToCoverByLesser cX4_fewestToCoverByLesser 6 (some .int) rm_X4_fewestToCoverByLesser d (cw q d σ) [.ref (q 32), .int a1] out (cw q d σ) := by
  refine mkI (own := RX4) (by decide +kernel) rfl (Nat.le_of_ble_eq_true rfl) ?_
  intro p e s m below meth c A ls C hS hl
  obtain ⟨hx, hb, hml, hown, hts, -⟩ := id C
  have hl : lv_has ls 6 [(0, .ref (q 32)), (1, .int a1)] := hl
  have L11 : ∀ (n : Nat) (x1 : Int32) (x2 : Int32) (x3 : Int32) (x4 : Int32) (H : Heap) (locs : List Loc) (ls : Array Slot), HS d A s.heap H locs (cw q d σ) → lv_has ls 6 [(0, .ref (q 32)), (1, .int x1), (2, .int x2), (3, .int x3), (4, .int x4)] → M_X4_fewestToCoverByLesser_11 σ n x1 x2 x3 x4 = some out → WI p l e rm_X4_fewestToCoverByLesser s m [.ref (q 32), .int a1].toArray below meth c A d H locs out (cw q d σ) (F0 m 11 ls []) := by
    intro n
    induction n with
    | zero =>
      intro x1 x2 x3 x4 H locs ls hS hl hm
      exact absurd hm (by rw [M_X4_fewestToCoverByLesser_11]; exact fun h => nomatch h)
    | succ n ih =>
      intro x1 x2 x3 x4 H locs ls hS hl hm
      rw [M_X4_fewestToCoverByLesser_11] at hm
      refine lv_iload hx hb dX4_fewestToCoverByLesser_11 (lv_at hl 4 rfl) ?_
      refine lv_aload_n hx hb dX4_fewestToCoverByLesser_13 rfl (lv_at hl 0 rfl) ?_
      refine g_4_35_32 C hS dX4_fewestToCoverByLesser_14 ?_
      refine lv_icmp_ge (tgt := 82) hx hb dX4_fewestToCoverByLesser_17 (by decide) (fun c17 => ?_) (fun c17 => ?_)
      · replace hm := it c17 hm
        refine lv_iload_n hx hb dX4_fewestToCoverByLesser_82 rfl (lv_at hl 2 rfl) ?_
        exact retIr C hS hm dX4_fewestToCoverByLesser_83
      · replace hm := ie c17 hm
        refine lv_aload_n hx hb dX4_fewestToCoverByLesser_20 rfl (lv_at hl 0 rfl) ?_
        refine g_4_9_32 C hS dX4_fewestToCoverByLesser_21 ?_
        refine lv_iload hx hb dX4_fewestToCoverByLesser_24 (lv_at hl 4 rfl) ?_
        obtain ⟨v26, e26, hm⟩ := ob hm
        refine zald' C hS cw_a33 e26 dX4_fewestToCoverByLesser_26 ?_
        refine lv_if_eq (tgt := 76) hx hb dX4_fewestToCoverByLesser_27 (by decide) (fun c27 => ?_) (fun c27 => ?_)
        · replace hm := it c27 hm
          refine lv_iinc (v := x4 + 1) (lv' := [(4, .int (x4 + 1)), (0, .ref (q 32)), (1, .int x1), (2, .int x2), (3, .int x3)]) hx hb dX4_fewestToCoverByLesser_76 hl (k := 4) rfl rfl (by decide) rfl (fun ls hl => ?_)
          refine lv_goto (tgt := 11) hx hb dX4_fewestToCoverByLesser_79 (by decide) ?_
          exact ih x1 x2 x3 (x4 + 1) _ _ _ hS (lv_sub hl [1, 2, 3, 4, 0] rfl) hm
        · replace hm := ie c27 hm
          refine lv_iload hx hb dX4_fewestToCoverByLesser_30 (lv_at hl 4 rfl) ?_
          refine lv_iload_n hx hb dX4_fewestToCoverByLesser_32 rfl (lv_at hl 3 rfl) ?_
          refine lv_iand hx hb dX4_fewestToCoverByLesser_33 ?_
          refine lv_if_eq (tgt := 76) hx hb dX4_fewestToCoverByLesser_34 (by decide) (fun c34 => ?_) (fun c34 => ?_)
          · replace hm := it c34 hm
            refine lv_iinc (v := x4 + 1) (lv' := [(4, .int (x4 + 1)), (0, .ref (q 32)), (1, .int x1), (2, .int x2), (3, .int x3)]) hx hb dX4_fewestToCoverByLesser_76 hl (k := 4) rfl rfl (by decide) rfl (fun ls hl => ?_)
            refine lv_goto (tgt := 11) hx hb dX4_fewestToCoverByLesser_79 (by decide) ?_
            exact ih x1 x2 x3 (x4 + 1) _ _ _ hS (lv_sub hl [1, 2, 3, 4, 0] rfl) hm
          · replace hm := ie c34 hm
            refine lv_aload_n hx hb dX4_fewestToCoverByLesser_37 rfl (lv_at hl 0 rfl) ?_
            refine g_4_15_32 C hS dX4_fewestToCoverByLesser_38 ?_
            refine lv_iload_n hx hb dX4_fewestToCoverByLesser_41 rfl (lv_at hl 1 rfl) ?_
            refine lv_iload hx hb dX4_fewestToCoverByLesser_42 (lv_at hl 4 rfl) ?_
            refine lv_iconst (v := (-1)) hx hb dX4_fewestToCoverByLesser_44 (by decide) ?_
            refine lv_ixor hx hb dX4_fewestToCoverByLesser_45 ?_
            refine lv_iand hx hb dX4_fewestToCoverByLesser_46 ?_
            obtain ⟨v47, e47, hm⟩ := ob hm
            refine iald' C hS cw_a34 e47 dX4_fewestToCoverByLesser_47 ?_
            refine lv_istore (lv' := [(5, .int v47), (0, .ref (q 32)), (1, .int x1), (2, .int x2), (3, .int x3), (4, .int x4)]) hx hb dX4_fewestToCoverByLesser_48 hl (by decide) rfl (fun ls hl => ?_)
            refine lv_iload hx hb dX4_fewestToCoverByLesser_50 (lv_at hl 0 rfl) ?_
            refine lv_bipush (v := (-9)) hx hb dX4_fewestToCoverByLesser_52 (by decide) ?_
            refine lv_icmp_eq (tgt := 76) hx hb dX4_fewestToCoverByLesser_54 (by decide) (fun c54 => ?_) (fun c54 => ?_)
            · replace hm := it c54 hm
              refine lv_iinc (v := x4 + 1) (lv' := [(4, .int (x4 + 1)), (5, .int v47), (0, .ref (q 32)), (1, .int x1), (2, .int x2), (3, .int x3)]) hx hb dX4_fewestToCoverByLesser_76 hl (k := 5) rfl rfl (by decide) rfl (fun ls hl => ?_)
              refine lv_goto (tgt := 11) hx hb dX4_fewestToCoverByLesser_79 (by decide) ?_
              exact ih x1 x2 x3 (x4 + 1) _ _ _ hS (lv_sub hl [2, 3, 4, 5, 0] rfl) hm
            · replace hm := ie c54 hm
              refine lv_iload_n hx hb dX4_fewestToCoverByLesser_57 rfl (lv_at hl 3 rfl) ?_
              refine lv_bipush (v := (-9)) hx hb dX4_fewestToCoverByLesser_58 (by decide) ?_
              refine lv_icmp_eq (tgt := 71) hx hb dX4_fewestToCoverByLesser_60 (by decide) (fun c60 => ?_) (fun c60 => ?_)
              · replace hm := it c60 hm
                refine lv_iload hx hb dX4_fewestToCoverByLesser_71 (lv_at hl 0 rfl) ?_
                refine lv_iconst (v := 1) hx hb dX4_fewestToCoverByLesser_73 (by decide) ?_
                refine lv_iadd hx hb dX4_fewestToCoverByLesser_74 ?_
                refine lv_istore_n (lv' := [(2, .int (v47 + 1)), (5, .int v47), (0, .ref (q 32)), (1, .int x1), (3, .int x3), (4, .int x4)]) hx hb dX4_fewestToCoverByLesser_75 rfl hl (by decide) rfl (fun ls hl => ?_)
                refine lv_iinc (v := x4 + 1) (lv' := [(4, .int (x4 + 1)), (2, .int (v47 + 1)), (5, .int v47), (0, .ref (q 32)), (1, .int x1), (3, .int x3)]) hx hb dX4_fewestToCoverByLesser_76 hl (k := 5) rfl rfl (by decide) rfl (fun ls hl => ?_)
                refine lv_goto (tgt := 11) hx hb dX4_fewestToCoverByLesser_79 (by decide) ?_
                exact ih x1 (v47 + 1) x3 (x4 + 1) _ _ _ hS (lv_sub hl [3, 4, 1, 5, 0] rfl) hm
              · replace hm := ie c60 hm
                refine lv_iload hx hb dX4_fewestToCoverByLesser_63 (lv_at hl 0 rfl) ?_
                refine lv_iconst (v := 1) hx hb dX4_fewestToCoverByLesser_65 (by decide) ?_
                refine lv_iadd hx hb dX4_fewestToCoverByLesser_66 ?_
                refine lv_iload_n hx hb dX4_fewestToCoverByLesser_67 rfl (lv_at hl 3 rfl) ?_
                refine lv_icmp_ge (tgt := 76) hx hb dX4_fewestToCoverByLesser_68 (by decide) (fun c68 => ?_) (fun c68 => ?_)
                · replace hm := it c68 hm
                  refine lv_iinc (v := x4 + 1) (lv' := [(4, .int (x4 + 1)), (5, .int v47), (0, .ref (q 32)), (1, .int x1), (2, .int x2), (3, .int x3)]) hx hb dX4_fewestToCoverByLesser_76 hl (k := 5) rfl rfl (by decide) rfl (fun ls hl => ?_)
                  refine lv_goto (tgt := 11) hx hb dX4_fewestToCoverByLesser_79 (by decide) ?_
                  exact ih x1 x2 x3 (x4 + 1) _ _ _ hS (lv_sub hl [2, 3, 4, 5, 0] rfl) hm
                · replace hm := ie c68 hm
                  refine lv_iload hx hb dX4_fewestToCoverByLesser_71 (lv_at hl 0 rfl) ?_
                  refine lv_iconst (v := 1) hx hb dX4_fewestToCoverByLesser_73 (by decide) ?_
                  refine lv_iadd hx hb dX4_fewestToCoverByLesser_74 ?_
                  refine lv_istore_n (lv' := [(2, .int (v47 + 1)), (5, .int v47), (0, .ref (q 32)), (1, .int x1), (3, .int x3), (4, .int x4)]) hx hb dX4_fewestToCoverByLesser_75 rfl hl (by decide) rfl (fun ls hl => ?_)
                  refine lv_iinc (v := x4 + 1) (lv' := [(4, .int (x4 + 1)), (2, .int (v47 + 1)), (5, .int v47), (0, .ref (q 32)), (1, .int x1), (3, .int x3)]) hx hb dX4_fewestToCoverByLesser_76 hl (k := 5) rfl rfl (by decide) rfl (fun ls hl => ?_)
                  refine lv_goto (tgt := 11) hx hb dX4_fewestToCoverByLesser_79 (by decide) ?_
                  exact ih x1 (v47 + 1) x3 (x4 + 1) _ _ _ hS (lv_sub hl [3, 4, 1, 5, 0] rfl) hm
  unfold M_X4_fewestToCoverByLesser at hm
  refine lv_bipush (v := (-9)) hx hb dX4_fewestToCoverByLesser_0 (by decide) ?_
  refine lv_istore_n (lv' := [(2, .int (-9)), (0, .ref (q 32)), (1, .int a1)]) hx hb dX4_fewestToCoverByLesser_2 rfl hl (by decide) rfl (fun ls hl => ?_)
  refine lv_iload_n hx hb dX4_fewestToCoverByLesser_3 rfl (lv_at hl 2 rfl) ?_
  refine lv_iload_n hx hb dX4_fewestToCoverByLesser_4 rfl (lv_at hl 2 rfl) ?_
  refine lv_ineg hx hb dX4_fewestToCoverByLesser_5 ?_
  refine lv_iand hx hb dX4_fewestToCoverByLesser_6 ?_
  refine lv_istore_n (lv' := [(3, .int (a1 &&& (-a1))), (2, .int (-9)), (0, .ref (q 32)), (1, .int a1)]) hx hb dX4_fewestToCoverByLesser_7 rfl hl (by decide) rfl (fun ls hl => ?_)
  refine lv_iconst (v := 0) hx hb dX4_fewestToCoverByLesser_8 (by decide) ?_
  refine lv_istore (lv' := [(4, .int 0), (3, .int (a1 &&& (-a1))), (2, .int (-9)), (0, .ref (q 32)), (1, .int a1)]) hx hb dX4_fewestToCoverByLesser_9 hl (by decide) rfl (fun ls hl => ?_)
  exact L11 10000 a1 (-9) (a1 &&& (-a1)) 0 _ _ _ hS (lv_sub hl [3, 4, 2, 1, 0] rfl) hm
def M_X4_fewestToCover_9 : Nat → ST → Int32 → Int32 → Option (Int32 × ST)
  | 0, _, _, _ => none
  | n + 1, σ, x1, x2 => if (σ.1 38) ≤ x2 then if x1 < 0 then some ((-9), σ) else if (σ.1 38) ≤ x1 then some ((-9), σ) else (rd 128 (σ.2.2 34) x1).bind fun v51 => some (v51, σ) else (M_X4_fewestToCoverByLesser σ x2).bind fun o24 => (wrA 128 σ 34 x2 o24).bind fun σ27 => M_X4_fewestToCover_9 n σ27 x1 (x2 + 1)
def M_X4_fewestToCover (σ : ST) (a1 : Int32) : Option (Int32 × ST) := (wrA 128 σ 34 0 0).bind fun σ6 => M_X4_fewestToCover_9 10000 σ6 a1 1
abbrev rm_X4_fewestToCover : Room := { frames := 1, cells := 0, slots := 0, locals := 25 }
set_option maxRecDepth 100000 in
set_option maxHeartbeats 4000000 in
theorem c_X4_fewestToCover (l : Launch) (d : CD) (q : Nat → Nat) (σ : ST) (a1 : Int32) (out : Int32 × ST) (hm : M_X4_fewestToCover σ a1 = some out) : MetI l yX4_fewestToCover cX4_fewestToCover 3 (some .int) rm_X4_fewestToCover d (cw q d σ) [.ref (q 32), .int a1] out.1 (cw q d out.2) := by
  refine mkI (own := RX4) (by decide +kernel) rfl (Nat.le_of_ble_eq_true rfl) ?_
  intro p e s m below meth c A ls C hS hl
  obtain ⟨hx, hb, hml, hown, hts, -⟩ := id C
  have hl : lv_has ls 3 [(0, .ref (q 32)), (1, .int a1)] := hl
  have L9 : ∀ (n : Nat) (σ : ST) (x1 : Int32) (x2 : Int32) (H : Heap) (locs : List Loc) (ls : Array Slot), HS d A s.heap H locs (cw q d σ) → lv_has ls 3 [(0, .ref (q 32)), (1, .int x1), (2, .int x2)] → M_X4_fewestToCover_9 n σ x1 x2 = some out → WI p l e rm_X4_fewestToCover s m [.ref (q 32), .int a1].toArray below meth c A d H locs out.1 (cw q d out.2) (F0 m 9 ls []) := by
    intro n
    induction n with
    | zero =>
      intro σ x1 x2 H locs ls hS hl hm
      exact absurd hm (by rw [M_X4_fewestToCover_9]; exact fun h => nomatch h)
    | succ n ih =>
      intro σ x1 x2 H locs ls hS hl hm
      rw [M_X4_fewestToCover_9] at hm
      refine lv_iload_n hx hb dX4_fewestToCover_9 rfl (lv_at hl 2 rfl) ?_
      refine lv_aload_n hx hb dX4_fewestToCover_10 rfl (lv_at hl 0 rfl) ?_
      refine g_4_35_32 C hS dX4_fewestToCover_11 ?_
      refine lv_icmp_ge (tgt := 34) hx hb dX4_fewestToCover_14 (by decide) (fun c14 => ?_) (fun c14 => ?_)
      · replace hm := it c14 hm
        refine lv_iload_n hx hb dX4_fewestToCover_34 rfl (lv_at hl 1 rfl) ?_
        refine lv_if_lt (tgt := 55) hx hb dX4_fewestToCover_35 (by decide) (fun c35 => ?_) (fun c35 => ?_)
        · replace hm := it c35 hm
          refine lv_bipush (v := (-9)) hx hb dX4_fewestToCover_55 (by decide) ?_
          exact retIw (wf := cw q d) C hS hm dX4_fewestToCover_57
        · replace hm := ie c35 hm
          refine lv_iload_n hx hb dX4_fewestToCover_38 rfl (lv_at hl 1 rfl) ?_
          refine lv_aload_n hx hb dX4_fewestToCover_39 rfl (lv_at hl 0 rfl) ?_
          refine g_4_35_32 C hS dX4_fewestToCover_40 ?_
          refine lv_icmp_ge (tgt := 55) hx hb dX4_fewestToCover_43 (by decide) (fun c43 => ?_) (fun c43 => ?_)
          · replace hm := it c43 hm
            refine lv_bipush (v := (-9)) hx hb dX4_fewestToCover_55 (by decide) ?_
            exact retIw (wf := cw q d) C hS hm dX4_fewestToCover_57
          · replace hm := ie c43 hm
            refine lv_aload_n hx hb dX4_fewestToCover_46 rfl (lv_at hl 0 rfl) ?_
            refine g_4_15_32 C hS dX4_fewestToCover_47 ?_
            refine lv_iload_n hx hb dX4_fewestToCover_50 rfl (lv_at hl 1 rfl) ?_
            obtain ⟨v51, e51, hm⟩ := ob hm
            refine iald' C hS cw_a34 e51 dX4_fewestToCover_51 ?_
            refine lv_goto (tgt := 57) hx hb dX4_fewestToCover_52 (by decide) ?_
            exact retIw (wf := cw q d) C hS hm dX4_fewestToCover_57
      · replace hm := ie c14 hm
        refine lv_aload_n hx hb dX4_fewestToCover_17 rfl (lv_at hl 0 rfl) ?_
        refine g_4_15_32 C hS dX4_fewestToCover_18 ?_
        refine lv_iload_n hx hb dX4_fewestToCover_21 rfl (lv_at hl 2 rfl) ?_
        refine lv_aload_n hx hb dX4_fewestToCover_22 rfl (lv_at hl 0 rfl) ?_
        refine lv_iload_n hx hb dX4_fewestToCover_23 rfl (lv_at hl 2 rfl) ?_
        obtain ⟨o24, e24, hm⟩ := ob hm
        refine after_i C hS (call_V (As := [.int x2]) C hS (c_X4_fewestToCoverByLesser l d q σ x2 o24 e24 _) iv_4_55 ⟨rfl, rfl, Nat.le_of_ble_eq_true rfl, Nat.le_of_ble_eq_true rfl⟩ cw_o32 rfl rfl rfl hl.1 (Nat.le_of_ble_eq_true rfl) dX4_fewestToCover_24) (fun H locs hS => ?_)
        obtain ⟨σ27, e27, hm⟩ := ob hm
        refine iast' (wf := cw q d) C hS cw_a34 cw_s34 e27 dX4_fewestToCover_27 (fun H locs hS => ?_)
        refine lv_iinc (v := x2 + 1) (lv' := [(2, .int (x2 + 1)), (0, .ref (q 32)), (1, .int x1)]) hx hb dX4_fewestToCover_28 hl (k := 2) rfl rfl (by decide) rfl (fun ls hl => ?_)
        refine lv_goto (tgt := 9) hx hb dX4_fewestToCover_31 (by decide) ?_
        exact ih σ27 x1 (x2 + 1) _ _ _ hS (lv_sub hl [1, 2, 0] rfl) hm
  unfold M_X4_fewestToCover at hm
  refine lv_aload_n hx hb dX4_fewestToCover_0 rfl (lv_at hl 0 rfl) ?_
  refine g_4_15_32 C hS dX4_fewestToCover_1 ?_
  refine lv_iconst (v := 0) hx hb dX4_fewestToCover_4 (by decide) ?_
  refine lv_iconst (v := 0) hx hb dX4_fewestToCover_5 (by decide) ?_
  obtain ⟨σ6, e6, hm⟩ := ob hm
  refine iast' (wf := cw q d) C hS cw_a34 cw_s34 e6 dX4_fewestToCover_6 (fun H locs hS => ?_)
  refine lv_iconst (v := 1) hx hb dX4_fewestToCover_7 (by decide) ?_
  refine lv_istore_n (lv' := [(2, .int 1), (0, .ref (q 32)), (1, .int a1)]) hx hb dX4_fewestToCover_8 rfl hl (by decide) rfl (fun ls hl => ?_)
  exact L9 10000 σ6 a1 1 _ _ _ hS (lv_sub hl [1, 2, 0] rfl) hm
