def M_X4_leastThatHelps_2 (σ : ST) : Nat → Int32 → Int32 → Option Int32
  | 0, _, _ => none
  | n + 1, x1, x2 => if (σ.1 38) ≤ x2 then some (-9) else (rd 128 (σ.2.2 33) x2).bind fun v15 => if v15 = 0 then M_X4_leastThatHelps_2 σ n x1 (x2 + 1) else (rd 128 (σ.2.2 34) (x1 &&& (x2 ^^^ (-1)))).bind fun v28 => (rd 128 (σ.2.2 34) x1).bind fun v34 => if v28 = (v34 - 1) then some x2 else M_X4_leastThatHelps_2 σ n x1 (x2 + 1)
def M_X4_leastThatHelps (σ : ST) (a1 : Int32) : Option Int32 := M_X4_leastThatHelps_2 σ 10000 a1 0
abbrev rm_X4_leastThatHelps : Room := { frames := 0, cells := 0, slots := 0, locals := 0 }
set_option maxRecDepth 100000 in
set_option maxHeartbeats 4000000 in
theorem c_X4_leastThatHelps (l : Launch) (d : CD) (q : Nat → Nat) (σ : ST) (a1 : Int32) (out : Int32) (hm : M_X4_leastThatHelps σ a1 = some out) : MetI l yX4_leastThatHelps cX4_leastThatHelps 3 (some .int) rm_X4_leastThatHelps d (cw q d σ) [.ref (q 32), .int a1] out (cw q d σ) := by
  refine mkI (own := RX4) (by decide +kernel) rfl (Nat.le_of_ble_eq_true rfl) ?_
  intro p e s m below meth c A ls C hS hl
  obtain ⟨hx, hb, hml, hown, hts, -⟩ := id C
  have hl : lv_has ls 3 [(0, .ref (q 32)), (1, .int a1)] := hl
  have L2 : ∀ (n : Nat) (x1 : Int32) (x2 : Int32) (H : Heap) (locs : List Loc) (ls : Array Slot), HS d A s.heap H locs (cw q d σ) → lv_has ls 3 [(0, .ref (q 32)), (1, .int x1), (2, .int x2)] → M_X4_leastThatHelps_2 σ n x1 x2 = some out → WI p l e rm_X4_leastThatHelps s m [.ref (q 32), .int a1].toArray below meth c A d H locs out (cw q d σ) (F0 m 2 ls []) := by
    intro n
    induction n with
    | zero =>
      intro x1 x2 H locs ls hS hl hm
      exact absurd hm (by rw [M_X4_leastThatHelps_2]; exact fun h => nomatch h)
    | succ n ih =>
      intro x1 x2 H locs ls hS hl hm
      rw [M_X4_leastThatHelps_2] at hm
      refine lv_iload_n hx hb dX4_leastThatHelps_2 rfl (lv_at hl 2 rfl) ?_
      refine lv_aload_n hx hb dX4_leastThatHelps_3 rfl (lv_at hl 0 rfl) ?_
      refine g_4_35_32 C hS dX4_leastThatHelps_4 ?_
      refine lv_icmp_ge (tgt := 48) hx hb dX4_leastThatHelps_7 (by decide) (fun c7 => ?_) (fun c7 => ?_)
      · replace hm := it c7 hm
        refine lv_bipush (v := (-9)) hx hb dX4_leastThatHelps_48 (by decide) ?_
        exact retIr C hS hm dX4_leastThatHelps_50
      · replace hm := ie c7 hm
        refine lv_aload_n hx hb dX4_leastThatHelps_10 rfl (lv_at hl 0 rfl) ?_
        refine g_4_9_32 C hS dX4_leastThatHelps_11 ?_
        refine lv_iload_n hx hb dX4_leastThatHelps_14 rfl (lv_at hl 2 rfl) ?_
        obtain ⟨v15, e15, hm⟩ := ob hm
        refine zald' C hS cw_a33 e15 dX4_leastThatHelps_15 ?_
        refine lv_if_eq (tgt := 42) hx hb dX4_leastThatHelps_16 (by decide) (fun c16 => ?_) (fun c16 => ?_)
        · replace hm := it c16 hm
          refine lv_iinc (v := x2 + 1) (lv' := [(2, .int (x2 + 1)), (0, .ref (q 32)), (1, .int x1)]) hx hb dX4_leastThatHelps_42 hl (k := 2) rfl rfl (by decide) rfl (fun ls hl => ?_)
          refine lv_goto (tgt := 2) hx hb dX4_leastThatHelps_45 (by decide) ?_
          exact ih x1 (x2 + 1) _ _ _ hS (lv_sub hl [1, 2, 0] rfl) hm
        · replace hm := ie c16 hm
          refine lv_aload_n hx hb dX4_leastThatHelps_19 rfl (lv_at hl 0 rfl) ?_
          refine g_4_15_32 C hS dX4_leastThatHelps_20 ?_
          refine lv_iload_n hx hb dX4_leastThatHelps_23 rfl (lv_at hl 1 rfl) ?_
          refine lv_iload_n hx hb dX4_leastThatHelps_24 rfl (lv_at hl 2 rfl) ?_
          refine lv_iconst (v := (-1)) hx hb dX4_leastThatHelps_25 (by decide) ?_
          refine lv_ixor hx hb dX4_leastThatHelps_26 ?_
          refine lv_iand hx hb dX4_leastThatHelps_27 ?_
          obtain ⟨v28, e28, hm⟩ := ob hm
          refine iald' C hS cw_a34 e28 dX4_leastThatHelps_28 ?_
          refine lv_aload_n hx hb dX4_leastThatHelps_29 rfl (lv_at hl 0 rfl) ?_
          refine g_4_15_32 C hS dX4_leastThatHelps_30 ?_
          refine lv_iload_n hx hb dX4_leastThatHelps_33 rfl (lv_at hl 1 rfl) ?_
          obtain ⟨v34, e34, hm⟩ := ob hm
          refine iald' C hS cw_a34 e34 dX4_leastThatHelps_34 ?_
          refine lv_iconst (v := 1) hx hb dX4_leastThatHelps_35 (by decide) ?_
          refine lv_isub hx hb dX4_leastThatHelps_36 ?_
          refine lv_icmp_ne (tgt := 42) hx hb dX4_leastThatHelps_37 (by decide) (fun c37 => ?_) (fun c37 => ?_)
          · replace hm := ie c37 hm
            refine lv_iinc (v := x2 + 1) (lv' := [(2, .int (x2 + 1)), (0, .ref (q 32)), (1, .int x1)]) hx hb dX4_leastThatHelps_42 hl (k := 2) rfl rfl (by decide) rfl (fun ls hl => ?_)
            refine lv_goto (tgt := 2) hx hb dX4_leastThatHelps_45 (by decide) ?_
            exact ih x1 (x2 + 1) _ _ _ hS (lv_sub hl [1, 2, 0] rfl) hm
          · replace hm := it c37 hm
            refine lv_iload_n hx hb dX4_leastThatHelps_40 rfl (lv_at hl 2 rfl) ?_
            exact retIr C hS hm dX4_leastThatHelps_41
  unfold M_X4_leastThatHelps at hm
  refine lv_iconst (v := 0) hx hb dX4_leastThatHelps_0 (by decide) ?_
  refine lv_istore_n (lv' := [(2, .int 0), (0, .ref (q 32)), (1, .int a1)]) hx hb dX4_leastThatHelps_1 rfl hl (by decide) rfl (fun ls hl => ?_)
  exact L2 10000 a1 0 _ _ _ hS (lv_sub hl [1, 2, 0] rfl) hm
def M_X4_layCover_6 : Nat → ST → Int32 → Int32 → Int32 → Option ST
  | 0, _, _, _, _ => none
  | n + 1, σ, x3, x4, x5 => (M_X3_sizeOf_r σ x3).bind fun o10 => if o10 ≤ x5 then some σ else (M_X4_leastThatHelps σ x4).bind fun o19 => if o19 = (-9) then M_X4_layCover_6 n σ x3 x4 (x5 + 1) else (M_X3_set_r σ x3 x5 o19).bind fun o37 => M_X4_layCover_6 n o37 x3 (x4 &&& (o19 ^^^ (-1))) (x5 + 1)
def M_X4_layCover (σ : ST) (a1 : Int32) (a3 : Int32) : Option ST := M_X4_layCover_6 10000 σ a3 a1 0
abbrev rm_X4_layCover : Room := { frames := 4, cells := 0, slots := 0, locals := 87 }
set_option maxRecDepth 100000 in
set_option maxHeartbeats 4000000 in
theorem c_X4_layCover (l : Launch) (d : CD) (q : Nat → Nat) (σ : ST) (a1 : Int32) (a3 : Int32) (out : ST) (hm : M_X4_layCover σ a1 a3 = some out) : MetV l yX4_layCover cX4_layCover 7 (none) rm_X4_layCover d (cw q d σ) [.ref (q 32), .int a1, .ref (q 1), .int a3] (cw q d out) := by
  refine mkV (own := RX4) (by decide +kernel) rfl (Nat.le_of_ble_eq_true rfl) ?_
  intro p e s m below meth c A ls C hS hl
  obtain ⟨hx, hb, hml, hown, hts, -⟩ := id C
  have hl : lv_has ls 7 [(0, .ref (q 32)), (1, .int a1), (2, .ref (q 1)), (3, .int a3)] := hl
  have L6 : ∀ (n : Nat) (σ : ST) (x3 : Int32) (x4 : Int32) (x5 : Int32) (H : Heap) (locs : List Loc) (ls : Array Slot), HS d A s.heap H locs (cw q d σ) → lv_has ls 7 [(0, .ref (q 32)), (2, .ref (q 1)), (3, .int x3), (4, .int x4), (5, .int x5)] → M_X4_layCover_6 n σ x3 x4 x5 = some out → WV p l e rm_X4_layCover s m [.ref (q 32), .int a1, .ref (q 1), .int a3].toArray below meth c A d H locs (cw q d out) (F0 m 6 ls []) := by
    intro n
    induction n with
    | zero =>
      intro σ x3 x4 x5 H locs ls hS hl hm
      exact absurd hm (by rw [M_X4_layCover_6]; exact fun h => nomatch h)
    | succ n ih =>
      intro σ x3 x4 x5 H locs ls hS hl hm
      rw [M_X4_layCover_6] at hm
      refine lv_iload hx hb dX4_layCover_6 (lv_at hl 4 rfl) ?_
      refine lv_aload_n hx hb dX4_layCover_8 rfl (lv_at hl 1 rfl) ?_
      refine lv_iload_n hx hb dX4_layCover_9 rfl (lv_at hl 2 rfl) ?_
      obtain ⟨o10, e10, hm⟩ := ob hm
      refine after_i C hS (call_V (As := [.int x3]) C hS (c_X3_sizeOf_r l d q σ x3 o10 e10 _) iv_4_58 ⟨rfl, rfl, Nat.le_of_ble_eq_true rfl, Nat.le_of_ble_eq_true rfl⟩ cw_o1 rfl rfl rfl hl.1 (Nat.le_of_ble_eq_true rfl) dX4_layCover_10) (fun H locs hS => ?_)
      refine lv_icmp_ge (tgt := 55) hx hb dX4_layCover_13 (by decide) (fun c13 => ?_) (fun c13 => ?_)
      · replace hm := it c13 hm
        exact retVw (wf := cw q d) C hS hm dX4_layCover_55
      · replace hm := ie c13 hm
        refine lv_aload_n hx hb dX4_layCover_16 rfl (lv_at hl 0 rfl) ?_
        refine lv_iload hx hb dX4_layCover_17 (lv_at hl 3 rfl) ?_
        obtain ⟨o19, e19, hm⟩ := ob hm
        refine after_i C hS (call_V (As := [.int x4]) C hS (c_X4_leastThatHelps l d q σ x4 o19 e19 _) iv_4_63 ⟨rfl, rfl, Nat.le_of_ble_eq_true rfl, Nat.le_of_ble_eq_true rfl⟩ cw_o32 rfl rfl rfl hl.1 (Nat.le_of_ble_eq_true rfl) dX4_layCover_19) (fun H locs hS => ?_)
        refine lv_istore (lv' := [(6, .int o19), (0, .ref (q 32)), (2, .ref (q 1)), (3, .int x3), (4, .int x4), (5, .int x5)]) hx hb dX4_layCover_22 hl (by decide) rfl (fun ls hl => ?_)
        refine lv_iload hx hb dX4_layCover_24 (lv_at hl 0 rfl) ?_
        refine lv_bipush (v := (-9)) hx hb dX4_layCover_26 (by decide) ?_
        refine lv_icmp_eq (tgt := 49) hx hb dX4_layCover_28 (by decide) (fun c28 => ?_) (fun c28 => ?_)
        · replace hm := it c28 hm
          refine lv_iinc (v := x5 + 1) (lv' := [(5, .int (x5 + 1)), (6, .int o19), (0, .ref (q 32)), (2, .ref (q 1)), (3, .int x3), (4, .int x4)]) hx hb dX4_layCover_49 hl (k := 5) rfl rfl (by decide) rfl (fun ls hl => ?_)
          refine lv_goto (tgt := 6) hx hb dX4_layCover_52 (by decide) ?_
          exact ih σ x3 x4 (x5 + 1) _ _ _ hS (lv_sub hl [2, 3, 4, 5, 0] rfl) hm
        · replace hm := ie c28 hm
          refine lv_aload_n hx hb dX4_layCover_31 rfl (lv_at hl 2 rfl) ?_
          refine lv_iload_n hx hb dX4_layCover_32 rfl (lv_at hl 3 rfl) ?_
          refine lv_iload hx hb dX4_layCover_33 (lv_at hl 5 rfl) ?_
          refine lv_iload hx hb dX4_layCover_35 (lv_at hl 0 rfl) ?_
          obtain ⟨o37, e37, hm⟩ := ob hm
          refine after_v C hS (call_V (As := [.int x3, .int x5, .int o19]) C hS (c_X3_set_r l d q σ x3 x5 o19 o37 e37 _) iv_4_66 ⟨rfl, rfl, Nat.le_of_ble_eq_true rfl, Nat.le_of_ble_eq_true rfl⟩ cw_o1 rfl rfl rfl hl.1 (Nat.le_of_ble_eq_true rfl) dX4_layCover_37) (fun H locs hS => ?_)
          refine lv_iload hx hb dX4_layCover_40 (lv_at hl 4 rfl) ?_
          refine lv_iload hx hb dX4_layCover_42 (lv_at hl 0 rfl) ?_
          refine lv_iconst (v := (-1)) hx hb dX4_layCover_44 (by decide) ?_
          refine lv_ixor hx hb dX4_layCover_45 ?_
          refine lv_iand hx hb dX4_layCover_46 ?_
          refine lv_istore (lv' := [(4, .int (x4 &&& (o19 ^^^ (-1)))), (6, .int o19), (0, .ref (q 32)), (2, .ref (q 1)), (3, .int x3), (5, .int x5)]) hx hb dX4_layCover_47 hl (by decide) rfl (fun ls hl => ?_)
          refine lv_iinc (v := x5 + 1) (lv' := [(5, .int (x5 + 1)), (4, .int (x4 &&& (o19 ^^^ (-1)))), (6, .int o19), (0, .ref (q 32)), (2, .ref (q 1)), (3, .int x3)]) hx hb dX4_layCover_49 hl (k := 5) rfl rfl (by decide) rfl (fun ls hl => ?_)
          refine lv_goto (tgt := 6) hx hb dX4_layCover_52 (by decide) ?_
          exact ih o37 x3 (x4 &&& (o19 ^^^ (-1))) (x5 + 1) _ _ _ hS (lv_sub hl [3, 4, 5, 1, 0] rfl) hm
  unfold M_X4_layCover at hm
  refine lv_iload_n hx hb dX4_layCover_0 rfl (lv_at hl 1 rfl) ?_
  refine lv_istore (lv' := [(4, .int a1), (0, .ref (q 32)), (1, .int a1), (2, .ref (q 1)), (3, .int a3)]) hx hb dX4_layCover_1 hl (by decide) rfl (fun ls hl => ?_)
  refine lv_iconst (v := 0) hx hb dX4_layCover_3 (by decide) ?_
  refine lv_istore (lv' := [(5, .int 0), (4, .int a1), (0, .ref (q 32)), (1, .int a1), (2, .ref (q 1)), (3, .int a3)]) hx hb dX4_layCover_4 hl (by decide) rfl (fun ls hl => ?_)
  exact L6 10000 σ a3 a1 0 _ _ _ hS (lv_sub hl [2, 4, 5, 1, 0] rfl) hm
def M_X6_drink (σ : ST) (a1 : Int32) : Option (Int32 × ST) := (M_X3_isNumber_r σ a1).bind fun o5 => if o5 = 0 then some ((-1), σ) else (M_X5_houses σ).bind fun o17 => if o17 = 0 then some ((-4), σ) else (M_X4_look σ).bind fun o30 => (M_X5_thirsty o30).bind fun o37 => (M_X4_fewestToCover o30 o37).bind fun o46 => if o46.1 = (-9) then some (o46.1, o46.2) else (M_X3_make_r o46.2 a1 o46.1 0).bind fun o63 => (M_X4_layCover o63 o37 a1).bind fun o76 => some (o46.1, o76)
abbrev rm_X6_drink : Room := { frames := 5, cells := 0, slots := 0, locals := 113 }
set_option maxRecDepth 100000 in
set_option maxHeartbeats 4000000 in
theorem c_X6_drink (l : Launch) (d : CD) (q : Nat → Nat) (σ : ST) (a1 : Int32) (out : Int32 × ST) (hm : M_X6_drink σ a1 = some out) : MetI l yX6_drink cX6_drink 4 (some .int) rm_X6_drink d (cw q d σ) [.ref (q 0), .int a1] out.1 (cw q d out.2) := by
  refine mkI (own := RX6) (by decide +kernel) rfl (Nat.le_of_ble_eq_true rfl) ?_
  intro p e s m below meth c A ls C hS hl
  obtain ⟨hx, hb, hml, hown, hts, -⟩ := id C
  have hl : lv_has ls 4 [(0, .ref (q 0)), (1, .int a1)] := hl
  unfold M_X6_drink at hm
  refine lv_aload_n hx hb dX6_drink_0 rfl (lv_at hl 0 rfl) ?_
  refine g_6_14_0 C hS dX6_drink_1 ?_
  refine lv_iload_n hx hb dX6_drink_4 rfl (lv_at hl 1 rfl) ?_
  obtain ⟨o5, e5, hm⟩ := ob hm
  refine after_i C hS (call_V (As := [.int a1]) C hS (c_X3_isNumber_r l d q σ a1 o5 e5 _) iv_6_96 ⟨rfl, rfl, Nat.le_of_ble_eq_true rfl, Nat.le_of_ble_eq_true rfl⟩ cw_o1 rfl rfl rfl hl.1 (Nat.le_of_ble_eq_true rfl) dX6_drink_5) (fun H locs hS => ?_)
  refine lv_if_ne (tgt := 13) hx hb dX6_drink_8 (by decide) (fun c8 => ?_) (fun c8 => ?_)
  · replace hm := ie c8 hm
    refine lv_aload_n hx hb dX6_drink_13 rfl (lv_at hl 0 rfl) ?_
    refine g_6_33_0 C hS dX6_drink_14 ?_
    obtain ⟨o17, e17, hm⟩ := ob hm
    refine after_i C hS (call_V (As := []) C hS (c_X5_houses l d q σ o17 e17 _) iv_6_140 ⟨rfl, rfl, Nat.le_of_ble_eq_true rfl, Nat.le_of_ble_eq_true rfl⟩ cw_o22 rfl rfl rfl hl.1 (Nat.le_of_ble_eq_true rfl) dX6_drink_17) (fun H locs hS => ?_)
    refine lv_if_ne (tgt := 26) hx hb dX6_drink_20 (by decide) (fun c20 => ?_) (fun c20 => ?_)
    · replace hm := ie c20 hm
      refine lv_aload_n hx hb dX6_drink_26 rfl (lv_at hl 0 rfl) ?_
      refine g_6_42_0 C hS dX6_drink_27 ?_
      obtain ⟨o30, e30, hm⟩ := ob hm
      refine after_v C hS (call_V (As := []) C hS (c_X4_look l d q σ o30 e30 _) iv_6_203 ⟨rfl, rfl, Nat.le_of_ble_eq_true rfl, Nat.le_of_ble_eq_true rfl⟩ cw_o32 rfl rfl rfl hl.1 (Nat.le_of_ble_eq_true rfl) dX6_drink_30) (fun H locs hS => ?_)
      refine lv_aload_n hx hb dX6_drink_33 rfl (lv_at hl 0 rfl) ?_
      refine g_6_33_0 C hS dX6_drink_34 ?_
      obtain ⟨o37, e37, hm⟩ := ob hm
      refine after_i C hS (call_V (As := []) C hS (c_X5_thirsty l d q o30 o37 e37 _) iv_6_231 ⟨rfl, rfl, Nat.le_of_ble_eq_true rfl, Nat.le_of_ble_eq_true rfl⟩ cw_o22 rfl rfl rfl hl.1 (Nat.le_of_ble_eq_true rfl) dX6_drink_37) (fun H locs hS => ?_)
      refine lv_istore_n (lv' := [(2, .int o37), (0, .ref (q 0)), (1, .int a1)]) hx hb dX6_drink_40 rfl hl (by decide) rfl (fun ls hl => ?_)
      refine lv_aload_n hx hb dX6_drink_41 rfl (lv_at hl 1 rfl) ?_
      refine g_6_42_0 C hS dX6_drink_42 ?_
      refine lv_iload_n hx hb dX6_drink_45 rfl (lv_at hl 0 rfl) ?_
      obtain ⟨o46, e46, hm⟩ := ob hm
      refine after_i C hS (call_V (As := [.int o37]) C hS (c_X4_fewestToCover l d q o30 o37 o46 e46 _) iv_6_234 ⟨rfl, rfl, Nat.le_of_ble_eq_true rfl, Nat.le_of_ble_eq_true rfl⟩ cw_o32 rfl rfl rfl hl.1 (Nat.le_of_ble_eq_true rfl) dX6_drink_46) (fun H locs hS => ?_)
      refine lv_istore_n (lv' := [(3, .int o46.1), (2, .int o37), (0, .ref (q 0)), (1, .int a1)]) hx hb dX6_drink_49 rfl hl (by decide) rfl (fun ls hl => ?_)
      refine lv_iload_n hx hb dX6_drink_50 rfl (lv_at hl 0 rfl) ?_
      refine lv_bipush (v := (-9)) hx hb dX6_drink_51 (by decide) ?_
      refine lv_icmp_eq (tgt := 79) hx hb dX6_drink_53 (by decide) (fun c53 => ?_) (fun c53 => ?_)
      · replace hm := it c53 hm
        refine lv_iload_n hx hb dX6_drink_79 rfl (lv_at hl 0 rfl) ?_
        exact retIw (wf := cw q d) C hS hm dX6_drink_80
      · replace hm := ie c53 hm
        refine lv_aload_n hx hb dX6_drink_56 rfl (lv_at hl 2 rfl) ?_
        refine g_6_14_0 C hS dX6_drink_57 ?_
        refine lv_iload_n hx hb dX6_drink_60 rfl (lv_at hl 3 rfl) ?_
        refine lv_iload_n hx hb dX6_drink_61 rfl (lv_at hl 0 rfl) ?_
        refine lv_iconst (v := 0) hx hb dX6_drink_62 (by decide) ?_
        obtain ⟨o63, e63, hm⟩ := ob hm
        refine after_v C hS (call_V (As := [.int a1, .int o46.1, .int 0]) C hS (c_X3_make_r l d q o46.2 a1 o46.1 0 o63 e63 _) iv_6_237 ⟨rfl, rfl, Nat.le_of_ble_eq_true rfl, Nat.le_of_ble_eq_true rfl⟩ cw_o1 rfl rfl rfl hl.1 (Nat.le_of_ble_eq_true rfl) dX6_drink_63) (fun H locs hS => ?_)
        refine lv_aload_n hx hb dX6_drink_66 rfl (lv_at hl 2 rfl) ?_
        refine g_6_42_0 C hS dX6_drink_67 ?_
        refine lv_iload_n hx hb dX6_drink_70 rfl (lv_at hl 1 rfl) ?_
        refine lv_aload_n hx hb dX6_drink_71 rfl (lv_at hl 2 rfl) ?_
        refine g_6_14_0 C hS dX6_drink_72 ?_
        refine lv_iload_n hx hb dX6_drink_75 rfl (lv_at hl 3 rfl) ?_
        obtain ⟨o76, e76, hm⟩ := ob hm
        refine after_v C hS (call_V (As := [.int o37, .ref (q 1), .int a1]) C hS (c_X4_layCover l d q o63 o37 a1 o76 e76 _) iv_6_240 ⟨rfl, rfl, Nat.le_of_ble_eq_true rfl, Nat.le_of_ble_eq_true rfl⟩ cw_o32 rfl rfl rfl hl.1 (Nat.le_of_ble_eq_true rfl) dX6_drink_76) (fun H locs hS => ?_)
        refine lv_iload_n hx hb dX6_drink_79 rfl (lv_at hl 0 rfl) ?_
        exact retIw (wf := cw q d) C hS hm dX6_drink_80
    · replace hm := it c20 hm
      refine lv_bipush (v := (-4)) hx hb dX6_drink_23 (by decide) ?_
      exact retIw (wf := cw q d) C hS hm dX6_drink_25
  · replace hm := it c8 hm
    refine lv_iconst (v := (-1)) hx hb dX6_drink_11 (by decide) ?_
    exact retIw (wf := cw q d) C hS hm dX6_drink_12
def M_X5_mostServed_18 (σ : ST) (k8 : Int32 → Int32 → Int32 → Int32 → Option Int32) : Nat → Int32 → Int32 → Int32 → Int32 → Int32 → Option Int32
  | 0, _, _, _, _, _ => none
  | n + 1, x1, x3, x4, x5, x6 => if (σ.1 33) ≤ x6 then k8 x1 x3 x4 (x5 + 1) else (M_X6_isIn x6 x1).bind fun o33 => if o33 = 0 then M_X5_mostServed_18 σ k8 n x1 x3 x4 x5 (x6 + 1) else (M_X5_wantsYet σ x6).bind fun o42 => if o42 = x5 then if x3 < x5 then M_X5_mostServed_18 σ k8 n x1 x3 x4 x5 (x6 + 1) else M_X5_mostServed_18 σ k8 n x1 (x3 - x5) (x4 + 1) x5 (x6 + 1) else M_X5_mostServed_18 σ k8 n x1 x3 x4 x5 (x6 + 1)
def M_X5_mostServed_8 (σ : ST) : Nat → Int32 → Int32 → Int32 → Int32 → Option Int32
  | 0, _, _, _, _ => none
  | n + 1, x1, x3, x4, x5 => if 9 < x5 then some x4 else M_X5_mostServed_18 σ (M_X5_mostServed_8 σ n) 10000 x1 x3 x4 x5 0
def M_X5_mostServed (σ : ST) (a1 : Int32) (a2 : Int32) : Option Int32 := M_X5_mostServed_8 σ 10000 a1 a2 0 1
abbrev rm_X5_mostServed : Room := { frames := 2, cells := 0, slots := 0, locals := 42 }
set_option maxRecDepth 100000 in
set_option maxHeartbeats 4000000 in
theorem c_X5_mostServed (l : Launch) (d : CD) (q : Nat → Nat) (σ : ST) (a1 : Int32) (a2 : Int32) (out : Int32) (hm : M_X5_mostServed σ a1 a2 = some out) : MetI l yX5_mostServed cX5_mostServed 7 (some .int) rm_X5_mostServed d (cw q d σ) [.ref (q 22), .int a1, .int a2] out (cw q d σ) := by
  refine mkI (own := RX5) (by decide +kernel) rfl (Nat.le_of_ble_eq_true rfl) ?_
  intro p e s m below meth c A ls C hS hl
  obtain ⟨hx, hb, hml, hown, hts, -⟩ := id C
  have hl : lv_has ls 7 [(0, .ref (q 22)), (1, .int a1), (2, .int a2)] := hl
  have L18 : ∀ (k8 : Int32 → Int32 → Int32 → Int32 → Option Int32) (hk8 : ∀ (x1 : Int32) (x3 : Int32) (x4 : Int32) (x5 : Int32) (H : Heap) (locs : List Loc) (ls : Array Slot), HS d A s.heap H locs (cw q d σ) → lv_has ls 7 [(0, .ref (q 22)), (1, .int x1), (3, .int x3), (4, .int x4), (5, .int x5)] → k8 x1 x3 x4 x5 = some out → WI p l e rm_X5_mostServed s m [.ref (q 22), .int a1, .int a2].toArray below meth c A d H locs out (cw q d σ) (F0 m 8 ls [])) (n : Nat) (x1 : Int32) (x3 : Int32) (x4 : Int32) (x5 : Int32) (x6 : Int32) (H : Heap) (locs : List Loc) (ls : Array Slot), HS d A s.heap H locs (cw q d σ) → lv_has ls 7 [(0, .ref (q 22)), (1, .int x1), (3, .int x3), (4, .int x4), (5, .int x5), (6, .int x6)] → M_X5_mostServed_18 σ k8 n x1 x3 x4 x5 x6 = some out → WI p l e rm_X5_mostServed s m [.ref (q 22), .int a1, .int a2].toArray below meth c A d H locs out (cw q d σ) (F0 m 18 ls []) := by
    intro k8 hk8 n
    induction n with
    | zero =>
      intro x1 x3 x4 x5 x6 H locs ls hS hl hm
      exact absurd hm (by rw [M_X5_mostServed_18]; exact fun h => nomatch h)
    | succ n ih =>
      intro x1 x3 x4 x5 x6 H locs ls hS hl hm
      rw [M_X5_mostServed_18] at hm
      refine lv_iload hx hb dX5_mostServed_18 (lv_at hl 5 rfl) ?_
      refine lv_aload_n hx hb dX5_mostServed_20 rfl (lv_at hl 0 rfl) ?_
      refine g_5_12_22 C hS dX5_mostServed_21 ?_
      refine g_5_95_23 C hS dX5_mostServed_24 ?_
      refine lv_icmp_ge (tgt := 70) hx hb dX5_mostServed_27 (by decide) (fun c27 => ?_) (fun c27 => ?_)
      · replace hm := it c27 hm
        refine lv_iinc (v := x5 + 1) (lv' := [(5, .int (x5 + 1)), (0, .ref (q 22)), (1, .int x1), (3, .int x3), (4, .int x4), (6, .int x6)]) hx hb dX5_mostServed_70 hl (k := 4) rfl rfl (by decide) rfl (fun ls hl => ?_)
        refine lv_goto (tgt := 8) hx hb dX5_mostServed_73 (by decide) ?_
        exact hk8 x1 x3 x4 (x5 + 1) _ _ _ hS (lv_sub hl [1, 2, 3, 4, 0] rfl) hm
      · replace hm := ie c27 hm
        refine lv_iload hx hb dX5_mostServed_30 (lv_at hl 5 rfl) ?_
        refine lv_iload_n hx hb dX5_mostServed_32 rfl (lv_at hl 1 rfl) ?_
        obtain ⟨o33, e33, hm⟩ := ob hm
        refine after_i C hS (call_N (As := [.int x6, .int x1]) C hS (c_X6_isIn l d (cw q d σ) x6 x1 o33 e33 _) is_5_109 ⟨rfl, rfl, Nat.le_of_ble_eq_true rfl, Nat.le_of_ble_eq_true rfl⟩ rfl hl.1 (Nat.le_of_ble_eq_true rfl) dX5_mostServed_33) (fun H locs hS => ?_)
        refine lv_if_eq (tgt := 64) hx hb dX5_mostServed_36 (by decide) (fun c36 => ?_) (fun c36 => ?_)
        · replace hm := it c36 hm
          refine lv_iinc (v := x6 + 1) (lv' := [(6, .int (x6 + 1)), (0, .ref (q 22)), (1, .int x1), (3, .int x3), (4, .int x4), (5, .int x5)]) hx hb dX5_mostServed_64 hl (k := 5) rfl rfl (by decide) rfl (fun ls hl => ?_)
          refine lv_goto (tgt := 18) hx hb dX5_mostServed_67 (by decide) ?_
          exact ih x1 x3 x4 x5 (x6 + 1) _ _ _ hS (lv_sub hl [1, 2, 3, 4, 5, 0] rfl) hm
        · replace hm := ie c36 hm
          refine lv_aload_n hx hb dX5_mostServed_39 rfl (lv_at hl 0 rfl) ?_
          refine lv_iload hx hb dX5_mostServed_40 (lv_at hl 5 rfl) ?_
          obtain ⟨o42, e42, hm⟩ := ob hm
          refine after_i C hS (call_V (As := [.int x6]) C hS (c_X5_wantsYet l d q σ x6 o42 e42 _) iv_5_77 ⟨rfl, rfl, Nat.le_of_ble_eq_true rfl, Nat.le_of_ble_eq_true rfl⟩ cw_o22 rfl rfl rfl hl.1 (Nat.le_of_ble_eq_true rfl) dX5_mostServed_42) (fun H locs hS => ?_)
          refine lv_iload hx hb dX5_mostServed_45 (lv_at hl 4 rfl) ?_
          refine lv_icmp_ne (tgt := 64) hx hb dX5_mostServed_47 (by decide) (fun c47 => ?_) (fun c47 => ?_)
          · replace hm := ie c47 hm
            refine lv_iinc (v := x6 + 1) (lv' := [(6, .int (x6 + 1)), (0, .ref (q 22)), (1, .int x1), (3, .int x3), (4, .int x4), (5, .int x5)]) hx hb dX5_mostServed_64 hl (k := 5) rfl rfl (by decide) rfl (fun ls hl => ?_)
            refine lv_goto (tgt := 18) hx hb dX5_mostServed_67 (by decide) ?_
            exact ih x1 x3 x4 x5 (x6 + 1) _ _ _ hS (lv_sub hl [1, 2, 3, 4, 5, 0] rfl) hm
          · replace hm := it c47 hm
            refine lv_iload hx hb dX5_mostServed_50 (lv_at hl 4 rfl) ?_
            refine lv_iload_n hx hb dX5_mostServed_52 rfl (lv_at hl 2 rfl) ?_
            refine lv_icmp_gt (tgt := 64) hx hb dX5_mostServed_53 (by decide) (fun c53 => ?_) (fun c53 => ?_)
            · replace hm := it c53 hm
              refine lv_iinc (v := x6 + 1) (lv' := [(6, .int (x6 + 1)), (0, .ref (q 22)), (1, .int x1), (3, .int x3), (4, .int x4), (5, .int x5)]) hx hb dX5_mostServed_64 hl (k := 5) rfl rfl (by decide) rfl (fun ls hl => ?_)
              refine lv_goto (tgt := 18) hx hb dX5_mostServed_67 (by decide) ?_
              exact ih x1 x3 x4 x5 (x6 + 1) _ _ _ hS (lv_sub hl [1, 2, 3, 4, 5, 0] rfl) hm
            · replace hm := ie c53 hm
              refine lv_iload_n hx hb dX5_mostServed_56 rfl (lv_at hl 2 rfl) ?_
              refine lv_iload hx hb dX5_mostServed_57 (lv_at hl 4 rfl) ?_
              refine lv_isub hx hb dX5_mostServed_59 ?_
              refine lv_istore_n (lv' := [(3, .int (x3 - x5)), (0, .ref (q 22)), (1, .int x1), (4, .int x4), (5, .int x5), (6, .int x6)]) hx hb dX5_mostServed_60 rfl hl (by decide) rfl (fun ls hl => ?_)
              refine lv_iinc (v := x4 + 1) (lv' := [(4, .int (x4 + 1)), (3, .int (x3 - x5)), (0, .ref (q 22)), (1, .int x1), (5, .int x5), (6, .int x6)]) hx hb dX5_mostServed_61 hl (k := 3) rfl rfl (by decide) rfl (fun ls hl => ?_)
              refine lv_iinc (v := x6 + 1) (lv' := [(6, .int (x6 + 1)), (4, .int (x4 + 1)), (3, .int (x3 - x5)), (0, .ref (q 22)), (1, .int x1), (5, .int x5)]) hx hb dX5_mostServed_64 hl (k := 5) rfl rfl (by decide) rfl (fun ls hl => ?_)
              refine lv_goto (tgt := 18) hx hb dX5_mostServed_67 (by decide) ?_
              exact ih x1 (x3 - x5) (x4 + 1) x5 (x6 + 1) _ _ _ hS (lv_sub hl [3, 4, 2, 1, 5, 0] rfl) hm
  have L8 : ∀ (n : Nat) (x1 : Int32) (x3 : Int32) (x4 : Int32) (x5 : Int32) (H : Heap) (locs : List Loc) (ls : Array Slot), HS d A s.heap H locs (cw q d σ) → lv_has ls 7 [(0, .ref (q 22)), (1, .int x1), (3, .int x3), (4, .int x4), (5, .int x5)] → M_X5_mostServed_8 σ n x1 x3 x4 x5 = some out → WI p l e rm_X5_mostServed s m [.ref (q 22), .int a1, .int a2].toArray below meth c A d H locs out (cw q d σ) (F0 m 8 ls []) := by
    intro n
    induction n with
    | zero =>
      intro x1 x3 x4 x5 H locs ls hS hl hm
      exact absurd hm (by rw [M_X5_mostServed_8]; exact fun h => nomatch h)
    | succ n ih =>
      intro x1 x3 x4 x5 H locs ls hS hl hm
      rw [M_X5_mostServed_8] at hm
      refine lv_iload hx hb dX5_mostServed_8 (lv_at hl 4 rfl) ?_
      refine lv_bipush (v := 9) hx hb dX5_mostServed_10 (by decide) ?_
      refine lv_icmp_gt (tgt := 76) hx hb dX5_mostServed_12 (by decide) (fun c12 => ?_) (fun c12 => ?_)
      · replace hm := it c12 hm
        refine lv_iload hx hb dX5_mostServed_76 (lv_at hl 3 rfl) ?_
        exact retIr C hS hm dX5_mostServed_78
      · replace hm := ie c12 hm
        refine lv_iconst (v := 0) hx hb dX5_mostServed_15 (by decide) ?_
        refine lv_istore (lv' := [(6, .int 0), (0, .ref (q 22)), (1, .int x1), (3, .int x3), (4, .int x4), (5, .int x5)]) hx hb dX5_mostServed_16 hl (by decide) rfl (fun ls hl => ?_)
        exact L18 (M_X5_mostServed_8 σ n) ih 10000 x1 x3 x4 x5 0 _ _ _ hS (lv_sub hl [1, 2, 3, 4, 5, 0] rfl) hm
  unfold M_X5_mostServed at hm
  refine lv_iload_n hx hb dX5_mostServed_0 rfl (lv_at hl 2 rfl) ?_
  refine lv_istore_n (lv' := [(3, .int a2), (0, .ref (q 22)), (1, .int a1), (2, .int a2)]) hx hb dX5_mostServed_1 rfl hl (by decide) rfl (fun ls hl => ?_)
  refine lv_iconst (v := 0) hx hb dX5_mostServed_2 (by decide) ?_
  refine lv_istore (lv' := [(4, .int 0), (3, .int a2), (0, .ref (q 22)), (1, .int a1), (2, .int a2)]) hx hb dX5_mostServed_3 hl (by decide) rfl (fun ls hl => ?_)
  refine lv_iconst (v := 1) hx hb dX5_mostServed_5 (by decide) ?_
  refine lv_istore (lv' := [(5, .int 1), (4, .int 0), (3, .int a2), (0, .ref (q 22)), (1, .int a1), (2, .int a2)]) hx hb dX5_mostServed_6 hl (by decide) rfl (fun ls hl => ?_)
  exact L8 10000 a1 a2 0 1 _ _ _ hS (lv_sub hl [3, 4, 2, 1, 0] rfl) hm
def M_X5_nextBest_55 (σ : ST) (k10 : Int32 → Int32 → Int32 → Int32 → Option Int32) (x1 : Int32) (x2 : Int32) (x3 : Int32) (x4 : Int32) (x5 : Int32) (y0 : Int32) : Option Int32 := (M_X5_mostServed σ (x1 &&& (((1 : Int32) <<< (x4 &&& 31)) ^^^ (-1))) (x2 - (if x2 < x5 then x2 else x5))).bind fun o74 => if (y0 + o74) = x3 then some x4 else k10 x1 x2 x3 (x4 + 1)
def M_X5_nextBest_54 (σ : ST) (k10 : Int32 → Int32 → Int32 → Int32 → Option Int32) (x1 : Int32) (x2 : Int32) (x3 : Int32) (x4 : Int32) (x5 : Int32) : Option Int32 := M_X5_nextBest_55 σ k10 x1 x2 x3 x4 x5 0
def M_X5_nextBest_10 (σ : ST) : Nat → Int32 → Int32 → Int32 → Int32 → Option Int32
  | 0, _, _, _, _ => none
  | n + 1, x1, x2, x3, x4 => if (σ.1 33) ≤ x4 then some (-9) else (M_X6_isIn x4 x1).bind fun o25 => if o25 = 0 then M_X5_nextBest_10 σ n x1 x2 x3 (x4 + 1) else (M_X5_wantsYet σ x4).bind fun o34 => if o34 ≤ 0 then M_X5_nextBest_54 σ (M_X5_nextBest_10 σ n) x1 x2 x3 x4 o34 else if x2 < o34 then M_X5_nextBest_54 σ (M_X5_nextBest_10 σ n) x1 x2 x3 x4 o34 else M_X5_nextBest_55 σ (M_X5_nextBest_10 σ n) x1 x2 x3 x4 o34 1
def M_X5_nextBest (σ : ST) (a1 : Int32) (a2 : Int32) : Option Int32 := (M_X5_mostServed σ a1 a2).bind fun o3 => M_X5_nextBest_10 σ 10000 a1 a2 o3 0
abbrev rm_X5_nextBest : Room := { frames := 3, cells := 0, slots := 0, locals := 68 }
set_option maxRecDepth 100000 in
set_option maxHeartbeats 4000000 in
theorem c_X5_nextBest (l : Launch) (d : CD) (q : Nat → Nat) (σ : ST) (a1 : Int32) (a2 : Int32) (out : Int32) (hm : M_X5_nextBest σ a1 a2 = some out) : MetI l yX5_nextBest cX5_nextBest 8 (some .int) rm_X5_nextBest d (cw q d σ) [.ref (q 22), .int a1, .int a2] out (cw q d σ) := by
  refine mkI (own := RX5) (by decide +kernel) rfl (Nat.le_of_ble_eq_true rfl) ?_
  intro p e s m below meth c A ls C hS hl
  obtain ⟨hx, hb, hml, hown, hts, -⟩ := id C
  have hl : lv_has ls 8 [(0, .ref (q 22)), (1, .int a1), (2, .int a2)] := hl
  have J55 : ∀ (k10 : Int32 → Int32 → Int32 → Int32 → Option Int32) (hk10 : ∀ (x1 : Int32) (x2 : Int32) (x3 : Int32) (x4 : Int32) (H : Heap) (locs : List Loc) (ls : Array Slot), HS d A s.heap H locs (cw q d σ) → lv_has ls 8 [(0, .ref (q 22)), (1, .int x1), (2, .int x2), (3, .int x3), (4, .int x4)] → k10 x1 x2 x3 x4 = some out → WI p l e rm_X5_nextBest s m [.ref (q 22), .int a1, .int a2].toArray below meth c A d H locs out (cw q d σ) (F0 m 10 ls [])) (x1 : Int32) (x2 : Int32) (x3 : Int32) (x4 : Int32) (x5 : Int32) (y0 : Int32) (H : Heap) (locs : List Loc) (ls : Array Slot), HS d A s.heap H locs (cw q d σ) → lv_has ls 8 [(0, .ref (q 22)), (1, .int x1), (2, .int x2), (3, .int x3), (4, .int x4), (5, .int x5)] → M_X5_nextBest_55 σ k10 x1 x2 x3 x4 x5 y0 = some out → WI p l e rm_X5_nextBest s m [.ref (q 22), .int a1, .int a2].toArray below meth c A d H locs out (cw q d σ) (F0 m 55 ls [.int y0]) := by
    intro k10 hk10 x1 x2 x3 x4 x5 y0 H locs ls hS hl hm
    unfold M_X5_nextBest_55 at hm
    refine lv_istore (lv' := [(6, .int y0), (0, .ref (q 22)), (1, .int x1), (2, .int x2), (3, .int x3), (4, .int x4), (5, .int x5)]) hx hb dX5_nextBest_55 hl (by decide) rfl (fun ls hl => ?_)
    refine lv_aload_n hx hb dX5_nextBest_57 rfl (lv_at hl 1 rfl) ?_
    refine lv_iload_n hx hb dX5_nextBest_58 rfl (lv_at hl 2 rfl) ?_
    refine lv_iconst (v := 1) hx hb dX5_nextBest_59 (by decide) ?_
    refine lv_iload hx hb dX5_nextBest_60 (lv_at hl 5 rfl) ?_
    refine lv_ishl hx hb dX5_nextBest_62 ?_
    refine lv_iconst (v := (-1)) hx hb dX5_nextBest_63 (by decide) ?_
    refine lv_ixor hx hb dX5_nextBest_64 ?_
    refine lv_iand hx hb dX5_nextBest_65 ?_
    refine lv_iload_n hx hb dX5_nextBest_66 rfl (lv_at hl 3 rfl) ?_
    refine lv_iload hx hb dX5_nextBest_67 (lv_at hl 6 rfl) ?_
    refine lv_iload_n hx hb dX5_nextBest_69 rfl (lv_at hl 3 rfl) ?_
    refine mmin' C hl.1 mm_X5_80 ⟨Nat.le_of_ble_eq_true rfl, Nat.le_of_ble_eq_true rfl⟩ (Nat.le_of_ble_eq_true rfl) dX5_nextBest_70 ?_
    refine lv_isub hx hb dX5_nextBest_73 ?_
    obtain ⟨o74, e74, hm⟩ := ob hm
    refine after_i C hS (call_V (As := [.int (x1 &&& (((1 : Int32) <<< (x4 &&& 31)) ^^^ (-1))), .int (x2 - (if x2 < x5 then x2 else x5))]) C hS (c_X5_mostServed l d q σ (x1 &&& (((1 : Int32) <<< (x4 &&& 31)) ^^^ (-1))) (x2 - (if x2 < x5 then x2 else x5)) o74 e74 _) iv_5_167 ⟨rfl, rfl, Nat.le_of_ble_eq_true rfl, Nat.le_of_ble_eq_true rfl⟩ cw_o22 rfl rfl rfl hl.1 (Nat.le_of_ble_eq_true rfl) dX5_nextBest_74) (fun H locs hS => ?_)
    refine lv_istore (lv' := [(7, .int o74), (6, .int y0), (0, .ref (q 22)), (1, .int x1), (2, .int x2), (3, .int x3), (4, .int x4), (5, .int x5)]) hx hb dX5_nextBest_77 hl (by decide) rfl (fun ls hl => ?_)
    refine lv_iload hx hb dX5_nextBest_79 (lv_at hl 1 rfl) ?_
    refine lv_iload hx hb dX5_nextBest_81 (lv_at hl 0 rfl) ?_
    refine lv_iadd hx hb dX5_nextBest_83 ?_
    refine lv_iload_n hx hb dX5_nextBest_84 rfl (lv_at hl 5 rfl) ?_
    refine lv_icmp_ne (tgt := 91) hx hb dX5_nextBest_85 (by decide) (fun c85 => ?_) (fun c85 => ?_)
    · replace hm := ie c85 hm
      refine lv_iinc (v := x4 + 1) (lv' := [(4, .int (x4 + 1)), (7, .int o74), (6, .int y0), (0, .ref (q 22)), (1, .int x1), (2, .int x2), (3, .int x3), (5, .int x5)]) hx hb dX5_nextBest_91 hl (k := 6) rfl rfl (by decide) rfl (fun ls hl => ?_)
      refine lv_goto (tgt := 10) hx hb dX5_nextBest_94 (by decide) ?_
      exact hk10 x1 x2 x3 (x4 + 1) _ _ _ hS (lv_sub hl [3, 4, 5, 6, 0] rfl) hm
    · replace hm := it c85 hm
      refine lv_iload hx hb dX5_nextBest_88 (lv_at hl 6 rfl) ?_
      exact retIr C hS hm dX5_nextBest_90
  have J54 : ∀ (k10 : Int32 → Int32 → Int32 → Int32 → Option Int32) (hk10 : ∀ (x1 : Int32) (x2 : Int32) (x3 : Int32) (x4 : Int32) (H : Heap) (locs : List Loc) (ls : Array Slot), HS d A s.heap H locs (cw q d σ) → lv_has ls 8 [(0, .ref (q 22)), (1, .int x1), (2, .int x2), (3, .int x3), (4, .int x4)] → k10 x1 x2 x3 x4 = some out → WI p l e rm_X5_nextBest s m [.ref (q 22), .int a1, .int a2].toArray below meth c A d H locs out (cw q d σ) (F0 m 10 ls [])) (x1 : Int32) (x2 : Int32) (x3 : Int32) (x4 : Int32) (x5 : Int32) (H : Heap) (locs : List Loc) (ls : Array Slot), HS d A s.heap H locs (cw q d σ) → lv_has ls 8 [(0, .ref (q 22)), (1, .int x1), (2, .int x2), (3, .int x3), (4, .int x4), (5, .int x5)] → M_X5_nextBest_54 σ k10 x1 x2 x3 x4 x5 = some out → WI p l e rm_X5_nextBest s m [.ref (q 22), .int a1, .int a2].toArray below meth c A d H locs out (cw q d σ) (F0 m 54 ls []) := by
    intro k10 hk10 x1 x2 x3 x4 x5 H locs ls hS hl hm
    unfold M_X5_nextBest_54 at hm
    refine lv_iconst (v := 0) hx hb dX5_nextBest_54 (by decide) ?_
    exact J55 k10 hk10 x1 x2 x3 x4 x5 0 _ _ _ hS (lv_sub hl [0, 1, 2, 3, 4, 5] rfl) hm
  have L10 : ∀ (n : Nat) (x1 : Int32) (x2 : Int32) (x3 : Int32) (x4 : Int32) (H : Heap) (locs : List Loc) (ls : Array Slot), HS d A s.heap H locs (cw q d σ) → lv_has ls 8 [(0, .ref (q 22)), (1, .int x1), (2, .int x2), (3, .int x3), (4, .int x4)] → M_X5_nextBest_10 σ n x1 x2 x3 x4 = some out → WI p l e rm_X5_nextBest s m [.ref (q 22), .int a1, .int a2].toArray below meth c A d H locs out (cw q d σ) (F0 m 10 ls []) := by
    intro n
    induction n with
    | zero =>
      intro x1 x2 x3 x4 H locs ls hS hl hm
      exact absurd hm (by rw [M_X5_nextBest_10]; exact fun h => nomatch h)
    | succ n ih =>
      intro x1 x2 x3 x4 H locs ls hS hl hm
      rw [M_X5_nextBest_10] at hm
      refine lv_iload hx hb dX5_nextBest_10 (lv_at hl 4 rfl) ?_
      refine lv_aload_n hx hb dX5_nextBest_12 rfl (lv_at hl 0 rfl) ?_
      refine g_5_12_22 C hS dX5_nextBest_13 ?_
      refine g_5_95_23 C hS dX5_nextBest_16 ?_
      refine lv_icmp_ge (tgt := 97) hx hb dX5_nextBest_19 (by decide) (fun c19 => ?_) (fun c19 => ?_)
      · replace hm := it c19 hm
        refine lv_bipush (v := (-9)) hx hb dX5_nextBest_97 (by decide) ?_
        exact retIr C hS hm dX5_nextBest_99
      · replace hm := ie c19 hm
        refine lv_iload hx hb dX5_nextBest_22 (lv_at hl 4 rfl) ?_
        refine lv_iload_n hx hb dX5_nextBest_24 rfl (lv_at hl 1 rfl) ?_
        obtain ⟨o25, e25, hm⟩ := ob hm
        refine after_i C hS (call_N (As := [.int x4, .int x1]) C hS (c_X6_isIn l d (cw q d σ) x4 x1 o25 e25 _) is_5_109 ⟨rfl, rfl, Nat.le_of_ble_eq_true rfl, Nat.le_of_ble_eq_true rfl⟩ rfl hl.1 (Nat.le_of_ble_eq_true rfl) dX5_nextBest_25) (fun H locs hS => ?_)
        refine lv_if_eq (tgt := 91) hx hb dX5_nextBest_28 (by decide) (fun c28 => ?_) (fun c28 => ?_)
        · replace hm := it c28 hm
          refine lv_iinc (v := x4 + 1) (lv' := [(4, .int (x4 + 1)), (0, .ref (q 22)), (1, .int x1), (2, .int x2), (3, .int x3)]) hx hb dX5_nextBest_91 hl (k := 4) rfl rfl (by decide) rfl (fun ls hl => ?_)
          refine lv_goto (tgt := 10) hx hb dX5_nextBest_94 (by decide) ?_
          exact ih x1 x2 x3 (x4 + 1) _ _ _ hS (lv_sub hl [1, 2, 3, 4, 0] rfl) hm
        · replace hm := ie c28 hm
          refine lv_aload_n hx hb dX5_nextBest_31 rfl (lv_at hl 0 rfl) ?_
          refine lv_iload hx hb dX5_nextBest_32 (lv_at hl 4 rfl) ?_
          obtain ⟨o34, e34, hm⟩ := ob hm
          refine after_i C hS (call_V (As := [.int x4]) C hS (c_X5_wantsYet l d q σ x4 o34 e34 _) iv_5_77 ⟨rfl, rfl, Nat.le_of_ble_eq_true rfl, Nat.le_of_ble_eq_true rfl⟩ cw_o22 rfl rfl rfl hl.1 (Nat.le_of_ble_eq_true rfl) dX5_nextBest_34) (fun H locs hS => ?_)
          refine lv_istore (lv' := [(5, .int o34), (0, .ref (q 22)), (1, .int x1), (2, .int x2), (3, .int x3), (4, .int x4)]) hx hb dX5_nextBest_37 hl (by decide) rfl (fun ls hl => ?_)
          refine lv_iload hx hb dX5_nextBest_39 (lv_at hl 0 rfl) ?_
          refine lv_if_le (tgt := 54) hx hb dX5_nextBest_41 (by decide) (fun c41 => ?_) (fun c41 => ?_)
          · replace hm := it c41 hm
            exact J54 (M_X5_nextBest_10 σ n) ih x1 x2 x3 x4 o34 _ _ _ hS (lv_sub hl [1, 2, 3, 4, 5, 0] rfl) hm
          · replace hm := ie c41 hm
            refine lv_iload hx hb dX5_nextBest_44 (lv_at hl 0 rfl) ?_
            refine lv_iload_n hx hb dX5_nextBest_46 rfl (lv_at hl 3 rfl) ?_
            refine lv_icmp_gt (tgt := 54) hx hb dX5_nextBest_47 (by decide) (fun c47 => ?_) (fun c47 => ?_)
            · replace hm := it c47 hm
              exact J54 (M_X5_nextBest_10 σ n) ih x1 x2 x3 x4 o34 _ _ _ hS (lv_sub hl [1, 2, 3, 4, 5, 0] rfl) hm
            · replace hm := ie c47 hm
              refine lv_iconst (v := 1) hx hb dX5_nextBest_50 (by decide) ?_
              refine lv_goto (tgt := 55) hx hb dX5_nextBest_51 (by decide) ?_
              exact J55 (M_X5_nextBest_10 σ n) ih x1 x2 x3 x4 o34 1 _ _ _ hS (lv_sub hl [1, 2, 3, 4, 5, 0] rfl) hm
  unfold M_X5_nextBest at hm
  refine lv_aload_n hx hb dX5_nextBest_0 rfl (lv_at hl 0 rfl) ?_
  refine lv_iload_n hx hb dX5_nextBest_1 rfl (lv_at hl 1 rfl) ?_
  refine lv_iload_n hx hb dX5_nextBest_2 rfl (lv_at hl 2 rfl) ?_
  obtain ⟨o3, e3, hm⟩ := ob hm
  refine after_i C hS (call_V (As := [.int a1, .int a2]) C hS (c_X5_mostServed l d q σ a1 a2 o3 e3 _) iv_5_167 ⟨rfl, rfl, Nat.le_of_ble_eq_true rfl, Nat.le_of_ble_eq_true rfl⟩ cw_o22 rfl rfl rfl hl.1 (Nat.le_of_ble_eq_true rfl) dX5_nextBest_3) (fun H locs hS => ?_)
  refine lv_istore_n (lv' := [(3, .int o3), (0, .ref (q 22)), (1, .int a1), (2, .int a2)]) hx hb dX5_nextBest_6 rfl hl (by decide) rfl (fun ls hl => ?_)
  refine lv_iconst (v := 0) hx hb dX5_nextBest_7 (by decide) ?_
  refine lv_istore (lv' := [(4, .int 0), (3, .int o3), (0, .ref (q 22)), (1, .int a1), (2, .int a2)]) hx hb dX5_nextBest_8 hl (by decide) rfl (fun ls hl => ?_)
  exact L10 10000 a1 a2 o3 0 _ _ _ hS (lv_sub hl [2, 3, 4, 1, 0] rfl) hm
def M_X5_layBestOrder_12 : Nat → ST → Int32 → Int32 → Int32 → Int32 → Option ST
  | 0, _, _, _, _, _ => none
  | n + 1, σ, x3, x4, x5, x6 => (M_X3_sizeOf_r σ x3).bind fun o16 => if o16 ≤ x6 then some σ else (M_X5_nextBest σ x4 x5).bind fun o27 => if o27 = (-9) then M_X5_layBestOrder_12 n σ x3 x4 x5 (x6 + 1) else (M_X3_set_r σ x3 x6 o27).bind fun o45 => (M_X5_wantsYet o45 o27).bind fun o64 => M_X5_layBestOrder_12 n o45 x3 (x4 &&& (((1 : Int32) <<< (o27 &&& 31)) ^^^ (-1))) (x5 - (if x5 < o64 then x5 else o64)) (x6 + 1)
def M_X5_layBestOrder (σ : ST) (a1 : Int32) (a3 : Int32) : Option ST := M_X5_layBestOrder_12 10000 σ a3 a1 (σ.1 35) 0
abbrev rm_X5_layBestOrder : Room := { frames := 4, cells := 0, slots := 0, locals := 95 }
set_option maxRecDepth 100000 in
set_option maxHeartbeats 4000000 in
theorem c_X5_layBestOrder (l : Launch) (d : CD) (q : Nat → Nat) (σ : ST) (a1 : Int32) (a3 : Int32) (out : ST) (hm : M_X5_layBestOrder σ a1 a3 = some out) : MetV l yX5_layBestOrder cX5_layBestOrder 8 (none) rm_X5_layBestOrder d (cw q d σ) [.ref (q 22), .int a1, .ref (q 1), .int a3] (cw q d out) := by
  refine mkV (own := RX5) (by decide +kernel) rfl (Nat.le_of_ble_eq_true rfl) ?_
  intro p e s m below meth c A ls C hS hl
  obtain ⟨hx, hb, hml, hown, hts, -⟩ := id C
  have hl : lv_has ls 8 [(0, .ref (q 22)), (1, .int a1), (2, .ref (q 1)), (3, .int a3)] := hl
  have L12 : ∀ (n : Nat) (σ : ST) (x3 : Int32) (x4 : Int32) (x5 : Int32) (x6 : Int32) (H : Heap) (locs : List Loc) (ls : Array Slot), HS d A s.heap H locs (cw q d σ) → lv_has ls 8 [(0, .ref (q 22)), (2, .ref (q 1)), (3, .int x3), (4, .int x4), (5, .int x5), (6, .int x6)] → M_X5_layBestOrder_12 n σ x3 x4 x5 x6 = some out → WV p l e rm_X5_layBestOrder s m [.ref (q 22), .int a1, .ref (q 1), .int a3].toArray below meth c A d H locs (cw q d out) (F0 m 12 ls []) := by
    intro n
    induction n with
    | zero =>
      intro σ x3 x4 x5 x6 H locs ls hS hl hm
      exact absurd hm (by rw [M_X5_layBestOrder_12]; exact fun h => nomatch h)
    | succ n ih =>
      intro σ x3 x4 x5 x6 H locs ls hS hl hm
      rw [M_X5_layBestOrder_12] at hm
      refine lv_iload hx hb dX5_layBestOrder_12 (lv_at hl 5 rfl) ?_
      refine lv_aload_n hx hb dX5_layBestOrder_14 rfl (lv_at hl 1 rfl) ?_
      refine lv_iload_n hx hb dX5_layBestOrder_15 rfl (lv_at hl 2 rfl) ?_
      obtain ⟨o16, e16, hm⟩ := ob hm
      refine after_i C hS (call_V (As := [.int x3]) C hS (c_X3_sizeOf_r l d q σ x3 o16 e16 _) iv_5_155 ⟨rfl, rfl, Nat.le_of_ble_eq_true rfl, Nat.le_of_ble_eq_true rfl⟩ cw_o1 rfl rfl rfl hl.1 (Nat.le_of_ble_eq_true rfl) dX5_layBestOrder_16) (fun H locs hS => ?_)
      refine lv_icmp_ge (tgt := 81) hx hb dX5_layBestOrder_19 (by decide) (fun c19 => ?_) (fun c19 => ?_)
      · replace hm := it c19 hm
        exact retVw (wf := cw q d) C hS hm dX5_layBestOrder_81
      · replace hm := ie c19 hm
        refine lv_aload_n hx hb dX5_layBestOrder_22 rfl (lv_at hl 0 rfl) ?_
        refine lv_iload hx hb dX5_layBestOrder_23 (lv_at hl 3 rfl) ?_
        refine lv_iload hx hb dX5_layBestOrder_25 (lv_at hl 4 rfl) ?_
        obtain ⟨o27, e27, hm⟩ := ob hm
        refine after_i C hS (call_V (As := [.int x4, .int x5]) C hS (c_X5_nextBest l d q σ x4 x5 o27 e27 _) iv_5_160 ⟨rfl, rfl, Nat.le_of_ble_eq_true rfl, Nat.le_of_ble_eq_true rfl⟩ cw_o22 rfl rfl rfl hl.1 (Nat.le_of_ble_eq_true rfl) dX5_layBestOrder_27) (fun H locs hS => ?_)
        refine lv_istore (lv' := [(7, .int o27), (0, .ref (q 22)), (2, .ref (q 1)), (3, .int x3), (4, .int x4), (5, .int x5), (6, .int x6)]) hx hb dX5_layBestOrder_30 hl (by decide) rfl (fun ls hl => ?_)
        refine lv_iload hx hb dX5_layBestOrder_32 (lv_at hl 0 rfl) ?_
        refine lv_bipush (v := (-9)) hx hb dX5_layBestOrder_34 (by decide) ?_
        refine lv_icmp_eq (tgt := 75) hx hb dX5_layBestOrder_36 (by decide) (fun c36 => ?_) (fun c36 => ?_)
        · replace hm := it c36 hm
          refine lv_iinc (v := x6 + 1) (lv' := [(6, .int (x6 + 1)), (7, .int o27), (0, .ref (q 22)), (2, .ref (q 1)), (3, .int x3), (4, .int x4), (5, .int x5)]) hx hb dX5_layBestOrder_75 hl (k := 6) rfl rfl (by decide) rfl (fun ls hl => ?_)
          refine lv_goto (tgt := 12) hx hb dX5_layBestOrder_78 (by decide) ?_
          exact ih σ x3 x4 x5 (x6 + 1) _ _ _ hS (lv_sub hl [2, 3, 4, 5, 6, 0] rfl) hm
        · replace hm := ie c36 hm
          refine lv_aload_n hx hb dX5_layBestOrder_39 rfl (lv_at hl 2 rfl) ?_
          refine lv_iload_n hx hb dX5_layBestOrder_40 rfl (lv_at hl 3 rfl) ?_
          refine lv_iload hx hb dX5_layBestOrder_41 (lv_at hl 6 rfl) ?_
          refine lv_iload hx hb dX5_layBestOrder_43 (lv_at hl 0 rfl) ?_
          obtain ⟨o45, e45, hm⟩ := ob hm
          refine after_v C hS (call_V (As := [.int x3, .int x6, .int o27]) C hS (c_X3_set_r l d q σ x3 x6 o27 o45 e45 _) iv_5_163 ⟨rfl, rfl, Nat.le_of_ble_eq_true rfl, Nat.le_of_ble_eq_true rfl⟩ cw_o1 rfl rfl rfl hl.1 (Nat.le_of_ble_eq_true rfl) dX5_layBestOrder_45) (fun H locs hS => ?_)
          refine lv_iload hx hb dX5_layBestOrder_48 (lv_at hl 4 rfl) ?_
          refine lv_iconst (v := 1) hx hb dX5_layBestOrder_50 (by decide) ?_
          refine lv_iload hx hb dX5_layBestOrder_51 (lv_at hl 0 rfl) ?_
          refine lv_ishl hx hb dX5_layBestOrder_53 ?_
          refine lv_iconst (v := (-1)) hx hb dX5_layBestOrder_54 (by decide) ?_
          refine lv_ixor hx hb dX5_layBestOrder_55 ?_
          refine lv_iand hx hb dX5_layBestOrder_56 ?_
          refine lv_istore (lv' := [(4, .int (x4 &&& (((1 : Int32) <<< (o27 &&& 31)) ^^^ (-1)))), (7, .int o27), (0, .ref (q 22)), (2, .ref (q 1)), (3, .int x3), (5, .int x5), (6, .int x6)]) hx hb dX5_layBestOrder_57 hl (by decide) rfl (fun ls hl => ?_)
          refine lv_iload hx hb dX5_layBestOrder_59 (lv_at hl 5 rfl) ?_
          refine lv_aload_n hx hb dX5_layBestOrder_61 rfl (lv_at hl 2 rfl) ?_
          refine lv_iload hx hb dX5_layBestOrder_62 (lv_at hl 1 rfl) ?_
          obtain ⟨o64, e64, hm⟩ := ob hm
          refine after_i C hS (call_V (As := [.int o27]) C hS (c_X5_wantsYet l d q o45 o27 o64 e64 _) iv_5_77 ⟨rfl, rfl, Nat.le_of_ble_eq_true rfl, Nat.le_of_ble_eq_true rfl⟩ cw_o22 rfl rfl rfl hl.1 (Nat.le_of_ble_eq_true rfl) dX5_layBestOrder_64) (fun H locs hS => ?_)
          refine lv_iload hx hb dX5_layBestOrder_67 (lv_at hl 5 rfl) ?_
          refine mmin' C hl.1 mm_X5_80 ⟨Nat.le_of_ble_eq_true rfl, Nat.le_of_ble_eq_true rfl⟩ (Nat.le_of_ble_eq_true rfl) dX5_layBestOrder_69 ?_
          refine lv_isub hx hb dX5_layBestOrder_72 ?_
          refine lv_istore (lv' := [(5, .int (x5 - (if x5 < o64 then x5 else o64))), (4, .int (x4 &&& (((1 : Int32) <<< (o27 &&& 31)) ^^^ (-1)))), (7, .int o27), (0, .ref (q 22)), (2, .ref (q 1)), (3, .int x3), (6, .int x6)]) hx hb dX5_layBestOrder_73 hl (by decide) rfl (fun ls hl => ?_)
          refine lv_iinc (v := x6 + 1) (lv' := [(6, .int (x6 + 1)), (5, .int (x5 - (if x5 < o64 then x5 else o64))), (4, .int (x4 &&& (((1 : Int32) <<< (o27 &&& 31)) ^^^ (-1)))), (7, .int o27), (0, .ref (q 22)), (2, .ref (q 1)), (3, .int x3)]) hx hb dX5_layBestOrder_75 hl (k := 6) rfl rfl (by decide) rfl (fun ls hl => ?_)
          refine lv_goto (tgt := 12) hx hb dX5_layBestOrder_78 (by decide) ?_
          exact ih o45 x3 (x4 &&& (((1 : Int32) <<< (o27 &&& 31)) ^^^ (-1))) (x5 - (if x5 < o64 then x5 else o64)) (x6 + 1) _ _ _ hS (lv_sub hl [4, 5, 6, 2, 1, 0] rfl) hm
  unfold M_X5_layBestOrder at hm
  refine lv_iload_n hx hb dX5_layBestOrder_0 rfl (lv_at hl 1 rfl) ?_
  refine lv_istore (lv' := [(4, .int a1), (0, .ref (q 22)), (1, .int a1), (2, .ref (q 1)), (3, .int a3)]) hx hb dX5_layBestOrder_1 hl (by decide) rfl (fun ls hl => ?_)
  refine lv_aload_n hx hb dX5_layBestOrder_3 rfl (lv_at hl 1 rfl) ?_
  refine g_5_47_22 C hS dX5_layBestOrder_4 ?_
  refine lv_istore (lv' := [(5, .int (σ.1 35)), (4, .int a1), (0, .ref (q 22)), (1, .int a1), (2, .ref (q 1)), (3, .int a3)]) hx hb dX5_layBestOrder_7 hl (by decide) rfl (fun ls hl => ?_)
  refine lv_iconst (v := 0) hx hb dX5_layBestOrder_9 (by decide) ?_
  refine lv_istore (lv' := [(6, .int 0), (5, .int (σ.1 35)), (4, .int a1), (0, .ref (q 22)), (1, .int a1), (2, .ref (q 1)), (3, .int a3)]) hx hb dX5_layBestOrder_10 hl (by decide) rfl (fun ls hl => ?_)
  exact L12 10000 σ a3 a1 (σ.1 35) 0 _ _ _ hS (lv_sub hl [3, 5, 6, 2, 1, 0] rfl) hm
