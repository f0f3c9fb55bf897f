def M_X3_isNumber_r (σ : ST) (a1 : Int32) : Option Int32 := if a1 < 0 then okZ 0 else if 6 ≤ a1 then okZ 0 else okZ 1
abbrev rm_X3_isNumber_r : Room := { frames := 0, cells := 0, slots := 0, locals := 0 }
set_option maxRecDepth 100000 in
set_option maxHeartbeats 4000000 in
theorem c_X3_isNumber_r (l : Launch) (d : CD) (q : Nat → Nat) (σ : ST) (a1 : Int32) (out : Int32) (hm : M_X3_isNumber_r σ a1 = some out) : MetI l yX3_isNumber cX3_isNumber 2 (some .boolean) rm_X3_isNumber_r d (cw q d σ) [.ref (q 1), .int a1] out (cw q d σ) := by
  refine mkI (own := RX3) (by decide +kernel) rfl (Nat.le_of_ble_eq_true rfl) ?_
  intro p e s m below meth c A ls C hS hl
  obtain ⟨hx, hb, hml, hown, hts, -⟩ := id C
  have hl : lv_has ls 2 [(0, .ref (q 1)), (1, .int a1)] := hl
  unfold M_X3_isNumber_r at hm
  refine lv_iload_n hx hb dX3_isNumber_0 rfl (lv_at hl 1 rfl) ?_
  refine lv_if_lt (tgt := 17) hx hb dX3_isNumber_1 (by decide) (fun c1 => ?_) (fun c1 => ?_)
  · replace hm := it c1 hm
    refine lv_iconst (v := 0) hx hb dX3_isNumber_17 (by decide) ?_
    exact retZr C hS hm dX3_isNumber_18
  · replace hm := ie c1 hm
    refine lv_iload_n hx hb dX3_isNumber_4 rfl (lv_at hl 1 rfl) ?_
    refine lv_aload_n hx hb dX3_isNumber_5 rfl (lv_at hl 0 rfl) ?_
    refine g_3_20_1 C hS dX3_isNumber_6 ?_
    refine alen' (v := 6) C hS cw_a3 rfl dX3_isNumber_9 ?_
    refine lv_icmp_ge (tgt := 17) hx hb dX3_isNumber_10 (by decide) (fun c10 => ?_) (fun c10 => ?_)
    · replace hm := it c10 hm
      refine lv_iconst (v := 0) hx hb dX3_isNumber_17 (by decide) ?_
      exact retZr C hS hm dX3_isNumber_18
    · replace hm := ie c10 hm
      refine lv_iconst (v := 1) hx hb dX3_isNumber_13 (by decide) ?_
      refine lv_goto (tgt := 18) hx hb dX3_isNumber_14 (by decide) ?_
      exact retZr C hS hm dX3_isNumber_18
def M_X3_make_r (σ : ST) (a1 : Int32) (a2 : Int32) (a3 : Int32) : Option ST := (M_X3_isNumber_r σ a1).bind fun o2 => if o2 = 0 then some σ else if a2 < 0 then some σ else if 40 < a2 then some σ else (wrA 6 σ 3 a1 a2).bind fun σ26 => (inR 6 a1).bind fun j32 => (fillA 40 σ26 (4 + j32) a3).bind fun σ34 => some σ34
abbrev rm_X3_make_r : Room := { frames := 1, cells := 0, slots := 0, locals := 23 }
set_option maxRecDepth 100000 in
set_option maxHeartbeats 4000000 in
theorem c_X3_make_r (l : Launch) (d : CD) (q : Nat → Nat) (σ : ST) (a1 : Int32) (a2 : Int32) (a3 : Int32) (out : ST) (hm : M_X3_make_r σ a1 a2 a3 = some out) : MetV l yX3_make cX3_make 4 (none) rm_X3_make_r d (cw q d σ) [.ref (q 1), .int a1, .int a2, .int a3] (cw q d out) := by
  refine mkV (own := RX3) (by decide +kernel) rfl (Nat.le_of_ble_eq_true rfl) ?_
  intro p e s m below meth c A ls C hS hl
  obtain ⟨hx, hb, hml, hown, hts, -⟩ := id C
  have hl : lv_has ls 4 [(0, .ref (q 1)), (1, .int a1), (2, .int a2), (3, .int a3)] := hl
  unfold M_X3_make_r at hm
  refine lv_aload_n hx hb dX3_make_0 rfl (lv_at hl 0 rfl) ?_
  refine lv_iload_n hx hb dX3_make_1 rfl (lv_at hl 1 rfl) ?_
  obtain ⟨o2, e2, hm⟩ := ob hm
  refine after_i C hS (call_V (As := [.int a1]) C hS (c_X3_isNumber_r l d q σ a1 o2 e2 _) iv_3_30 ⟨rfl, rfl, Nat.le_of_ble_eq_true rfl, Nat.le_of_ble_eq_true rfl⟩ cw_o1 rfl rfl rfl hl.1 (Nat.le_of_ble_eq_true rfl) dX3_make_2) (fun H locs hS => ?_)
  refine lv_if_eq (tgt := 37) hx hb dX3_make_5 (by decide) (fun c5 => ?_) (fun c5 => ?_)
  · replace hm := it c5 hm
    exact retVw (wf := cw q d) C hS hm dX3_make_37
  · replace hm := ie c5 hm
    refine lv_iload_n hx hb dX3_make_8 rfl (lv_at hl 2 rfl) ?_
    refine lv_if_lt (tgt := 37) hx hb dX3_make_9 (by decide) (fun c9 => ?_) (fun c9 => ?_)
    · replace hm := it c9 hm
      exact retVw (wf := cw q d) C hS hm dX3_make_37
    · replace hm := ie c9 hm
      refine lv_iload_n hx hb dX3_make_12 rfl (lv_at hl 2 rfl) ?_
      refine lv_aload_n hx hb dX3_make_13 rfl (lv_at hl 0 rfl) ?_
      refine g_3_9_1 C hS dX3_make_14 ?_
      refine lv_icmp_gt (tgt := 37) hx hb dX3_make_17 (by decide) (fun c17 => ?_) (fun c17 => ?_)
      · replace hm := it c17 hm
        exact retVw (wf := cw q d) C hS hm dX3_make_37
      · replace hm := ie c17 hm
        refine lv_aload_n hx hb dX3_make_20 rfl (lv_at hl 0 rfl) ?_
        refine g_3_20_1 C hS dX3_make_21 ?_
        refine lv_iload_n hx hb dX3_make_24 rfl (lv_at hl 1 rfl) ?_
        refine lv_iload_n hx hb dX3_make_25 rfl (lv_at hl 2 rfl) ?_
        obtain ⟨σ26, e26, hm⟩ := ob hm
        refine iast' (wf := cw q d) C hS cw_a3 cw_s3 e26 dX3_make_26 (fun H locs hS => ?_)
        refine lv_aload_n hx hb dX3_make_27 rfl (lv_at hl 0 rfl) ?_
        refine g_3_17_1 C hS dX3_make_28 ?_
        refine lv_iload_n hx hb dX3_make_31 rfl (lv_at hl 1 rfl) ?_
        obtain ⟨j32, e32, hm⟩ := ob hm
        have hj32 := inR_lt e32
        refine aaldI (g := fun j => q (4 + j)) C hS cw_r2 e32 dX3_make_32 ?_
        refine lv_iload_n hx hb dX3_make_33 rfl (lv_at hl 3 rfl) ?_
        obtain ⟨σ34, e34, hm⟩ := ob hm
        refine after_v (w' := cw q d σ34) C hS (call_S (As := [.ref (q (4 + j32)), .int a3]) C hS (c_fill (wf := cw q d) (by decide) (fun _ => (cw_af4 hj32)) (fun _ => (cw_sf4 hj32)) e34 _) is_3_24 ⟨rfl, rfl, Nat.le_of_ble_eq_true rfl, Nat.le_of_ble_eq_true rfl⟩ rfl hl.1 (Nat.le_of_ble_eq_true rfl) dX3_make_34) (fun H locs hS => ?_)
        exact retVw (wf := cw q d) C hS hm dX3_make_37
def M_X6_refuse (σ : ST) (a1 : Int32) : Option (Int32 × ST) := (some (setI σ 7 (a1))).bind fun σ2 => (rd 6 (σ2.2.2 42) a1).bind fun v11 => (wrA 6 σ2 42 a1 (v11 + 1)).bind fun σ14 => some ((-3), σ14)
abbrev rm_X6_refuse : Room := { frames := 0, cells := 0, slots := 0, locals := 0 }
set_option maxRecDepth 100000 in
set_option maxHeartbeats 4000000 in
theorem c_X6_refuse (l : Launch) (d : CD) (q : Nat → Nat) (σ : ST) (a1 : Int32) (out : Int32 × ST) (hm : M_X6_refuse σ a1 = some out) : MetI l yX6_refuse cX6_refuse 2 (some .int) rm_X6_refuse d (cw q d σ) [.ref (q 0), .int a1] out.1 (cw q d out.2) := by
  refine mkI (own := RX6) (by decide +kernel) rfl (Nat.le_of_ble_eq_true rfl) ?_
  intro p e s m below meth c A ls C hS hl
  obtain ⟨hx, hb, hml, hown, hts, -⟩ := id C
  have hl : lv_has ls 2 [(0, .ref (q 0)), (1, .int a1)] := hl
  unfold M_X6_refuse at hm
  refine lv_aload_n hx hb dX6_refuse_0 rfl (lv_at hl 0 rfl) ?_
  refine lv_iload_n hx hb dX6_refuse_1 rfl (lv_at hl 1 rfl) ?_
  obtain ⟨σ2, e2, hm⟩ := ob hm
  refine p_6_56_0 C hS e2 dX6_refuse_2 (fun H locs hS => ?_)
  refine lv_aload_n hx hb dX6_refuse_5 rfl (lv_at hl 0 rfl) ?_
  refine g_6_52_0 C hS dX6_refuse_6 ?_
  refine lv_iload_n hx hb dX6_refuse_9 rfl (lv_at hl 1 rfl) ?_
  refine lv_dup2_11 hx hb dX6_refuse_10 rfl rfl ?_
  obtain ⟨v11, e11, hm⟩ := ob hm
  refine iald' C hS cw_a42 e11 dX6_refuse_11 ?_
  refine lv_iconst (v := 1) hx hb dX6_refuse_12 (by decide) ?_
  refine lv_iadd hx hb dX6_refuse_13 ?_
  obtain ⟨σ14, e14, hm⟩ := ob hm
  refine iast' (wf := cw q d) C hS cw_a42 cw_s42 e14 dX6_refuse_14 (fun H locs hS => ?_)
  refine lv_bipush (v := (-3)) hx hb dX6_refuse_15 (by decide) ?_
  exact retIw (wf := cw q d) C hS hm dX6_refuse_17
def M_X6_makeOn_r (σ : ST) (a2 : Int32) (a3 : Int32) (a4 : Int32) : Option (Int32 × ST) := (M_X3_isNumber_r σ a2).bind fun o2 => if o2 = 0 then some ((-1), σ) else if a3 ≤ 40 then if 0 ≤ a3 then (M_X3_make_r σ a2 a3 a4).bind fun o33 => some (a3, o33) else (M_X6_refuse σ 5).bind fun o24 => some (o24.1, o24.2) else some ((-1), σ)
abbrev rm_X6_makeOn_r : Room := { frames := 2, cells := 0, slots := 0, locals := 46 }
set_option maxRecDepth 100000 in
set_option maxHeartbeats 4000000 in
theorem c_X6_makeOn_r (l : Launch) (d : CD) (q : Nat → Nat) (σ : ST) (a2 : Int32) (a3 : Int32) (a4 : Int32) (out : Int32 × ST) (hm : M_X6_makeOn_r σ a2 a3 a4 = some out) : MetI l yX6_makeOn cX6_makeOn 5 (some .int) rm_X6_makeOn_r d (cw q d σ) [.ref (q 0), .ref (q 1), .int a2, .int a3, .int a4] out.1 (cw q d out.2) := by
  refine mkI (own := RX6) (by decide +kernel) rfl (Nat.le_of_ble_eq_true rfl) ?_
  intro p e s m below meth c A ls C hS hl
  obtain ⟨hx, hb, hml, hown, hts, -⟩ := id C
  have hl : lv_has ls 5 [(0, .ref (q 0)), (1, .ref (q 1)), (2, .int a2), (3, .int a3), (4, .int a4)] := hl
  unfold M_X6_makeOn_r at hm
  refine lv_aload_n hx hb dX6_makeOn_0 rfl (lv_at hl 1 rfl) ?_
  refine lv_iload_n hx hb dX6_makeOn_1 rfl (lv_at hl 2 rfl) ?_
  obtain ⟨o2, e2, hm⟩ := ob hm
  refine after_i C hS (call_V (As := [.int a2]) C hS (c_X3_isNumber_r l d q σ a2 o2 e2 _) iv_6_96 ⟨rfl, rfl, Nat.le_of_ble_eq_true rfl, Nat.le_of_ble_eq_true rfl⟩ cw_o1 rfl rfl rfl hl.1 (Nat.le_of_ble_eq_true rfl) dX6_makeOn_2) (fun H locs hS => ?_)
  refine lv_if_eq (tgt := 16) hx hb dX6_makeOn_5 (by decide) (fun c5 => ?_) (fun c5 => ?_)
  · replace hm := it c5 hm
    refine lv_iconst (v := (-1)) hx hb dX6_makeOn_16 (by decide) ?_
    exact retIw (wf := cw q d) C hS hm dX6_makeOn_17
  · replace hm := ie c5 hm
    refine lv_iload_n hx hb dX6_makeOn_8 rfl (lv_at hl 3 rfl) ?_
    refine lv_aload_n hx hb dX6_makeOn_9 rfl (lv_at hl 1 rfl) ?_
    refine g_6_312_1 C hS dX6_makeOn_10 ?_
    refine lv_icmp_le (tgt := 18) hx hb dX6_makeOn_13 (by decide) (fun c13 => ?_) (fun c13 => ?_)
    · replace hm := it c13 hm
      refine lv_iload_n hx hb dX6_makeOn_18 rfl (lv_at hl 3 rfl) ?_
      refine lv_if_ge (tgt := 28) hx hb dX6_makeOn_19 (by decide) (fun c19 => ?_) (fun c19 => ?_)
      · replace hm := it c19 hm
        refine lv_aload_n hx hb dX6_makeOn_28 rfl (lv_at hl 1 rfl) ?_
        refine lv_iload_n hx hb dX6_makeOn_29 rfl (lv_at hl 2 rfl) ?_
        refine lv_iload_n hx hb dX6_makeOn_30 rfl (lv_at hl 3 rfl) ?_
        refine lv_iload hx hb dX6_makeOn_31 (lv_at hl 4 rfl) ?_
        obtain ⟨o33, e33, hm⟩ := ob hm
        refine after_v C hS (call_V (As := [.int a2, .int a3, .int a4]) C hS (c_X3_make_r l d q σ a2 a3 a4 o33 e33 _) iv_6_237 ⟨rfl, rfl, Nat.le_of_ble_eq_true rfl, Nat.le_of_ble_eq_true rfl⟩ cw_o1 rfl rfl rfl hl.1 (Nat.le_of_ble_eq_true rfl) dX6_makeOn_33) (fun H locs hS => ?_)
        refine lv_iload_n hx hb dX6_makeOn_36 rfl (lv_at hl 3 rfl) ?_
        exact retIw (wf := cw q d) C hS hm dX6_makeOn_37
      · replace hm := ie c19 hm
        refine lv_aload_n hx hb dX6_makeOn_22 rfl (lv_at hl 0 rfl) ?_
        refine lv_iconst (v := 5) hx hb dX6_makeOn_23 (by decide) ?_
        obtain ⟨o24, e24, hm⟩ := ob hm
        refine after_i C hS (call_V (As := [.int 5]) C hS (c_X6_refuse l d q σ 5 o24 e24 _) iv_6_100 ⟨rfl, rfl, Nat.le_of_ble_eq_true rfl, Nat.le_of_ble_eq_true rfl⟩ cw_o0 rfl rfl rfl hl.1 (Nat.le_of_ble_eq_true rfl) dX6_makeOn_24) (fun H locs hS => ?_)
        exact retIw (wf := cw q d) C hS hm dX6_makeOn_27
    · replace hm := ie c13 hm
      refine lv_iconst (v := (-1)) hx hb dX6_makeOn_16 (by decide) ?_
      exact retIw (wf := cw q d) C hS hm dX6_makeOn_17
def M_X6_row (σ : ST) (a1 : Int32) (a2 : Int32) : Option (Int32 × ST) := (M_X6_makeOn_r σ a1 a2 0).bind fun o8 => some (o8.1, o8.2)
abbrev rm_X6_row : Room := { frames := 3, cells := 0, slots := 0, locals := 70 }
set_option maxRecDepth 100000 in
set_option maxHeartbeats 4000000 in
theorem c_X6_row (l : Launch) (d : CD) (q : Nat → Nat) (σ : ST) (a1 : Int32) (a2 : Int32) (out : Int32 × ST) (hm : M_X6_row σ a1 a2 = some out) : MetI l yX6_row cX6_row 3 (some .int) rm_X6_row d (cw q d σ) [.ref (q 0), .int a1, .int a2] out.1 (cw q d out.2) := by
  refine mkI (own := RX6) (by decide +kernel) rfl (Nat.le_of_ble_eq_true rfl) ?_
  intro p e s m below meth c A ls C hS hl
  obtain ⟨hx, hb, hml, hown, hts, -⟩ := id C
  have hl : lv_has ls 3 [(0, .ref (q 0)), (1, .int a1), (2, .int a2)] := hl
  unfold M_X6_row at hm
  refine lv_aload_n hx hb dX6_row_0 rfl (lv_at hl 0 rfl) ?_
  refine lv_aload_n hx hb dX6_row_1 rfl (lv_at hl 0 rfl) ?_
  refine g_6_14_0 C hS dX6_row_2 ?_
  refine lv_iload_n hx hb dX6_row_5 rfl (lv_at hl 1 rfl) ?_
  refine lv_iload_n hx hb dX6_row_6 rfl (lv_at hl 2 rfl) ?_
  refine lv_iconst (v := 0) hx hb dX6_row_7 (by decide) ?_
  obtain ⟨o8, e8, hm⟩ := ob hm
  refine after_i C hS (call_V (As := [.ref (q 1), .int a1, .int a2, .int 0]) C hS (c_X6_makeOn_r l d q σ a1 a2 0 o8 e8 _) iv_6_73 ⟨rfl, rfl, Nat.le_of_ble_eq_true rfl, Nat.le_of_ble_eq_true rfl⟩ cw_o0 rfl rfl rfl hl.1 (Nat.le_of_ble_eq_true rfl) dX6_row_8) (fun H locs hS => ?_)
  exact retIw (wf := cw q d) C hS hm dX6_row_11
def M_X3_isThere_r (σ : ST) (a1 : Int32) : Option Int32 := (M_X3_isNumber_r σ a1).bind fun o2 => if o2 = 0 then okZ 0 else (rd 6 (σ.2.2 3) a1).bind fun v13 => if v13 = (-1) then okZ 0 else okZ 1
abbrev rm_X3_isThere_r : Room := { frames := 1, cells := 0, slots := 0, locals := 21 }
set_option maxRecDepth 100000 in
set_option maxHeartbeats 4000000 in
theorem c_X3_isThere_r (l : Launch) (d : CD) (q : Nat → Nat) (σ : ST) (a1 : Int32) (out : Int32) (hm : M_X3_isThere_r σ a1 = some out) : MetI l yX3_isThere cX3_isThere 2 (some .boolean) rm_X3_isThere_r d (cw q d σ) [.ref (q 1), .int a1] out (cw q d σ) := by
  refine mkI (own := RX3) (by decide +kernel) rfl (Nat.le_of_ble_eq_true rfl) ?_
  intro p e s m below meth c A ls C hS hl
  obtain ⟨hx, hb, hml, hown, hts, -⟩ := id C
  have hl : lv_has ls 2 [(0, .ref (q 1)), (1, .int a1)] := hl
  unfold M_X3_isThere_r at hm
  refine lv_aload_n hx hb dX3_isThere_0 rfl (lv_at hl 0 rfl) ?_
  refine lv_iload_n hx hb dX3_isThere_1 rfl (lv_at hl 1 rfl) ?_
  obtain ⟨o2, e2, hm⟩ := ob hm
  refine after_i C hS (call_V (As := [.int a1]) C hS (c_X3_isNumber_r l d q σ a1 o2 e2 _) iv_3_30 ⟨rfl, rfl, Nat.le_of_ble_eq_true rfl, Nat.le_of_ble_eq_true rfl⟩ cw_o1 rfl rfl rfl hl.1 (Nat.le_of_ble_eq_true rfl) dX3_isThere_2) (fun H locs hS => ?_)
  refine lv_if_eq (tgt := 22) hx hb dX3_isThere_5 (by decide) (fun c5 => ?_) (fun c5 => ?_)
  · replace hm := it c5 hm
    refine lv_iconst (v := 0) hx hb dX3_isThere_22 (by decide) ?_
    exact retZr C hS hm dX3_isThere_23
  · replace hm := ie c5 hm
    refine lv_aload_n hx hb dX3_isThere_8 rfl (lv_at hl 0 rfl) ?_
    refine g_3_20_1 C hS dX3_isThere_9 ?_
    refine lv_iload_n hx hb dX3_isThere_12 rfl (lv_at hl 1 rfl) ?_
    obtain ⟨v13, e13, hm⟩ := ob hm
    refine iald' C hS cw_a3 e13 dX3_isThere_13 ?_
    refine lv_iconst (v := (-1)) hx hb dX3_isThere_14 (by decide) ?_
    refine lv_icmp_eq (tgt := 22) hx hb dX3_isThere_15 (by decide) (fun c15 => ?_) (fun c15 => ?_)
    · replace hm := it c15 hm
      refine lv_iconst (v := 0) hx hb dX3_isThere_22 (by decide) ?_
      exact retZr C hS hm dX3_isThere_23
    · replace hm := ie c15 hm
      refine lv_iconst (v := 1) hx hb dX3_isThere_18 (by decide) ?_
      refine lv_goto (tgt := 23) hx hb dX3_isThere_19 (by decide) ?_
      exact retZr C hS hm dX3_isThere_23
def M_X6_refusalOf_r (σ : ST) (a2 : Int32) : Option (Int32 × ST) := (M_X3_isNumber_r σ a2).bind fun o2 => if o2 = 0 then some ((-1), σ) else (M_X3_isThere_r σ a2).bind fun o12 => if o12 = 0 then (M_X6_refuse σ 1).bind fun o24 => some (o24.1, o24.2) else some (0, σ)
abbrev rm_X6_refusalOf_r : Room := { frames := 2, cells := 0, slots := 0, locals := 42 }
set_option maxRecDepth 100000 in
set_option maxHeartbeats 4000000 in
theorem c_X6_refusalOf_r (l : Launch) (d : CD) (q : Nat → Nat) (σ : ST) (a2 : Int32) (out : Int32 × ST) (hm : M_X6_refusalOf_r σ a2 = some out) : MetI l yX6_refusalOf cX6_refusalOf 3 (some .int) rm_X6_refusalOf_r d (cw q d σ) [.ref (q 0), .ref (q 1), .int a2] out.1 (cw q d out.2) := by
  refine mkI (own := RX6) (by decide +kernel) rfl (Nat.le_of_ble_eq_true rfl) ?_
  intro p e s m below meth c A ls C hS hl
  obtain ⟨hx, hb, hml, hown, hts, -⟩ := id C
  have hl : lv_has ls 3 [(0, .ref (q 0)), (1, .ref (q 1)), (2, .int a2)] := hl
  unfold M_X6_refusalOf_r at hm
  refine lv_aload_n hx hb dX6_refusalOf_0 rfl (lv_at hl 1 rfl) ?_
  refine lv_iload_n hx hb dX6_refusalOf_1 rfl (lv_at hl 2 rfl) ?_
  obtain ⟨o2, e2, hm⟩ := ob hm
  refine after_i C hS (call_V (As := [.int a2]) C hS (c_X3_isNumber_r l d q σ a2 o2 e2 _) iv_6_96 ⟨rfl, rfl, Nat.le_of_ble_eq_true rfl, Nat.le_of_ble_eq_true rfl⟩ cw_o1 rfl rfl rfl hl.1 (Nat.le_of_ble_eq_true rfl) dX6_refusalOf_2) (fun H locs hS => ?_)
  refine lv_if_ne (tgt := 10) hx hb dX6_refusalOf_5 (by decide) (fun c5 => ?_) (fun c5 => ?_)
  · replace hm := ie c5 hm
    refine lv_aload_n hx hb dX6_refusalOf_10 rfl (lv_at hl 1 rfl) ?_
    refine lv_iload_n hx hb dX6_refusalOf_11 rfl (lv_at hl 2 rfl) ?_
    obtain ⟨o12, e12, hm⟩ := ob hm
    refine after_i C hS (call_V (As := [.int a2]) C hS (c_X3_isThere_r l d q σ a2 o12 e12 _) iv_6_104 ⟨rfl, rfl, Nat.le_of_ble_eq_true rfl, Nat.le_of_ble_eq_true rfl⟩ cw_o1 rfl rfl rfl hl.1 (Nat.le_of_ble_eq_true rfl) dX6_refusalOf_12) (fun H locs hS => ?_)
    refine lv_if_eq (tgt := 22) hx hb dX6_refusalOf_15 (by decide) (fun c15 => ?_) (fun c15 => ?_)
    · replace hm := it c15 hm
      refine lv_aload_n hx hb dX6_refusalOf_22 rfl (lv_at hl 0 rfl) ?_
      refine lv_iconst (v := 1) hx hb dX6_refusalOf_23 (by decide) ?_
      obtain ⟨o24, e24, hm⟩ := ob hm
      refine after_i C hS (call_V (As := [.int 1]) C hS (c_X6_refuse l d q σ 1 o24 e24 _) iv_6_100 ⟨rfl, rfl, Nat.le_of_ble_eq_true rfl, Nat.le_of_ble_eq_true rfl⟩ cw_o0 rfl rfl rfl hl.1 (Nat.le_of_ble_eq_true rfl) dX6_refusalOf_24) (fun H locs hS => ?_)
      exact retIw (wf := cw q d) C hS hm dX6_refusalOf_27
    · replace hm := ie c15 hm
      refine lv_iconst (v := 0) hx hb dX6_refusalOf_18 (by decide) ?_
      refine lv_goto (tgt := 27) hx hb dX6_refusalOf_19 (by decide) ?_
      exact retIw (wf := cw q d) C hS hm dX6_refusalOf_27
  · replace hm := it c5 hm
    refine lv_iconst (v := (-1)) hx hb dX6_refusalOf_8 (by decide) ?_
    exact retIw (wf := cw q d) C hS hm dX6_refusalOf_9
def M_X3_isPlace_r (σ : ST) (a1 : Int32) (a2 : Int32) : Option Int32 := (M_X3_isThere_r σ a1).bind fun o2 => if o2 = 0 then okZ 0 else if a2 < 0 then okZ 0 else (rd 6 (σ.2.2 3) a1).bind fun v18 => if v18 ≤ a2 then okZ 0 else okZ 1
abbrev rm_X3_isPlace_r : Room := { frames := 2, cells := 0, slots := 0, locals := 42 }
set_option maxRecDepth 100000 in
set_option maxHeartbeats 4000000 in
theorem c_X3_isPlace_r (l : Launch) (d : CD) (q : Nat → Nat) (σ : ST) (a1 : Int32) (a2 : Int32) (out : Int32) (hm : M_X3_isPlace_r σ a1 a2 = some out) : MetI l yX3_isPlace cX3_isPlace 3 (some .boolean) rm_X3_isPlace_r d (cw q d σ) [.ref (q 1), .int a1, .int a2] out (cw q d σ) := by
  refine mkI (own := RX3) (by decide +kernel) rfl (Nat.le_of_ble_eq_true rfl) ?_
  intro p e s m below meth c A ls C hS hl
  obtain ⟨hx, hb, hml, hown, hts, -⟩ := id C
  have hl : lv_has ls 3 [(0, .ref (q 1)), (1, .int a1), (2, .int a2)] := hl
  unfold M_X3_isPlace_r at hm
  refine lv_aload_n hx hb dX3_isPlace_0 rfl (lv_at hl 0 rfl) ?_
  refine lv_iload_n hx hb dX3_isPlace_1 rfl (lv_at hl 1 rfl) ?_
  obtain ⟨o2, e2, hm⟩ := ob hm
  refine after_i C hS (call_V (As := [.int a1]) C hS (c_X3_isThere_r l d q σ a1 o2 e2 _) iv_3_34 ⟨rfl, rfl, Nat.le_of_ble_eq_true rfl, Nat.le_of_ble_eq_true rfl⟩ cw_o1 rfl rfl rfl hl.1 (Nat.le_of_ble_eq_true rfl) dX3_isPlace_2) (fun H locs hS => ?_)
  refine lv_if_eq (tgt := 26) hx hb dX3_isPlace_5 (by decide) (fun c5 => ?_) (fun c5 => ?_)
  · replace hm := it c5 hm
    refine lv_iconst (v := 0) hx hb dX3_isPlace_26 (by decide) ?_
    exact retZr C hS hm dX3_isPlace_27
  · replace hm := ie c5 hm
    refine lv_iload_n hx hb dX3_isPlace_8 rfl (lv_at hl 2 rfl) ?_
    refine lv_if_lt (tgt := 26) hx hb dX3_isPlace_9 (by decide) (fun c9 => ?_) (fun c9 => ?_)
    · replace hm := it c9 hm
      refine lv_iconst (v := 0) hx hb dX3_isPlace_26 (by decide) ?_
      exact retZr C hS hm dX3_isPlace_27
    · replace hm := ie c9 hm
      refine lv_iload_n hx hb dX3_isPlace_12 rfl (lv_at hl 2 rfl) ?_
      refine lv_aload_n hx hb dX3_isPlace_13 rfl (lv_at hl 0 rfl) ?_
      refine g_3_20_1 C hS dX3_isPlace_14 ?_
      refine lv_iload_n hx hb dX3_isPlace_17 rfl (lv_at hl 1 rfl) ?_
      obtain ⟨v18, e18, hm⟩ := ob hm
      refine iald' C hS cw_a3 e18 dX3_isPlace_18 ?_
      refine lv_icmp_ge (tgt := 26) hx hb dX3_isPlace_19 (by decide) (fun c19 => ?_) (fun c19 => ?_)
      · replace hm := it c19 hm
        refine lv_iconst (v := 0) hx hb dX3_isPlace_26 (by decide) ?_
        exact retZr C hS hm dX3_isPlace_27
      · replace hm := ie c19 hm
        refine lv_iconst (v := 1) hx hb dX3_isPlace_22 (by decide) ?_
        refine lv_goto (tgt := 27) hx hb dX3_isPlace_23 (by decide) ?_
        exact retZr C hS hm dX3_isPlace_27
def M_X6_refusalOfPlace_r (σ : ST) (a2 : Int32) (a3 : Int32) : Option (Int32 × ST) := (M_X6_refusalOf_r σ a2).bind fun o3 => if o3.1 = 0 then (M_X3_isPlace_r o3.2 a2 a3).bind fun o19 => if o19 = 0 then (M_X6_refuse o3.2 2).bind fun o31 => some (o31.1, o31.2) else some (0, o3.2) else some (o3.1, o3.2)
abbrev rm_X6_refusalOfPlace_r : Room := { frames := 3, cells := 0, slots := 0, locals := 64 }
set_option maxRecDepth 100000 in
set_option maxHeartbeats 4000000 in
theorem c_X6_refusalOfPlace_r (l : Launch) (d : CD) (q : Nat → Nat) (σ : ST) (a2 : Int32) (a3 : Int32) (out : Int32 × ST) (hm : M_X6_refusalOfPlace_r σ a2 a3 = some out) : MetI l yX6_refusalOfPlace cX6_refusalOfPlace 5 (some .int) rm_X6_refusalOfPlace_r d (cw q d σ) [.ref (q 0), .ref (q 1), .int a2, .int a3] out.1 (cw q d out.2) := by
  refine mkI (own := RX6) (by decide +kernel) rfl (Nat.le_of_ble_eq_true rfl) ?_
  intro p e s m below meth c A ls C hS hl
  obtain ⟨hx, hb, hml, hown, hts, -⟩ := id C
  have hl : lv_has ls 5 [(0, .ref (q 0)), (1, .ref (q 1)), (2, .int a2), (3, .int a3)] := hl
  unfold M_X6_refusalOfPlace_r at hm
  refine lv_aload_n hx hb dX6_refusalOfPlace_0 rfl (lv_at hl 0 rfl) ?_
  refine lv_aload_n hx hb dX6_refusalOfPlace_1 rfl (lv_at hl 1 rfl) ?_
  refine lv_iload_n hx hb dX6_refusalOfPlace_2 rfl (lv_at hl 2 rfl) ?_
  obtain ⟨o3, e3, hm⟩ := ob hm
  refine after_i C hS (call_V (As := [.ref (q 1), .int a2]) C hS (c_X6_refusalOf_r l d q σ a2 o3 e3 _) iv_6_89 ⟨rfl, rfl, Nat.le_of_ble_eq_true rfl, Nat.le_of_ble_eq_true rfl⟩ cw_o0 rfl rfl rfl hl.1 (Nat.le_of_ble_eq_true rfl) dX6_refusalOfPlace_3) (fun H locs hS => ?_)
  refine lv_istore (lv' := [(4, .int o3.1), (0, .ref (q 0)), (1, .ref (q 1)), (2, .int a2), (3, .int a3)]) hx hb dX6_refusalOfPlace_6 hl (by decide) rfl (fun ls hl => ?_)
  refine lv_iload hx hb dX6_refusalOfPlace_8 (lv_at hl 0 rfl) ?_
  refine lv_if_eq (tgt := 16) hx hb dX6_refusalOfPlace_10 (by decide) (fun c10 => ?_) (fun c10 => ?_)
  · replace hm := it c10 hm
    refine lv_aload_n hx hb dX6_refusalOfPlace_16 rfl (lv_at hl 2 rfl) ?_
    refine lv_iload_n hx hb dX6_refusalOfPlace_17 rfl (lv_at hl 3 rfl) ?_
    refine lv_iload_n hx hb dX6_refusalOfPlace_18 rfl (lv_at hl 4 rfl) ?_
    obtain ⟨o19, e19, hm⟩ := ob hm
    refine after_i C hS (call_V (As := [.int a2, .int a3]) C hS (c_X3_isPlace_r l d q o3.2 a2 a3 o19 e19 _) iv_6_309 ⟨rfl, rfl, Nat.le_of_ble_eq_true rfl, Nat.le_of_ble_eq_true rfl⟩ cw_o1 rfl rfl rfl hl.1 (Nat.le_of_ble_eq_true rfl) dX6_refusalOfPlace_19) (fun H locs hS => ?_)
    refine lv_if_eq (tgt := 29) hx hb dX6_refusalOfPlace_22 (by decide) (fun c22 => ?_) (fun c22 => ?_)
    · replace hm := it c22 hm
      refine lv_aload_n hx hb dX6_refusalOfPlace_29 rfl (lv_at hl 1 rfl) ?_
      refine lv_iconst (v := 2) hx hb dX6_refusalOfPlace_30 (by decide) ?_
      obtain ⟨o31, e31, hm⟩ := ob hm
      refine after_i C hS (call_V (As := [.int 2]) C hS (c_X6_refuse l d q o3.2 2 o31 e31 _) iv_6_100 ⟨rfl, rfl, Nat.le_of_ble_eq_true rfl, Nat.le_of_ble_eq_true rfl⟩ cw_o0 rfl rfl rfl hl.1 (Nat.le_of_ble_eq_true rfl) dX6_refusalOfPlace_31) (fun H locs hS => ?_)
      exact retIw (wf := cw q d) C hS hm dX6_refusalOfPlace_34
    · replace hm := ie c22 hm
      refine lv_iconst (v := 0) hx hb dX6_refusalOfPlace_25 (by decide) ?_
      refine lv_goto (tgt := 34) hx hb dX6_refusalOfPlace_26 (by decide) ?_
      exact retIw (wf := cw q d) C hS hm dX6_refusalOfPlace_34
  · replace hm := ie c10 hm
    refine lv_iload hx hb dX6_refusalOfPlace_13 (lv_at hl 0 rfl) ?_
    exact retIw (wf := cw q d) C hS hm dX6_refusalOfPlace_15
def M_X3_get_r (σ : ST) (a1 : Int32) (a2 : Int32) : Option Int32 := (M_X3_isPlace_r σ a1 a2).bind fun o3 => if o3 = 0 then some 0 else (inR 6 a1).bind fun j14 => (rd 40 (σ.2.2 (4 + j14)) a2).bind fun v16 => some v16
abbrev rm_X3_get_r : Room := { frames := 3, cells := 0, slots := 0, locals := 64 }
set_option maxRecDepth 100000 in
set_option maxHeartbeats 4000000 in
theorem c_X3_get_r (l : Launch) (d : CD) (q : Nat → Nat) (σ : ST) (a1 : Int32) (a2 : Int32) (out : Int32) (hm : M_X3_get_r σ a1 a2 = some out) : MetI l yX3_get cX3_get 3 (some .int) rm_X3_get_r d (cw q d σ) [.ref (q 1), .int a1, .int a2] out (cw q d σ) := by
  refine mkI (own := RX3) (by decide +kernel) rfl (Nat.le_of_ble_eq_true rfl) ?_
  intro p e s m below meth c A ls C hS hl
  obtain ⟨hx, hb, hml, hown, hts, -⟩ := id C
  have hl : lv_has ls 3 [(0, .ref (q 1)), (1, .int a1), (2, .int a2)] := hl
  unfold M_X3_get_r at hm
  refine lv_aload_n hx hb dX3_get_0 rfl (lv_at hl 0 rfl) ?_
  refine lv_iload_n hx hb dX3_get_1 rfl (lv_at hl 1 rfl) ?_
  refine lv_iload_n hx hb dX3_get_2 rfl (lv_at hl 2 rfl) ?_
  obtain ⟨o3, e3, hm⟩ := ob hm
  refine after_i C hS (call_V (As := [.int a1, .int a2]) C hS (c_X3_isPlace_r l d q σ a1 a2 o3 e3 _) iv_3_37 ⟨rfl, rfl, Nat.le_of_ble_eq_true rfl, Nat.le_of_ble_eq_true rfl⟩ cw_o1 rfl rfl rfl hl.1 (Nat.le_of_ble_eq_true rfl) dX3_get_3) (fun H locs hS => ?_)
  refine lv_if_eq (tgt := 20) hx hb dX3_get_6 (by decide) (fun c6 => ?_) (fun c6 => ?_)
  · replace hm := it c6 hm
    refine lv_iconst (v := 0) hx hb dX3_get_20 (by decide) ?_
    exact retIr C hS hm dX3_get_21
  · replace hm := ie c6 hm
    refine lv_aload_n hx hb dX3_get_9 rfl (lv_at hl 0 rfl) ?_
    refine g_3_17_1 C hS dX3_get_10 ?_
    refine lv_iload_n hx hb dX3_get_13 rfl (lv_at hl 1 rfl) ?_
    obtain ⟨j14, e14, hm⟩ := ob hm
    have hj14 := inR_lt e14
    refine aaldI (g := fun j => q (4 + j)) C hS cw_r2 e14 dX3_get_14 ?_
    refine lv_iload_n hx hb dX3_get_15 rfl (lv_at hl 2 rfl) ?_
    obtain ⟨v16, e16, hm⟩ := ob hm
    refine iald' C hS (cw_af4 hj14) e16 dX3_get_16 ?_
    refine lv_goto (tgt := 21) hx hb dX3_get_17 (by decide) ?_
    exact retIr C hS hm dX3_get_21
def M_X3_set_r (σ : ST) (a1 : Int32) (a2 : Int32) (a3 : Int32) : Option ST := (M_X3_isPlace_r σ a1 a2).bind fun o3 => if o3 = 0 then some σ else (inR 6 a1).bind fun j14 => (wrA 40 σ (4 + j14) a2 a3).bind fun σ17 => some σ17
abbrev rm_X3_set_r : Room := { frames := 3, cells := 0, slots := 0, locals := 64 }
set_option maxRecDepth 100000 in
set_option maxHeartbeats 4000000 in
theorem c_X3_set_r (l : Launch) (d : CD) (q : Nat → Nat) (σ : ST) (a1 : Int32) (a2 : Int32) (a3 : Int32) (out : ST) (hm : M_X3_set_r σ a1 a2 a3 = some out) : MetV l yX3_set cX3_set 4 (none) rm_X3_set_r d (cw q d σ) [.ref (q 1), .int a1, .int a2, .int a3] (cw q d out) := by
  refine mkV (own := RX3) (by decide +kernel) rfl (Nat.le_of_ble_eq_true rfl) ?_
  intro p e s m below meth c A ls C hS hl
  obtain ⟨hx, hb, hml, hown, hts, -⟩ := id C
  have hl : lv_has ls 4 [(0, .ref (q 1)), (1, .int a1), (2, .int a2), (3, .int a3)] := hl
  unfold M_X3_set_r at hm
  refine lv_aload_n hx hb dX3_set_0 rfl (lv_at hl 0 rfl) ?_
  refine lv_iload_n hx hb dX3_set_1 rfl (lv_at hl 1 rfl) ?_
  refine lv_iload_n hx hb dX3_set_2 rfl (lv_at hl 2 rfl) ?_
  obtain ⟨o3, e3, hm⟩ := ob hm
  refine after_i C hS (call_V (As := [.int a1, .int a2]) C hS (c_X3_isPlace_r l d q σ a1 a2 o3 e3 _) iv_3_37 ⟨rfl, rfl, Nat.le_of_ble_eq_true rfl, Nat.le_of_ble_eq_true rfl⟩ cw_o1 rfl rfl rfl hl.1 (Nat.le_of_ble_eq_true rfl) dX3_set_3) (fun H locs hS => ?_)
  refine lv_if_eq (tgt := 18) hx hb dX3_set_6 (by decide) (fun c6 => ?_) (fun c6 => ?_)
  · replace hm := it c6 hm
    exact retVw (wf := cw q d) C hS hm dX3_set_18
  · replace hm := ie c6 hm
    refine lv_aload_n hx hb dX3_set_9 rfl (lv_at hl 0 rfl) ?_
    refine g_3_17_1 C hS dX3_set_10 ?_
    refine lv_iload_n hx hb dX3_set_13 rfl (lv_at hl 1 rfl) ?_
    obtain ⟨j14, e14, hm⟩ := ob hm
    have hj14 := inR_lt e14
    refine aaldI (g := fun j => q (4 + j)) C hS cw_r2 e14 dX3_set_14 ?_
    refine lv_iload_n hx hb dX3_set_15 rfl (lv_at hl 2 rfl) ?_
    refine lv_iload_n hx hb dX3_set_16 rfl (lv_at hl 3 rfl) ?_
    obtain ⟨σ17, e17, hm⟩ := ob hm
    refine iast' (wf := cw q d) C hS (cw_af4 hj14) (cw_sf4 hj14) e17 dX3_set_17 (fun H locs hS => ?_)
    exact retVw (wf := cw q d) C hS hm dX3_set_18
def M_X6_lay (σ : ST) (a1 : Int32) (a2 : Int32) (a3 : Int32) : Option (Int32 × ST) := (M_X6_refusalOfPlace_r σ a1 a2).bind fun o7 => if o7.1 = 0 then (M_X3_get_r o7.2 a1 a2).bind fun o27 => (some (setI o7.2 8 (o27))).bind fun σ30 => (M_X3_set_r σ30 a1 a2 a3).bind fun o40 => some (1, o40) else some (o7.1, o7.2)
abbrev rm_X6_lay : Room := { frames := 4, cells := 0, slots := 0, locals := 88 }
set_option maxRecDepth 100000 in
set_option maxHeartbeats 4000000 in
theorem c_X6_lay (l : Launch) (d : CD) (q : Nat → Nat) (σ : ST) (a1 : Int32) (a2 : Int32) (a3 : Int32) (out : Int32 × ST) (hm : M_X6_lay σ a1 a2 a3 = some out) : MetI l yX6_lay cX6_lay 5 (some .int) rm_X6_lay d (cw q d σ) [.ref (q 0), .int a1, .int a2, .int a3] out.1 (cw q d out.2) := by
  refine mkI (own := RX6) (by decide +kernel) rfl (Nat.le_of_ble_eq_true rfl) ?_
  intro p e s m below meth c A ls C hS hl
  obtain ⟨hx, hb, hml, hown, hts, -⟩ := id C
  have hl : lv_has ls 5 [(0, .ref (q 0)), (1, .int a1), (2, .int a2), (3, .int a3)] := hl
  unfold M_X6_lay at hm
  refine lv_aload_n hx hb dX6_lay_0 rfl (lv_at hl 0 rfl) ?_
  refine lv_aload_n hx hb dX6_lay_1 rfl (lv_at hl 0 rfl) ?_
  refine g_6_14_0 C hS dX6_lay_2 ?_
  refine lv_iload_n hx hb dX6_lay_5 rfl (lv_at hl 1 rfl) ?_
  refine lv_iload_n hx hb dX6_lay_6 rfl (lv_at hl 2 rfl) ?_
  obtain ⟨o7, e7, hm⟩ := ob hm
  refine after_i C hS (call_V (As := [.ref (q 1), .int a1, .int a2]) C hS (c_X6_refusalOfPlace_r l d q σ a1 a2 o7 e7 _) iv_6_77 ⟨rfl, rfl, Nat.le_of_ble_eq_true rfl, Nat.le_of_ble_eq_true rfl⟩ cw_o0 rfl rfl rfl hl.1 (Nat.le_of_ble_eq_true rfl) dX6_lay_7) (fun H locs hS => ?_)
  refine lv_istore (lv' := [(4, .int o7.1), (0, .ref (q 0)), (1, .int a1), (2, .int a2), (3, .int a3)]) hx hb dX6_lay_10 hl (by decide) rfl (fun ls hl => ?_)
  refine lv_iload hx hb dX6_lay_12 (lv_at hl 0 rfl) ?_
  refine lv_if_eq (tgt := 20) hx hb dX6_lay_14 (by decide) (fun c14 => ?_) (fun c14 => ?_)
  · replace hm := it c14 hm
    refine lv_aload_n hx hb dX6_lay_20 rfl (lv_at hl 1 rfl) ?_
    refine lv_aload_n hx hb dX6_lay_21 rfl (lv_at hl 1 rfl) ?_
    refine g_6_14_0 C hS dX6_lay_22 ?_
    refine lv_iload_n hx hb dX6_lay_25 rfl (lv_at hl 2 rfl) ?_
    refine lv_iload_n hx hb dX6_lay_26 rfl (lv_at hl 3 rfl) ?_
    obtain ⟨o27, e27, hm⟩ := ob hm
    refine after_i C hS (call_V (As := [.int a1, .int a2]) C hS (c_X3_get_r l d q o7.2 a1 a2 o27 e27 _) iv_6_81 ⟨rfl, rfl, Nat.le_of_ble_eq_true rfl, Nat.le_of_ble_eq_true rfl⟩ cw_o1 rfl rfl rfl hl.1 (Nat.le_of_ble_eq_true rfl) dX6_lay_27) (fun H locs hS => ?_)
    obtain ⟨σ30, e30, hm⟩ := ob hm
    refine p_6_60_0 C hS e30 dX6_lay_30 (fun H locs hS => ?_)
    refine lv_aload_n hx hb dX6_lay_33 rfl (lv_at hl 1 rfl) ?_
    refine g_6_14_0 C hS dX6_lay_34 ?_
    refine lv_iload_n hx hb dX6_lay_37 rfl (lv_at hl 2 rfl) ?_
    refine lv_iload_n hx hb dX6_lay_38 rfl (lv_at hl 3 rfl) ?_
    refine lv_iload_n hx hb dX6_lay_39 rfl (lv_at hl 4 rfl) ?_
    obtain ⟨o40, e40, hm⟩ := ob hm
    refine after_v C hS (call_V (As := [.int a1, .int a2, .int a3]) C hS (c_X3_set_r l d q σ30 a1 a2 a3 o40 e40 _) iv_6_85 ⟨rfl, rfl, Nat.le_of_ble_eq_true rfl, Nat.le_of_ble_eq_true rfl⟩ cw_o1 rfl rfl rfl hl.1 (Nat.le_of_ble_eq_true rfl) dX6_lay_40) (fun H locs hS => ?_)
    refine lv_iconst (v := 1) hx hb dX6_lay_43 (by decide) ?_
    exact retIw (wf := cw q d) C hS hm dX6_lay_44
  · replace hm := ie c14 hm
    refine lv_iload hx hb dX6_lay_17 (lv_at hl 0 rfl) ?_
    exact retIw (wf := cw q d) C hS hm dX6_lay_19
def M_X6_at (σ : ST) (a1 : Int32) (a2 : Int32) : Option (Int32 × ST) := (M_X6_refusalOfPlace_r σ a1 a2).bind fun o7 => if o7.1 = 0 then (M_X3_get_r o7.2 a1 a2).bind fun o24 => (some (setI o7.2 8 (o24))).bind fun σ27 => some (1, σ27) else some (o7.1, o7.2)
abbrev rm_X6_at : Room := { frames := 4, cells := 0, slots := 0, locals := 88 }
set_option maxRecDepth 100000 in
set_option maxHeartbeats 4000000 in
theorem c_X6_at (l : Launch) (d : CD) (q : Nat → Nat) (σ : ST) (a1 : Int32) (a2 : Int32) (out : Int32 × ST) (hm : M_X6_at σ a1 a2 = some out) : MetI l yX6_at cX6_at 4 (some .int) rm_X6_at d (cw q d σ) [.ref (q 0), .int a1, .int a2] out.1 (cw q d out.2) := by
  refine mkI (own := RX6) (by decide +kernel) rfl (Nat.le_of_ble_eq_true rfl) ?_
  intro p e s m below meth c A ls C hS hl
  obtain ⟨hx, hb, hml, hown, hts, -⟩ := id C
  have hl : lv_has ls 4 [(0, .ref (q 0)), (1, .int a1), (2, .int a2)] := hl
  unfold M_X6_at at hm
  refine lv_aload_n hx hb dX6_at_0 rfl (lv_at hl 0 rfl) ?_
  refine lv_aload_n hx hb dX6_at_1 rfl (lv_at hl 0 rfl) ?_
  refine g_6_14_0 C hS dX6_at_2 ?_
  refine lv_iload_n hx hb dX6_at_5 rfl (lv_at hl 1 rfl) ?_
  refine lv_iload_n hx hb dX6_at_6 rfl (lv_at hl 2 rfl) ?_
  obtain ⟨o7, e7, hm⟩ := ob hm
  refine after_i C hS (call_V (As := [.ref (q 1), .int a1, .int a2]) C hS (c_X6_refusalOfPlace_r l d q σ a1 a2 o7 e7 _) iv_6_77 ⟨rfl, rfl, Nat.le_of_ble_eq_true rfl, Nat.le_of_ble_eq_true rfl⟩ cw_o0 rfl rfl rfl hl.1 (Nat.le_of_ble_eq_true rfl) dX6_at_7) (fun H locs hS => ?_)
  refine lv_istore_n (lv' := [(3, .int o7.1), (0, .ref (q 0)), (1, .int a1), (2, .int a2)]) hx hb dX6_at_10 rfl hl (by decide) rfl (fun ls hl => ?_)
  refine lv_iload_n hx hb dX6_at_11 rfl (lv_at hl 0 rfl) ?_
  refine lv_if_eq (tgt := 17) hx hb dX6_at_12 (by decide) (fun c12 => ?_) (fun c12 => ?_)
  · replace hm := it c12 hm
    refine lv_aload_n hx hb dX6_at_17 rfl (lv_at hl 1 rfl) ?_
    refine lv_aload_n hx hb dX6_at_18 rfl (lv_at hl 1 rfl) ?_
    refine g_6_14_0 C hS dX6_at_19 ?_
    refine lv_iload_n hx hb dX6_at_22 rfl (lv_at hl 2 rfl) ?_
    refine lv_iload_n hx hb dX6_at_23 rfl (lv_at hl 3 rfl) ?_
    obtain ⟨o24, e24, hm⟩ := ob hm
    refine after_i C hS (call_V (As := [.int a1, .int a2]) C hS (c_X3_get_r l d q o7.2 a1 a2 o24 e24 _) iv_6_81 ⟨rfl, rfl, Nat.le_of_ble_eq_true rfl, Nat.le_of_ble_eq_true rfl⟩ cw_o1 rfl rfl rfl hl.1 (Nat.le_of_ble_eq_true rfl) dX6_at_24) (fun H locs hS => ?_)
    obtain ⟨σ27, e27, hm⟩ := ob hm
    refine p_6_60_0 C hS e27 dX6_at_27 (fun H locs hS => ?_)
    refine lv_iconst (v := 1) hx hb dX6_at_30 (by decide) ?_
    exact retIw (wf := cw q d) C hS hm dX6_at_31
  · replace hm := ie c12 hm
    refine lv_iload_n hx hb dX6_at_15 rfl (lv_at hl 0 rfl) ?_
    exact retIw (wf := cw q d) C hS hm dX6_at_16
def M_X3_drop_r (σ : ST) (a1 : Int32) : Option ST := (M_X3_isNumber_r σ a1).bind fun o2 => if o2 = 0 then some σ else (wrA 6 σ 3 a1 (-1)).bind fun σ14 => some σ14
abbrev rm_X3_drop_r : Room := { frames := 1, cells := 0, slots := 0, locals := 21 }
set_option maxRecDepth 100000 in
set_option maxHeartbeats 4000000 in
theorem c_X3_drop_r (l : Launch) (d : CD) (q : Nat → Nat) (σ : ST) (a1 : Int32) (out : ST) (hm : M_X3_drop_r σ a1 = some out) : MetV l yX3_drop cX3_drop 2 (none) rm_X3_drop_r d (cw q d σ) [.ref (q 1), .int a1] (cw q d out) := by
  refine mkV (own := RX3) (by decide +kernel) rfl (Nat.le_of_ble_eq_true rfl) ?_
  intro p e s m below meth c A ls C hS hl
  obtain ⟨hx, hb, hml, hown, hts, -⟩ := id C
  have hl : lv_has ls 2 [(0, .ref (q 1)), (1, .int a1)] := hl
  unfold M_X3_drop_r at hm
  refine lv_aload_n hx hb dX3_drop_0 rfl (lv_at hl 0 rfl) ?_
  refine lv_iload_n hx hb dX3_drop_1 rfl (lv_at hl 1 rfl) ?_
  obtain ⟨o2, e2, hm⟩ := ob hm
  refine after_i C hS (call_V (As := [.int a1]) C hS (c_X3_isNumber_r l d q σ a1 o2 e2 _) iv_3_30 ⟨rfl, rfl, Nat.le_of_ble_eq_true rfl, Nat.le_of_ble_eq_true rfl⟩ cw_o1 rfl rfl rfl hl.1 (Nat.le_of_ble_eq_true rfl) dX3_drop_2) (fun H locs hS => ?_)
  refine lv_if_eq (tgt := 15) hx hb dX3_drop_5 (by decide) (fun c5 => ?_) (fun c5 => ?_)
  · replace hm := it c5 hm
    exact retVw (wf := cw q d) C hS hm dX3_drop_15
  · replace hm := ie c5 hm
    refine lv_aload_n hx hb dX3_drop_8 rfl (lv_at hl 0 rfl) ?_
    refine g_3_20_1 C hS dX3_drop_9 ?_
    refine lv_iload_n hx hb dX3_drop_12 rfl (lv_at hl 1 rfl) ?_
    refine lv_iconst (v := (-1)) hx hb dX3_drop_13 (by decide) ?_
    obtain ⟨σ14, e14, hm⟩ := ob hm
    refine iast' (wf := cw q d) C hS cw_a3 cw_s3 e14 dX3_drop_14 (fun H locs hS => ?_)
    exact retVw (wf := cw q d) C hS hm dX3_drop_15
def M_X6_tear (σ : ST) (a1 : Int32) : Option (Int32 × ST) := (M_X6_refusalOf_r σ a1).bind fun o6 => if o6.1 = 0 then (M_X3_drop_r o6.2 a1).bind fun o21 => some (1, o21) else some (o6.1, o6.2)
abbrev rm_X6_tear : Room := { frames := 3, cells := 0, slots := 0, locals := 64 }
set_option maxRecDepth 100000 in
set_option maxHeartbeats 4000000 in
theorem c_X6_tear (l : Launch) (d : CD) (q : Nat → Nat) (σ : ST) (a1 : Int32) (out : Int32 × ST) (hm : M_X6_tear σ a1 = some out) : MetI l yX6_tear cX6_tear 3 (some .int) rm_X6_tear d (cw q d σ) [.ref (q 0), .int a1] out.1 (cw q d out.2) := by
  refine mkI (own := RX6) (by decide +kernel) rfl (Nat.le_of_ble_eq_true rfl) ?_
  intro p e s m below meth c A ls C hS hl
  obtain ⟨hx, hb, hml, hown, hts, -⟩ := id C
  have hl : lv_has ls 3 [(0, .ref (q 0)), (1, .int a1)] := hl
  unfold M_X6_tear at hm
  refine lv_aload_n hx hb dX6_tear_0 rfl (lv_at hl 0 rfl) ?_
  refine lv_aload_n hx hb dX6_tear_1 rfl (lv_at hl 0 rfl) ?_
  refine g_6_14_0 C hS dX6_tear_2 ?_
  refine lv_iload_n hx hb dX6_tear_5 rfl (lv_at hl 1 rfl) ?_
  obtain ⟨o6, e6, hm⟩ := ob hm
  refine after_i C hS (call_V (As := [.ref (q 1), .int a1]) C hS (c_X6_refusalOf_r l d q σ a1 o6 e6 _) iv_6_89 ⟨rfl, rfl, Nat.le_of_ble_eq_true rfl, Nat.le_of_ble_eq_true rfl⟩ cw_o0 rfl rfl rfl hl.1 (Nat.le_of_ble_eq_true rfl) dX6_tear_6) (fun H locs hS => ?_)
  refine lv_istore_n (lv' := [(2, .int o6.1), (0, .ref (q 0)), (1, .int a1)]) hx hb dX6_tear_9 rfl hl (by decide) rfl (fun ls hl => ?_)
  refine lv_iload_n hx hb dX6_tear_10 rfl (lv_at hl 0 rfl) ?_
  refine lv_if_eq (tgt := 16) hx hb dX6_tear_11 (by decide) (fun c11 => ?_) (fun c11 => ?_)
  · replace hm := it c11 hm
    refine lv_aload_n hx hb dX6_tear_16 rfl (lv_at hl 1 rfl) ?_
    refine g_6_14_0 C hS dX6_tear_17 ?_
    refine lv_iload_n hx hb dX6_tear_20 rfl (lv_at hl 2 rfl) ?_
    obtain ⟨o21, e21, hm⟩ := ob hm
    refine after_v C hS (call_V (As := [.int a1]) C hS (c_X3_drop_r l d q o6.2 a1 o21 e21 _) iv_6_93 ⟨rfl, rfl, Nat.le_of_ble_eq_true rfl, Nat.le_of_ble_eq_true rfl⟩ cw_o1 rfl rfl rfl hl.1 (Nat.le_of_ble_eq_true rfl) dX6_tear_21) (fun H locs hS => ?_)
    refine lv_iconst (v := 1) hx hb dX6_tear_24 (by decide) ?_
    exact retIw (wf := cw q d) C hS hm dX6_tear_25
  · replace hm := ie c11 hm
    refine lv_iload_n hx hb dX6_tear_14 rfl (lv_at hl 0 rfl) ?_
    exact retIw (wf := cw q d) C hS hm dX6_tear_15
