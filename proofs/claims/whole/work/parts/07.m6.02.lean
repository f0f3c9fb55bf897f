def M_X6_refusalOf_t (σ : ST) (a2 : Int32) : Option (Int32 × ST) := (M_X3_isNumber_t σ a2).bind fun o2 => if o2 = 0 then some ((-1), σ) else (M_X3_isThere_t σ a2).bind fun o12 => if o12 = 0 then (M_X6_refuse σ 1).bind fun o24 => some (o24.1, o24.2) else some (0, σ)
abbrev rm_X6_refusalOf_t : Room := { frames := 2, cells := 0, slots := 0, locals := 42 }
set_option maxRecDepth 100000 in
set_option maxHeartbeats 4000000 in
theorem c_X6_refusalOf_t (l : Launch) (d : CD) (q : Nat → Nat) (σ : ST) (a2 : Int32) (out : Int32 × ST) (hm : M_X6_refusalOf_t σ a2 = some out) : MetI l yX6_refusalOf cX6_refusalOf 3 (some .int) rm_X6_refusalOf_t d (cw q d σ) [.ref (q 0), .ref (q 10), .int a2] out.1 (cw q d out.2) := by
  refine mkI (own := RX6) (by decide +kernel) rfl (Nat.le_of_ble_eq_true rfl) ?_
  intro p e s m below meth c A ls C hS hl
  obtain ⟨hx, hb, hml, hown, hts, -⟩ := id C
  have hl : lv_has ls 3 [(0, .ref (q 0)), (1, .ref (q 10)), (2, .int a2)] := hl
  unfold M_X6_refusalOf_t at hm
  refine lv_aload_n hx hb dX6_refusalOf_0 rfl (lv_at hl 1 rfl) ?_
  refine lv_iload_n hx hb dX6_refusalOf_1 rfl (lv_at hl 2 rfl) ?_
  obtain ⟨o2, e2, hm⟩ := ob hm
  refine after_i C hS (call_V (As := [.int a2]) C hS (c_X3_isNumber_t l d q σ a2 o2 e2 _) iv_6_96 ⟨rfl, rfl, Nat.le_of_ble_eq_true rfl, Nat.le_of_ble_eq_true rfl⟩ cw_o10 rfl rfl rfl hl.1 (Nat.le_of_ble_eq_true rfl) dX6_refusalOf_2) (fun H locs hS => ?_)
  refine lv_if_ne (tgt := 10) hx hb dX6_refusalOf_5 (by decide) (fun c5 => ?_) (fun c5 => ?_)
  · replace hm := ie c5 hm
    refine lv_aload_n hx hb dX6_refusalOf_10 rfl (lv_at hl 1 rfl) ?_
    refine lv_iload_n hx hb dX6_refusalOf_11 rfl (lv_at hl 2 rfl) ?_
    obtain ⟨o12, e12, hm⟩ := ob hm
    refine after_i C hS (call_V (As := [.int a2]) C hS (c_X3_isThere_t l d q σ a2 o12 e12 _) iv_6_104 ⟨rfl, rfl, Nat.le_of_ble_eq_true rfl, Nat.le_of_ble_eq_true rfl⟩ cw_o10 rfl rfl rfl hl.1 (Nat.le_of_ble_eq_true rfl) dX6_refusalOf_12) (fun H locs hS => ?_)
    refine lv_if_eq (tgt := 22) hx hb dX6_refusalOf_15 (by decide) (fun c15 => ?_) (fun c15 => ?_)
    · replace hm := it c15 hm
      refine lv_aload_n hx hb dX6_refusalOf_22 rfl (lv_at hl 0 rfl) ?_
      refine lv_iconst (v := 1) hx hb dX6_refusalOf_23 (by decide) ?_
      obtain ⟨o24, e24, hm⟩ := ob hm
      refine after_i C hS (call_V (As := [.int 1]) C hS (c_X6_refuse l d q σ 1 o24 e24 _) iv_6_100 ⟨rfl, rfl, Nat.le_of_ble_eq_true rfl, Nat.le_of_ble_eq_true rfl⟩ cw_o0 rfl rfl rfl hl.1 (Nat.le_of_ble_eq_true rfl) dX6_refusalOf_24) (fun H locs hS => ?_)
      exact retIw (wf := cw q d) C hS hm dX6_refusalOf_27
    · replace hm := ie c15 hm
      refine lv_iconst (v := 0) hx hb dX6_refusalOf_18 (by decide) ?_
      refine lv_goto (tgt := 27) hx hb dX6_refusalOf_19 (by decide) ?_
      exact retIw (wf := cw q d) C hS hm dX6_refusalOf_27
  · replace hm := it c5 hm
    refine lv_iconst (v := (-1)) hx hb dX6_refusalOf_8 (by decide) ?_
    exact retIw (wf := cw q d) C hS hm dX6_refusalOf_9
def M_X3_isPlace_t (σ : ST) (a1 : Int32) (a2 : Int32) : Option Int32 := (M_X3_isThere_t σ a1).bind fun o2 => if o2 = 0 then okZ 0 else if a2 < 0 then okZ 0 else (rd 4 (σ.2.2 12) a1).bind fun v18 => if v18 ≤ a2 then okZ 0 else okZ 1
abbrev rm_X3_isPlace_t : Room := { frames := 2, cells := 0, slots := 0, locals := 42 }
set_option maxRecDepth 100000 in
set_option maxHeartbeats 4000000 in
theorem c_X3_isPlace_t (l : Launch) (d : CD) (q : Nat → Nat) (σ : ST) (a1 : Int32) (a2 : Int32) (out : Int32) (hm : M_X3_isPlace_t σ a1 a2 = some out) : MetI l yX3_isPlace cX3_isPlace 3 (some .boolean) rm_X3_isPlace_t d (cw q d σ) [.ref (q 10), .int a1, .int a2] out (cw q d σ) := by
  refine mkI (own := RX3) (by decide +kernel) rfl (Nat.le_of_ble_eq_true rfl) ?_
  intro p e s m below meth c A ls C hS hl
  obtain ⟨hx, hb, hml, hown, hts, -⟩ := id C
  have hl : lv_has ls 3 [(0, .ref (q 10)), (1, .int a1), (2, .int a2)] := hl
  unfold M_X3_isPlace_t at hm
  refine lv_aload_n hx hb dX3_isPlace_0 rfl (lv_at hl 0 rfl) ?_
  refine lv_iload_n hx hb dX3_isPlace_1 rfl (lv_at hl 1 rfl) ?_
  obtain ⟨o2, e2, hm⟩ := ob hm
  refine after_i C hS (call_V (As := [.int a1]) C hS (c_X3_isThere_t l d q σ a1 o2 e2 _) iv_3_34 ⟨rfl, rfl, Nat.le_of_ble_eq_true rfl, Nat.le_of_ble_eq_true rfl⟩ cw_o10 rfl rfl rfl hl.1 (Nat.le_of_ble_eq_true rfl) dX3_isPlace_2) (fun H locs hS => ?_)
  refine lv_if_eq (tgt := 26) hx hb dX3_isPlace_5 (by decide) (fun c5 => ?_) (fun c5 => ?_)
  · replace hm := it c5 hm
    refine lv_iconst (v := 0) hx hb dX3_isPlace_26 (by decide) ?_
    exact retZr C hS hm dX3_isPlace_27
  · replace hm := ie c5 hm
    refine lv_iload_n hx hb dX3_isPlace_8 rfl (lv_at hl 2 rfl) ?_
    refine lv_if_lt (tgt := 26) hx hb dX3_isPlace_9 (by decide) (fun c9 => ?_) (fun c9 => ?_)
    · replace hm := it c9 hm
      refine lv_iconst (v := 0) hx hb dX3_isPlace_26 (by decide) ?_
      exact retZr C hS hm dX3_isPlace_27
    · replace hm := ie c9 hm
      refine lv_iload_n hx hb dX3_isPlace_12 rfl (lv_at hl 2 rfl) ?_
      refine lv_aload_n hx hb dX3_isPlace_13 rfl (lv_at hl 0 rfl) ?_
      refine g_3_20_10 C hS dX3_isPlace_14 ?_
      refine lv_iload_n hx hb dX3_isPlace_17 rfl (lv_at hl 1 rfl) ?_
      obtain ⟨v18, e18, hm⟩ := ob hm
      refine iald' C hS cw_a12 e18 dX3_isPlace_18 ?_
      refine lv_icmp_ge (tgt := 26) hx hb dX3_isPlace_19 (by decide) (fun c19 => ?_) (fun c19 => ?_)
      · replace hm := it c19 hm
        refine lv_iconst (v := 0) hx hb dX3_isPlace_26 (by decide) ?_
        exact retZr C hS hm dX3_isPlace_27
      · replace hm := ie c19 hm
        refine lv_iconst (v := 1) hx hb dX3_isPlace_22 (by decide) ?_
        refine lv_goto (tgt := 27) hx hb dX3_isPlace_23 (by decide) ?_
        exact retZr C hS hm dX3_isPlace_27
def M_X6_refusalOfPlace_t (σ : ST) (a2 : Int32) (a3 : Int32) : Option (Int32 × ST) := (M_X6_refusalOf_t σ a2).bind fun o3 => if o3.1 = 0 then (M_X3_isPlace_t o3.2 a2 a3).bind fun o19 => if o19 = 0 then (M_X6_refuse o3.2 2).bind fun o31 => some (o31.1, o31.2) else some (0, o3.2) else some (o3.1, o3.2)
abbrev rm_X6_refusalOfPlace_t : Room := { frames := 3, cells := 0, slots := 0, locals := 64 }
set_option maxRecDepth 100000 in
set_option maxHeartbeats 4000000 in
theorem c_X6_refusalOfPlace_t (l : Launch) (d : CD) (q : Nat → Nat) (σ : ST) (a2 : Int32) (a3 : Int32) (out : Int32 × ST) (hm : M_X6_refusalOfPlace_t σ a2 a3 = some out) : MetI l yX6_refusalOfPlace cX6_refusalOfPlace 5 (some .int) rm_X6_refusalOfPlace_t d (cw q d σ) [.ref (q 0), .ref (q 10), .int a2, .int a3] out.1 (cw q d out.2) := by
  refine mkI (own := RX6) (by decide +kernel) rfl (Nat.le_of_ble_eq_true rfl) ?_
  intro p e s m below meth c A ls C hS hl
  obtain ⟨hx, hb, hml, hown, hts, -⟩ := id C
  have hl : lv_has ls 5 [(0, .ref (q 0)), (1, .ref (q 10)), (2, .int a2), (3, .int a3)] := hl
  unfold M_X6_refusalOfPlace_t at hm
  refine lv_aload_n hx hb dX6_refusalOfPlace_0 rfl (lv_at hl 0 rfl) ?_
  refine lv_aload_n hx hb dX6_refusalOfPlace_1 rfl (lv_at hl 1 rfl) ?_
  refine lv_iload_n hx hb dX6_refusalOfPlace_2 rfl (lv_at hl 2 rfl) ?_
  obtain ⟨o3, e3, hm⟩ := ob hm
  refine after_i C hS (call_V (As := [.ref (q 10), .int a2]) C hS (c_X6_refusalOf_t l d q σ a2 o3 e3 _) iv_6_89 ⟨rfl, rfl, Nat.le_of_ble_eq_true rfl, Nat.le_of_ble_eq_true rfl⟩ cw_o0 rfl rfl rfl hl.1 (Nat.le_of_ble_eq_true rfl) dX6_refusalOfPlace_3) (fun H locs hS => ?_)
  refine lv_istore (lv' := [(4, .int o3.1), (0, .ref (q 0)), (1, .ref (q 10)), (2, .int a2), (3, .int a3)]) hx hb dX6_refusalOfPlace_6 hl (by decide) rfl (fun ls hl => ?_)
  refine lv_iload hx hb dX6_refusalOfPlace_8 (lv_at hl 0 rfl) ?_
  refine lv_if_eq (tgt := 16) hx hb dX6_refusalOfPlace_10 (by decide) (fun c10 => ?_) (fun c10 => ?_)
  · replace hm := it c10 hm
    refine lv_aload_n hx hb dX6_refusalOfPlace_16 rfl (lv_at hl 2 rfl) ?_
    refine lv_iload_n hx hb dX6_refusalOfPlace_17 rfl (lv_at hl 3 rfl) ?_
    refine lv_iload_n hx hb dX6_refusalOfPlace_18 rfl (lv_at hl 4 rfl) ?_
    obtain ⟨o19, e19, hm⟩ := ob hm
    refine after_i C hS (call_V (As := [.int a2, .int a3]) C hS (c_X3_isPlace_t l d q o3.2 a2 a3 o19 e19 _) iv_6_309 ⟨rfl, rfl, Nat.le_of_ble_eq_true rfl, Nat.le_of_ble_eq_true rfl⟩ cw_o10 rfl rfl rfl hl.1 (Nat.le_of_ble_eq_true rfl) dX6_refusalOfPlace_19) (fun H locs hS => ?_)
    refine lv_if_eq (tgt := 29) hx hb dX6_refusalOfPlace_22 (by decide) (fun c22 => ?_) (fun c22 => ?_)
    · replace hm := it c22 hm
      refine lv_aload_n hx hb dX6_refusalOfPlace_29 rfl (lv_at hl 1 rfl) ?_
      refine lv_iconst (v := 2) hx hb dX6_refusalOfPlace_30 (by decide) ?_
      obtain ⟨o31, e31, hm⟩ := ob hm
      refine after_i C hS (call_V (As := [.int 2]) C hS (c_X6_refuse l d q o3.2 2 o31 e31 _) iv_6_100 ⟨rfl, rfl, Nat.le_of_ble_eq_true rfl, Nat.le_of_ble_eq_true rfl⟩ cw_o0 rfl rfl rfl hl.1 (Nat.le_of_ble_eq_true rfl) dX6_refusalOfPlace_31) (fun H locs hS => ?_)
      exact retIw (wf := cw q d) C hS hm dX6_refusalOfPlace_34
    · replace hm := ie c22 hm
      refine lv_iconst (v := 0) hx hb dX6_refusalOfPlace_25 (by decide) ?_
      refine lv_goto (tgt := 34) hx hb dX6_refusalOfPlace_26 (by decide) ?_
      exact retIw (wf := cw q d) C hS hm dX6_refusalOfPlace_34
  · replace hm := ie c10 hm
    refine lv_iload hx hb dX6_refusalOfPlace_13 (lv_at hl 0 rfl) ?_
    exact retIw (wf := cw q d) C hS hm dX6_refusalOfPlace_15
def M_X3_get_t (σ : ST) (a1 : Int32) (a2 : Int32) : Option Int32 := (M_X3_isPlace_t σ a1 a2).bind fun o3 => if o3 = 0 then some 0 else (inR 4 a1).bind fun j14 => (rd 80 (σ.2.2 (13 + j14)) a2).bind fun v16 => some v16
abbrev rm_X3_get_t : Room := { frames := 3, cells := 0, slots := 0, locals := 64 }
set_option maxRecDepth 100000 in
set_option maxHeartbeats 4000000 in
theorem c_X3_get_t (l : Launch) (d : CD) (q : Nat → Nat) (σ : ST) (a1 : Int32) (a2 : Int32) (out : Int32) (hm : M_X3_get_t σ a1 a2 = some out) : MetI l yX3_get cX3_get 3 (some .int) rm_X3_get_t d (cw q d σ) [.ref (q 10), .int a1, .int a2] out (cw q d σ) := by
  refine mkI (own := RX3) (by decide +kernel) rfl (Nat.le_of_ble_eq_true rfl) ?_
  intro p e s m below meth c A ls C hS hl
  obtain ⟨hx, hb, hml, hown, hts, -⟩ := id C
  have hl : lv_has ls 3 [(0, .ref (q 10)), (1, .int a1), (2, .int a2)] := hl
  unfold M_X3_get_t at hm
  refine lv_aload_n hx hb dX3_get_0 rfl (lv_at hl 0 rfl) ?_
  refine lv_iload_n hx hb dX3_get_1 rfl (lv_at hl 1 rfl) ?_
  refine lv_iload_n hx hb dX3_get_2 rfl (lv_at hl 2 rfl) ?_
  obtain ⟨o3, e3, hm⟩ := ob hm
  refine after_i C hS (call_V (As := [.int a1, .int a2]) C hS (c_X3_isPlace_t l d q σ a1 a2 o3 e3 _) iv_3_37 ⟨rfl, rfl, Nat.le_of_ble_eq_true rfl, Nat.le_of_ble_eq_true rfl⟩ cw_o10 rfl rfl rfl hl.1 (Nat.le_of_ble_eq_true rfl) dX3_get_3) (fun H locs hS => ?_)
  refine lv_if_eq (tgt := 20) hx hb dX3_get_6 (by decide) (fun c6 => ?_) (fun c6 => ?_)
  · replace hm := it c6 hm
    refine lv_iconst (v := 0) hx hb dX3_get_20 (by decide) ?_
    exact retIr C hS hm dX3_get_21
  · replace hm := ie c6 hm
    refine lv_aload_n hx hb dX3_get_9 rfl (lv_at hl 0 rfl) ?_
    refine g_3_17_10 C hS dX3_get_10 ?_
    refine lv_iload_n hx hb dX3_get_13 rfl (lv_at hl 1 rfl) ?_
    obtain ⟨j14, e14, hm⟩ := ob hm
    have hj14 := inR_lt e14
    refine aaldI (g := fun j => q (13 + j)) C hS cw_r11 e14 dX3_get_14 ?_
    refine lv_iload_n hx hb dX3_get_15 rfl (lv_at hl 2 rfl) ?_
    obtain ⟨v16, e16, hm⟩ := ob hm
    refine iald' C hS (cw_af13 hj14) e16 dX3_get_16 ?_
    refine lv_goto (tgt := 21) hx hb dX3_get_17 (by decide) ?_
    exact retIr C hS hm dX3_get_21
def M_X3_set_t (σ : ST) (a1 : Int32) (a2 : Int32) (a3 : Int32) : Option ST := (M_X3_isPlace_t σ a1 a2).bind fun o3 => if o3 = 0 then some σ else (inR 4 a1).bind fun j14 => (wrA 80 σ (13 + j14) a2 a3).bind fun σ17 => some σ17
abbrev rm_X3_set_t : Room := { frames := 3, cells := 0, slots := 0, locals := 64 }
set_option maxRecDepth 100000 in
set_option maxHeartbeats 4000000 in
theorem c_X3_set_t (l : Launch) (d : CD) (q : Nat → Nat) (σ : ST) (a1 : Int32) (a2 : Int32) (a3 : Int32) (out : ST) (hm : M_X3_set_t σ a1 a2 a3 = some out) : MetV l yX3_set cX3_set 4 (none) rm_X3_set_t d (cw q d σ) [.ref (q 10), .int a1, .int a2, .int a3] (cw q d out) := by
  refine mkV (own := RX3) (by decide +kernel) rfl (Nat.le_of_ble_eq_true rfl) ?_
  intro p e s m below meth c A ls C hS hl
  obtain ⟨hx, hb, hml, hown, hts, -⟩ := id C
  have hl : lv_has ls 4 [(0, .ref (q 10)), (1, .int a1), (2, .int a2), (3, .int a3)] := hl
  unfold M_X3_set_t at hm
  refine lv_aload_n hx hb dX3_set_0 rfl (lv_at hl 0 rfl) ?_
  refine lv_iload_n hx hb dX3_set_1 rfl (lv_at hl 1 rfl) ?_
  refine lv_iload_n hx hb dX3_set_2 rfl (lv_at hl 2 rfl) ?_
  obtain ⟨o3, e3, hm⟩ := ob hm
  refine after_i C hS (call_V (As := [.int a1, .int a2]) C hS (c_X3_isPlace_t l d q σ a1 a2 o3 e3 _) iv_3_37 ⟨rfl, rfl, Nat.le_of_ble_eq_true rfl, Nat.le_of_ble_eq_true rfl⟩ cw_o10 rfl rfl rfl hl.1 (Nat.le_of_ble_eq_true rfl) dX3_set_3) (fun H locs hS => ?_)
  refine lv_if_eq (tgt := 18) hx hb dX3_set_6 (by decide) (fun c6 => ?_) (fun c6 => ?_)
  · replace hm := it c6 hm
    exact retVw (wf := cw q d) C hS hm dX3_set_18
  · replace hm := ie c6 hm
    refine lv_aload_n hx hb dX3_set_9 rfl (lv_at hl 0 rfl) ?_
    refine g_3_17_10 C hS dX3_set_10 ?_
    refine lv_iload_n hx hb dX3_set_13 rfl (lv_at hl 1 rfl) ?_
    obtain ⟨j14, e14, hm⟩ := ob hm
    have hj14 := inR_lt e14
    refine aaldI (g := fun j => q (13 + j)) C hS cw_r11 e14 dX3_set_14 ?_
    refine lv_iload_n hx hb dX3_set_15 rfl (lv_at hl 2 rfl) ?_
    refine lv_iload_n hx hb dX3_set_16 rfl (lv_at hl 3 rfl) ?_
    obtain ⟨σ17, e17, hm⟩ := ob hm
    refine iast' (wf := cw q d) C hS (cw_af13 hj14) (cw_sf13 hj14) e17 dX3_set_17 (fun H locs hS => ?_)
    exact retVw (wf := cw q d) C hS hm dX3_set_18
def M_X6_put (σ : ST) (a1 : Int32) (a2 : Int32) (a3 : Int32) : Option (Int32 × ST) := (M_X6_refusalOfPlace_t σ a1 a2).bind fun o7 => if o7.1 = 0 then (M_X3_get_t o7.2 a1 a2).bind fun o26 => (M_X3_set_t o7.2 a1 a2 a3.toInt8.toInt32).bind fun o39 => some (o26 + 1000, o39) else some (o7.1, o7.2)
abbrev rm_X6_put : Room := { frames := 4, cells := 0, slots := 0, locals := 88 }
set_option maxRecDepth 100000 in
set_option maxHeartbeats 4000000 in
theorem c_X6_put (l : Launch) (d : CD) (q : Nat → Nat) (σ : ST) (a1 : Int32) (a2 : Int32) (a3 : Int32) (out : Int32 × ST) (hm : M_X6_put σ a1 a2 a3 = some out) : MetI l yX6_put cX6_put 6 (some .int) rm_X6_put d (cw q d σ) [.ref (q 0), .int a1, .int a2, .int a3] out.1 (cw q d out.2) := by
  refine mkI (own := RX6) (by decide +kernel) rfl (Nat.le_of_ble_eq_true rfl) ?_
  intro p e s m below meth c A ls C hS hl
  obtain ⟨hx, hb, hml, hown, hts, -⟩ := id C
  have hl : lv_has ls 6 [(0, .ref (q 0)), (1, .int a1), (2, .int a2), (3, .int a3)] := hl
  unfold M_X6_put at hm
  refine lv_aload_n hx hb dX6_put_0 rfl (lv_at hl 0 rfl) ?_
  refine lv_aload_n hx hb dX6_put_1 rfl (lv_at hl 0 rfl) ?_
  refine g_6_18_0 C hS dX6_put_2 ?_
  refine lv_iload_n hx hb dX6_put_5 rfl (lv_at hl 1 rfl) ?_
  refine lv_iload_n hx hb dX6_put_6 rfl (lv_at hl 2 rfl) ?_
  obtain ⟨o7, e7, hm⟩ := ob hm
  refine after_i C hS (call_V (As := [.ref (q 10), .int a1, .int a2]) C hS (c_X6_refusalOfPlace_t l d q σ a1 a2 o7 e7 _) iv_6_77 ⟨rfl, rfl, Nat.le_of_ble_eq_true rfl, Nat.le_of_ble_eq_true rfl⟩ cw_o0 rfl rfl rfl hl.1 (Nat.le_of_ble_eq_true rfl) dX6_put_7) (fun H locs hS => ?_)
  refine lv_istore (lv' := [(4, .int o7.1), (0, .ref (q 0)), (1, .int a1), (2, .int a2), (3, .int a3)]) hx hb dX6_put_10 hl (by decide) rfl (fun ls hl => ?_)
  refine lv_iload hx hb dX6_put_12 (lv_at hl 0 rfl) ?_
  refine lv_if_eq (tgt := 20) hx hb dX6_put_14 (by decide) (fun c14 => ?_) (fun c14 => ?_)
  · replace hm := it c14 hm
    refine lv_aload_n hx hb dX6_put_20 rfl (lv_at hl 1 rfl) ?_
    refine g_6_18_0 C hS dX6_put_21 ?_
    refine lv_iload_n hx hb dX6_put_24 rfl (lv_at hl 2 rfl) ?_
    refine lv_iload_n hx hb dX6_put_25 rfl (lv_at hl 3 rfl) ?_
    obtain ⟨o26, e26, hm⟩ := ob hm
    refine after_i C hS (call_V (As := [.int a1, .int a2]) C hS (c_X3_get_t l d q o7.2 a1 a2 o26 e26 _) iv_6_81 ⟨rfl, rfl, Nat.le_of_ble_eq_true rfl, Nat.le_of_ble_eq_true rfl⟩ cw_o10 rfl rfl rfl hl.1 (Nat.le_of_ble_eq_true rfl) dX6_put_26) (fun H locs hS => ?_)
    refine lv_istore (lv' := [(5, .int o26), (4, .int o7.1), (0, .ref (q 0)), (1, .int a1), (2, .int a2), (3, .int a3)]) hx hb dX6_put_29 hl (by decide) rfl (fun ls hl => ?_)
    refine lv_aload_n hx hb dX6_put_31 rfl (lv_at hl 2 rfl) ?_
    refine g_6_18_0 C hS dX6_put_32 ?_
    refine lv_iload_n hx hb dX6_put_35 rfl (lv_at hl 3 rfl) ?_
    refine lv_iload_n hx hb dX6_put_36 rfl (lv_at hl 4 rfl) ?_
    refine lv_iload_n hx hb dX6_put_37 rfl (lv_at hl 5 rfl) ?_
    refine lv_i2b (v := a3.toInt8.toInt32) hx hb dX6_put_38 rfl ?_
    obtain ⟨o39, e39, hm⟩ := ob hm
    refine after_v C hS (call_V (As := [.int a1, .int a2, .int a3.toInt8.toInt32]) C hS (c_X3_set_t l d q o7.2 a1 a2 a3.toInt8.toInt32 o39 e39 _) iv_6_85 ⟨rfl, rfl, Nat.le_of_ble_eq_true rfl, Nat.le_of_ble_eq_true rfl⟩ cw_o10 rfl rfl rfl hl.1 (Nat.le_of_ble_eq_true rfl) dX6_put_39) (fun H locs hS => ?_)
    refine lv_iload hx hb dX6_put_42 (lv_at hl 0 rfl) ?_
    refine lv_sipush (v := 1000) hx hb dX6_put_44 (by decide) ?_
    refine lv_iadd hx hb dX6_put_47 ?_
    exact retIw (wf := cw q d) C hS hm dX6_put_48
  · replace hm := ie c14 hm
    refine lv_iload hx hb dX6_put_17 (lv_at hl 0 rfl) ?_
    exact retIw (wf := cw q d) C hS hm dX6_put_19
def M_X2_sign (σ : ST) : Option Int32 := if (σ.1 13) < 0 then some 256 else if (σ.1 12) ≤ (σ.1 13) then some 256 else if 80 ≤ (σ.1 13) then some 256 else (rd 80 (σ.2.2 43) (σ.1 13)).bind fun v38 => some v38
abbrev rm_X2_sign : Room := { frames := 0, cells := 0, slots := 0, locals := 0 }
set_option maxRecDepth 100000 in
set_option maxHeartbeats 4000000 in
theorem c_X2_sign (l : Launch) (d : CD) (q : Nat → Nat) (σ : ST) (out : Int32) (hm : M_X2_sign σ = some out) : MetI l yX2_sign cX2_sign 1 (some .int) rm_X2_sign d (cw q d σ) [.ref (q 17)] out (cw q d σ) := by
  refine mkI (own := RX2) (by decide +kernel) rfl (Nat.le_of_ble_eq_true rfl) ?_
  intro p e s m below meth c A ls C hS hl
  obtain ⟨hx, hb, hml, hown, hts, -⟩ := id C
  have hl : lv_has ls 1 [(0, .ref (q 17))] := hl
  unfold M_X2_sign at hm
  refine lv_aload_n hx hb dX2_sign_0 rfl (lv_at hl 0 rfl) ?_
  refine g_2_36_17 C hS dX2_sign_1 ?_
  refine lv_if_lt (tgt := 42) hx hb dX2_sign_4 (by decide) (fun c4 => ?_) (fun c4 => ?_)
  · replace hm := it c4 hm
    refine lv_sipush (v := 256) hx hb dX2_sign_42 (by decide) ?_
    exact retIr C hS hm dX2_sign_45
  · replace hm := ie c4 hm
    refine lv_aload_n hx hb dX2_sign_7 rfl (lv_at hl 0 rfl) ?_
    refine g_2_36_17 C hS dX2_sign_8 ?_
    refine lv_aload_n hx hb dX2_sign_11 rfl (lv_at hl 0 rfl) ?_
    refine g_2_32_17 C hS dX2_sign_12 ?_
    refine lv_icmp_ge (tgt := 42) hx hb dX2_sign_15 (by decide) (fun c15 => ?_) (fun c15 => ?_)
    · replace hm := it c15 hm
      refine lv_sipush (v := 256) hx hb dX2_sign_42 (by decide) ?_
      exact retIr C hS hm dX2_sign_45
    · replace hm := ie c15 hm
      refine lv_aload_n hx hb dX2_sign_18 rfl (lv_at hl 0 rfl) ?_
      refine g_2_36_17 C hS dX2_sign_19 ?_
      refine lv_aload_n hx hb dX2_sign_22 rfl (lv_at hl 0 rfl) ?_
      refine g_2_9_17 C hS dX2_sign_23 ?_
      refine alen' (v := 80) C hS cw_a43 rfl dX2_sign_26 ?_
      refine lv_icmp_ge (tgt := 42) hx hb dX2_sign_27 (by decide) (fun c27 => ?_) (fun c27 => ?_)
      · replace hm := it c27 hm
        refine lv_sipush (v := 256) hx hb dX2_sign_42 (by decide) ?_
        exact retIr C hS hm dX2_sign_45
      · replace hm := ie c27 hm
        refine lv_aload_n hx hb dX2_sign_30 rfl (lv_at hl 0 rfl) ?_
        refine g_2_9_17 C hS dX2_sign_31 ?_
        refine lv_aload_n hx hb dX2_sign_34 rfl (lv_at hl 0 rfl) ?_
        refine g_2_36_17 C hS dX2_sign_35 ?_
        obtain ⟨v38, e38, hm⟩ := ob hm
        refine iald' C hS cw_a43 e38 dX2_sign_38 ?_
        refine lv_goto (tgt := 45) hx hb dX2_sign_39 (by decide) ?_
        exact retIr C hS hm dX2_sign_45
def M_X2_skipBlanks_0 : Nat → ST → Option ST
  | 0, _ => none
  | n + 1, σ => if (σ.1 12) ≤ (σ.1 13) then some σ else (M_X2_sign σ).bind fun o12 => if o12 = 32 then (some (setI σ 13 ((σ.1 13) + 1))).bind fun σ27 => M_X2_skipBlanks_0 n σ27 else some σ
def M_X2_skipBlanks (σ : ST) : Option ST := M_X2_skipBlanks_0 10000 σ
abbrev rm_X2_skipBlanks : Room := { frames := 1, cells := 0, slots := 0, locals := 20 }
set_option maxRecDepth 100000 in
set_option maxHeartbeats 4000000 in
theorem c_X2_skipBlanks (l : Launch) (d : CD) (q : Nat → Nat) (σ : ST) (out : ST) (hm : M_X2_skipBlanks σ = some out) : MetV l yX2_skipBlanks cX2_skipBlanks 1 (none) rm_X2_skipBlanks d (cw q d σ) [.ref (q 17)] (cw q d out) := by
  refine mkV (own := RX2) (by decide +kernel) rfl (Nat.le_of_ble_eq_true rfl) ?_
  intro p e s m below meth c A ls C hS hl
  obtain ⟨hx, hb, hml, hown, hts, -⟩ := id C
  have hl : lv_has ls 1 [(0, .ref (q 17))] := hl
  have L0 : ∀ (n : Nat) (σ : ST) (H : Heap) (locs : List Loc) (ls : Array Slot), HS d A s.heap H locs (cw q d σ) → lv_has ls 1 [(0, .ref (q 17))] → M_X2_skipBlanks_0 n σ = some out → WV p l e rm_X2_skipBlanks s m [.ref (q 17)].toArray below meth c A d H locs (cw q d out) (F0 m 0 ls []) := by
    intro n
    induction n with
    | zero =>
      intro σ H locs ls hS hl hm
      exact absurd hm (by rw [M_X2_skipBlanks_0]; exact fun h => nomatch h)
    | succ n ih =>
      intro σ H locs ls hS hl hm
      rw [M_X2_skipBlanks_0] at hm
      refine lv_aload_n hx hb dX2_skipBlanks_0 rfl (lv_at hl 0 rfl) ?_
      refine g_2_36_17 C hS dX2_skipBlanks_1 ?_
      refine lv_aload_n hx hb dX2_skipBlanks_4 rfl (lv_at hl 0 rfl) ?_
      refine g_2_32_17 C hS dX2_skipBlanks_5 ?_
      refine lv_icmp_ge (tgt := 33) hx hb dX2_skipBlanks_8 (by decide) (fun c8 => ?_) (fun c8 => ?_)
      · replace hm := it c8 hm
        exact retVw (wf := cw q d) C hS hm dX2_skipBlanks_33
      · replace hm := ie c8 hm
        refine lv_aload_n hx hb dX2_skipBlanks_11 rfl (lv_at hl 0 rfl) ?_
        obtain ⟨o12, e12, hm⟩ := ob hm
        refine after_i C hS (call_V (As := []) C hS (c_X2_sign l d q σ o12 e12 _) iv_2_49 ⟨rfl, rfl, Nat.le_of_ble_eq_true rfl, Nat.le_of_ble_eq_true rfl⟩ cw_o17 rfl rfl rfl hl.1 (Nat.le_of_ble_eq_true rfl) dX2_skipBlanks_12) (fun H locs hS => ?_)
        refine lv_bipush (v := 32) hx hb dX2_skipBlanks_15 (by decide) ?_
        refine lv_icmp_ne (tgt := 33) hx hb dX2_skipBlanks_17 (by decide) (fun c17 => ?_) (fun c17 => ?_)
        · replace hm := ie c17 hm
          exact retVw (wf := cw q d) C hS hm dX2_skipBlanks_33
        · replace hm := it c17 hm
          refine lv_aload_n hx hb dX2_skipBlanks_20 rfl (lv_at hl 0 rfl) ?_
          refine lv_dup hx hb dX2_skipBlanks_21 rfl ?_
          refine g_2_36_17 C hS dX2_skipBlanks_22 ?_
          refine lv_iconst (v := 1) hx hb dX2_skipBlanks_25 (by decide) ?_
          refine lv_iadd hx hb dX2_skipBlanks_26 ?_
          obtain ⟨σ27, e27, hm⟩ := ob hm
          refine p_2_36_17 C hS e27 dX2_skipBlanks_27 (fun H locs hS => ?_)
          refine lv_goto (tgt := 0) hx hb dX2_skipBlanks_30 (by decide) ?_
          exact ih σ27 _ _ _ hS (lv_sub hl [0] rfl) hm
  unfold M_X2_skipBlanks at hm
  exact L0 10000 σ _ _ _ hS (lv_sub hl [0] rfl) hm
def M_X2_kindOf_2 : Nat → Int32 → Int32 → Option Int32
  | 0, _, _ => none
  | n + 1, x0, x1 => if 5 < x1 then some (-1) else (rd 6 kindL x1).bind fun v10 => if v10 = x0 then some x1 else M_X2_kindOf_2 n x0 (x1 + 1)
def M_X2_kindOf (a0 : Int32) : Option Int32 := M_X2_kindOf_2 10000 a0 0
abbrev rm_X2_kindOf : Room := { frames := 5, cells := 0, slots := 0, locals := 219 }
set_option maxRecDepth 100000 in
set_option maxHeartbeats 4000000 in
theorem c_X2_kindOf (l : Launch) (d : CD) (w : va_W) (a0 : Int32) (out : Int32) (hm : M_X2_kindOf a0 = some out) : MetI l yX2_kindOf cX2_kindOf 2 (some .int) rm_X2_kindOf d w [.int a0] out w := by
  refine mkI (own := RX2) (by decide +kernel) rfl (Nat.le_of_ble_eq_true rfl) ?_
  intro p e s m below meth c A ls C hS hl
  obtain ⟨hx, hb, hml, hown, hts, -⟩ := id C
  have hl : lv_has ls 2 [(0, .int a0)] := hl
  have L2 : ∀ (n : Nat) (x0 : Int32) (x1 : Int32) (H : Heap) (locs : List Loc) (ls : Array Slot), HS d A s.heap H locs w → lv_has ls 2 [(0, .int x0), (1, .int x1)] → M_X2_kindOf_2 n x0 x1 = some out → WI p l e rm_X2_kindOf s m [.int a0].toArray below meth c A d H locs out w (F0 m 2 ls []) := by
    intro n
    induction n with
    | zero =>
      intro x0 x1 H locs ls hS hl hm
      exact absurd hm (by rw [M_X2_kindOf_2]; exact fun h => nomatch h)
    | succ n ih =>
      intro x0 x1 H locs ls hS hl hm
      rw [M_X2_kindOf_2] at hm
      refine lv_iload_n hx hb dX2_kindOf_2 rfl (lv_at hl 1 rfl) ?_
      refine lv_iconst (v := 5) hx hb dX2_kindOf_3 (by decide) ?_
      refine lv_icmp_gt (tgt := 25) hx hb dX2_kindOf_4 (by decide) (fun c4 => ?_) (fun c4 => ?_)
      · replace hm := it c4 hm
        refine lv_iconst (v := (-1)) hx hb dX2_kindOf_25 (by decide) ?_
        exact retIr C hS hm dX2_kindOf_26
      · replace hm := ie c4 hm
        refine ldcS C dX2_kindOf_7 ?_
        refine lv_iload_n hx hb dX2_kindOf_9 rfl (lv_at hl 1 rfl) ?_
        obtain ⟨v10, e10, hm⟩ := ob hm
        refine after_i C hS (call_Sv (As := [.int x1]) C hS (c_charAt e10 _) iv_2_104 rfl ⟨rfl, rfl, Nat.le_of_ble_eq_true rfl, Nat.le_of_ble_eq_true rfl⟩ rfl hl.1 (Nat.le_of_ble_eq_true rfl) dX2_kindOf_10) (fun H locs hS => ?_)
        refine lv_iload_n hx hb dX2_kindOf_13 rfl (lv_at hl 0 rfl) ?_
        refine lv_icmp_ne (tgt := 19) hx hb dX2_kindOf_14 (by decide) (fun c14 => ?_) (fun c14 => ?_)
        · replace hm := ie c14 hm
          refine lv_iinc (v := x1 + 1) (lv' := [(1, .int (x1 + 1)), (0, .int x0)]) hx hb dX2_kindOf_19 hl (k := 1) rfl rfl (by decide) rfl (fun ls hl => ?_)
          refine lv_goto (tgt := 2) hx hb dX2_kindOf_22 (by decide) ?_
          exact ih x0 (x1 + 1) _ _ _ hS (lv_sub hl [1, 0] rfl) hm
        · replace hm := it c14 hm
          refine lv_iload_n hx hb dX2_kindOf_17 rfl (lv_at hl 1 rfl) ?_
          exact retIr C hS hm dX2_kindOf_18
  unfold M_X2_kindOf at hm
  refine lv_iconst (v := 0) hx hb dX2_kindOf_0 (by decide) ?_
  refine lv_istore_n (lv' := [(1, .int 0), (0, .int a0)]) hx hb dX2_kindOf_1 rfl hl (by decide) rfl (fun ls hl => ?_)
  exact L2 10000 a0 0 _ _ _ hS (lv_sub hl [1, 0] rfl) hm
def M_X2_figure (σ : ST) (a1 : Int32) (a2 : Int32) : Option Int32 := (M_X2_sign σ).bind fun o1 => if (o1 - 48) < a1 then some (-1) else if a2 < (o1 - 48) then some (-1) else some (o1 - 48)
abbrev rm_X2_figure : Room := { frames := 1, cells := 0, slots := 0, locals := 20 }
set_option maxRecDepth 100000 in
set_option maxHeartbeats 4000000 in
theorem c_X2_figure (l : Launch) (d : CD) (q : Nat → Nat) (σ : ST) (a1 : Int32) (a2 : Int32) (out : Int32) (hm : M_X2_figure σ a1 a2 = some out) : MetI l yX2_figure cX2_figure 4 (some .int) rm_X2_figure d (cw q d σ) [.ref (q 17), .int a1, .int a2] out (cw q d σ) := by
  refine mkI (own := RX2) (by decide +kernel) rfl (Nat.le_of_ble_eq_true rfl) ?_
  intro p e s m below meth c A ls C hS hl
  obtain ⟨hx, hb, hml, hown, hts, -⟩ := id C
  have hl : lv_has ls 4 [(0, .ref (q 17)), (1, .int a1), (2, .int a2)] := hl
  unfold M_X2_figure at hm
  refine lv_aload_n hx hb dX2_figure_0 rfl (lv_at hl 0 rfl) ?_
  obtain ⟨o1, e1, hm⟩ := ob hm
  refine after_i C hS (call_V (As := []) C hS (c_X2_sign l d q σ o1 e1 _) iv_2_49 ⟨rfl, rfl, Nat.le_of_ble_eq_true rfl, Nat.le_of_ble_eq_true rfl⟩ cw_o17 rfl rfl rfl hl.1 (Nat.le_of_ble_eq_true rfl) dX2_figure_1) (fun H locs hS => ?_)
  refine lv_bipush (v := 48) hx hb dX2_figure_4 (by decide) ?_
  refine lv_isub hx hb dX2_figure_6 ?_
  refine lv_istore_n (lv' := [(3, .int (o1 - 48)), (0, .ref (q 17)), (1, .int a1), (2, .int a2)]) hx hb dX2_figure_7 rfl hl (by decide) rfl (fun ls hl => ?_)
  refine lv_iload_n hx hb dX2_figure_8 rfl (lv_at hl 0 rfl) ?_
  refine lv_iload_n hx hb dX2_figure_9 rfl (lv_at hl 2 rfl) ?_
  refine lv_icmp_lt (tgt := 22) hx hb dX2_figure_10 (by decide) (fun c10 => ?_) (fun c10 => ?_)
  · replace hm := it c10 hm
    refine lv_iconst (v := (-1)) hx hb dX2_figure_22 (by decide) ?_
    exact retIr C hS hm dX2_figure_23
  · replace hm := ie c10 hm
    refine lv_iload_n hx hb dX2_figure_13 rfl (lv_at hl 0 rfl) ?_
    refine lv_iload_n hx hb dX2_figure_14 rfl (lv_at hl 3 rfl) ?_
    refine lv_icmp_gt (tgt := 22) hx hb dX2_figure_15 (by decide) (fun c15 => ?_) (fun c15 => ?_)
    · replace hm := it c15 hm
      refine lv_iconst (v := (-1)) hx hb dX2_figure_22 (by decide) ?_
      exact retIr C hS hm dX2_figure_23
    · replace hm := ie c15 hm
      refine lv_iload_n hx hb dX2_figure_18 rfl (lv_at hl 0 rfl) ?_
      refine lv_goto (tgt := 23) hx hb dX2_figure_19 (by decide) ?_
      exact retIr C hS hm dX2_figure_23
def M_X2_takeFigure (σ : ST) (a1 : Int32) (a2 : Int32) : Option (Int32 × ST) := (M_X2_figure σ a1 a2).bind fun o3 => if o3 = (-1) then some (o3, σ) else (some (setI σ 13 ((σ.1 13) + 1))).bind fun σ19 => some (o3, σ19)
abbrev rm_X2_takeFigure : Room := { frames := 2, cells := 0, slots := 0, locals := 43 }
set_option maxRecDepth 100000 in
set_option maxHeartbeats 4000000 in
theorem c_X2_takeFigure (l : Launch) (d : CD) (q : Nat → Nat) (σ : ST) (a1 : Int32) (a2 : Int32) (out : Int32 × ST) (hm : M_X2_takeFigure σ a1 a2 = some out) : MetI l yX2_takeFigure cX2_takeFigure 4 (some .int) rm_X2_takeFigure d (cw q d σ) [.ref (q 17), .int a1, .int a2] out.1 (cw q d out.2) := by
  refine mkI (own := RX2) (by decide +kernel) rfl (Nat.le_of_ble_eq_true rfl) ?_
  intro p e s m below meth c A ls C hS hl
  obtain ⟨hx, hb, hml, hown, hts, -⟩ := id C
  have hl : lv_has ls 4 [(0, .ref (q 17)), (1, .int a1), (2, .int a2)] := hl
  unfold M_X2_takeFigure at hm
  refine lv_aload_n hx hb dX2_takeFigure_0 rfl (lv_at hl 0 rfl) ?_
  refine lv_iload_n hx hb dX2_takeFigure_1 rfl (lv_at hl 1 rfl) ?_
  refine lv_iload_n hx hb dX2_takeFigure_2 rfl (lv_at hl 2 rfl) ?_
  obtain ⟨o3, e3, hm⟩ := ob hm
  refine after_i C hS (call_V (As := [.int a1, .int a2]) C hS (c_X2_figure l d q σ a1 a2 o3 e3 _) iv_2_59 ⟨rfl, rfl, Nat.le_of_ble_eq_true rfl, Nat.le_of_ble_eq_true rfl⟩ cw_o17 rfl rfl rfl hl.1 (Nat.le_of_ble_eq_true rfl) dX2_takeFigure_3) (fun H locs hS => ?_)
  refine lv_istore_n (lv' := [(3, .int o3), (0, .ref (q 17)), (1, .int a1), (2, .int a2)]) hx hb dX2_takeFigure_6 rfl hl (by decide) rfl (fun ls hl => ?_)
  refine lv_iload_n hx hb dX2_takeFigure_7 rfl (lv_at hl 0 rfl) ?_
  refine lv_iconst (v := (-1)) hx hb dX2_takeFigure_8 (by decide) ?_
  refine lv_icmp_eq (tgt := 22) hx hb dX2_takeFigure_9 (by decide) (fun c9 => ?_) (fun c9 => ?_)
  · replace hm := it c9 hm
    refine lv_iload_n hx hb dX2_takeFigure_22 rfl (lv_at hl 0 rfl) ?_
    exact retIw (wf := cw q d) C hS hm dX2_takeFigure_23
  · replace hm := ie c9 hm
    refine lv_aload_n hx hb dX2_takeFigure_12 rfl (lv_at hl 1 rfl) ?_
    refine lv_dup hx hb dX2_takeFigure_13 rfl ?_
    refine g_2_36_17 C hS dX2_takeFigure_14 ?_
    refine lv_iconst (v := 1) hx hb dX2_takeFigure_17 (by decide) ?_
    refine lv_iadd hx hb dX2_takeFigure_18 ?_
    obtain ⟨σ19, e19, hm⟩ := ob hm
    refine p_2_36_17 C hS e19 dX2_takeFigure_19 (fun H locs hS => ?_)
    refine lv_iload_n hx hb dX2_takeFigure_22 rfl (lv_at hl 0 rfl) ?_
    exact retIw (wf := cw q d) C hS hm dX2_takeFigure_23
def M_X0_addHouse (σ : ST) (a1 : Int32) (a2 : Int32) : Option ST := if 7 ≤ (σ.1 23) then some σ else (wrA 7 σ 19 (σ.1 23) a1).bind fun σ18 => (wrA 7 σ18 20 (σ18.1 23) a2).bind fun σ28 => (some (setI σ28 23 ((σ28.1 23) + 1))).bind fun σ36 => some σ36
abbrev rm_X0_addHouse : Room := { frames := 0, cells := 0, slots := 0, locals := 0 }
set_option maxRecDepth 100000 in
set_option maxHeartbeats 4000000 in
theorem c_X0_addHouse (l : Launch) (d : CD) (q : Nat → Nat) (σ : ST) (a1 : Int32) (a2 : Int32) (out : ST) (hm : M_X0_addHouse σ a1 a2 = some out) : MetV l yX0_addHouse cX0_addHouse 3 (none) rm_X0_addHouse d (cw q d σ) [.ref (q 18), .int a1, .int a2] (cw q d out) := by
  refine mkV (own := RX0) (by decide +kernel) rfl (Nat.le_of_ble_eq_true rfl) ?_
  intro p e s m below meth c A ls C hS hl
  obtain ⟨hx, hb, hml, hown, hts, -⟩ := id C
  have hl : lv_has ls 3 [(0, .ref (q 18)), (1, .int a1), (2, .int a2)] := hl
  unfold M_X0_addHouse at hm
  refine lv_aload_n hx hb dX0_addHouse_0 rfl (lv_at hl 0 rfl) ?_
  refine g_0_31_18 C hS dX0_addHouse_1 ?_
  refine lv_bipush (v := 7) hx hb dX0_addHouse_4 (by decide) ?_
  refine lv_icmp_ge (tgt := 39) hx hb dX0_addHouse_6 (by decide) (fun c6 => ?_) (fun c6 => ?_)
  · replace hm := it c6 hm
    exact retVw (wf := cw q d) C hS hm dX0_addHouse_39
  · replace hm := ie c6 hm
    refine lv_aload_n hx hb dX0_addHouse_9 rfl (lv_at hl 0 rfl) ?_
    refine g_0_9_18 C hS dX0_addHouse_10 ?_
    refine lv_aload_n hx hb dX0_addHouse_13 rfl (lv_at hl 0 rfl) ?_
    refine g_0_31_18 C hS dX0_addHouse_14 ?_
    refine lv_iload_n hx hb dX0_addHouse_17 rfl (lv_at hl 1 rfl) ?_
    obtain ⟨σ18, e18, hm⟩ := ob hm
    refine iast' (wf := cw q d) C hS cw_a19 cw_s19 e18 dX0_addHouse_18 (fun H locs hS => ?_)
    refine lv_aload_n hx hb dX0_addHouse_19 rfl (lv_at hl 0 rfl) ?_
    refine g_0_15_18 C hS dX0_addHouse_20 ?_
    refine lv_aload_n hx hb dX0_addHouse_23 rfl (lv_at hl 0 rfl) ?_
    refine g_0_31_18 C hS dX0_addHouse_24 ?_
    refine lv_iload_n hx hb dX0_addHouse_27 rfl (lv_at hl 2 rfl) ?_
    obtain ⟨σ28, e28, hm⟩ := ob hm
    refine iast' (wf := cw q d) C hS cw_a20 cw_s20 e28 dX0_addHouse_28 (fun H locs hS => ?_)
    refine lv_aload_n hx hb dX0_addHouse_29 rfl (lv_at hl 0 rfl) ?_
    refine lv_dup hx hb dX0_addHouse_30 rfl ?_
    refine g_0_31_18 C hS dX0_addHouse_31 ?_
    refine lv_iconst (v := 1) hx hb dX0_addHouse_34 (by decide) ?_
    refine lv_iadd hx hb dX0_addHouse_35 ?_
    obtain ⟨σ36, e36, hm⟩ := ob hm
    refine p_0_31_18 C hS e36 dX0_addHouse_36 (fun H locs hS => ?_)
    exact retVw (wf := cw q d) C hS hm dX0_addHouse_39
def M_X2_readHouse (σ : ST) : Option (Int32 × ST) := (M_X2_sign σ).bind fun o1 => (M_X2_kindOf o1).bind fun o4 => if o4 = (-1) then (okZ 0).bind fun z => some (z, σ) else if 7 ≤ (σ.1 23) then (okZ 0).bind fun z => some (z, σ) else if (σ.1 24) ≤ 0 then (some (setI σ 13 ((σ.1 13) + 1))).bind fun σ44 => (M_X2_takeFigure σ44 0 9).bind fun o51 => if o51.1 = (-1) then (okZ 0).bind fun z => some (z, o51.2) else (M_X0_addHouse o51.2 o4 o51.1).bind fun o68 => (okZ 1).bind fun z => some (z, o68) else (okZ 0).bind fun z => some (z, σ)
abbrev rm_X2_readHouse : Room := { frames := 6, cells := 0, slots := 0, locals := 240 }
set_option maxRecDepth 100000 in
set_option maxHeartbeats 4000000 in
theorem c_X2_readHouse (l : Launch) (d : CD) (q : Nat → Nat) (σ : ST) (out : Int32 × ST) (hm : M_X2_readHouse σ = some out) : MetI l yX2_readHouse cX2_readHouse 3 (some .boolean) rm_X2_readHouse d (cw q d σ) [.ref (q 17)] out.1 (cw q d out.2) := by
  refine mkI (own := RX2) (by decide +kernel) rfl (Nat.le_of_ble_eq_true rfl) ?_
  intro p e s m below meth c A ls C hS hl
  obtain ⟨hx, hb, hml, hown, hts, -⟩ := id C
  have hl : lv_has ls 3 [(0, .ref (q 17))] := hl
  unfold M_X2_readHouse at hm
  refine lv_aload_n hx hb dX2_readHouse_0 rfl (lv_at hl 0 rfl) ?_
  obtain ⟨o1, e1, hm⟩ := ob hm
  refine after_i C hS (call_V (As := []) C hS (c_X2_sign l d q σ o1 e1 _) iv_2_49 ⟨rfl, rfl, Nat.le_of_ble_eq_true rfl, Nat.le_of_ble_eq_true rfl⟩ cw_o17 rfl rfl rfl hl.1 (Nat.le_of_ble_eq_true rfl) dX2_readHouse_1) (fun H locs hS => ?_)
  obtain ⟨o4, e4, hm⟩ := ob hm
  refine after_i C hS (call_S (As := [.int o1]) C hS (c_X2_kindOf l d (cw q d σ) o1 o4 e4 _) is_2_81 ⟨rfl, rfl, Nat.le_of_ble_eq_true rfl, Nat.le_of_ble_eq_true rfl⟩ rfl hl.1 (Nat.le_of_ble_eq_true rfl) dX2_readHouse_4) (fun H locs hS => ?_)
  refine lv_istore_n (lv' := [(1, .int o4), (0, .ref (q 17))]) hx hb dX2_readHouse_7 rfl hl (by decide) rfl (fun ls hl => ?_)
  refine lv_iload_n hx hb dX2_readHouse_8 rfl (lv_at hl 0 rfl) ?_
  refine lv_iconst (v := (-1)) hx hb dX2_readHouse_9 (by decide) ?_
  refine lv_icmp_eq (tgt := 35) hx hb dX2_readHouse_10 (by decide) (fun c10 => ?_) (fun c10 => ?_)
  · replace hm := it c10 hm
    refine lv_iconst (v := 0) hx hb dX2_readHouse_35 (by decide) ?_
    exact retZw (wf := cw q d) C hS hm dX2_readHouse_36
  · replace hm := ie c10 hm
    refine lv_aload_n hx hb dX2_readHouse_13 rfl (lv_at hl 1 rfl) ?_
    refine g_2_18_17 C hS dX2_readHouse_14 ?_
    refine g_2_53_18 C hS dX2_readHouse_17 ?_
    refine lv_bipush (v := 7) hx hb dX2_readHouse_20 (by decide) ?_
    refine lv_icmp_ge (tgt := 35) hx hb dX2_readHouse_22 (by decide) (fun c22 => ?_) (fun c22 => ?_)
    · replace hm := it c22 hm
      refine lv_iconst (v := 0) hx hb dX2_readHouse_35 (by decide) ?_
      exact retZw (wf := cw q d) C hS hm dX2_readHouse_36
    · replace hm := ie c22 hm
      refine lv_aload_n hx hb dX2_readHouse_25 rfl (lv_at hl 1 rfl) ?_
      refine g_2_18_17 C hS dX2_readHouse_26 ?_
      refine g_2_85_18 C hS dX2_readHouse_29 ?_
      refine lv_if_le (tgt := 37) hx hb dX2_readHouse_32 (by decide) (fun c32 => ?_) (fun c32 => ?_)
      · replace hm := it c32 hm
        refine lv_aload_n hx hb dX2_readHouse_37 rfl (lv_at hl 1 rfl) ?_
        refine lv_dup hx hb dX2_readHouse_38 rfl ?_
        refine g_2_36_17 C hS dX2_readHouse_39 ?_
        refine lv_iconst (v := 1) hx hb dX2_readHouse_42 (by decide) ?_
        refine lv_iadd hx hb dX2_readHouse_43 ?_
        obtain ⟨σ44, e44, hm⟩ := ob hm
        refine p_2_36_17 C hS e44 dX2_readHouse_44 (fun H locs hS => ?_)
        refine lv_aload_n hx hb dX2_readHouse_47 rfl (lv_at hl 1 rfl) ?_
        refine lv_iconst (v := 0) hx hb dX2_readHouse_48 (by decide) ?_
        refine lv_bipush (v := 9) hx hb dX2_readHouse_49 (by decide) ?_
        obtain ⟨o51, e51, hm⟩ := ob hm
        refine after_i C hS (call_V (As := [.int 0, .int 9]) C hS (c_X2_takeFigure l d q σ44 0 9 o51 e51 _) iv_2_63 ⟨rfl, rfl, Nat.le_of_ble_eq_true rfl, Nat.le_of_ble_eq_true rfl⟩ cw_o17 rfl rfl rfl hl.1 (Nat.le_of_ble_eq_true rfl) dX2_readHouse_51) (fun H locs hS => ?_)
        refine lv_istore_n (lv' := [(2, .int o51.1), (1, .int o4), (0, .ref (q 17))]) hx hb dX2_readHouse_54 rfl hl (by decide) rfl (fun ls hl => ?_)
        refine lv_iload_n hx hb dX2_readHouse_55 rfl (lv_at hl 0 rfl) ?_
        refine lv_iconst (v := (-1)) hx hb dX2_readHouse_56 (by decide) ?_
        refine lv_icmp_ne (tgt := 62) hx hb dX2_readHouse_57 (by decide) (fun c57 => ?_) (fun c57 => ?_)
        · replace hm := ie c57 hm
          refine lv_aload_n hx hb dX2_readHouse_62 rfl (lv_at hl 2 rfl) ?_
          refine g_2_18_17 C hS dX2_readHouse_63 ?_
          refine lv_iload_n hx hb dX2_readHouse_66 rfl (lv_at hl 1 rfl) ?_
          refine lv_iload_n hx hb dX2_readHouse_67 rfl (lv_at hl 0 rfl) ?_
          obtain ⟨o68, e68, hm⟩ := ob hm
          refine after_v C hS (call_V (As := [.int o4, .int o51.1]) C hS (c_X0_addHouse l d q o51.2 o4 o51.1 o68 e68 _) iv_2_88 ⟨rfl, rfl, Nat.le_of_ble_eq_true rfl, Nat.le_of_ble_eq_true rfl⟩ cw_o18 rfl rfl rfl hl.1 (Nat.le_of_ble_eq_true rfl) dX2_readHouse_68) (fun H locs hS => ?_)
          refine lv_iconst (v := 1) hx hb dX2_readHouse_71 (by decide) ?_
          exact retZw (wf := cw q d) C hS hm dX2_readHouse_72
        · replace hm := it c57 hm
          refine lv_iconst (v := 0) hx hb dX2_readHouse_60 (by decide) ?_
          exact retZw (wf := cw q d) C hS hm dX2_readHouse_61
      · replace hm := ie c32 hm
        refine lv_iconst (v := 0) hx hb dX2_readHouse_35 (by decide) ?_
        exact retZw (wf := cw q d) C hS hm dX2_readHouse_36
