def M_X7_toldOf (σ : ST) (a1 : Int32) (a2 : Int32) : Option Int32 := if a2 = 0 then (rd 7 (σ.2.2 2) a1).bind fun v45 => some v45 else if a2 = 1 then (rd 7 (σ.2.2 3) a1).bind fun v52 => some v52 else if a2 = 2 then (rd 3776 (σ.2.2 1) (10 + a1)).bind fun v62 => some v62 else if a2 = 3 then (rd 3776 (σ.2.2 1) (17 + a1)).bind fun v72 => some v72 else if a2 = 4 then (rd 3776 (σ.2.2 1) (3 + a1)).bind fun v81 => some v81 else if a2 = 5 then (M_X7_keyWeight σ a1).bind fun o85 => some o85 else (rd 7 (σ.2.2 4) a1).bind fun v94 => some v94
abbrev rm_X7_toldOf : Room := { frames := 1, cells := 0, slots := 0, locals := 21 }
set_option maxRecDepth 100000 in
set_option maxHeartbeats 4000000 in
theorem c_X7_toldOf (l : Launch) (d : CD) (q : Nat → Nat) (σ : ST) (a1 : Int32) (a2 : Int32) (out : Int32) (hm : M_X7_toldOf σ a1 a2 = some out) : MetI l yX7_toldOf cX7_toldOf 3 (some .int) rm_X7_toldOf d (mw q d σ) [.ref (q 0), .int a1, .int a2] out (mw q d σ) := by
  refine mkI (own := RX7) (by decide +kernel) rfl (Nat.le_of_ble_eq_true rfl) ?_
  intro p e s m below meth c A ls C hS hl
  obtain ⟨hx, hb, hml, hown, hts, -⟩ := id C
  have hl : lv_has ls 3 [(0, .ref (q 0)), (1, .int a1), (2, .int a2)] := hl
  unfold M_X7_toldOf at hm
  refine lv_iload_n hx hb dX7_toldOf_0 rfl (lv_at hl 2 rfl) ?_
  by_cases c1_0 : a2 = 0
  · replace hm := it c1_0 hm
    refine lv_tableIn (off := 39) (tgt := 40) hx hb dX7_toldOf_1 (by rw [c1_0]; decide) (by rw [c1_0]; decide) (by rw [c1_0]; rfl) (by decide) ?_
    refine lv_aload_n hx hb dX7_toldOf_40 rfl (lv_at hl 0 rfl) ?_
    refine g_7_13_0 C hS dX7_toldOf_41 ?_
    refine lv_iload_n hx hb dX7_toldOf_44 rfl (lv_at hl 1 rfl) ?_
    obtain ⟨v45, e45, hm⟩ := ob hm
    refine iald' C hS mw_a2 e45 dX7_toldOf_45 ?_
    exact retIr C hS hm dX7_toldOf_46
  · replace hm := ie c1_0 hm
    by_cases c1_1 : a2 = 1
    · replace hm := it c1_1 hm
      refine lv_tableIn (off := 46) (tgt := 47) hx hb dX7_toldOf_1 (by rw [c1_1]; decide) (by rw [c1_1]; decide) (by rw [c1_1]; rfl) (by decide) ?_
      refine lv_aload_n hx hb dX7_toldOf_47 rfl (lv_at hl 0 rfl) ?_
      refine g_7_16_0 C hS dX7_toldOf_48 ?_
      refine lv_iload_n hx hb dX7_toldOf_51 rfl (lv_at hl 1 rfl) ?_
      obtain ⟨v52, e52, hm⟩ := ob hm
      refine iald' C hS mw_a3 e52 dX7_toldOf_52 ?_
      exact retIr C hS hm dX7_toldOf_53
    · replace hm := ie c1_1 hm
      by_cases c1_2 : a2 = 2
      · replace hm := it c1_2 hm
        refine lv_tableIn (off := 53) (tgt := 54) hx hb dX7_toldOf_1 (by rw [c1_2]; decide) (by rw [c1_2]; decide) (by rw [c1_2]; rfl) (by decide) ?_
        refine lv_aload_n hx hb dX7_toldOf_54 rfl (lv_at hl 0 rfl) ?_
        refine g_7_7_0 C hS dX7_toldOf_55 ?_
        refine lv_bipush (v := 10) hx hb dX7_toldOf_58 (by decide) ?_
        refine lv_iload_n hx hb dX7_toldOf_60 rfl (lv_at hl 1 rfl) ?_
        refine lv_iadd hx hb dX7_toldOf_61 ?_
        obtain ⟨v62, e62, hm⟩ := ob hm
        refine iald' C hS mw_a1 e62 dX7_toldOf_62 ?_
        exact retIr C hS hm dX7_toldOf_63
      · replace hm := ie c1_2 hm
        by_cases c1_3 : a2 = 3
        · replace hm := it c1_3 hm
          refine lv_tableIn (off := 63) (tgt := 64) hx hb dX7_toldOf_1 (by rw [c1_3]; decide) (by rw [c1_3]; decide) (by rw [c1_3]; rfl) (by decide) ?_
          refine lv_aload_n hx hb dX7_toldOf_64 rfl (lv_at hl 0 rfl) ?_
          refine g_7_7_0 C hS dX7_toldOf_65 ?_
          refine lv_bipush (v := 17) hx hb dX7_toldOf_68 (by decide) ?_
          refine lv_iload_n hx hb dX7_toldOf_70 rfl (lv_at hl 1 rfl) ?_
          refine lv_iadd hx hb dX7_toldOf_71 ?_
          obtain ⟨v72, e72, hm⟩ := ob hm
          refine iald' C hS mw_a1 e72 dX7_toldOf_72 ?_
          exact retIr C hS hm dX7_toldOf_73
        · replace hm := ie c1_3 hm
          by_cases c1_4 : a2 = 4
          · replace hm := it c1_4 hm
            refine lv_tableIn (off := 73) (tgt := 74) hx hb dX7_toldOf_1 (by rw [c1_4]; decide) (by rw [c1_4]; decide) (by rw [c1_4]; rfl) (by decide) ?_
            refine lv_aload_n hx hb dX7_toldOf_74 rfl (lv_at hl 0 rfl) ?_
            refine g_7_7_0 C hS dX7_toldOf_75 ?_
            refine lv_iconst (v := 3) hx hb dX7_toldOf_78 (by decide) ?_
            refine lv_iload_n hx hb dX7_toldOf_79 rfl (lv_at hl 1 rfl) ?_
            refine lv_iadd hx hb dX7_toldOf_80 ?_
            obtain ⟨v81, e81, hm⟩ := ob hm
            refine iald' C hS mw_a1 e81 dX7_toldOf_81 ?_
            exact retIr C hS hm dX7_toldOf_82
          · replace hm := ie c1_4 hm
            by_cases c1_5 : a2 = 5
            · replace hm := it c1_5 hm
              refine lv_tableIn (off := 82) (tgt := 83) hx hb dX7_toldOf_1 (by rw [c1_5]; decide) (by rw [c1_5]; decide) (by rw [c1_5]; rfl) (by decide) ?_
              refine lv_aload_n hx hb dX7_toldOf_83 rfl (lv_at hl 0 rfl) ?_
              refine lv_iload_n hx hb dX7_toldOf_84 rfl (lv_at hl 1 rfl) ?_
              obtain ⟨o85, e85, hm⟩ := ob hm
              refine after_i C hS (call_V (As := [.int a1]) C hS (c_X7_keyWeight l d q σ a1 o85 e85 _) iv_7_167 ⟨rfl, rfl, Nat.le_of_ble_eq_true rfl, Nat.le_of_ble_eq_true rfl⟩ mw_o0 rfl rfl rfl hl.1 (Nat.le_of_ble_eq_true rfl) dX7_toldOf_85) (fun H locs hS => ?_)
              exact retIr C hS hm dX7_toldOf_88
            · replace hm := ie c1_5 hm
              refine lv_tableOut (tgt := 89) hx hb dX7_toldOf_1 (by have h0 : a2.toInt ≠ 0 := ts_ne c1_0; have h1 : a2.toInt ≠ 1 := ts_ne c1_1; have h2 : a2.toInt ≠ 2 := ts_ne c1_2; have h3 : a2.toInt ≠ 3 := ts_ne c1_3; have h4 : a2.toInt ≠ 4 := ts_ne c1_4; have h5 : a2.toInt ≠ 5 := ts_ne c1_5; omega) (by decide) ?_
              refine lv_aload_n hx hb dX7_toldOf_89 rfl (lv_at hl 0 rfl) ?_
              refine g_7_19_0 C hS dX7_toldOf_90 ?_
              refine lv_iload_n hx hb dX7_toldOf_93 rfl (lv_at hl 1 rfl) ?_
              obtain ⟨v94, e94, hm⟩ := ob hm
              refine iald' C hS mw_a4 e94 dX7_toldOf_94 ?_
              exact retIr C hS hm dX7_toldOf_95
def M_X7_house (σ : ST) (a1 : Int32) (a2 : Int32) : Option (Int32 × ST) := (M_X7_isHouse σ a1).bind fun o2 => if o2 = 0 then some ((-1), σ) else (M_X7_in a2.toInt64 0 6).bind fun o14 => if o14 = 0 then some ((-1), σ) else (M_X7_toldOf σ a1 a2).bind fun o24 => (M_X7_tell σ o24).bind fun o27 => some (o27.1, o27.2)
abbrev rm_X7_house : Room := { frames := 2, cells := 0, slots := 0, locals := 46 }
set_option maxRecDepth 100000 in
set_option maxHeartbeats 4000000 in
theorem c_X7_house (l : Launch) (d : CD) (q : Nat → Nat) (σ : ST) (a1 : Int32) (a2 : Int32) (out : Int32 × ST) (hm : M_X7_house σ a1 a2 = some out) : MetI l yX7_house cX7_house 3 (some .int) rm_X7_house d (mw q d σ) [.ref (q 0), .int a1, .int a2] out.1 (mw q d out.2) := by
  refine mkI (own := RX7) (by decide +kernel) rfl (Nat.le_of_ble_eq_true rfl) ?_
  intro p e s m below meth c A ls C hS hl
  obtain ⟨hx, hb, hml, hown, hts, -⟩ := id C
  have hl : lv_has ls 3 [(0, .ref (q 0)), (1, .int a1), (2, .int a2)] := hl
  unfold M_X7_house at hm
  refine lv_aload_n hx hb dX7_house_0 rfl (lv_at hl 0 rfl) ?_
  refine lv_iload_n hx hb dX7_house_1 rfl (lv_at hl 1 rfl) ?_
  obtain ⟨o2, e2, hm⟩ := ob hm
  refine after_i C hS (call_V (As := [.int a1]) C hS (c_X7_isHouse l d q σ a1 o2 e2 _) iv_7_179 ⟨rfl, rfl, Nat.le_of_ble_eq_true rfl, Nat.le_of_ble_eq_true rfl⟩ mw_o0 rfl rfl rfl hl.1 (Nat.le_of_ble_eq_true rfl) dX7_house_2) (fun H locs hS => ?_)
  refine lv_if_eq (tgt := 33) hx hb dX7_house_5 (by decide) (fun c5 => ?_) (fun c5 => ?_)
  · replace hm := it c5 hm
    refine lv_iconst (v := (-1)) hx hb dX7_house_33 (by decide) ?_
    exact retIw (wf := mw q d) C hS hm dX7_house_34
  · replace hm := ie c5 hm
    refine lv_iload_n hx hb dX7_house_8 rfl (lv_at hl 2 rfl) ?_
    refine lv_i2l (v := a2.toInt64) hx hb dX7_house_9 rfl ?_
    refine lv_lconst (v := 0) hx hb dX7_house_10 (by decide) ?_
    refine lv_ldc2 (v := 6) hx hb hown (hts _ lc_X7_182) dX7_house_11 ?_
    obtain ⟨o14, e14, hm⟩ := ob hm
    refine after_i C hS (call_S (As := [.long a2.toInt64, .long 0, .long 6]) C hS (c_X7_in l d (mw q d σ) a2.toInt64 0 6 o14 e14 _) is_7_66 ⟨rfl, rfl, Nat.le_of_ble_eq_true rfl, Nat.le_of_ble_eq_true rfl⟩ rfl hl.1 (Nat.le_of_ble_eq_true rfl) dX7_house_14) (fun H locs hS => ?_)
    refine lv_if_eq (tgt := 33) hx hb dX7_house_17 (by decide) (fun c17 => ?_) (fun c17 => ?_)
    · replace hm := it c17 hm
      refine lv_iconst (v := (-1)) hx hb dX7_house_33 (by decide) ?_
      exact retIw (wf := mw q d) C hS hm dX7_house_34
    · replace hm := ie c17 hm
      refine lv_aload_n hx hb dX7_house_20 rfl (lv_at hl 0 rfl) ?_
      refine lv_aload_n hx hb dX7_house_21 rfl (lv_at hl 0 rfl) ?_
      refine lv_iload_n hx hb dX7_house_22 rfl (lv_at hl 1 rfl) ?_
      refine lv_iload_n hx hb dX7_house_23 rfl (lv_at hl 2 rfl) ?_
      obtain ⟨o24, e24, hm⟩ := ob hm
      refine after_i C hS (call_V (As := [.int a1, .int a2]) C hS (c_X7_toldOf l d q σ a1 a2 o24 e24 _) iv_7_184 ⟨rfl, rfl, Nat.le_of_ble_eq_true rfl, Nat.le_of_ble_eq_true rfl⟩ mw_o0 rfl rfl rfl hl.1 (Nat.le_of_ble_eq_true rfl) dX7_house_24) (fun H locs hS => ?_)
      obtain ⟨o27, e27, hm⟩ := ob hm
      refine after_i C hS (call_V (As := [.int o24]) C hS (c_X7_tell l d q σ o24 o27 e27 _) iv_7_88 ⟨rfl, rfl, Nat.le_of_ble_eq_true rfl, Nat.le_of_ble_eq_true rfl⟩ mw_o0 rfl rfl rfl hl.1 (Nat.le_of_ble_eq_true rfl) dX7_house_27) (fun H locs hS => ?_)
      refine lv_goto (tgt := 34) hx hb dX7_house_30 (by decide) ?_
      exact retIw (wf := mw q d) C hS hm dX7_house_34
def M_X7_isOf_25 (σ : ST) (x1 : Int32) (x2 : Int32) : Option Int32 := if x2 = 3 then (rd 7 (σ.2.2 2) x1).bind fun v35 => if v35 = 5 then okZ 1 else okZ 0 else okZ 0
def M_X7_isOf (σ : ST) (a1 : Int32) (a2 : Int32) : Option Int32 := (rd 7 (σ.2.2 2) a1).bind fun v5 => if v5 = a2 then okZ 1 else if a2 = 1 then (rd 7 (σ.2.2 2) a1).bind fun v20 => if v20 = 4 then okZ 1 else M_X7_isOf_25 σ a1 a2 else M_X7_isOf_25 σ a1 a2
abbrev rm_X7_isOf : Room := { frames := 0, cells := 0, slots := 0, locals := 0 }
set_option maxRecDepth 100000 in
set_option maxHeartbeats 4000000 in
theorem c_X7_isOf (l : Launch) (d : CD) (q : Nat → Nat) (σ : ST) (a1 : Int32) (a2 : Int32) (out : Int32) (hm : M_X7_isOf σ a1 a2 = some out) : MetI l yX7_isOf cX7_isOf 3 (some .boolean) rm_X7_isOf d (mw q d σ) [.ref (q 0), .int a1, .int a2] out (mw q d σ) := by
  refine mkI (own := RX7) (by decide +kernel) rfl (Nat.le_of_ble_eq_true rfl) ?_
  intro p e s m below meth c A ls C hS hl
  obtain ⟨hx, hb, hml, hown, hts, -⟩ := id C
  have hl : lv_has ls 3 [(0, .ref (q 0)), (1, .int a1), (2, .int a2)] := hl
  have J25 : ∀ (x1 : Int32) (x2 : Int32) (H : Heap) (locs : List Loc) (ls : Array Slot), HS d A s.heap H locs (mw q d σ) → lv_has ls 3 [(0, .ref (q 0)), (1, .int x1), (2, .int x2)] → M_X7_isOf_25 σ x1 x2 = some out → WI p l e rm_X7_isOf s m [.ref (q 0), .int a1, .int a2].toArray below meth c A d H locs out (mw q d σ) (F0 m 25 ls []) := by
    intro x1 x2 H locs ls hS hl hm
    unfold M_X7_isOf_25 at hm
    refine lv_iload_n hx hb dX7_isOf_25 rfl (lv_at hl 2 rfl) ?_
    refine lv_iconst (v := 3) hx hb dX7_isOf_26 (by decide) ?_
    refine lv_icmp_ne (tgt := 44) hx hb dX7_isOf_27 (by decide) (fun c27 => ?_) (fun c27 => ?_)
    · replace hm := ie c27 hm
      refine lv_iconst (v := 0) hx hb dX7_isOf_44 (by decide) ?_
      exact retZr C hS hm dX7_isOf_45
    · replace hm := it c27 hm
      refine lv_aload_n hx hb dX7_isOf_30 rfl (lv_at hl 0 rfl) ?_
      refine g_7_13_0 C hS dX7_isOf_31 ?_
      refine lv_iload_n hx hb dX7_isOf_34 rfl (lv_at hl 1 rfl) ?_
      obtain ⟨v35, e35, hm⟩ := ob hm
      refine iald' C hS mw_a2 e35 dX7_isOf_35 ?_
      refine lv_iconst (v := 5) hx hb dX7_isOf_36 (by decide) ?_
      refine lv_icmp_ne (tgt := 44) hx hb dX7_isOf_37 (by decide) (fun c37 => ?_) (fun c37 => ?_)
      · replace hm := ie c37 hm
        refine lv_iconst (v := 0) hx hb dX7_isOf_44 (by decide) ?_
        exact retZr C hS hm dX7_isOf_45
      · replace hm := it c37 hm
        refine lv_iconst (v := 1) hx hb dX7_isOf_40 (by decide) ?_
        refine lv_goto (tgt := 45) hx hb dX7_isOf_41 (by decide) ?_
        exact retZr C hS hm dX7_isOf_45
  unfold M_X7_isOf at hm
  refine lv_aload_n hx hb dX7_isOf_0 rfl (lv_at hl 0 rfl) ?_
  refine g_7_13_0 C hS dX7_isOf_1 ?_
  refine lv_iload_n hx hb dX7_isOf_4 rfl (lv_at hl 1 rfl) ?_
  obtain ⟨v5, e5, hm⟩ := ob hm
  refine iald' C hS mw_a2 e5 dX7_isOf_5 ?_
  refine lv_iload_n hx hb dX7_isOf_6 rfl (lv_at hl 2 rfl) ?_
  refine lv_icmp_eq (tgt := 40) hx hb dX7_isOf_7 (by decide) (fun c7 => ?_) (fun c7 => ?_)
  · replace hm := it c7 hm
    refine lv_iconst (v := 1) hx hb dX7_isOf_40 (by decide) ?_
    refine lv_goto (tgt := 45) hx hb dX7_isOf_41 (by decide) ?_
    exact retZr C hS hm dX7_isOf_45
  · replace hm := ie c7 hm
    refine lv_iload_n hx hb dX7_isOf_10 rfl (lv_at hl 2 rfl) ?_
    refine lv_iconst (v := 1) hx hb dX7_isOf_11 (by decide) ?_
    refine lv_icmp_ne (tgt := 25) hx hb dX7_isOf_12 (by decide) (fun c12 => ?_) (fun c12 => ?_)
    · replace hm := ie c12 hm
      exact J25 a1 a2 _ _ _ hS (lv_sub hl [0, 1, 2] rfl) hm
    · replace hm := it c12 hm
      refine lv_aload_n hx hb dX7_isOf_15 rfl (lv_at hl 0 rfl) ?_
      refine g_7_13_0 C hS dX7_isOf_16 ?_
      refine lv_iload_n hx hb dX7_isOf_19 rfl (lv_at hl 1 rfl) ?_
      obtain ⟨v20, e20, hm⟩ := ob hm
      refine iald' C hS mw_a2 e20 dX7_isOf_20 ?_
      refine lv_iconst (v := 4) hx hb dX7_isOf_21 (by decide) ?_
      refine lv_icmp_eq (tgt := 40) hx hb dX7_isOf_22 (by decide) (fun c22 => ?_) (fun c22 => ?_)
      · replace hm := it c22 hm
        refine lv_iconst (v := 1) hx hb dX7_isOf_40 (by decide) ?_
        refine lv_goto (tgt := 45) hx hb dX7_isOf_41 (by decide) ?_
        exact retZr C hS hm dX7_isOf_45
      · replace hm := ie c22 hm
        exact J25 a1 a2 _ _ _ hS (lv_sub hl [0, 1, 2] rfl) hm
def M_X7_keysHeld_4 (σ : ST) : Nat → Int32 → Int32 → Int32 → Option Int32
  | 0, _, _, _ => none
  | n + 1, x1, x2, x3 => if (σ.1 3) ≤ x3 then some x2 else (rd 3776 (σ.2.2 1) (3 + x3)).bind fun v20 => if v20 = x1 then M_X7_keysHeld_4 σ n x1 (x2 + 1) (x3 + 1) else M_X7_keysHeld_4 σ n x1 (x2 + 0) (x3 + 1)
def M_X7_keysHeld (σ : ST) (a1 : Int32) : Option Int32 := M_X7_keysHeld_4 σ 10000 a1 0 0
abbrev rm_X7_keysHeld : Room := { frames := 0, cells := 0, slots := 0, locals := 0 }
set_option maxRecDepth 100000 in
set_option maxHeartbeats 4000000 in
theorem c_X7_keysHeld (l : Launch) (d : CD) (q : Nat → Nat) (σ : ST) (a1 : Int32) (out : Int32) (hm : M_X7_keysHeld σ a1 = some out) : MetI l yX7_keysHeld cX7_keysHeld 4 (some .int) rm_X7_keysHeld d (mw q d σ) [.ref (q 0), .int a1] out (mw q d σ) := by
  refine mkI (own := RX7) (by decide +kernel) rfl (Nat.le_of_ble_eq_true rfl) ?_
  intro p e s m below meth c A ls C hS hl
  obtain ⟨hx, hb, hml, hown, hts, -⟩ := id C
  have hl : lv_has ls 4 [(0, .ref (q 0)), (1, .int a1)] := hl
  have L4 : ∀ (n : Nat) (x1 : Int32) (x2 : Int32) (x3 : Int32) (H : Heap) (locs : List Loc) (ls : Array Slot), HS d A s.heap H locs (mw q d σ) → lv_has ls 4 [(0, .ref (q 0)), (1, .int x1), (2, .int x2), (3, .int x3)] → M_X7_keysHeld_4 σ n x1 x2 x3 = some out → WI p l e rm_X7_keysHeld s m [.ref (q 0), .int a1].toArray below meth c A d H locs out (mw q d σ) (F0 m 4 ls []) := by
    intro n
    induction n with
    | zero =>
      intro x1 x2 x3 H locs ls hS hl hm
      exact absurd hm (by rw [M_X7_keysHeld_4]; exact fun h => nomatch h)
    | succ n ih =>
      intro x1 x2 x3 H locs ls hS hl hm
      rw [M_X7_keysHeld_4] at hm
      refine lv_iload_n hx hb dX7_keysHeld_4 rfl (lv_at hl 3 rfl) ?_
      refine lv_aload_n hx hb dX7_keysHeld_5 rfl (lv_at hl 0 rfl) ?_
      refine g_7_158_0 C hS dX7_keysHeld_6 ?_
      refine lv_icmp_ge (tgt := 38) hx hb dX7_keysHeld_9 (by decide) (fun c9 => ?_) (fun c9 => ?_)
      · replace hm := it c9 hm
        refine lv_iload_n hx hb dX7_keysHeld_38 rfl (lv_at hl 2 rfl) ?_
        exact retIr C hS hm dX7_keysHeld_39
      · replace hm := ie c9 hm
        refine lv_iload_n hx hb dX7_keysHeld_12 rfl (lv_at hl 2 rfl) ?_
        refine lv_aload_n hx hb dX7_keysHeld_13 rfl (lv_at hl 0 rfl) ?_
        refine g_7_7_0 C hS dX7_keysHeld_14 ?_
        refine lv_iconst (v := 3) hx hb dX7_keysHeld_17 (by decide) ?_
        refine lv_iload_n hx hb dX7_keysHeld_18 rfl (lv_at hl 3 rfl) ?_
        refine lv_iadd hx hb dX7_keysHeld_19 ?_
        obtain ⟨v20, e20, hm⟩ := ob hm
        refine iald' C hS mw_a1 e20 dX7_keysHeld_20 ?_
        refine lv_iload_n hx hb dX7_keysHeld_21 rfl (lv_at hl 1 rfl) ?_
        refine lv_icmp_ne (tgt := 29) hx hb dX7_keysHeld_22 (by decide) (fun c22 => ?_) (fun c22 => ?_)
        · replace hm := ie c22 hm
          refine lv_iconst (v := 0) hx hb dX7_keysHeld_29 (by decide) ?_
          refine lv_iadd hx hb dX7_keysHeld_30 ?_
          refine lv_istore_n (lv' := [(2, .int (x2 + 0)), (0, .ref (q 0)), (1, .int x1), (3, .int x3)]) hx hb dX7_keysHeld_31 rfl hl (by decide) rfl (fun ls hl => ?_)
          refine lv_iinc (v := x3 + 1) (lv' := [(3, .int (x3 + 1)), (2, .int (x2 + 0)), (0, .ref (q 0)), (1, .int x1)]) hx hb dX7_keysHeld_32 hl (k := 3) rfl rfl (by decide) rfl (fun ls hl => ?_)
          refine lv_goto (tgt := 4) hx hb dX7_keysHeld_35 (by decide) ?_
          exact ih x1 (x2 + 0) (x3 + 1) _ _ _ hS (lv_sub hl [2, 3, 1, 0] rfl) hm
        · replace hm := it c22 hm
          refine lv_iconst (v := 1) hx hb dX7_keysHeld_25 (by decide) ?_
          refine lv_goto (tgt := 30) hx hb dX7_keysHeld_26 (by decide) ?_
          refine lv_iadd hx hb dX7_keysHeld_30 ?_
          refine lv_istore_n (lv' := [(2, .int (x2 + 1)), (0, .ref (q 0)), (1, .int x1), (3, .int x3)]) hx hb dX7_keysHeld_31 rfl hl (by decide) rfl (fun ls hl => ?_)
          refine lv_iinc (v := x3 + 1) (lv' := [(3, .int (x3 + 1)), (2, .int (x2 + 1)), (0, .ref (q 0)), (1, .int x1)]) hx hb dX7_keysHeld_32 hl (k := 3) rfl rfl (by decide) rfl (fun ls hl => ?_)
          refine lv_goto (tgt := 4) hx hb dX7_keysHeld_35 (by decide) ?_
          exact ih x1 (x2 + 1) (x3 + 1) _ _ _ hS (lv_sub hl [2, 3, 1, 0] rfl) hm
  unfold M_X7_keysHeld at hm
  refine lv_iconst (v := 0) hx hb dX7_keysHeld_0 (by decide) ?_
  refine lv_istore_n (lv' := [(2, .int 0), (0, .ref (q 0)), (1, .int a1)]) hx hb dX7_keysHeld_1 rfl hl (by decide) rfl (fun ls hl => ?_)
  refine lv_iconst (v := 0) hx hb dX7_keysHeld_2 (by decide) ?_
  refine lv_istore_n (lv' := [(3, .int 0), (2, .int 0), (0, .ref (q 0)), (1, .int a1)]) hx hb dX7_keysHeld_3 rfl hl (by decide) rfl (fun ls hl => ?_)
  exact L4 10000 a1 0 0 _ _ _ hS (lv_sub hl [2, 3, 1, 0] rfl) hm
def M_X7_wants (σ : ST) (a1 : Int32) : Option Int32 := (rd 7 (σ.2.2 2) a1).bind fun v5 => if v5 = 5 then some 0 else (rd 7 (σ.2.2 2) a1).bind fun v19 => if v19 = 4 then (rd 7 (σ.2.2 3) a1).bind fun v29 => some (v29 / 2) else (rd 7 (σ.2.2 3) a1).bind fun v40 => some v40
abbrev rm_X7_wants : Room := { frames := 0, cells := 0, slots := 0, locals := 0 }
set_option maxRecDepth 100000 in
set_option maxHeartbeats 4000000 in
theorem c_X7_wants (l : Launch) (d : CD) (q : Nat → Nat) (σ : ST) (a1 : Int32) (out : Int32) (hm : M_X7_wants σ a1 = some out) : MetI l yX7_wants cX7_wants 2 (some .int) rm_X7_wants d (mw q d σ) [.ref (q 0), .int a1] out (mw q d σ) := by
  refine mkI (own := RX7) (by decide +kernel) rfl (Nat.le_of_ble_eq_true rfl) ?_
  intro p e s m below meth c A ls C hS hl
  obtain ⟨hx, hb, hml, hown, hts, -⟩ := id C
  have hl : lv_has ls 2 [(0, .ref (q 0)), (1, .int a1)] := hl
  unfold M_X7_wants at hm
  refine lv_aload_n hx hb dX7_wants_0 rfl (lv_at hl 0 rfl) ?_
  refine g_7_13_0 C hS dX7_wants_1 ?_
  refine lv_iload_n hx hb dX7_wants_4 rfl (lv_at hl 1 rfl) ?_
  obtain ⟨v5, e5, hm⟩ := ob hm
  refine iald' C hS mw_a2 e5 dX7_wants_5 ?_
  refine lv_iconst (v := 5) hx hb dX7_wants_6 (by decide) ?_
  refine lv_icmp_ne (tgt := 14) hx hb dX7_wants_7 (by decide) (fun c7 => ?_) (fun c7 => ?_)
  · replace hm := ie c7 hm
    refine lv_aload_n hx hb dX7_wants_14 rfl (lv_at hl 0 rfl) ?_
    refine g_7_13_0 C hS dX7_wants_15 ?_
    refine lv_iload_n hx hb dX7_wants_18 rfl (lv_at hl 1 rfl) ?_
    obtain ⟨v19, e19, hm⟩ := ob hm
    refine iald' C hS mw_a2 e19 dX7_wants_19 ?_
    refine lv_iconst (v := 4) hx hb dX7_wants_20 (by decide) ?_
    refine lv_icmp_ne (tgt := 35) hx hb dX7_wants_21 (by decide) (fun c21 => ?_) (fun c21 => ?_)
    · replace hm := ie c21 hm
      refine lv_aload_n hx hb dX7_wants_35 rfl (lv_at hl 0 rfl) ?_
      refine g_7_16_0 C hS dX7_wants_36 ?_
      refine lv_iload_n hx hb dX7_wants_39 rfl (lv_at hl 1 rfl) ?_
      obtain ⟨v40, e40, hm⟩ := ob hm
      refine iald' C hS mw_a3 e40 dX7_wants_40 ?_
      exact retIr C hS hm dX7_wants_41
    · replace hm := it c21 hm
      refine lv_aload_n hx hb dX7_wants_24 rfl (lv_at hl 0 rfl) ?_
      refine g_7_16_0 C hS dX7_wants_25 ?_
      refine lv_iload_n hx hb dX7_wants_28 rfl (lv_at hl 1 rfl) ?_
      obtain ⟨v29, e29, hm⟩ := ob hm
      refine iald' C hS mw_a3 e29 dX7_wants_29 ?_
      refine lv_iconst (v := 2) hx hb dX7_wants_30 (by decide) ?_
      refine lv_idiv hx hb dX7_wants_31 (by decide) ?_
      refine lv_goto (tgt := 41) hx hb dX7_wants_32 (by decide) ?_
      exact retIr C hS hm dX7_wants_41
  · replace hm := it c7 hm
    refine lv_iconst (v := 0) hx hb dX7_wants_10 (by decide) ?_
    refine lv_goto (tgt := 41) hx hb dX7_wants_11 (by decide) ?_
    exact retIr C hS hm dX7_wants_41
def M_X7_all (σ : ST) : Option Int32 := some (((1 : Int32) <<< ((σ.1 3) &&& 31)) - 1)
abbrev rm_X7_all : Room := { frames := 0, cells := 0, slots := 0, locals := 0 }
set_option maxRecDepth 100000 in
set_option maxHeartbeats 4000000 in
theorem c_X7_all (l : Launch) (d : CD) (q : Nat → Nat) (σ : ST) (out : Int32) (hm : M_X7_all σ = some out) : MetI l yX7_all cX7_all 1 (some .int) rm_X7_all d (mw q d σ) [.ref (q 0)] out (mw q d σ) := by
  refine mkI (own := RX7) (by decide +kernel) rfl (Nat.le_of_ble_eq_true rfl) ?_
  intro p e s m below meth c A ls C hS hl
  obtain ⟨hx, hb, hml, hown, hts, -⟩ := id C
  have hl : lv_has ls 1 [(0, .ref (q 0))] := hl
  unfold M_X7_all at hm
  refine lv_iconst (v := 1) hx hb dX7_all_0 (by decide) ?_
  refine lv_aload_n hx hb dX7_all_1 rfl (lv_at hl 0 rfl) ?_
  refine g_7_158_0 C hS dX7_all_2 ?_
  refine lv_ishl hx hb dX7_all_5 ?_
  refine lv_iconst (v := 1) hx hb dX7_all_6 (by decide) ?_
  refine lv_isub hx hb dX7_all_7 ?_
  exact retIr C hS hm dX7_all_8
def M_X7_weightOf_4 (σ : ST) : Nat → Int32 → Int32 → Int32 → Option Int32
  | 0, _, _, _ => none
  | n + 1, x1, x2, x3 => if (σ.1 3) ≤ x3 then some x2 else (rd 3776 (σ.2.2 1) (3 + x3)).bind fun v20 => (M_X7_has x1 v20).bind fun o21 => if o21 = 0 then (rd 7 (σ.2.2 2) x3).bind fun v45 => if v45 = 2 then (rd 3776 (σ.2.2 1) 1).bind fun v55 => if (v55 - v55 / 3 * 3) = 0 then M_X7_weightOf_4 σ n x1 (x2 + 1) (x3 + 1) else M_X7_weightOf_4 σ n x1 (x2 + 0) (x3 + 1) else M_X7_weightOf_4 σ n x1 (x2 + 0) (x3 + 1) else (M_X7_keyWeight σ x3).bind fun o34 => M_X7_weightOf_4 σ n x1 (x2 + o34) (x3 + 1)
def M_X7_weightOf (σ : ST) (a1 : Int32) : Option Int32 := M_X7_weightOf_4 σ 10000 a1 0 0
abbrev rm_X7_weightOf : Room := { frames := 1, cells := 0, slots := 0, locals := 21 }
set_option maxRecDepth 100000 in
set_option maxHeartbeats 4000000 in
theorem c_X7_weightOf (l : Launch) (d : CD) (q : Nat → Nat) (σ : ST) (a1 : Int32) (out : Int32) (hm : M_X7_weightOf σ a1 = some out) : MetI l yX7_weightOf cX7_weightOf 5 (some .int) rm_X7_weightOf d (mw q d σ) [.ref (q 0), .int a1] out (mw q d σ) := by
  refine mkI (own := RX7) (by decide +kernel) rfl (Nat.le_of_ble_eq_true rfl) ?_
  intro p e s m below meth c A ls C hS hl
  obtain ⟨hx, hb, hml, hown, hts, -⟩ := id C
  have hl : lv_has ls 5 [(0, .ref (q 0)), (1, .int a1)] := hl
  have L4 : ∀ (n : Nat) (x1 : Int32) (x2 : Int32) (x3 : Int32) (H : Heap) (locs : List Loc) (ls : Array Slot), HS d A s.heap H locs (mw q d σ) → lv_has ls 5 [(0, .ref (q 0)), (1, .int x1), (2, .int x2), (3, .int x3)] → M_X7_weightOf_4 σ n x1 x2 x3 = some out → WI p l e rm_X7_weightOf s m [.ref (q 0), .int a1].toArray below meth c A d H locs out (mw q d σ) (F0 m 4 ls []) := by
    intro n
    induction n with
    | zero =>
      intro x1 x2 x3 H locs ls hS hl hm
      exact absurd hm (by rw [M_X7_weightOf_4]; exact fun h => nomatch h)
    | succ n ih =>
      intro x1 x2 x3 H locs ls hS hl hm
      rw [M_X7_weightOf_4] at hm
      refine lv_iload_n hx hb dX7_weightOf_4 rfl (lv_at hl 3 rfl) ?_
      refine lv_aload_n hx hb dX7_weightOf_5 rfl (lv_at hl 0 rfl) ?_
      refine g_7_158_0 C hS dX7_weightOf_6 ?_
      refine lv_icmp_ge (tgt := 74) hx hb dX7_weightOf_9 (by decide) (fun c9 => ?_) (fun c9 => ?_)
      · replace hm := it c9 hm
        refine lv_iload_n hx hb dX7_weightOf_74 rfl (lv_at hl 2 rfl) ?_
        exact retIr C hS hm dX7_weightOf_75
      · replace hm := ie c9 hm
        refine lv_iload_n hx hb dX7_weightOf_12 rfl (lv_at hl 1 rfl) ?_
        refine lv_aload_n hx hb dX7_weightOf_13 rfl (lv_at hl 0 rfl) ?_
        refine g_7_7_0 C hS dX7_weightOf_14 ?_
        refine lv_iconst (v := 3) hx hb dX7_weightOf_17 (by decide) ?_
        refine lv_iload_n hx hb dX7_weightOf_18 rfl (lv_at hl 3 rfl) ?_
        refine lv_iadd hx hb dX7_weightOf_19 ?_
        obtain ⟨v20, e20, hm⟩ := ob hm
        refine iald' C hS mw_a1 e20 dX7_weightOf_20 ?_
        obtain ⟨o21, e21, hm⟩ := ob hm
        refine after_i C hS (call_S (As := [.int x1, .int v20]) C hS (c_X7_has l d (mw q d σ) x1 v20 o21 e21 _) is_7_135 ⟨rfl, rfl, Nat.le_of_ble_eq_true rfl, Nat.le_of_ble_eq_true rfl⟩ rfl hl.1 (Nat.le_of_ble_eq_true rfl) dX7_weightOf_21) (fun H locs hS => ?_)
        refine lv_istore (lv' := [(4, .int o21), (0, .ref (q 0)), (1, .int x1), (2, .int x2), (3, .int x3)]) hx hb dX7_weightOf_24 hl (by decide) rfl (fun ls hl => ?_)
        refine lv_iload_n hx hb dX7_weightOf_26 rfl (lv_at hl 3 rfl) ?_
        refine lv_iload hx hb dX7_weightOf_27 (lv_at hl 0 rfl) ?_
        refine lv_if_eq (tgt := 40) hx hb dX7_weightOf_29 (by decide) (fun c29 => ?_) (fun c29 => ?_)
        · replace hm := it c29 hm
          refine lv_aload_n hx hb dX7_weightOf_40 rfl (lv_at hl 1 rfl) ?_
          refine g_7_13_0 C hS dX7_weightOf_41 ?_
          refine lv_iload_n hx hb dX7_weightOf_44 rfl (lv_at hl 4 rfl) ?_
          obtain ⟨v45, e45, hm⟩ := ob hm
          refine iald' C hS mw_a2 e45 dX7_weightOf_45 ?_
          refine lv_iconst (v := 2) hx hb dX7_weightOf_46 (by decide) ?_
          refine lv_icmp_ne (tgt := 65) hx hb dX7_weightOf_47 (by decide) (fun c47 => ?_) (fun c47 => ?_)
          · replace hm := ie c47 hm
            refine lv_iconst (v := 0) hx hb dX7_weightOf_65 (by decide) ?_
            refine lv_iadd hx hb dX7_weightOf_66 ?_
            refine lv_istore_n (lv' := [(2, .int (x2 + 0)), (4, .int o21), (0, .ref (q 0)), (1, .int x1), (3, .int x3)]) hx hb dX7_weightOf_67 rfl hl (by decide) rfl (fun ls hl => ?_)
            refine lv_iinc (v := x3 + 1) (lv' := [(3, .int (x3 + 1)), (2, .int (x2 + 0)), (4, .int o21), (0, .ref (q 0)), (1, .int x1)]) hx hb dX7_weightOf_68 hl (k := 4) rfl rfl (by decide) rfl (fun ls hl => ?_)
            refine lv_goto (tgt := 4) hx hb dX7_weightOf_71 (by decide) ?_
            exact ih x1 (x2 + 0) (x3 + 1) _ _ _ hS (lv_sub hl [3, 4, 1, 0] rfl) hm
          · replace hm := it c47 hm
            refine lv_aload_n hx hb dX7_weightOf_50 rfl (lv_at hl 1 rfl) ?_
            refine g_7_7_0 C hS dX7_weightOf_51 ?_
            refine lv_iconst (v := 1) hx hb dX7_weightOf_54 (by decide) ?_
            obtain ⟨v55, e55, hm⟩ := ob hm
            refine iald' C hS mw_a1 e55 dX7_weightOf_55 ?_
            refine lv_iconst (v := 3) hx hb dX7_weightOf_56 (by decide) ?_
            refine lv_irem hx hb dX7_weightOf_57 (by decide) ?_
            refine lv_if_ne (tgt := 65) hx hb dX7_weightOf_58 (by decide) (fun c58 => ?_) (fun c58 => ?_)
            · replace hm := ie c58 hm
              refine lv_iconst (v := 0) hx hb dX7_weightOf_65 (by decide) ?_
              refine lv_iadd hx hb dX7_weightOf_66 ?_
              refine lv_istore_n (lv' := [(2, .int (x2 + 0)), (4, .int o21), (0, .ref (q 0)), (1, .int x1), (3, .int x3)]) hx hb dX7_weightOf_67 rfl hl (by decide) rfl (fun ls hl => ?_)
              refine lv_iinc (v := x3 + 1) (lv' := [(3, .int (x3 + 1)), (2, .int (x2 + 0)), (4, .int o21), (0, .ref (q 0)), (1, .int x1)]) hx hb dX7_weightOf_68 hl (k := 4) rfl rfl (by decide) rfl (fun ls hl => ?_)
              refine lv_goto (tgt := 4) hx hb dX7_weightOf_71 (by decide) ?_
              exact ih x1 (x2 + 0) (x3 + 1) _ _ _ hS (lv_sub hl [3, 4, 1, 0] rfl) hm
            · replace hm := it c58 hm
              refine lv_iconst (v := 1) hx hb dX7_weightOf_61 (by decide) ?_
              refine lv_goto (tgt := 66) hx hb dX7_weightOf_62 (by decide) ?_
              refine lv_iadd hx hb dX7_weightOf_66 ?_
              refine lv_istore_n (lv' := [(2, .int (x2 + 1)), (4, .int o21), (0, .ref (q 0)), (1, .int x1), (3, .int x3)]) hx hb dX7_weightOf_67 rfl hl (by decide) rfl (fun ls hl => ?_)
              refine lv_iinc (v := x3 + 1) (lv' := [(3, .int (x3 + 1)), (2, .int (x2 + 1)), (4, .int o21), (0, .ref (q 0)), (1, .int x1)]) hx hb dX7_weightOf_68 hl (k := 4) rfl rfl (by decide) rfl (fun ls hl => ?_)
              refine lv_goto (tgt := 4) hx hb dX7_weightOf_71 (by decide) ?_
              exact ih x1 (x2 + 1) (x3 + 1) _ _ _ hS (lv_sub hl [3, 4, 1, 0] rfl) hm
        · replace hm := ie c29 hm
          refine lv_aload_n hx hb dX7_weightOf_32 rfl (lv_at hl 1 rfl) ?_
          refine lv_iload_n hx hb dX7_weightOf_33 rfl (lv_at hl 4 rfl) ?_
          obtain ⟨o34, e34, hm⟩ := ob hm
          refine after_i C hS (call_V (As := [.int x3]) C hS (c_X7_keyWeight l d q σ x3 o34 e34 _) iv_7_167 ⟨rfl, rfl, Nat.le_of_ble_eq_true rfl, Nat.le_of_ble_eq_true rfl⟩ mw_o0 rfl rfl rfl hl.1 (Nat.le_of_ble_eq_true rfl) dX7_weightOf_34) (fun H locs hS => ?_)
          refine lv_goto (tgt := 66) hx hb dX7_weightOf_37 (by decide) ?_
          refine lv_iadd hx hb dX7_weightOf_66 ?_
          refine lv_istore_n (lv' := [(2, .int (x2 + o34)), (4, .int o21), (0, .ref (q 0)), (1, .int x1), (3, .int x3)]) hx hb dX7_weightOf_67 rfl hl (by decide) rfl (fun ls hl => ?_)
          refine lv_iinc (v := x3 + 1) (lv' := [(3, .int (x3 + 1)), (2, .int (x2 + o34)), (4, .int o21), (0, .ref (q 0)), (1, .int x1)]) hx hb dX7_weightOf_68 hl (k := 4) rfl rfl (by decide) rfl (fun ls hl => ?_)
          refine lv_goto (tgt := 4) hx hb dX7_weightOf_71 (by decide) ?_
          exact ih x1 (x2 + o34) (x3 + 1) _ _ _ hS (lv_sub hl [3, 4, 1, 0] rfl) hm
  unfold M_X7_weightOf at hm
  refine lv_iconst (v := 0) hx hb dX7_weightOf_0 (by decide) ?_
  refine lv_istore_n (lv' := [(2, .int 0), (0, .ref (q 0)), (1, .int a1)]) hx hb dX7_weightOf_1 rfl hl (by decide) rfl (fun ls hl => ?_)
  refine lv_iconst (v := 0) hx hb dX7_weightOf_2 (by decide) ?_
  refine lv_istore_n (lv' := [(3, .int 0), (2, .int 0), (0, .ref (q 0)), (1, .int a1)]) hx hb dX7_weightOf_3 rfl hl (by decide) rfl (fun ls hl => ?_)
  exact L4 10000 a1 0 0 _ _ _ hS (lv_sub hl [2, 3, 1, 0] rfl) hm
def M_X7_isPeace_4 (σ : ST) : Nat → Int32 → Int32 → Int32 → Option Int32
  | 0, _, _, _ => none
  | n + 1, x1, x2, x3 => if (σ.1 3) ≤ x3 then okZ x2 else if x2 = 0 then M_X7_isPeace_4 σ n x1 0 (x3 + 1) else (M_X7_has x1 x3).bind fun o18 => if o18 = 0 then M_X7_isPeace_4 σ n x1 1 (x3 + 1) else (rd 7 (σ.2.2 4) x3).bind fun v29 => if (v29 &&& x1) = 0 then M_X7_isPeace_4 σ n x1 1 (x3 + 1) else M_X7_isPeace_4 σ n x1 0 (x3 + 1)
def M_X7_isPeace (σ : ST) (a1 : Int32) : Option Int32 := M_X7_isPeace_4 σ 10000 a1 1 0
abbrev rm_X7_isPeace : Room := { frames := 1, cells := 0, slots := 0, locals := 21 }
set_option maxRecDepth 100000 in
set_option maxHeartbeats 4000000 in
theorem c_X7_isPeace (l : Launch) (d : CD) (q : Nat → Nat) (σ : ST) (a1 : Int32) (out : Int32) (hm : M_X7_isPeace σ a1 = some out) : MetI l yX7_isPeace cX7_isPeace 4 (some .boolean) rm_X7_isPeace d (mw q d σ) [.ref (q 0), .int a1] out (mw q d σ) := by
  refine mkI (own := RX7) (by decide +kernel) rfl (Nat.le_of_ble_eq_true rfl) ?_
  intro p e s m below meth c A ls C hS hl
  obtain ⟨hx, hb, hml, hown, hts, -⟩ := id C
  have hl : lv_has ls 4 [(0, .ref (q 0)), (1, .int a1)] := hl
  have L4 : ∀ (n : Nat) (x1 : Int32) (x2 : Int32) (x3 : Int32) (H : Heap) (locs : List Loc) (ls : Array Slot), HS d A s.heap H locs (mw q d σ) → lv_has ls 4 [(0, .ref (q 0)), (1, .int x1), (2, .int x2), (3, .int x3)] → M_X7_isPeace_4 σ n x1 x2 x3 = some out → WI p l e rm_X7_isPeace s m [.ref (q 0), .int a1].toArray below meth c A d H locs out (mw q d σ) (F0 m 4 ls []) := by
    intro n
    induction n with
    | zero =>
      intro x1 x2 x3 H locs ls hS hl hm
      exact absurd hm (by rw [M_X7_isPeace_4]; exact fun h => nomatch h)
    | succ n ih =>
      intro x1 x2 x3 H locs ls hS hl hm
      rw [M_X7_isPeace_4] at hm
      refine lv_iload_n hx hb dX7_isPeace_4 rfl (lv_at hl 3 rfl) ?_
      refine lv_aload_n hx hb dX7_isPeace_5 rfl (lv_at hl 0 rfl) ?_
      refine g_7_158_0 C hS dX7_isPeace_6 ?_
      refine lv_icmp_ge (tgt := 47) hx hb dX7_isPeace_9 (by decide) (fun c9 => ?_) (fun c9 => ?_)
      · replace hm := it c9 hm
        refine lv_iload_n hx hb dX7_isPeace_47 rfl (lv_at hl 2 rfl) ?_
        exact retZr C hS hm dX7_isPeace_48
      · replace hm := ie c9 hm
        refine lv_iload_n hx hb dX7_isPeace_12 rfl (lv_at hl 2 rfl) ?_
        refine lv_if_eq (tgt := 39) hx hb dX7_isPeace_13 (by decide) (fun c13 => ?_) (fun c13 => ?_)
        · replace hm := it c13 hm
          refine lv_iconst (v := 0) hx hb dX7_isPeace_39 (by decide) ?_
          refine lv_istore_n (lv' := [(2, .int 0), (0, .ref (q 0)), (1, .int x1), (3, .int x3)]) hx hb dX7_isPeace_40 rfl hl (by decide) rfl (fun ls hl => ?_)
          refine lv_iinc (v := x3 + 1) (lv' := [(3, .int (x3 + 1)), (2, .int 0), (0, .ref (q 0)), (1, .int x1)]) hx hb dX7_isPeace_41 hl (k := 3) rfl rfl (by decide) rfl (fun ls hl => ?_)
          refine lv_goto (tgt := 4) hx hb dX7_isPeace_44 (by decide) ?_
          exact ih x1 0 (x3 + 1) _ _ _ hS (lv_sub hl [2, 3, 1, 0] rfl) hm
        · replace hm := ie c13 hm
          refine lv_iload_n hx hb dX7_isPeace_16 rfl (lv_at hl 1 rfl) ?_
          refine lv_iload_n hx hb dX7_isPeace_17 rfl (lv_at hl 3 rfl) ?_
          obtain ⟨o18, e18, hm⟩ := ob hm
          refine after_i C hS (call_S (As := [.int x1, .int x3]) C hS (c_X7_has l d (mw q d σ) x1 x3 o18 e18 _) is_7_135 ⟨rfl, rfl, Nat.le_of_ble_eq_true rfl, Nat.le_of_ble_eq_true rfl⟩ rfl hl.1 (Nat.le_of_ble_eq_true rfl) dX7_isPeace_18) (fun H locs hS => ?_)
          refine lv_if_eq (tgt := 35) hx hb dX7_isPeace_21 (by decide) (fun c21 => ?_) (fun c21 => ?_)
          · replace hm := it c21 hm
            refine lv_iconst (v := 1) hx hb dX7_isPeace_35 (by decide) ?_
            refine lv_goto (tgt := 40) hx hb dX7_isPeace_36 (by decide) ?_
            refine lv_istore_n (lv' := [(2, .int 1), (0, .ref (q 0)), (1, .int x1), (3, .int x3)]) hx hb dX7_isPeace_40 rfl hl (by decide) rfl (fun ls hl => ?_)
            refine lv_iinc (v := x3 + 1) (lv' := [(3, .int (x3 + 1)), (2, .int 1), (0, .ref (q 0)), (1, .int x1)]) hx hb dX7_isPeace_41 hl (k := 3) rfl rfl (by decide) rfl (fun ls hl => ?_)
            refine lv_goto (tgt := 4) hx hb dX7_isPeace_44 (by decide) ?_
            exact ih x1 1 (x3 + 1) _ _ _ hS (lv_sub hl [2, 3, 1, 0] rfl) hm
          · replace hm := ie c21 hm
            refine lv_aload_n hx hb dX7_isPeace_24 rfl (lv_at hl 0 rfl) ?_
            refine g_7_19_0 C hS dX7_isPeace_25 ?_
            refine lv_iload_n hx hb dX7_isPeace_28 rfl (lv_at hl 3 rfl) ?_
            obtain ⟨v29, e29, hm⟩ := ob hm
            refine iald' C hS mw_a4 e29 dX7_isPeace_29 ?_
            refine lv_iload_n hx hb dX7_isPeace_30 rfl (lv_at hl 1 rfl) ?_
            refine lv_iand hx hb dX7_isPeace_31 ?_
            refine lv_if_ne (tgt := 39) hx hb dX7_isPeace_32 (by decide) (fun c32 => ?_) (fun c32 => ?_)
            · replace hm := ie c32 hm
              refine lv_iconst (v := 0) hx hb dX7_isPeace_39 (by decide) ?_
              refine lv_istore_n (lv' := [(2, .int 0), (0, .ref (q 0)), (1, .int x1), (3, .int x3)]) hx hb dX7_isPeace_40 rfl hl (by decide) rfl (fun ls hl => ?_)
              refine lv_iinc (v := x3 + 1) (lv' := [(3, .int (x3 + 1)), (2, .int 0), (0, .ref (q 0)), (1, .int x1)]) hx hb dX7_isPeace_41 hl (k := 3) rfl rfl (by decide) rfl (fun ls hl => ?_)
              refine lv_goto (tgt := 4) hx hb dX7_isPeace_44 (by decide) ?_
              exact ih x1 0 (x3 + 1) _ _ _ hS (lv_sub hl [2, 3, 1, 0] rfl) hm
            · replace hm := it c32 hm
              refine lv_iconst (v := 1) hx hb dX7_isPeace_35 (by decide) ?_
              refine lv_goto (tgt := 40) hx hb dX7_isPeace_36 (by decide) ?_
              refine lv_istore_n (lv' := [(2, .int 1), (0, .ref (q 0)), (1, .int x1), (3, .int x3)]) hx hb dX7_isPeace_40 rfl hl (by decide) rfl (fun ls hl => ?_)
              refine lv_iinc (v := x3 + 1) (lv' := [(3, .int (x3 + 1)), (2, .int 1), (0, .ref (q 0)), (1, .int x1)]) hx hb dX7_isPeace_41 hl (k := 3) rfl rfl (by decide) rfl (fun ls hl => ?_)
              refine lv_goto (tgt := 4) hx hb dX7_isPeace_44 (by decide) ?_
              exact ih x1 1 (x3 + 1) _ _ _ hS (lv_sub hl [2, 3, 1, 0] rfl) hm
  unfold M_X7_isPeace at hm
  refine lv_iconst (v := 1) hx hb dX7_isPeace_0 (by decide) ?_
  refine lv_istore_n (lv' := [(2, .int 1), (0, .ref (q 0)), (1, .int a1)]) hx hb dX7_isPeace_1 rfl hl (by decide) rfl (fun ls hl => ?_)
  refine lv_iconst (v := 0) hx hb dX7_isPeace_2 (by decide) ?_
  refine lv_istore_n (lv' := [(3, .int 0), (2, .int 1), (0, .ref (q 0)), (1, .int a1)]) hx hb dX7_isPeace_3 rfl hl (by decide) rfl (fun ls hl => ?_)
  exact L4 10000 a1 1 0 _ _ _ hS (lv_sub hl [2, 3, 1, 0] rfl) hm
