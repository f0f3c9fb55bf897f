def M_X2_readHouse (σ : ST) : Option (Int32 × ST) := (M_X2_sign σ).bind fun o1 => (M_X2_kindOf o1).bind fun o4 => if o4 = (-1) then (okZ 0).bind fun z => some (z, σ) else if 7 ≤ (σ.1 23) then (okZ 0).bind fun z => some (z, σ) else if (σ.1 24) ≤ 0 then (some (setI σ 13 ((σ.1 13) + 1))).bind fun σ44 => (M_X2_takeFigure σ44 0 9).bind fun o51 => if o51.1 = (-1) then (okZ 0).bind fun z => some (z, o51.2) else (M_X0_addHouse o51.2 o4 o51.1).bind fun o68 => (okZ 1).bind fun z => some (z, o68) else (okZ 0).bind fun z => some (z, σ)
abbrev rm_X2_readHouse : Room := { frames := 7, cells := 0, slots := 0, locals := 240 }
set_option maxRecDepth 100000 in
set_option maxHeartbeats 4000000 in
theorem c_X2_readHouse (l : Launch) (d : CD) (q : Nat → Nat) (σ : ST) (out : Int32 × ST) (hm : M_X2_readHouse σ = some out) : MetI l yX2_readHouse cX2_readHouse 3 (some .boolean) rm_X2_readHouse d (cw q d σ) [.ref (q 17)] out.1 (cw q d out.2) := by
  refine mkI (own := RX2) (by decide +kernel) rfl (Nat.le_of_ble_eq_true rfl) ?_
  intro p e s m below meth c A ls C hS hl
  obtain ⟨hx, hb, hml, hown, hts, -⟩ := id C
  have hl : lv_has ls 3 [(0, .ref (q 17))] := hl
  unfold M_X2_readHouse at hm
  refine lv_aload_n hx hb dX2_readHouse_0 rfl (lv_at hl 0 rfl) ?_
  obtain ⟨o1, e1, hm⟩ := ob hm
  refine after_i C hS (call_V (As := []) C hS (c_X2_sign l d q σ o1 e1 _) iv_2_58 ⟨rfl, rfl, Nat.le_of_ble_eq_true rfl, Nat.le_of_ble_eq_true rfl⟩ cw_o17 rfl rfl rfl hl.1 (Nat.le_of_ble_eq_true rfl) dX2_readHouse_1) (fun H locs hS => ?_)
  obtain ⟨o4, e4, hm⟩ := ob hm
  refine after_i C hS (call_S (As := [.int o1]) C hS (c_X2_kindOf l d (cw q d σ) o1 o4 e4 _) is_2_83 ⟨rfl, rfl, Nat.le_of_ble_eq_true rfl, Nat.le_of_ble_eq_true rfl⟩ rfl hl.1 (Nat.le_of_ble_eq_true rfl) dX2_readHouse_4) (fun H locs hS => ?_)
  refine lv_istore_n (lv' := [(1, .int o4), (0, .ref (q 17))]) hx hb dX2_readHouse_7 rfl hl (by decide) rfl (fun ls hl => ?_)
  refine lv_iload_n hx hb dX2_readHouse_8 rfl (lv_at hl 0 rfl) ?_
  refine lv_iconst (v := (-1)) hx hb dX2_readHouse_9 (by decide) ?_
  refine lv_icmp_eq (tgt := 35) hx hb dX2_readHouse_10 (by decide) (fun c10 => ?_) (fun c10 => ?_)
  · replace hm := it c10 hm
    refine lv_iconst (v := 0) hx hb dX2_readHouse_35 (by decide) ?_
    exact retZw (wf := cw q d) C hS hm dX2_readHouse_36
  · replace hm := ie c10 hm
    refine lv_aload_n hx hb dX2_readHouse_13 rfl (lv_at hl 1 rfl) ?_
    refine g_2_12_17 C hS dX2_readHouse_14 ?_
    refine g_2_42_18 C hS dX2_readHouse_17 ?_
    refine lv_bipush (v := 7) hx hb dX2_readHouse_20 (by decide) ?_
    refine lv_icmp_ge (tgt := 35) hx hb dX2_readHouse_22 (by decide) (fun c22 => ?_) (fun c22 => ?_)
    · replace hm := it c22 hm
      refine lv_iconst (v := 0) hx hb dX2_readHouse_35 (by decide) ?_
      exact retZw (wf := cw q d) C hS hm dX2_readHouse_36
    · replace hm := ie c22 hm
      refine lv_aload_n hx hb dX2_readHouse_25 rfl (lv_at hl 1 rfl) ?_
      refine g_2_12_17 C hS dX2_readHouse_26 ?_
      refine g_2_86_18 C hS dX2_readHouse_29 ?_
      refine lv_if_le (tgt := 37) hx hb dX2_readHouse_32 (by decide) (fun c32 => ?_) (fun c32 => ?_)
      · replace hm := it c32 hm
        refine lv_aload_n hx hb dX2_readHouse_37 rfl (lv_at hl 1 rfl) ?_
        refine lv_dup hx hb dX2_readHouse_38 rfl ?_
        refine g_2_26_17 C hS dX2_readHouse_39 ?_
        refine lv_iconst (v := 1) hx hb dX2_readHouse_42 (by decide) ?_
        refine lv_iadd hx hb dX2_readHouse_43 ?_
        obtain ⟨σ44, e44, hm⟩ := ob hm
        refine p_2_26_17 C hS e44 dX2_readHouse_44 (fun H locs hS => ?_)
        refine lv_aload_n hx hb dX2_readHouse_47 rfl (lv_at hl 1 rfl) ?_
        refine lv_iconst (v := 0) hx hb dX2_readHouse_48 (by decide) ?_
        refine lv_bipush (v := 9) hx hb dX2_readHouse_49 (by decide) ?_
        obtain ⟨o51, e51, hm⟩ := ob hm
        refine after_i C hS (call_V (As := [.int 0, .int 9]) C hS (c_X2_takeFigure l d q σ44 0 9 o51 e51 _) iv_2_65 ⟨rfl, rfl, Nat.le_of_ble_eq_true rfl, Nat.le_of_ble_eq_true rfl⟩ cw_o17 rfl rfl rfl hl.1 (Nat.le_of_ble_eq_true rfl) dX2_readHouse_51) (fun H locs hS => ?_)
        refine lv_istore_n (lv' := [(2, .int o51.1), (1, .int o4), (0, .ref (q 17))]) hx hb dX2_readHouse_54 rfl hl (by decide) rfl (fun ls hl => ?_)
        refine lv_iload_n hx hb dX2_readHouse_55 rfl (lv_at hl 0 rfl) ?_
        refine lv_iconst (v := (-1)) hx hb dX2_readHouse_56 (by decide) ?_
        refine lv_icmp_ne (tgt := 62) hx hb dX2_readHouse_57 (by decide) (fun c57 => ?_) (fun c57 => ?_)
        · replace hm := ie c57 hm
          refine lv_aload_n hx hb dX2_readHouse_62 rfl (lv_at hl 2 rfl) ?_
          refine g_2_12_17 C hS dX2_readHouse_63 ?_
          refine lv_iload_n hx hb dX2_readHouse_66 rfl (lv_at hl 1 rfl) ?_
          refine lv_iload_n hx hb dX2_readHouse_67 rfl (lv_at hl 0 rfl) ?_
          obtain ⟨o68, e68, hm⟩ := ob hm
          refine after_v C hS (call_V (As := [.int o4, .int o51.1]) C hS (c_X0_addHouse l d q o51.2 o4 o51.1 o68 e68 _) iv_2_89 ⟨rfl, rfl, Nat.le_of_ble_eq_true rfl, Nat.le_of_ble_eq_true rfl⟩ cw_o18 rfl rfl rfl hl.1 (Nat.le_of_ble_eq_true rfl) dX2_readHouse_68) (fun H locs hS => ?_)
          refine lv_iconst (v := 1) hx hb dX2_readHouse_71 (by decide) ?_
          exact retZw (wf := cw q d) C hS hm dX2_readHouse_72
        · replace hm := it c57 hm
          refine lv_iconst (v := 0) hx hb dX2_readHouse_60 (by decide) ?_
          exact retZw (wf := cw q d) C hS hm dX2_readHouse_61
      · replace hm := ie c32 hm
        refine lv_iconst (v := 0) hx hb dX2_readHouse_35 (by decide) ?_
        exact retZw (wf := cw q d) C hS hm dX2_readHouse_36
def M_X6_isIn (a0 : Int32) (a1 : Int32) : Option Int32 := if ((a1 >>> (a0 &&& 31)) &&& 1) = 1 then okZ 1 else okZ 0
abbrev rm_X6_isIn : Room := { frames := 0, cells := 0, slots := 0, locals := 0 }
set_option maxRecDepth 100000 in
set_option maxHeartbeats 4000000 in
theorem c_X6_isIn (l : Launch) (d : CD) (w : va_W) (a0 : Int32) (a1 : Int32) (out : Int32) (hm : M_X6_isIn a0 a1 = some out) : MetI l yX6_isIn cX6_isIn 2 (some .boolean) rm_X6_isIn d w [.int a0, .int a1] out w := by
  refine mkI (own := RX6) (by decide +kernel) rfl (Nat.le_of_ble_eq_true rfl) ?_
  intro p e s m below meth c A ls C hS hl
  obtain ⟨hx, hb, hml, hown, hts, -⟩ := id C
  have hl : lv_has ls 2 [(0, .int a0), (1, .int a1)] := hl
  unfold M_X6_isIn at hm
  refine lv_iload_n hx hb dX6_isIn_0 rfl (lv_at hl 1 rfl) ?_
  refine lv_iload_n hx hb dX6_isIn_1 rfl (lv_at hl 0 rfl) ?_
  refine lv_ishr hx hb dX6_isIn_2 ?_
  refine lv_iconst (v := 1) hx hb dX6_isIn_3 (by decide) ?_
  refine lv_iand hx hb dX6_isIn_4 ?_
  refine lv_iconst (v := 1) hx hb dX6_isIn_5 (by decide) ?_
  refine lv_icmp_ne (tgt := 13) hx hb dX6_isIn_6 (by decide) (fun c6 => ?_) (fun c6 => ?_)
  · replace hm := ie c6 hm
    refine lv_iconst (v := 0) hx hb dX6_isIn_13 (by decide) ?_
    exact retZr C hS hm dX6_isIn_14
  · replace hm := it c6 hm
    refine lv_iconst (v := 1) hx hb dX6_isIn_9 (by decide) ?_
    refine lv_goto (tgt := 14) hx hb dX6_isIn_10 (by decide) ?_
    exact retZr C hS hm dX6_isIn_14
def M_X0_addFeud (σ : ST) (a1 : Int32) (a2 : Int32) : Option ST := (rd 7 (σ.2.2 21) a1).bind fun v6 => (wrA 7 σ 21 a1 (v6 ||| ((1 : Int32) <<< (a2 &&& 31)))).bind fun σ11 => (rd 7 (σ11.2.2 21) a2).bind fun v18 => (wrA 7 σ11 21 a2 (v18 ||| ((1 : Int32) <<< (a1 &&& 31)))).bind fun σ23 => (some (setI σ23 24 ((σ23.1 24) + 1))).bind fun σ31 => some σ31
abbrev rm_X0_addFeud : Room := { frames := 0, cells := 0, slots := 0, locals := 0 }
set_option maxRecDepth 100000 in
set_option maxHeartbeats 4000000 in
theorem c_X0_addFeud (l : Launch) (d : CD) (q : Nat → Nat) (σ : ST) (a1 : Int32) (a2 : Int32) (out : ST) (hm : M_X0_addFeud σ a1 a2 = some out) : MetV l yX0_addFeud cX0_addFeud 3 (none) rm_X0_addFeud d (cw q d σ) [.ref (q 18), .int a1, .int a2] (cw q d out) := by
  refine mkV (own := RX0) (by decide +kernel) rfl (Nat.le_of_ble_eq_true rfl) ?_
  intro p e s m below meth c A ls C hS hl
  obtain ⟨hx, hb, hml, hown, hts, -⟩ := id C
  have hl : lv_has ls 3 [(0, .ref (q 18)), (1, .int a1), (2, .int a2)] := hl
  unfold M_X0_addFeud at hm
  refine lv_aload_n hx hb dX0_addFeud_0 rfl (lv_at hl 0 rfl) ?_
  refine g_0_18_18 C hS dX0_addFeud_1 ?_
  refine lv_iload_n hx hb dX0_addFeud_4 rfl (lv_at hl 1 rfl) ?_
  refine lv_dup2_11 hx hb dX0_addFeud_5 rfl rfl ?_
  obtain ⟨v6, e6, hm⟩ := ob hm
  refine iald' C hS cw_a21 e6 dX0_addFeud_6 ?_
  refine lv_iconst (v := 1) hx hb dX0_addFeud_7 (by decide) ?_
  refine lv_iload_n hx hb dX0_addFeud_8 rfl (lv_at hl 2 rfl) ?_
  refine lv_ishl hx hb dX0_addFeud_9 ?_
  refine lv_ior hx hb dX0_addFeud_10 ?_
  obtain ⟨σ11, e11, hm⟩ := ob hm
  refine iast' (wf := cw q d) C hS cw_a21 cw_s21 e11 dX0_addFeud_11 (fun H locs hS => ?_)
  refine lv_aload_n hx hb dX0_addFeud_12 rfl (lv_at hl 0 rfl) ?_
  refine g_0_18_18 C hS dX0_addFeud_13 ?_
  refine lv_iload_n hx hb dX0_addFeud_16 rfl (lv_at hl 2 rfl) ?_
  refine lv_dup2_11 hx hb dX0_addFeud_17 rfl rfl ?_
  obtain ⟨v18, e18, hm⟩ := ob hm
  refine iald' C hS cw_a21 e18 dX0_addFeud_18 ?_
  refine lv_iconst (v := 1) hx hb dX0_addFeud_19 (by decide) ?_
  refine lv_iload_n hx hb dX0_addFeud_20 rfl (lv_at hl 1 rfl) ?_
  refine lv_ishl hx hb dX0_addFeud_21 ?_
  refine lv_ior hx hb dX0_addFeud_22 ?_
  obtain ⟨σ23, e23, hm⟩ := ob hm
  refine iast' (wf := cw q d) C hS cw_a21 cw_s21 e23 dX0_addFeud_23 (fun H locs hS => ?_)
  refine lv_aload_n hx hb dX0_addFeud_24 rfl (lv_at hl 0 rfl) ?_
  refine lv_dup hx hb dX0_addFeud_25 rfl ?_
  refine g_0_34_18 C hS dX0_addFeud_26 ?_
  refine lv_iconst (v := 1) hx hb dX0_addFeud_29 (by decide) ?_
  refine lv_iadd hx hb dX0_addFeud_30 ?_
  obtain ⟨σ31, e31, hm⟩ := ob hm
  refine p_0_34_18 C hS e31 dX0_addFeud_31 (fun H locs hS => ?_)
  exact retVw (wf := cw q d) C hS hm dX0_addFeud_34
def M_X2_readFeud (σ : ST) : Option (Int32 × ST) := if (σ.1 23) = 0 then (okZ 0).bind fun z => some (z, σ) else (some (setI σ 13 ((σ.1 13) + 1))).bind fun σ19 => (M_X2_takeFigure σ19 0 ((σ19.1 23) - 1)).bind fun o33 => if o33.1 = (-1) then (okZ 0).bind fun z => some (z, o33.2) else (M_X2_figure o33.2 (o33.1 + 1) ((o33.2.1 23) - 1)).bind fun o57 => if o57 = (-1) then (okZ 0).bind fun z => some (z, o33.2) else (rd 7 (o33.2.2.2 21) o33.1).bind fun v75 => (M_X6_isIn o57 v75).bind fun o76 => if o76 = 0 then (some (setI o33.2 13 ((o33.2.1 13) + 1))).bind fun σ91 => (M_X0_addFeud σ91 o33.1 o57).bind fun o100 => (okZ 1).bind fun z => some (z, o100) else (okZ 0).bind fun z => some (z, o33.2)
abbrev rm_X2_readFeud : Room := { frames := 7, cells := 0, slots := 0, locals := 152 }
set_option maxRecDepth 100000 in
set_option maxHeartbeats 4000000 in
theorem c_X2_readFeud (l : Launch) (d : CD) (q : Nat → Nat) (σ : ST) (out : Int32 × ST) (hm : M_X2_readFeud σ = some out) : MetI l yX2_readFeud cX2_readFeud 3 (some .boolean) rm_X2_readFeud d (cw q d σ) [.ref (q 17)] out.1 (cw q d out.2) := by
  refine mkI (own := RX2) (by decide +kernel) rfl (Nat.le_of_ble_eq_true rfl) ?_
  intro p e s m below meth c A ls C hS hl
  obtain ⟨hx, hb, hml, hown, hts, -⟩ := id C
  have hl : lv_has ls 3 [(0, .ref (q 17))] := hl
  unfold M_X2_readFeud at hm
  refine lv_aload_n hx hb dX2_readFeud_0 rfl (lv_at hl 0 rfl) ?_
  refine g_2_12_17 C hS dX2_readFeud_1 ?_
  refine g_2_42_18 C hS dX2_readFeud_4 ?_
  refine lv_if_ne (tgt := 12) hx hb dX2_readFeud_7 (by decide) (fun c7 => ?_) (fun c7 => ?_)
  · replace hm := ie c7 hm
    refine lv_aload_n hx hb dX2_readFeud_12 rfl (lv_at hl 0 rfl) ?_
    refine lv_dup hx hb dX2_readFeud_13 rfl ?_
    refine g_2_26_17 C hS dX2_readFeud_14 ?_
    refine lv_iconst (v := 1) hx hb dX2_readFeud_17 (by decide) ?_
    refine lv_iadd hx hb dX2_readFeud_18 ?_
    obtain ⟨σ19, e19, hm⟩ := ob hm
    refine p_2_26_17 C hS e19 dX2_readFeud_19 (fun H locs hS => ?_)
    refine lv_aload_n hx hb dX2_readFeud_22 rfl (lv_at hl 0 rfl) ?_
    refine lv_iconst (v := 0) hx hb dX2_readFeud_23 (by decide) ?_
    refine lv_aload_n hx hb dX2_readFeud_24 rfl (lv_at hl 0 rfl) ?_
    refine g_2_12_17 C hS dX2_readFeud_25 ?_
    refine g_2_42_18 C hS dX2_readFeud_28 ?_
    refine lv_iconst (v := 1) hx hb dX2_readFeud_31 (by decide) ?_
    refine lv_isub hx hb dX2_readFeud_32 ?_
    obtain ⟨o33, e33, hm⟩ := ob hm
    refine after_i C hS (call_V (As := [.int 0, .int ((σ19.1 23) - 1)]) C hS (c_X2_takeFigure l d q σ19 0 ((σ19.1 23) - 1) o33 e33 _) iv_2_65 ⟨rfl, rfl, Nat.le_of_ble_eq_true rfl, Nat.le_of_ble_eq_true rfl⟩ cw_o17 rfl rfl rfl hl.1 (Nat.le_of_ble_eq_true rfl) dX2_readFeud_33) (fun H locs hS => ?_)
    refine lv_istore_n (lv' := [(1, .int o33.1), (0, .ref (q 17))]) hx hb dX2_readFeud_36 rfl hl (by decide) rfl (fun ls hl => ?_)
    refine lv_iload_n hx hb dX2_readFeud_37 rfl (lv_at hl 0 rfl) ?_
    refine lv_iconst (v := (-1)) hx hb dX2_readFeud_38 (by decide) ?_
    refine lv_icmp_ne (tgt := 44) hx hb dX2_readFeud_39 (by decide) (fun c39 => ?_) (fun c39 => ?_)
    · replace hm := ie c39 hm
      refine lv_aload_n hx hb dX2_readFeud_44 rfl (lv_at hl 1 rfl) ?_
      refine lv_iload_n hx hb dX2_readFeud_45 rfl (lv_at hl 0 rfl) ?_
      refine lv_iconst (v := 1) hx hb dX2_readFeud_46 (by decide) ?_
      refine lv_iadd hx hb dX2_readFeud_47 ?_
      refine lv_aload_n hx hb dX2_readFeud_48 rfl (lv_at hl 1 rfl) ?_
      refine g_2_12_17 C hS dX2_readFeud_49 ?_
      refine g_2_42_18 C hS dX2_readFeud_52 ?_
      refine lv_iconst (v := 1) hx hb dX2_readFeud_55 (by decide) ?_
      refine lv_isub hx hb dX2_readFeud_56 ?_
      obtain ⟨o57, e57, hm⟩ := ob hm
      refine after_i C hS (call_V (As := [.int (o33.1 + 1), .int ((o33.2.1 23) - 1)]) C hS (c_X2_figure l d q o33.2 (o33.1 + 1) ((o33.2.1 23) - 1) o57 e57 _) iv_2_62 ⟨rfl, rfl, Nat.le_of_ble_eq_true rfl, Nat.le_of_ble_eq_true rfl⟩ cw_o17 rfl rfl rfl hl.1 (Nat.le_of_ble_eq_true rfl) dX2_readFeud_57) (fun H locs hS => ?_)
      refine lv_istore_n (lv' := [(2, .int o57), (1, .int o33.1), (0, .ref (q 17))]) hx hb dX2_readFeud_60 rfl hl (by decide) rfl (fun ls hl => ?_)
      refine lv_iload_n hx hb dX2_readFeud_61 rfl (lv_at hl 0 rfl) ?_
      refine lv_iconst (v := (-1)) hx hb dX2_readFeud_62 (by decide) ?_
      refine lv_icmp_eq (tgt := 82) hx hb dX2_readFeud_63 (by decide) (fun c63 => ?_) (fun c63 => ?_)
      · replace hm := it c63 hm
        refine lv_iconst (v := 0) hx hb dX2_readFeud_82 (by decide) ?_
        exact retZw (wf := cw q d) C hS hm dX2_readFeud_83
      · replace hm := ie c63 hm
        refine lv_iload_n hx hb dX2_readFeud_66 rfl (lv_at hl 0 rfl) ?_
        refine lv_aload_n hx hb dX2_readFeud_67 rfl (lv_at hl 2 rfl) ?_
        refine g_2_12_17 C hS dX2_readFeud_68 ?_
        refine g_2_93_18 C hS dX2_readFeud_71 ?_
        refine lv_iload_n hx hb dX2_readFeud_74 rfl (lv_at hl 1 rfl) ?_
        obtain ⟨v75, e75, hm⟩ := ob hm
        refine iald' C hS cw_a21 e75 dX2_readFeud_75 ?_
        obtain ⟨o76, e76, hm⟩ := ob hm
        refine after_i C hS (call_N (As := [.int o57, .int v75]) C hS (c_X6_isIn l d (cw q d o33.2) o57 v75 o76 e76 _) is_2_97 ⟨rfl, rfl, Nat.le_of_ble_eq_true rfl, Nat.le_of_ble_eq_true rfl⟩ rfl hl.1 (Nat.le_of_ble_eq_true rfl) dX2_readFeud_76) (fun H locs hS => ?_)
        refine lv_if_eq (tgt := 84) hx hb dX2_readFeud_79 (by decide) (fun c79 => ?_) (fun c79 => ?_)
        · replace hm := it c79 hm
          refine lv_aload_n hx hb dX2_readFeud_84 rfl (lv_at hl 2 rfl) ?_
          refine lv_dup hx hb dX2_readFeud_85 rfl ?_
          refine g_2_26_17 C hS dX2_readFeud_86 ?_
          refine lv_iconst (v := 1) hx hb dX2_readFeud_89 (by decide) ?_
          refine lv_iadd hx hb dX2_readFeud_90 ?_
          obtain ⟨σ91, e91, hm⟩ := ob hm
          refine p_2_26_17 C hS e91 dX2_readFeud_91 (fun H locs hS => ?_)
          refine lv_aload_n hx hb dX2_readFeud_94 rfl (lv_at hl 2 rfl) ?_
          refine g_2_12_17 C hS dX2_readFeud_95 ?_
          refine lv_iload_n hx hb dX2_readFeud_98 rfl (lv_at hl 1 rfl) ?_
          refine lv_iload_n hx hb dX2_readFeud_99 rfl (lv_at hl 0 rfl) ?_
          obtain ⟨o100, e100, hm⟩ := ob hm
          refine after_v C hS (call_V (As := [.int o33.1, .int o57]) C hS (c_X0_addFeud l d q σ91 o33.1 o57 o100 e100 _) iv_2_101 ⟨rfl, rfl, Nat.le_of_ble_eq_true rfl, Nat.le_of_ble_eq_true rfl⟩ cw_o18 rfl rfl rfl hl.1 (Nat.le_of_ble_eq_true rfl) dX2_readFeud_100) (fun H locs hS => ?_)
          refine lv_iconst (v := 1) hx hb dX2_readFeud_103 (by decide) ?_
          exact retZw (wf := cw q d) C hS hm dX2_readFeud_104
        · replace hm := ie c79 hm
          refine lv_iconst (v := 0) hx hb dX2_readFeud_82 (by decide) ?_
          exact retZw (wf := cw q d) C hS hm dX2_readFeud_83
    · replace hm := it c39 hm
      refine lv_iconst (v := 0) hx hb dX2_readFeud_42 (by decide) ?_
      exact retZw (wf := cw q d) C hS hm dX2_readFeud_43
  · replace hm := it c7 hm
    refine lv_iconst (v := 0) hx hb dX2_readFeud_10 (by decide) ?_
    exact retZw (wf := cw q d) C hS hm dX2_readFeud_11
def M_X2_readItem (σ : ST) : Option (Int32 × ST) := (M_X2_sign σ).bind fun o1 => if o1 = 120 then (M_X2_readFeud σ).bind fun o10 => (okZ o10.1).bind fun z => some (z, o10.2) else (M_X2_readHouse σ).bind fun o17 => (okZ o17.1).bind fun z => some (z, o17.2)
abbrev rm_X2_readItem : Room := { frames := 8, cells := 0, slots := 0, locals := 262 }
set_option maxRecDepth 100000 in
set_option maxHeartbeats 4000000 in
theorem c_X2_readItem (l : Launch) (d : CD) (q : Nat → Nat) (σ : ST) (out : Int32 × ST) (hm : M_X2_readItem σ = some out) : MetI l yX2_readItem cX2_readItem 1 (some .boolean) rm_X2_readItem d (cw q d σ) [.ref (q 17)] out.1 (cw q d out.2) := by
  refine mkI (own := RX2) (by decide +kernel) rfl (Nat.le_of_ble_eq_true rfl) ?_
  intro p e s m below meth c A ls C hS hl
  obtain ⟨hx, hb, hml, hown, hts, -⟩ := id C
  have hl : lv_has ls 1 [(0, .ref (q 17))] := hl
  unfold M_X2_readItem at hm
  refine lv_aload_n hx hb dX2_readItem_0 rfl (lv_at hl 0 rfl) ?_
  obtain ⟨o1, e1, hm⟩ := ob hm
  refine after_i C hS (call_V (As := []) C hS (c_X2_sign l d q σ o1 e1 _) iv_2_58 ⟨rfl, rfl, Nat.le_of_ble_eq_true rfl, Nat.le_of_ble_eq_true rfl⟩ cw_o17 rfl rfl rfl hl.1 (Nat.le_of_ble_eq_true rfl) dX2_readItem_1) (fun H locs hS => ?_)
  refine lv_bipush (v := 120) hx hb dX2_readItem_4 (by decide) ?_
  refine lv_icmp_ne (tgt := 16) hx hb dX2_readItem_6 (by decide) (fun c6 => ?_) (fun c6 => ?_)
  · replace hm := ie c6 hm
    refine lv_aload_n hx hb dX2_readItem_16 rfl (lv_at hl 0 rfl) ?_
    obtain ⟨o17, e17, hm⟩ := ob hm
    refine after_i C hS (call_V (As := []) C hS (c_X2_readHouse l d q σ o17 e17 _) iv_2_80 ⟨rfl, rfl, Nat.le_of_ble_eq_true rfl, Nat.le_of_ble_eq_true rfl⟩ cw_o17 rfl rfl rfl hl.1 (Nat.le_of_ble_eq_true rfl) dX2_readItem_17) (fun H locs hS => ?_)
    exact retZw (wf := cw q d) C hS hm dX2_readItem_20
  · replace hm := it c6 hm
    refine lv_aload_n hx hb dX2_readItem_9 rfl (lv_at hl 0 rfl) ?_
    obtain ⟨o10, e10, hm⟩ := ob hm
    refine after_i C hS (call_V (As := []) C hS (c_X2_readFeud l d q σ o10 e10 _) iv_2_77 ⟨rfl, rfl, Nat.le_of_ble_eq_true rfl, Nat.le_of_ble_eq_true rfl⟩ cw_o17 rfl rfl rfl hl.1 (Nat.le_of_ble_eq_true rfl) dX2_readItem_10) (fun H locs hS => ?_)
    refine lv_goto (tgt := 20) hx hb dX2_readItem_13 (by decide) ?_
    exact retZw (wf := cw q d) C hS hm dX2_readItem_20
def M_X0_clear (σ : ST) : Option ST := (some (setI σ 20 (0))).bind fun σ2 => (some (setI σ2 21 (0))).bind fun σ7 => (some (setI σ7 22 (0))).bind fun σ12 => (some (setI σ12 23 (0))).bind fun σ17 => (some (setI σ17 24 (0))).bind fun σ22 => (fillA 7 σ22 21 0).bind fun σ30 => some σ30
abbrev rm_X0_clear : Room := { frames := 1, cells := 0, slots := 0, locals := 23 }
set_option maxRecDepth 100000 in
set_option maxHeartbeats 4000000 in
theorem c_X0_clear (l : Launch) (d : CD) (q : Nat → Nat) (σ : ST) (out : ST) (hm : M_X0_clear σ = some out) : MetV l yX0_clear cX0_clear 1 (none) rm_X0_clear d (cw q d σ) [.ref (q 18)] (cw q d out) := by
  refine mkV (own := RX0) (by decide +kernel) rfl (Nat.le_of_ble_eq_true rfl) ?_
  intro p e s m below meth c A ls C hS hl
  obtain ⟨hx, hb, hml, hown, hts, -⟩ := id C
  have hl : lv_has ls 1 [(0, .ref (q 18))] := hl
  unfold M_X0_clear at hm
  refine lv_aload_n hx hb dX0_clear_0 rfl (lv_at hl 0 rfl) ?_
  refine lv_iconst (v := 0) hx hb dX0_clear_1 (by decide) ?_
  obtain ⟨σ2, e2, hm⟩ := ob hm
  refine p_0_21_18 C hS e2 dX0_clear_2 (fun H locs hS => ?_)
  refine lv_aload_n hx hb dX0_clear_5 rfl (lv_at hl 0 rfl) ?_
  refine lv_iconst (v := 0) hx hb dX0_clear_6 (by decide) ?_
  obtain ⟨σ7, e7, hm⟩ := ob hm
  refine p_0_25_18 C hS e7 dX0_clear_7 (fun H locs hS => ?_)
  refine lv_aload_n hx hb dX0_clear_10 rfl (lv_at hl 0 rfl) ?_
  refine lv_iconst (v := 0) hx hb dX0_clear_11 (by decide) ?_
  obtain ⟨σ12, e12, hm⟩ := ob hm
  refine p_0_28_18 C hS e12 dX0_clear_12 (fun H locs hS => ?_)
  refine lv_aload_n hx hb dX0_clear_15 rfl (lv_at hl 0 rfl) ?_
  refine lv_iconst (v := 0) hx hb dX0_clear_16 (by decide) ?_
  obtain ⟨σ17, e17, hm⟩ := ob hm
  refine p_0_31_18 C hS e17 dX0_clear_17 (fun H locs hS => ?_)
  refine lv_aload_n hx hb dX0_clear_20 rfl (lv_at hl 0 rfl) ?_
  refine lv_iconst (v := 0) hx hb dX0_clear_21 (by decide) ?_
  obtain ⟨σ22, e22, hm⟩ := ob hm
  refine p_0_34_18 C hS e22 dX0_clear_22 (fun H locs hS => ?_)
  refine lv_aload_n hx hb dX0_clear_25 rfl (lv_at hl 0 rfl) ?_
  refine g_0_18_18 C hS dX0_clear_26 ?_
  refine lv_iconst (v := 0) hx hb dX0_clear_29 (by decide) ?_
  obtain ⟨σ30, e30, hm⟩ := ob hm
  refine after_v (w' := cw q d σ30) C hS (call_S (As := [.ref (q 21), .int 0]) C hS (c_fill (wf := cw q d) (by decide) (fun _ => cw_a21) (fun _ => cw_s21) e30 _) is_0_37 ⟨rfl, rfl, Nat.le_of_ble_eq_true rfl, Nat.le_of_ble_eq_true rfl⟩ rfl hl.1 (Nat.le_of_ble_eq_true rfl) dX0_clear_30) (fun H locs hS => ?_)
  exact retVw (wf := cw q d) C hS hm dX0_clear_33
def M_X2_readPeace (σ : ST) : Option (Int32 × ST) := (M_X2_isEnd σ).bind fun o1 => if o1 = 0 then (M_X2_sign σ).bind fun o8 => if o8 = 113 then (some (setI σ 13 ((σ.1 13) + 1))).bind fun σ25 => (M_X2_takeFigure σ25 1 9).bind fun o36 => (some (setI o36.2 20 (o36.1))).bind fun σ39 => if (σ39.1 20) = (-1) then (okZ 0).bind fun z => some (z, σ39) else (M_X2_takeFigure σ39 0 9).bind fun o59 => if o59.1 = (-1) then (okZ 0).bind fun z => some (z, o59.2) else (M_X2_takeFigure o59.2 0 9).bind fun o74 => if o74.1 = (-1) then (okZ 0).bind fun z => some (z, o74.2) else (some (setI o74.2 21 ((10 * o59.1) + o74.1))).bind fun σ95 => (M_X2_takeFigure σ95 0 9).bind fun o106 => (some (setI o106.2 22 (o106.1))).bind fun σ109 => if (σ109.1 22) = (-1) then (okZ 0).bind fun z => some (z, σ109) else (okZ 1).bind fun z => some (z, σ109) else (okZ 0).bind fun z => some (z, σ) else (okZ 0).bind fun z => some (z, σ)
abbrev rm_X2_readPeace : Room := { frames := 7, cells := 0, slots := 0, locals := 152 }
set_option maxRecDepth 100000 in
set_option maxHeartbeats 4000000 in
theorem c_X2_readPeace (l : Launch) (d : CD) (q : Nat → Nat) (σ : ST) (out : Int32 × ST) (hm : M_X2_readPeace σ = some out) : MetI l yX2_readPeace cX2_readPeace 3 (some .boolean) rm_X2_readPeace d (cw q d σ) [.ref (q 17)] out.1 (cw q d out.2) := by
  refine mkI (own := RX2) (by decide +kernel) rfl (Nat.le_of_ble_eq_true rfl) ?_
  intro p e s m below meth c A ls C hS hl
  obtain ⟨hx, hb, hml, hown, hts, -⟩ := id C
  have hl : lv_has ls 3 [(0, .ref (q 17))] := hl
  unfold M_X2_readPeace at hm
  refine lv_aload_n hx hb dX2_readPeace_0 rfl (lv_at hl 0 rfl) ?_
  obtain ⟨o1, e1, hm⟩ := ob hm
  refine after_i C hS (call_V (As := []) C hS (c_X2_isEnd l d q σ o1 e1 _) iv_2_39 ⟨rfl, rfl, Nat.le_of_ble_eq_true rfl, Nat.le_of_ble_eq_true rfl⟩ cw_o17 rfl rfl rfl hl.1 (Nat.le_of_ble_eq_true rfl) dX2_readPeace_1) (fun H locs hS => ?_)
  refine lv_if_ne (tgt := 16) hx hb dX2_readPeace_4 (by decide) (fun c4 => ?_) (fun c4 => ?_)
  · replace hm := ie c4 hm
    refine lv_iconst (v := 0) hx hb dX2_readPeace_16 (by decide) ?_
    exact retZw (wf := cw q d) C hS hm dX2_readPeace_17
  · replace hm := it c4 hm
    refine lv_aload_n hx hb dX2_readPeace_7 rfl (lv_at hl 0 rfl) ?_
    obtain ⟨o8, e8, hm⟩ := ob hm
    refine after_i C hS (call_V (As := []) C hS (c_X2_sign l d q σ o8 e8 _) iv_2_58 ⟨rfl, rfl, Nat.le_of_ble_eq_true rfl, Nat.le_of_ble_eq_true rfl⟩ cw_o17 rfl rfl rfl hl.1 (Nat.le_of_ble_eq_true rfl) dX2_readPeace_8) (fun H locs hS => ?_)
    refine lv_bipush (v := 113) hx hb dX2_readPeace_11 (by decide) ?_
    refine lv_icmp_eq (tgt := 18) hx hb dX2_readPeace_13 (by decide) (fun c13 => ?_) (fun c13 => ?_)
    · replace hm := it c13 hm
      refine lv_aload_n hx hb dX2_readPeace_18 rfl (lv_at hl 0 rfl) ?_
      refine lv_dup hx hb dX2_readPeace_19 rfl ?_
      refine g_2_26_17 C hS dX2_readPeace_20 ?_
      refine lv_iconst (v := 1) hx hb dX2_readPeace_23 (by decide) ?_
      refine lv_iadd hx hb dX2_readPeace_24 ?_
      obtain ⟨σ25, e25, hm⟩ := ob hm
      refine p_2_26_17 C hS e25 dX2_readPeace_25 (fun H locs hS => ?_)
      refine lv_aload_n hx hb dX2_readPeace_28 rfl (lv_at hl 0 rfl) ?_
      refine g_2_12_17 C hS dX2_readPeace_29 ?_
      refine lv_aload_n hx hb dX2_readPeace_32 rfl (lv_at hl 0 rfl) ?_
      refine lv_iconst (v := 1) hx hb dX2_readPeace_33 (by decide) ?_
      refine lv_bipush (v := 9) hx hb dX2_readPeace_34 (by decide) ?_
      obtain ⟨o36, e36, hm⟩ := ob hm
      refine after_i C hS (call_V (As := [.int 1, .int 9]) C hS (c_X2_takeFigure l d q σ25 1 9 o36 e36 _) iv_2_65 ⟨rfl, rfl, Nat.le_of_ble_eq_true rfl, Nat.le_of_ble_eq_true rfl⟩ cw_o17 rfl rfl rfl hl.1 (Nat.le_of_ble_eq_true rfl) dX2_readPeace_36) (fun H locs hS => ?_)
      obtain ⟨σ39, e39, hm⟩ := ob hm
      refine p_2_68_18 C hS e39 dX2_readPeace_39 (fun H locs hS => ?_)
      refine lv_aload_n hx hb dX2_readPeace_42 rfl (lv_at hl 0 rfl) ?_
      refine g_2_12_17 C hS dX2_readPeace_43 ?_
      refine g_2_68_18 C hS dX2_readPeace_46 ?_
      refine lv_iconst (v := (-1)) hx hb dX2_readPeace_49 (by decide) ?_
      refine lv_icmp_ne (tgt := 55) hx hb dX2_readPeace_50 (by decide) (fun c50 => ?_) (fun c50 => ?_)
      · replace hm := ie c50 hm
        refine lv_aload_n hx hb dX2_readPeace_55 rfl (lv_at hl 0 rfl) ?_
        refine lv_iconst (v := 0) hx hb dX2_readPeace_56 (by decide) ?_
        refine lv_bipush (v := 9) hx hb dX2_readPeace_57 (by decide) ?_
        obtain ⟨o59, e59, hm⟩ := ob hm
        refine after_i C hS (call_V (As := [.int 0, .int 9]) C hS (c_X2_takeFigure l d q σ39 0 9 o59 e59 _) iv_2_65 ⟨rfl, rfl, Nat.le_of_ble_eq_true rfl, Nat.le_of_ble_eq_true rfl⟩ cw_o17 rfl rfl rfl hl.1 (Nat.le_of_ble_eq_true rfl) dX2_readPeace_59) (fun H locs hS => ?_)
        refine lv_istore_n (lv' := [(1, .int o59.1), (0, .ref (q 17))]) hx hb dX2_readPeace_62 rfl hl (by decide) rfl (fun ls hl => ?_)
        refine lv_iload_n hx hb dX2_readPeace_63 rfl (lv_at hl 0 rfl) ?_
        refine lv_iconst (v := (-1)) hx hb dX2_readPeace_64 (by decide) ?_
        refine lv_icmp_ne (tgt := 70) hx hb dX2_readPeace_65 (by decide) (fun c65 => ?_) (fun c65 => ?_)
        · replace hm := ie c65 hm
          refine lv_aload_n hx hb dX2_readPeace_70 rfl (lv_at hl 1 rfl) ?_
          refine lv_iconst (v := 0) hx hb dX2_readPeace_71 (by decide) ?_
          refine lv_bipush (v := 9) hx hb dX2_readPeace_72 (by decide) ?_
          obtain ⟨o74, e74, hm⟩ := ob hm
          refine after_i C hS (call_V (As := [.int 0, .int 9]) C hS (c_X2_takeFigure l d q o59.2 0 9 o74 e74 _) iv_2_65 ⟨rfl, rfl, Nat.le_of_ble_eq_true rfl, Nat.le_of_ble_eq_true rfl⟩ cw_o17 rfl rfl rfl hl.1 (Nat.le_of_ble_eq_true rfl) dX2_readPeace_74) (fun H locs hS => ?_)
          refine lv_istore_n (lv' := [(2, .int o74.1), (1, .int o59.1), (0, .ref (q 17))]) hx hb dX2_readPeace_77 rfl hl (by decide) rfl (fun ls hl => ?_)
          refine lv_iload_n hx hb dX2_readPeace_78 rfl (lv_at hl 0 rfl) ?_
          refine lv_iconst (v := (-1)) hx hb dX2_readPeace_79 (by decide) ?_
          refine lv_icmp_ne (tgt := 85) hx hb dX2_readPeace_80 (by decide) (fun c80 => ?_) (fun c80 => ?_)
          · replace hm := ie c80 hm
            refine lv_aload_n hx hb dX2_readPeace_85 rfl (lv_at hl 2 rfl) ?_
            refine g_2_12_17 C hS dX2_readPeace_86 ?_
            refine lv_bipush (v := 10) hx hb dX2_readPeace_89 (by decide) ?_
            refine lv_iload_n hx hb dX2_readPeace_91 rfl (lv_at hl 1 rfl) ?_
            refine lv_imul hx hb dX2_readPeace_92 ?_
            refine lv_iload_n hx hb dX2_readPeace_93 rfl (lv_at hl 0 rfl) ?_
            refine lv_iadd hx hb dX2_readPeace_94 ?_
            obtain ⟨σ95, e95, hm⟩ := ob hm
            refine p_2_71_18 C hS e95 dX2_readPeace_95 (fun H locs hS => ?_)
            refine lv_aload_n hx hb dX2_readPeace_98 rfl (lv_at hl 2 rfl) ?_
            refine g_2_12_17 C hS dX2_readPeace_99 ?_
            refine lv_aload_n hx hb dX2_readPeace_102 rfl (lv_at hl 2 rfl) ?_
            refine lv_iconst (v := 0) hx hb dX2_readPeace_103 (by decide) ?_
            refine lv_bipush (v := 9) hx hb dX2_readPeace_104 (by decide) ?_
            obtain ⟨o106, e106, hm⟩ := ob hm
            refine after_i C hS (call_V (As := [.int 0, .int 9]) C hS (c_X2_takeFigure l d q σ95 0 9 o106 e106 _) iv_2_65 ⟨rfl, rfl, Nat.le_of_ble_eq_true rfl, Nat.le_of_ble_eq_true rfl⟩ cw_o17 rfl rfl rfl hl.1 (Nat.le_of_ble_eq_true rfl) dX2_readPeace_106) (fun H locs hS => ?_)
            obtain ⟨σ109, e109, hm⟩ := ob hm
            refine p_2_74_18 C hS e109 dX2_readPeace_109 (fun H locs hS => ?_)
            refine lv_aload_n hx hb dX2_readPeace_112 rfl (lv_at hl 2 rfl) ?_
            refine g_2_12_17 C hS dX2_readPeace_113 ?_
            refine g_2_74_18 C hS dX2_readPeace_116 ?_
            refine lv_iconst (v := (-1)) hx hb dX2_readPeace_119 (by decide) ?_
            refine lv_icmp_eq (tgt := 127) hx hb dX2_readPeace_120 (by decide) (fun c120 => ?_) (fun c120 => ?_)
            · replace hm := it c120 hm
              refine lv_iconst (v := 0) hx hb dX2_readPeace_127 (by decide) ?_
              exact retZw (wf := cw q d) C hS hm dX2_readPeace_128
            · replace hm := ie c120 hm
              refine lv_iconst (v := 1) hx hb dX2_readPeace_123 (by decide) ?_
              refine lv_goto (tgt := 128) hx hb dX2_readPeace_124 (by decide) ?_
              exact retZw (wf := cw q d) C hS hm dX2_readPeace_128
          · replace hm := it c80 hm
            refine lv_iconst (v := 0) hx hb dX2_readPeace_83 (by decide) ?_
            exact retZw (wf := cw q d) C hS hm dX2_readPeace_84
        · replace hm := it c65 hm
          refine lv_iconst (v := 0) hx hb dX2_readPeace_68 (by decide) ?_
          exact retZw (wf := cw q d) C hS hm dX2_readPeace_69
      · replace hm := it c50 hm
        refine lv_iconst (v := 0) hx hb dX2_readPeace_53 (by decide) ?_
        exact retZw (wf := cw q d) C hS hm dX2_readPeace_54
    · replace hm := ie c13 hm
      refine lv_iconst (v := 0) hx hb dX2_readPeace_16 (by decide) ?_
      exact retZw (wf := cw q d) C hS hm dX2_readPeace_17
def M_X2_read_35 : Nat → ST → Int32 → Option (Int32 × ST)
  | 0, _, _ => none
  | n + 1, σ, x2 => if 80 < x2 then some (σ.1 13, σ) else (M_X2_skipBlanks σ).bind fun o42 => (M_X2_isEnd o42).bind fun o46 => if o46 = 0 then (M_X2_readItem o42).bind fun o73 => if o73.1 = 0 then some (o73.2.1 13, o73.2) else M_X2_read_35 n o73.2 (x2 + 1) else if (o42.1 23) = 0 then some (o42.1 13, o42) else some ((-9), o42)
def M_X2_read (σ : ST) (a1 : Int32) : Option (Int32 × ST) := (some (setI σ 12 (a1))).bind fun σ2 => (some (setI σ2 13 (0))).bind fun σ7 => (M_X0_clear σ7).bind fun o14 => (M_X2_skipBlanks o14).bind fun o18 => (M_X2_readPeace o18).bind fun o22 => if o22.1 = 0 then some (o22.2.1 13, o22.2) else M_X2_read_35 10000 o22.2 0
abbrev rm_X2_read : Room := { frames := 9, cells := 0, slots := 0, locals := 282 }
set_option maxRecDepth 100000 in
set_option maxHeartbeats 4000000 in
theorem c_X2_read (l : Launch) (d : CD) (q : Nat → Nat) (σ : ST) (a1 : Int32) (out : Int32 × ST) (hm : M_X2_read σ a1 = some out) : MetI l yX2_read cX2_read 3 (some .int) rm_X2_read d (cw q d σ) [.ref (q 17), .int a1] out.1 (cw q d out.2) := by
  refine mkI (own := RX2) (by decide +kernel) rfl (Nat.le_of_ble_eq_true rfl) ?_
  intro p e s m below meth c A ls C hS hl
  obtain ⟨hx, hb, hml, hown, hts, -⟩ := id C
  have hl : lv_has ls 3 [(0, .ref (q 17)), (1, .int a1)] := hl
  have L35 : ∀ (n : Nat) (σ : ST) (x2 : Int32) (H : Heap) (locs : List Loc) (ls : Array Slot), HS d A s.heap H locs (cw q d σ) → lv_has ls 3 [(0, .ref (q 17)), (2, .int x2)] → M_X2_read_35 n σ x2 = some out → WI p l e rm_X2_read s m [.ref (q 17), .int a1].toArray below meth c A d H locs out.1 (cw q d out.2) (F0 m 35 ls []) := by
    intro n
    induction n with
    | zero =>
      intro σ x2 H locs ls hS hl hm
      exact absurd hm (by rw [M_X2_read_35]; exact fun h => nomatch h)
    | succ n ih =>
      intro σ x2 H locs ls hS hl hm
      rw [M_X2_read_35] at hm
      refine lv_iload_n hx hb dX2_read_35 rfl (lv_at hl 1 rfl) ?_
      refine lv_bipush (v := 80) hx hb dX2_read_36 (by decide) ?_
      refine lv_icmp_gt (tgt := 90) hx hb dX2_read_38 (by decide) (fun c38 => ?_) (fun c38 => ?_)
      · replace hm := it c38 hm
        refine lv_aload_n hx hb dX2_read_90 rfl (lv_at hl 0 rfl) ?_
        refine g_2_26_17 C hS dX2_read_91 ?_
        exact retIw (wf := cw q d) C hS hm dX2_read_94
      · replace hm := ie c38 hm
        refine lv_aload_n hx hb dX2_read_41 rfl (lv_at hl 0 rfl) ?_
        obtain ⟨o42, e42, hm⟩ := ob hm
        refine after_v C hS (call_V (As := []) C hS (c_X2_skipBlanks l d q σ o42 e42 _) iv_2_32 ⟨rfl, rfl, Nat.le_of_ble_eq_true rfl, Nat.le_of_ble_eq_true rfl⟩ cw_o17 rfl rfl rfl hl.1 (Nat.le_of_ble_eq_true rfl) dX2_read_42) (fun H locs hS => ?_)
        refine lv_aload_n hx hb dX2_read_45 rfl (lv_at hl 0 rfl) ?_
        obtain ⟨o46, e46, hm⟩ := ob hm
        refine after_i C hS (call_V (As := []) C hS (c_X2_isEnd l d q o42 o46 e46 _) iv_2_39 ⟨rfl, rfl, Nat.le_of_ble_eq_true rfl, Nat.le_of_ble_eq_true rfl⟩ cw_o17 rfl rfl rfl hl.1 (Nat.le_of_ble_eq_true rfl) dX2_read_46) (fun H locs hS => ?_)
        refine lv_if_eq (tgt := 72) hx hb dX2_read_49 (by decide) (fun c49 => ?_) (fun c49 => ?_)
        · replace hm := it c49 hm
          refine lv_aload_n hx hb dX2_read_72 rfl (lv_at hl 0 rfl) ?_
          obtain ⟨o73, e73, hm⟩ := ob hm
          refine after_i C hS (call_V (As := []) C hS (c_X2_readItem l d q o42 o73 e73 _) iv_2_45 ⟨rfl, rfl, Nat.le_of_ble_eq_true rfl, Nat.le_of_ble_eq_true rfl⟩ cw_o17 rfl rfl rfl hl.1 (Nat.le_of_ble_eq_true rfl) dX2_read_73) (fun H locs hS => ?_)
          refine lv_if_ne (tgt := 84) hx hb dX2_read_76 (by decide) (fun c76 => ?_) (fun c76 => ?_)
          · replace hm := ie c76 hm
            refine lv_iinc (v := x2 + 1) (lv' := [(2, .int (x2 + 1)), (0, .ref (q 17))]) hx hb dX2_read_84 hl (k := 1) rfl rfl (by decide) rfl (fun ls hl => ?_)
            refine lv_goto (tgt := 35) hx hb dX2_read_87 (by decide) ?_
            exact ih o73.2 (x2 + 1) _ _ _ hS (lv_sub hl [1, 0] rfl) hm
          · replace hm := it c76 hm
            refine lv_aload_n hx hb dX2_read_79 rfl (lv_at hl 0 rfl) ?_
            refine g_2_26_17 C hS dX2_read_80 ?_
            exact retIw (wf := cw q d) C hS hm dX2_read_83
        · replace hm := ie c49 hm
          refine lv_aload_n hx hb dX2_read_52 rfl (lv_at hl 0 rfl) ?_
          refine g_2_12_17 C hS dX2_read_53 ?_
          refine g_2_42_18 C hS dX2_read_56 ?_
          refine lv_if_ne (tgt := 69) hx hb dX2_read_59 (by decide) (fun c59 => ?_) (fun c59 => ?_)
          · replace hm := ie c59 hm
            refine lv_bipush (v := (-9)) hx hb dX2_read_69 (by decide) ?_
            exact retIw (wf := cw q d) C hS hm dX2_read_71
          · replace hm := it c59 hm
            refine lv_aload_n hx hb dX2_read_62 rfl (lv_at hl 0 rfl) ?_
            refine g_2_26_17 C hS dX2_read_63 ?_
            refine lv_goto (tgt := 71) hx hb dX2_read_66 (by decide) ?_
            exact retIw (wf := cw q d) C hS hm dX2_read_71
  unfold M_X2_read at hm
  refine lv_aload_n hx hb dX2_read_0 rfl (lv_at hl 0 rfl) ?_
  refine lv_iload_n hx hb dX2_read_1 rfl (lv_at hl 1 rfl) ?_
  obtain ⟨σ2, e2, hm⟩ := ob hm
  refine p_2_22_17 C hS e2 dX2_read_2 (fun H locs hS => ?_)
  refine lv_aload_n hx hb dX2_read_5 rfl (lv_at hl 0 rfl) ?_
  refine lv_iconst (v := 0) hx hb dX2_read_6 (by decide) ?_
  obtain ⟨σ7, e7, hm⟩ := ob hm
  refine p_2_26_17 C hS e7 dX2_read_7 (fun H locs hS => ?_)
  refine lv_aload_n hx hb dX2_read_10 rfl (lv_at hl 0 rfl) ?_
  refine g_2_12_17 C hS dX2_read_11 ?_
  obtain ⟨o14, e14, hm⟩ := ob hm
  refine after_v C hS (call_V (As := []) C hS (c_X0_clear l d q σ7 o14 e14 _) iv_2_29 ⟨rfl, rfl, Nat.le_of_ble_eq_true rfl, Nat.le_of_ble_eq_true rfl⟩ cw_o18 rfl rfl rfl hl.1 (Nat.le_of_ble_eq_true rfl) dX2_read_14) (fun H locs hS => ?_)
  refine lv_aload_n hx hb dX2_read_17 rfl (lv_at hl 0 rfl) ?_
  obtain ⟨o18, e18, hm⟩ := ob hm
  refine after_v C hS (call_V (As := []) C hS (c_X2_skipBlanks l d q o14 o18 e18 _) iv_2_32 ⟨rfl, rfl, Nat.le_of_ble_eq_true rfl, Nat.le_of_ble_eq_true rfl⟩ cw_o17 rfl rfl rfl hl.1 (Nat.le_of_ble_eq_true rfl) dX2_read_18) (fun H locs hS => ?_)
  refine lv_aload_n hx hb dX2_read_21 rfl (lv_at hl 0 rfl) ?_
  obtain ⟨o22, e22, hm⟩ := ob hm
  refine after_i C hS (call_V (As := []) C hS (c_X2_readPeace l d q o18 o22 e22 _) iv_2_35 ⟨rfl, rfl, Nat.le_of_ble_eq_true rfl, Nat.le_of_ble_eq_true rfl⟩ cw_o17 rfl rfl rfl hl.1 (Nat.le_of_ble_eq_true rfl) dX2_read_22) (fun H locs hS => ?_)
  refine lv_if_ne (tgt := 33) hx hb dX2_read_25 (by decide) (fun c25 => ?_) (fun c25 => ?_)
  · replace hm := ie c25 hm
    refine lv_iconst (v := 0) hx hb dX2_read_33 (by decide) ?_
    refine lv_istore_n (lv' := [(2, .int 0), (0, .ref (q 17)), (1, .int a1)]) hx hb dX2_read_34 rfl hl (by decide) rfl (fun ls hl => ?_)
    exact L35 10000 o22.2 0 _ _ _ hS (lv_sub hl [1, 0] rfl) hm
  · replace hm := it c25 hm
    refine lv_aload_n hx hb dX2_read_28 rfl (lv_at hl 0 rfl) ?_
    refine g_2_26_17 C hS dX2_read_29 ?_
    exact retIw (wf := cw q d) C hS hm dX2_read_32
def M_X6_fault (σ : ST) (a1 : Int32) : Option (Int32 × ST) := (M_X6_refusalOf_t σ a1).bind fun o6 => if o6.1 = 0 then (M_X2_read o6.2 a1).bind fun o23 => some (o23.1, o23.2) else some (o6.1, o6.2)
abbrev rm_X6_fault : Room := { frames := 10, cells := 0, slots := 0, locals := 304 }
set_option maxRecDepth 100000 in
set_option maxHeartbeats 4000000 in
theorem c_X6_fault (l : Launch) (d : CD) (q : Nat → Nat) (σ : ST) (a1 : Int32) (out : Int32 × ST) (hm : M_X6_fault σ a1 = some out) : MetI l yX6_fault cX6_fault 3 (some .int) rm_X6_fault d (cw q d σ) [.ref (q 0), .int a1] out.1 (cw q d out.2) := by
  refine mkI (own := RX6) (by decide +kernel) rfl (Nat.le_of_ble_eq_true rfl) ?_
  intro p e s m below meth c A ls C hS hl
  obtain ⟨hx, hb, hml, hown, hts, -⟩ := id C
  have hl : lv_has ls 3 [(0, .ref (q 0)), (1, .int a1)] := hl
  unfold M_X6_fault at hm
  refine lv_aload_n hx hb dX6_fault_0 rfl (lv_at hl 0 rfl) ?_
  refine lv_aload_n hx hb dX6_fault_1 rfl (lv_at hl 0 rfl) ?_
  refine g_6_18_0 C hS dX6_fault_2 ?_
  refine lv_iload_n hx hb dX6_fault_5 rfl (lv_at hl 1 rfl) ?_
  obtain ⟨o6, e6, hm⟩ := ob hm
  refine after_i C hS (call_V (As := [.ref (q 10), .int a1]) C hS (c_X6_refusalOf_t l d q σ a1 o6 e6 _) iv_6_89 ⟨rfl, rfl, Nat.le_of_ble_eq_true rfl, Nat.le_of_ble_eq_true rfl⟩ cw_o0 rfl rfl rfl hl.1 (Nat.le_of_ble_eq_true rfl) dX6_fault_6) (fun H locs hS => ?_)
  refine lv_istore_n (lv' := [(2, .int o6.1), (0, .ref (q 0)), (1, .int a1)]) hx hb dX6_fault_9 rfl hl (by decide) rfl (fun ls hl => ?_)
  refine lv_iload_n hx hb dX6_fault_10 rfl (lv_at hl 0 rfl) ?_
  refine lv_if_eq (tgt := 18) hx hb dX6_fault_11 (by decide) (fun c11 => ?_) (fun c11 => ?_)
  · replace hm := it c11 hm
    refine lv_aload_n hx hb dX6_fault_18 rfl (lv_at hl 1 rfl) ?_
    refine g_6_26_0 C hS dX6_fault_19 ?_
    refine lv_iload_n hx hb dX6_fault_22 rfl (lv_at hl 2 rfl) ?_
    obtain ⟨o23, e23, hm⟩ := ob hm
    refine after_i C hS (call_V (As := [.int a1]) C hS (c_X2_read l d q o6.2 a1 o23 e23 _) iv_6_122 ⟨rfl, rfl, Nat.le_of_ble_eq_true rfl, Nat.le_of_ble_eq_true rfl⟩ cw_o17 rfl rfl rfl hl.1 (Nat.le_of_ble_eq_true rfl) dX6_fault_23) (fun H locs hS => ?_)
    exact retIw (wf := cw q d) C hS hm dX6_fault_26
  · replace hm := ie c11 hm
    refine lv_iload_n hx hb dX6_fault_14 rfl (lv_at hl 0 rfl) ?_
    refine lv_goto (tgt := 26) hx hb dX6_fault_15 (by decide) ?_
    exact retIw (wf := cw q d) C hS hm dX6_fault_26
