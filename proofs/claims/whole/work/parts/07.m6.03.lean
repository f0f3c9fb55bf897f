def M_X6_isIn (a0 : Int32) (a1 : Int32) : Option Int32 := if ((a1 >>> (a0 &&& 31)) &&& 1) = 1 then okZ 1 else okZ 0
abbrev rm_X6_isIn : Room := { frames := 0, cells := 0, slots := 0, locals := 0 }
set_option maxRecDepth 100000 in
set_option maxHeartbeats 4000000 in
theorem c_X6_isIn (l : Launch) (d : CD) (w : va_W) (a0 : Int32) (a1 : Int32) (out : Int32) (hm : M_X6_isIn a0 a1 = some out) : MetI l yX6_isIn cX6_isIn 2 (some .boolean) rm_X6_isIn d w [.int a0, .int a1] out w := by
  refine mkI (own := RX6) (by decide +kernel) rfl (Nat.le_of_ble_eq_true rfl) ?_
  intro p e s m below meth c A ls C hS hl
  obtain ⟨hx, hb, hml, hown, hts, -⟩ := id C
  have hl : lv_has ls 2 [(0, .int a0), (1, .int a1)] := hl
  unfold M_X6_isIn at hm
  refine lv_iload_n hx hb dX6_isIn_0 rfl (lv_at hl 1 rfl) ?_
  refine lv_iload_n hx hb dX6_isIn_1 rfl (lv_at hl 0 rfl) ?_
  refine lv_ishr hx hb dX6_isIn_2 ?_
  refine lv_iconst (v := 1) hx hb dX6_isIn_3 (by decide) ?_
  refine lv_iand hx hb dX6_isIn_4 ?_
  refine lv_iconst (v := 1) hx hb dX6_isIn_5 (by decide) ?_
  refine lv_icmp_ne (tgt := 13) hx hb dX6_isIn_6 (by decide) (fun c6 => ?_) (fun c6 => ?_)
  · replace hm := ie c6 hm
    refine lv_iconst (v := 0) hx hb dX6_isIn_13 (by decide) ?_
    exact retZr C hS hm dX6_isIn_14
  · replace hm := it c6 hm
    refine lv_iconst (v := 1) hx hb dX6_isIn_9 (by decide) ?_
    refine lv_goto (tgt := 14) hx hb dX6_isIn_10 (by decide) ?_
    exact retZr C hS hm dX6_isIn_14
def M_X0_addFeud (σ : ST) (a1 : Int32) (a2 : Int32) : Option ST := (rd 7 (σ.2.2 21) a1).bind fun v6 => (wrA 7 σ 21 a1 (v6 ||| ((1 : Int32) <<< (a2 &&& 31)))).bind fun σ11 => (rd 7 (σ11.2.2 21) a2).bind fun v18 => (wrA 7 σ11 21 a2 (v18 ||| ((1 : Int32) <<< (a1 &&& 31)))).bind fun σ23 => (some (setI σ23 24 ((σ23.1 24) + 1))).bind fun σ31 => some σ31
abbrev rm_X0_addFeud : Room := { frames := 0, cells := 0, slots := 0, locals := 0 }
set_option maxRecDepth 100000 in
set_option maxHeartbeats 4000000 in
theorem c_X0_addFeud (l : Launch) (d : CD) (q : Nat → Nat) (σ : ST) (a1 : Int32) (a2 : Int32) (out : ST) (hm : M_X0_addFeud σ a1 a2 = some out) : MetV l yX0_addFeud cX0_addFeud 3 (none) rm_X0_addFeud d (cw q d σ) [.ref (q 18), .int a1, .int a2] (cw q d out) := by
  refine mkV (own := RX0) (by decide +kernel) rfl (Nat.le_of_ble_eq_true rfl) ?_
  intro p e s m below meth c A ls C hS hl
  obtain ⟨hx, hb, hml, hown, hts, -⟩ := id C
  have hl : lv_has ls 3 [(0, .ref (q 18)), (1, .int a1), (2, .int a2)] := hl
  unfold M_X0_addFeud at hm
  refine lv_aload_n hx hb dX0_addFeud_0 rfl (lv_at hl 0 rfl) ?_
  refine g_0_18_18 C hS dX0_addFeud_1 ?_
  refine lv_iload_n hx hb dX0_addFeud_4 rfl (lv_at hl 1 rfl) ?_
  refine lv_dup2_11 hx hb dX0_addFeud_5 rfl rfl ?_
  obtain ⟨v6, e6, hm⟩ := ob hm
  refine iald' C hS cw_a21 e6 dX0_addFeud_6 ?_
  refine lv_iconst (v := 1) hx hb dX0_addFeud_7 (by decide) ?_
  refine lv_iload_n hx hb dX0_addFeud_8 rfl (lv_at hl 2 rfl) ?_
  refine lv_ishl hx hb dX0_addFeud_9 ?_
  refine lv_ior hx hb dX0_addFeud_10 ?_
  obtain ⟨σ11, e11, hm⟩ := ob hm
  refine iast' (wf := cw q d) C hS cw_a21 cw_s21 e11 dX0_addFeud_11 (fun H locs hS => ?_)
  refine lv_aload_n hx hb dX0_addFeud_12 rfl (lv_at hl 0 rfl) ?_
  refine g_0_18_18 C hS dX0_addFeud_13 ?_
  refine lv_iload_n hx hb dX0_addFeud_16 rfl (lv_at hl 2 rfl) ?_
  refine lv_dup2_11 hx hb dX0_addFeud_17 rfl rfl ?_
  obtain ⟨v18, e18, hm⟩ := ob hm
  refine iald' C hS cw_a21 e18 dX0_addFeud_18 ?_
  refine lv_iconst (v := 1) hx hb dX0_addFeud_19 (by decide) ?_
  refine lv_iload_n hx hb dX0_addFeud_20 rfl (lv_at hl 1 rfl) ?_
  refine lv_ishl hx hb dX0_addFeud_21 ?_
  refine lv_ior hx hb dX0_addFeud_22 ?_
  obtain ⟨σ23, e23, hm⟩ := ob hm
  refine iast' (wf := cw q d) C hS cw_a21 cw_s21 e23 dX0_addFeud_23 (fun H locs hS => ?_)
  refine lv_aload_n hx hb dX0_addFeud_24 rfl (lv_at hl 0 rfl) ?_
  refine lv_dup hx hb dX0_addFeud_25 rfl ?_
  refine g_0_34_18 C hS dX0_addFeud_26 ?_
  refine lv_iconst (v := 1) hx hb dX0_addFeud_29 (by decide) ?_
  refine lv_iadd hx hb dX0_addFeud_30 ?_
  obtain ⟨σ31, e31, hm⟩ := ob hm
  refine p_0_34_18 C hS e31 dX0_addFeud_31 (fun H locs hS => ?_)
  exact retVw (wf := cw q d) C hS hm dX0_addFeud_34
def M_X2_readFeud (σ : ST) : Option (Int32 × ST) := if (σ.1 23) = 0 then (okZ 0).bind fun z => some (z, σ) else (some (setI σ 13 ((σ.1 13) + 1))).bind fun σ19 => (M_X2_takeFigure σ19 0 ((σ19.1 23) - 1)).bind fun o33 => if o33.1 = (-1) then (okZ 0).bind fun z => some (z, o33.2) else (M_X2_figure o33.2 (o33.1 + 1) ((o33.2.1 23) - 1)).bind fun o57 => if o57 = (-1) then (okZ 0).bind fun z => some (z, o33.2) else (rd 7 (o33.2.2.2 21) o33.1).bind fun v75 => (M_X6_isIn o57 v75).bind fun o76 => if o76 = 0 then (some (setI o33.2 13 ((o33.2.1 13) + 1))).bind fun σ91 => (M_X0_addFeud σ91 o33.1 o57).bind fun o100 => (okZ 1).bind fun z => some (z, o100) else (okZ 0).bind fun z => some (z, o33.2)
abbrev rm_X2_readFeud : Room := { frames := 3, cells := 0, slots := 0, locals := 66 }
set_option maxRecDepth 100000 in
set_option maxHeartbeats 4000000 in
theorem c_X2_readFeud (l : Launch) (d : CD) (q : Nat → Nat) (σ : ST) (out : Int32 × ST) (hm : M_X2_readFeud σ = some out) : MetI l yX2_readFeud cX2_readFeud 3 (some .boolean) rm_X2_readFeud d (cw q d σ) [.ref (q 17)] out.1 (cw q d out.2) := by
  refine mkI (own := RX2) (by decide +kernel) rfl (Nat.le_of_ble_eq_true rfl) ?_
  intro p e s m below meth c A ls C hS hl
  obtain ⟨hx, hb, hml, hown, hts, -⟩ := id C
  have hl : lv_has ls 3 [(0, .ref (q 17))] := hl
  unfold M_X2_readFeud at hm
  refine lv_aload_n hx hb dX2_readFeud_0 rfl (lv_at hl 0 rfl) ?_
  refine g_2_18_17 C hS dX2_readFeud_1 ?_
  refine g_2_53_18 C hS dX2_readFeud_4 ?_
  refine lv_if_ne (tgt := 12) hx hb dX2_readFeud_7 (by decide) (fun c7 => ?_) (fun c7 => ?_)
  · replace hm := ie c7 hm
    refine lv_aload_n hx hb dX2_readFeud_12 rfl (lv_at hl 0 rfl) ?_
    refine lv_dup hx hb dX2_readFeud_13 rfl ?_
    refine g_2_36_17 C hS dX2_readFeud_14 ?_
    refine lv_iconst (v := 1) hx hb dX2_readFeud_17 (by decide) ?_
    refine lv_iadd hx hb dX2_readFeud_18 ?_
    obtain ⟨σ19, e19, hm⟩ := ob hm
    refine p_2_36_17 C hS e19 dX2_readFeud_19 (fun H locs hS => ?_)
    refine lv_aload_n hx hb dX2_readFeud_22 rfl (lv_at hl 0 rfl) ?_
    refine lv_iconst (v := 0) hx hb dX2_readFeud_23 (by decide) ?_
    refine lv_aload_n hx hb dX2_readFeud_24 rfl (lv_at hl 0 rfl) ?_
    refine g_2_18_17 C hS dX2_readFeud_25 ?_
    refine g_2_53_18 C hS dX2_readFeud_28 ?_
    refine lv_iconst (v := 1) hx hb dX2_readFeud_31 (by decide) ?_
    refine lv_isub hx hb dX2_readFeud_32 ?_
    obtain ⟨o33, e33, hm⟩ := ob hm
    refine after_i C hS (call_V (As := [.int 0, .int ((σ19.1 23) - 1)]) C hS (c_X2_takeFigure l d q σ19 0 ((σ19.1 23) - 1) o33 e33 _) iv_2_63 ⟨rfl, rfl, Nat.le_of_ble_eq_true rfl, Nat.le_of_ble_eq_true rfl⟩ cw_o17 rfl rfl rfl hl.1 (Nat.le_of_ble_eq_true rfl) dX2_readFeud_33) (fun H locs hS => ?_)
    refine lv_istore_n (lv' := [(1, .int o33.1), (0, .ref (q 17))]) hx hb dX2_readFeud_36 rfl hl (by decide) rfl (fun ls hl => ?_)
    refine lv_iload_n hx hb dX2_readFeud_37 rfl (lv_at hl 0 rfl) ?_
    refine lv_iconst (v := (-1)) hx hb dX2_readFeud_38 (by decide) ?_
    refine lv_icmp_ne (tgt := 44) hx hb dX2_readFeud_39 (by decide) (fun c39 => ?_) (fun c39 => ?_)
    · replace hm := ie c39 hm
      refine lv_aload_n hx hb dX2_readFeud_44 rfl (lv_at hl 1 rfl) ?_
      refine lv_iload_n hx hb dX2_readFeud_45 rfl (lv_at hl 0 rfl) ?_
      refine lv_iconst (v := 1) hx hb dX2_readFeud_46 (by decide) ?_
      refine lv_iadd hx hb dX2_readFeud_47 ?_
      refine lv_aload_n hx hb dX2_readFeud_48 rfl (lv_at hl 1 rfl) ?_
      refine g_2_18_17 C hS dX2_readFeud_49 ?_
      refine g_2_53_18 C hS dX2_readFeud_52 ?_
      refine lv_iconst (v := 1) hx hb dX2_readFeud_55 (by decide) ?_
      refine lv_isub hx hb dX2_readFeud_56 ?_
      obtain ⟨o57, e57, hm⟩ := ob hm
      refine after_i C hS (call_V (As := [.int (o33.1 + 1), .int ((o33.2.1 23) - 1)]) C hS (c_X2_figure l d q o33.2 (o33.1 + 1) ((o33.2.1 23) - 1) o57 e57 _) iv_2_59 ⟨rfl, rfl, Nat.le_of_ble_eq_true rfl, Nat.le_of_ble_eq_true rfl⟩ cw_o17 rfl rfl rfl hl.1 (Nat.le_of_ble_eq_true rfl) dX2_readFeud_57) (fun H locs hS => ?_)
      refine lv_istore_n (lv' := [(2, .int o57), (1, .int o33.1), (0, .ref (q 17))]) hx hb dX2_readFeud_60 rfl hl (by decide) rfl (fun ls hl => ?_)
      refine lv_iload_n hx hb dX2_readFeud_61 rfl (lv_at hl 0 rfl) ?_
      refine lv_iconst (v := (-1)) hx hb dX2_readFeud_62 (by decide) ?_
      refine lv_icmp_eq (tgt := 82) hx hb dX2_readFeud_63 (by decide) (fun c63 => ?_) (fun c63 => ?_)
      · replace hm := it c63 hm
        refine lv_iconst (v := 0) hx hb dX2_readFeud_82 (by decide) ?_
        exact retZw (wf := cw q d) C hS hm dX2_readFeud_83
      · replace hm := ie c63 hm
        refine lv_iload_n hx hb dX2_readFeud_66 rfl (lv_at hl 0 rfl) ?_
        refine lv_aload_n hx hb dX2_readFeud_67 rfl (lv_at hl 2 rfl) ?_
        refine g_2_18_17 C hS dX2_readFeud_68 ?_
        refine g_2_92_18 C hS dX2_readFeud_71 ?_
        refine lv_iload_n hx hb dX2_readFeud_74 rfl (lv_at hl 1 rfl) ?_
        obtain ⟨v75, e75, hm⟩ := ob hm
        refine iald' C hS cw_a21 e75 dX2_readFeud_75 ?_
        obtain ⟨o76, e76, hm⟩ := ob hm
        refine after_i C hS (call_N (As := [.int o57, .int v75]) C hS (c_X6_isIn l d (cw q d o33.2) o57 v75 o76 e76 _) is_2_95 ⟨rfl, rfl, Nat.le_of_ble_eq_true rfl, Nat.le_of_ble_eq_true rfl⟩ rfl hl.1 (Nat.le_of_ble_eq_true rfl) dX2_readFeud_76) (fun H locs hS => ?_)
        refine lv_if_eq (tgt := 84) hx hb dX2_readFeud_79 (by decide) (fun c79 => ?_) (fun c79 => ?_)
        · replace hm := it c79 hm
          refine lv_aload_n hx hb dX2_readFeud_84 rfl (lv_at hl 2 rfl) ?_
          refine lv_dup hx hb dX2_readFeud_85 rfl ?_
          refine g_2_36_17 C hS dX2_readFeud_86 ?_
          refine lv_iconst (v := 1) hx hb dX2_readFeud_89 (by decide) ?_
          refine lv_iadd hx hb dX2_readFeud_90 ?_
          obtain ⟨σ91, e91, hm⟩ := ob hm
          refine p_2_36_17 C hS e91 dX2_readFeud_91 (fun H locs hS => ?_)
          refine lv_aload_n hx hb dX2_readFeud_94 rfl (lv_at hl 2 rfl) ?_
          refine g_2_18_17 C hS dX2_readFeud_95 ?_
          refine lv_iload_n hx hb dX2_readFeud_98 rfl (lv_at hl 1 rfl) ?_
          refine lv_iload_n hx hb dX2_readFeud_99 rfl (lv_at hl 0 rfl) ?_
          obtain ⟨o100, e100, hm⟩ := ob hm
          refine after_v C hS (call_V (As := [.int o33.1, .int o57]) C hS (c_X0_addFeud l d q σ91 o33.1 o57 o100 e100 _) iv_2_99 ⟨rfl, rfl, Nat.le_of_ble_eq_true rfl, Nat.le_of_ble_eq_true rfl⟩ cw_o18 rfl rfl rfl hl.1 (Nat.le_of_ble_eq_true rfl) dX2_readFeud_100) (fun H locs hS => ?_)
          refine lv_iconst (v := 1) hx hb dX2_readFeud_103 (by decide) ?_
          exact retZw (wf := cw q d) C hS hm dX2_readFeud_104
        · replace hm := ie c79 hm
          refine lv_iconst (v := 0) hx hb dX2_readFeud_82 (by decide) ?_
          exact retZw (wf := cw q d) C hS hm dX2_readFeud_83
    · replace hm := it c39 hm
      refine lv_iconst (v := 0) hx hb dX2_readFeud_42 (by decide) ?_
      exact retZw (wf := cw q d) C hS hm dX2_readFeud_43
  · replace hm := it c7 hm
    refine lv_iconst (v := 0) hx hb dX2_readFeud_10 (by decide) ?_
    exact retZw (wf := cw q d) C hS hm dX2_readFeud_11
def M_X2_readItem (σ : ST) : Option (Int32 × ST) := (M_X2_sign σ).bind fun o1 => if o1 = 120 then (M_X2_readFeud σ).bind fun o10 => (okZ o10.1).bind fun z => some (z, o10.2) else (M_X2_readHouse σ).bind fun o17 => (okZ o17.1).bind fun z => some (z, o17.2)
abbrev rm_X2_readItem : Room := { frames := 7, cells := 0, slots := 0, locals := 262 }
set_option maxRecDepth 100000 in
set_option maxHeartbeats 4000000 in
theorem c_X2_readItem (l : Launch) (d : CD) (q : Nat → Nat) (σ : ST) (out : Int32 × ST) (hm : M_X2_readItem σ = some out) : MetI l yX2_readItem cX2_readItem 1 (some .boolean) rm_X2_readItem d (cw q d σ) [.ref (q 17)] out.1 (cw q d out.2) := by
  refine mkI (own := RX2) (by decide +kernel) rfl (Nat.le_of_ble_eq_true rfl) ?_
  intro p e s m below meth c A ls C hS hl
  obtain ⟨hx, hb, hml, hown, hts, -⟩ := id C
  have hl : lv_has ls 1 [(0, .ref (q 17))] := hl
  unfold M_X2_readItem at hm
  refine lv_aload_n hx hb dX2_readItem_0 rfl (lv_at hl 0 rfl) ?_
  obtain ⟨o1, e1, hm⟩ := ob hm
  refine after_i C hS (call_V (As := []) C hS (c_X2_sign l d q σ o1 e1 _) iv_2_49 ⟨rfl, rfl, Nat.le_of_ble_eq_true rfl, Nat.le_of_ble_eq_true rfl⟩ cw_o17 rfl rfl rfl hl.1 (Nat.le_of_ble_eq_true rfl) dX2_readItem_1) (fun H locs hS => ?_)
  refine lv_bipush (v := 120) hx hb dX2_readItem_4 (by decide) ?_
  refine lv_icmp_ne (tgt := 16) hx hb dX2_readItem_6 (by decide) (fun c6 => ?_) (fun c6 => ?_)
  · replace hm := ie c6 hm
    refine lv_aload_n hx hb dX2_readItem_16 rfl (lv_at hl 0 rfl) ?_
    obtain ⟨o17, e17, hm⟩ := ob hm
    refine after_i C hS (call_V (As := []) C hS (c_X2_readHouse l d q σ o17 e17 _) iv_2_78 ⟨rfl, rfl, Nat.le_of_ble_eq_true rfl, Nat.le_of_ble_eq_true rfl⟩ cw_o17 rfl rfl rfl hl.1 (Nat.le_of_ble_eq_true rfl) dX2_readItem_17) (fun H locs hS => ?_)
    exact retZw (wf := cw q d) C hS hm dX2_readItem_20
  · replace hm := it c6 hm
    refine lv_aload_n hx hb dX2_readItem_9 rfl (lv_at hl 0 rfl) ?_
    obtain ⟨o10, e10, hm⟩ := ob hm
    refine after_i C hS (call_V (As := []) C hS (c_X2_readFeud l d q σ o10 e10 _) iv_2_75 ⟨rfl, rfl, Nat.le_of_ble_eq_true rfl, Nat.le_of_ble_eq_true rfl⟩ cw_o17 rfl rfl rfl hl.1 (Nat.le_of_ble_eq_true rfl) dX2_readItem_10) (fun H locs hS => ?_)
    refine lv_goto (tgt := 20) hx hb dX2_readItem_13 (by decide) ?_
    exact retZw (wf := cw q d) C hS hm dX2_readItem_20
def M_X3_sizeOf_t (σ : ST) (a1 : Int32) : Option Int32 := (M_X3_isNumber_t σ a1).bind fun o2 => if o2 = 0 then some (-1) else (rd 4 (σ.2.2 12) a1).bind fun v13 => some v13
abbrev rm_X3_sizeOf_t : Room := { frames := 1, cells := 0, slots := 0, locals := 21 }
set_option maxRecDepth 100000 in
set_option maxHeartbeats 4000000 in
theorem c_X3_sizeOf_t (l : Launch) (d : CD) (q : Nat → Nat) (σ : ST) (a1 : Int32) (out : Int32) (hm : M_X3_sizeOf_t σ a1 = some out) : MetI l yX3_sizeOf cX3_sizeOf 2 (some .int) rm_X3_sizeOf_t d (cw q d σ) [.ref (q 10), .int a1] out (cw q d σ) := by
  refine mkI (own := RX3) (by decide +kernel) rfl (Nat.le_of_ble_eq_true rfl) ?_
  intro p e s m below meth c A ls C hS hl
  obtain ⟨hx, hb, hml, hown, hts, -⟩ := id C
  have hl : lv_has ls 2 [(0, .ref (q 10)), (1, .int a1)] := hl
  unfold M_X3_sizeOf_t at hm
  refine lv_aload_n hx hb dX3_sizeOf_0 rfl (lv_at hl 0 rfl) ?_
  refine lv_iload_n hx hb dX3_sizeOf_1 rfl (lv_at hl 1 rfl) ?_
  obtain ⟨o2, e2, hm⟩ := ob hm
  refine after_i C hS (call_V (As := [.int a1]) C hS (c_X3_isNumber_t l d q σ a1 o2 e2 _) iv_3_30 ⟨rfl, rfl, Nat.le_of_ble_eq_true rfl, Nat.le_of_ble_eq_true rfl⟩ cw_o10 rfl rfl rfl hl.1 (Nat.le_of_ble_eq_true rfl) dX3_sizeOf_2) (fun H locs hS => ?_)
  refine lv_if_eq (tgt := 17) hx hb dX3_sizeOf_5 (by decide) (fun c5 => ?_) (fun c5 => ?_)
  · replace hm := it c5 hm
    refine lv_iconst (v := (-1)) hx hb dX3_sizeOf_17 (by decide) ?_
    exact retIr C hS hm dX3_sizeOf_18
  · replace hm := ie c5 hm
    refine lv_aload_n hx hb dX3_sizeOf_8 rfl (lv_at hl 0 rfl) ?_
    refine g_3_20_10 C hS dX3_sizeOf_9 ?_
    refine lv_iload_n hx hb dX3_sizeOf_12 rfl (lv_at hl 1 rfl) ?_
    obtain ⟨v13, e13, hm⟩ := ob hm
    refine iald' C hS cw_a12 e13 dX3_sizeOf_13 ?_
    refine lv_goto (tgt := 18) hx hb dX3_sizeOf_14 (by decide) ?_
    exact retIr C hS hm dX3_sizeOf_18
def M_X3_hasRun_t (σ : ST) (a1 : Int32) (a2 : Int32) (a3 : Int32) : Option Int32 := (M_X3_isThere_t σ a1).bind fun o2 => if o2 = 0 then okZ 0 else if a3 < 0 then okZ 0 else if a2 < 0 then okZ 0 else (rd 4 (σ.2.2 12) a1).bind fun v22 => if (v22 - a3) < a2 then okZ 0 else okZ 1
abbrev rm_X3_hasRun_t : Room := { frames := 2, cells := 0, slots := 0, locals := 42 }
set_option maxRecDepth 100000 in
set_option maxHeartbeats 4000000 in
theorem c_X3_hasRun_t (l : Launch) (d : CD) (q : Nat → Nat) (σ : ST) (a1 : Int32) (a2 : Int32) (a3 : Int32) (out : Int32) (hm : M_X3_hasRun_t σ a1 a2 a3 = some out) : MetI l yX3_hasRun cX3_hasRun 4 (some .boolean) rm_X3_hasRun_t d (cw q d σ) [.ref (q 10), .int a1, .int a2, .int a3] out (cw q d σ) := by
  refine mkI (own := RX3) (by decide +kernel) rfl (Nat.le_of_ble_eq_true rfl) ?_
  intro p e s m below meth c A ls C hS hl
  obtain ⟨hx, hb, hml, hown, hts, -⟩ := id C
  have hl : lv_has ls 4 [(0, .ref (q 10)), (1, .int a1), (2, .int a2), (3, .int a3)] := hl
  unfold M_X3_hasRun_t at hm
  refine lv_aload_n hx hb dX3_hasRun_0 rfl (lv_at hl 0 rfl) ?_
  refine lv_iload_n hx hb dX3_hasRun_1 rfl (lv_at hl 1 rfl) ?_
  obtain ⟨o2, e2, hm⟩ := ob hm
  refine after_i C hS (call_V (As := [.int a1]) C hS (c_X3_isThere_t l d q σ a1 o2 e2 _) iv_3_34 ⟨rfl, rfl, Nat.le_of_ble_eq_true rfl, Nat.le_of_ble_eq_true rfl⟩ cw_o10 rfl rfl rfl hl.1 (Nat.le_of_ble_eq_true rfl) dX3_hasRun_2) (fun H locs hS => ?_)
  refine lv_if_eq (tgt := 32) hx hb dX3_hasRun_5 (by decide) (fun c5 => ?_) (fun c5 => ?_)
  · replace hm := it c5 hm
    refine lv_iconst (v := 0) hx hb dX3_hasRun_32 (by decide) ?_
    exact retZr C hS hm dX3_hasRun_33
  · replace hm := ie c5 hm
    refine lv_iload_n hx hb dX3_hasRun_8 rfl (lv_at hl 3 rfl) ?_
    refine lv_if_lt (tgt := 32) hx hb dX3_hasRun_9 (by decide) (fun c9 => ?_) (fun c9 => ?_)
    · replace hm := it c9 hm
      refine lv_iconst (v := 0) hx hb dX3_hasRun_32 (by decide) ?_
      exact retZr C hS hm dX3_hasRun_33
    · replace hm := ie c9 hm
      refine lv_iload_n hx hb dX3_hasRun_12 rfl (lv_at hl 2 rfl) ?_
      refine lv_if_lt (tgt := 32) hx hb dX3_hasRun_13 (by decide) (fun c13 => ?_) (fun c13 => ?_)
      · replace hm := it c13 hm
        refine lv_iconst (v := 0) hx hb dX3_hasRun_32 (by decide) ?_
        exact retZr C hS hm dX3_hasRun_33
      · replace hm := ie c13 hm
        refine lv_iload_n hx hb dX3_hasRun_16 rfl (lv_at hl 2 rfl) ?_
        refine lv_aload_n hx hb dX3_hasRun_17 rfl (lv_at hl 0 rfl) ?_
        refine g_3_20_10 C hS dX3_hasRun_18 ?_
        refine lv_iload_n hx hb dX3_hasRun_21 rfl (lv_at hl 1 rfl) ?_
        obtain ⟨v22, e22, hm⟩ := ob hm
        refine iald' C hS cw_a12 e22 dX3_hasRun_22 ?_
        refine lv_iload_n hx hb dX3_hasRun_23 rfl (lv_at hl 3 rfl) ?_
        refine lv_isub hx hb dX3_hasRun_24 ?_
        refine lv_icmp_gt (tgt := 32) hx hb dX3_hasRun_25 (by decide) (fun c25 => ?_) (fun c25 => ?_)
        · replace hm := it c25 hm
          refine lv_iconst (v := 0) hx hb dX3_hasRun_32 (by decide) ?_
          exact retZr C hS hm dX3_hasRun_33
        · replace hm := ie c25 hm
          refine lv_iconst (v := 1) hx hb dX3_hasRun_28 (by decide) ?_
          refine lv_goto (tgt := 33) hx hb dX3_hasRun_29 (by decide) ?_
          exact retZr C hS hm dX3_hasRun_33
def M_X3_copyInto_t (σ : ST) (a1 : Int32) : Option (Int32 × ST) := (M_X3_sizeOf_t σ a1).bind fun o3 => (M_X3_hasRun_t σ a1 0 (if 0 < (if 80 < o3 then 80 else o3 : Int32) then (if 80 < o3 then 80 else o3 : Int32) else 0)).bind fun o19 => if o19 = 0 then some (if 0 < (if 80 < o3 then 80 else o3 : Int32) then (if 80 < o3 then 80 else o3 : Int32) else 0, σ) else (inR 4 a1).bind fun j30 => (cpA 80 80 σ (13 + j30) 43 0 0 (if 0 < (if 80 < o3 then 80 else o3 : Int32) then (if 80 < o3 then 80 else o3 : Int32) else 0)).bind fun σ35 => some (if 0 < (if 80 < o3 then 80 else o3 : Int32) then (if 80 < o3 then 80 else o3 : Int32) else 0, σ35)
abbrev rm_X3_copyInto_t : Room := { frames := 3, cells := 0, slots := 0, locals := 65 }
set_option maxRecDepth 100000 in
set_option maxHeartbeats 4000000 in
theorem c_X3_copyInto_t (l : Launch) (d : CD) (q : Nat → Nat) (σ : ST) (a1 : Int32) (out : Int32 × ST) (hm : M_X3_copyInto_t σ a1 = some out) : MetI l yX3_copyInto cX3_copyInto 4 (some .int) rm_X3_copyInto_t d (cw q d σ) [.ref (q 10), .int a1, .ref (q 43)] out.1 (cw q d out.2) := by
  refine mkI (own := RX3) (by decide +kernel) rfl (Nat.le_of_ble_eq_true rfl) ?_
  intro p e s m below meth c A ls C hS hl
  obtain ⟨hx, hb, hml, hown, hts, -⟩ := id C
  have hl : lv_has ls 4 [(0, .ref (q 10)), (1, .int a1), (2, .ref (q 43))] := hl
  unfold M_X3_copyInto_t at hm
  refine lv_iconst (v := 0) hx hb dX3_copyInto_0 (by decide) ?_
  refine lv_aload_n hx hb dX3_copyInto_1 rfl (lv_at hl 0 rfl) ?_
  refine lv_iload_n hx hb dX3_copyInto_2 rfl (lv_at hl 1 rfl) ?_
  obtain ⟨o3, e3, hm⟩ := ob hm
  refine after_i C hS (call_V (As := [.int a1]) C hS (c_X3_sizeOf_t l d q σ a1 o3 e3 _) iv_3_51 ⟨rfl, rfl, Nat.le_of_ble_eq_true rfl, Nat.le_of_ble_eq_true rfl⟩ cw_o10 rfl rfl rfl hl.1 (Nat.le_of_ble_eq_true rfl) dX3_copyInto_3) (fun H locs hS => ?_)
  refine lv_aload_n hx hb dX3_copyInto_6 rfl (lv_at hl 2 rfl) ?_
  refine alen' (v := 80) C hS cw_a43 rfl dX3_copyInto_7 ?_
  refine mmin' C hl.1 mm_X3_55 ⟨Nat.le_of_ble_eq_true rfl, Nat.le_of_ble_eq_true rfl⟩ (Nat.le_of_ble_eq_true rfl) dX3_copyInto_8 ?_
  refine mmax' C hl.1 mx_X3_61 ⟨Nat.le_of_ble_eq_true rfl, Nat.le_of_ble_eq_true rfl⟩ (Nat.le_of_ble_eq_true rfl) dX3_copyInto_11 ?_
  refine lv_istore_n (lv' := [(3, .int (if 0 < (if 80 < o3 then 80 else o3 : Int32) then (if 80 < o3 then 80 else o3 : Int32) else 0)), (0, .ref (q 10)), (1, .int a1), (2, .ref (q 43))]) hx hb dX3_copyInto_14 rfl hl (by decide) rfl (fun ls hl => ?_)
  refine lv_aload_n hx hb dX3_copyInto_15 rfl (lv_at hl 1 rfl) ?_
  refine lv_iload_n hx hb dX3_copyInto_16 rfl (lv_at hl 2 rfl) ?_
  refine lv_iconst (v := 0) hx hb dX3_copyInto_17 (by decide) ?_
  refine lv_iload_n hx hb dX3_copyInto_18 rfl (lv_at hl 0 rfl) ?_
  obtain ⟨o19, e19, hm⟩ := ob hm
  refine after_i C hS (call_V (As := [.int a1, .int 0, .int (if 0 < (if 80 < o3 then 80 else o3 : Int32) then (if 80 < o3 then 80 else o3 : Int32) else 0)]) C hS (c_X3_hasRun_t l d q σ a1 0 (if 0 < (if 80 < o3 then 80 else o3 : Int32) then (if 80 < o3 then 80 else o3 : Int32) else 0) o19 e19 _) iv_3_41 ⟨rfl, rfl, Nat.le_of_ble_eq_true rfl, Nat.le_of_ble_eq_true rfl⟩ cw_o10 rfl rfl rfl hl.1 (Nat.le_of_ble_eq_true rfl) dX3_copyInto_19) (fun H locs hS => ?_)
  refine lv_if_eq (tgt := 38) hx hb dX3_copyInto_22 (by decide) (fun c22 => ?_) (fun c22 => ?_)
  · replace hm := it c22 hm
    refine lv_iload_n hx hb dX3_copyInto_38 rfl (lv_at hl 0 rfl) ?_
    exact retIw (wf := cw q d) C hS hm dX3_copyInto_39
  · replace hm := ie c22 hm
    refine lv_aload_n hx hb dX3_copyInto_25 rfl (lv_at hl 1 rfl) ?_
    refine g_3_17_10 C hS dX3_copyInto_26 ?_
    refine lv_iload_n hx hb dX3_copyInto_29 rfl (lv_at hl 2 rfl) ?_
    obtain ⟨j30, e30, hm⟩ := ob hm
    have hj30 := inR_lt e30
    refine aaldI (g := fun j => q (13 + j)) C hS cw_r11 e30 dX3_copyInto_30 ?_
    refine lv_iconst (v := 0) hx hb dX3_copyInto_31 (by decide) ?_
    refine lv_aload_n hx hb dX3_copyInto_32 rfl (lv_at hl 3 rfl) ?_
    refine lv_iconst (v := 0) hx hb dX3_copyInto_33 (by decide) ?_
    refine lv_iload_n hx hb dX3_copyInto_34 rfl (lv_at hl 0 rfl) ?_
    obtain ⟨σ35, e35, hm⟩ := ob hm
    refine cpy' (wf := cw q d) C hl.1 hS (cw_af13 hj30) cw_a43 cw_s43 ac_X3_45 ⟨Nat.le_of_ble_eq_true rfl, by decide⟩ (Nat.le_of_ble_eq_true rfl) e35 dX3_copyInto_35 (fun H locs hS => ?_)
    refine lv_iload_n hx hb dX3_copyInto_38 rfl (lv_at hl 0 rfl) ?_
    exact retIw (wf := cw q d) C hS hm dX3_copyInto_39
def M_X0_clear (σ : ST) : Option ST := (some (setI σ 20 (0))).bind fun σ2 => (some (setI σ2 21 (0))).bind fun σ7 => (some (setI σ7 22 (0))).bind fun σ12 => (some (setI σ12 23 (0))).bind fun σ17 => (some (setI σ17 24 (0))).bind fun σ22 => (fillA 7 σ22 21 0).bind fun σ30 => some σ30
abbrev rm_X0_clear : Room := { frames := 1, cells := 0, slots := 0, locals := 23 }
set_option maxRecDepth 100000 in
set_option maxHeartbeats 4000000 in
theorem c_X0_clear (l : Launch) (d : CD) (q : Nat → Nat) (σ : ST) (out : ST) (hm : M_X0_clear σ = some out) : MetV l yX0_clear cX0_clear 1 (none) rm_X0_clear d (cw q d σ) [.ref (q 18)] (cw q d out) := by
  refine mkV (own := RX0) (by decide +kernel) rfl (Nat.le_of_ble_eq_true rfl) ?_
  intro p e s m below meth c A ls C hS hl
  obtain ⟨hx, hb, hml, hown, hts, -⟩ := id C
  have hl : lv_has ls 1 [(0, .ref (q 18))] := hl
  unfold M_X0_clear at hm
  refine lv_aload_n hx hb dX0_clear_0 rfl (lv_at hl 0 rfl) ?_
  refine lv_iconst (v := 0) hx hb dX0_clear_1 (by decide) ?_
  obtain ⟨σ2, e2, hm⟩ := ob hm
  refine p_0_21_18 C hS e2 dX0_clear_2 (fun H locs hS => ?_)
  refine lv_aload_n hx hb dX0_clear_5 rfl (lv_at hl 0 rfl) ?_
  refine lv_iconst (v := 0) hx hb dX0_clear_6 (by decide) ?_
  obtain ⟨σ7, e7, hm⟩ := ob hm
  refine p_0_25_18 C hS e7 dX0_clear_7 (fun H locs hS => ?_)
  refine lv_aload_n hx hb dX0_clear_10 rfl (lv_at hl 0 rfl) ?_
  refine lv_iconst (v := 0) hx hb dX0_clear_11 (by decide) ?_
  obtain ⟨σ12, e12, hm⟩ := ob hm
  refine p_0_28_18 C hS e12 dX0_clear_12 (fun H locs hS => ?_)
  refine lv_aload_n hx hb dX0_clear_15 rfl (lv_at hl 0 rfl) ?_
  refine lv_iconst (v := 0) hx hb dX0_clear_16 (by decide) ?_
  obtain ⟨σ17, e17, hm⟩ := ob hm
  refine p_0_31_18 C hS e17 dX0_clear_17 (fun H locs hS => ?_)
  refine lv_aload_n hx hb dX0_clear_20 rfl (lv_at hl 0 rfl) ?_
  refine lv_iconst (v := 0) hx hb dX0_clear_21 (by decide) ?_
  obtain ⟨σ22, e22, hm⟩ := ob hm
  refine p_0_34_18 C hS e22 dX0_clear_22 (fun H locs hS => ?_)
  refine lv_aload_n hx hb dX0_clear_25 rfl (lv_at hl 0 rfl) ?_
  refine g_0_18_18 C hS dX0_clear_26 ?_
  refine lv_iconst (v := 0) hx hb dX0_clear_29 (by decide) ?_
  obtain ⟨σ30, e30, hm⟩ := ob hm
  refine after_v (w' := cw q d σ30) C hS (call_S (As := [.ref (q 21), .int 0]) C hS (c_fill (wf := cw q d) (by decide) (fun _ => cw_a21) (fun _ => cw_s21) e30 _) is_0_37 ⟨rfl, rfl, Nat.le_of_ble_eq_true rfl, Nat.le_of_ble_eq_true rfl⟩ rfl hl.1 (Nat.le_of_ble_eq_true rfl) dX0_clear_30) (fun H locs hS => ?_)
  exact retVw (wf := cw q d) C hS hm dX0_clear_33
def M_X2_readPeace (σ : ST) : Option (Int32 × ST) := (M_X2_sign σ).bind fun o1 => if o1 = 113 then (some (setI σ 13 ((σ.1 13) + 1))).bind fun σ18 => (M_X2_takeFigure σ18 1 9).bind fun o29 => (some (setI o29.2 20 (o29.1))).bind fun σ32 => if (σ32.1 20) = (-1) then (okZ 0).bind fun z => some (z, σ32) else (M_X2_takeFigure σ32 0 9).bind fun o52 => if o52.1 = (-1) then (okZ 0).bind fun z => some (z, o52.2) else (M_X2_takeFigure o52.2 0 9).bind fun o67 => if o67.1 = (-1) then (okZ 0).bind fun z => some (z, o67.2) else (some (setI o67.2 21 ((10 * o52.1) + o67.1))).bind fun σ88 => (M_X2_takeFigure σ88 0 9).bind fun o99 => (some (setI o99.2 22 (o99.1))).bind fun σ102 => if (σ102.1 22) = (-1) then (okZ 0).bind fun z => some (z, σ102) else (okZ 1).bind fun z => some (z, σ102) else (okZ 0).bind fun z => some (z, σ)
abbrev rm_X2_readPeace : Room := { frames := 3, cells := 0, slots := 0, locals := 66 }
set_option maxRecDepth 100000 in
set_option maxHeartbeats 4000000 in
theorem c_X2_readPeace (l : Launch) (d : CD) (q : Nat → Nat) (σ : ST) (out : Int32 × ST) (hm : M_X2_readPeace σ = some out) : MetI l yX2_readPeace cX2_readPeace 3 (some .boolean) rm_X2_readPeace d (cw q d σ) [.ref (q 17)] out.1 (cw q d out.2) := by
  refine mkI (own := RX2) (by decide +kernel) rfl (Nat.le_of_ble_eq_true rfl) ?_
  intro p e s m below meth c A ls C hS hl
  obtain ⟨hx, hb, hml, hown, hts, -⟩ := id C
  have hl : lv_has ls 3 [(0, .ref (q 17))] := hl
  unfold M_X2_readPeace at hm
  refine lv_aload_n hx hb dX2_readPeace_0 rfl (lv_at hl 0 rfl) ?_
  obtain ⟨o1, e1, hm⟩ := ob hm
  refine after_i C hS (call_V (As := []) C hS (c_X2_sign l d q σ o1 e1 _) iv_2_49 ⟨rfl, rfl, Nat.le_of_ble_eq_true rfl, Nat.le_of_ble_eq_true rfl⟩ cw_o17 rfl rfl rfl hl.1 (Nat.le_of_ble_eq_true rfl) dX2_readPeace_1) (fun H locs hS => ?_)
  refine lv_bipush (v := 113) hx hb dX2_readPeace_4 (by decide) ?_
  refine lv_icmp_eq (tgt := 11) hx hb dX2_readPeace_6 (by decide) (fun c6 => ?_) (fun c6 => ?_)
  · replace hm := it c6 hm
    refine lv_aload_n hx hb dX2_readPeace_11 rfl (lv_at hl 0 rfl) ?_
    refine lv_dup hx hb dX2_readPeace_12 rfl ?_
    refine g_2_36_17 C hS dX2_readPeace_13 ?_
    refine lv_iconst (v := 1) hx hb dX2_readPeace_16 (by decide) ?_
    refine lv_iadd hx hb dX2_readPeace_17 ?_
    obtain ⟨σ18, e18, hm⟩ := ob hm
    refine p_2_36_17 C hS e18 dX2_readPeace_18 (fun H locs hS => ?_)
    refine lv_aload_n hx hb dX2_readPeace_21 rfl (lv_at hl 0 rfl) ?_
    refine g_2_18_17 C hS dX2_readPeace_22 ?_
    refine lv_aload_n hx hb dX2_readPeace_25 rfl (lv_at hl 0 rfl) ?_
    refine lv_iconst (v := 1) hx hb dX2_readPeace_26 (by decide) ?_
    refine lv_bipush (v := 9) hx hb dX2_readPeace_27 (by decide) ?_
    obtain ⟨o29, e29, hm⟩ := ob hm
    refine after_i C hS (call_V (As := [.int 1, .int 9]) C hS (c_X2_takeFigure l d q σ18 1 9 o29 e29 _) iv_2_63 ⟨rfl, rfl, Nat.le_of_ble_eq_true rfl, Nat.le_of_ble_eq_true rfl⟩ cw_o17 rfl rfl rfl hl.1 (Nat.le_of_ble_eq_true rfl) dX2_readPeace_29) (fun H locs hS => ?_)
    obtain ⟨σ32, e32, hm⟩ := ob hm
    refine p_2_66_18 C hS e32 dX2_readPeace_32 (fun H locs hS => ?_)
    refine lv_aload_n hx hb dX2_readPeace_35 rfl (lv_at hl 0 rfl) ?_
    refine g_2_18_17 C hS dX2_readPeace_36 ?_
    refine g_2_66_18 C hS dX2_readPeace_39 ?_
    refine lv_iconst (v := (-1)) hx hb dX2_readPeace_42 (by decide) ?_
    refine lv_icmp_ne (tgt := 48) hx hb dX2_readPeace_43 (by decide) (fun c43 => ?_) (fun c43 => ?_)
    · replace hm := ie c43 hm
      refine lv_aload_n hx hb dX2_readPeace_48 rfl (lv_at hl 0 rfl) ?_
      refine lv_iconst (v := 0) hx hb dX2_readPeace_49 (by decide) ?_
      refine lv_bipush (v := 9) hx hb dX2_readPeace_50 (by decide) ?_
      obtain ⟨o52, e52, hm⟩ := ob hm
      refine after_i C hS (call_V (As := [.int 0, .int 9]) C hS (c_X2_takeFigure l d q σ32 0 9 o52 e52 _) iv_2_63 ⟨rfl, rfl, Nat.le_of_ble_eq_true rfl, Nat.le_of_ble_eq_true rfl⟩ cw_o17 rfl rfl rfl hl.1 (Nat.le_of_ble_eq_true rfl) dX2_readPeace_52) (fun H locs hS => ?_)
      refine lv_istore_n (lv' := [(1, .int o52.1), (0, .ref (q 17))]) hx hb dX2_readPeace_55 rfl hl (by decide) rfl (fun ls hl => ?_)
      refine lv_iload_n hx hb dX2_readPeace_56 rfl (lv_at hl 0 rfl) ?_
      refine lv_iconst (v := (-1)) hx hb dX2_readPeace_57 (by decide) ?_
      refine lv_icmp_ne (tgt := 63) hx hb dX2_readPeace_58 (by decide) (fun c58 => ?_) (fun c58 => ?_)
      · replace hm := ie c58 hm
        refine lv_aload_n hx hb dX2_readPeace_63 rfl (lv_at hl 1 rfl) ?_
        refine lv_iconst (v := 0) hx hb dX2_readPeace_64 (by decide) ?_
        refine lv_bipush (v := 9) hx hb dX2_readPeace_65 (by decide) ?_
        obtain ⟨o67, e67, hm⟩ := ob hm
        refine after_i C hS (call_V (As := [.int 0, .int 9]) C hS (c_X2_takeFigure l d q o52.2 0 9 o67 e67 _) iv_2_63 ⟨rfl, rfl, Nat.le_of_ble_eq_true rfl, Nat.le_of_ble_eq_true rfl⟩ cw_o17 rfl rfl rfl hl.1 (Nat.le_of_ble_eq_true rfl) dX2_readPeace_67) (fun H locs hS => ?_)
        refine lv_istore_n (lv' := [(2, .int o67.1), (1, .int o52.1), (0, .ref (q 17))]) hx hb dX2_readPeace_70 rfl hl (by decide) rfl (fun ls hl => ?_)
        refine lv_iload_n hx hb dX2_readPeace_71 rfl (lv_at hl 0 rfl) ?_
        refine lv_iconst (v := (-1)) hx hb dX2_readPeace_72 (by decide) ?_
        refine lv_icmp_ne (tgt := 78) hx hb dX2_readPeace_73 (by decide) (fun c73 => ?_) (fun c73 => ?_)
        · replace hm := ie c73 hm
          refine lv_aload_n hx hb dX2_readPeace_78 rfl (lv_at hl 2 rfl) ?_
          refine g_2_18_17 C hS dX2_readPeace_79 ?_
          refine lv_bipush (v := 10) hx hb dX2_readPeace_82 (by decide) ?_
          refine lv_iload_n hx hb dX2_readPeace_84 rfl (lv_at hl 1 rfl) ?_
          refine lv_imul hx hb dX2_readPeace_85 ?_
          refine lv_iload_n hx hb dX2_readPeace_86 rfl (lv_at hl 0 rfl) ?_
          refine lv_iadd hx hb dX2_readPeace_87 ?_
          obtain ⟨σ88, e88, hm⟩ := ob hm
          refine p_2_69_18 C hS e88 dX2_readPeace_88 (fun H locs hS => ?_)
          refine lv_aload_n hx hb dX2_readPeace_91 rfl (lv_at hl 2 rfl) ?_
          refine g_2_18_17 C hS dX2_readPeace_92 ?_
          refine lv_aload_n hx hb dX2_readPeace_95 rfl (lv_at hl 2 rfl) ?_
          refine lv_iconst (v := 0) hx hb dX2_readPeace_96 (by decide) ?_
          refine lv_bipush (v := 9) hx hb dX2_readPeace_97 (by decide) ?_
          obtain ⟨o99, e99, hm⟩ := ob hm
          refine after_i C hS (call_V (As := [.int 0, .int 9]) C hS (c_X2_takeFigure l d q σ88 0 9 o99 e99 _) iv_2_63 ⟨rfl, rfl, Nat.le_of_ble_eq_true rfl, Nat.le_of_ble_eq_true rfl⟩ cw_o17 rfl rfl rfl hl.1 (Nat.le_of_ble_eq_true rfl) dX2_readPeace_99) (fun H locs hS => ?_)
          obtain ⟨σ102, e102, hm⟩ := ob hm
          refine p_2_72_18 C hS e102 dX2_readPeace_102 (fun H locs hS => ?_)
          refine lv_aload_n hx hb dX2_readPeace_105 rfl (lv_at hl 2 rfl) ?_
          refine g_2_18_17 C hS dX2_readPeace_106 ?_
          refine g_2_72_18 C hS dX2_readPeace_109 ?_
          refine lv_iconst (v := (-1)) hx hb dX2_readPeace_112 (by decide) ?_
          refine lv_icmp_eq (tgt := 120) hx hb dX2_readPeace_113 (by decide) (fun c113 => ?_) (fun c113 => ?_)
          · replace hm := it c113 hm
            refine lv_iconst (v := 0) hx hb dX2_readPeace_120 (by decide) ?_
            exact retZw (wf := cw q d) C hS hm dX2_readPeace_121
          · replace hm := ie c113 hm
            refine lv_iconst (v := 1) hx hb dX2_readPeace_116 (by decide) ?_
            refine lv_goto (tgt := 121) hx hb dX2_readPeace_117 (by decide) ?_
            exact retZw (wf := cw q d) C hS hm dX2_readPeace_121
        · replace hm := it c73 hm
          refine lv_iconst (v := 0) hx hb dX2_readPeace_76 (by decide) ?_
          exact retZw (wf := cw q d) C hS hm dX2_readPeace_77
      · replace hm := it c58 hm
        refine lv_iconst (v := 0) hx hb dX2_readPeace_61 (by decide) ?_
        exact retZw (wf := cw q d) C hS hm dX2_readPeace_62
    · replace hm := it c43 hm
      refine lv_iconst (v := 0) hx hb dX2_readPeace_46 (by decide) ?_
      exact retZw (wf := cw q d) C hS hm dX2_readPeace_47
  · replace hm := ie c6 hm
    refine lv_iconst (v := 0) hx hb dX2_readPeace_9 (by decide) ?_
    exact retZw (wf := cw q d) C hS hm dX2_readPeace_10
