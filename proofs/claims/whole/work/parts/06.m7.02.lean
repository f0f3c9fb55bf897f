def M_X7_kindOfLetter (a0 : Int32) : Option Int32 := if a0 = 104 then some 0 else if a0 = 99 then some 1 else if a0 = 114 then some 2 else if a0 = 100 then some 3 else if a0 = 115 then some 4 else if a0 = 109 then some 5 else some (-9)
abbrev rm_X7_kindOfLetter : Room := { frames := 0, cells := 0, slots := 0, locals := 0 }
set_option maxRecDepth 100000 in
set_option maxHeartbeats 4000000 in
theorem c_X7_kindOfLetter (l : Launch) (d : CD) (w : va_W) (a0 : Int32) (out : Int32) (hm : M_X7_kindOfLetter a0 = some out) : MetI l yX7_kindOfLetter cX7_kindOfLetter 1 (some .int) rm_X7_kindOfLetter d w [.int a0] out w := by
  refine mkI (own := RX7) (by decide +kernel) rfl (Nat.le_of_ble_eq_true rfl) ?_
  intro p e s m below meth c A ls C hS hl
  obtain ⟨hx, hb, hml, hown, hts, -⟩ := id C
  have hl : lv_has ls 1 [(0, .int a0)] := hl
  unfold M_X7_kindOfLetter at hm
  refine lv_iload_n hx hb dX7_kindOfLetter_0 rfl (lv_at hl 0 rfl) ?_
  refine lv_bipush (v := 104) hx hb dX7_kindOfLetter_1 (by decide) ?_
  refine lv_icmp_ne (tgt := 10) hx hb dX7_kindOfLetter_3 (by decide) (fun c3 => ?_) (fun c3 => ?_)
  · replace hm := ie c3 hm
    refine lv_iload_n hx hb dX7_kindOfLetter_10 rfl (lv_at hl 0 rfl) ?_
    refine lv_bipush (v := 99) hx hb dX7_kindOfLetter_11 (by decide) ?_
    refine lv_icmp_ne (tgt := 20) hx hb dX7_kindOfLetter_13 (by decide) (fun c13 => ?_) (fun c13 => ?_)
    · replace hm := ie c13 hm
      refine lv_iload_n hx hb dX7_kindOfLetter_20 rfl (lv_at hl 0 rfl) ?_
      refine lv_bipush (v := 114) hx hb dX7_kindOfLetter_21 (by decide) ?_
      refine lv_icmp_ne (tgt := 30) hx hb dX7_kindOfLetter_23 (by decide) (fun c23 => ?_) (fun c23 => ?_)
      · replace hm := ie c23 hm
        refine lv_iload_n hx hb dX7_kindOfLetter_30 rfl (lv_at hl 0 rfl) ?_
        refine lv_bipush (v := 100) hx hb dX7_kindOfLetter_31 (by decide) ?_
        refine lv_icmp_ne (tgt := 40) hx hb dX7_kindOfLetter_33 (by decide) (fun c33 => ?_) (fun c33 => ?_)
        · replace hm := ie c33 hm
          refine lv_iload_n hx hb dX7_kindOfLetter_40 rfl (lv_at hl 0 rfl) ?_
          refine lv_bipush (v := 115) hx hb dX7_kindOfLetter_41 (by decide) ?_
          refine lv_icmp_ne (tgt := 50) hx hb dX7_kindOfLetter_43 (by decide) (fun c43 => ?_) (fun c43 => ?_)
          · replace hm := ie c43 hm
            refine lv_iload_n hx hb dX7_kindOfLetter_50 rfl (lv_at hl 0 rfl) ?_
            refine lv_bipush (v := 109) hx hb dX7_kindOfLetter_51 (by decide) ?_
            refine lv_icmp_ne (tgt := 60) hx hb dX7_kindOfLetter_53 (by decide) (fun c53 => ?_) (fun c53 => ?_)
            · replace hm := ie c53 hm
              refine lv_bipush (v := (-9)) hx hb dX7_kindOfLetter_60 (by decide) ?_
              exact retIr C hS hm dX7_kindOfLetter_62
            · replace hm := it c53 hm
              refine lv_iconst (v := 5) hx hb dX7_kindOfLetter_56 (by decide) ?_
              refine lv_goto (tgt := 62) hx hb dX7_kindOfLetter_57 (by decide) ?_
              exact retIr C hS hm dX7_kindOfLetter_62
          · replace hm := it c43 hm
            refine lv_iconst (v := 4) hx hb dX7_kindOfLetter_46 (by decide) ?_
            refine lv_goto (tgt := 62) hx hb dX7_kindOfLetter_47 (by decide) ?_
            exact retIr C hS hm dX7_kindOfLetter_62
        · replace hm := it c33 hm
          refine lv_iconst (v := 3) hx hb dX7_kindOfLetter_36 (by decide) ?_
          refine lv_goto (tgt := 62) hx hb dX7_kindOfLetter_37 (by decide) ?_
          exact retIr C hS hm dX7_kindOfLetter_62
      · replace hm := it c23 hm
        refine lv_iconst (v := 2) hx hb dX7_kindOfLetter_26 (by decide) ?_
        refine lv_goto (tgt := 62) hx hb dX7_kindOfLetter_27 (by decide) ?_
        exact retIr C hS hm dX7_kindOfLetter_62
    · replace hm := it c13 hm
      refine lv_iconst (v := 1) hx hb dX7_kindOfLetter_16 (by decide) ?_
      refine lv_goto (tgt := 62) hx hb dX7_kindOfLetter_17 (by decide) ?_
      exact retIr C hS hm dX7_kindOfLetter_62
  · replace hm := it c3 hm
    refine lv_iconst (v := 0) hx hb dX7_kindOfLetter_6 (by decide) ?_
    refine lv_goto (tgt := 62) hx hb dX7_kindOfLetter_7 (by decide) ?_
    exact retIr C hS hm dX7_kindOfLetter_62
def M_X7_figure (σ : ST) (a1 : Int32) (a2 : Int32) : Option (Int32 × ST) := if (σ.1 18) = (σ.1 19) then some ((-9), σ) else (M_X7_here σ).bind fun o12 => (M_X7_in o12.toInt64 ((48 + a1).toInt64) ((48 + a2).toInt64)).bind fun o26 => if o26 = 0 then some ((-9), σ) else (some (setI σ 18 ((σ.1 18) + 1))).bind fun σ42 => (rd 320 (σ42.2.2 8) (((σ42.1 17) + (σ42.1 18)) - 1)).bind fun v60 => some (v60 - 48, σ42)
abbrev rm_X7_figure : Room := { frames := 1, cells := 0, slots := 0, locals := 25 }
set_option maxRecDepth 100000 in
set_option maxHeartbeats 4000000 in
theorem c_X7_figure (l : Launch) (d : CD) (q : Nat → Nat) (σ : ST) (a1 : Int32) (a2 : Int32) (out : Int32 × ST) (hm : M_X7_figure σ a1 a2 = some out) : MetI l yX7_figure cX7_figure 3 (some .int) rm_X7_figure d (mw q d σ) [.ref (q 0), .int a1, .int a2] out.1 (mw q d out.2) := by
  refine mkI (own := RX7) (by decide +kernel) rfl (Nat.le_of_ble_eq_true rfl) ?_
  intro p e s m below meth c A ls C hS hl
  obtain ⟨hx, hb, hml, hown, hts, -⟩ := id C
  have hl : lv_has ls 3 [(0, .ref (q 0)), (1, .int a1), (2, .int a2)] := hl
  unfold M_X7_figure at hm
  refine lv_aload_n hx hb dX7_figure_0 rfl (lv_at hl 0 rfl) ?_
  refine g_7_101_0 C hS dX7_figure_1 ?_
  refine lv_aload_n hx hb dX7_figure_4 rfl (lv_at hl 0 rfl) ?_
  refine g_7_104_0 C hS dX7_figure_5 ?_
  refine lv_icmp_eq (tgt := 32) hx hb dX7_figure_8 (by decide) (fun c8 => ?_) (fun c8 => ?_)
  · replace hm := it c8 hm
    refine lv_bipush (v := (-9)) hx hb dX7_figure_32 (by decide) ?_
    exact retIw (wf := mw q d) C hS hm dX7_figure_34
  · replace hm := ie c8 hm
    refine lv_aload_n hx hb dX7_figure_11 rfl (lv_at hl 0 rfl) ?_
    obtain ⟨o12, e12, hm⟩ := ob hm
    refine after_i C hS (call_V (As := []) C hS (c_X7_here l d q σ o12 e12 _) iv_7_107 ⟨rfl, rfl, Nat.le_of_ble_eq_true rfl, Nat.le_of_ble_eq_true rfl⟩ mw_o0 rfl rfl rfl hl.1 (Nat.le_of_ble_eq_true rfl) dX7_figure_12) (fun H locs hS => ?_)
    refine lv_i2l (v := o12.toInt64) hx hb dX7_figure_15 rfl ?_
    refine lv_bipush (v := 48) hx hb dX7_figure_16 (by decide) ?_
    refine lv_iload_n hx hb dX7_figure_18 rfl (lv_at hl 1 rfl) ?_
    refine lv_iadd hx hb dX7_figure_19 ?_
    refine lv_i2l (v := (48 + a1).toInt64) hx hb dX7_figure_20 rfl ?_
    refine lv_bipush (v := 48) hx hb dX7_figure_21 (by decide) ?_
    refine lv_iload_n hx hb dX7_figure_23 rfl (lv_at hl 2 rfl) ?_
    refine lv_iadd hx hb dX7_figure_24 ?_
    refine lv_i2l (v := (48 + a2).toInt64) hx hb dX7_figure_25 rfl ?_
    obtain ⟨o26, e26, hm⟩ := ob hm
    refine after_i C hS (call_S (As := [.long o12.toInt64, .long ((48 + a1).toInt64), .long ((48 + a2).toInt64)]) C hS (c_X7_in l d (mw q d σ) o12.toInt64 ((48 + a1).toInt64) ((48 + a2).toInt64) o26 e26 _) is_7_66 ⟨rfl, rfl, Nat.le_of_ble_eq_true rfl, Nat.le_of_ble_eq_true rfl⟩ rfl hl.1 (Nat.le_of_ble_eq_true rfl) dX7_figure_26) (fun H locs hS => ?_)
    refine lv_if_ne (tgt := 35) hx hb dX7_figure_29 (by decide) (fun c29 => ?_) (fun c29 => ?_)
    · replace hm := ie c29 hm
      refine lv_aload_n hx hb dX7_figure_35 rfl (lv_at hl 0 rfl) ?_
      refine lv_dup hx hb dX7_figure_36 rfl ?_
      refine g_7_101_0 C hS dX7_figure_37 ?_
      refine lv_iconst (v := 1) hx hb dX7_figure_40 (by decide) ?_
      refine lv_iadd hx hb dX7_figure_41 ?_
      obtain ⟨σ42, e42, hm⟩ := ob hm
      refine p_7_101_0 C hS e42 dX7_figure_42 (fun H locs hS => ?_)
      refine lv_aload_n hx hb dX7_figure_45 rfl (lv_at hl 0 rfl) ?_
      refine g_7_31_0 C hS dX7_figure_46 ?_
      refine lv_aload_n hx hb dX7_figure_49 rfl (lv_at hl 0 rfl) ?_
      refine g_7_98_0 C hS dX7_figure_50 ?_
      refine lv_aload_n hx hb dX7_figure_53 rfl (lv_at hl 0 rfl) ?_
      refine g_7_101_0 C hS dX7_figure_54 ?_
      refine lv_iadd hx hb dX7_figure_57 ?_
      refine lv_iconst (v := 1) hx hb dX7_figure_58 (by decide) ?_
      refine lv_isub hx hb dX7_figure_59 ?_
      obtain ⟨v60, e60, hm⟩ := ob hm
      refine iald' C hS mw_a8 e60 dX7_figure_60 ?_
      refine lv_bipush (v := 48) hx hb dX7_figure_61 (by decide) ?_
      refine lv_isub hx hb dX7_figure_63 ?_
      exact retIw (wf := mw q d) C hS hm dX7_figure_64
    · replace hm := it c29 hm
      refine lv_bipush (v := (-9)) hx hb dX7_figure_32 (by decide) ?_
      exact retIw (wf := mw q d) C hS hm dX7_figure_34
def M_X7_readsHouse (σ : ST) : Option (Int32 × ST) := (M_X7_here σ).bind fun o1 => (M_X7_kindOfLetter o1).bind fun o4 => if o4 = (-9) then (okZ 0).bind fun z => some (z, σ) else if (σ.1 24) = 7 then (okZ 0).bind fun z => some (z, σ) else if (σ.1 26) ≤ 0 then (some (setI σ 18 ((σ.1 18) + 1))).bind fun σ39 => (M_X7_figure σ39 0 9).bind fun o46 => if o46.1 = (-9) then (okZ 0).bind fun z => some (z, o46.2) else (wrA 14 o46.2 10 (2 * (o46.2.1 24)) o4).bind fun σ69 => (wrA 14 σ69 10 ((2 * (σ69.1 24)) + 1) o46.1).bind fun σ83 => (some (setI σ83 24 ((σ83.1 24) + 1))).bind fun σ91 => (okZ 1).bind fun z => some (z, σ91) else (okZ 0).bind fun z => some (z, σ)
abbrev rm_X7_readsHouse : Room := { frames := 2, cells := 0, slots := 0, locals := 47 }
set_option maxRecDepth 100000 in
set_option maxHeartbeats 4000000 in
theorem c_X7_readsHouse (l : Launch) (d : CD) (q : Nat → Nat) (σ : ST) (out : Int32 × ST) (hm : M_X7_readsHouse σ = some out) : MetI l yX7_readsHouse cX7_readsHouse 3 (some .boolean) rm_X7_readsHouse d (mw q d σ) [.ref (q 0)] out.1 (mw q d out.2) := by
  refine mkI (own := RX7) (by decide +kernel) rfl (Nat.le_of_ble_eq_true rfl) ?_
  intro p e s m below meth c A ls C hS hl
  obtain ⟨hx, hb, hml, hown, hts, -⟩ := id C
  have hl : lv_has ls 3 [(0, .ref (q 0))] := hl
  unfold M_X7_readsHouse at hm
  refine lv_aload_n hx hb dX7_readsHouse_0 rfl (lv_at hl 0 rfl) ?_
  obtain ⟨o1, e1, hm⟩ := ob hm
  refine after_i C hS (call_V (As := []) C hS (c_X7_here l d q σ o1 e1 _) iv_7_107 ⟨rfl, rfl, Nat.le_of_ble_eq_true rfl, Nat.le_of_ble_eq_true rfl⟩ mw_o0 rfl rfl rfl hl.1 (Nat.le_of_ble_eq_true rfl) dX7_readsHouse_1) (fun H locs hS => ?_)
  obtain ⟨o4, e4, hm⟩ := ob hm
  refine after_i C hS (call_S (As := [.int o1]) C hS (c_X7_kindOfLetter l d (mw q d σ) o1 o4 e4 _) is_7_126 ⟨rfl, rfl, Nat.le_of_ble_eq_true rfl, Nat.le_of_ble_eq_true rfl⟩ rfl hl.1 (Nat.le_of_ble_eq_true rfl) dX7_readsHouse_4) (fun H locs hS => ?_)
  refine lv_istore_n (lv' := [(1, .int o4), (0, .ref (q 0))]) hx hb dX7_readsHouse_7 rfl hl (by decide) rfl (fun ls hl => ?_)
  refine lv_iload_n hx hb dX7_readsHouse_8 rfl (lv_at hl 0 rfl) ?_
  refine lv_bipush (v := (-9)) hx hb dX7_readsHouse_9 (by decide) ?_
  refine lv_icmp_eq (tgt := 30) hx hb dX7_readsHouse_11 (by decide) (fun c11 => ?_) (fun c11 => ?_)
  · replace hm := it c11 hm
    refine lv_iconst (v := 0) hx hb dX7_readsHouse_30 (by decide) ?_
    exact retZw (wf := mw q d) C hS hm dX7_readsHouse_31
  · replace hm := ie c11 hm
    refine lv_aload_n hx hb dX7_readsHouse_14 rfl (lv_at hl 1 rfl) ?_
    refine g_7_129_0 C hS dX7_readsHouse_15 ?_
    refine lv_bipush (v := 7) hx hb dX7_readsHouse_18 (by decide) ?_
    refine lv_icmp_eq (tgt := 30) hx hb dX7_readsHouse_20 (by decide) (fun c20 => ?_) (fun c20 => ?_)
    · replace hm := it c20 hm
      refine lv_iconst (v := 0) hx hb dX7_readsHouse_30 (by decide) ?_
      exact retZw (wf := mw q d) C hS hm dX7_readsHouse_31
    · replace hm := ie c20 hm
      refine lv_aload_n hx hb dX7_readsHouse_23 rfl (lv_at hl 1 rfl) ?_
      refine g_7_132_0 C hS dX7_readsHouse_24 ?_
      refine lv_if_le (tgt := 32) hx hb dX7_readsHouse_27 (by decide) (fun c27 => ?_) (fun c27 => ?_)
      · replace hm := it c27 hm
        refine lv_aload_n hx hb dX7_readsHouse_32 rfl (lv_at hl 1 rfl) ?_
        refine lv_dup hx hb dX7_readsHouse_33 rfl ?_
        refine g_7_101_0 C hS dX7_readsHouse_34 ?_
        refine lv_iconst (v := 1) hx hb dX7_readsHouse_37 (by decide) ?_
        refine lv_iadd hx hb dX7_readsHouse_38 ?_
        obtain ⟨σ39, e39, hm⟩ := ob hm
        refine p_7_101_0 C hS e39 dX7_readsHouse_39 (fun H locs hS => ?_)
        refine lv_aload_n hx hb dX7_readsHouse_42 rfl (lv_at hl 1 rfl) ?_
        refine lv_iconst (v := 0) hx hb dX7_readsHouse_43 (by decide) ?_
        refine lv_bipush (v := 9) hx hb dX7_readsHouse_44 (by decide) ?_
        obtain ⟨o46, e46, hm⟩ := ob hm
        refine after_i C hS (call_V (As := [.int 0, .int 9]) C hS (c_X7_figure l d q σ39 0 9 o46 e46 _) iv_7_114 ⟨rfl, rfl, Nat.le_of_ble_eq_true rfl, Nat.le_of_ble_eq_true rfl⟩ mw_o0 rfl rfl rfl hl.1 (Nat.le_of_ble_eq_true rfl) dX7_readsHouse_46) (fun H locs hS => ?_)
        refine lv_istore_n (lv' := [(2, .int o46.1), (1, .int o4), (0, .ref (q 0))]) hx hb dX7_readsHouse_49 rfl hl (by decide) rfl (fun ls hl => ?_)
        refine lv_iload_n hx hb dX7_readsHouse_50 rfl (lv_at hl 0 rfl) ?_
        refine lv_bipush (v := (-9)) hx hb dX7_readsHouse_51 (by decide) ?_
        refine lv_icmp_ne (tgt := 58) hx hb dX7_readsHouse_53 (by decide) (fun c53 => ?_) (fun c53 => ?_)
        · replace hm := ie c53 hm
          refine lv_aload_n hx hb dX7_readsHouse_58 rfl (lv_at hl 2 rfl) ?_
          refine g_7_41_0 C hS dX7_readsHouse_59 ?_
          refine lv_iconst (v := 2) hx hb dX7_readsHouse_62 (by decide) ?_
          refine lv_aload_n hx hb dX7_readsHouse_63 rfl (lv_at hl 2 rfl) ?_
          refine g_7_129_0 C hS dX7_readsHouse_64 ?_
          refine lv_imul hx hb dX7_readsHouse_67 ?_
          refine lv_iload_n hx hb dX7_readsHouse_68 rfl (lv_at hl 1 rfl) ?_
          obtain ⟨σ69, e69, hm⟩ := ob hm
          refine iast' (wf := mw q d) C hS mw_a10 mw_s10 e69 dX7_readsHouse_69 (fun H locs hS => ?_)
          refine lv_aload_n hx hb dX7_readsHouse_70 rfl (lv_at hl 2 rfl) ?_
          refine g_7_41_0 C hS dX7_readsHouse_71 ?_
          refine lv_iconst (v := 2) hx hb dX7_readsHouse_74 (by decide) ?_
          refine lv_aload_n hx hb dX7_readsHouse_75 rfl (lv_at hl 2 rfl) ?_
          refine g_7_129_0 C hS dX7_readsHouse_76 ?_
          refine lv_imul hx hb dX7_readsHouse_79 ?_
          refine lv_iconst (v := 1) hx hb dX7_readsHouse_80 (by decide) ?_
          refine lv_iadd hx hb dX7_readsHouse_81 ?_
          refine lv_iload_n hx hb dX7_readsHouse_82 rfl (lv_at hl 0 rfl) ?_
          obtain ⟨σ83, e83, hm⟩ := ob hm
          refine iast' (wf := mw q d) C hS mw_a10 mw_s10 e83 dX7_readsHouse_83 (fun H locs hS => ?_)
          refine lv_aload_n hx hb dX7_readsHouse_84 rfl (lv_at hl 2 rfl) ?_
          refine lv_dup hx hb dX7_readsHouse_85 rfl ?_
          refine g_7_129_0 C hS dX7_readsHouse_86 ?_
          refine lv_iconst (v := 1) hx hb dX7_readsHouse_89 (by decide) ?_
          refine lv_iadd hx hb dX7_readsHouse_90 ?_
          obtain ⟨σ91, e91, hm⟩ := ob hm
          refine p_7_129_0 C hS e91 dX7_readsHouse_91 (fun H locs hS => ?_)
          refine lv_iconst (v := 1) hx hb dX7_readsHouse_94 (by decide) ?_
          exact retZw (wf := mw q d) C hS hm dX7_readsHouse_95
        · replace hm := it c53 hm
          refine lv_iconst (v := 0) hx hb dX7_readsHouse_56 (by decide) ?_
          exact retZw (wf := mw q d) C hS hm dX7_readsHouse_57
      · replace hm := ie c27 hm
        refine lv_iconst (v := 0) hx hb dX7_readsHouse_30 (by decide) ?_
        exact retZw (wf := mw q d) C hS hm dX7_readsHouse_31
def M_X7_has (a0 : Int32) (a1 : Int32) : Option Int32 := if ((a0 >>> (a1 &&& 31)) &&& 1) = 1 then okZ 1 else okZ 0
abbrev rm_X7_has : Room := { frames := 0, cells := 0, slots := 0, locals := 0 }
set_option maxRecDepth 100000 in
set_option maxHeartbeats 4000000 in
theorem c_X7_has (l : Launch) (d : CD) (w : va_W) (a0 : Int32) (a1 : Int32) (out : Int32) (hm : M_X7_has a0 a1 = some out) : MetI l yX7_has cX7_has 2 (some .boolean) rm_X7_has d w [.int a0, .int a1] out w := by
  refine mkI (own := RX7) (by decide +kernel) rfl (Nat.le_of_ble_eq_true rfl) ?_
  intro p e s m below meth c A ls C hS hl
  obtain ⟨hx, hb, hml, hown, hts, -⟩ := id C
  have hl : lv_has ls 2 [(0, .int a0), (1, .int a1)] := hl
  unfold M_X7_has at hm
  refine lv_iload_n hx hb dX7_has_0 rfl (lv_at hl 0 rfl) ?_
  refine lv_iload_n hx hb dX7_has_1 rfl (lv_at hl 1 rfl) ?_
  refine lv_ishr hx hb dX7_has_2 ?_
  refine lv_iconst (v := 1) hx hb dX7_has_3 (by decide) ?_
  refine lv_iand hx hb dX7_has_4 ?_
  refine lv_iconst (v := 1) hx hb dX7_has_5 (by decide) ?_
  refine lv_icmp_ne (tgt := 13) hx hb dX7_has_6 (by decide) (fun c6 => ?_) (fun c6 => ?_)
  · replace hm := ie c6 hm
    refine lv_iconst (v := 0) hx hb dX7_has_13 (by decide) ?_
    exact retZr C hS hm dX7_has_14
  · replace hm := it c6 hm
    refine lv_iconst (v := 1) hx hb dX7_has_9 (by decide) ?_
    refine lv_goto (tgt := 14) hx hb dX7_has_10 (by decide) ?_
    exact retZr C hS hm dX7_has_14
def M_X7_readsFeud_55 (σ : ST) (x1 : Int32) (y0 : Int32) : Option (Int32 × ST) := if y0 = (-9) then (okZ 0).bind fun z => some (z, σ) else (rd 7 (σ.2.2 11) x1).bind fun v69 => (M_X7_has v69 y0).bind fun o71 => if o71 = 0 then (rd 7 (σ.2.2 11) x1).bind fun v95 => (wrA 7 σ 11 x1 (v95 ||| ((1 : Int32) <<< (y0 &&& 31)))).bind fun σ100 => (rd 7 (σ100.2.2 11) y0).bind fun v107 => (wrA 7 σ100 11 y0 (v107 ||| ((1 : Int32) <<< (x1 &&& 31)))).bind fun σ112 => (some (setI σ112 26 ((σ112.1 26) + 1))).bind fun σ120 => (okZ 1).bind fun z => some (z, σ120) else (some (setI σ 18 ((σ.1 18) - 1))).bind fun σ84 => (okZ 0).bind fun z => some (z, σ84)
def M_X7_readsFeud (σ : ST) : Option (Int32 × ST) := if (σ.1 24) = 0 then (okZ 0).bind fun z => some (z, σ) else (some (setI σ 18 ((σ.1 18) + 1))).bind fun σ16 => (M_X7_figure σ16 0 ((σ16.1 24) - 1)).bind fun o27 => if o27.1 = (-9) then M_X7_readsFeud_55 o27.2 o27.1 (-9) else (M_X7_figure o27.2 (o27.1 + 1) ((o27.2.1 24) - 1)).bind fun o52 => M_X7_readsFeud_55 o52.2 o27.1 o52.1
abbrev rm_X7_readsFeud : Room := { frames := 2, cells := 0, slots := 0, locals := 47 }
set_option maxRecDepth 100000 in
set_option maxHeartbeats 4000000 in
theorem c_X7_readsFeud (l : Launch) (d : CD) (q : Nat → Nat) (σ : ST) (out : Int32 × ST) (hm : M_X7_readsFeud σ = some out) : MetI l yX7_readsFeud cX7_readsFeud 3 (some .boolean) rm_X7_readsFeud d (mw q d σ) [.ref (q 0)] out.1 (mw q d out.2) := by
  refine mkI (own := RX7) (by decide +kernel) rfl (Nat.le_of_ble_eq_true rfl) ?_
  intro p e s m below meth c A ls C hS hl
  obtain ⟨hx, hb, hml, hown, hts, -⟩ := id C
  have hl : lv_has ls 3 [(0, .ref (q 0))] := hl
  have J55 : ∀ (σ : ST) (x1 : Int32) (y0 : Int32) (H : Heap) (locs : List Loc) (ls : Array Slot), HS d A s.heap H locs (mw q d σ) → lv_has ls 3 [(0, .ref (q 0)), (1, .int x1)] → M_X7_readsFeud_55 σ x1 y0 = some out → WI p l e rm_X7_readsFeud s m [.ref (q 0)].toArray below meth c A d H locs out.1 (mw q d out.2) (F0 m 55 ls [.int y0]) := by
    intro σ x1 y0 H locs ls hS hl hm
    unfold M_X7_readsFeud_55 at hm
    refine lv_istore_n (lv' := [(2, .int y0), (0, .ref (q 0)), (1, .int x1)]) hx hb dX7_readsFeud_55 rfl hl (by decide) rfl (fun ls hl => ?_)
    refine lv_iload_n hx hb dX7_readsFeud_56 rfl (lv_at hl 0 rfl) ?_
    refine lv_bipush (v := (-9)) hx hb dX7_readsFeud_57 (by decide) ?_
    refine lv_icmp_ne (tgt := 64) hx hb dX7_readsFeud_59 (by decide) (fun c59 => ?_) (fun c59 => ?_)
    · replace hm := ie c59 hm
      refine lv_aload_n hx hb dX7_readsFeud_64 rfl (lv_at hl 1 rfl) ?_
      refine g_7_44_0 C hS dX7_readsFeud_65 ?_
      refine lv_iload_n hx hb dX7_readsFeud_68 rfl (lv_at hl 2 rfl) ?_
      obtain ⟨v69, e69, hm⟩ := ob hm
      refine iald' C hS mw_a11 e69 dX7_readsFeud_69 ?_
      refine lv_iload_n hx hb dX7_readsFeud_70 rfl (lv_at hl 0 rfl) ?_
      obtain ⟨o71, e71, hm⟩ := ob hm
      refine after_i C hS (call_S (As := [.int v69, .int y0]) C hS (c_X7_has l d (mw q d σ) v69 y0 o71 e71 _) is_7_135 ⟨rfl, rfl, Nat.le_of_ble_eq_true rfl, Nat.le_of_ble_eq_true rfl⟩ rfl hl.1 (Nat.le_of_ble_eq_true rfl) dX7_readsFeud_71) (fun H locs hS => ?_)
      refine lv_if_eq (tgt := 89) hx hb dX7_readsFeud_74 (by decide) (fun c74 => ?_) (fun c74 => ?_)
      · replace hm := it c74 hm
        refine lv_aload_n hx hb dX7_readsFeud_89 rfl (lv_at hl 1 rfl) ?_
        refine g_7_44_0 C hS dX7_readsFeud_90 ?_
        refine lv_iload_n hx hb dX7_readsFeud_93 rfl (lv_at hl 2 rfl) ?_
        refine lv_dup2_11 hx hb dX7_readsFeud_94 rfl rfl ?_
        obtain ⟨v95, e95, hm⟩ := ob hm
        refine iald' C hS mw_a11 e95 dX7_readsFeud_95 ?_
        refine lv_iconst (v := 1) hx hb dX7_readsFeud_96 (by decide) ?_
        refine lv_iload_n hx hb dX7_readsFeud_97 rfl (lv_at hl 0 rfl) ?_
        refine lv_ishl hx hb dX7_readsFeud_98 ?_
        refine lv_ior hx hb dX7_readsFeud_99 ?_
        obtain ⟨σ100, e100, hm⟩ := ob hm
        refine iast' (wf := mw q d) C hS mw_a11 mw_s11 e100 dX7_readsFeud_100 (fun H locs hS => ?_)
        refine lv_aload_n hx hb dX7_readsFeud_101 rfl (lv_at hl 1 rfl) ?_
        refine g_7_44_0 C hS dX7_readsFeud_102 ?_
        refine lv_iload_n hx hb dX7_readsFeud_105 rfl (lv_at hl 0 rfl) ?_
        refine lv_dup2_11 hx hb dX7_readsFeud_106 rfl rfl ?_
        obtain ⟨v107, e107, hm⟩ := ob hm
        refine iald' C hS mw_a11 e107 dX7_readsFeud_107 ?_
        refine lv_iconst (v := 1) hx hb dX7_readsFeud_108 (by decide) ?_
        refine lv_iload_n hx hb dX7_readsFeud_109 rfl (lv_at hl 2 rfl) ?_
        refine lv_ishl hx hb dX7_readsFeud_110 ?_
        refine lv_ior hx hb dX7_readsFeud_111 ?_
        obtain ⟨σ112, e112, hm⟩ := ob hm
        refine iast' (wf := mw q d) C hS mw_a11 mw_s11 e112 dX7_readsFeud_112 (fun H locs hS => ?_)
        refine lv_aload_n hx hb dX7_readsFeud_113 rfl (lv_at hl 1 rfl) ?_
        refine lv_dup hx hb dX7_readsFeud_114 rfl ?_
        refine g_7_132_0 C hS dX7_readsFeud_115 ?_
        refine lv_iconst (v := 1) hx hb dX7_readsFeud_118 (by decide) ?_
        refine lv_iadd hx hb dX7_readsFeud_119 ?_
        obtain ⟨σ120, e120, hm⟩ := ob hm
        refine p_7_132_0 C hS e120 dX7_readsFeud_120 (fun H locs hS => ?_)
        refine lv_iconst (v := 1) hx hb dX7_readsFeud_123 (by decide) ?_
        exact retZw (wf := mw q d) C hS hm dX7_readsFeud_124
      · replace hm := ie c74 hm
        refine lv_aload_n hx hb dX7_readsFeud_77 rfl (lv_at hl 1 rfl) ?_
        refine lv_dup hx hb dX7_readsFeud_78 rfl ?_
        refine g_7_101_0 C hS dX7_readsFeud_79 ?_
        refine lv_iconst (v := 1) hx hb dX7_readsFeud_82 (by decide) ?_
        refine lv_isub hx hb dX7_readsFeud_83 ?_
        obtain ⟨σ84, e84, hm⟩ := ob hm
        refine p_7_101_0 C hS e84 dX7_readsFeud_84 (fun H locs hS => ?_)
        refine lv_iconst (v := 0) hx hb dX7_readsFeud_87 (by decide) ?_
        exact retZw (wf := mw q d) C hS hm dX7_readsFeud_88
    · replace hm := it c59 hm
      refine lv_iconst (v := 0) hx hb dX7_readsFeud_62 (by decide) ?_
      exact retZw (wf := mw q d) C hS hm dX7_readsFeud_63
  unfold M_X7_readsFeud at hm
  refine lv_aload_n hx hb dX7_readsFeud_0 rfl (lv_at hl 0 rfl) ?_
  refine g_7_129_0 C hS dX7_readsFeud_1 ?_
  refine lv_if_ne (tgt := 9) hx hb dX7_readsFeud_4 (by decide) (fun c4 => ?_) (fun c4 => ?_)
  · replace hm := ie c4 hm
    refine lv_aload_n hx hb dX7_readsFeud_9 rfl (lv_at hl 0 rfl) ?_
    refine lv_dup hx hb dX7_readsFeud_10 rfl ?_
    refine g_7_101_0 C hS dX7_readsFeud_11 ?_
    refine lv_iconst (v := 1) hx hb dX7_readsFeud_14 (by decide) ?_
    refine lv_iadd hx hb dX7_readsFeud_15 ?_
    obtain ⟨σ16, e16, hm⟩ := ob hm
    refine p_7_101_0 C hS e16 dX7_readsFeud_16 (fun H locs hS => ?_)
    refine lv_aload_n hx hb dX7_readsFeud_19 rfl (lv_at hl 0 rfl) ?_
    refine lv_iconst (v := 0) hx hb dX7_readsFeud_20 (by decide) ?_
    refine lv_aload_n hx hb dX7_readsFeud_21 rfl (lv_at hl 0 rfl) ?_
    refine g_7_129_0 C hS dX7_readsFeud_22 ?_
    refine lv_iconst (v := 1) hx hb dX7_readsFeud_25 (by decide) ?_
    refine lv_isub hx hb dX7_readsFeud_26 ?_
    obtain ⟨o27, e27, hm⟩ := ob hm
    refine after_i C hS (call_V (As := [.int 0, .int ((σ16.1 24) - 1)]) C hS (c_X7_figure l d q σ16 0 ((σ16.1 24) - 1) o27 e27 _) iv_7_114 ⟨rfl, rfl, Nat.le_of_ble_eq_true rfl, Nat.le_of_ble_eq_true rfl⟩ mw_o0 rfl rfl rfl hl.1 (Nat.le_of_ble_eq_true rfl) dX7_readsFeud_27) (fun H locs hS => ?_)
    refine lv_istore_n (lv' := [(1, .int o27.1), (0, .ref (q 0))]) hx hb dX7_readsFeud_30 rfl hl (by decide) rfl (fun ls hl => ?_)
    refine lv_iload_n hx hb dX7_readsFeud_31 rfl (lv_at hl 0 rfl) ?_
    refine lv_bipush (v := (-9)) hx hb dX7_readsFeud_32 (by decide) ?_
    refine lv_icmp_ne (tgt := 42) hx hb dX7_readsFeud_34 (by decide) (fun c34 => ?_) (fun c34 => ?_)
    · replace hm := ie c34 hm
      refine lv_aload_n hx hb dX7_readsFeud_42 rfl (lv_at hl 1 rfl) ?_
      refine lv_iload_n hx hb dX7_readsFeud_43 rfl (lv_at hl 0 rfl) ?_
      refine lv_iconst (v := 1) hx hb dX7_readsFeud_44 (by decide) ?_
      refine lv_iadd hx hb dX7_readsFeud_45 ?_
      refine lv_aload_n hx hb dX7_readsFeud_46 rfl (lv_at hl 1 rfl) ?_
      refine g_7_129_0 C hS dX7_readsFeud_47 ?_
      refine lv_iconst (v := 1) hx hb dX7_readsFeud_50 (by decide) ?_
      refine lv_isub hx hb dX7_readsFeud_51 ?_
      obtain ⟨o52, e52, hm⟩ := ob hm
      refine after_i C hS (call_V (As := [.int (o27.1 + 1), .int ((o27.2.1 24) - 1)]) C hS (c_X7_figure l d q o27.2 (o27.1 + 1) ((o27.2.1 24) - 1) o52 e52 _) iv_7_114 ⟨rfl, rfl, Nat.le_of_ble_eq_true rfl, Nat.le_of_ble_eq_true rfl⟩ mw_o0 rfl rfl rfl hl.1 (Nat.le_of_ble_eq_true rfl) dX7_readsFeud_52) (fun H locs hS => ?_)
      exact J55 o52.2 o27.1 o52.1 _ _ _ hS (lv_sub hl [1, 0] rfl) hm
    · replace hm := it c34 hm
      refine lv_bipush (v := (-9)) hx hb dX7_readsFeud_37 (by decide) ?_
      refine lv_goto (tgt := 55) hx hb dX7_readsFeud_39 (by decide) ?_
      exact J55 o27.2 o27.1 (-9) _ _ _ hS (lv_sub hl [1, 0] rfl) hm
  · replace hm := it c4 hm
    refine lv_iconst (v := 0) hx hb dX7_readsFeud_7 (by decide) ?_
    exact retZw (wf := mw q d) C hS hm dX7_readsFeud_8
def M_X7_readsWell_117 (σ : ST) (y1 : Int32) : Option (Int32 × ST) := (some (setI σ 22 (y1))).bind fun σ117 => if (σ117.1 22) = (-9) then (okZ 0).bind fun z => some (z, σ117) else (okZ 1).bind fun z => some (z, σ117)
def M_X7_readsWell_87 (σ : ST) (x1 : Int32) (y0 : Int32) : Option (Int32 × ST) := (some (setI σ 21 ((10 * x1) + y0))).bind fun σ95 => if y0 = (-9) then M_X7_readsWell_117 σ95 (-9) else (M_X7_figure σ95 0 9).bind fun o114 => M_X7_readsWell_117 o114.2 o114.1
def M_X7_readsWell_68 (σ : ST) (y0 : Int32) : Option (Int32 × ST) := if y0 = (-9) then M_X7_readsWell_87 σ y0 (-9) else (M_X7_figure σ 0 9).bind fun o84 => M_X7_readsWell_87 o84.2 y0 o84.1
def M_X7_readsWell (σ : ST) : Option (Int32 × ST) := (M_X7_skip σ).bind fun o1 => if (o1.1 18) = (o1.1 19) then (okZ 0).bind fun z => some (z, o1) else (M_X7_here o1).bind fun o16 => if o16 = 113 then (some (setI o1 18 ((o1.1 18) + 1))).bind fun σ33 => (M_X7_figure σ33 1 9).bind fun o41 => (some (setI o41.2 20 (o41.1))).bind fun σ44 => if (σ44.1 20) = (-9) then M_X7_readsWell_68 σ44 (-9) else (M_X7_figure σ44 0 9).bind fun o65 => M_X7_readsWell_68 o65.2 o65.1 else (okZ 0).bind fun z => some (z, o1)
abbrev rm_X7_readsWell : Room := { frames := 2, cells := 0, slots := 0, locals := 47 }
set_option maxRecDepth 100000 in
set_option maxHeartbeats 4000000 in
theorem c_X7_readsWell (l : Launch) (d : CD) (q : Nat → Nat) (σ : ST) (out : Int32 × ST) (hm : M_X7_readsWell σ = some out) : MetI l yX7_readsWell cX7_readsWell 3 (some .boolean) rm_X7_readsWell d (mw q d σ) [.ref (q 0)] out.1 (mw q d out.2) := by
  refine mkI (own := RX7) (by decide +kernel) rfl (Nat.le_of_ble_eq_true rfl) ?_
  intro p e s m below meth c A ls C hS hl
  obtain ⟨hx, hb, hml, hown, hts, -⟩ := id C
  have hl : lv_has ls 3 [(0, .ref (q 0))] := hl
  have J117 : ∀ (σ : ST) (y1 : Int32) (H : Heap) (locs : List Loc) (ls : Array Slot), HS d A s.heap H locs (mw q d σ) → lv_has ls 3 [(0, .ref (q 0))] → M_X7_readsWell_117 σ y1 = some out → WI p l e rm_X7_readsWell s m [.ref (q 0)].toArray below meth c A d H locs out.1 (mw q d out.2) (F0 m 117 ls [.int y1, .ref (q 0)]) := by
    intro σ y1 H locs ls hS hl hm
    unfold M_X7_readsWell_117 at hm
    obtain ⟨σ117, e117, hm⟩ := ob hm
    refine p_7_123_0 C hS e117 dX7_readsWell_117 (fun H locs hS => ?_)
    refine lv_aload_n hx hb dX7_readsWell_120 rfl (lv_at hl 0 rfl) ?_
    refine g_7_123_0 C hS dX7_readsWell_121 ?_
    refine lv_bipush (v := (-9)) hx hb dX7_readsWell_124 (by decide) ?_
    refine lv_icmp_eq (tgt := 133) hx hb dX7_readsWell_126 (by decide) (fun c126 => ?_) (fun c126 => ?_)
    · replace hm := it c126 hm
      refine lv_iconst (v := 0) hx hb dX7_readsWell_133 (by decide) ?_
      exact retZw (wf := mw q d) C hS hm dX7_readsWell_134
    · replace hm := ie c126 hm
      refine lv_iconst (v := 1) hx hb dX7_readsWell_129 (by decide) ?_
      refine lv_goto (tgt := 134) hx hb dX7_readsWell_130 (by decide) ?_
      exact retZw (wf := mw q d) C hS hm dX7_readsWell_134
  have J87 : ∀ (σ : ST) (x1 : Int32) (y0 : Int32) (H : Heap) (locs : List Loc) (ls : Array Slot), HS d A s.heap H locs (mw q d σ) → lv_has ls 3 [(0, .ref (q 0)), (1, .int x1)] → M_X7_readsWell_87 σ x1 y0 = some out → WI p l e rm_X7_readsWell s m [.ref (q 0)].toArray below meth c A d H locs out.1 (mw q d out.2) (F0 m 87 ls [.int y0]) := by
    intro σ x1 y0 H locs ls hS hl hm
    unfold M_X7_readsWell_87 at hm
    refine lv_istore_n (lv' := [(2, .int y0), (0, .ref (q 0)), (1, .int x1)]) hx hb dX7_readsWell_87 rfl hl (by decide) rfl (fun ls hl => ?_)
    refine lv_aload_n hx hb dX7_readsWell_88 rfl (lv_at hl 1 rfl) ?_
    refine lv_bipush (v := 10) hx hb dX7_readsWell_89 (by decide) ?_
    refine lv_iload_n hx hb dX7_readsWell_91 rfl (lv_at hl 2 rfl) ?_
    refine lv_imul hx hb dX7_readsWell_92 ?_
    refine lv_iload_n hx hb dX7_readsWell_93 rfl (lv_at hl 0 rfl) ?_
    refine lv_iadd hx hb dX7_readsWell_94 ?_
    obtain ⟨σ95, e95, hm⟩ := ob hm
    refine p_7_120_0 C hS e95 dX7_readsWell_95 (fun H locs hS => ?_)
    refine lv_aload_n hx hb dX7_readsWell_98 rfl (lv_at hl 1 rfl) ?_
    refine lv_iload_n hx hb dX7_readsWell_99 rfl (lv_at hl 0 rfl) ?_
    refine lv_bipush (v := (-9)) hx hb dX7_readsWell_100 (by decide) ?_
    refine lv_icmp_ne (tgt := 110) hx hb dX7_readsWell_102 (by decide) (fun c102 => ?_) (fun c102 => ?_)
    · replace hm := ie c102 hm
      refine lv_aload_n hx hb dX7_readsWell_110 rfl (lv_at hl 1 rfl) ?_
      refine lv_iconst (v := 0) hx hb dX7_readsWell_111 (by decide) ?_
      refine lv_bipush (v := 9) hx hb dX7_readsWell_112 (by decide) ?_
      obtain ⟨o114, e114, hm⟩ := ob hm
      refine after_i C hS (call_V (As := [.int 0, .int 9]) C hS (c_X7_figure l d q σ95 0 9 o114 e114 _) iv_7_114 ⟨rfl, rfl, Nat.le_of_ble_eq_true rfl, Nat.le_of_ble_eq_true rfl⟩ mw_o0 rfl rfl rfl hl.1 (Nat.le_of_ble_eq_true rfl) dX7_readsWell_114) (fun H locs hS => ?_)
      exact J117 o114.2 o114.1 _ _ _ hS (lv_sub hl [1] rfl) hm
    · replace hm := it c102 hm
      refine lv_bipush (v := (-9)) hx hb dX7_readsWell_105 (by decide) ?_
      refine lv_goto (tgt := 117) hx hb dX7_readsWell_107 (by decide) ?_
      exact J117 σ95 (-9) _ _ _ hS (lv_sub hl [1] rfl) hm
  have J68 : ∀ (σ : ST) (y0 : Int32) (H : Heap) (locs : List Loc) (ls : Array Slot), HS d A s.heap H locs (mw q d σ) → lv_has ls 3 [(0, .ref (q 0))] → M_X7_readsWell_68 σ y0 = some out → WI p l e rm_X7_readsWell s m [.ref (q 0)].toArray below meth c A d H locs out.1 (mw q d out.2) (F0 m 68 ls [.int y0]) := by
    intro σ y0 H locs ls hS hl hm
    unfold M_X7_readsWell_68 at hm
    refine lv_istore_n (lv' := [(1, .int y0), (0, .ref (q 0))]) hx hb dX7_readsWell_68 rfl hl (by decide) rfl (fun ls hl => ?_)
    refine lv_iload_n hx hb dX7_readsWell_69 rfl (lv_at hl 0 rfl) ?_
    refine lv_bipush (v := (-9)) hx hb dX7_readsWell_70 (by decide) ?_
    refine lv_icmp_ne (tgt := 80) hx hb dX7_readsWell_72 (by decide) (fun c72 => ?_) (fun c72 => ?_)
    · replace hm := ie c72 hm
      refine lv_aload_n hx hb dX7_readsWell_80 rfl (lv_at hl 1 rfl) ?_
      refine lv_iconst (v := 0) hx hb dX7_readsWell_81 (by decide) ?_
      refine lv_bipush (v := 9) hx hb dX7_readsWell_82 (by decide) ?_
      obtain ⟨o84, e84, hm⟩ := ob hm
      refine after_i C hS (call_V (As := [.int 0, .int 9]) C hS (c_X7_figure l d q σ 0 9 o84 e84 _) iv_7_114 ⟨rfl, rfl, Nat.le_of_ble_eq_true rfl, Nat.le_of_ble_eq_true rfl⟩ mw_o0 rfl rfl rfl hl.1 (Nat.le_of_ble_eq_true rfl) dX7_readsWell_84) (fun H locs hS => ?_)
      exact J87 o84.2 y0 o84.1 _ _ _ hS (lv_sub hl [1, 0] rfl) hm
    · replace hm := it c72 hm
      refine lv_bipush (v := (-9)) hx hb dX7_readsWell_75 (by decide) ?_
      refine lv_goto (tgt := 87) hx hb dX7_readsWell_77 (by decide) ?_
      exact J87 σ y0 (-9) _ _ _ hS (lv_sub hl [1, 0] rfl) hm
  unfold M_X7_readsWell at hm
  refine lv_aload_n hx hb dX7_readsWell_0 rfl (lv_at hl 0 rfl) ?_
  obtain ⟨o1, e1, hm⟩ := ob hm
  refine after_v C hS (call_V (As := []) C hS (c_X7_skip l d q σ o1 e1 _) iv_7_111 ⟨rfl, rfl, Nat.le_of_ble_eq_true rfl, Nat.le_of_ble_eq_true rfl⟩ mw_o0 rfl rfl rfl hl.1 (Nat.le_of_ble_eq_true rfl) dX7_readsWell_1) (fun H locs hS => ?_)
  refine lv_aload_n hx hb dX7_readsWell_4 rfl (lv_at hl 0 rfl) ?_
  refine g_7_101_0 C hS dX7_readsWell_5 ?_
  refine lv_aload_n hx hb dX7_readsWell_8 rfl (lv_at hl 0 rfl) ?_
  refine g_7_104_0 C hS dX7_readsWell_9 ?_
  refine lv_icmp_eq (tgt := 24) hx hb dX7_readsWell_12 (by decide) (fun c12 => ?_) (fun c12 => ?_)
  · replace hm := it c12 hm
    refine lv_iconst (v := 0) hx hb dX7_readsWell_24 (by decide) ?_
    exact retZw (wf := mw q d) C hS hm dX7_readsWell_25
  · replace hm := ie c12 hm
    refine lv_aload_n hx hb dX7_readsWell_15 rfl (lv_at hl 0 rfl) ?_
    obtain ⟨o16, e16, hm⟩ := ob hm
    refine after_i C hS (call_V (As := []) C hS (c_X7_here l d q o1 o16 e16 _) iv_7_107 ⟨rfl, rfl, Nat.le_of_ble_eq_true rfl, Nat.le_of_ble_eq_true rfl⟩ mw_o0 rfl rfl rfl hl.1 (Nat.le_of_ble_eq_true rfl) dX7_readsWell_16) (fun H locs hS => ?_)
    refine lv_bipush (v := 113) hx hb dX7_readsWell_19 (by decide) ?_
    refine lv_icmp_eq (tgt := 26) hx hb dX7_readsWell_21 (by decide) (fun c21 => ?_) (fun c21 => ?_)
    · replace hm := it c21 hm
      refine lv_aload_n hx hb dX7_readsWell_26 rfl (lv_at hl 0 rfl) ?_
      refine lv_dup hx hb dX7_readsWell_27 rfl ?_
      refine g_7_101_0 C hS dX7_readsWell_28 ?_
      refine lv_iconst (v := 1) hx hb dX7_readsWell_31 (by decide) ?_
      refine lv_iadd hx hb dX7_readsWell_32 ?_
      obtain ⟨σ33, e33, hm⟩ := ob hm
      refine p_7_101_0 C hS e33 dX7_readsWell_33 (fun H locs hS => ?_)
      refine lv_aload_n hx hb dX7_readsWell_36 rfl (lv_at hl 0 rfl) ?_
      refine lv_aload_n hx hb dX7_readsWell_37 rfl (lv_at hl 0 rfl) ?_
      refine lv_iconst (v := 1) hx hb dX7_readsWell_38 (by decide) ?_
      refine lv_bipush (v := 9) hx hb dX7_readsWell_39 (by decide) ?_
      obtain ⟨o41, e41, hm⟩ := ob hm
      refine after_i C hS (call_V (As := [.int 1, .int 9]) C hS (c_X7_figure l d q σ33 1 9 o41 e41 _) iv_7_114 ⟨rfl, rfl, Nat.le_of_ble_eq_true rfl, Nat.le_of_ble_eq_true rfl⟩ mw_o0 rfl rfl rfl hl.1 (Nat.le_of_ble_eq_true rfl) dX7_readsWell_41) (fun H locs hS => ?_)
      obtain ⟨σ44, e44, hm⟩ := ob hm
      refine p_7_117_0 C hS e44 dX7_readsWell_44 (fun H locs hS => ?_)
      refine lv_aload_n hx hb dX7_readsWell_47 rfl (lv_at hl 0 rfl) ?_
      refine g_7_117_0 C hS dX7_readsWell_48 ?_
      refine lv_bipush (v := (-9)) hx hb dX7_readsWell_51 (by decide) ?_
      refine lv_icmp_ne (tgt := 61) hx hb dX7_readsWell_53 (by decide) (fun c53 => ?_) (fun c53 => ?_)
      · replace hm := ie c53 hm
        refine lv_aload_n hx hb dX7_readsWell_61 rfl (lv_at hl 0 rfl) ?_
        refine lv_iconst (v := 0) hx hb dX7_readsWell_62 (by decide) ?_
        refine lv_bipush (v := 9) hx hb dX7_readsWell_63 (by decide) ?_
        obtain ⟨o65, e65, hm⟩ := ob hm
        refine after_i C hS (call_V (As := [.int 0, .int 9]) C hS (c_X7_figure l d q σ44 0 9 o65 e65 _) iv_7_114 ⟨rfl, rfl, Nat.le_of_ble_eq_true rfl, Nat.le_of_ble_eq_true rfl⟩ mw_o0 rfl rfl rfl hl.1 (Nat.le_of_ble_eq_true rfl) dX7_readsWell_65) (fun H locs hS => ?_)
        exact J68 o65.2 o65.1 _ _ _ hS (lv_sub hl [0] rfl) hm
      · replace hm := it c53 hm
        refine lv_bipush (v := (-9)) hx hb dX7_readsWell_56 (by decide) ?_
        refine lv_goto (tgt := 68) hx hb dX7_readsWell_58 (by decide) ?_
        exact J68 σ44 (-9) _ _ _ hS (lv_sub hl [0] rfl) hm
    · replace hm := ie c21 hm
      refine lv_iconst (v := 0) hx hb dX7_readsWell_24 (by decide) ?_
      exact retZw (wf := mw q d) C hS hm dX7_readsWell_25
