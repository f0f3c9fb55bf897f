def M_X3_hasRun_r (σ : ST) (a1 : Int32) (a2 : Int32) (a3 : Int32) : Option Int32 := (M_X3_isThere_r σ a1).bind fun o2 => if o2 = 0 then okZ 0 else if a3 < 0 then okZ 0 else if a2 < 0 then okZ 0 else (rd 6 (σ.2.2 3) a1).bind fun v22 => if (v22 - a3) < a2 then okZ 0 else okZ 1
abbrev rm_X3_hasRun_r : Room := { frames := 2, cells := 0, slots := 0, locals := 42 }
set_option maxRecDepth 100000 in
set_option maxHeartbeats 4000000 in
theorem c_X3_hasRun_r (l : Launch) (d : CD) (q : Nat → Nat) (σ : ST) (a1 : Int32) (a2 : Int32) (a3 : Int32) (out : Int32) (hm : M_X3_hasRun_r σ a1 a2 a3 = some out) : MetI l yX3_hasRun cX3_hasRun 4 (some .boolean) rm_X3_hasRun_r d (cw q d σ) [.ref (q 1), .int a1, .int a2, .int a3] out (cw q d σ) := by
  refine mkI (own := RX3) (by decide +kernel) rfl (Nat.le_of_ble_eq_true rfl) ?_
  intro p e s m below meth c A ls C hS hl
  obtain ⟨hx, hb, hml, hown, hts, -⟩ := id C
  have hl : lv_has ls 4 [(0, .ref (q 1)), (1, .int a1), (2, .int a2), (3, .int a3)] := hl
  unfold M_X3_hasRun_r at hm
  refine lv_aload_n hx hb dX3_hasRun_0 rfl (lv_at hl 0 rfl) ?_
  refine lv_iload_n hx hb dX3_hasRun_1 rfl (lv_at hl 1 rfl) ?_
  obtain ⟨o2, e2, hm⟩ := ob hm
  refine after_i C hS (call_V (As := [.int a1]) C hS (c_X3_isThere_r l d q σ a1 o2 e2 _) iv_3_34 ⟨rfl, rfl, Nat.le_of_ble_eq_true rfl, Nat.le_of_ble_eq_true rfl⟩ cw_o1 rfl rfl rfl hl.1 (Nat.le_of_ble_eq_true rfl) dX3_hasRun_2) (fun H locs hS => ?_)
  refine lv_if_eq (tgt := 32) hx hb dX3_hasRun_5 (by decide) (fun c5 => ?_) (fun c5 => ?_)
  · replace hm := it c5 hm
    refine lv_iconst (v := 0) hx hb dX3_hasRun_32 (by decide) ?_
    exact retZr C hS hm dX3_hasRun_33
  · replace hm := ie c5 hm
    refine lv_iload_n hx hb dX3_hasRun_8 rfl (lv_at hl 3 rfl) ?_
    refine lv_if_lt (tgt := 32) hx hb dX3_hasRun_9 (by decide) (fun c9 => ?_) (fun c9 => ?_)
    · replace hm := it c9 hm
      refine lv_iconst (v := 0) hx hb dX3_hasRun_32 (by decide) ?_
      exact retZr C hS hm dX3_hasRun_33
    · replace hm := ie c9 hm
      refine lv_iload_n hx hb dX3_hasRun_12 rfl (lv_at hl 2 rfl) ?_
      refine lv_if_lt (tgt := 32) hx hb dX3_hasRun_13 (by decide) (fun c13 => ?_) (fun c13 => ?_)
      · replace hm := it c13 hm
        refine lv_iconst (v := 0) hx hb dX3_hasRun_32 (by decide) ?_
        exact retZr C hS hm dX3_hasRun_33
      · replace hm := ie c13 hm
        refine lv_iload_n hx hb dX3_hasRun_16 rfl (lv_at hl 2 rfl) ?_
        refine lv_aload_n hx hb dX3_hasRun_17 rfl (lv_at hl 0 rfl) ?_
        refine g_3_20_1 C hS dX3_hasRun_18 ?_
        refine lv_iload_n hx hb dX3_hasRun_21 rfl (lv_at hl 1 rfl) ?_
        obtain ⟨v22, e22, hm⟩ := ob hm
        refine iald' C hS cw_a3 e22 dX3_hasRun_22 ?_
        refine lv_iload_n hx hb dX3_hasRun_23 rfl (lv_at hl 3 rfl) ?_
        refine lv_isub hx hb dX3_hasRun_24 ?_
        refine lv_icmp_gt (tgt := 32) hx hb dX3_hasRun_25 (by decide) (fun c25 => ?_) (fun c25 => ?_)
        · replace hm := it c25 hm
          refine lv_iconst (v := 0) hx hb dX3_hasRun_32 (by decide) ?_
          exact retZr C hS hm dX3_hasRun_33
        · replace hm := ie c25 hm
          refine lv_iconst (v := 1) hx hb dX3_hasRun_28 (by decide) ?_
          refine lv_goto (tgt := 33) hx hb dX3_hasRun_29 (by decide) ?_
          exact retZr C hS hm dX3_hasRun_33
def M_X3_move_r (σ : ST) (a1 : Int32) (a2 : Int32) (a3 : Int32) (a4 : Int32) (a5 : Int32) : Option ST := (M_X3_hasRun_r σ a1 a2 a5).bind fun o5 => if o5 = 0 then some σ else (M_X3_hasRun_r σ a3 a4 a5).bind fun o17 => if o17 = 0 then some σ else (inR 6 a1).bind fun j28 => (inR 6 a3).bind fun j35 => (cpA 40 40 σ (4 + j28) (4 + j35) a2 a4 a5).bind fun σ40 => some σ40
abbrev rm_X3_move_r : Room := { frames := 3, cells := 0, slots := 0, locals := 65 }
set_option maxRecDepth 100000 in
set_option maxHeartbeats 4000000 in
theorem c_X3_move_r (l : Launch) (d : CD) (q : Nat → Nat) (σ : ST) (a1 : Int32) (a2 : Int32) (a3 : Int32) (a4 : Int32) (a5 : Int32) (out : ST) (hm : M_X3_move_r σ a1 a2 a3 a4 a5 = some out) : MetV l yX3_move cX3_move 6 (none) rm_X3_move_r d (cw q d σ) [.ref (q 1), .int a1, .int a2, .int a3, .int a4, .int a5] (cw q d out) := by
  refine mkV (own := RX3) (by decide +kernel) rfl (Nat.le_of_ble_eq_true rfl) ?_
  intro p e s m below meth c A ls C hS hl
  obtain ⟨hx, hb, hml, hown, hts, -⟩ := id C
  have hl : lv_has ls 6 [(0, .ref (q 1)), (1, .int a1), (2, .int a2), (3, .int a3), (4, .int a4), (5, .int a5)] := hl
  unfold M_X3_move_r at hm
  refine lv_aload_n hx hb dX3_move_0 rfl (lv_at hl 0 rfl) ?_
  refine lv_iload_n hx hb dX3_move_1 rfl (lv_at hl 1 rfl) ?_
  refine lv_iload_n hx hb dX3_move_2 rfl (lv_at hl 2 rfl) ?_
  refine lv_iload hx hb dX3_move_3 (lv_at hl 5 rfl) ?_
  obtain ⟨o5, e5, hm⟩ := ob hm
  refine after_i C hS (call_V (As := [.int a1, .int a2, .int a5]) C hS (c_X3_hasRun_r l d q σ a1 a2 a5 o5 e5 _) iv_3_41 ⟨rfl, rfl, Nat.le_of_ble_eq_true rfl, Nat.le_of_ble_eq_true rfl⟩ cw_o1 rfl rfl rfl hl.1 (Nat.le_of_ble_eq_true rfl) dX3_move_5) (fun H locs hS => ?_)
  refine lv_if_eq (tgt := 43) hx hb dX3_move_8 (by decide) (fun c8 => ?_) (fun c8 => ?_)
  · replace hm := it c8 hm
    exact retVw (wf := cw q d) C hS hm dX3_move_43
  · replace hm := ie c8 hm
    refine lv_aload_n hx hb dX3_move_11 rfl (lv_at hl 0 rfl) ?_
    refine lv_iload_n hx hb dX3_move_12 rfl (lv_at hl 3 rfl) ?_
    refine lv_iload hx hb dX3_move_13 (lv_at hl 4 rfl) ?_
    refine lv_iload hx hb dX3_move_15 (lv_at hl 5 rfl) ?_
    obtain ⟨o17, e17, hm⟩ := ob hm
    refine after_i C hS (call_V (As := [.int a3, .int a4, .int a5]) C hS (c_X3_hasRun_r l d q σ a3 a4 a5 o17 e17 _) iv_3_41 ⟨rfl, rfl, Nat.le_of_ble_eq_true rfl, Nat.le_of_ble_eq_true rfl⟩ cw_o1 rfl rfl rfl hl.1 (Nat.le_of_ble_eq_true rfl) dX3_move_17) (fun H locs hS => ?_)
    refine lv_if_eq (tgt := 43) hx hb dX3_move_20 (by decide) (fun c20 => ?_) (fun c20 => ?_)
    · replace hm := it c20 hm
      exact retVw (wf := cw q d) C hS hm dX3_move_43
    · replace hm := ie c20 hm
      refine lv_aload_n hx hb dX3_move_23 rfl (lv_at hl 0 rfl) ?_
      refine g_3_17_1 C hS dX3_move_24 ?_
      refine lv_iload_n hx hb dX3_move_27 rfl (lv_at hl 1 rfl) ?_
      obtain ⟨j28, e28, hm⟩ := ob hm
      have hj28 := inR_lt e28
      refine aaldI (g := fun j => q (4 + j)) C hS cw_r2 e28 dX3_move_28 ?_
      refine lv_iload_n hx hb dX3_move_29 rfl (lv_at hl 2 rfl) ?_
      refine lv_aload_n hx hb dX3_move_30 rfl (lv_at hl 0 rfl) ?_
      refine g_3_17_1 C hS dX3_move_31 ?_
      refine lv_iload_n hx hb dX3_move_34 rfl (lv_at hl 3 rfl) ?_
      obtain ⟨j35, e35, hm⟩ := ob hm
      have hj35 := inR_lt e35
      refine aaldI (g := fun j => q (4 + j)) C hS cw_r2 e35 dX3_move_35 ?_
      refine lv_iload hx hb dX3_move_36 (lv_at hl 4 rfl) ?_
      refine lv_iload hx hb dX3_move_38 (lv_at hl 5 rfl) ?_
      obtain ⟨σ40, e40, hm⟩ := ob hm
      refine cpy' (wf := cw q d) C hl.1 hS (cw_af4 hj28) (cw_af4 hj35) (cw_sf4 hj35) ac_X3_45 ⟨Nat.le_of_ble_eq_true rfl, by decide⟩ (Nat.le_of_ble_eq_true rfl) e40 dX3_move_40 (fun H locs hS => ?_)
      exact retVw (wf := cw q d) C hS hm dX3_move_43
def M_X6_copy_92 (σ : ST) : Option (Int32 × ST) := (M_X6_refuse σ 2).bind fun o94 => some (o94.1, o94.2)
def M_X6_copy_57 (σ : ST) : Option (Int32 × ST) := (M_X6_refuse σ 1).bind fun o59 => some (o59.1, o59.2)
def M_X6_copy (σ : ST) (a1 : Int32) (a2 : Int32) (a3 : Int32) (a4 : Int32) (a5 : Int32) : Option (Int32 × ST) := (M_X3_isNumber_r σ a1).bind fun o5 => if o5 = 0 then some ((-1), σ) else (M_X3_isNumber_r σ a3).bind fun o16 => if o16 = 0 then some ((-1), σ) else if 0 ≤ a5 then (M_X3_isThere_r σ a1).bind fun o40 => if o40 = 0 then M_X6_copy_57 σ else (M_X3_isThere_r σ a3).bind fun o51 => if o51 = 0 then M_X6_copy_57 σ else (M_X3_hasRun_r σ a1 a2 a5).bind fun o71 => if o71 = 0 then M_X6_copy_92 σ else (M_X3_hasRun_r σ a3 a4 a5).bind fun o86 => if o86 = 0 then M_X6_copy_92 σ else (M_X3_move_r σ a1 a2 a3 a4 a5).bind fun o109 => some (1, o109) else (M_X6_refuse σ 5).bind fun o31 => some (o31.1, o31.2)
abbrev rm_X6_copy : Room := { frames := 4, cells := 0, slots := 0, locals := 90 }
set_option maxRecDepth 100000 in
set_option maxHeartbeats 4000000 in
theorem c_X6_copy (l : Launch) (d : CD) (q : Nat → Nat) (σ : ST) (a1 : Int32) (a2 : Int32) (a3 : Int32) (a4 : Int32) (a5 : Int32) (out : Int32 × ST) (hm : M_X6_copy σ a1 a2 a3 a4 a5 = some out) : MetI l yX6_copy cX6_copy 6 (some .int) rm_X6_copy d (cw q d σ) [.ref (q 0), .int a1, .int a2, .int a3, .int a4, .int a5] out.1 (cw q d out.2) := by
  refine mkI (own := RX6) (by decide +kernel) rfl (Nat.le_of_ble_eq_true rfl) ?_
  intro p e s m below meth c A ls C hS hl
  obtain ⟨hx, hb, hml, hown, hts, -⟩ := id C
  have hl : lv_has ls 6 [(0, .ref (q 0)), (1, .int a1), (2, .int a2), (3, .int a3), (4, .int a4), (5, .int a5)] := hl
  have J92 : ∀ (σ : ST) (H : Heap) (locs : List Loc) (ls : Array Slot), HS d A s.heap H locs (cw q d σ) → lv_has ls 6 [(0, .ref (q 0))] → M_X6_copy_92 σ = some out → WI p l e rm_X6_copy s m [.ref (q 0), .int a1, .int a2, .int a3, .int a4, .int a5].toArray below meth c A d H locs out.1 (cw q d out.2) (F0 m 92 ls []) := by
    intro σ H locs ls hS hl hm
    unfold M_X6_copy_92 at hm
    refine lv_aload_n hx hb dX6_copy_92 rfl (lv_at hl 0 rfl) ?_
    refine lv_iconst (v := 2) hx hb dX6_copy_93 (by decide) ?_
    obtain ⟨o94, e94, hm⟩ := ob hm
    refine after_i C hS (call_V (As := [.int 2]) C hS (c_X6_refuse l d q σ 2 o94 e94 _) iv_6_100 ⟨rfl, rfl, Nat.le_of_ble_eq_true rfl, Nat.le_of_ble_eq_true rfl⟩ cw_o0 rfl rfl rfl hl.1 (Nat.le_of_ble_eq_true rfl) dX6_copy_94) (fun H locs hS => ?_)
    exact retIw (wf := cw q d) C hS hm dX6_copy_97
  have J57 : ∀ (σ : ST) (H : Heap) (locs : List Loc) (ls : Array Slot), HS d A s.heap H locs (cw q d σ) → lv_has ls 6 [(0, .ref (q 0))] → M_X6_copy_57 σ = some out → WI p l e rm_X6_copy s m [.ref (q 0), .int a1, .int a2, .int a3, .int a4, .int a5].toArray below meth c A d H locs out.1 (cw q d out.2) (F0 m 57 ls []) := by
    intro σ H locs ls hS hl hm
    unfold M_X6_copy_57 at hm
    refine lv_aload_n hx hb dX6_copy_57 rfl (lv_at hl 0 rfl) ?_
    refine lv_iconst (v := 1) hx hb dX6_copy_58 (by decide) ?_
    obtain ⟨o59, e59, hm⟩ := ob hm
    refine after_i C hS (call_V (As := [.int 1]) C hS (c_X6_refuse l d q σ 1 o59 e59 _) iv_6_100 ⟨rfl, rfl, Nat.le_of_ble_eq_true rfl, Nat.le_of_ble_eq_true rfl⟩ cw_o0 rfl rfl rfl hl.1 (Nat.le_of_ble_eq_true rfl) dX6_copy_59) (fun H locs hS => ?_)
    exact retIw (wf := cw q d) C hS hm dX6_copy_62
  unfold M_X6_copy at hm
  refine lv_aload_n hx hb dX6_copy_0 rfl (lv_at hl 0 rfl) ?_
  refine g_6_14_0 C hS dX6_copy_1 ?_
  refine lv_iload_n hx hb dX6_copy_4 rfl (lv_at hl 1 rfl) ?_
  obtain ⟨o5, e5, hm⟩ := ob hm
  refine after_i C hS (call_V (As := [.int a1]) C hS (c_X3_isNumber_r l d q σ a1 o5 e5 _) iv_6_96 ⟨rfl, rfl, Nat.le_of_ble_eq_true rfl, Nat.le_of_ble_eq_true rfl⟩ cw_o1 rfl rfl rfl hl.1 (Nat.le_of_ble_eq_true rfl) dX6_copy_5) (fun H locs hS => ?_)
  refine lv_if_eq (tgt := 22) hx hb dX6_copy_8 (by decide) (fun c8 => ?_) (fun c8 => ?_)
  · replace hm := it c8 hm
    refine lv_iconst (v := (-1)) hx hb dX6_copy_22 (by decide) ?_
    exact retIw (wf := cw q d) C hS hm dX6_copy_23
  · replace hm := ie c8 hm
    refine lv_aload_n hx hb dX6_copy_11 rfl (lv_at hl 0 rfl) ?_
    refine g_6_14_0 C hS dX6_copy_12 ?_
    refine lv_iload_n hx hb dX6_copy_15 rfl (lv_at hl 3 rfl) ?_
    obtain ⟨o16, e16, hm⟩ := ob hm
    refine after_i C hS (call_V (As := [.int a3]) C hS (c_X3_isNumber_r l d q σ a3 o16 e16 _) iv_6_96 ⟨rfl, rfl, Nat.le_of_ble_eq_true rfl, Nat.le_of_ble_eq_true rfl⟩ cw_o1 rfl rfl rfl hl.1 (Nat.le_of_ble_eq_true rfl) dX6_copy_16) (fun H locs hS => ?_)
    refine lv_if_ne (tgt := 24) hx hb dX6_copy_19 (by decide) (fun c19 => ?_) (fun c19 => ?_)
    · replace hm := ie c19 hm
      refine lv_iload hx hb dX6_copy_24 (lv_at hl 5 rfl) ?_
      refine lv_if_ge (tgt := 35) hx hb dX6_copy_26 (by decide) (fun c26 => ?_) (fun c26 => ?_)
      · replace hm := it c26 hm
        refine lv_aload_n hx hb dX6_copy_35 rfl (lv_at hl 0 rfl) ?_
        refine g_6_14_0 C hS dX6_copy_36 ?_
        refine lv_iload_n hx hb dX6_copy_39 rfl (lv_at hl 1 rfl) ?_
        obtain ⟨o40, e40, hm⟩ := ob hm
        refine after_i C hS (call_V (As := [.int a1]) C hS (c_X3_isThere_r l d q σ a1 o40 e40 _) iv_6_104 ⟨rfl, rfl, Nat.le_of_ble_eq_true rfl, Nat.le_of_ble_eq_true rfl⟩ cw_o1 rfl rfl rfl hl.1 (Nat.le_of_ble_eq_true rfl) dX6_copy_40) (fun H locs hS => ?_)
        refine lv_if_eq (tgt := 57) hx hb dX6_copy_43 (by decide) (fun c43 => ?_) (fun c43 => ?_)
        · replace hm := it c43 hm
          exact J57 σ _ _ _ hS (lv_sub hl [0] rfl) hm
        · replace hm := ie c43 hm
          refine lv_aload_n hx hb dX6_copy_46 rfl (lv_at hl 0 rfl) ?_
          refine g_6_14_0 C hS dX6_copy_47 ?_
          refine lv_iload_n hx hb dX6_copy_50 rfl (lv_at hl 3 rfl) ?_
          obtain ⟨o51, e51, hm⟩ := ob hm
          refine after_i C hS (call_V (As := [.int a3]) C hS (c_X3_isThere_r l d q σ a3 o51 e51 _) iv_6_104 ⟨rfl, rfl, Nat.le_of_ble_eq_true rfl, Nat.le_of_ble_eq_true rfl⟩ cw_o1 rfl rfl rfl hl.1 (Nat.le_of_ble_eq_true rfl) dX6_copy_51) (fun H locs hS => ?_)
          refine lv_if_ne (tgt := 63) hx hb dX6_copy_54 (by decide) (fun c54 => ?_) (fun c54 => ?_)
          · replace hm := ie c54 hm
            refine lv_aload_n hx hb dX6_copy_63 rfl (lv_at hl 0 rfl) ?_
            refine g_6_14_0 C hS dX6_copy_64 ?_
            refine lv_iload_n hx hb dX6_copy_67 rfl (lv_at hl 1 rfl) ?_
            refine lv_iload_n hx hb dX6_copy_68 rfl (lv_at hl 2 rfl) ?_
            refine lv_iload hx hb dX6_copy_69 (lv_at hl 5 rfl) ?_
            obtain ⟨o71, e71, hm⟩ := ob hm
            refine after_i C hS (call_V (As := [.int a1, .int a2, .int a5]) C hS (c_X3_hasRun_r l d q σ a1 a2 a5 o71 e71 _) iv_6_107 ⟨rfl, rfl, Nat.le_of_ble_eq_true rfl, Nat.le_of_ble_eq_true rfl⟩ cw_o1 rfl rfl rfl hl.1 (Nat.le_of_ble_eq_true rfl) dX6_copy_71) (fun H locs hS => ?_)
            refine lv_if_eq (tgt := 92) hx hb dX6_copy_74 (by decide) (fun c74 => ?_) (fun c74 => ?_)
            · replace hm := it c74 hm
              exact J92 σ _ _ _ hS (lv_sub hl [0] rfl) hm
            · replace hm := ie c74 hm
              refine lv_aload_n hx hb dX6_copy_77 rfl (lv_at hl 0 rfl) ?_
              refine g_6_14_0 C hS dX6_copy_78 ?_
              refine lv_iload_n hx hb dX6_copy_81 rfl (lv_at hl 3 rfl) ?_
              refine lv_iload hx hb dX6_copy_82 (lv_at hl 4 rfl) ?_
              refine lv_iload hx hb dX6_copy_84 (lv_at hl 5 rfl) ?_
              obtain ⟨o86, e86, hm⟩ := ob hm
              refine after_i C hS (call_V (As := [.int a3, .int a4, .int a5]) C hS (c_X3_hasRun_r l d q σ a3 a4 a5 o86 e86 _) iv_6_107 ⟨rfl, rfl, Nat.le_of_ble_eq_true rfl, Nat.le_of_ble_eq_true rfl⟩ cw_o1 rfl rfl rfl hl.1 (Nat.le_of_ble_eq_true rfl) dX6_copy_86) (fun H locs hS => ?_)
              refine lv_if_ne (tgt := 98) hx hb dX6_copy_89 (by decide) (fun c89 => ?_) (fun c89 => ?_)
              · replace hm := ie c89 hm
                refine lv_aload_n hx hb dX6_copy_98 rfl (lv_at hl 0 rfl) ?_
                refine g_6_14_0 C hS dX6_copy_99 ?_
                refine lv_iload_n hx hb dX6_copy_102 rfl (lv_at hl 1 rfl) ?_
                refine lv_iload_n hx hb dX6_copy_103 rfl (lv_at hl 2 rfl) ?_
                refine lv_iload_n hx hb dX6_copy_104 rfl (lv_at hl 3 rfl) ?_
                refine lv_iload hx hb dX6_copy_105 (lv_at hl 4 rfl) ?_
                refine lv_iload hx hb dX6_copy_107 (lv_at hl 5 rfl) ?_
                obtain ⟨o109, e109, hm⟩ := ob hm
                refine after_v C hS (call_V (As := [.int a1, .int a2, .int a3, .int a4, .int a5]) C hS (c_X3_move_r l d q σ a1 a2 a3 a4 a5 o109 e109 _) iv_6_111 ⟨rfl, rfl, Nat.le_of_ble_eq_true rfl, Nat.le_of_ble_eq_true rfl⟩ cw_o1 rfl rfl rfl hl.1 (Nat.le_of_ble_eq_true rfl) dX6_copy_109) (fun H locs hS => ?_)
                refine lv_iconst (v := 1) hx hb dX6_copy_112 (by decide) ?_
                exact retIw (wf := cw q d) C hS hm dX6_copy_113
              · replace hm := it c89 hm
                exact J92 σ _ _ _ hS (lv_sub hl [0] rfl) hm
          · replace hm := it c54 hm
            exact J57 σ _ _ _ hS (lv_sub hl [0] rfl) hm
      · replace hm := ie c26 hm
        refine lv_aload_n hx hb dX6_copy_29 rfl (lv_at hl 0 rfl) ?_
        refine lv_iconst (v := 5) hx hb dX6_copy_30 (by decide) ?_
        obtain ⟨o31, e31, hm⟩ := ob hm
        refine after_i C hS (call_V (As := [.int 5]) C hS (c_X6_refuse l d q σ 5 o31 e31 _) iv_6_100 ⟨rfl, rfl, Nat.le_of_ble_eq_true rfl, Nat.le_of_ble_eq_true rfl⟩ cw_o0 rfl rfl rfl hl.1 (Nat.le_of_ble_eq_true rfl) dX6_copy_31) (fun H locs hS => ?_)
        exact retIw (wf := cw q d) C hS hm dX6_copy_34
    · replace hm := it c19 hm
      refine lv_iconst (v := (-1)) hx hb dX6_copy_22 (by decide) ?_
      exact retIw (wf := cw q d) C hS hm dX6_copy_23
def M_X3_sizeOf_r (σ : ST) (a1 : Int32) : Option Int32 := (M_X3_isNumber_r σ a1).bind fun o2 => if o2 = 0 then some (-1) else (rd 6 (σ.2.2 3) a1).bind fun v13 => some v13
abbrev rm_X3_sizeOf_r : Room := { frames := 1, cells := 0, slots := 0, locals := 21 }
set_option maxRecDepth 100000 in
set_option maxHeartbeats 4000000 in
theorem c_X3_sizeOf_r (l : Launch) (d : CD) (q : Nat → Nat) (σ : ST) (a1 : Int32) (out : Int32) (hm : M_X3_sizeOf_r σ a1 = some out) : MetI l yX3_sizeOf cX3_sizeOf 2 (some .int) rm_X3_sizeOf_r d (cw q d σ) [.ref (q 1), .int a1] out (cw q d σ) := by
  refine mkI (own := RX3) (by decide +kernel) rfl (Nat.le_of_ble_eq_true rfl) ?_
  intro p e s m below meth c A ls C hS hl
  obtain ⟨hx, hb, hml, hown, hts, -⟩ := id C
  have hl : lv_has ls 2 [(0, .ref (q 1)), (1, .int a1)] := hl
  unfold M_X3_sizeOf_r at hm
  refine lv_aload_n hx hb dX3_sizeOf_0 rfl (lv_at hl 0 rfl) ?_
  refine lv_iload_n hx hb dX3_sizeOf_1 rfl (lv_at hl 1 rfl) ?_
  obtain ⟨o2, e2, hm⟩ := ob hm
  refine after_i C hS (call_V (As := [.int a1]) C hS (c_X3_isNumber_r l d q σ a1 o2 e2 _) iv_3_30 ⟨rfl, rfl, Nat.le_of_ble_eq_true rfl, Nat.le_of_ble_eq_true rfl⟩ cw_o1 rfl rfl rfl hl.1 (Nat.le_of_ble_eq_true rfl) dX3_sizeOf_2) (fun H locs hS => ?_)
  refine lv_if_eq (tgt := 17) hx hb dX3_sizeOf_5 (by decide) (fun c5 => ?_) (fun c5 => ?_)
  · replace hm := it c5 hm
    refine lv_iconst (v := (-1)) hx hb dX3_sizeOf_17 (by decide) ?_
    exact retIr C hS hm dX3_sizeOf_18
  · replace hm := ie c5 hm
    refine lv_aload_n hx hb dX3_sizeOf_8 rfl (lv_at hl 0 rfl) ?_
    refine g_3_20_1 C hS dX3_sizeOf_9 ?_
    refine lv_iload_n hx hb dX3_sizeOf_12 rfl (lv_at hl 1 rfl) ?_
    obtain ⟨v13, e13, hm⟩ := ob hm
    refine iald' C hS cw_a3 e13 dX3_sizeOf_13 ?_
    refine lv_goto (tgt := 18) hx hb dX3_sizeOf_14 (by decide) ?_
    exact retIr C hS hm dX3_sizeOf_18
def M_X3_sumOf_r_5 (σ : ST) : Nat → Int32 → Int64 → Int32 → Option Int64
  | 0, _, _, _ => none
  | n + 1, x1, x2, x4 => (M_X3_sizeOf_r σ x1).bind fun o9 => if o9 ≤ x4 then some x2 else (M_X3_get_r σ x1 x4).bind fun o20 => M_X3_sumOf_r_5 σ n x1 (x2 + o20.toInt64) (x4 + 1)
def M_X3_sumOf_r (σ : ST) (a1 : Int32) : Option Int64 := M_X3_sumOf_r_5 σ 10000 a1 0 0
abbrev rm_X3_sumOf_r : Room := { frames := 4, cells := 0, slots := 0, locals := 86 }
set_option maxRecDepth 100000 in
set_option maxHeartbeats 4000000 in
theorem c_X3_sumOf_r (l : Launch) (d : CD) (q : Nat → Nat) (σ : ST) (a1 : Int32) (out : Int64) (hm : M_X3_sumOf_r σ a1 = some out) : MetL l yX3_sumOf cX3_sumOf 5 (some .long) rm_X3_sumOf_r d (cw q d σ) [.ref (q 1), .int a1] out (cw q d σ) := by
  refine mkL (own := RX3) (by decide +kernel) rfl (Nat.le_of_ble_eq_true rfl) ?_
  intro p e s m below meth c A ls C hS hl
  obtain ⟨hx, hb, hml, hown, hts, -⟩ := id C
  have hl : lv_has ls 5 [(0, .ref (q 1)), (1, .int a1)] := hl
  have L5 : ∀ (n : Nat) (x1 : Int32) (x2 : Int64) (x4 : Int32) (H : Heap) (locs : List Loc) (ls : Array Slot), HS d A s.heap H locs (cw q d σ) → lv_has ls 5 [(0, .ref (q 1)), (1, .int x1), (2, .long x2), (4, .int x4)] → M_X3_sumOf_r_5 σ n x1 x2 x4 = some out → WL p l e rm_X3_sumOf_r s m [.ref (q 1), .int a1].toArray below meth c A d H locs out (cw q d σ) (F0 m 5 ls []) := by
    intro n
    induction n with
    | zero =>
      intro x1 x2 x4 H locs ls hS hl hm
      exact absurd hm (by rw [M_X3_sumOf_r_5]; exact fun h => nomatch h)
    | succ n ih =>
      intro x1 x2 x4 H locs ls hS hl hm
      rw [M_X3_sumOf_r_5] at hm
      refine lv_iload hx hb dX3_sumOf_5 (lv_at hl 3 rfl) ?_
      refine lv_aload_n hx hb dX3_sumOf_7 rfl (lv_at hl 0 rfl) ?_
      refine lv_iload_n hx hb dX3_sumOf_8 rfl (lv_at hl 1 rfl) ?_
      obtain ⟨o9, e9, hm⟩ := ob hm
      refine after_i C hS (call_V (As := [.int x1]) C hS (c_X3_sizeOf_r l d q σ x1 o9 e9 _) iv_3_51 ⟨rfl, rfl, Nat.le_of_ble_eq_true rfl, Nat.le_of_ble_eq_true rfl⟩ cw_o1 rfl rfl rfl hl.1 (Nat.le_of_ble_eq_true rfl) dX3_sumOf_9) (fun H locs hS => ?_)
      refine lv_icmp_ge (tgt := 32) hx hb dX3_sumOf_12 (by decide) (fun c12 => ?_) (fun c12 => ?_)
      · replace hm := it c12 hm
        refine lv_lload_n hx hb dX3_sumOf_32 rfl (lv_at hl 2 rfl) ?_
        exact retLr C hS hm dX3_sumOf_33
      · replace hm := ie c12 hm
        refine lv_lload_n hx hb dX3_sumOf_15 rfl (lv_at hl 2 rfl) ?_
        refine lv_aload_n hx hb dX3_sumOf_16 rfl (lv_at hl 0 rfl) ?_
        refine lv_iload_n hx hb dX3_sumOf_17 rfl (lv_at hl 1 rfl) ?_
        refine lv_iload hx hb dX3_sumOf_18 (lv_at hl 3 rfl) ?_
        obtain ⟨o20, e20, hm⟩ := ob hm
        refine after_i C hS (call_V (As := [.int x1, .int x4]) C hS (c_X3_get_r l d q σ x1 x4 o20 e20 _) iv_3_64 ⟨rfl, rfl, Nat.le_of_ble_eq_true rfl, Nat.le_of_ble_eq_true rfl⟩ cw_o1 rfl rfl rfl hl.1 (Nat.le_of_ble_eq_true rfl) dX3_sumOf_20) (fun H locs hS => ?_)
        refine lv_i2l (v := o20.toInt64) hx hb dX3_sumOf_23 rfl ?_
        refine lv_ladd hx hb dX3_sumOf_24 ?_
        refine lv_lstore_n (lv' := [(2, .long (x2 + o20.toInt64)), (0, .ref (q 1)), (1, .int x1), (4, .int x4)]) hx hb dX3_sumOf_25 rfl hl (by decide) rfl (fun ls hl => ?_)
        refine lv_iinc (v := x4 + 1) (lv' := [(4, .int (x4 + 1)), (2, .long (x2 + o20.toInt64)), (0, .ref (q 1)), (1, .int x1)]) hx hb dX3_sumOf_26 hl (k := 3) rfl rfl (by decide) rfl (fun ls hl => ?_)
        refine lv_goto (tgt := 5) hx hb dX3_sumOf_29 (by decide) ?_
        exact ih x1 (x2 + o20.toInt64) (x4 + 1) _ _ _ hS (lv_sub hl [2, 3, 1, 0] rfl) hm
  unfold M_X3_sumOf_r at hm
  refine lv_lconst (v := 0) hx hb dX3_sumOf_0 (by decide) ?_
  refine lv_lstore_n (lv' := [(2, .long 0), (0, .ref (q 1)), (1, .int a1)]) hx hb dX3_sumOf_1 rfl hl (by decide) rfl (fun ls hl => ?_)
  refine lv_iconst (v := 0) hx hb dX3_sumOf_2 (by decide) ?_
  refine lv_istore (lv' := [(4, .int 0), (2, .long 0), (0, .ref (q 1)), (1, .int a1)]) hx hb dX3_sumOf_3 hl (by decide) rfl (fun ls hl => ?_)
  exact L5 10000 a1 0 0 _ _ _ hS (lv_sub hl [2, 3, 1, 0] rfl) hm
def M_X6_mean (σ : ST) (a1 : Int32) : Option (Int32 × ST) := (M_X6_refusalOf_r σ a1).bind fun o6 => if o6.1 = 0 then (M_X3_sizeOf_r o6.2 a1).bind fun o21 => if 0 < o21 then (M_X3_sumOf_r o6.2 a1).bind fun o41 => (dvL o41 o21.toInt64).bind fun v46 => (some (setI o6.2 8 (v46.toInt32))).bind fun σ48 => some (1, σ48) else (M_X6_refuse o6.2 4).bind fun o31 => some (o31.1, o31.2) else some (o6.1, o6.2)
abbrev rm_X6_mean : Room := { frames := 5, cells := 0, slots := 0, locals := 110 }
set_option maxRecDepth 100000 in
set_option maxHeartbeats 4000000 in
theorem c_X6_mean (l : Launch) (d : CD) (q : Nat → Nat) (σ : ST) (a1 : Int32) (out : Int32 × ST) (hm : M_X6_mean σ a1 = some out) : MetI l yX6_mean cX6_mean 4 (some .int) rm_X6_mean d (cw q d σ) [.ref (q 0), .int a1] out.1 (cw q d out.2) := by
  refine mkI (own := RX6) (by decide +kernel) rfl (Nat.le_of_ble_eq_true rfl) ?_
  intro p e s m below meth c A ls C hS hl
  obtain ⟨hx, hb, hml, hown, hts, -⟩ := id C
  have hl : lv_has ls 4 [(0, .ref (q 0)), (1, .int a1)] := hl
  unfold M_X6_mean at hm
  refine lv_aload_n hx hb dX6_mean_0 rfl (lv_at hl 0 rfl) ?_
  refine lv_aload_n hx hb dX6_mean_1 rfl (lv_at hl 0 rfl) ?_
  refine g_6_14_0 C hS dX6_mean_2 ?_
  refine lv_iload_n hx hb dX6_mean_5 rfl (lv_at hl 1 rfl) ?_
  obtain ⟨o6, e6, hm⟩ := ob hm
  refine after_i C hS (call_V (As := [.ref (q 1), .int a1]) C hS (c_X6_refusalOf_r l d q σ a1 o6 e6 _) iv_6_89 ⟨rfl, rfl, Nat.le_of_ble_eq_true rfl, Nat.le_of_ble_eq_true rfl⟩ cw_o0 rfl rfl rfl hl.1 (Nat.le_of_ble_eq_true rfl) dX6_mean_6) (fun H locs hS => ?_)
  refine lv_istore_n (lv' := [(2, .int o6.1), (0, .ref (q 0)), (1, .int a1)]) hx hb dX6_mean_9 rfl hl (by decide) rfl (fun ls hl => ?_)
  refine lv_iload_n hx hb dX6_mean_10 rfl (lv_at hl 0 rfl) ?_
  refine lv_if_eq (tgt := 16) hx hb dX6_mean_11 (by decide) (fun c11 => ?_) (fun c11 => ?_)
  · replace hm := it c11 hm
    refine lv_aload_n hx hb dX6_mean_16 rfl (lv_at hl 1 rfl) ?_
    refine g_6_14_0 C hS dX6_mean_17 ?_
    refine lv_iload_n hx hb dX6_mean_20 rfl (lv_at hl 2 rfl) ?_
    obtain ⟨o21, e21, hm⟩ := ob hm
    refine after_i C hS (call_V (As := [.int a1]) C hS (c_X3_sizeOf_r l d q o6.2 a1 o21 e21 _) iv_6_115 ⟨rfl, rfl, Nat.le_of_ble_eq_true rfl, Nat.le_of_ble_eq_true rfl⟩ cw_o1 rfl rfl rfl hl.1 (Nat.le_of_ble_eq_true rfl) dX6_mean_21) (fun H locs hS => ?_)
    refine lv_istore_n (lv' := [(3, .int o21), (2, .int o6.1), (0, .ref (q 0)), (1, .int a1)]) hx hb dX6_mean_24 rfl hl (by decide) rfl (fun ls hl => ?_)
    refine lv_iload_n hx hb dX6_mean_25 rfl (lv_at hl 0 rfl) ?_
    refine lv_if_gt (tgt := 35) hx hb dX6_mean_26 (by decide) (fun c26 => ?_) (fun c26 => ?_)
    · replace hm := it c26 hm
      refine lv_aload_n hx hb dX6_mean_35 rfl (lv_at hl 2 rfl) ?_
      refine lv_aload_n hx hb dX6_mean_36 rfl (lv_at hl 2 rfl) ?_
      refine g_6_14_0 C hS dX6_mean_37 ?_
      refine lv_iload_n hx hb dX6_mean_40 rfl (lv_at hl 3 rfl) ?_
      obtain ⟨o41, e41, hm⟩ := ob hm
      refine after_l C hS (call_V (As := [.int a1]) C hS (c_X3_sumOf_r l d q o6.2 a1 o41 e41 _) iv_6_118 ⟨rfl, rfl, Nat.le_of_ble_eq_true rfl, Nat.le_of_ble_eq_true rfl⟩ cw_o1 rfl rfl rfl hl.1 (Nat.le_of_ble_eq_true rfl) dX6_mean_41) (fun H locs hS => ?_)
      refine lv_iload_n hx hb dX6_mean_44 rfl (lv_at hl 0 rfl) ?_
      refine lv_i2l (v := o21.toInt64) hx hb dX6_mean_45 rfl ?_
      obtain ⟨v46, e46, hm⟩ := ob hm
      refine ldiv' C e46 dX6_mean_46 ?_
      refine lv_l2i (v := v46.toInt32) hx hb dX6_mean_47 rfl ?_
      obtain ⟨σ48, e48, hm⟩ := ob hm
      refine p_6_60_0 C hS e48 dX6_mean_48 (fun H locs hS => ?_)
      refine lv_iconst (v := 1) hx hb dX6_mean_51 (by decide) ?_
      exact retIw (wf := cw q d) C hS hm dX6_mean_52
    · replace hm := ie c26 hm
      refine lv_aload_n hx hb dX6_mean_29 rfl (lv_at hl 2 rfl) ?_
      refine lv_iconst (v := 4) hx hb dX6_mean_30 (by decide) ?_
      obtain ⟨o31, e31, hm⟩ := ob hm
      refine after_i C hS (call_V (As := [.int 4]) C hS (c_X6_refuse l d q o6.2 4 o31 e31 _) iv_6_100 ⟨rfl, rfl, Nat.le_of_ble_eq_true rfl, Nat.le_of_ble_eq_true rfl⟩ cw_o0 rfl rfl rfl hl.1 (Nat.le_of_ble_eq_true rfl) dX6_mean_31) (fun H locs hS => ?_)
      exact retIw (wf := cw q d) C hS hm dX6_mean_34
  · replace hm := ie c11 hm
    refine lv_iload_n hx hb dX6_mean_14 rfl (lv_at hl 0 rfl) ?_
    exact retIw (wf := cw q d) C hS hm dX6_mean_15
def M_X3_isNumber_t (σ : ST) (a1 : Int32) : Option Int32 := if a1 < 0 then okZ 0 else if 4 ≤ a1 then okZ 0 else okZ 1
abbrev rm_X3_isNumber_t : Room := { frames := 0, cells := 0, slots := 0, locals := 0 }
set_option maxRecDepth 100000 in
set_option maxHeartbeats 4000000 in
theorem c_X3_isNumber_t (l : Launch) (d : CD) (q : Nat → Nat) (σ : ST) (a1 : Int32) (out : Int32) (hm : M_X3_isNumber_t σ a1 = some out) : MetI l yX3_isNumber cX3_isNumber 2 (some .boolean) rm_X3_isNumber_t d (cw q d σ) [.ref (q 10), .int a1] out (cw q d σ) := by
  refine mkI (own := RX3) (by decide +kernel) rfl (Nat.le_of_ble_eq_true rfl) ?_
  intro p e s m below meth c A ls C hS hl
  obtain ⟨hx, hb, hml, hown, hts, -⟩ := id C
  have hl : lv_has ls 2 [(0, .ref (q 10)), (1, .int a1)] := hl
  unfold M_X3_isNumber_t at hm
  refine lv_iload_n hx hb dX3_isNumber_0 rfl (lv_at hl 1 rfl) ?_
  refine lv_if_lt (tgt := 17) hx hb dX3_isNumber_1 (by decide) (fun c1 => ?_) (fun c1 => ?_)
  · replace hm := it c1 hm
    refine lv_iconst (v := 0) hx hb dX3_isNumber_17 (by decide) ?_
    exact retZr C hS hm dX3_isNumber_18
  · replace hm := ie c1 hm
    refine lv_iload_n hx hb dX3_isNumber_4 rfl (lv_at hl 1 rfl) ?_
    refine lv_aload_n hx hb dX3_isNumber_5 rfl (lv_at hl 0 rfl) ?_
    refine g_3_20_10 C hS dX3_isNumber_6 ?_
    refine alen' (v := 4) C hS cw_a12 rfl dX3_isNumber_9 ?_
    refine lv_icmp_ge (tgt := 17) hx hb dX3_isNumber_10 (by decide) (fun c10 => ?_) (fun c10 => ?_)
    · replace hm := it c10 hm
      refine lv_iconst (v := 0) hx hb dX3_isNumber_17 (by decide) ?_
      exact retZr C hS hm dX3_isNumber_18
    · replace hm := ie c10 hm
      refine lv_iconst (v := 1) hx hb dX3_isNumber_13 (by decide) ?_
      refine lv_goto (tgt := 18) hx hb dX3_isNumber_14 (by decide) ?_
      exact retZr C hS hm dX3_isNumber_18
def M_X3_make_t (σ : ST) (a1 : Int32) (a2 : Int32) (a3 : Int32) : Option ST := (M_X3_isNumber_t σ a1).bind fun o2 => if o2 = 0 then some σ else if a2 < 0 then some σ else if 80 < a2 then some σ else (wrA 4 σ 12 a1 a2).bind fun σ26 => (inR 4 a1).bind fun j32 => (fillA 80 σ26 (13 + j32) a3).bind fun σ34 => some σ34
abbrev rm_X3_make_t : Room := { frames := 1, cells := 0, slots := 0, locals := 23 }
set_option maxRecDepth 100000 in
set_option maxHeartbeats 4000000 in
theorem c_X3_make_t (l : Launch) (d : CD) (q : Nat → Nat) (σ : ST) (a1 : Int32) (a2 : Int32) (a3 : Int32) (out : ST) (hm : M_X3_make_t σ a1 a2 a3 = some out) : MetV l yX3_make cX3_make 4 (none) rm_X3_make_t d (cw q d σ) [.ref (q 10), .int a1, .int a2, .int a3] (cw q d out) := by
  refine mkV (own := RX3) (by decide +kernel) rfl (Nat.le_of_ble_eq_true rfl) ?_
  intro p e s m below meth c A ls C hS hl
  obtain ⟨hx, hb, hml, hown, hts, -⟩ := id C
  have hl : lv_has ls 4 [(0, .ref (q 10)), (1, .int a1), (2, .int a2), (3, .int a3)] := hl
  unfold M_X3_make_t at hm
  refine lv_aload_n hx hb dX3_make_0 rfl (lv_at hl 0 rfl) ?_
  refine lv_iload_n hx hb dX3_make_1 rfl (lv_at hl 1 rfl) ?_
  obtain ⟨o2, e2, hm⟩ := ob hm
  refine after_i C hS (call_V (As := [.int a1]) C hS (c_X3_isNumber_t l d q σ a1 o2 e2 _) iv_3_30 ⟨rfl, rfl, Nat.le_of_ble_eq_true rfl, Nat.le_of_ble_eq_true rfl⟩ cw_o10 rfl rfl rfl hl.1 (Nat.le_of_ble_eq_true rfl) dX3_make_2) (fun H locs hS => ?_)
  refine lv_if_eq (tgt := 37) hx hb dX3_make_5 (by decide) (fun c5 => ?_) (fun c5 => ?_)
  · replace hm := it c5 hm
    exact retVw (wf := cw q d) C hS hm dX3_make_37
  · replace hm := ie c5 hm
    refine lv_iload_n hx hb dX3_make_8 rfl (lv_at hl 2 rfl) ?_
    refine lv_if_lt (tgt := 37) hx hb dX3_make_9 (by decide) (fun c9 => ?_) (fun c9 => ?_)
    · replace hm := it c9 hm
      exact retVw (wf := cw q d) C hS hm dX3_make_37
    · replace hm := ie c9 hm
      refine lv_iload_n hx hb dX3_make_12 rfl (lv_at hl 2 rfl) ?_
      refine lv_aload_n hx hb dX3_make_13 rfl (lv_at hl 0 rfl) ?_
      refine g_3_9_10 C hS dX3_make_14 ?_
      refine lv_icmp_gt (tgt := 37) hx hb dX3_make_17 (by decide) (fun c17 => ?_) (fun c17 => ?_)
      · replace hm := it c17 hm
        exact retVw (wf := cw q d) C hS hm dX3_make_37
      · replace hm := ie c17 hm
        refine lv_aload_n hx hb dX3_make_20 rfl (lv_at hl 0 rfl) ?_
        refine g_3_20_10 C hS dX3_make_21 ?_
        refine lv_iload_n hx hb dX3_make_24 rfl (lv_at hl 1 rfl) ?_
        refine lv_iload_n hx hb dX3_make_25 rfl (lv_at hl 2 rfl) ?_
        obtain ⟨σ26, e26, hm⟩ := ob hm
        refine iast' (wf := cw q d) C hS cw_a12 cw_s12 e26 dX3_make_26 (fun H locs hS => ?_)
        refine lv_aload_n hx hb dX3_make_27 rfl (lv_at hl 0 rfl) ?_
        refine g_3_17_10 C hS dX3_make_28 ?_
        refine lv_iload_n hx hb dX3_make_31 rfl (lv_at hl 1 rfl) ?_
        obtain ⟨j32, e32, hm⟩ := ob hm
        have hj32 := inR_lt e32
        refine aaldI (g := fun j => q (13 + j)) C hS cw_r11 e32 dX3_make_32 ?_
        refine lv_iload_n hx hb dX3_make_33 rfl (lv_at hl 3 rfl) ?_
        obtain ⟨σ34, e34, hm⟩ := ob hm
        refine after_v (w' := cw q d σ34) C hS (call_S (As := [.ref (q (13 + j32)), .int a3]) C hS (c_fill (wf := cw q d) (by decide) (fun _ => (cw_af13 hj32)) (fun _ => (cw_sf13 hj32)) e34 _) is_3_24 ⟨rfl, rfl, Nat.le_of_ble_eq_true rfl, Nat.le_of_ble_eq_true rfl⟩ rfl hl.1 (Nat.le_of_ble_eq_true rfl) dX3_make_34) (fun H locs hS => ?_)
        exact retVw (wf := cw q d) C hS hm dX3_make_37
def M_X6_makeOn_t (σ : ST) (a2 : Int32) (a3 : Int32) (a4 : Int32) : Option (Int32 × ST) := (M_X3_isNumber_t σ a2).bind fun o2 => if o2 = 0 then some ((-1), σ) else if a3 ≤ 80 then if 0 ≤ a3 then (M_X3_make_t σ a2 a3 a4).bind fun o33 => some (a3, o33) else (M_X6_refuse σ 5).bind fun o24 => some (o24.1, o24.2) else some ((-1), σ)
abbrev rm_X6_makeOn_t : Room := { frames := 2, cells := 0, slots := 0, locals := 46 }
set_option maxRecDepth 100000 in
set_option maxHeartbeats 4000000 in
theorem c_X6_makeOn_t (l : Launch) (d : CD) (q : Nat → Nat) (σ : ST) (a2 : Int32) (a3 : Int32) (a4 : Int32) (out : Int32 × ST) (hm : M_X6_makeOn_t σ a2 a3 a4 = some out) : MetI l yX6_makeOn cX6_makeOn 5 (some .int) rm_X6_makeOn_t d (cw q d σ) [.ref (q 0), .ref (q 10), .int a2, .int a3, .int a4] out.1 (cw q d out.2) := by
  refine mkI (own := RX6) (by decide +kernel) rfl (Nat.le_of_ble_eq_true rfl) ?_
  intro p e s m below meth c A ls C hS hl
  obtain ⟨hx, hb, hml, hown, hts, -⟩ := id C
  have hl : lv_has ls 5 [(0, .ref (q 0)), (1, .ref (q 10)), (2, .int a2), (3, .int a3), (4, .int a4)] := hl
  unfold M_X6_makeOn_t at hm
  refine lv_aload_n hx hb dX6_makeOn_0 rfl (lv_at hl 1 rfl) ?_
  refine lv_iload_n hx hb dX6_makeOn_1 rfl (lv_at hl 2 rfl) ?_
  obtain ⟨o2, e2, hm⟩ := ob hm
  refine after_i C hS (call_V (As := [.int a2]) C hS (c_X3_isNumber_t l d q σ a2 o2 e2 _) iv_6_96 ⟨rfl, rfl, Nat.le_of_ble_eq_true rfl, Nat.le_of_ble_eq_true rfl⟩ cw_o10 rfl rfl rfl hl.1 (Nat.le_of_ble_eq_true rfl) dX6_makeOn_2) (fun H locs hS => ?_)
  refine lv_if_eq (tgt := 16) hx hb dX6_makeOn_5 (by decide) (fun c5 => ?_) (fun c5 => ?_)
  · replace hm := it c5 hm
    refine lv_iconst (v := (-1)) hx hb dX6_makeOn_16 (by decide) ?_
    exact retIw (wf := cw q d) C hS hm dX6_makeOn_17
  · replace hm := ie c5 hm
    refine lv_iload_n hx hb dX6_makeOn_8 rfl (lv_at hl 3 rfl) ?_
    refine lv_aload_n hx hb dX6_makeOn_9 rfl (lv_at hl 1 rfl) ?_
    refine g_6_312_10 C hS dX6_makeOn_10 ?_
    refine lv_icmp_le (tgt := 18) hx hb dX6_makeOn_13 (by decide) (fun c13 => ?_) (fun c13 => ?_)
    · replace hm := it c13 hm
      refine lv_iload_n hx hb dX6_makeOn_18 rfl (lv_at hl 3 rfl) ?_
      refine lv_if_ge (tgt := 28) hx hb dX6_makeOn_19 (by decide) (fun c19 => ?_) (fun c19 => ?_)
      · replace hm := it c19 hm
        refine lv_aload_n hx hb dX6_makeOn_28 rfl (lv_at hl 1 rfl) ?_
        refine lv_iload_n hx hb dX6_makeOn_29 rfl (lv_at hl 2 rfl) ?_
        refine lv_iload_n hx hb dX6_makeOn_30 rfl (lv_at hl 3 rfl) ?_
        refine lv_iload hx hb dX6_makeOn_31 (lv_at hl 4 rfl) ?_
        obtain ⟨o33, e33, hm⟩ := ob hm
        refine after_v C hS (call_V (As := [.int a2, .int a3, .int a4]) C hS (c_X3_make_t l d q σ a2 a3 a4 o33 e33 _) iv_6_237 ⟨rfl, rfl, Nat.le_of_ble_eq_true rfl, Nat.le_of_ble_eq_true rfl⟩ cw_o10 rfl rfl rfl hl.1 (Nat.le_of_ble_eq_true rfl) dX6_makeOn_33) (fun H locs hS => ?_)
        refine lv_iload_n hx hb dX6_makeOn_36 rfl (lv_at hl 3 rfl) ?_
        exact retIw (wf := cw q d) C hS hm dX6_makeOn_37
      · replace hm := ie c19 hm
        refine lv_aload_n hx hb dX6_makeOn_22 rfl (lv_at hl 0 rfl) ?_
        refine lv_iconst (v := 5) hx hb dX6_makeOn_23 (by decide) ?_
        obtain ⟨o24, e24, hm⟩ := ob hm
        refine after_i C hS (call_V (As := [.int 5]) C hS (c_X6_refuse l d q σ 5 o24 e24 _) iv_6_100 ⟨rfl, rfl, Nat.le_of_ble_eq_true rfl, Nat.le_of_ble_eq_true rfl⟩ cw_o0 rfl rfl rfl hl.1 (Nat.le_of_ble_eq_true rfl) dX6_makeOn_24) (fun H locs hS => ?_)
        exact retIw (wf := cw q d) C hS hm dX6_makeOn_27
    · replace hm := ie c13 hm
      refine lv_iconst (v := (-1)) hx hb dX6_makeOn_16 (by decide) ?_
      exact retIw (wf := cw q d) C hS hm dX6_makeOn_17
def M_X6_text (σ : ST) (a1 : Int32) (a2 : Int32) : Option (Int32 × ST) := (M_X6_makeOn_t σ a1 a2 32).bind fun o9 => some (o9.1, o9.2)
abbrev rm_X6_text : Room := { frames := 3, cells := 0, slots := 0, locals := 70 }
set_option maxRecDepth 100000 in
set_option maxHeartbeats 4000000 in
theorem c_X6_text (l : Launch) (d : CD) (q : Nat → Nat) (σ : ST) (a1 : Int32) (a2 : Int32) (out : Int32 × ST) (hm : M_X6_text σ a1 a2 = some out) : MetI l yX6_text cX6_text 3 (some .int) rm_X6_text d (cw q d σ) [.ref (q 0), .int a1, .int a2] out.1 (cw q d out.2) := by
  refine mkI (own := RX6) (by decide +kernel) rfl (Nat.le_of_ble_eq_true rfl) ?_
  intro p e s m below meth c A ls C hS hl
  obtain ⟨hx, hb, hml, hown, hts, -⟩ := id C
  have hl : lv_has ls 3 [(0, .ref (q 0)), (1, .int a1), (2, .int a2)] := hl
  unfold M_X6_text at hm
  refine lv_aload_n hx hb dX6_text_0 rfl (lv_at hl 0 rfl) ?_
  refine lv_aload_n hx hb dX6_text_1 rfl (lv_at hl 0 rfl) ?_
  refine g_6_18_0 C hS dX6_text_2 ?_
  refine lv_iload_n hx hb dX6_text_5 rfl (lv_at hl 1 rfl) ?_
  refine lv_iload_n hx hb dX6_text_6 rfl (lv_at hl 2 rfl) ?_
  refine lv_bipush (v := 32) hx hb dX6_text_7 (by decide) ?_
  obtain ⟨o9, e9, hm⟩ := ob hm
  refine after_i C hS (call_V (As := [.ref (q 10), .int a1, .int a2, .int 32]) C hS (c_X6_makeOn_t l d q σ a1 a2 32 o9 e9 _) iv_6_73 ⟨rfl, rfl, Nat.le_of_ble_eq_true rfl, Nat.le_of_ble_eq_true rfl⟩ cw_o0 rfl rfl rfl hl.1 (Nat.le_of_ble_eq_true rfl) dX6_text_9) (fun H locs hS => ?_)
  exact retIw (wf := cw q d) C hS hm dX6_text_12
def M_X3_isThere_t (σ : ST) (a1 : Int32) : Option Int32 := (M_X3_isNumber_t σ a1).bind fun o2 => if o2 = 0 then okZ 0 else (rd 4 (σ.2.2 12) a1).bind fun v13 => if v13 = (-1) then okZ 0 else okZ 1
abbrev rm_X3_isThere_t : Room := { frames := 1, cells := 0, slots := 0, locals := 21 }
set_option maxRecDepth 100000 in
set_option maxHeartbeats 4000000 in
theorem c_X3_isThere_t (l : Launch) (d : CD) (q : Nat → Nat) (σ : ST) (a1 : Int32) (out : Int32) (hm : M_X3_isThere_t σ a1 = some out) : MetI l yX3_isThere cX3_isThere 2 (some .boolean) rm_X3_isThere_t d (cw q d σ) [.ref (q 10), .int a1] out (cw q d σ) := by
  refine mkI (own := RX3) (by decide +kernel) rfl (Nat.le_of_ble_eq_true rfl) ?_
  intro p e s m below meth c A ls C hS hl
  obtain ⟨hx, hb, hml, hown, hts, -⟩ := id C
  have hl : lv_has ls 2 [(0, .ref (q 10)), (1, .int a1)] := hl
  unfold M_X3_isThere_t at hm
  refine lv_aload_n hx hb dX3_isThere_0 rfl (lv_at hl 0 rfl) ?_
  refine lv_iload_n hx hb dX3_isThere_1 rfl (lv_at hl 1 rfl) ?_
  obtain ⟨o2, e2, hm⟩ := ob hm
  refine after_i C hS (call_V (As := [.int a1]) C hS (c_X3_isNumber_t l d q σ a1 o2 e2 _) iv_3_30 ⟨rfl, rfl, Nat.le_of_ble_eq_true rfl, Nat.le_of_ble_eq_true rfl⟩ cw_o10 rfl rfl rfl hl.1 (Nat.le_of_ble_eq_true rfl) dX3_isThere_2) (fun H locs hS => ?_)
  refine lv_if_eq (tgt := 22) hx hb dX3_isThere_5 (by decide) (fun c5 => ?_) (fun c5 => ?_)
  · replace hm := it c5 hm
    refine lv_iconst (v := 0) hx hb dX3_isThere_22 (by decide) ?_
    exact retZr C hS hm dX3_isThere_23
  · replace hm := ie c5 hm
    refine lv_aload_n hx hb dX3_isThere_8 rfl (lv_at hl 0 rfl) ?_
    refine g_3_20_10 C hS dX3_isThere_9 ?_
    refine lv_iload_n hx hb dX3_isThere_12 rfl (lv_at hl 1 rfl) ?_
    obtain ⟨v13, e13, hm⟩ := ob hm
    refine iald' C hS cw_a12 e13 dX3_isThere_13 ?_
    refine lv_iconst (v := (-1)) hx hb dX3_isThere_14 (by decide) ?_
    refine lv_icmp_eq (tgt := 22) hx hb dX3_isThere_15 (by decide) (fun c15 => ?_) (fun c15 => ?_)
    · replace hm := it c15 hm
      refine lv_iconst (v := 0) hx hb dX3_isThere_22 (by decide) ?_
      exact retZr C hS hm dX3_isThere_23
    · replace hm := ie c15 hm
      refine lv_iconst (v := 1) hx hb dX3_isThere_18 (by decide) ?_
      refine lv_goto (tgt := 23) hx hb dX3_isThere_19 (by decide) ?_
      exact retZr C hS hm dX3_isThere_23
