def M_X7_faultOf_130 (σ : ST) : Option (Int32 × ST) := some (σ.1 18, σ)
def M_X7_faultOf_114 (σ : ST) (x2 : Int32) : Option (Int32 × ST) := if x2 = 0 then M_X7_faultOf_130 σ else if (σ.1 24) ≤ 0 then M_X7_faultOf_130 σ else some ((-9), σ)
def M_X7_faultOf_102 (k67 : ST → Int32 → Option (Int32 × ST)) (σ : ST) (y0 : Int32) : Option (Int32 × ST) := if y0 = 0 then k67 σ y0 else (M_X7_skip σ).bind fun o108 => k67 o108 y0
def M_X7_faultOf_67 : Nat → ST → Int32 → Option (Int32 × ST)
  | 0, _, _ => none
  | n + 1, σ, x2 => if x2 = 0 then M_X7_faultOf_114 σ x2 else if (σ.1 19) ≤ (σ.1 18) then M_X7_faultOf_114 σ x2 else (M_X7_here σ).bind fun o83 => if o83 = 120 then (M_X7_readsFeud σ).bind fun o92 => M_X7_faultOf_102 (M_X7_faultOf_67 n) o92.2 o92.1 else (M_X7_readsHouse σ).bind fun o99 => M_X7_faultOf_102 (M_X7_faultOf_67 n) o99.2 o99.1
def M_X7_faultOf_35 : Nat → ST → Int32 → Option (Int32 × ST)
  | 0, _, _ => none
  | n + 1, σ, x2 => if 7 ≤ x2 then (M_X7_readsWell σ).bind fun o55 => if o55.1 = 0 then M_X7_faultOf_67 10000 o55.2 o55.1 else (M_X7_skip o55.2).bind fun o64 => M_X7_faultOf_67 10000 o64 o55.1 else (wrA 7 σ 11 x2 0).bind fun σ47 => M_X7_faultOf_35 n σ47 (x2 + 1)
def M_X7_faultOf (σ : ST) (a1 : Int32) : Option (Int32 × ST) := (some (setI σ 17 (80 * a1))).bind fun σ5 => (some (setI σ5 18 (0))).bind fun σ10 => (rd 4 (σ10.2.2 7) a1).bind fun v19 => (some (setI σ10 19 (v19))).bind fun σ20 => (some (setI σ20 24 (0))).bind fun σ25 => (some (setI σ25 26 (0))).bind fun σ30 => M_X7_faultOf_35 10000 σ30 0
abbrev rm_X7_faultOf : Room := { frames := 3, cells := 0, slots := 0, locals := 69 }
set_option maxRecDepth 100000 in
set_option maxHeartbeats 4000000 in
theorem c_X7_faultOf (l : Launch) (d : CD) (q : Nat → Nat) (σ : ST) (a1 : Int32) (out : Int32 × ST) (hm : M_X7_faultOf σ a1 = some out) : MetI l yX7_faultOf cX7_faultOf 3 (some .int) rm_X7_faultOf d (mw q d σ) [.ref (q 0), .int a1] out.1 (mw q d out.2) := by
  refine mkI (own := RX7) (by decide +kernel) rfl (Nat.le_of_ble_eq_true rfl) ?_
  intro p e s m below meth c A ls C hS hl
  obtain ⟨hx, hb, hml, hown, hts, -⟩ := id C
  have hl : lv_has ls 3 [(0, .ref (q 0)), (1, .int a1)] := hl
  have J130 : ∀ (σ : ST) (H : Heap) (locs : List Loc) (ls : Array Slot), HS d A s.heap H locs (mw q d σ) → lv_has ls 3 [(0, .ref (q 0))] → M_X7_faultOf_130 σ = some out → WI p l e rm_X7_faultOf s m [.ref (q 0), .int a1].toArray below meth c A d H locs out.1 (mw q d out.2) (F0 m 130 ls []) := by
    intro σ H locs ls hS hl hm
    unfold M_X7_faultOf_130 at hm
    refine lv_aload_n hx hb dX7_faultOf_130 rfl (lv_at hl 0 rfl) ?_
    refine g_7_101_0 C hS dX7_faultOf_131 ?_
    exact retIw (wf := mw q d) C hS hm dX7_faultOf_134
  have J114 : ∀ (σ : ST) (x2 : Int32) (H : Heap) (locs : List Loc) (ls : Array Slot), HS d A s.heap H locs (mw q d σ) → lv_has ls 3 [(0, .ref (q 0)), (2, .int x2)] → M_X7_faultOf_114 σ x2 = some out → WI p l e rm_X7_faultOf s m [.ref (q 0), .int a1].toArray below meth c A d H locs out.1 (mw q d out.2) (F0 m 114 ls []) := by
    intro σ x2 H locs ls hS hl hm
    unfold M_X7_faultOf_114 at hm
    refine lv_iload_n hx hb dX7_faultOf_114 rfl (lv_at hl 1 rfl) ?_
    refine lv_if_eq (tgt := 130) hx hb dX7_faultOf_115 (by decide) (fun c115 => ?_) (fun c115 => ?_)
    · replace hm := it c115 hm
      exact J130 σ _ _ _ hS (lv_sub hl [0] rfl) hm
    · replace hm := ie c115 hm
      refine lv_aload_n hx hb dX7_faultOf_118 rfl (lv_at hl 0 rfl) ?_
      refine g_7_129_0 C hS dX7_faultOf_119 ?_
      refine lv_if_le (tgt := 130) hx hb dX7_faultOf_122 (by decide) (fun c122 => ?_) (fun c122 => ?_)
      · replace hm := it c122 hm
        exact J130 σ _ _ _ hS (lv_sub hl [0] rfl) hm
      · replace hm := ie c122 hm
        refine lv_bipush (v := (-9)) hx hb dX7_faultOf_125 (by decide) ?_
        refine lv_goto (tgt := 134) hx hb dX7_faultOf_127 (by decide) ?_
        exact retIw (wf := mw q d) C hS hm dX7_faultOf_134
  have J102 : ∀ (k67 : ST → Int32 → Option (Int32 × ST)) (hk67 : ∀ (σ : ST) (x2 : Int32) (H : Heap) (locs : List Loc) (ls : Array Slot), HS d A s.heap H locs (mw q d σ) → lv_has ls 3 [(0, .ref (q 0)), (2, .int x2)] → k67 σ x2 = some out → WI p l e rm_X7_faultOf s m [.ref (q 0), .int a1].toArray below meth c A d H locs out.1 (mw q d out.2) (F0 m 67 ls [])) (σ : ST) (y0 : Int32) (H : Heap) (locs : List Loc) (ls : Array Slot), HS d A s.heap H locs (mw q d σ) → lv_has ls 3 [(0, .ref (q 0))] → M_X7_faultOf_102 k67 σ y0 = some out → WI p l e rm_X7_faultOf s m [.ref (q 0), .int a1].toArray below meth c A d H locs out.1 (mw q d out.2) (F0 m 102 ls [.int y0]) := by
    intro k67 hk67 σ y0 H locs ls hS hl hm
    unfold M_X7_faultOf_102 at hm
    refine lv_istore_n (lv' := [(2, .int y0), (0, .ref (q 0))]) hx hb dX7_faultOf_102 rfl hl (by decide) rfl (fun ls hl => ?_)
    refine lv_iload_n hx hb dX7_faultOf_103 rfl (lv_at hl 0 rfl) ?_
    refine lv_if_eq (tgt := 67) hx hb dX7_faultOf_104 (by decide) (fun c104 => ?_) (fun c104 => ?_)
    · replace hm := it c104 hm
      exact hk67 σ y0 _ _ _ hS (lv_sub hl [1, 0] rfl) hm
    · replace hm := ie c104 hm
      refine lv_aload_n hx hb dX7_faultOf_107 rfl (lv_at hl 1 rfl) ?_
      obtain ⟨o108, e108, hm⟩ := ob hm
      refine after_v C hS (call_V (As := []) C hS (c_X7_skip l d q σ o108 e108 _) iv_7_111 ⟨rfl, rfl, Nat.le_of_ble_eq_true rfl, Nat.le_of_ble_eq_true rfl⟩ mw_o0 rfl rfl rfl hl.1 (Nat.le_of_ble_eq_true rfl) dX7_faultOf_108) (fun H locs hS => ?_)
      refine lv_goto (tgt := 67) hx hb dX7_faultOf_111 (by decide) ?_
      exact hk67 o108 y0 _ _ _ hS (lv_sub hl [1, 0] rfl) hm
  have L67 : ∀ (n : Nat) (σ : ST) (x2 : Int32) (H : Heap) (locs : List Loc) (ls : Array Slot), HS d A s.heap H locs (mw q d σ) → lv_has ls 3 [(0, .ref (q 0)), (2, .int x2)] → M_X7_faultOf_67 n σ x2 = some out → WI p l e rm_X7_faultOf s m [.ref (q 0), .int a1].toArray below meth c A d H locs out.1 (mw q d out.2) (F0 m 67 ls []) := by
    intro n
    induction n with
    | zero =>
      intro σ x2 H locs ls hS hl hm
      exact absurd hm (by rw [M_X7_faultOf_67]; exact fun h => nomatch h)
    | succ n ih =>
      intro σ x2 H locs ls hS hl hm
      rw [M_X7_faultOf_67] at hm
      refine lv_iload_n hx hb dX7_faultOf_67 rfl (lv_at hl 1 rfl) ?_
      refine lv_if_eq (tgt := 114) hx hb dX7_faultOf_68 (by decide) (fun c68 => ?_) (fun c68 => ?_)
      · replace hm := it c68 hm
        exact J114 σ x2 _ _ _ hS (lv_sub hl [0, 1] rfl) hm
      · replace hm := ie c68 hm
        refine lv_aload_n hx hb dX7_faultOf_71 rfl (lv_at hl 0 rfl) ?_
        refine g_7_101_0 C hS dX7_faultOf_72 ?_
        refine lv_aload_n hx hb dX7_faultOf_75 rfl (lv_at hl 0 rfl) ?_
        refine g_7_104_0 C hS dX7_faultOf_76 ?_
        refine lv_icmp_ge (tgt := 114) hx hb dX7_faultOf_79 (by decide) (fun c79 => ?_) (fun c79 => ?_)
        · replace hm := it c79 hm
          exact J114 σ x2 _ _ _ hS (lv_sub hl [0, 1] rfl) hm
        · replace hm := ie c79 hm
          refine lv_aload_n hx hb dX7_faultOf_82 rfl (lv_at hl 0 rfl) ?_
          obtain ⟨o83, e83, hm⟩ := ob hm
          refine after_i C hS (call_V (As := []) C hS (c_X7_here l d q σ o83 e83 _) iv_7_107 ⟨rfl, rfl, Nat.le_of_ble_eq_true rfl, Nat.le_of_ble_eq_true rfl⟩ mw_o0 rfl rfl rfl hl.1 (Nat.le_of_ble_eq_true rfl) dX7_faultOf_83) (fun H locs hS => ?_)
          refine lv_bipush (v := 120) hx hb dX7_faultOf_86 (by decide) ?_
          refine lv_icmp_ne (tgt := 98) hx hb dX7_faultOf_88 (by decide) (fun c88 => ?_) (fun c88 => ?_)
          · replace hm := ie c88 hm
            refine lv_aload_n hx hb dX7_faultOf_98 rfl (lv_at hl 0 rfl) ?_
            obtain ⟨o99, e99, hm⟩ := ob hm
            refine after_i C hS (call_V (As := []) C hS (c_X7_readsHouse l d q σ o99 e99 _) iv_7_146 ⟨rfl, rfl, Nat.le_of_ble_eq_true rfl, Nat.le_of_ble_eq_true rfl⟩ mw_o0 rfl rfl rfl hl.1 (Nat.le_of_ble_eq_true rfl) dX7_faultOf_99) (fun H locs hS => ?_)
            exact J102 (M_X7_faultOf_67 n) ih o99.2 o99.1 _ _ _ hS (lv_sub hl [0] rfl) hm
          · replace hm := it c88 hm
            refine lv_aload_n hx hb dX7_faultOf_91 rfl (lv_at hl 0 rfl) ?_
            obtain ⟨o92, e92, hm⟩ := ob hm
            refine after_i C hS (call_V (As := []) C hS (c_X7_readsFeud l d q σ o92 e92 _) iv_7_143 ⟨rfl, rfl, Nat.le_of_ble_eq_true rfl, Nat.le_of_ble_eq_true rfl⟩ mw_o0 rfl rfl rfl hl.1 (Nat.le_of_ble_eq_true rfl) dX7_faultOf_92) (fun H locs hS => ?_)
            refine lv_goto (tgt := 102) hx hb dX7_faultOf_95 (by decide) ?_
            exact J102 (M_X7_faultOf_67 n) ih o92.2 o92.1 _ _ _ hS (lv_sub hl [0] rfl) hm
  have L35 : ∀ (n : Nat) (σ : ST) (x2 : Int32) (H : Heap) (locs : List Loc) (ls : Array Slot), HS d A s.heap H locs (mw q d σ) → lv_has ls 3 [(0, .ref (q 0)), (2, .int x2)] → M_X7_faultOf_35 n σ x2 = some out → WI p l e rm_X7_faultOf s m [.ref (q 0), .int a1].toArray below meth c A d H locs out.1 (mw q d out.2) (F0 m 35 ls []) := by
    intro n
    induction n with
    | zero =>
      intro σ x2 H locs ls hS hl hm
      exact absurd hm (by rw [M_X7_faultOf_35]; exact fun h => nomatch h)
    | succ n ih =>
      intro σ x2 H locs ls hS hl hm
      rw [M_X7_faultOf_35] at hm
      refine lv_iload_n hx hb dX7_faultOf_35 rfl (lv_at hl 1 rfl) ?_
      refine lv_bipush (v := 7) hx hb dX7_faultOf_36 (by decide) ?_
      refine lv_icmp_ge (tgt := 54) hx hb dX7_faultOf_38 (by decide) (fun c38 => ?_) (fun c38 => ?_)
      · replace hm := it c38 hm
        refine lv_aload_n hx hb dX7_faultOf_54 rfl (lv_at hl 0 rfl) ?_
        obtain ⟨o55, e55, hm⟩ := ob hm
        refine after_i C hS (call_V (As := []) C hS (c_X7_readsWell l d q σ o55 e55 _) iv_7_139 ⟨rfl, rfl, Nat.le_of_ble_eq_true rfl, Nat.le_of_ble_eq_true rfl⟩ mw_o0 rfl rfl rfl hl.1 (Nat.le_of_ble_eq_true rfl) dX7_faultOf_55) (fun H locs hS => ?_)
        refine lv_istore_n (lv' := [(2, .int o55.1), (0, .ref (q 0))]) hx hb dX7_faultOf_58 rfl hl (by decide) rfl (fun ls hl => ?_)
        refine lv_iload_n hx hb dX7_faultOf_59 rfl (lv_at hl 0 rfl) ?_
        refine lv_if_eq (tgt := 67) hx hb dX7_faultOf_60 (by decide) (fun c60 => ?_) (fun c60 => ?_)
        · replace hm := it c60 hm
          exact L67 10000 o55.2 o55.1 _ _ _ hS (lv_sub hl [1, 0] rfl) hm
        · replace hm := ie c60 hm
          refine lv_aload_n hx hb dX7_faultOf_63 rfl (lv_at hl 1 rfl) ?_
          obtain ⟨o64, e64, hm⟩ := ob hm
          refine after_v C hS (call_V (As := []) C hS (c_X7_skip l d q o55.2 o64 e64 _) iv_7_111 ⟨rfl, rfl, Nat.le_of_ble_eq_true rfl, Nat.le_of_ble_eq_true rfl⟩ mw_o0 rfl rfl rfl hl.1 (Nat.le_of_ble_eq_true rfl) dX7_faultOf_64) (fun H locs hS => ?_)
          exact L67 10000 o64 o55.1 _ _ _ hS (lv_sub hl [1, 0] rfl) hm
      · replace hm := ie c38 hm
        refine lv_aload_n hx hb dX7_faultOf_41 rfl (lv_at hl 0 rfl) ?_
        refine g_7_44_0 C hS dX7_faultOf_42 ?_
        refine lv_iload_n hx hb dX7_faultOf_45 rfl (lv_at hl 1 rfl) ?_
        refine lv_iconst (v := 0) hx hb dX7_faultOf_46 (by decide) ?_
        obtain ⟨σ47, e47, hm⟩ := ob hm
        refine iast' (wf := mw q d) C hS mw_a11 mw_s11 e47 dX7_faultOf_47 (fun H locs hS => ?_)
        refine lv_iinc (v := x2 + 1) (lv' := [(2, .int (x2 + 1)), (0, .ref (q 0))]) hx hb dX7_faultOf_48 hl (k := 1) rfl rfl (by decide) rfl (fun ls hl => ?_)
        refine lv_goto (tgt := 35) hx hb dX7_faultOf_51 (by decide) ?_
        exact ih σ47 (x2 + 1) _ _ _ hS (lv_sub hl [1, 0] rfl) hm
  unfold M_X7_faultOf at hm
  refine lv_aload_n hx hb dX7_faultOf_0 rfl (lv_at hl 0 rfl) ?_
  refine lv_bipush (v := 80) hx hb dX7_faultOf_1 (by decide) ?_
  refine lv_iload_n hx hb dX7_faultOf_3 rfl (lv_at hl 1 rfl) ?_
  refine lv_imul hx hb dX7_faultOf_4 ?_
  obtain ⟨σ5, e5, hm⟩ := ob hm
  refine p_7_98_0 C hS e5 dX7_faultOf_5 (fun H locs hS => ?_)
  refine lv_aload_n hx hb dX7_faultOf_8 rfl (lv_at hl 0 rfl) ?_
  refine lv_iconst (v := 0) hx hb dX7_faultOf_9 (by decide) ?_
  obtain ⟨σ10, e10, hm⟩ := ob hm
  refine p_7_101_0 C hS e10 dX7_faultOf_10 (fun H locs hS => ?_)
  refine lv_aload_n hx hb dX7_faultOf_13 rfl (lv_at hl 0 rfl) ?_
  refine lv_aload_n hx hb dX7_faultOf_14 rfl (lv_at hl 0 rfl) ?_
  refine g_7_28_0 C hS dX7_faultOf_15 ?_
  refine lv_iload_n hx hb dX7_faultOf_18 rfl (lv_at hl 1 rfl) ?_
  obtain ⟨v19, e19, hm⟩ := ob hm
  refine iald' C hS mw_a7 e19 dX7_faultOf_19 ?_
  obtain ⟨σ20, e20, hm⟩ := ob hm
  refine p_7_104_0 C hS e20 dX7_faultOf_20 (fun H locs hS => ?_)
  refine lv_aload_n hx hb dX7_faultOf_23 rfl (lv_at hl 0 rfl) ?_
  refine lv_iconst (v := 0) hx hb dX7_faultOf_24 (by decide) ?_
  obtain ⟨σ25, e25, hm⟩ := ob hm
  refine p_7_129_0 C hS e25 dX7_faultOf_25 (fun H locs hS => ?_)
  refine lv_aload_n hx hb dX7_faultOf_28 rfl (lv_at hl 0 rfl) ?_
  refine lv_iconst (v := 0) hx hb dX7_faultOf_29 (by decide) ?_
  obtain ⟨σ30, e30, hm⟩ := ob hm
  refine p_7_132_0 C hS e30 dX7_faultOf_30 (fun H locs hS => ?_)
  refine lv_iconst (v := 0) hx hb dX7_faultOf_33 (by decide) ?_
  refine lv_istore_n (lv' := [(2, .int 0), (0, .ref (q 0)), (1, .int a1)]) hx hb dX7_faultOf_34 rfl hl (by decide) rfl (fun ls hl => ?_)
  exact L35 10000 σ30 0 _ _ _ hS (lv_sub hl [1, 0] rfl) hm
def M_X7_fault (σ : ST) (a1 : Int32) : Option (Int32 × ST) := (M_X7_isText a1).bind fun o1 => if o1 = 0 then some ((-1), σ) else (rd 4 (σ.2.2 7) a1).bind fun v14 => if 0 ≤ v14 then (M_X7_faultOf σ a1).bind fun o28 => some (o28.1, o28.2) else (M_X7_find σ 1).bind fun o20 => some (o20.1, o20.2)
abbrev rm_X7_fault : Room := { frames := 4, cells := 0, slots := 0, locals := 91 }
set_option maxRecDepth 100000 in
set_option maxHeartbeats 4000000 in
theorem c_X7_fault (l : Launch) (d : CD) (q : Nat → Nat) (σ : ST) (a1 : Int32) (out : Int32 × ST) (hm : M_X7_fault σ a1 = some out) : MetI l yX7_fault cX7_fault 2 (some .int) rm_X7_fault d (mw q d σ) [.ref (q 0), .int a1] out.1 (mw q d out.2) := by
  refine mkI (own := RX7) (by decide +kernel) rfl (Nat.le_of_ble_eq_true rfl) ?_
  intro p e s m below meth c A ls C hS hl
  obtain ⟨hx, hb, hml, hown, hts, -⟩ := id C
  have hl : lv_has ls 2 [(0, .ref (q 0)), (1, .int a1)] := hl
  unfold M_X7_fault at hm
  refine lv_iload_n hx hb dX7_fault_0 rfl (lv_at hl 1 rfl) ?_
  obtain ⟨o1, e1, hm⟩ := ob hm
  refine after_i C hS (call_S (As := [.int a1]) C hS (c_X7_isText l d (mw q d σ) a1 o1 e1 _) is_7_95 ⟨rfl, rfl, Nat.le_of_ble_eq_true rfl, Nat.le_of_ble_eq_true rfl⟩ rfl hl.1 (Nat.le_of_ble_eq_true rfl) dX7_fault_1) (fun H locs hS => ?_)
  refine lv_if_ne (tgt := 9) hx hb dX7_fault_4 (by decide) (fun c4 => ?_) (fun c4 => ?_)
  · replace hm := ie c4 hm
    refine lv_aload_n hx hb dX7_fault_9 rfl (lv_at hl 0 rfl) ?_
    refine g_7_28_0 C hS dX7_fault_10 ?_
    refine lv_iload_n hx hb dX7_fault_13 rfl (lv_at hl 1 rfl) ?_
    obtain ⟨v14, e14, hm⟩ := ob hm
    refine iald' C hS mw_a7 e14 dX7_fault_14 ?_
    refine lv_if_ge (tgt := 26) hx hb dX7_fault_15 (by decide) (fun c15 => ?_) (fun c15 => ?_)
    · replace hm := it c15 hm
      refine lv_aload_n hx hb dX7_fault_26 rfl (lv_at hl 0 rfl) ?_
      refine lv_iload_n hx hb dX7_fault_27 rfl (lv_at hl 1 rfl) ?_
      obtain ⟨o28, e28, hm⟩ := ob hm
      refine after_i C hS (call_V (As := [.int a1]) C hS (c_X7_faultOf l d q σ a1 o28 e28 _) iv_7_149 ⟨rfl, rfl, Nat.le_of_ble_eq_true rfl, Nat.le_of_ble_eq_true rfl⟩ mw_o0 rfl rfl rfl hl.1 (Nat.le_of_ble_eq_true rfl) dX7_fault_28) (fun H locs hS => ?_)
      exact retIw (wf := mw q d) C hS hm dX7_fault_31
    · replace hm := ie c15 hm
      refine lv_aload_n hx hb dX7_fault_18 rfl (lv_at hl 0 rfl) ?_
      refine lv_iconst (v := 1) hx hb dX7_fault_19 (by decide) ?_
      obtain ⟨o20, e20, hm⟩ := ob hm
      refine after_i C hS (call_V (As := [.int 1]) C hS (c_X7_find l d q σ 1 o20 e20 _) iv_7_76 ⟨rfl, rfl, Nat.le_of_ble_eq_true rfl, Nat.le_of_ble_eq_true rfl⟩ mw_o0 rfl rfl rfl hl.1 (Nat.le_of_ble_eq_true rfl) dX7_fault_20) (fun H locs hS => ?_)
      refine lv_goto (tgt := 31) hx hb dX7_fault_23 (by decide) ?_
      exact retIw (wf := mw q d) C hS hm dX7_fault_31
  · replace hm := it c4 hm
    refine lv_iconst (v := (-1)) hx hb dX7_fault_7 (by decide) ?_
    exact retIw (wf := mw q d) C hS hm dX7_fault_8
def M_X7_well_192 : Nat → ST → Int32 → Option (Int32 × ST)
  | 0, _, _ => none
  | n + 1, σ, x2 => if 4 ≤ x2 then some (σ.1 3, σ) else (wrA 3776 σ 1 ((944 * x2) + 0) (-1)).bind fun σ209 => M_X7_well_192 n σ209 (x2 + 1)
def M_X7_well_162 (k103 : ST → Int32 → Option (Int32 × ST)) (σ : ST) (x2 : Int32) (y1 : Int32) (y2 : Int32) : Option (Int32 × ST) := (wrA 7 σ 3 y1 y2).bind fun σ162 => (rd 7 (σ162.2.2 11) x2).bind fun v173 => (wrA 7 σ162 4 x2 v173).bind fun σ174 => (wrA 3776 σ174 1 (3 + x2) x2).bind fun σ183 => k103 σ183 (x2 + 1)
def M_X7_well_134 (k103 : ST → Int32 → Option (Int32 × ST)) (σ : ST) (x2 : Int32) (y1 : Int32) (y2 : Int32) : Option (Int32 × ST) := (wrA 7 σ 2 y1 y2).bind fun σ134 => if (σ134.1 3) ≤ x2 then M_X7_well_162 k103 σ134 x2 x2 0 else (rd 14 (σ134.2.2 10) ((2 * x2) + 1)).bind fun v157 => M_X7_well_162 k103 σ134 x2 x2 v157
def M_X7_well_103 : Nat → ST → Int32 → Option (Int32 × ST)
  | 0, _, _ => none
  | n + 1, σ, x2 => if 7 ≤ x2 then M_X7_well_192 10000 σ 1 else if (σ.1 3) ≤ x2 then M_X7_well_134 (M_X7_well_103 n) σ x2 x2 0 else (rd 14 (σ.2.2 10) (2 * x2)).bind fun v129 => M_X7_well_134 (M_X7_well_103 n) σ x2 x2 v129
def M_X7_well_71 : Nat → ST → Int32 → Option (Int32 × ST)
  | 0, _, _ => none
  | n + 1, σ, x2 => if 944 ≤ x2 then (wrA 3776 σ 1 2 (σ.1 21)).bind fun σ100 => M_X7_well_103 10000 σ100 0 else (wrA 3776 σ 1 x2 0).bind fun σ84 => M_X7_well_71 n σ84 (x2 + 1)
def M_X7_well (σ : ST) (a1 : Int32) : Option (Int32 × ST) := (M_X7_isText a1).bind fun o1 => if o1 = 0 then some ((-1), σ) else (rd 4 (σ.2.2 7) a1).bind fun v14 => if 0 ≤ v14 then (M_X7_faultOf σ a1).bind fun o26 => if o26.1 = (-9) then (some (setI o26.2 1 (o26.2.1 20))).bind fun σ42 => (some (setI σ42 2 (σ42.1 22))).bind fun σ50 => (some (setI σ50 3 (σ50.1 24))).bind fun σ58 => (some (setI σ58 7 (σ58.1 26))).bind fun σ66 => M_X7_well_71 10000 σ66 0 else some ((-4), o26.2) else (M_X7_find σ 1).bind fun o20 => some (o20.1, o20.2)
abbrev rm_X7_well : Room := { frames := 4, cells := 0, slots := 0, locals := 91 }
set_option maxRecDepth 100000 in
set_option maxHeartbeats 4000000 in
theorem c_X7_well (l : Launch) (d : CD) (q : Nat → Nat) (σ : ST) (a1 : Int32) (out : Int32 × ST) (hm : M_X7_well σ a1 = some out) : MetI l yX7_well cX7_well 3 (some .int) rm_X7_well d (mw q d σ) [.ref (q 0), .int a1] out.1 (mw q d out.2) := by
  refine mkI (own := RX7) (by decide +kernel) rfl (Nat.le_of_ble_eq_true rfl) ?_
  intro p e s m below meth c A ls C hS hl
  obtain ⟨hx, hb, hml, hown, hts, -⟩ := id C
  have hl : lv_has ls 3 [(0, .ref (q 0)), (1, .int a1)] := hl
  have L192 : ∀ (n : Nat) (σ : ST) (x2 : Int32) (H : Heap) (locs : List Loc) (ls : Array Slot), HS d A s.heap H locs (mw q d σ) → lv_has ls 3 [(0, .ref (q 0)), (2, .int x2)] → M_X7_well_192 n σ x2 = some out → WI p l e rm_X7_well s m [.ref (q 0), .int a1].toArray below meth c A d H locs out.1 (mw q d out.2) (F0 m 192 ls []) := by
    intro n
    induction n with
    | zero =>
      intro σ x2 H locs ls hS hl hm
      exact absurd hm (by rw [M_X7_well_192]; exact fun h => nomatch h)
    | succ n ih =>
      intro σ x2 H locs ls hS hl hm
      rw [M_X7_well_192] at hm
      refine lv_iload_n hx hb dX7_well_192 rfl (lv_at hl 1 rfl) ?_
      refine lv_iconst (v := 4) hx hb dX7_well_193 (by decide) ?_
      refine lv_icmp_ge (tgt := 216) hx hb dX7_well_194 (by decide) (fun c194 => ?_) (fun c194 => ?_)
      · replace hm := it c194 hm
        refine lv_aload_n hx hb dX7_well_216 rfl (lv_at hl 0 rfl) ?_
        refine g_7_158_0 C hS dX7_well_217 ?_
        exact retIw (wf := mw q d) C hS hm dX7_well_220
      · replace hm := ie c194 hm
        refine lv_aload_n hx hb dX7_well_197 rfl (lv_at hl 0 rfl) ?_
        refine g_7_7_0 C hS dX7_well_198 ?_
        refine lv_sipush (v := 944) hx hb dX7_well_201 (by decide) ?_
        refine lv_iload_n hx hb dX7_well_204 rfl (lv_at hl 1 rfl) ?_
        refine lv_imul hx hb dX7_well_205 ?_
        refine lv_iconst (v := 0) hx hb dX7_well_206 (by decide) ?_
        refine lv_iadd hx hb dX7_well_207 ?_
        refine lv_iconst (v := (-1)) hx hb dX7_well_208 (by decide) ?_
        obtain ⟨σ209, e209, hm⟩ := ob hm
        refine iast' (wf := mw q d) C hS mw_a1 mw_s1 e209 dX7_well_209 (fun H locs hS => ?_)
        refine lv_iinc (v := x2 + 1) (lv' := [(2, .int (x2 + 1)), (0, .ref (q 0))]) hx hb dX7_well_210 hl (k := 1) rfl rfl (by decide) rfl (fun ls hl => ?_)
        refine lv_goto (tgt := 192) hx hb dX7_well_213 (by decide) ?_
        exact ih σ209 (x2 + 1) _ _ _ hS (lv_sub hl [1, 0] rfl) hm
  have J162 : ∀ (k103 : ST → Int32 → Option (Int32 × ST)) (hk103 : ∀ (σ : ST) (x2 : Int32) (H : Heap) (locs : List Loc) (ls : Array Slot), HS d A s.heap H locs (mw q d σ) → lv_has ls 3 [(0, .ref (q 0)), (2, .int x2)] → k103 σ x2 = some out → WI p l e rm_X7_well s m [.ref (q 0), .int a1].toArray below meth c A d H locs out.1 (mw q d out.2) (F0 m 103 ls [])) (σ : ST) (x2 : Int32) (y1 : Int32) (y2 : Int32) (H : Heap) (locs : List Loc) (ls : Array Slot), HS d A s.heap H locs (mw q d σ) → lv_has ls 3 [(0, .ref (q 0)), (2, .int x2)] → M_X7_well_162 k103 σ x2 y1 y2 = some out → WI p l e rm_X7_well s m [.ref (q 0), .int a1].toArray below meth c A d H locs out.1 (mw q d out.2) (F0 m 162 ls [.int y2, .int y1, .ref (q 3)]) := by
    intro k103 hk103 σ x2 y1 y2 H locs ls hS hl hm
    unfold M_X7_well_162 at hm
    obtain ⟨σ162, e162, hm⟩ := ob hm
    refine iast' (wf := mw q d) C hS mw_a3 mw_s3 e162 dX7_well_162 (fun H locs hS => ?_)
    refine lv_aload_n hx hb dX7_well_163 rfl (lv_at hl 0 rfl) ?_
    refine g_7_19_0 C hS dX7_well_164 ?_
    refine lv_iload_n hx hb dX7_well_167 rfl (lv_at hl 1 rfl) ?_
    refine lv_aload_n hx hb dX7_well_168 rfl (lv_at hl 0 rfl) ?_
    refine g_7_44_0 C hS dX7_well_169 ?_
    refine lv_iload_n hx hb dX7_well_172 rfl (lv_at hl 1 rfl) ?_
    obtain ⟨v173, e173, hm⟩ := ob hm
    refine iald' C hS mw_a11 e173 dX7_well_173 ?_
    obtain ⟨σ174, e174, hm⟩ := ob hm
    refine iast' (wf := mw q d) C hS mw_a4 mw_s4 e174 dX7_well_174 (fun H locs hS => ?_)
    refine lv_aload_n hx hb dX7_well_175 rfl (lv_at hl 0 rfl) ?_
    refine g_7_7_0 C hS dX7_well_176 ?_
    refine lv_iconst (v := 3) hx hb dX7_well_179 (by decide) ?_
    refine lv_iload_n hx hb dX7_well_180 rfl (lv_at hl 1 rfl) ?_
    refine lv_iadd hx hb dX7_well_181 ?_
    refine lv_iload_n hx hb dX7_well_182 rfl (lv_at hl 1 rfl) ?_
    obtain ⟨σ183, e183, hm⟩ := ob hm
    refine iast' (wf := mw q d) C hS mw_a1 mw_s1 e183 dX7_well_183 (fun H locs hS => ?_)
    refine lv_iinc (v := x2 + 1) (lv' := [(2, .int (x2 + 1)), (0, .ref (q 0))]) hx hb dX7_well_184 hl (k := 1) rfl rfl (by decide) rfl (fun ls hl => ?_)
    refine lv_goto (tgt := 103) hx hb dX7_well_187 (by decide) ?_
    exact hk103 σ183 (x2 + 1) _ _ _ hS (lv_sub hl [1, 0] rfl) hm
  have J134 : ∀ (k103 : ST → Int32 → Option (Int32 × ST)) (hk103 : ∀ (σ : ST) (x2 : Int32) (H : Heap) (locs : List Loc) (ls : Array Slot), HS d A s.heap H locs (mw q d σ) → lv_has ls 3 [(0, .ref (q 0)), (2, .int x2)] → k103 σ x2 = some out → WI p l e rm_X7_well s m [.ref (q 0), .int a1].toArray below meth c A d H locs out.1 (mw q d out.2) (F0 m 103 ls [])) (σ : ST) (x2 : Int32) (y1 : Int32) (y2 : Int32) (H : Heap) (locs : List Loc) (ls : Array Slot), HS d A s.heap H locs (mw q d σ) → lv_has ls 3 [(0, .ref (q 0)), (2, .int x2)] → M_X7_well_134 k103 σ x2 y1 y2 = some out → WI p l e rm_X7_well s m [.ref (q 0), .int a1].toArray below meth c A d H locs out.1 (mw q d out.2) (F0 m 134 ls [.int y2, .int y1, .ref (q 2)]) := by
    intro k103 hk103 σ x2 y1 y2 H locs ls hS hl hm
    unfold M_X7_well_134 at hm
    obtain ⟨σ134, e134, hm⟩ := ob hm
    refine iast' (wf := mw q d) C hS mw_a2 mw_s2 e134 dX7_well_134 (fun H locs hS => ?_)
    refine lv_aload_n hx hb dX7_well_135 rfl (lv_at hl 0 rfl) ?_
    refine g_7_16_0 C hS dX7_well_136 ?_
    refine lv_iload_n hx hb dX7_well_139 rfl (lv_at hl 1 rfl) ?_
    refine lv_iload_n hx hb dX7_well_140 rfl (lv_at hl 1 rfl) ?_
    refine lv_aload_n hx hb dX7_well_141 rfl (lv_at hl 0 rfl) ?_
    refine g_7_158_0 C hS dX7_well_142 ?_
    refine lv_icmp_ge (tgt := 161) hx hb dX7_well_145 (by decide) (fun c145 => ?_) (fun c145 => ?_)
    · replace hm := it c145 hm
      refine lv_iconst (v := 0) hx hb dX7_well_161 (by decide) ?_
      exact J162 k103 hk103 σ134 x2 x2 0 _ _ _ hS (lv_sub hl [0, 1] rfl) hm
    · replace hm := ie c145 hm
      refine lv_aload_n hx hb dX7_well_148 rfl (lv_at hl 0 rfl) ?_
      refine g_7_41_0 C hS dX7_well_149 ?_
      refine lv_iconst (v := 2) hx hb dX7_well_152 (by decide) ?_
      refine lv_iload_n hx hb dX7_well_153 rfl (lv_at hl 1 rfl) ?_
      refine lv_imul hx hb dX7_well_154 ?_
      refine lv_iconst (v := 1) hx hb dX7_well_155 (by decide) ?_
      refine lv_iadd hx hb dX7_well_156 ?_
      obtain ⟨v157, e157, hm⟩ := ob hm
      refine iald' C hS mw_a10 e157 dX7_well_157 ?_
      refine lv_goto (tgt := 162) hx hb dX7_well_158 (by decide) ?_
      exact J162 k103 hk103 σ134 x2 x2 v157 _ _ _ hS (lv_sub hl [0, 1] rfl) hm
  have L103 : ∀ (n : Nat) (σ : ST) (x2 : Int32) (H : Heap) (locs : List Loc) (ls : Array Slot), HS d A s.heap H locs (mw q d σ) → lv_has ls 3 [(0, .ref (q 0)), (2, .int x2)] → M_X7_well_103 n σ x2 = some out → WI p l e rm_X7_well s m [.ref (q 0), .int a1].toArray below meth c A d H locs out.1 (mw q d out.2) (F0 m 103 ls []) := by
    intro n
    induction n with
    | zero =>
      intro σ x2 H locs ls hS hl hm
      exact absurd hm (by rw [M_X7_well_103]; exact fun h => nomatch h)
    | succ n ih =>
      intro σ x2 H locs ls hS hl hm
      rw [M_X7_well_103] at hm
      refine lv_iload_n hx hb dX7_well_103 rfl (lv_at hl 1 rfl) ?_
      refine lv_bipush (v := 7) hx hb dX7_well_104 (by decide) ?_
      refine lv_icmp_ge (tgt := 190) hx hb dX7_well_106 (by decide) (fun c106 => ?_) (fun c106 => ?_)
      · replace hm := it c106 hm
        refine lv_iconst (v := 1) hx hb dX7_well_190 (by decide) ?_
        refine lv_istore_n (lv' := [(2, .int 1), (0, .ref (q 0))]) hx hb dX7_well_191 rfl hl (by decide) rfl (fun ls hl => ?_)
        exact L192 10000 σ 1 _ _ _ hS (lv_sub hl [1, 0] rfl) hm
      · replace hm := ie c106 hm
        refine lv_aload_n hx hb dX7_well_109 rfl (lv_at hl 0 rfl) ?_
        refine g_7_13_0 C hS dX7_well_110 ?_
        refine lv_iload_n hx hb dX7_well_113 rfl (lv_at hl 1 rfl) ?_
        refine lv_iload_n hx hb dX7_well_114 rfl (lv_at hl 1 rfl) ?_
        refine lv_aload_n hx hb dX7_well_115 rfl (lv_at hl 0 rfl) ?_
        refine g_7_158_0 C hS dX7_well_116 ?_
        refine lv_icmp_ge (tgt := 133) hx hb dX7_well_119 (by decide) (fun c119 => ?_) (fun c119 => ?_)
        · replace hm := it c119 hm
          refine lv_iconst (v := 0) hx hb dX7_well_133 (by decide) ?_
          exact J134 (M_X7_well_103 n) ih σ x2 x2 0 _ _ _ hS (lv_sub hl [0, 1] rfl) hm
        · replace hm := ie c119 hm
          refine lv_aload_n hx hb dX7_well_122 rfl (lv_at hl 0 rfl) ?_
          refine g_7_41_0 C hS dX7_well_123 ?_
          refine lv_iconst (v := 2) hx hb dX7_well_126 (by decide) ?_
          refine lv_iload_n hx hb dX7_well_127 rfl (lv_at hl 1 rfl) ?_
          refine lv_imul hx hb dX7_well_128 ?_
          obtain ⟨v129, e129, hm⟩ := ob hm
          refine iald' C hS mw_a10 e129 dX7_well_129 ?_
          refine lv_goto (tgt := 134) hx hb dX7_well_130 (by decide) ?_
          exact J134 (M_X7_well_103 n) ih σ x2 x2 v129 _ _ _ hS (lv_sub hl [0, 1] rfl) hm
  have L71 : ∀ (n : Nat) (σ : ST) (x2 : Int32) (H : Heap) (locs : List Loc) (ls : Array Slot), HS d A s.heap H locs (mw q d σ) → lv_has ls 3 [(0, .ref (q 0)), (2, .int x2)] → M_X7_well_71 n σ x2 = some out → WI p l e rm_X7_well s m [.ref (q 0), .int a1].toArray below meth c A d H locs out.1 (mw q d out.2) (F0 m 71 ls []) := by
    intro n
    induction n with
    | zero =>
      intro σ x2 H locs ls hS hl hm
      exact absurd hm (by rw [M_X7_well_71]; exact fun h => nomatch h)
    | succ n ih =>
      intro σ x2 H locs ls hS hl hm
      rw [M_X7_well_71] at hm
      refine lv_iload_n hx hb dX7_well_71 rfl (lv_at hl 1 rfl) ?_
      refine lv_sipush (v := 944) hx hb dX7_well_72 (by decide) ?_
      refine lv_icmp_ge (tgt := 91) hx hb dX7_well_75 (by decide) (fun c75 => ?_) (fun c75 => ?_)
      · replace hm := it c75 hm
        refine lv_aload_n hx hb dX7_well_91 rfl (lv_at hl 0 rfl) ?_
        refine g_7_7_0 C hS dX7_well_92 ?_
        refine lv_iconst (v := 2) hx hb dX7_well_95 (by decide) ?_
        refine lv_aload_n hx hb dX7_well_96 rfl (lv_at hl 0 rfl) ?_
        refine g_7_120_0 C hS dX7_well_97 ?_
        obtain ⟨σ100, e100, hm⟩ := ob hm
        refine iast' (wf := mw q d) C hS mw_a1 mw_s1 e100 dX7_well_100 (fun H locs hS => ?_)
        refine lv_iconst (v := 0) hx hb dX7_well_101 (by decide) ?_
        refine lv_istore_n (lv' := [(2, .int 0), (0, .ref (q 0))]) hx hb dX7_well_102 rfl hl (by decide) rfl (fun ls hl => ?_)
        exact L103 10000 σ100 0 _ _ _ hS (lv_sub hl [1, 0] rfl) hm
      · replace hm := ie c75 hm
        refine lv_aload_n hx hb dX7_well_78 rfl (lv_at hl 0 rfl) ?_
        refine g_7_7_0 C hS dX7_well_79 ?_
        refine lv_iload_n hx hb dX7_well_82 rfl (lv_at hl 1 rfl) ?_
        refine lv_iconst (v := 0) hx hb dX7_well_83 (by decide) ?_
        obtain ⟨σ84, e84, hm⟩ := ob hm
        refine iast' (wf := mw q d) C hS mw_a1 mw_s1 e84 dX7_well_84 (fun H locs hS => ?_)
        refine lv_iinc (v := x2 + 1) (lv' := [(2, .int (x2 + 1)), (0, .ref (q 0))]) hx hb dX7_well_85 hl (k := 1) rfl rfl (by decide) rfl (fun ls hl => ?_)
        refine lv_goto (tgt := 71) hx hb dX7_well_88 (by decide) ?_
        exact ih σ84 (x2 + 1) _ _ _ hS (lv_sub hl [1, 0] rfl) hm
  unfold M_X7_well at hm
  refine lv_iload_n hx hb dX7_well_0 rfl (lv_at hl 1 rfl) ?_
  obtain ⟨o1, e1, hm⟩ := ob hm
  refine after_i C hS (call_S (As := [.int a1]) C hS (c_X7_isText l d (mw q d σ) a1 o1 e1 _) is_7_95 ⟨rfl, rfl, Nat.le_of_ble_eq_true rfl, Nat.le_of_ble_eq_true rfl⟩ rfl hl.1 (Nat.le_of_ble_eq_true rfl) dX7_well_1) (fun H locs hS => ?_)
  refine lv_if_ne (tgt := 9) hx hb dX7_well_4 (by decide) (fun c4 => ?_) (fun c4 => ?_)
  · replace hm := ie c4 hm
    refine lv_aload_n hx hb dX7_well_9 rfl (lv_at hl 0 rfl) ?_
    refine g_7_28_0 C hS dX7_well_10 ?_
    refine lv_iload_n hx hb dX7_well_13 rfl (lv_at hl 1 rfl) ?_
    obtain ⟨v14, e14, hm⟩ := ob hm
    refine iald' C hS mw_a7 e14 dX7_well_14 ?_
    refine lv_if_ge (tgt := 24) hx hb dX7_well_15 (by decide) (fun c15 => ?_) (fun c15 => ?_)
    · replace hm := it c15 hm
      refine lv_aload_n hx hb dX7_well_24 rfl (lv_at hl 0 rfl) ?_
      refine lv_iload_n hx hb dX7_well_25 rfl (lv_at hl 1 rfl) ?_
      obtain ⟨o26, e26, hm⟩ := ob hm
      refine after_i C hS (call_V (As := [.int a1]) C hS (c_X7_faultOf l d q σ a1 o26 e26 _) iv_7_149 ⟨rfl, rfl, Nat.le_of_ble_eq_true rfl, Nat.le_of_ble_eq_true rfl⟩ mw_o0 rfl rfl rfl hl.1 (Nat.le_of_ble_eq_true rfl) dX7_well_26) (fun H locs hS => ?_)
      refine lv_bipush (v := (-9)) hx hb dX7_well_29 (by decide) ?_
      refine lv_icmp_eq (tgt := 37) hx hb dX7_well_31 (by decide) (fun c31 => ?_) (fun c31 => ?_)
      · replace hm := it c31 hm
        refine lv_aload_n hx hb dX7_well_37 rfl (lv_at hl 0 rfl) ?_
        refine lv_aload_n hx hb dX7_well_38 rfl (lv_at hl 0 rfl) ?_
        refine g_7_117_0 C hS dX7_well_39 ?_
        obtain ⟨σ42, e42, hm⟩ := ob hm
        refine p_7_152_0 C hS e42 dX7_well_42 (fun H locs hS => ?_)
        refine lv_aload_n hx hb dX7_well_45 rfl (lv_at hl 0 rfl) ?_
        refine lv_aload_n hx hb dX7_well_46 rfl (lv_at hl 0 rfl) ?_
        refine g_7_123_0 C hS dX7_well_47 ?_
        obtain ⟨σ50, e50, hm⟩ := ob hm
        refine p_7_155_0 C hS e50 dX7_well_50 (fun H locs hS => ?_)
        refine lv_aload_n hx hb dX7_well_53 rfl (lv_at hl 0 rfl) ?_
        refine lv_aload_n hx hb dX7_well_54 rfl (lv_at hl 0 rfl) ?_
        refine g_7_129_0 C hS dX7_well_55 ?_
        obtain ⟨σ58, e58, hm⟩ := ob hm
        refine p_7_158_0 C hS e58 dX7_well_58 (fun H locs hS => ?_)
        refine lv_aload_n hx hb dX7_well_61 rfl (lv_at hl 0 rfl) ?_
        refine lv_aload_n hx hb dX7_well_62 rfl (lv_at hl 0 rfl) ?_
        refine g_7_132_0 C hS dX7_well_63 ?_
        obtain ⟨σ66, e66, hm⟩ := ob hm
        refine p_7_161_0 C hS e66 dX7_well_66 (fun H locs hS => ?_)
        refine lv_iconst (v := 0) hx hb dX7_well_69 (by decide) ?_
        refine lv_istore_n (lv' := [(2, .int 0), (0, .ref (q 0)), (1, .int a1)]) hx hb dX7_well_70 rfl hl (by decide) rfl (fun ls hl => ?_)
        exact L71 10000 σ66 0 _ _ _ hS (lv_sub hl [1, 0] rfl) hm
      · replace hm := ie c31 hm
        refine lv_bipush (v := (-4)) hx hb dX7_well_34 (by decide) ?_
        exact retIw (wf := mw q d) C hS hm dX7_well_36
    · replace hm := ie c15 hm
      refine lv_aload_n hx hb dX7_well_18 rfl (lv_at hl 0 rfl) ?_
      refine lv_iconst (v := 1) hx hb dX7_well_19 (by decide) ?_
      obtain ⟨o20, e20, hm⟩ := ob hm
      refine after_i C hS (call_V (As := [.int 1]) C hS (c_X7_find l d q σ 1 o20 e20 _) iv_7_76 ⟨rfl, rfl, Nat.le_of_ble_eq_true rfl, Nat.le_of_ble_eq_true rfl⟩ mw_o0 rfl rfl rfl hl.1 (Nat.le_of_ble_eq_true rfl) dX7_well_20) (fun H locs hS => ?_)
      exact retIw (wf := mw q d) C hS hm dX7_well_23
  · replace hm := it c4 hm
    refine lv_iconst (v := (-1)) hx hb dX7_well_7 (by decide) ?_
    exact retIw (wf := mw q d) C hS hm dX7_well_8
def M_X7_isHouse (σ : ST) (a1 : Int32) : Option Int32 := (M_X7_in a1.toInt64 0 (((σ.1 3) - 1).toInt64)).bind fun o10 => okZ o10
abbrev rm_X7_isHouse : Room := { frames := 1, cells := 0, slots := 0, locals := 25 }
set_option maxRecDepth 100000 in
set_option maxHeartbeats 4000000 in
theorem c_X7_isHouse (l : Launch) (d : CD) (q : Nat → Nat) (σ : ST) (a1 : Int32) (out : Int32) (hm : M_X7_isHouse σ a1 = some out) : MetI l yX7_isHouse cX7_isHouse 2 (some .boolean) rm_X7_isHouse d (mw q d σ) [.ref (q 0), .int a1] out (mw q d σ) := by
  refine mkI (own := RX7) (by decide +kernel) rfl (Nat.le_of_ble_eq_true rfl) ?_
  intro p e s m below meth c A ls C hS hl
  obtain ⟨hx, hb, hml, hown, hts, -⟩ := id C
  have hl : lv_has ls 2 [(0, .ref (q 0)), (1, .int a1)] := hl
  unfold M_X7_isHouse at hm
  refine lv_iload_n hx hb dX7_isHouse_0 rfl (lv_at hl 1 rfl) ?_
  refine lv_i2l (v := a1.toInt64) hx hb dX7_isHouse_1 rfl ?_
  refine lv_lconst (v := 0) hx hb dX7_isHouse_2 (by decide) ?_
  refine lv_aload_n hx hb dX7_isHouse_3 rfl (lv_at hl 0 rfl) ?_
  refine g_7_158_0 C hS dX7_isHouse_4 ?_
  refine lv_iconst (v := 1) hx hb dX7_isHouse_7 (by decide) ?_
  refine lv_isub hx hb dX7_isHouse_8 ?_
  refine lv_i2l (v := ((σ.1 3) - 1).toInt64) hx hb dX7_isHouse_9 rfl ?_
  obtain ⟨o10, e10, hm⟩ := ob hm
  refine after_i C hS (call_S (As := [.long a1.toInt64, .long 0, .long (((σ.1 3) - 1).toInt64)]) C hS (c_X7_in l d (mw q d σ) a1.toInt64 0 (((σ.1 3) - 1).toInt64) o10 e10 _) is_7_66 ⟨rfl, rfl, Nat.le_of_ble_eq_true rfl, Nat.le_of_ble_eq_true rfl⟩ rfl hl.1 (Nat.le_of_ble_eq_true rfl) dX7_isHouse_10) (fun H locs hS => ?_)
  exact retZr C hS hm dX7_isHouse_13
def M_X7_keyWeight_40 (σ : ST) : Option Int32 := (rd 3776 (σ.2.2 1) 1).bind fun v45 => if (v45 - v45 / 2 * 2) = 0 then some 1 else some 0
def M_X7_keyWeight (σ : ST) (a1 : Int32) : Option Int32 := (rd 7 (σ.2.2 2) a1).bind fun v5 => if v5 = 1 then M_X7_keyWeight_40 σ else if v5 = 2 then some 1 else if v5 = 3 then some 2 else if v5 = 4 then M_X7_keyWeight_40 σ else if v5 = 5 then some 3 else some 1
abbrev rm_X7_keyWeight : Room := { frames := 0, cells := 0, slots := 0, locals := 0 }
set_option maxRecDepth 100000 in
set_option maxHeartbeats 4000000 in
theorem c_X7_keyWeight (l : Launch) (d : CD) (q : Nat → Nat) (σ : ST) (a1 : Int32) (out : Int32) (hm : M_X7_keyWeight σ a1 = some out) : MetI l yX7_keyWeight cX7_keyWeight 2 (some .int) rm_X7_keyWeight d (mw q d σ) [.ref (q 0), .int a1] out (mw q d σ) := by
  refine mkI (own := RX7) (by decide +kernel) rfl (Nat.le_of_ble_eq_true rfl) ?_
  intro p e s m below meth c A ls C hS hl
  obtain ⟨hx, hb, hml, hown, hts, -⟩ := id C
  have hl : lv_has ls 2 [(0, .ref (q 0)), (1, .int a1)] := hl
  have J40 : ∀ (H : Heap) (locs : List Loc) (ls : Array Slot), HS d A s.heap H locs (mw q d σ) → lv_has ls 2 [(0, .ref (q 0))] → M_X7_keyWeight_40 σ = some out → WI p l e rm_X7_keyWeight s m [.ref (q 0), .int a1].toArray below meth c A d H locs out (mw q d σ) (F0 m 40 ls []) := by
    intro  H locs ls hS hl hm
    unfold M_X7_keyWeight_40 at hm
    refine lv_aload_n hx hb dX7_keyWeight_40 rfl (lv_at hl 0 rfl) ?_
    refine g_7_7_0 C hS dX7_keyWeight_41 ?_
    refine lv_iconst (v := 1) hx hb dX7_keyWeight_44 (by decide) ?_
    obtain ⟨v45, e45, hm⟩ := ob hm
    refine iald' C hS mw_a1 e45 dX7_keyWeight_45 ?_
    refine lv_iconst (v := 2) hx hb dX7_keyWeight_46 (by decide) ?_
    refine lv_irem hx hb dX7_keyWeight_47 (by decide) ?_
    refine lv_if_ne (tgt := 55) hx hb dX7_keyWeight_48 (by decide) (fun c48 => ?_) (fun c48 => ?_)
    · replace hm := ie c48 hm
      refine lv_iconst (v := 0) hx hb dX7_keyWeight_55 (by decide) ?_
      exact retIr C hS hm dX7_keyWeight_56
    · replace hm := it c48 hm
      refine lv_iconst (v := 1) hx hb dX7_keyWeight_51 (by decide) ?_
      refine lv_goto (tgt := 56) hx hb dX7_keyWeight_52 (by decide) ?_
      exact retIr C hS hm dX7_keyWeight_56
  unfold M_X7_keyWeight at hm
  refine lv_aload_n hx hb dX7_keyWeight_0 rfl (lv_at hl 0 rfl) ?_
  refine g_7_13_0 C hS dX7_keyWeight_1 ?_
  refine lv_iload_n hx hb dX7_keyWeight_4 rfl (lv_at hl 1 rfl) ?_
  obtain ⟨v5, e5, hm⟩ := ob hm
  refine iald' C hS mw_a2 e5 dX7_keyWeight_5 ?_
  by_cases c6_0 : v5 = 1
  · replace hm := it c6_0 hm
    refine lv_tableIn (off := 34) (tgt := 40) hx hb dX7_keyWeight_6 (by rw [c6_0]; decide) (by rw [c6_0]; decide) (by rw [c6_0]; rfl) (by decide) ?_
    exact J40 _ _ _ hS (lv_sub hl [0] rfl) hm
  · replace hm := ie c6_0 hm
    by_cases c6_1 : v5 = 2
    · replace hm := it c6_1 hm
      refine lv_tableIn (off := 55) (tgt := 61) hx hb dX7_keyWeight_6 (by rw [c6_1]; decide) (by rw [c6_1]; decide) (by rw [c6_1]; rfl) (by decide) ?_
      refine lv_iconst (v := 1) hx hb dX7_keyWeight_61 (by decide) ?_
      exact retIr C hS hm dX7_keyWeight_62
    · replace hm := ie c6_1 hm
      by_cases c6_2 : v5 = 3
      · replace hm := it c6_2 hm
        refine lv_tableIn (off := 51) (tgt := 57) hx hb dX7_keyWeight_6 (by rw [c6_2]; decide) (by rw [c6_2]; decide) (by rw [c6_2]; rfl) (by decide) ?_
        refine lv_iconst (v := 2) hx hb dX7_keyWeight_57 (by decide) ?_
        exact retIr C hS hm dX7_keyWeight_58
      · replace hm := ie c6_2 hm
        by_cases c6_3 : v5 = 4
        · replace hm := it c6_3 hm
          refine lv_tableIn (off := 34) (tgt := 40) hx hb dX7_keyWeight_6 (by rw [c6_3]; decide) (by rw [c6_3]; decide) (by rw [c6_3]; rfl) (by decide) ?_
          exact J40 _ _ _ hS (lv_sub hl [0] rfl) hm
        · replace hm := ie c6_3 hm
          by_cases c6_4 : v5 = 5
          · replace hm := it c6_4 hm
            refine lv_tableIn (off := 53) (tgt := 59) hx hb dX7_keyWeight_6 (by rw [c6_4]; decide) (by rw [c6_4]; decide) (by rw [c6_4]; rfl) (by decide) ?_
            refine lv_iconst (v := 3) hx hb dX7_keyWeight_59 (by decide) ?_
            exact retIr C hS hm dX7_keyWeight_60
          · replace hm := ie c6_4 hm
            refine lv_tableOut (tgt := 61) hx hb dX7_keyWeight_6 (by have h0 : v5.toInt ≠ 1 := ts_ne c6_0; have h1 : v5.toInt ≠ 2 := ts_ne c6_1; have h2 : v5.toInt ≠ 3 := ts_ne c6_2; have h3 : v5.toInt ≠ 4 := ts_ne c6_3; have h4 : v5.toInt ≠ 5 := ts_ne c6_4; omega) (by decide) ?_
            refine lv_iconst (v := 1) hx hb dX7_keyWeight_61 (by decide) ?_
            exact retIr C hS hm dX7_keyWeight_62
