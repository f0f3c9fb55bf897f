def M_X6_best (σ : ST) (a1 : Int32) (a2 : Int32) : Option (Int32 × ST) := (M_X5_isSet σ a1).bind fun o5 => if o5 = 0 then some ((-1), σ) else (M_X3_isNumber_r σ a2).bind fun o16 => if o16 = 0 then some ((-1), σ) else (M_X5_isOpenTo σ a1).bind fun o29 => if o29 = 0 then some ((-4), σ) else (M_J6_bitCount_0f7a4 a1).bind fun o44 => (M_X3_make_r σ a2 o44 0).bind fun o48 => (M_X5_layBestOrder o48 a1 a2).bind fun o61 => (M_X5_mostServed o61 a1 (o61.1 35)).bind fun o76 => some (o76, o61)
abbrev rm_X6_best : Room := { frames := 5, cells := 0, slots := 0, locals := 122 }
set_option maxRecDepth 100000 in
set_option maxHeartbeats 4000000 in
theorem c_X6_best (l : Launch) (d : CD) (q : Nat → Nat) (σ : ST) (a1 : Int32) (a2 : Int32) (out : Int32 × ST) (hm : M_X6_best σ a1 a2 = some out) : MetI l yX6_best cX6_best 3 (some .int) rm_X6_best d (cw q d σ) [.ref (q 0), .int a1, .int a2] out.1 (cw q d out.2) := by
  refine mkI (own := RX6) (by decide +kernel) rfl (Nat.le_of_ble_eq_true rfl) ?_
  intro p e s m below meth c A ls C hS hl
  obtain ⟨hx, hb, hml, hown, hts, -⟩ := id C
  have hl : lv_has ls 3 [(0, .ref (q 0)), (1, .int a1), (2, .int a2)] := hl
  unfold M_X6_best at hm
  refine lv_aload_n hx hb dX6_best_0 rfl (lv_at hl 0 rfl) ?_
  refine g_6_33_0 C hS dX6_best_1 ?_
  refine lv_iload_n hx hb dX6_best_4 rfl (lv_at hl 1 rfl) ?_
  obtain ⟨o5, e5, hm⟩ := ob hm
  refine after_i C hS (call_V (As := [.int a1]) C hS (c_X5_isSet l d q σ a1 o5 e5 _) iv_6_197 ⟨rfl, rfl, Nat.le_of_ble_eq_true rfl, Nat.le_of_ble_eq_true rfl⟩ cw_o22 rfl rfl rfl hl.1 (Nat.le_of_ble_eq_true rfl) dX6_best_5) (fun H locs hS => ?_)
  refine lv_if_eq (tgt := 22) hx hb dX6_best_8 (by decide) (fun c8 => ?_) (fun c8 => ?_)
  · replace hm := it c8 hm
    refine lv_iconst (v := (-1)) hx hb dX6_best_22 (by decide) ?_
    exact retIw (wf := cw q d) C hS hm dX6_best_23
  · replace hm := ie c8 hm
    refine lv_aload_n hx hb dX6_best_11 rfl (lv_at hl 0 rfl) ?_
    refine g_6_14_0 C hS dX6_best_12 ?_
    refine lv_iload_n hx hb dX6_best_15 rfl (lv_at hl 2 rfl) ?_
    obtain ⟨o16, e16, hm⟩ := ob hm
    refine after_i C hS (call_V (As := [.int a2]) C hS (c_X3_isNumber_r l d q σ a2 o16 e16 _) iv_6_96 ⟨rfl, rfl, Nat.le_of_ble_eq_true rfl, Nat.le_of_ble_eq_true rfl⟩ cw_o1 rfl rfl rfl hl.1 (Nat.le_of_ble_eq_true rfl) dX6_best_16) (fun H locs hS => ?_)
    refine lv_if_ne (tgt := 24) hx hb dX6_best_19 (by decide) (fun c19 => ?_) (fun c19 => ?_)
    · replace hm := ie c19 hm
      refine lv_aload_n hx hb dX6_best_24 rfl (lv_at hl 0 rfl) ?_
      refine g_6_33_0 C hS dX6_best_25 ?_
      refine lv_iload_n hx hb dX6_best_28 rfl (lv_at hl 1 rfl) ?_
      obtain ⟨o29, e29, hm⟩ := ob hm
      refine after_i C hS (call_V (As := [.int a1]) C hS (c_X5_isOpenTo l d q σ a1 o29 e29 _) iv_6_165 ⟨rfl, rfl, Nat.le_of_ble_eq_true rfl, Nat.le_of_ble_eq_true rfl⟩ cw_o22 rfl rfl rfl hl.1 (Nat.le_of_ble_eq_true rfl) dX6_best_29) (fun H locs hS => ?_)
      refine lv_if_ne (tgt := 38) hx hb dX6_best_32 (by decide) (fun c32 => ?_) (fun c32 => ?_)
      · replace hm := ie c32 hm
        refine lv_aload_n hx hb dX6_best_38 rfl (lv_at hl 0 rfl) ?_
        refine g_6_14_0 C hS dX6_best_39 ?_
        refine lv_iload_n hx hb dX6_best_42 rfl (lv_at hl 2 rfl) ?_
        refine lv_iload_n hx hb dX6_best_43 rfl (lv_at hl 1 rfl) ?_
        obtain ⟨o44, e44, hm⟩ := ob hm
        refine after_i C hS (call_S (As := [.int a1]) C hS (c_J6_bitCount_0f7a4 l d (cw q d σ) a1 o44 e44 _) is_6_244 ⟨rfl, rfl, Nat.le_of_ble_eq_true rfl, Nat.le_of_ble_eq_true rfl⟩ rfl hl.1 (Nat.le_of_ble_eq_true rfl) dX6_best_44) (fun H locs hS => ?_)
        refine lv_iconst (v := 0) hx hb dX6_best_47 (by decide) ?_
        obtain ⟨o48, e48, hm⟩ := ob hm
        refine after_v C hS (call_V (As := [.int a2, .int o44, .int 0]) C hS (c_X3_make_r l d q σ a2 o44 0 o48 e48 _) iv_6_237 ⟨rfl, rfl, Nat.le_of_ble_eq_true rfl, Nat.le_of_ble_eq_true rfl⟩ cw_o1 rfl rfl rfl hl.1 (Nat.le_of_ble_eq_true rfl) dX6_best_48) (fun H locs hS => ?_)
        refine lv_aload_n hx hb dX6_best_51 rfl (lv_at hl 0 rfl) ?_
        refine g_6_33_0 C hS dX6_best_52 ?_
        refine lv_iload_n hx hb dX6_best_55 rfl (lv_at hl 1 rfl) ?_
        refine lv_aload_n hx hb dX6_best_56 rfl (lv_at hl 0 rfl) ?_
        refine g_6_14_0 C hS dX6_best_57 ?_
        refine lv_iload_n hx hb dX6_best_60 rfl (lv_at hl 2 rfl) ?_
        obtain ⟨o61, e61, hm⟩ := ob hm
        refine after_v C hS (call_V (As := [.int a1, .ref (q 1), .int a2]) C hS (c_X5_layBestOrder l d q o48 a1 a2 o61 e61 _) iv_6_249 ⟨rfl, rfl, Nat.le_of_ble_eq_true rfl, Nat.le_of_ble_eq_true rfl⟩ cw_o22 rfl rfl rfl hl.1 (Nat.le_of_ble_eq_true rfl) dX6_best_61) (fun H locs hS => ?_)
        refine lv_aload_n hx hb dX6_best_64 rfl (lv_at hl 0 rfl) ?_
        refine g_6_33_0 C hS dX6_best_65 ?_
        refine lv_iload_n hx hb dX6_best_68 rfl (lv_at hl 1 rfl) ?_
        refine lv_aload_n hx hb dX6_best_69 rfl (lv_at hl 0 rfl) ?_
        refine g_6_33_0 C hS dX6_best_70 ?_
        refine g_6_187_22 C hS dX6_best_73 ?_
        obtain ⟨o76, e76, hm⟩ := ob hm
        refine after_i C hS (call_V (As := [.int a1, .int (o61.1 35)]) C hS (c_X5_mostServed l d q o61 a1 (o61.1 35) o76 e76 _) iv_6_252 ⟨rfl, rfl, Nat.le_of_ble_eq_true rfl, Nat.le_of_ble_eq_true rfl⟩ cw_o22 rfl rfl rfl hl.1 (Nat.le_of_ble_eq_true rfl) dX6_best_76) (fun H locs hS => ?_)
        exact retIw (wf := cw q d) C hS hm dX6_best_79
      · replace hm := it c32 hm
        refine lv_bipush (v := (-4)) hx hb dX6_best_35 (by decide) ?_
        exact retIw (wf := cw q d) C hS hm dX6_best_37
    · replace hm := it c19 hm
      refine lv_iconst (v := (-1)) hx hb dX6_best_22 (by decide) ?_
      exact retIw (wf := cw q d) C hS hm dX6_best_23
def M_X5_drawnByShares_4 (σ : ST) : Nat → Int32 → Int32 → Int32 → Option Int32
  | 0, _, _, _ => none
  | n + 1, x1, x2, x3 => if (σ.1 33) ≤ x3 then some x2 else (M_X5_wantsYet σ x3).bind fun o18 => M_X5_drawnByShares_4 σ n x1 (x2 + (if x1 < o18 then x1 else o18)) (x3 + 1)
def M_X5_drawnByShares (σ : ST) (a1 : Int32) : Option Int32 := M_X5_drawnByShares_4 σ 10000 a1 0 0
abbrev rm_X5_drawnByShares : Room := { frames := 2, cells := 0, slots := 0, locals := 42 }
set_option maxRecDepth 100000 in
set_option maxHeartbeats 4000000 in
theorem c_X5_drawnByShares (l : Launch) (d : CD) (q : Nat → Nat) (σ : ST) (a1 : Int32) (out : Int32) (hm : M_X5_drawnByShares σ a1 = some out) : MetI l yX5_drawnByShares cX5_drawnByShares 4 (some .int) rm_X5_drawnByShares d (cw q d σ) [.ref (q 22), .int a1] out (cw q d σ) := by
  refine mkI (own := RX5) (by decide +kernel) rfl (Nat.le_of_ble_eq_true rfl) ?_
  intro p e s m below meth c A ls C hS hl
  obtain ⟨hx, hb, hml, hown, hts, -⟩ := id C
  have hl : lv_has ls 4 [(0, .ref (q 22)), (1, .int a1)] := hl
  have L4 : ∀ (n : Nat) (x1 : Int32) (x2 : Int32) (x3 : Int32) (H : Heap) (locs : List Loc) (ls : Array Slot), HS d A s.heap H locs (cw q d σ) → lv_has ls 4 [(0, .ref (q 22)), (1, .int x1), (2, .int x2), (3, .int x3)] → M_X5_drawnByShares_4 σ n x1 x2 x3 = some out → WI p l e rm_X5_drawnByShares s m [.ref (q 22), .int a1].toArray below meth c A d H locs out (cw q d σ) (F0 m 4 ls []) := by
    intro n
    induction n with
    | zero =>
      intro x1 x2 x3 H locs ls hS hl hm
      exact absurd hm (by rw [M_X5_drawnByShares_4]; exact fun h => nomatch h)
    | succ n ih =>
      intro x1 x2 x3 H locs ls hS hl hm
      rw [M_X5_drawnByShares_4] at hm
      refine lv_iload_n hx hb dX5_drawnByShares_4 rfl (lv_at hl 3 rfl) ?_
      refine lv_aload_n hx hb dX5_drawnByShares_5 rfl (lv_at hl 0 rfl) ?_
      refine g_5_12_22 C hS dX5_drawnByShares_6 ?_
      refine g_5_95_23 C hS dX5_drawnByShares_9 ?_
      refine lv_icmp_ge (tgt := 33) hx hb dX5_drawnByShares_12 (by decide) (fun c12 => ?_) (fun c12 => ?_)
      · replace hm := it c12 hm
        refine lv_iload_n hx hb dX5_drawnByShares_33 rfl (lv_at hl 2 rfl) ?_
        exact retIr C hS hm dX5_drawnByShares_34
      · replace hm := ie c12 hm
        refine lv_iload_n hx hb dX5_drawnByShares_15 rfl (lv_at hl 2 rfl) ?_
        refine lv_aload_n hx hb dX5_drawnByShares_16 rfl (lv_at hl 0 rfl) ?_
        refine lv_iload_n hx hb dX5_drawnByShares_17 rfl (lv_at hl 3 rfl) ?_
        obtain ⟨o18, e18, hm⟩ := ob hm
        refine after_i C hS (call_V (As := [.int x3]) C hS (c_X5_wantsYet l d q σ x3 o18 e18 _) iv_5_77 ⟨rfl, rfl, Nat.le_of_ble_eq_true rfl, Nat.le_of_ble_eq_true rfl⟩ cw_o22 rfl rfl rfl hl.1 (Nat.le_of_ble_eq_true rfl) dX5_drawnByShares_18) (fun H locs hS => ?_)
        refine lv_iload_n hx hb dX5_drawnByShares_21 rfl (lv_at hl 1 rfl) ?_
        refine mmin' C hl.1 mm_X5_80 ⟨Nat.le_of_ble_eq_true rfl, Nat.le_of_ble_eq_true rfl⟩ (Nat.le_of_ble_eq_true rfl) dX5_drawnByShares_22 ?_
        refine lv_iadd hx hb dX5_drawnByShares_25 ?_
        refine lv_istore_n (lv' := [(2, .int (x2 + (if x1 < o18 then x1 else o18))), (0, .ref (q 22)), (1, .int x1), (3, .int x3)]) hx hb dX5_drawnByShares_26 rfl hl (by decide) rfl (fun ls hl => ?_)
        refine lv_iinc (v := x3 + 1) (lv' := [(3, .int (x3 + 1)), (2, .int (x2 + (if x1 < o18 then x1 else o18))), (0, .ref (q 22)), (1, .int x1)]) hx hb dX5_drawnByShares_27 hl (k := 3) rfl rfl (by decide) rfl (fun ls hl => ?_)
        refine lv_goto (tgt := 4) hx hb dX5_drawnByShares_30 (by decide) ?_
        exact ih x1 (x2 + (if x1 < o18 then x1 else o18)) (x3 + 1) _ _ _ hS (lv_sub hl [2, 3, 1, 0] rfl) hm
  unfold M_X5_drawnByShares at hm
  refine lv_iconst (v := 0) hx hb dX5_drawnByShares_0 (by decide) ?_
  refine lv_istore_n (lv' := [(2, .int 0), (0, .ref (q 22)), (1, .int a1)]) hx hb dX5_drawnByShares_1 rfl hl (by decide) rfl (fun ls hl => ?_)
  refine lv_iconst (v := 0) hx hb dX5_drawnByShares_2 (by decide) ?_
  refine lv_istore_n (lv' := [(3, .int 0), (2, .int 0), (0, .ref (q 22)), (1, .int a1)]) hx hb dX5_drawnByShares_3 rfl hl (by decide) rfl (fun ls hl => ?_)
  exact L4 10000 a1 0 0 _ _ _ hS (lv_sub hl [2, 3, 1, 0] rfl) hm
def M_X6_ration_44 (σ : ST) (x1 : Int32) : Option (Int32 × ST) := (M_X5_drawnByShares σ x1).bind fun o50 => (some (setI σ 8 (o50))).bind fun σ53 => some (x1, σ53)
def M_X6_ration_16 : Nat → ST → Int32 → Option (Int32 × ST)
  | 0, _, _ => none
  | n + 1, σ, x1 => if x1 ≤ 0 then M_X6_ration_44 σ x1 else (M_X5_drawnByShares σ x1).bind fun o25 => if o25 ≤ (σ.1 35) then M_X6_ration_44 σ x1 else M_X6_ration_16 n σ (x1 + (-1))
def M_X6_ration (σ : ST) : Option (Int32 × ST) := (M_X5_houses σ).bind fun o4 => if o4 = 0 then some ((-4), σ) else M_X6_ration_16 10000 σ 99
abbrev rm_X6_ration : Room := { frames := 3, cells := 0, slots := 0, locals := 65 }
set_option maxRecDepth 100000 in
set_option maxHeartbeats 4000000 in
theorem c_X6_ration (l : Launch) (d : CD) (q : Nat → Nat) (σ : ST) (out : Int32 × ST) (hm : M_X6_ration σ = some out) : MetI l yX6_ration cX6_ration 2 (some .int) rm_X6_ration d (cw q d σ) [.ref (q 0)] out.1 (cw q d out.2) := by
  refine mkI (own := RX6) (by decide +kernel) rfl (Nat.le_of_ble_eq_true rfl) ?_
  intro p e s m below meth c A ls C hS hl
  obtain ⟨hx, hb, hml, hown, hts, -⟩ := id C
  have hl : lv_has ls 2 [(0, .ref (q 0))] := hl
  have J44 : ∀ (σ : ST) (x1 : Int32) (H : Heap) (locs : List Loc) (ls : Array Slot), HS d A s.heap H locs (cw q d σ) → lv_has ls 2 [(0, .ref (q 0)), (1, .int x1)] → M_X6_ration_44 σ x1 = some out → WI p l e rm_X6_ration s m [.ref (q 0)].toArray below meth c A d H locs out.1 (cw q d out.2) (F0 m 44 ls []) := by
    intro σ x1 H locs ls hS hl hm
    unfold M_X6_ration_44 at hm
    refine lv_aload_n hx hb dX6_ration_44 rfl (lv_at hl 0 rfl) ?_
    refine lv_aload_n hx hb dX6_ration_45 rfl (lv_at hl 0 rfl) ?_
    refine g_6_33_0 C hS dX6_ration_46 ?_
    refine lv_iload_n hx hb dX6_ration_49 rfl (lv_at hl 1 rfl) ?_
    obtain ⟨o50, e50, hm⟩ := ob hm
    refine after_i C hS (call_V (As := [.int x1]) C hS (c_X5_drawnByShares l d q σ x1 o50 e50 _) iv_6_255 ⟨rfl, rfl, Nat.le_of_ble_eq_true rfl, Nat.le_of_ble_eq_true rfl⟩ cw_o22 rfl rfl rfl hl.1 (Nat.le_of_ble_eq_true rfl) dX6_ration_50) (fun H locs hS => ?_)
    obtain ⟨σ53, e53, hm⟩ := ob hm
    refine p_6_60_0 C hS e53 dX6_ration_53 (fun H locs hS => ?_)
    refine lv_iload_n hx hb dX6_ration_56 rfl (lv_at hl 1 rfl) ?_
    exact retIw (wf := cw q d) C hS hm dX6_ration_57
  have L16 : ∀ (n : Nat) (σ : ST) (x1 : Int32) (H : Heap) (locs : List Loc) (ls : Array Slot), HS d A s.heap H locs (cw q d σ) → lv_has ls 2 [(0, .ref (q 0)), (1, .int x1)] → M_X6_ration_16 n σ x1 = some out → WI p l e rm_X6_ration s m [.ref (q 0)].toArray below meth c A d H locs out.1 (cw q d out.2) (F0 m 16 ls []) := by
    intro n
    induction n with
    | zero =>
      intro σ x1 H locs ls hS hl hm
      exact absurd hm (by rw [M_X6_ration_16]; exact fun h => nomatch h)
    | succ n ih =>
      intro σ x1 H locs ls hS hl hm
      rw [M_X6_ration_16] at hm
      refine lv_iload_n hx hb dX6_ration_16 rfl (lv_at hl 1 rfl) ?_
      refine lv_if_le (tgt := 44) hx hb dX6_ration_17 (by decide) (fun c17 => ?_) (fun c17 => ?_)
      · replace hm := it c17 hm
        exact J44 σ x1 _ _ _ hS (lv_sub hl [0, 1] rfl) hm
      · replace hm := ie c17 hm
        refine lv_aload_n hx hb dX6_ration_20 rfl (lv_at hl 0 rfl) ?_
        refine g_6_33_0 C hS dX6_ration_21 ?_
        refine lv_iload_n hx hb dX6_ration_24 rfl (lv_at hl 1 rfl) ?_
        obtain ⟨o25, e25, hm⟩ := ob hm
        refine after_i C hS (call_V (As := [.int x1]) C hS (c_X5_drawnByShares l d q σ x1 o25 e25 _) iv_6_255 ⟨rfl, rfl, Nat.le_of_ble_eq_true rfl, Nat.le_of_ble_eq_true rfl⟩ cw_o22 rfl rfl rfl hl.1 (Nat.le_of_ble_eq_true rfl) dX6_ration_25) (fun H locs hS => ?_)
        refine lv_aload_n hx hb dX6_ration_28 rfl (lv_at hl 0 rfl) ?_
        refine g_6_33_0 C hS dX6_ration_29 ?_
        refine g_6_187_22 C hS dX6_ration_32 ?_
        refine lv_icmp_le (tgt := 44) hx hb dX6_ration_35 (by decide) (fun c35 => ?_) (fun c35 => ?_)
        · replace hm := it c35 hm
          exact J44 σ x1 _ _ _ hS (lv_sub hl [0, 1] rfl) hm
        · replace hm := ie c35 hm
          refine lv_iinc (v := x1 + (-1)) (lv' := [(1, .int (x1 + (-1))), (0, .ref (q 0))]) hx hb dX6_ration_38 hl (k := 1) rfl rfl (by decide) rfl (fun ls hl => ?_)
          refine lv_goto (tgt := 16) hx hb dX6_ration_41 (by decide) ?_
          exact ih σ (x1 + (-1)) _ _ _ hS (lv_sub hl [1, 0] rfl) hm
  unfold M_X6_ration at hm
  refine lv_aload_n hx hb dX6_ration_0 rfl (lv_at hl 0 rfl) ?_
  refine g_6_33_0 C hS dX6_ration_1 ?_
  obtain ⟨o4, e4, hm⟩ := ob hm
  refine after_i C hS (call_V (As := []) C hS (c_X5_houses l d q σ o4 e4 _) iv_6_140 ⟨rfl, rfl, Nat.le_of_ble_eq_true rfl, Nat.le_of_ble_eq_true rfl⟩ cw_o22 rfl rfl rfl hl.1 (Nat.le_of_ble_eq_true rfl) dX6_ration_4) (fun H locs hS => ?_)
  refine lv_if_ne (tgt := 13) hx hb dX6_ration_7 (by decide) (fun c7 => ?_) (fun c7 => ?_)
  · replace hm := ie c7 hm
    refine lv_bipush (v := 99) hx hb dX6_ration_13 (by decide) ?_
    refine lv_istore_n (lv' := [(1, .int 99), (0, .ref (q 0))]) hx hb dX6_ration_15 rfl hl (by decide) rfl (fun ls hl => ?_)
    exact L16 10000 σ 99 _ _ _ hS (lv_sub hl [1, 0] rfl) hm
  · replace hm := it c7 hm
    refine lv_bipush (v := (-4)) hx hb dX6_ration_10 (by decide) ?_
    exact retIw (wf := cw q d) C hS hm dX6_ration_12
def M_X5_drawnBy_4 (σ : ST) : Nat → Int32 → Int32 → Int32 → Option Int32
  | 0, _, _, _ => none
  | n + 1, x1, x2, x3 => if (σ.1 33) ≤ x3 then some (if (σ.1 35) < x2 then (σ.1 35) else x2) else (M_X6_isIn x3 x1).bind fun o17 => if o17 = 0 then M_X5_drawnBy_4 σ n x1 x2 (x3 + 1) else (M_X5_wantsYet σ x3).bind fun o26 => M_X5_drawnBy_4 σ n x1 (x2 + o26) (x3 + 1)
def M_X5_drawnBy (σ : ST) (a1 : Int32) : Option Int32 := M_X5_drawnBy_4 σ 10000 a1 0 0
abbrev rm_X5_drawnBy : Room := { frames := 2, cells := 0, slots := 0, locals := 42 }
set_option maxRecDepth 100000 in
set_option maxHeartbeats 4000000 in
theorem c_X5_drawnBy (l : Launch) (d : CD) (q : Nat → Nat) (σ : ST) (a1 : Int32) (out : Int32) (hm : M_X5_drawnBy σ a1 = some out) : MetI l yX5_drawnBy cX5_drawnBy 4 (some .int) rm_X5_drawnBy d (cw q d σ) [.ref (q 22), .int a1] out (cw q d σ) := by
  refine mkI (own := RX5) (by decide +kernel) rfl (Nat.le_of_ble_eq_true rfl) ?_
  intro p e s m below meth c A ls C hS hl
  obtain ⟨hx, hb, hml, hown, hts, -⟩ := id C
  have hl : lv_has ls 4 [(0, .ref (q 22)), (1, .int a1)] := hl
  have L4 : ∀ (n : Nat) (x1 : Int32) (x2 : Int32) (x3 : Int32) (H : Heap) (locs : List Loc) (ls : Array Slot), HS d A s.heap H locs (cw q d σ) → lv_has ls 4 [(0, .ref (q 22)), (1, .int x1), (2, .int x2), (3, .int x3)] → M_X5_drawnBy_4 σ n x1 x2 x3 = some out → WI p l e rm_X5_drawnBy s m [.ref (q 22), .int a1].toArray below meth c A d H locs out (cw q d σ) (F0 m 4 ls []) := by
    intro n
    induction n with
    | zero =>
      intro x1 x2 x3 H locs ls hS hl hm
      exact absurd hm (by rw [M_X5_drawnBy_4]; exact fun h => nomatch h)
    | succ n ih =>
      intro x1 x2 x3 H locs ls hS hl hm
      rw [M_X5_drawnBy_4] at hm
      refine lv_iload_n hx hb dX5_drawnBy_4 rfl (lv_at hl 3 rfl) ?_
      refine lv_aload_n hx hb dX5_drawnBy_5 rfl (lv_at hl 0 rfl) ?_
      refine g_5_12_22 C hS dX5_drawnBy_6 ?_
      refine g_5_95_23 C hS dX5_drawnBy_9 ?_
      refine lv_icmp_ge (tgt := 37) hx hb dX5_drawnBy_12 (by decide) (fun c12 => ?_) (fun c12 => ?_)
      · replace hm := it c12 hm
        refine lv_iload_n hx hb dX5_drawnBy_37 rfl (lv_at hl 2 rfl) ?_
        refine lv_aload_n hx hb dX5_drawnBy_38 rfl (lv_at hl 0 rfl) ?_
        refine g_5_47_22 C hS dX5_drawnBy_39 ?_
        refine mmin' C hl.1 mm_X5_80 ⟨Nat.le_of_ble_eq_true rfl, Nat.le_of_ble_eq_true rfl⟩ (Nat.le_of_ble_eq_true rfl) dX5_drawnBy_42 ?_
        exact retIr C hS hm dX5_drawnBy_45
      · replace hm := ie c12 hm
        refine lv_iload_n hx hb dX5_drawnBy_15 rfl (lv_at hl 3 rfl) ?_
        refine lv_iload_n hx hb dX5_drawnBy_16 rfl (lv_at hl 1 rfl) ?_
        obtain ⟨o17, e17, hm⟩ := ob hm
        refine after_i C hS (call_N (As := [.int x3, .int x1]) C hS (c_X6_isIn l d (cw q d σ) x3 x1 o17 e17 _) is_5_109 ⟨rfl, rfl, Nat.le_of_ble_eq_true rfl, Nat.le_of_ble_eq_true rfl⟩ rfl hl.1 (Nat.le_of_ble_eq_true rfl) dX5_drawnBy_17) (fun H locs hS => ?_)
        refine lv_if_eq (tgt := 31) hx hb dX5_drawnBy_20 (by decide) (fun c20 => ?_) (fun c20 => ?_)
        · replace hm := it c20 hm
          refine lv_iinc (v := x3 + 1) (lv' := [(3, .int (x3 + 1)), (0, .ref (q 22)), (1, .int x1), (2, .int x2)]) hx hb dX5_drawnBy_31 hl (k := 3) rfl rfl (by decide) rfl (fun ls hl => ?_)
          refine lv_goto (tgt := 4) hx hb dX5_drawnBy_34 (by decide) ?_
          exact ih x1 x2 (x3 + 1) _ _ _ hS (lv_sub hl [1, 2, 3, 0] rfl) hm
        · replace hm := ie c20 hm
          refine lv_iload_n hx hb dX5_drawnBy_23 rfl (lv_at hl 2 rfl) ?_
          refine lv_aload_n hx hb dX5_drawnBy_24 rfl (lv_at hl 0 rfl) ?_
          refine lv_iload_n hx hb dX5_drawnBy_25 rfl (lv_at hl 3 rfl) ?_
          obtain ⟨o26, e26, hm⟩ := ob hm
          refine after_i C hS (call_V (As := [.int x3]) C hS (c_X5_wantsYet l d q σ x3 o26 e26 _) iv_5_77 ⟨rfl, rfl, Nat.le_of_ble_eq_true rfl, Nat.le_of_ble_eq_true rfl⟩ cw_o22 rfl rfl rfl hl.1 (Nat.le_of_ble_eq_true rfl) dX5_drawnBy_26) (fun H locs hS => ?_)
          refine lv_iadd hx hb dX5_drawnBy_29 ?_
          refine lv_istore_n (lv' := [(2, .int (x2 + o26)), (0, .ref (q 22)), (1, .int x1), (3, .int x3)]) hx hb dX5_drawnBy_30 rfl hl (by decide) rfl (fun ls hl => ?_)
          refine lv_iinc (v := x3 + 1) (lv' := [(3, .int (x3 + 1)), (2, .int (x2 + o26)), (0, .ref (q 22)), (1, .int x1)]) hx hb dX5_drawnBy_31 hl (k := 3) rfl rfl (by decide) rfl (fun ls hl => ?_)
          refine lv_goto (tgt := 4) hx hb dX5_drawnBy_34 (by decide) ?_
          exact ih x1 (x2 + o26) (x3 + 1) _ _ _ hS (lv_sub hl [2, 3, 1, 0] rfl) hm
  unfold M_X5_drawnBy at hm
  refine lv_iconst (v := 0) hx hb dX5_drawnBy_0 (by decide) ?_
  refine lv_istore_n (lv' := [(2, .int 0), (0, .ref (q 22)), (1, .int a1)]) hx hb dX5_drawnBy_1 rfl hl (by decide) rfl (fun ls hl => ?_)
  refine lv_iconst (v := 0) hx hb dX5_drawnBy_2 (by decide) ?_
  refine lv_istore_n (lv' := [(3, .int 0), (2, .int 0), (0, .ref (q 22)), (1, .int a1)]) hx hb dX5_drawnBy_3 rfl hl (by decide) rfl (fun ls hl => ?_)
  exact L4 10000 a1 0 0 _ _ _ hS (lv_sub hl [2, 3, 1, 0] rfl) hm
def M_X4_keepThoseWhoDraw_41 (k2 : ST → Int32 → Int32 → Option ST) (σ : ST) (x1 : Int32) (x2 : Int32) (y1 : Int32) (y2 : Int32) : Option ST := (okZ y2).bind fun z41 => (wrA 128 σ 33 y1 z41).bind fun σ41 => k2 σ41 x1 (x2 + 1)
def M_X4_keepThoseWhoDraw_40 (k2 : ST → Int32 → Int32 → Option ST) (σ : ST) (x1 : Int32) (x2 : Int32) (y1 : Int32) : Option ST := M_X4_keepThoseWhoDraw_41 k2 σ x1 x2 y1 0
def M_X4_keepThoseWhoDraw_2 : Nat → ST → Int32 → Int32 → Option ST
  | 0, _, _, _ => none
  | n + 1, σ, x1, x2 => if (σ.1 38) ≤ x2 then some σ else (rd 128 (σ.2.2 33) x2).bind fun v20 => if v20 = 0 then M_X4_keepThoseWhoDraw_40 (M_X4_keepThoseWhoDraw_2 n) σ x1 x2 x2 else (M_X5_drawnBy σ x2).bind fun o29 => if o29 = x1 then M_X4_keepThoseWhoDraw_41 (M_X4_keepThoseWhoDraw_2 n) σ x1 x2 x2 1 else M_X4_keepThoseWhoDraw_40 (M_X4_keepThoseWhoDraw_2 n) σ x1 x2 x2
def M_X4_keepThoseWhoDraw (σ : ST) (a1 : Int32) : Option ST := M_X4_keepThoseWhoDraw_2 10000 σ a1 0
abbrev rm_X4_keepThoseWhoDraw : Room := { frames := 3, cells := 0, slots := 0, locals := 65 }
set_option maxRecDepth 100000 in
set_option maxHeartbeats 4000000 in
theorem c_X4_keepThoseWhoDraw (l : Launch) (d : CD) (q : Nat → Nat) (σ : ST) (a1 : Int32) (out : ST) (hm : M_X4_keepThoseWhoDraw σ a1 = some out) : MetV l yX4_keepThoseWhoDraw cX4_keepThoseWhoDraw 3 (none) rm_X4_keepThoseWhoDraw d (cw q d σ) [.ref (q 32), .int a1] (cw q d out) := by
  refine mkV (own := RX4) (by decide +kernel) rfl (Nat.le_of_ble_eq_true rfl) ?_
  intro p e s m below meth c A ls C hS hl
  obtain ⟨hx, hb, hml, hown, hts, -⟩ := id C
  have hl : lv_has ls 3 [(0, .ref (q 32)), (1, .int a1)] := hl
  have J41 : ∀ (k2 : ST → Int32 → Int32 → Option ST) (hk2 : ∀ (σ : ST) (x1 : Int32) (x2 : Int32) (H : Heap) (locs : List Loc) (ls : Array Slot), HS d A s.heap H locs (cw q d σ) → lv_has ls 3 [(0, .ref (q 32)), (1, .int x1), (2, .int x2)] → k2 σ x1 x2 = some out → WV p l e rm_X4_keepThoseWhoDraw s m [.ref (q 32), .int a1].toArray below meth c A d H locs (cw q d out) (F0 m 2 ls [])) (σ : ST) (x1 : Int32) (x2 : Int32) (y1 : Int32) (y2 : Int32) (H : Heap) (locs : List Loc) (ls : Array Slot), HS d A s.heap H locs (cw q d σ) → lv_has ls 3 [(0, .ref (q 32)), (1, .int x1), (2, .int x2)] → M_X4_keepThoseWhoDraw_41 k2 σ x1 x2 y1 y2 = some out → WV p l e rm_X4_keepThoseWhoDraw s m [.ref (q 32), .int a1].toArray below meth c A d H locs (cw q d out) (F0 m 41 ls [.int y2, .int y1, .ref (q 33)]) := by
    intro k2 hk2 σ x1 x2 y1 y2 H locs ls hS hl hm
    unfold M_X4_keepThoseWhoDraw_41 at hm
    obtain ⟨z41, ez41, hm⟩ := ob hm
    obtain ⟨σ41, e41, hm⟩ := ob hm
    refine zast' (wf := cw q d) C hS cw_a33 cw_s33 ez41 e41 dX4_keepThoseWhoDraw_41 (fun H locs hS => ?_)
    refine lv_iinc (v := x2 + 1) (lv' := [(2, .int (x2 + 1)), (0, .ref (q 32)), (1, .int x1)]) hx hb dX4_keepThoseWhoDraw_42 hl (k := 2) rfl rfl (by decide) rfl (fun ls hl => ?_)
    refine lv_goto (tgt := 2) hx hb dX4_keepThoseWhoDraw_45 (by decide) ?_
    exact hk2 σ41 x1 (x2 + 1) _ _ _ hS (lv_sub hl [1, 2, 0] rfl) hm
  have J40 : ∀ (k2 : ST → Int32 → Int32 → Option ST) (hk2 : ∀ (σ : ST) (x1 : Int32) (x2 : Int32) (H : Heap) (locs : List Loc) (ls : Array Slot), HS d A s.heap H locs (cw q d σ) → lv_has ls 3 [(0, .ref (q 32)), (1, .int x1), (2, .int x2)] → k2 σ x1 x2 = some out → WV p l e rm_X4_keepThoseWhoDraw s m [.ref (q 32), .int a1].toArray below meth c A d H locs (cw q d out) (F0 m 2 ls [])) (σ : ST) (x1 : Int32) (x2 : Int32) (y1 : Int32) (H : Heap) (locs : List Loc) (ls : Array Slot), HS d A s.heap H locs (cw q d σ) → lv_has ls 3 [(0, .ref (q 32)), (1, .int x1), (2, .int x2)] → M_X4_keepThoseWhoDraw_40 k2 σ x1 x2 y1 = some out → WV p l e rm_X4_keepThoseWhoDraw s m [.ref (q 32), .int a1].toArray below meth c A d H locs (cw q d out) (F0 m 40 ls [.int y1, .ref (q 33)]) := by
    intro k2 hk2 σ x1 x2 y1 H locs ls hS hl hm
    unfold M_X4_keepThoseWhoDraw_40 at hm
    refine lv_iconst (v := 0) hx hb dX4_keepThoseWhoDraw_40 (by decide) ?_
    exact J41 k2 hk2 σ x1 x2 y1 0 _ _ _ hS (lv_sub hl [0, 1, 2] rfl) hm
  have L2 : ∀ (n : Nat) (σ : ST) (x1 : Int32) (x2 : Int32) (H : Heap) (locs : List Loc) (ls : Array Slot), HS d A s.heap H locs (cw q d σ) → lv_has ls 3 [(0, .ref (q 32)), (1, .int x1), (2, .int x2)] → M_X4_keepThoseWhoDraw_2 n σ x1 x2 = some out → WV p l e rm_X4_keepThoseWhoDraw s m [.ref (q 32), .int a1].toArray below meth c A d H locs (cw q d out) (F0 m 2 ls []) := by
    intro n
    induction n with
    | zero =>
      intro σ x1 x2 H locs ls hS hl hm
      exact absurd hm (by rw [M_X4_keepThoseWhoDraw_2]; exact fun h => nomatch h)
    | succ n ih =>
      intro σ x1 x2 H locs ls hS hl hm
      rw [M_X4_keepThoseWhoDraw_2] at hm
      refine lv_iload_n hx hb dX4_keepThoseWhoDraw_2 rfl (lv_at hl 2 rfl) ?_
      refine lv_aload_n hx hb dX4_keepThoseWhoDraw_3 rfl (lv_at hl 0 rfl) ?_
      refine g_4_35_32 C hS dX4_keepThoseWhoDraw_4 ?_
      refine lv_icmp_ge (tgt := 48) hx hb dX4_keepThoseWhoDraw_7 (by decide) (fun c7 => ?_) (fun c7 => ?_)
      · replace hm := it c7 hm
        exact retVw (wf := cw q d) C hS hm dX4_keepThoseWhoDraw_48
      · replace hm := ie c7 hm
        refine lv_aload_n hx hb dX4_keepThoseWhoDraw_10 rfl (lv_at hl 0 rfl) ?_
        refine g_4_9_32 C hS dX4_keepThoseWhoDraw_11 ?_
        refine lv_iload_n hx hb dX4_keepThoseWhoDraw_14 rfl (lv_at hl 2 rfl) ?_
        refine lv_aload_n hx hb dX4_keepThoseWhoDraw_15 rfl (lv_at hl 0 rfl) ?_
        refine g_4_9_32 C hS dX4_keepThoseWhoDraw_16 ?_
        refine lv_iload_n hx hb dX4_keepThoseWhoDraw_19 rfl (lv_at hl 2 rfl) ?_
        obtain ⟨v20, e20, hm⟩ := ob hm
        refine zald' C hS cw_a33 e20 dX4_keepThoseWhoDraw_20 ?_
        refine lv_if_eq (tgt := 40) hx hb dX4_keepThoseWhoDraw_21 (by decide) (fun c21 => ?_) (fun c21 => ?_)
        · replace hm := it c21 hm
          exact J40 (M_X4_keepThoseWhoDraw_2 n) ih σ x1 x2 x2 _ _ _ hS (lv_sub hl [0, 1, 2] rfl) hm
        · replace hm := ie c21 hm
          refine lv_aload_n hx hb dX4_keepThoseWhoDraw_24 rfl (lv_at hl 0 rfl) ?_
          refine g_4_19_32 C hS dX4_keepThoseWhoDraw_25 ?_
          refine lv_iload_n hx hb dX4_keepThoseWhoDraw_28 rfl (lv_at hl 2 rfl) ?_
          obtain ⟨o29, e29, hm⟩ := ob hm
          refine after_i C hS (call_V (As := [.int x2]) C hS (c_X5_drawnBy l d q σ x2 o29 e29 _) iv_4_42 ⟨rfl, rfl, Nat.le_of_ble_eq_true rfl, Nat.le_of_ble_eq_true rfl⟩ cw_o22 rfl rfl rfl hl.1 (Nat.le_of_ble_eq_true rfl) dX4_keepThoseWhoDraw_29) (fun H locs hS => ?_)
          refine lv_iload_n hx hb dX4_keepThoseWhoDraw_32 rfl (lv_at hl 1 rfl) ?_
          refine lv_icmp_ne (tgt := 40) hx hb dX4_keepThoseWhoDraw_33 (by decide) (fun c33 => ?_) (fun c33 => ?_)
          · replace hm := ie c33 hm
            exact J40 (M_X4_keepThoseWhoDraw_2 n) ih σ x1 x2 x2 _ _ _ hS (lv_sub hl [0, 1, 2] rfl) hm
          · replace hm := it c33 hm
            refine lv_iconst (v := 1) hx hb dX4_keepThoseWhoDraw_36 (by decide) ?_
            refine lv_goto (tgt := 41) hx hb dX4_keepThoseWhoDraw_37 (by decide) ?_
            exact J41 (M_X4_keepThoseWhoDraw_2 n) ih σ x1 x2 x2 1 _ _ _ hS (lv_sub hl [0, 1, 2] rfl) hm
  unfold M_X4_keepThoseWhoDraw at hm
  refine lv_iconst (v := 0) hx hb dX4_keepThoseWhoDraw_0 (by decide) ?_
  refine lv_istore_n (lv' := [(2, .int 0), (0, .ref (q 32)), (1, .int a1)]) hx hb dX4_keepThoseWhoDraw_1 rfl hl (by decide) rfl (fun ls hl => ?_)
  exact L2 10000 σ a1 0 _ _ _ hS (lv_sub hl [1, 2, 0] rfl) hm
def M_X6_frogs_58 (σ : ST) (y1 : Int32) : Option (Int32 × ST) := (some (setI σ 8 (y1))).bind fun σ58 => some (1, σ58)
def M_X6_frogs (σ : ST) (a1 : Int32) : Option (Int32 × ST) := if a1 < 0 then some ((-1), σ) else if a1 ≤ 99 then (M_X4_look σ).bind fun o16 => (M_X4_keepThoseWhoDraw o16 a1).bind fun o24 => (M_X4_howManyOpen o24).bind fun o31 => (M_X6_tell o24 o31.toInt64 1).bind fun o39 => if o31 = 0 then M_X6_frogs_58 o39 0 else (M_X4_inAll o39).bind fun o55 => M_X6_frogs_58 o39 o55 else some ((-1), σ)
abbrev rm_X6_frogs : Room := { frames := 5, cells := 0, slots := 0, locals := 109 }
set_option maxRecDepth 100000 in
set_option maxHeartbeats 4000000 in
theorem c_X6_frogs (l : Launch) (d : CD) (q : Nat → Nat) (σ : ST) (a1 : Int32) (out : Int32 × ST) (hm : M_X6_frogs σ a1 = some out) : MetI l yX6_frogs cX6_frogs 3 (some .int) rm_X6_frogs d (cw q d σ) [.ref (q 0), .int a1] out.1 (cw q d out.2) := by
  refine mkI (own := RX6) (by decide +kernel) rfl (Nat.le_of_ble_eq_true rfl) ?_
  intro p e s m below meth c A ls C hS hl
  obtain ⟨hx, hb, hml, hown, hts, -⟩ := id C
  have hl : lv_has ls 3 [(0, .ref (q 0)), (1, .int a1)] := hl
  have J58 : ∀ (σ : ST) (y1 : Int32) (H : Heap) (locs : List Loc) (ls : Array Slot), HS d A s.heap H locs (cw q d σ) → lv_has ls 3 [] → M_X6_frogs_58 σ y1 = some out → WI p l e rm_X6_frogs s m [.ref (q 0), .int a1].toArray below meth c A d H locs out.1 (cw q d out.2) (F0 m 58 ls [.int y1, .ref (q 0)]) := by
    intro σ y1 H locs ls hS hl hm
    unfold M_X6_frogs_58 at hm
    obtain ⟨σ58, e58, hm⟩ := ob hm
    refine p_6_60_0 C hS e58 dX6_frogs_58 (fun H locs hS => ?_)
    refine lv_iconst (v := 1) hx hb dX6_frogs_61 (by decide) ?_
    exact retIw (wf := cw q d) C hS hm dX6_frogs_62
  unfold M_X6_frogs at hm
  refine lv_iload_n hx hb dX6_frogs_0 rfl (lv_at hl 1 rfl) ?_
  refine lv_if_lt (tgt := 10) hx hb dX6_frogs_1 (by decide) (fun c1 => ?_) (fun c1 => ?_)
  · replace hm := it c1 hm
    refine lv_iconst (v := (-1)) hx hb dX6_frogs_10 (by decide) ?_
    exact retIw (wf := cw q d) C hS hm dX6_frogs_11
  · replace hm := ie c1 hm
    refine lv_iload_n hx hb dX6_frogs_4 rfl (lv_at hl 1 rfl) ?_
    refine lv_bipush (v := 99) hx hb dX6_frogs_5 (by decide) ?_
    refine lv_icmp_le (tgt := 12) hx hb dX6_frogs_7 (by decide) (fun c7 => ?_) (fun c7 => ?_)
    · replace hm := it c7 hm
      refine lv_aload_n hx hb dX6_frogs_12 rfl (lv_at hl 0 rfl) ?_
      refine g_6_42_0 C hS dX6_frogs_13 ?_
      obtain ⟨o16, e16, hm⟩ := ob hm
      refine after_v C hS (call_V (As := []) C hS (c_X4_look l d q σ o16 e16 _) iv_6_203 ⟨rfl, rfl, Nat.le_of_ble_eq_true rfl, Nat.le_of_ble_eq_true rfl⟩ cw_o32 rfl rfl rfl hl.1 (Nat.le_of_ble_eq_true rfl) dX6_frogs_16) (fun H locs hS => ?_)
      refine lv_aload_n hx hb dX6_frogs_19 rfl (lv_at hl 0 rfl) ?_
      refine g_6_42_0 C hS dX6_frogs_20 ?_
      refine lv_iload_n hx hb dX6_frogs_23 rfl (lv_at hl 1 rfl) ?_
      obtain ⟨o24, e24, hm⟩ := ob hm
      refine after_v C hS (call_V (As := [.int a1]) C hS (c_X4_keepThoseWhoDraw l d q o16 a1 o24 e24 _) iv_6_258 ⟨rfl, rfl, Nat.le_of_ble_eq_true rfl, Nat.le_of_ble_eq_true rfl⟩ cw_o32 rfl rfl rfl hl.1 (Nat.le_of_ble_eq_true rfl) dX6_frogs_24) (fun H locs hS => ?_)
      refine lv_aload_n hx hb dX6_frogs_27 rfl (lv_at hl 0 rfl) ?_
      refine g_6_42_0 C hS dX6_frogs_28 ?_
      obtain ⟨o31, e31, hm⟩ := ob hm
      refine after_i C hS (call_V (As := []) C hS (c_X4_howManyOpen l d q o24 o31 e31 _) iv_6_206 ⟨rfl, rfl, Nat.le_of_ble_eq_true rfl, Nat.le_of_ble_eq_true rfl⟩ cw_o32 rfl rfl rfl hl.1 (Nat.le_of_ble_eq_true rfl) dX6_frogs_31) (fun H locs hS => ?_)
      refine lv_istore_n (lv' := [(2, .int o31), (0, .ref (q 0)), (1, .int a1)]) hx hb dX6_frogs_34 rfl hl (by decide) rfl (fun ls hl => ?_)
      refine lv_aload_n hx hb dX6_frogs_35 rfl (lv_at hl 1 rfl) ?_
      refine lv_iload_n hx hb dX6_frogs_36 rfl (lv_at hl 0 rfl) ?_
      refine lv_i2l (v := o31.toInt64) hx hb dX6_frogs_37 rfl ?_
      refine lv_lconst (v := 1) hx hb dX6_frogs_38 (by decide) ?_
      obtain ⟨o39, e39, hm⟩ := ob hm
      refine after_v C hS (call_V (As := [.long o31.toInt64, .long 1]) C hS (c_X6_tell l d q o24 o31.toInt64 1 o39 e39 _) iv_6_209 ⟨rfl, rfl, Nat.le_of_ble_eq_true rfl, Nat.le_of_ble_eq_true rfl⟩ cw_o0 rfl rfl rfl hl.1 (Nat.le_of_ble_eq_true rfl) dX6_frogs_39) (fun H locs hS => ?_)
      refine lv_aload_n hx hb dX6_frogs_42 rfl (lv_at hl 1 rfl) ?_
      refine lv_iload_n hx hb dX6_frogs_43 rfl (lv_at hl 0 rfl) ?_
      refine lv_if_ne (tgt := 51) hx hb dX6_frogs_44 (by decide) (fun c44 => ?_) (fun c44 => ?_)
      · replace hm := ie c44 hm
        refine lv_aload_n hx hb dX6_frogs_51 rfl (lv_at hl 1 rfl) ?_
        refine g_6_42_0 C hS dX6_frogs_52 ?_
        obtain ⟨o55, e55, hm⟩ := ob hm
        refine after_i C hS (call_V (As := []) C hS (c_X4_inAll l d q o39 o55 e55 _) iv_6_219 ⟨rfl, rfl, Nat.le_of_ble_eq_true rfl, Nat.le_of_ble_eq_true rfl⟩ cw_o32 rfl rfl rfl hl.1 (Nat.le_of_ble_eq_true rfl) dX6_frogs_55) (fun H locs hS => ?_)
        exact J58 o39 o55 _ _ _ hS (lv_sub hl [] rfl) hm
      · replace hm := it c44 hm
        refine lv_iconst (v := 0) hx hb dX6_frogs_47 (by decide) ?_
        refine lv_goto (tgt := 58) hx hb dX6_frogs_48 (by decide) ?_
        exact J58 o39 0 _ _ _ hS (lv_sub hl [] rfl) hm
    · replace hm := ie c7 hm
      refine lv_iconst (v := (-1)) hx hb dX6_frogs_10 (by decide) ?_
      exact retIw (wf := cw q d) C hS hm dX6_frogs_11
def M_X6_fitsDouble_90 (σ : ST) (k2 : Int32 → Int32 → Int32 → Option Int32) (x1 : Int32) (x2 : Int32) (x3 : Int32) (y0 : Int32) (y1 : Int32) : Option Int32 := if y0 = y1 then k2 x1 x2 (x3 + 2) else okZ 0
def M_X6_fitsDouble_46 (σ : ST) (k2 : Int32 → Int32 → Int32 → Option Int32) (x1 : Int32) (x2 : Int32) (x3 : Int32) (x4 : Int32) (y0 : Int32) (y1 : Int32) : Option Int32 := (M_X5_wouldOpen σ x4 (y0 + y1) (σ.1 30)).bind fun o67 => (M_X3_get_r σ x1 (x3 + 1)).bind fun o78 => if o78 = 1 then M_X6_fitsDouble_90 σ k2 x1 x2 x3 o67 1 else M_X6_fitsDouble_90 σ k2 x1 x2 x3 o67 0
def M_X6_fitsDouble_2 (σ : ST) : Nat → Int32 → Int32 → Int32 → Option Int32
  | 0, _, _, _ => none
  | n + 1, x1, x2, x3 => (M_X3_sizeOf_r σ x1).bind fun o10 => if o10 ≤ (x3 + 1) then okZ 1 else (M_X3_get_r σ x1 x3).bind fun o22 => (M_J6_bitCount_0f7a4 o22).bind fun o29 => (M_X6_isIn x2 o22).bind fun o35 => if o35 = 0 then M_X6_fitsDouble_46 σ (M_X6_fitsDouble_2 σ n) x1 x2 x3 o22 o29 0 else M_X6_fitsDouble_46 σ (M_X6_fitsDouble_2 σ n) x1 x2 x3 o22 o29 1
def M_X6_fitsDouble (σ : ST) (a1 : Int32) (a2 : Int32) : Option Int32 := M_X6_fitsDouble_2 σ 10000 a1 a2 0
abbrev rm_X6_fitsDouble : Room := { frames := 4, cells := 0, slots := 0, locals := 86 }
set_option maxRecDepth 100000 in
set_option maxHeartbeats 4000000 in
theorem c_X6_fitsDouble (l : Launch) (d : CD) (q : Nat → Nat) (σ : ST) (a1 : Int32) (a2 : Int32) (out : Int32) (hm : M_X6_fitsDouble σ a1 a2 = some out) : MetI l yX6_fitsDouble cX6_fitsDouble 6 (some .boolean) rm_X6_fitsDouble d (cw q d σ) [.ref (q 0), .int a1, .int a2] out (cw q d σ) := by
  refine mkI (own := RX6) (by decide +kernel) rfl (Nat.le_of_ble_eq_true rfl) ?_
  intro p e s m below meth c A ls C hS hl
  obtain ⟨hx, hb, hml, hown, hts, -⟩ := id C
  have hl : lv_has ls 6 [(0, .ref (q 0)), (1, .int a1), (2, .int a2)] := hl
  have J90 : ∀ (k2 : Int32 → Int32 → Int32 → Option Int32) (hk2 : ∀ (x1 : Int32) (x2 : Int32) (x3 : Int32) (H : Heap) (locs : List Loc) (ls : Array Slot), HS d A s.heap H locs (cw q d σ) → lv_has ls 6 [(0, .ref (q 0)), (1, .int x1), (2, .int x2), (3, .int x3)] → k2 x1 x2 x3 = some out → WI p l e rm_X6_fitsDouble s m [.ref (q 0), .int a1, .int a2].toArray below meth c A d H locs out (cw q d σ) (F0 m 2 ls [])) (x1 : Int32) (x2 : Int32) (x3 : Int32) (y0 : Int32) (y1 : Int32) (H : Heap) (locs : List Loc) (ls : Array Slot), HS d A s.heap H locs (cw q d σ) → lv_has ls 6 [(0, .ref (q 0)), (1, .int x1), (2, .int x2), (3, .int x3)] → M_X6_fitsDouble_90 σ k2 x1 x2 x3 y0 y1 = some out → WI p l e rm_X6_fitsDouble s m [.ref (q 0), .int a1, .int a2].toArray below meth c A d H locs out (cw q d σ) (F0 m 90 ls [.int y1, .int y0]) := by
    intro k2 hk2 x1 x2 x3 y0 y1 H locs ls hS hl hm
    unfold M_X6_fitsDouble_90 at hm
    refine lv_icmp_eq (tgt := 95) hx hb dX6_fitsDouble_90 (by decide) (fun c90 => ?_) (fun c90 => ?_)
    · replace hm := it c90 hm
      refine lv_iinc (v := x3 + 2) (lv' := [(3, .int (x3 + 2)), (0, .ref (q 0)), (1, .int x1), (2, .int x2)]) hx hb dX6_fitsDouble_95 hl (k := 3) rfl rfl (by decide) rfl (fun ls hl => ?_)
      refine lv_goto (tgt := 2) hx hb dX6_fitsDouble_98 (by decide) ?_
      exact hk2 x1 x2 (x3 + 2) _ _ _ hS (lv_sub hl [1, 2, 3, 0] rfl) hm
    · replace hm := ie c90 hm
      refine lv_iconst (v := 0) hx hb dX6_fitsDouble_93 (by decide) ?_
      exact retZr C hS hm dX6_fitsDouble_94
  have J46 : ∀ (k2 : Int32 → Int32 → Int32 → Option Int32) (hk2 : ∀ (x1 : Int32) (x2 : Int32) (x3 : Int32) (H : Heap) (locs : List Loc) (ls : Array Slot), HS d A s.heap H locs (cw q d σ) → lv_has ls 6 [(0, .ref (q 0)), (1, .int x1), (2, .int x2), (3, .int x3)] → k2 x1 x2 x3 = some out → WI p l e rm_X6_fitsDouble s m [.ref (q 0), .int a1, .int a2].toArray below meth c A d H locs out (cw q d σ) (F0 m 2 ls [])) (x1 : Int32) (x2 : Int32) (x3 : Int32) (x4 : Int32) (y0 : Int32) (y1 : Int32) (H : Heap) (locs : List Loc) (ls : Array Slot), HS d A s.heap H locs (cw q d σ) → lv_has ls 6 [(0, .ref (q 0)), (1, .int x1), (2, .int x2), (3, .int x3), (4, .int x4)] → M_X6_fitsDouble_46 σ k2 x1 x2 x3 x4 y0 y1 = some out → WI p l e rm_X6_fitsDouble s m [.ref (q 0), .int a1, .int a2].toArray below meth c A d H locs out (cw q d σ) (F0 m 46 ls [.int y1, .int y0]) := by
    intro k2 hk2 x1 x2 x3 x4 y0 y1 H locs ls hS hl hm
    unfold M_X6_fitsDouble_46 at hm
    refine lv_iadd hx hb dX6_fitsDouble_46 ?_
    refine lv_istore (lv' := [(5, .int (y0 + y1)), (0, .ref (q 0)), (1, .int x1), (2, .int x2), (3, .int x3), (4, .int x4)]) hx hb dX6_fitsDouble_47 hl (by decide) rfl (fun ls hl => ?_)
    refine lv_aload_n hx hb dX6_fitsDouble_49 rfl (lv_at hl 1 rfl) ?_
    refine g_6_33_0 C hS dX6_fitsDouble_50 ?_
    refine lv_iload hx hb dX6_fitsDouble_53 (lv_at hl 5 rfl) ?_
    refine lv_iload hx hb dX6_fitsDouble_55 (lv_at hl 0 rfl) ?_
    refine lv_aload_n hx hb dX6_fitsDouble_57 rfl (lv_at hl 1 rfl) ?_
    refine g_6_33_0 C hS dX6_fitsDouble_58 ?_
    refine g_6_125_22 C hS dX6_fitsDouble_61 ?_
    refine g_6_322_23 C hS dX6_fitsDouble_64 ?_
    obtain ⟨o67, e67, hm⟩ := ob hm
    refine after_i C hS (call_V (As := [.int x4, .int (y0 + y1), .int (σ.1 30)]) C hS (c_X5_wouldOpen l d q σ x4 (y0 + y1) (σ.1 30) o67 e67 _) iv_6_343 ⟨rfl, rfl, Nat.le_of_ble_eq_true rfl, Nat.le_of_ble_eq_true rfl⟩ cw_o22 rfl rfl rfl hl.1 (Nat.le_of_ble_eq_true rfl) dX6_fitsDouble_67) (fun H locs hS => ?_)
    refine lv_aload_n hx hb dX6_fitsDouble_70 rfl (lv_at hl 1 rfl) ?_
    refine g_6_14_0 C hS dX6_fitsDouble_71 ?_
    refine lv_iload_n hx hb dX6_fitsDouble_74 rfl (lv_at hl 2 rfl) ?_
    refine lv_iload_n hx hb dX6_fitsDouble_75 rfl (lv_at hl 4 rfl) ?_
    refine lv_iconst (v := 1) hx hb dX6_fitsDouble_76 (by decide) ?_
    refine lv_iadd hx hb dX6_fitsDouble_77 ?_
    obtain ⟨o78, e78, hm⟩ := ob hm
    refine after_i C hS (call_V (As := [.int x1, .int (x3 + 1)]) C hS (c_X3_get_r l d q σ x1 (x3 + 1) o78 e78 _) iv_6_81 ⟨rfl, rfl, Nat.le_of_ble_eq_true rfl, Nat.le_of_ble_eq_true rfl⟩ cw_o1 rfl rfl rfl hl.1 (Nat.le_of_ble_eq_true rfl) dX6_fitsDouble_78) (fun H locs hS => ?_)
    refine lv_iconst (v := 1) hx hb dX6_fitsDouble_81 (by decide) ?_
    refine lv_icmp_ne (tgt := 89) hx hb dX6_fitsDouble_82 (by decide) (fun c82 => ?_) (fun c82 => ?_)
    · replace hm := ie c82 hm
      refine lv_iconst (v := 0) hx hb dX6_fitsDouble_89 (by decide) ?_
      exact J90 k2 hk2 x1 x2 x3 o67 0 _ _ _ hS (lv_sub hl [1, 2, 3, 4] rfl) hm
    · replace hm := it c82 hm
      refine lv_iconst (v := 1) hx hb dX6_fitsDouble_85 (by decide) ?_
      refine lv_goto (tgt := 90) hx hb dX6_fitsDouble_86 (by decide) ?_
      exact J90 k2 hk2 x1 x2 x3 o67 1 _ _ _ hS (lv_sub hl [1, 2, 3, 4] rfl) hm
  have L2 : ∀ (n : Nat) (x1 : Int32) (x2 : Int32) (x3 : Int32) (H : Heap) (locs : List Loc) (ls : Array Slot), HS d A s.heap H locs (cw q d σ) → lv_has ls 6 [(0, .ref (q 0)), (1, .int x1), (2, .int x2), (3, .int x3)] → M_X6_fitsDouble_2 σ n x1 x2 x3 = some out → WI p l e rm_X6_fitsDouble s m [.ref (q 0), .int a1, .int a2].toArray below meth c A d H locs out (cw q d σ) (F0 m 2 ls []) := by
    intro n
    induction n with
    | zero =>
      intro x1 x2 x3 H locs ls hS hl hm
      exact absurd hm (by rw [M_X6_fitsDouble_2]; exact fun h => nomatch h)
    | succ n ih =>
      intro x1 x2 x3 H locs ls hS hl hm
      rw [M_X6_fitsDouble_2] at hm
      refine lv_iload_n hx hb dX6_fitsDouble_2 rfl (lv_at hl 3 rfl) ?_
      refine lv_iconst (v := 1) hx hb dX6_fitsDouble_3 (by decide) ?_
      refine lv_iadd hx hb dX6_fitsDouble_4 ?_
      refine lv_aload_n hx hb dX6_fitsDouble_5 rfl (lv_at hl 0 rfl) ?_
      refine g_6_14_0 C hS dX6_fitsDouble_6 ?_
      refine lv_iload_n hx hb dX6_fitsDouble_9 rfl (lv_at hl 1 rfl) ?_
      obtain ⟨o10, e10, hm⟩ := ob hm
      refine after_i C hS (call_V (As := [.int x1]) C hS (c_X3_sizeOf_r l d q σ x1 o10 e10 _) iv_6_115 ⟨rfl, rfl, Nat.le_of_ble_eq_true rfl, Nat.le_of_ble_eq_true rfl⟩ cw_o1 rfl rfl rfl hl.1 (Nat.le_of_ble_eq_true rfl) dX6_fitsDouble_10) (fun H locs hS => ?_)
      refine lv_icmp_ge (tgt := 101) hx hb dX6_fitsDouble_13 (by decide) (fun c13 => ?_) (fun c13 => ?_)
      · replace hm := it c13 hm
        refine lv_iconst (v := 1) hx hb dX6_fitsDouble_101 (by decide) ?_
        exact retZr C hS hm dX6_fitsDouble_102
      · replace hm := ie c13 hm
        refine lv_aload_n hx hb dX6_fitsDouble_16 rfl (lv_at hl 0 rfl) ?_
        refine g_6_14_0 C hS dX6_fitsDouble_17 ?_
        refine lv_iload_n hx hb dX6_fitsDouble_20 rfl (lv_at hl 1 rfl) ?_
        refine lv_iload_n hx hb dX6_fitsDouble_21 rfl (lv_at hl 3 rfl) ?_
        obtain ⟨o22, e22, hm⟩ := ob hm
        refine after_i C hS (call_V (As := [.int x1, .int x3]) C hS (c_X3_get_r l d q σ x1 x3 o22 e22 _) iv_6_81 ⟨rfl, rfl, Nat.le_of_ble_eq_true rfl, Nat.le_of_ble_eq_true rfl⟩ cw_o1 rfl rfl rfl hl.1 (Nat.le_of_ble_eq_true rfl) dX6_fitsDouble_22) (fun H locs hS => ?_)
        refine lv_istore (lv' := [(4, .int o22), (0, .ref (q 0)), (1, .int x1), (2, .int x2), (3, .int x3)]) hx hb dX6_fitsDouble_25 hl (by decide) rfl (fun ls hl => ?_)
        refine lv_iload hx hb dX6_fitsDouble_27 (lv_at hl 0 rfl) ?_
        obtain ⟨o29, e29, hm⟩ := ob hm
        refine after_i C hS (call_S (As := [.int o22]) C hS (c_J6_bitCount_0f7a4 l d (cw q d σ) o22 o29 e29 _) is_6_244 ⟨rfl, rfl, Nat.le_of_ble_eq_true rfl, Nat.le_of_ble_eq_true rfl⟩ rfl hl.1 (Nat.le_of_ble_eq_true rfl) dX6_fitsDouble_29) (fun H locs hS => ?_)
        refine lv_iload_n hx hb dX6_fitsDouble_32 rfl (lv_at hl 3 rfl) ?_
        refine lv_iload hx hb dX6_fitsDouble_33 (lv_at hl 0 rfl) ?_
        obtain ⟨o35, e35, hm⟩ := ob hm
        refine after_i C hS (call_S (As := [.int x2, .int o22]) C hS (c_X6_isIn l d (cw q d σ) x2 o22 o35 e35 _) is_6_337 ⟨rfl, rfl, Nat.le_of_ble_eq_true rfl, Nat.le_of_ble_eq_true rfl⟩ rfl hl.1 (Nat.le_of_ble_eq_true rfl) dX6_fitsDouble_35) (fun H locs hS => ?_)
        refine lv_if_eq (tgt := 45) hx hb dX6_fitsDouble_38 (by decide) (fun c38 => ?_) (fun c38 => ?_)
        · replace hm := it c38 hm
          refine lv_iconst (v := 0) hx hb dX6_fitsDouble_45 (by decide) ?_
          exact J46 (M_X6_fitsDouble_2 σ n) ih x1 x2 x3 o22 o29 0 _ _ _ hS (lv_sub hl [1, 2, 3, 4, 0] rfl) hm
        · replace hm := ie c38 hm
          refine lv_iconst (v := 1) hx hb dX6_fitsDouble_41 (by decide) ?_
          refine lv_goto (tgt := 46) hx hb dX6_fitsDouble_42 (by decide) ?_
          exact J46 (M_X6_fitsDouble_2 σ n) ih x1 x2 x3 o22 o29 1 _ _ _ hS (lv_sub hl [1, 2, 3, 4, 0] rfl) hm
  unfold M_X6_fitsDouble at hm
  refine lv_iconst (v := 0) hx hb dX6_fitsDouble_0 (by decide) ?_
  refine lv_istore_n (lv' := [(3, .int 0), (0, .ref (q 0)), (1, .int a1), (2, .int a2)]) hx hb dX6_fitsDouble_1 rfl hl (by decide) rfl (fun ls hl => ?_)
  exact L2 10000 a1 a2 0 _ _ _ hS (lv_sub hl [1, 2, 3, 0] rfl) hm
