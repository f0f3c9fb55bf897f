def M_X5_drawnBy_4 (σ : ST) : Nat → Int32 → Int32 → Int32 → Option Int32
  | 0, _, _, _ => none
  | n + 1, x1, x2, x3 => if (σ.1 33) ≤ x3 then some (if (σ.1 35) < x2 then (σ.1 35) else x2) else (M_X6_isIn x3 x1).bind fun o17 => if o17 = 0 then M_X5_drawnBy_4 σ n x1 x2 (x3 + 1) else (M_X5_wantsYet σ x3).bind fun o26 => M_X5_drawnBy_4 σ n x1 (x2 + o26) (x3 + 1)
def M_X5_drawnBy (σ : ST) (a1 : Int32) : Option Int32 := M_X5_drawnBy_4 σ 10000 a1 0 0
abbrev rm_X5_drawnBy : Room := { frames := 2, cells := 0, slots := 0, locals := 42 }
set_option maxRecDepth 100000 in
set_option maxHeartbeats 4000000 in
theorem c_X5_drawnBy (l : Launch) (d : CD) (q : Nat → Nat) (σ : ST) (a1 : Int32) (out : Int32) (hm : M_X5_drawnBy σ a1 = some out) : MetI l yX5_drawnBy cX5_drawnBy 4 (some .int) rm_X5_drawnBy d (cw q d σ) [.ref (q 22), .int a1] out (cw q d σ) := by
  refine mkI (own := RX5) (by decide +kernel) rfl (Nat.le_of_ble_eq_true rfl) ?_
  intro p e s m below meth c A ls C hS hl
  obtain ⟨hx, hb, hml, hown, hts, -⟩ := id C
  have hl : lv_has ls 4 [(0, .ref (q 22)), (1, .int a1)] := hl
  have L4 : ∀ (n : Nat) (x1 : Int32) (x2 : Int32) (x3 : Int32) (H : Heap) (locs : List Loc) (ls : Array Slot), HS d A s.heap H locs (cw q d σ) → lv_has ls 4 [(0, .ref (q 22)), (1, .int x1), (2, .int x2), (3, .int x3)] → M_X5_drawnBy_4 σ n x1 x2 x3 = some out → WI p l e rm_X5_drawnBy s m [.ref (q 22), .int a1].toArray below meth c A d H locs out (cw q d σ) (F0 m 4 ls []) := by
    intro n
    induction n with
    | zero =>
      intro x1 x2 x3 H locs ls hS hl hm
      exact absurd hm (by rw [M_X5_drawnBy_4]; exact fun h => nomatch h)
    | succ n ih =>
      intro x1 x2 x3 H locs ls hS hl hm
      rw [M_X5_drawnBy_4] at hm
      refine lv_iload_n hx hb dX5_drawnBy_4 rfl (lv_at hl 3 rfl) ?_
      refine lv_aload_n hx hb dX5_drawnBy_5 rfl (lv_at hl 0 rfl) ?_
      refine g_5_12_22 C hS dX5_drawnBy_6 ?_
      refine g_5_95_23 C hS dX5_drawnBy_9 ?_
      refine lv_icmp_ge (tgt := 37) hx hb dX5_drawnBy_12 (by decide) (fun c12 => ?_) (fun c12 => ?_)
      · replace hm := it c12 hm
        refine lv_iload_n hx hb dX5_drawnBy_37 rfl (lv_at hl 2 rfl) ?_
        refine lv_aload_n hx hb dX5_drawnBy_38 rfl (lv_at hl 0 rfl) ?_
        refine g_5_47_22 C hS dX5_drawnBy_39 ?_
        refine mmin' C hl.1 mm_X5_80 ⟨Nat.le_of_ble_eq_true rfl, Nat.le_of_ble_eq_true rfl⟩ (Nat.le_of_ble_eq_true rfl) dX5_drawnBy_42 ?_
        exact retIr C hS hm dX5_drawnBy_45
      · replace hm := ie c12 hm
        refine lv_iload_n hx hb dX5_drawnBy_15 rfl (lv_at hl 3 rfl) ?_
        refine lv_iload_n hx hb dX5_drawnBy_16 rfl (lv_at hl 1 rfl) ?_
        obtain ⟨o17, e17, hm⟩ := ob hm
        refine after_i C hS (call_N (As := [.int x3, .int x1]) C hS (c_X6_isIn l d (cw q d σ) x3 x1 o17 e17 _) is_5_109 ⟨rfl, rfl, Nat.le_of_ble_eq_true rfl, Nat.le_of_ble_eq_true rfl⟩ rfl hl.1 (Nat.le_of_ble_eq_true rfl) dX5_drawnBy_17) (fun H locs hS => ?_)
        refine lv_if_eq (tgt := 31) hx hb dX5_drawnBy_20 (by decide) (fun c20 => ?_) (fun c20 => ?_)
        · replace hm := it c20 hm
          refine lv_iinc (v := x3 + 1) (lv' := [(3, .int (x3 + 1)), (0, .ref (q 22)), (1, .int x1), (2, .int x2)]) hx hb dX5_drawnBy_31 hl (k := 3) rfl rfl (by decide) rfl (fun ls hl => ?_)
          refine lv_goto (tgt := 4) hx hb dX5_drawnBy_34 (by decide) ?_
          exact ih x1 x2 (x3 + 1) _ _ _ hS (lv_sub hl [1, 2, 3, 0] rfl) hm
        · replace hm := ie c20 hm
          refine lv_iload_n hx hb dX5_drawnBy_23 rfl (lv_at hl 2 rfl) ?_
          refine lv_aload_n hx hb dX5_drawnBy_24 rfl (lv_at hl 0 rfl) ?_
          refine lv_iload_n hx hb dX5_drawnBy_25 rfl (lv_at hl 3 rfl) ?_
          obtain ⟨o26, e26, hm⟩ := ob hm
          refine after_i C hS (call_V (As := [.int x3]) C hS (c_X5_wantsYet l d q σ x3 o26 e26 _) iv_5_77 ⟨rfl, rfl, Nat.le_of_ble_eq_true rfl, Nat.le_of_ble_eq_true rfl⟩ cw_o22 rfl rfl rfl hl.1 (Nat.le_of_ble_eq_true rfl) dX5_drawnBy_26) (fun H locs hS => ?_)
          refine lv_iadd hx hb dX5_drawnBy_29 ?_
          refine lv_istore_n (lv' := [(2, .int (x2 + o26)), (0, .ref (q 22)), (1, .int x1), (3, .int x3)]) hx hb dX5_drawnBy_30 rfl hl (by decide) rfl (fun ls hl => ?_)
          refine lv_iinc (v := x3 + 1) (lv' := [(3, .int (x3 + 1)), (2, .int (x2 + o26)), (0, .ref (q 22)), (1, .int x1)]) hx hb dX5_drawnBy_31 hl (k := 3) rfl rfl (by decide) rfl (fun ls hl => ?_)
          refine lv_goto (tgt := 4) hx hb dX5_drawnBy_34 (by decide) ?_
          exact ih x1 (x2 + o26) (x3 + 1) _ _ _ hS (lv_sub hl [2, 3, 1, 0] rfl) hm
  unfold M_X5_drawnBy at hm
  refine lv_iconst (v := 0) hx hb dX5_drawnBy_0 (by decide) ?_
  refine lv_istore_n (lv' := [(2, .int 0), (0, .ref (q 22)), (1, .int a1)]) hx hb dX5_drawnBy_1 rfl hl (by decide) rfl (fun ls hl => ?_)
  refine lv_iconst (v := 0) hx hb dX5_drawnBy_2 (by decide) ?_
  refine lv_istore_n (lv' := [(3, .int 0), (2, .int 0), (0, .ref (q 22)), (1, .int a1)]) hx hb dX5_drawnBy_3 rfl hl (by decide) rfl (fun ls hl => ?_)
  exact L4 10000 a1 0 0 _ _ _ hS (lv_sub hl [2, 3, 1, 0] rfl) hm
def M_X4_keepThoseWhoDraw_41 (k2 : ST → Int32 → Int32 → Option ST) (σ : ST) (x1 : Int32) (x2 : Int32) (y1 : Int32) (y2 : Int32) : Option ST := (okZ y2).bind fun z41 => (wrA 128 σ 33 y1 z41).bind fun σ41 => k2 σ41 x1 (x2 + 1)
def M_X4_keepThoseWhoDraw_40 (k2 : ST → Int32 → Int32 → Option ST) (σ : ST) (x1 : Int32) (x2 : Int32) (y1 : Int32) : Option ST := M_X4_keepThoseWhoDraw_41 k2 σ x1 x2 y1 0
def M_X4_keepThoseWhoDraw_2 : Nat → ST → Int32 → Int32 → Option ST
  | 0, _, _, _ => none
  | n + 1, σ, x1, x2 => if (σ.1 38) ≤ x2 then some σ else (rd 128 (σ.2.2 33) x2).bind fun v20 => if v20 = 0 then M_X4_keepThoseWhoDraw_40 (M_X4_keepThoseWhoDraw_2 n) σ x1 x2 x2 else (M_X5_drawnBy σ x2).bind fun o29 => if o29 = x1 then M_X4_keepThoseWhoDraw_41 (M_X4_keepThoseWhoDraw_2 n) σ x1 x2 x2 1 else M_X4_keepThoseWhoDraw_40 (M_X4_keepThoseWhoDraw_2 n) σ x1 x2 x2
def M_X4_keepThoseWhoDraw (σ : ST) (a1 : Int32) : Option ST := M_X4_keepThoseWhoDraw_2 10000 σ a1 0
abbrev rm_X4_keepThoseWhoDraw : Room := { frames := 3, cells := 0, slots := 0, locals := 65 }
set_option maxRecDepth 100000 in
set_option maxHeartbeats 4000000 in
theorem c_X4_keepThoseWhoDraw (l : Launch) (d : CD) (q : Nat → Nat) (σ : ST) (a1 : Int32) (out : ST) (hm : M_X4_keepThoseWhoDraw σ a1 = some out) : MetV l yX4_keepThoseWhoDraw cX4_keepThoseWhoDraw 3 (none) rm_X4_keepThoseWhoDraw d (cw q d σ) [.ref (q 32), .int a1] (cw q d out) := by
  refine mkV (own := RX4) (by decide +kernel) rfl (Nat.le_of_ble_eq_true rfl) ?_
  intro p e s m below meth c A ls C hS hl
  obtain ⟨hx, hb, hml, hown, hts, -⟩ := id C
  have hl : lv_has ls 3 [(0, .ref (q 32)), (1, .int a1)] := hl
  have J41 : ∀ (k2 : ST → Int32 → Int32 → Option ST) (hk2 : ∀ (σ : ST) (x1 : Int32) (x2 : Int32) (H : Heap) (locs : List Loc) (ls : Array Slot), HS d A s.heap H locs (cw q d σ) → lv_has ls 3 [(0, .ref (q 32)), (1, .int x1), (2, .int x2)] → k2 σ x1 x2 = some out → WV p l e rm_X4_keepThoseWhoDraw s m [.ref (q 32), .int a1].toArray below meth c A d H locs (cw q d out) (F0 m 2 ls [])) (σ : ST) (x1 : Int32) (x2 : Int32) (y1 : Int32) (y2 : Int32) (H : Heap) (locs : List Loc) (ls : Array Slot), HS d A s.heap H locs (cw q d σ) → lv_has ls 3 [(0, .ref (q 32)), (1, .int x1), (2, .int x2)] → M_X4_keepThoseWhoDraw_41 k2 σ x1 x2 y1 y2 = some out → WV p l e rm_X4_keepThoseWhoDraw s m [.ref (q 32), .int a1].toArray below meth c A d H locs (cw q d out) (F0 m 41 ls [.int y2, .int y1, .ref (q 33)]) := by
    intro k2 hk2 σ x1 x2 y1 y2 H locs ls hS hl hm
    unfold M_X4_keepThoseWhoDraw_41 at hm
    obtain ⟨z41, ez41, hm⟩ := ob hm
    obtain ⟨σ41, e41, hm⟩ := ob hm
    refine zast' (wf := cw q d) C hS cw_a33 cw_s33 ez41 e41 dX4_keepThoseWhoDraw_41 (fun H locs hS => ?_)
    refine lv_iinc (v := x2 + 1) (lv' := [(2, .int (x2 + 1)), (0, .ref (q 32)), (1, .int x1)]) hx hb dX4_keepThoseWhoDraw_42 hl (k := 2) rfl rfl (by decide) rfl (fun ls hl => ?_)
    refine lv_goto (tgt := 2) hx hb dX4_keepThoseWhoDraw_45 (by decide) ?_
    exact hk2 σ41 x1 (x2 + 1) _ _ _ hS (lv_sub hl [1, 2, 0] rfl) hm
  have J40 : ∀ (k2 : ST → Int32 → Int32 → Option ST) (hk2 : ∀ (σ : ST) (x1 : Int32) (x2 : Int32) (H : Heap) (locs : List Loc) (ls : Array Slot), HS d A s.heap H locs (cw q d σ) → lv_has ls 3 [(0, .ref (q 32)), (1, .int x1), (2, .int x2)] → k2 σ x1 x2 = some out → WV p l e rm_X4_keepThoseWhoDraw s m [.ref (q 32), .int a1].toArray below meth c A d H locs (cw q d out) (F0 m 2 ls [])) (σ : ST) (x1 : Int32) (x2 : Int32) (y1 : Int32) (H : Heap) (locs : List Loc) (ls : Array Slot), HS d A s.heap H locs (cw q d σ) → lv_has ls 3 [(0, .ref (q 32)), (1, .int x1), (2, .int x2)] → M_X4_keepThoseWhoDraw_40 k2 σ x1 x2 y1 = some out → WV p l e rm_X4_keepThoseWhoDraw s m [.ref (q 32), .int a1].toArray below meth c A d H locs (cw q d out) (F0 m 40 ls [.int y1, .ref (q 33)]) := by
    intro k2 hk2 σ x1 x2 y1 H locs ls hS hl hm
    unfold M_X4_keepThoseWhoDraw_40 at hm
    refine lv_iconst (v := 0) hx hb dX4_keepThoseWhoDraw_40 (by decide) ?_
    exact J41 k2 hk2 σ x1 x2 y1 0 _ _ _ hS (lv_sub hl [0, 1, 2] rfl) hm
  have L2 : ∀ (n : Nat) (σ : ST) (x1 : Int32) (x2 : Int32) (H : Heap) (locs : List Loc) (ls : Array Slot), HS d A s.heap H locs (cw q d σ) → lv_has ls 3 [(0, .ref (q 32)), (1, .int x1), (2, .int x2)] → M_X4_keepThoseWhoDraw_2 n σ x1 x2 = some out → WV p l e rm_X4_keepThoseWhoDraw s m [.ref (q 32), .int a1].toArray below meth c A d H locs (cw q d out) (F0 m 2 ls []) := by
    intro n
    induction n with
    | zero =>
      intro σ x1 x2 H locs ls hS hl hm
      exact absurd hm (by rw [M_X4_keepThoseWhoDraw_2]; exact fun h => nomatch h)
    | succ n ih =>
      intro σ x1 x2 H locs ls hS hl hm
      rw [M_X4_keepThoseWhoDraw_2] at hm
      refine lv_iload_n hx hb dX4_keepThoseWhoDraw_2 rfl (lv_at hl 2 rfl) ?_
      refine lv_aload_n hx hb dX4_keepThoseWhoDraw_3 rfl (lv_at hl 0 rfl) ?_
      refine g_4_35_32 C hS dX4_keepThoseWhoDraw_4 ?_
      refine lv_icmp_ge (tgt := 48) hx hb dX4_keepThoseWhoDraw_7 (by decide) (fun c7 => ?_) (fun c7 => ?_)
      · replace hm := it c7 hm
        exact retVw (wf := cw q d) C hS hm dX4_keepThoseWhoDraw_48
      · replace hm := ie c7 hm
        refine lv_aload_n hx hb dX4_keepThoseWhoDraw_10 rfl (lv_at hl 0 rfl) ?_
        refine g_4_9_32 C hS dX4_keepThoseWhoDraw_11 ?_
        refine lv_iload_n hx hb dX4_keepThoseWhoDraw_14 rfl (lv_at hl 2 rfl) ?_
        refine lv_aload_n hx hb dX4_keepThoseWhoDraw_15 rfl (lv_at hl 0 rfl) ?_
        refine g_4_9_32 C hS dX4_keepThoseWhoDraw_16 ?_
        refine lv_iload_n hx hb dX4_keepThoseWhoDraw_19 rfl (lv_at hl 2 rfl) ?_
        obtain ⟨v20, e20, hm⟩ := ob hm
        refine zald' C hS cw_a33 e20 dX4_keepThoseWhoDraw_20 ?_
        refine lv_if_eq (tgt := 40) hx hb dX4_keepThoseWhoDraw_21 (by decide) (fun c21 => ?_) (fun c21 => ?_)
        · replace hm := it c21 hm
          exact J40 (M_X4_keepThoseWhoDraw_2 n) ih σ x1 x2 x2 _ _ _ hS (lv_sub hl [0, 1, 2] rfl) hm
        · replace hm := ie c21 hm
          refine lv_aload_n hx hb dX4_keepThoseWhoDraw_24 rfl (lv_at hl 0 rfl) ?_
          refine g_4_19_32 C hS dX4_keepThoseWhoDraw_25 ?_
          refine lv_iload_n hx hb dX4_keepThoseWhoDraw_28 rfl (lv_at hl 2 rfl) ?_
          obtain ⟨o29, e29, hm⟩ := ob hm
          refine after_i C hS (call_V (As := [.int x2]) C hS (c_X5_drawnBy l d q σ x2 o29 e29 _) iv_4_42 ⟨rfl, rfl, Nat.le_of_ble_eq_true rfl, Nat.le_of_ble_eq_true rfl⟩ cw_o22 rfl rfl rfl hl.1 (Nat.le_of_ble_eq_true rfl) dX4_keepThoseWhoDraw_29) (fun H locs hS => ?_)
          refine lv_iload_n hx hb dX4_keepThoseWhoDraw_32 rfl (lv_at hl 1 rfl) ?_
          refine lv_icmp_ne (tgt := 40) hx hb dX4_keepThoseWhoDraw_33 (by decide) (fun c33 => ?_) (fun c33 => ?_)
          · replace hm := ie c33 hm
            exact J40 (M_X4_keepThoseWhoDraw_2 n) ih σ x1 x2 x2 _ _ _ hS (lv_sub hl [0, 1, 2] rfl) hm
          · replace hm := it c33 hm
            refine lv_iconst (v := 1) hx hb dX4_keepThoseWhoDraw_36 (by decide) ?_
            refine lv_goto (tgt := 41) hx hb dX4_keepThoseWhoDraw_37 (by decide) ?_
            exact J41 (M_X4_keepThoseWhoDraw_2 n) ih σ x1 x2 x2 1 _ _ _ hS (lv_sub hl [0, 1, 2] rfl) hm
  unfold M_X4_keepThoseWhoDraw at hm
  refine lv_iconst (v := 0) hx hb dX4_keepThoseWhoDraw_0 (by decide) ?_
  refine lv_istore_n (lv' := [(2, .int 0), (0, .ref (q 32)), (1, .int a1)]) hx hb dX4_keepThoseWhoDraw_1 rfl hl (by decide) rfl (fun ls hl => ?_)
  exact L2 10000 σ a1 0 _ _ _ hS (lv_sub hl [1, 2, 0] rfl) hm
def M_X6_frogs_58 (σ : ST) (y1 : Int32) : Option (Int32 × ST) := (some (setI σ 8 (y1))).bind fun σ58 => some (1, σ58)
def M_X6_frogs (σ : ST) (a1 : Int32) : Option (Int32 × ST) := if a1 < 0 then some ((-1), σ) else if a1 ≤ 99 then (M_X4_look σ).bind fun o16 => (M_X4_keepThoseWhoDraw o16 a1).bind fun o24 => (M_X4_howManyOpen o24).bind fun o31 => (M_X6_tell o24 o31.toInt64 1).bind fun o39 => if o31 = 0 then M_X6_frogs_58 o39 0 else (M_X4_inAll o39).bind fun o55 => M_X6_frogs_58 o39 o55 else some ((-1), σ)
abbrev rm_X6_frogs : Room := { frames := 5, cells := 0, slots := 0, locals := 109 }
set_option maxRecDepth 100000 in
set_option maxHeartbeats 4000000 in
theorem c_X6_frogs (l : Launch) (d : CD) (q : Nat → Nat) (σ : ST) (a1 : Int32) (out : Int32 × ST) (hm : M_X6_frogs σ a1 = some out) : MetI l yX6_frogs cX6_frogs 3 (some .int) rm_X6_frogs d (cw q d σ) [.ref (q 0), .int a1] out.1 (cw q d out.2) := by
  refine mkI (own := RX6) (by decide +kernel) rfl (Nat.le_of_ble_eq_true rfl) ?_
  intro p e s m below meth c A ls C hS hl
  obtain ⟨hx, hb, hml, hown, hts, -⟩ := id C
  have hl : lv_has ls 3 [(0, .ref (q 0)), (1, .int a1)] := hl
  have J58 : ∀ (σ : ST) (y1 : Int32) (H : Heap) (locs : List Loc) (ls : Array Slot), HS d A s.heap H locs (cw q d σ) → lv_has ls 3 [] → M_X6_frogs_58 σ y1 = some out → WI p l e rm_X6_frogs s m [.ref (q 0), .int a1].toArray below meth c A d H locs out.1 (cw q d out.2) (F0 m 58 ls [.int y1, .ref (q 0)]) := by
    intro σ y1 H locs ls hS hl hm
    unfold M_X6_frogs_58 at hm
    obtain ⟨σ58, e58, hm⟩ := ob hm
    refine p_6_60_0 C hS e58 dX6_frogs_58 (fun H locs hS => ?_)
    refine lv_iconst (v := 1) hx hb dX6_frogs_61 (by decide) ?_
    exact retIw (wf := cw q d) C hS hm dX6_frogs_62
  unfold M_X6_frogs at hm
  refine lv_iload_n hx hb dX6_frogs_0 rfl (lv_at hl 1 rfl) ?_
  refine lv_if_lt (tgt := 10) hx hb dX6_frogs_1 (by decide) (fun c1 => ?_) (fun c1 => ?_)
  · replace hm := it c1 hm
    refine lv_iconst (v := (-1)) hx hb dX6_frogs_10 (by decide) ?_
    exact retIw (wf := cw q d) C hS hm dX6_frogs_11
  · replace hm := ie c1 hm
    refine lv_iload_n hx hb dX6_frogs_4 rfl (lv_at hl 1 rfl) ?_
    refine lv_bipush (v := 99) hx hb dX6_frogs_5 (by decide) ?_
    refine lv_icmp_le (tgt := 12) hx hb dX6_frogs_7 (by decide) (fun c7 => ?_) (fun c7 => ?_)
    · replace hm := it c7 hm
      refine lv_aload_n hx hb dX6_frogs_12 rfl (lv_at hl 0 rfl) ?_
      refine g_6_42_0 C hS dX6_frogs_13 ?_
      obtain ⟨o16, e16, hm⟩ := ob hm
      refine after_v C hS (call_V (As := []) C hS (c_X4_look l d q σ o16 e16 _) iv_6_203 ⟨rfl, rfl, Nat.le_of_ble_eq_true rfl, Nat.le_of_ble_eq_true rfl⟩ cw_o32 rfl rfl rfl hl.1 (Nat.le_of_ble_eq_true rfl) dX6_frogs_16) (fun H locs hS => ?_)
      refine lv_aload_n hx hb dX6_frogs_19 rfl (lv_at hl 0 rfl) ?_
      refine g_6_42_0 C hS dX6_frogs_20 ?_
      refine lv_iload_n hx hb dX6_frogs_23 rfl (lv_at hl 1 rfl) ?_
      obtain ⟨o24, e24, hm⟩ := ob hm
      refine after_v C hS (call_V (As := [.int a1]) C hS (c_X4_keepThoseWhoDraw l d q o16 a1 o24 e24 _) iv_6_258 ⟨rfl, rfl, Nat.le_of_ble_eq_true rfl, Nat.le_of_ble_eq_true rfl⟩ cw_o32 rfl rfl rfl hl.1 (Nat.le_of_ble_eq_true rfl) dX6_frogs_24) (fun H locs hS => ?_)
      refine lv_aload_n hx hb dX6_frogs_27 rfl (lv_at hl 0 rfl) ?_
      refine g_6_42_0 C hS dX6_frogs_28 ?_
      obtain ⟨o31, e31, hm⟩ := ob hm
      refine after_i C hS (call_V (As := []) C hS (c_X4_howManyOpen l d q o24 o31 e31 _) iv_6_206 ⟨rfl, rfl, Nat.le_of_ble_eq_true rfl, Nat.le_of_ble_eq_true rfl⟩ cw_o32 rfl rfl rfl hl.1 (Nat.le_of_ble_eq_true rfl) dX6_frogs_31) (fun H locs hS => ?_)
      refine lv_istore_n (lv' := [(2, .int o31), (0, .ref (q 0)), (1, .int a1)]) hx hb dX6_frogs_34 rfl hl (by decide) rfl (fun ls hl => ?_)
      refine lv_aload_n hx hb dX6_frogs_35 rfl (lv_at hl 1 rfl) ?_
      refine lv_iload_n hx hb dX6_frogs_36 rfl (lv_at hl 0 rfl) ?_
      refine lv_i2l (v := o31.toInt64) hx hb dX6_frogs_37 rfl ?_
      refine lv_lconst (v := 1) hx hb dX6_frogs_38 (by decide) ?_
      obtain ⟨o39, e39, hm⟩ := ob hm
      refine after_v C hS (call_V (As := [.long o31.toInt64, .long 1]) C hS (c_X6_tell l d q o24 o31.toInt64 1 o39 e39 _) iv_6_209 ⟨rfl, rfl, Nat.le_of_ble_eq_true rfl, Nat.le_of_ble_eq_true rfl⟩ cw_o0 rfl rfl rfl hl.1 (Nat.le_of_ble_eq_true rfl) dX6_frogs_39) (fun H locs hS => ?_)
      refine lv_aload_n hx hb dX6_frogs_42 rfl (lv_at hl 1 rfl) ?_
      refine lv_iload_n hx hb dX6_frogs_43 rfl (lv_at hl 0 rfl) ?_
      refine lv_if_ne (tgt := 51) hx hb dX6_frogs_44 (by decide) (fun c44 => ?_) (fun c44 => ?_)
      · replace hm := ie c44 hm
        refine lv_aload_n hx hb dX6_frogs_51 rfl (lv_at hl 1 rfl) ?_
        refine g_6_42_0 C hS dX6_frogs_52 ?_
        obtain ⟨o55, e55, hm⟩ := ob hm
        refine after_i C hS (call_V (As := []) C hS (c_X4_inAll l d q o39 o55 e55 _) iv_6_219 ⟨rfl, rfl, Nat.le_of_ble_eq_true rfl, Nat.le_of_ble_eq_true rfl⟩ cw_o32 rfl rfl rfl hl.1 (Nat.le_of_ble_eq_true rfl) dX6_frogs_55) (fun H locs hS => ?_)
        exact J58 o39 o55 _ _ _ hS (lv_sub hl [] rfl) hm
      · replace hm := it c44 hm
        refine lv_iconst (v := 0) hx hb dX6_frogs_47 (by decide) ?_
        refine lv_goto (tgt := 58) hx hb dX6_frogs_48 (by decide) ?_
        exact J58 o39 0 _ _ _ hS (lv_sub hl [] rfl) hm
    · replace hm := ie c7 hm
      refine lv_iconst (v := (-1)) hx hb dX6_frogs_10 (by decide) ?_
      exact retIw (wf := cw q d) C hS hm dX6_frogs_11
def M_X6_fitsDouble_90 (σ : ST) (k2 : Int32 → Int32 → Int32 → Option Int32) (x1 : Int32) (x2 : Int32) (x3 : Int32) (y0 : Int32) (y1 : Int32) : Option Int32 := if y0 = y1 then k2 x1 x2 (x3 + 2) else okZ 0
def M_X6_fitsDouble_46 (σ : ST) (k2 : Int32 → Int32 → Int32 → Option Int32) (x1 : Int32) (x2 : Int32) (x3 : Int32) (x4 : Int32) (y0 : Int32) (y1 : Int32) : Option Int32 := (M_X5_wouldOpen σ x4 (y0 + y1) (σ.1 30)).bind fun o67 => (M_X3_get_r σ x1 (x3 + 1)).bind fun o78 => if o78 = 1 then M_X6_fitsDouble_90 σ k2 x1 x2 x3 o67 1 else M_X6_fitsDouble_90 σ k2 x1 x2 x3 o67 0
def M_X6_fitsDouble_2 (σ : ST) : Nat → Int32 → Int32 → Int32 → Option Int32
  | 0, _, _, _ => none
  | n + 1, x1, x2, x3 => (M_X3_sizeOf_r σ x1).bind fun o10 => if o10 ≤ (x3 + 1) then okZ 1 else (M_X3_get_r σ x1 x3).bind fun o22 => (M_J6_bitCount_0f7a4 o22).bind fun o29 => (M_X6_isIn x2 o22).bind fun o35 => if o35 = 0 then M_X6_fitsDouble_46 σ (M_X6_fitsDouble_2 σ n) x1 x2 x3 o22 o29 0 else M_X6_fitsDouble_46 σ (M_X6_fitsDouble_2 σ n) x1 x2 x3 o22 o29 1
def M_X6_fitsDouble (σ : ST) (a1 : Int32) (a2 : Int32) : Option Int32 := M_X6_fitsDouble_2 σ 10000 a1 a2 0
abbrev rm_X6_fitsDouble : Room := { frames := 4, cells := 0, slots := 0, locals := 86 }
set_option maxRecDepth 100000 in
set_option maxHeartbeats 4000000 in
theorem c_X6_fitsDouble (l : Launch) (d : CD) (q : Nat → Nat) (σ : ST) (a1 : Int32) (a2 : Int32) (out : Int32) (hm : M_X6_fitsDouble σ a1 a2 = some out) : MetI l yX6_fitsDouble cX6_fitsDouble 6 (some .boolean) rm_X6_fitsDouble d (cw q d σ) [.ref (q 0), .int a1, .int a2] out (cw q d σ) := by
  refine mkI (own := RX6) (by decide +kernel) rfl (Nat.le_of_ble_eq_true rfl) ?_
  intro p e s m below meth c A ls C hS hl
  obtain ⟨hx, hb, hml, hown, hts, -⟩ := id C
  have hl : lv_has ls 6 [(0, .ref (q 0)), (1, .int a1), (2, .int a2)] := hl
  have J90 : ∀ (k2 : Int32 → Int32 → Int32 → Option Int32) (hk2 : ∀ (x1 : Int32) (x2 : Int32) (x3 : Int32) (H : Heap) (locs : List Loc) (ls : Array Slot), HS d A s.heap H locs (cw q d σ) → lv_has ls 6 [(0, .ref (q 0)), (1, .int x1), (2, .int x2), (3, .int x3)] → k2 x1 x2 x3 = some out → WI p l e rm_X6_fitsDouble s m [.ref (q 0), .int a1, .int a2].toArray below meth c A d H locs out (cw q d σ) (F0 m 2 ls [])) (x1 : Int32) (x2 : Int32) (x3 : Int32) (y0 : Int32) (y1 : Int32) (H : Heap) (locs : List Loc) (ls : Array Slot), HS d A s.heap H locs (cw q d σ) → lv_has ls 6 [(0, .ref (q 0)), (1, .int x1), (2, .int x2), (3, .int x3)] → M_X6_fitsDouble_90 σ k2 x1 x2 x3 y0 y1 = some out → WI p l e rm_X6_fitsDouble s m [.ref (q 0), .int a1, .int a2].toArray below meth c A d H locs out (cw q d σ) (F0 m 90 ls [.int y1, .int y0]) := by
    intro k2 hk2 x1 x2 x3 y0 y1 H locs ls hS hl hm
    unfold M_X6_fitsDouble_90 at hm
    refine lv_icmp_eq (tgt := 95) hx hb dX6_fitsDouble_90 (by decide) (fun c90 => ?_) (fun c90 => ?_)
    · replace hm := it c90 hm
      refine lv_iinc (v := x3 + 2) (lv' := [(3, .int (x3 + 2)), (0, .ref (q 0)), (1, .int x1), (2, .int x2)]) hx hb dX6_fitsDouble_95 hl (k := 3) rfl rfl (by decide) rfl (fun ls hl => ?_)
      refine lv_goto (tgt := 2) hx hb dX6_fitsDouble_98 (by decide) ?_
      exact hk2 x1 x2 (x3 + 2) _ _ _ hS (lv_sub hl [1, 2, 3, 0] rfl) hm
    · replace hm := ie c90 hm
      refine lv_iconst (v := 0) hx hb dX6_fitsDouble_93 (by decide) ?_
      exact retZr C hS hm dX6_fitsDouble_94
  have J46 : ∀ (k2 : Int32 → Int32 → Int32 → Option Int32) (hk2 : ∀ (x1 : Int32) (x2 : Int32) (x3 : Int32) (H : Heap) (locs : List Loc) (ls : Array Slot), HS d A s.heap H locs (cw q d σ) → lv_has ls 6 [(0, .ref (q 0)), (1, .int x1), (2, .int x2), (3, .int x3)] → k2 x1 x2 x3 = some out → WI p l e rm_X6_fitsDouble s m [.ref (q 0), .int a1, .int a2].toArray below meth c A d H locs out (cw q d σ) (F0 m 2 ls [])) (x1 : Int32) (x2 : Int32) (x3 : Int32) (x4 : Int32) (y0 : Int32) (y1 : Int32) (H : Heap) (locs : List Loc) (ls : Array Slot), HS d A s.heap H locs (cw q d σ) → lv_has ls 6 [(0, .ref (q 0)), (1, .int x1), (2, .int x2), (3, .int x3), (4, .int x4)] → M_X6_fitsDouble_46 σ k2 x1 x2 x3 x4 y0 y1 = some out → WI p l e rm_X6_fitsDouble s m [.ref (q 0), .int a1, .int a2].toArray below meth c A d H locs out (cw q d σ) (F0 m 46 ls [.int y1, .int y0]) := by
    intro k2 hk2 x1 x2 x3 x4 y0 y1 H locs ls hS hl hm
    unfold M_X6_fitsDouble_46 at hm
    refine lv_iadd hx hb dX6_fitsDouble_46 ?_
    refine lv_istore (lv' := [(5, .int (y0 + y1)), (0, .ref (q 0)), (1, .int x1), (2, .int x2), (3, .int x3), (4, .int x4)]) hx hb dX6_fitsDouble_47 hl (by decide) rfl (fun ls hl => ?_)
    refine lv_aload_n hx hb dX6_fitsDouble_49 rfl (lv_at hl 1 rfl) ?_
    refine g_6_33_0 C hS dX6_fitsDouble_50 ?_
    refine lv_iload hx hb dX6_fitsDouble_53 (lv_at hl 5 rfl) ?_
    refine lv_iload hx hb dX6_fitsDouble_55 (lv_at hl 0 rfl) ?_
    refine lv_aload_n hx hb dX6_fitsDouble_57 rfl (lv_at hl 1 rfl) ?_
    refine g_6_33_0 C hS dX6_fitsDouble_58 ?_
    refine g_6_125_22 C hS dX6_fitsDouble_61 ?_
    refine g_6_322_23 C hS dX6_fitsDouble_64 ?_
    obtain ⟨o67, e67, hm⟩ := ob hm
    refine after_i C hS (call_V (As := [.int x4, .int (y0 + y1), .int (σ.1 30)]) C hS (c_X5_wouldOpen l d q σ x4 (y0 + y1) (σ.1 30) o67 e67 _) iv_6_343 ⟨rfl, rfl, Nat.le_of_ble_eq_true rfl, Nat.le_of_ble_eq_true rfl⟩ cw_o22 rfl rfl rfl hl.1 (Nat.le_of_ble_eq_true rfl) dX6_fitsDouble_67) (fun H locs hS => ?_)
    refine lv_aload_n hx hb dX6_fitsDouble_70 rfl (lv_at hl 1 rfl) ?_
    refine g_6_14_0 C hS dX6_fitsDouble_71 ?_
    refine lv_iload_n hx hb dX6_fitsDouble_74 rfl (lv_at hl 2 rfl) ?_
    refine lv_iload_n hx hb dX6_fitsDouble_75 rfl (lv_at hl 4 rfl) ?_
    refine lv_iconst (v := 1) hx hb dX6_fitsDouble_76 (by decide) ?_
    refine lv_iadd hx hb dX6_fitsDouble_77 ?_
    obtain ⟨o78, e78, hm⟩ := ob hm
    refine after_i C hS (call_V (As := [.int x1, .int (x3 + 1)]) C hS (c_X3_get_r l d q σ x1 (x3 + 1) o78 e78 _) iv_6_81 ⟨rfl, rfl, Nat.le_of_ble_eq_true rfl, Nat.le_of_ble_eq_true rfl⟩ cw_o1 rfl rfl rfl hl.1 (Nat.le_of_ble_eq_true rfl) dX6_fitsDouble_78) (fun H locs hS => ?_)
    refine lv_iconst (v := 1) hx hb dX6_fitsDouble_81 (by decide) ?_
    refine lv_icmp_ne (tgt := 89) hx hb dX6_fitsDouble_82 (by decide) (fun c82 => ?_) (fun c82 => ?_)
    · replace hm := ie c82 hm
      refine lv_iconst (v := 0) hx hb dX6_fitsDouble_89 (by decide) ?_
      exact J90 k2 hk2 x1 x2 x3 o67 0 _ _ _ hS (lv_sub hl [1, 2, 3, 4] rfl) hm
    · replace hm := it c82 hm
      refine lv_iconst (v := 1) hx hb dX6_fitsDouble_85 (by decide) ?_
      refine lv_goto (tgt := 90) hx hb dX6_fitsDouble_86 (by decide) ?_
      exact J90 k2 hk2 x1 x2 x3 o67 1 _ _ _ hS (lv_sub hl [1, 2, 3, 4] rfl) hm
  have L2 : ∀ (n : Nat) (x1 : Int32) (x2 : Int32) (x3 : Int32) (H : Heap) (locs : List Loc) (ls : Array Slot), HS d A s.heap H locs (cw q d σ) → lv_has ls 6 [(0, .ref (q 0)), (1, .int x1), (2, .int x2), (3, .int x3)] → M_X6_fitsDouble_2 σ n x1 x2 x3 = some out → WI p l e rm_X6_fitsDouble s m [.ref (q 0), .int a1, .int a2].toArray below meth c A d H locs out (cw q d σ) (F0 m 2 ls []) := by
    intro n
    induction n with
    | zero =>
      intro x1 x2 x3 H locs ls hS hl hm
      exact absurd hm (by rw [M_X6_fitsDouble_2]; exact fun h => nomatch h)
    | succ n ih =>
      intro x1 x2 x3 H locs ls hS hl hm
      rw [M_X6_fitsDouble_2] at hm
      refine lv_iload_n hx hb dX6_fitsDouble_2 rfl (lv_at hl 3 rfl) ?_
      refine lv_iconst (v := 1) hx hb dX6_fitsDouble_3 (by decide) ?_
      refine lv_iadd hx hb dX6_fitsDouble_4 ?_
      refine lv_aload_n hx hb dX6_fitsDouble_5 rfl (lv_at hl 0 rfl) ?_
      refine g_6_14_0 C hS dX6_fitsDouble_6 ?_
      refine lv_iload_n hx hb dX6_fitsDouble_9 rfl (lv_at hl 1 rfl) ?_
      obtain ⟨o10, e10, hm⟩ := ob hm
      refine after_i C hS (call_V (As := [.int x1]) C hS (c_X3_sizeOf_r l d q σ x1 o10 e10 _) iv_6_115 ⟨rfl, rfl, Nat.le_of_ble_eq_true rfl, Nat.le_of_ble_eq_true rfl⟩ cw_o1 rfl rfl rfl hl.1 (Nat.le_of_ble_eq_true rfl) dX6_fitsDouble_10) (fun H locs hS => ?_)
      refine lv_icmp_ge (tgt := 101) hx hb dX6_fitsDouble_13 (by decide) (fun c13 => ?_) (fun c13 => ?_)
      · replace hm := it c13 hm
        refine lv_iconst (v := 1) hx hb dX6_fitsDouble_101 (by decide) ?_
        exact retZr C hS hm dX6_fitsDouble_102
      · replace hm := ie c13 hm
        refine lv_aload_n hx hb dX6_fitsDouble_16 rfl (lv_at hl 0 rfl) ?_
        refine g_6_14_0 C hS dX6_fitsDouble_17 ?_
        refine lv_iload_n hx hb dX6_fitsDouble_20 rfl (lv_at hl 1 rfl) ?_
        refine lv_iload_n hx hb dX6_fitsDouble_21 rfl (lv_at hl 3 rfl) ?_
        obtain ⟨o22, e22, hm⟩ := ob hm
        refine after_i C hS (call_V (As := [.int x1, .int x3]) C hS (c_X3_get_r l d q σ x1 x3 o22 e22 _) iv_6_81 ⟨rfl, rfl, Nat.le_of_ble_eq_true rfl, Nat.le_of_ble_eq_true rfl⟩ cw_o1 rfl rfl rfl hl.1 (Nat.le_of_ble_eq_true rfl) dX6_fitsDouble_22) (fun H locs hS => ?_)
        refine lv_istore (lv' := [(4, .int o22), (0, .ref (q 0)), (1, .int x1), (2, .int x2), (3, .int x3)]) hx hb dX6_fitsDouble_25 hl (by decide) rfl (fun ls hl => ?_)
        refine lv_iload hx hb dX6_fitsDouble_27 (lv_at hl 0 rfl) ?_
        obtain ⟨o29, e29, hm⟩ := ob hm
        refine after_i C hS (call_S (As := [.int o22]) C hS (c_J6_bitCount_0f7a4 l d (cw q d σ) o22 o29 e29 _) is_6_244 ⟨rfl, rfl, Nat.le_of_ble_eq_true rfl, Nat.le_of_ble_eq_true rfl⟩ rfl hl.1 (Nat.le_of_ble_eq_true rfl) dX6_fitsDouble_29) (fun H locs hS => ?_)
        refine lv_iload_n hx hb dX6_fitsDouble_32 rfl (lv_at hl 3 rfl) ?_
        refine lv_iload hx hb dX6_fitsDouble_33 (lv_at hl 0 rfl) ?_
        obtain ⟨o35, e35, hm⟩ := ob hm
        refine after_i C hS (call_S (As := [.int x2, .int o22]) C hS (c_X6_isIn l d (cw q d σ) x2 o22 o35 e35 _) is_6_337 ⟨rfl, rfl, Nat.le_of_ble_eq_true rfl, Nat.le_of_ble_eq_true rfl⟩ rfl hl.1 (Nat.le_of_ble_eq_true rfl) dX6_fitsDouble_35) (fun H locs hS => ?_)
        refine lv_if_eq (tgt := 45) hx hb dX6_fitsDouble_38 (by decide) (fun c38 => ?_) (fun c38 => ?_)
        · replace hm := it c38 hm
          refine lv_iconst (v := 0) hx hb dX6_fitsDouble_45 (by decide) ?_
          exact J46 (M_X6_fitsDouble_2 σ n) ih x1 x2 x3 o22 o29 0 _ _ _ hS (lv_sub hl [1, 2, 3, 4, 0] rfl) hm
        · replace hm := ie c38 hm
          refine lv_iconst (v := 1) hx hb dX6_fitsDouble_41 (by decide) ?_
          refine lv_goto (tgt := 46) hx hb dX6_fitsDouble_42 (by decide) ?_
          exact J46 (M_X6_fitsDouble_2 σ n) ih x1 x2 x3 o22 o29 1 _ _ _ hS (lv_sub hl [1, 2, 3, 4, 0] rfl) hm
  unfold M_X6_fitsDouble at hm
  refine lv_iconst (v := 0) hx hb dX6_fitsDouble_0 (by decide) ?_
  refine lv_istore_n (lv' := [(3, .int 0), (0, .ref (q 0)), (1, .int a1), (2, .int a2)]) hx hb dX6_fitsDouble_1 rfl hl (by decide) rfl (fun ls hl => ?_)
  exact L2 10000 a1 a2 0 _ _ _ hS (lv_sub hl [1, 2, 3, 0] rfl) hm
def M_X6_refusalOfPairs_99 (σ : ST) : Option (Int32 × ST) := (M_X6_refuse σ 3).bind fun o101 => some (o101.1, o101.2)
def M_X6_refusalOfPairs_46 : Nat → ST → Int32 → Int32 → Int32 → Option (Int32 × ST)
  | 0, _, _, _, _ => none
  | n + 1, σ, x1, x3, x4 => if x3 ≤ (x4 + 1) then some (0, σ) else (M_X3_get_r σ x1 (x4 + 1)).bind fun o63 => (M_X3_get_r σ x1 x4).bind fun o79 => (M_X5_isSet σ o79).bind fun o82 => if o82 = 0 then M_X6_refusalOfPairs_99 σ else if o63 < 0 then M_X6_refusalOfPairs_99 σ else if o63 ≤ 1 then M_X6_refusalOfPairs_46 n σ x1 x3 (x4 + 2) else M_X6_refusalOfPairs_99 σ
def M_X6_refusalOfPairs_37 (σ : ST) : Option (Int32 × ST) := (M_X6_refuse σ 5).bind fun o39 => some (o39.1, o39.2)
def M_X6_refusalOfPairs (σ : ST) (a1 : Int32) : Option (Int32 × ST) := (M_X6_refusalOf_r σ a1).bind fun o6 => if o6.1 = 0 then (M_X3_sizeOf_r o6.2 a1).bind fun o21 => if (o21 - o21 / 2 * 2) = 0 then if o21 ≤ 16 then M_X6_refusalOfPairs_46 10000 o6.2 a1 o21 0 else M_X6_refusalOfPairs_37 o6.2 else M_X6_refusalOfPairs_37 o6.2 else some (o6.1, o6.2)
abbrev rm_X6_refusalOfPairs : Room := { frames := 4, cells := 0, slots := 0, locals := 86 }
set_option maxRecDepth 100000 in
set_option maxHeartbeats 4000000 in
theorem c_X6_refusalOfPairs (l : Launch) (d : CD) (q : Nat → Nat) (σ : ST) (a1 : Int32) (out : Int32 × ST) (hm : M_X6_refusalOfPairs σ a1 = some out) : MetI l yX6_refusalOfPairs cX6_refusalOfPairs 6 (some .int) rm_X6_refusalOfPairs d (cw q d σ) [.ref (q 0), .int a1] out.1 (cw q d out.2) := by
  refine mkI (own := RX6) (by decide +kernel) rfl (Nat.le_of_ble_eq_true rfl) ?_
  intro p e s m below meth c A ls C hS hl
  obtain ⟨hx, hb, hml, hown, hts, -⟩ := id C
  have hl : lv_has ls 6 [(0, .ref (q 0)), (1, .int a1)] := hl
  have J99 : ∀ (σ : ST) (H : Heap) (locs : List Loc) (ls : Array Slot), HS d A s.heap H locs (cw q d σ) → lv_has ls 6 [(0, .ref (q 0))] → M_X6_refusalOfPairs_99 σ = some out → WI p l e rm_X6_refusalOfPairs s m [.ref (q 0), .int a1].toArray below meth c A d H locs out.1 (cw q d out.2) (F0 m 99 ls []) := by
    intro σ H locs ls hS hl hm
    unfold M_X6_refusalOfPairs_99 at hm
    refine lv_aload_n hx hb dX6_refusalOfPairs_99 rfl (lv_at hl 0 rfl) ?_
    refine lv_iconst (v := 3) hx hb dX6_refusalOfPairs_100 (by decide) ?_
    obtain ⟨o101, e101, hm⟩ := ob hm
    refine after_i C hS (call_V (As := [.int 3]) C hS (c_X6_refuse l d q σ 3 o101 e101 _) iv_6_100 ⟨rfl, rfl, Nat.le_of_ble_eq_true rfl, Nat.le_of_ble_eq_true rfl⟩ cw_o0 rfl rfl rfl hl.1 (Nat.le_of_ble_eq_true rfl) dX6_refusalOfPairs_101) (fun H locs hS => ?_)
    exact retIw (wf := cw q d) C hS hm dX6_refusalOfPairs_104
  have L46 : ∀ (n : Nat) (σ : ST) (x1 : Int32) (x3 : Int32) (x4 : Int32) (H : Heap) (locs : List Loc) (ls : Array Slot), HS d A s.heap H locs (cw q d σ) → lv_has ls 6 [(0, .ref (q 0)), (1, .int x1), (3, .int x3), (4, .int x4)] → M_X6_refusalOfPairs_46 n σ x1 x3 x4 = some out → WI p l e rm_X6_refusalOfPairs s m [.ref (q 0), .int a1].toArray below meth c A d H locs out.1 (cw q d out.2) (F0 m 46 ls []) := by
    intro n
    induction n with
    | zero =>
      intro σ x1 x3 x4 H locs ls hS hl hm
      exact absurd hm (by rw [M_X6_refusalOfPairs_46]; exact fun h => nomatch h)
    | succ n ih =>
      intro σ x1 x3 x4 H locs ls hS hl hm
      rw [M_X6_refusalOfPairs_46] at hm
      refine lv_iload hx hb dX6_refusalOfPairs_46 (lv_at hl 3 rfl) ?_
      refine lv_iconst (v := 1) hx hb dX6_refusalOfPairs_48 (by decide) ?_
      refine lv_iadd hx hb dX6_refusalOfPairs_49 ?_
      refine lv_iload_n hx hb dX6_refusalOfPairs_50 rfl (lv_at hl 2 rfl) ?_
      refine lv_icmp_ge (tgt := 111) hx hb dX6_refusalOfPairs_51 (by decide) (fun c51 => ?_) (fun c51 => ?_)
      · replace hm := it c51 hm
        refine lv_iconst (v := 0) hx hb dX6_refusalOfPairs_111 (by decide) ?_
        exact retIw (wf := cw q d) C hS hm dX6_refusalOfPairs_112
      · replace hm := ie c51 hm
        refine lv_aload_n hx hb dX6_refusalOfPairs_54 rfl (lv_at hl 0 rfl) ?_
        refine g_6_14_0 C hS dX6_refusalOfPairs_55 ?_
        refine lv_iload_n hx hb dX6_refusalOfPairs_58 rfl (lv_at hl 1 rfl) ?_
        refine lv_iload hx hb dX6_refusalOfPairs_59 (lv_at hl 3 rfl) ?_
        refine lv_iconst (v := 1) hx hb dX6_refusalOfPairs_61 (by decide) ?_
        refine lv_iadd hx hb dX6_refusalOfPairs_62 ?_
        obtain ⟨o63, e63, hm⟩ := ob hm
        refine after_i C hS (call_V (As := [.int x1, .int (x4 + 1)]) C hS (c_X3_get_r l d q σ x1 (x4 + 1) o63 e63 _) iv_6_81 ⟨rfl, rfl, Nat.le_of_ble_eq_true rfl, Nat.le_of_ble_eq_true rfl⟩ cw_o1 rfl rfl rfl hl.1 (Nat.le_of_ble_eq_true rfl) dX6_refusalOfPairs_63) (fun H locs hS => ?_)
        refine lv_istore (lv' := [(5, .int o63), (0, .ref (q 0)), (1, .int x1), (3, .int x3), (4, .int x4)]) hx hb dX6_refusalOfPairs_66 hl (by decide) rfl (fun ls hl => ?_)
        refine lv_aload_n hx hb dX6_refusalOfPairs_68 rfl (lv_at hl 1 rfl) ?_
        refine g_6_33_0 C hS dX6_refusalOfPairs_69 ?_
        refine lv_aload_n hx hb dX6_refusalOfPairs_72 rfl (lv_at hl 1 rfl) ?_
        refine g_6_14_0 C hS dX6_refusalOfPairs_73 ?_
        refine lv_iload_n hx hb dX6_refusalOfPairs_76 rfl (lv_at hl 2 rfl) ?_
        refine lv_iload hx hb dX6_refusalOfPairs_77 (lv_at hl 4 rfl) ?_
        obtain ⟨o79, e79, hm⟩ := ob hm
        refine after_i C hS (call_V (As := [.int x1, .int x4]) C hS (c_X3_get_r l d q σ x1 x4 o79 e79 _) iv_6_81 ⟨rfl, rfl, Nat.le_of_ble_eq_true rfl, Nat.le_of_ble_eq_true rfl⟩ cw_o1 rfl rfl rfl hl.1 (Nat.le_of_ble_eq_true rfl) dX6_refusalOfPairs_79) (fun H locs hS => ?_)
        obtain ⟨o82, e82, hm⟩ := ob hm
        refine after_i C hS (call_V (As := [.int o79]) C hS (c_X5_isSet l d q σ o79 o82 e82 _) iv_6_197 ⟨rfl, rfl, Nat.le_of_ble_eq_true rfl, Nat.le_of_ble_eq_true rfl⟩ cw_o22 rfl rfl rfl hl.1 (Nat.le_of_ble_eq_true rfl) dX6_refusalOfPairs_82) (fun H locs hS => ?_)
        refine lv_if_eq (tgt := 99) hx hb dX6_refusalOfPairs_85 (by decide) (fun c85 => ?_) (fun c85 => ?_)
        · replace hm := it c85 hm
          exact J99 σ _ _ _ hS (lv_sub hl [1] rfl) hm
        · replace hm := ie c85 hm
          refine lv_iload hx hb dX6_refusalOfPairs_88 (lv_at hl 0 rfl) ?_
          refine lv_if_lt (tgt := 99) hx hb dX6_refusalOfPairs_90 (by decide) (fun c90 => ?_) (fun c90 => ?_)
          · replace hm := it c90 hm
            exact J99 σ _ _ _ hS (lv_sub hl [1] rfl) hm
          · replace hm := ie c90 hm
            refine lv_iload hx hb dX6_refusalOfPairs_93 (lv_at hl 0 rfl) ?_
            refine lv_iconst (v := 1) hx hb dX6_refusalOfPairs_95 (by decide) ?_
            refine lv_icmp_le (tgt := 105) hx hb dX6_refusalOfPairs_96 (by decide) (fun c96 => ?_) (fun c96 => ?_)
            · replace hm := it c96 hm
              refine lv_iinc (v := x4 + 2) (lv' := [(4, .int (x4 + 2)), (5, .int o63), (0, .ref (q 0)), (1, .int x1), (3, .int x3)]) hx hb dX6_refusalOfPairs_105 hl (k := 4) rfl rfl (by decide) rfl (fun ls hl => ?_)
              refine lv_goto (tgt := 46) hx hb dX6_refusalOfPairs_108 (by decide) ?_
              exact ih σ x1 x3 (x4 + 2) _ _ _ hS (lv_sub hl [2, 3, 4, 0] rfl) hm
            · replace hm := ie c96 hm
              exact J99 σ _ _ _ hS (lv_sub hl [1] rfl) hm
  have J37 : ∀ (σ : ST) (H : Heap) (locs : List Loc) (ls : Array Slot), HS d A s.heap H locs (cw q d σ) → lv_has ls 6 [(0, .ref (q 0))] → M_X6_refusalOfPairs_37 σ = some out → WI p l e rm_X6_refusalOfPairs s m [.ref (q 0), .int a1].toArray below meth c A d H locs out.1 (cw q d out.2) (F0 m 37 ls []) := by
    intro σ H locs ls hS hl hm
    unfold M_X6_refusalOfPairs_37 at hm
    refine lv_aload_n hx hb dX6_refusalOfPairs_37 rfl (lv_at hl 0 rfl) ?_
    refine lv_iconst (v := 5) hx hb dX6_refusalOfPairs_38 (by decide) ?_
    obtain ⟨o39, e39, hm⟩ := ob hm
    refine after_i C hS (call_V (As := [.int 5]) C hS (c_X6_refuse l d q σ 5 o39 e39 _) iv_6_100 ⟨rfl, rfl, Nat.le_of_ble_eq_true rfl, Nat.le_of_ble_eq_true rfl⟩ cw_o0 rfl rfl rfl hl.1 (Nat.le_of_ble_eq_true rfl) dX6_refusalOfPairs_39) (fun H locs hS => ?_)
    exact retIw (wf := cw q d) C hS hm dX6_refusalOfPairs_42
  unfold M_X6_refusalOfPairs at hm
  refine lv_aload_n hx hb dX6_refusalOfPairs_0 rfl (lv_at hl 0 rfl) ?_
  refine lv_aload_n hx hb dX6_refusalOfPairs_1 rfl (lv_at hl 0 rfl) ?_
  refine g_6_14_0 C hS dX6_refusalOfPairs_2 ?_
  refine lv_iload_n hx hb dX6_refusalOfPairs_5 rfl (lv_at hl 1 rfl) ?_
  obtain ⟨o6, e6, hm⟩ := ob hm
  refine after_i C hS (call_V (As := [.ref (q 1), .int a1]) C hS (c_X6_refusalOf_r l d q σ a1 o6 e6 _) iv_6_89 ⟨rfl, rfl, Nat.le_of_ble_eq_true rfl, Nat.le_of_ble_eq_true rfl⟩ cw_o0 rfl rfl rfl hl.1 (Nat.le_of_ble_eq_true rfl) dX6_refusalOfPairs_6) (fun H locs hS => ?_)
  refine lv_istore_n (lv' := [(2, .int o6.1), (0, .ref (q 0)), (1, .int a1)]) hx hb dX6_refusalOfPairs_9 rfl hl (by decide) rfl (fun ls hl => ?_)
  refine lv_iload_n hx hb dX6_refusalOfPairs_10 rfl (lv_at hl 0 rfl) ?_
  refine lv_if_eq (tgt := 16) hx hb dX6_refusalOfPairs_11 (by decide) (fun c11 => ?_) (fun c11 => ?_)
  · replace hm := it c11 hm
    refine lv_aload_n hx hb dX6_refusalOfPairs_16 rfl (lv_at hl 1 rfl) ?_
    refine g_6_14_0 C hS dX6_refusalOfPairs_17 ?_
    refine lv_iload_n hx hb dX6_refusalOfPairs_20 rfl (lv_at hl 2 rfl) ?_
    obtain ⟨o21, e21, hm⟩ := ob hm
    refine after_i C hS (call_V (As := [.int a1]) C hS (c_X3_sizeOf_r l d q o6.2 a1 o21 e21 _) iv_6_115 ⟨rfl, rfl, Nat.le_of_ble_eq_true rfl, Nat.le_of_ble_eq_true rfl⟩ cw_o1 rfl rfl rfl hl.1 (Nat.le_of_ble_eq_true rfl) dX6_refusalOfPairs_21) (fun H locs hS => ?_)
    refine lv_istore_n (lv' := [(3, .int o21), (2, .int o6.1), (0, .ref (q 0)), (1, .int a1)]) hx hb dX6_refusalOfPairs_24 rfl hl (by decide) rfl (fun ls hl => ?_)
    refine lv_iload_n hx hb dX6_refusalOfPairs_25 rfl (lv_at hl 0 rfl) ?_
    refine lv_iconst (v := 2) hx hb dX6_refusalOfPairs_26 (by decide) ?_
    refine lv_irem hx hb dX6_refusalOfPairs_27 (by decide) ?_
    refine lv_if_ne (tgt := 37) hx hb dX6_refusalOfPairs_28 (by decide) (fun c28 => ?_) (fun c28 => ?_)
    · replace hm := ie c28 hm
      exact J37 o6.2 _ _ _ hS (lv_sub hl [2] rfl) hm
    · replace hm := it c28 hm
      refine lv_iload_n hx hb dX6_refusalOfPairs_31 rfl (lv_at hl 0 rfl) ?_
      refine lv_bipush (v := 16) hx hb dX6_refusalOfPairs_32 (by decide) ?_
      refine lv_icmp_le (tgt := 43) hx hb dX6_refusalOfPairs_34 (by decide) (fun c34 => ?_) (fun c34 => ?_)
      · replace hm := it c34 hm
        refine lv_iconst (v := 0) hx hb dX6_refusalOfPairs_43 (by decide) ?_
        refine lv_istore (lv' := [(4, .int 0), (3, .int o21), (2, .int o6.1), (0, .ref (q 0)), (1, .int a1)]) hx hb dX6_refusalOfPairs_44 hl (by decide) rfl (fun ls hl => ?_)
        exact L46 10000 o6.2 a1 o21 0 _ _ _ hS (lv_sub hl [3, 4, 1, 0] rfl) hm
      · replace hm := ie c34 hm
        exact J37 o6.2 _ _ _ hS (lv_sub hl [2] rfl) hm
  · replace hm := ie c11 hm
    refine lv_iload_n hx hb dX6_refusalOfPairs_14 rfl (lv_at hl 0 rfl) ?_
    exact retIw (wf := cw q d) C hS hm dX6_refusalOfPairs_15
def M_X6_twice_17 : Nat → ST → Int32 → Int32 → Int32 → Option (Int32 × ST)
  | 0, _, _, _, _ => none
  | n + 1, σ, x1, x3, x4 => (M_X5_houses σ).bind fun o23 => if o23 ≤ x4 then some (x3, σ) else (M_X6_fitsDouble σ x1 x4).bind fun o33 => if o33 = 0 then M_X6_twice_17 n σ x1 x3 (x4 + 1) else M_X6_twice_17 n σ x1 (x3 ||| ((1 : Int32) <<< (x4 &&& 31))) (x4 + 1)
def M_X6_twice (σ : ST) (a1 : Int32) : Option (Int32 × ST) := (M_X6_refusalOfPairs σ a1).bind fun o2 => if o2.1 = 0 then M_X6_twice_17 10000 o2.2 a1 0 0 else some (o2.1, o2.2)
abbrev rm_X6_twice : Room := { frames := 5, cells := 0, slots := 0, locals := 111 }
set_option maxRecDepth 100000 in
set_option maxHeartbeats 4000000 in
theorem c_X6_twice (l : Launch) (d : CD) (q : Nat → Nat) (σ : ST) (a1 : Int32) (out : Int32 × ST) (hm : M_X6_twice σ a1 = some out) : MetI l yX6_twice cX6_twice 5 (some .int) rm_X6_twice d (cw q d σ) [.ref (q 0), .int a1] out.1 (cw q d out.2) := by
  refine mkI (own := RX6) (by decide +kernel) rfl (Nat.le_of_ble_eq_true rfl) ?_
  intro p e s m below meth c A ls C hS hl
  obtain ⟨hx, hb, hml, hown, hts, -⟩ := id C
  have hl : lv_has ls 5 [(0, .ref (q 0)), (1, .int a1)] := hl
  have L17 : ∀ (n : Nat) (σ : ST) (x1 : Int32) (x3 : Int32) (x4 : Int32) (H : Heap) (locs : List Loc) (ls : Array Slot), HS d A s.heap H locs (cw q d σ) → lv_has ls 5 [(0, .ref (q 0)), (1, .int x1), (3, .int x3), (4, .int x4)] → M_X6_twice_17 n σ x1 x3 x4 = some out → WI p l e rm_X6_twice s m [.ref (q 0), .int a1].toArray below meth c A d H locs out.1 (cw q d out.2) (F0 m 17 ls []) := by
    intro n
    induction n with
    | zero =>
      intro σ x1 x3 x4 H locs ls hS hl hm
      exact absurd hm (by rw [M_X6_twice_17]; exact fun h => nomatch h)
    | succ n ih =>
      intro σ x1 x3 x4 H locs ls hS hl hm
      rw [M_X6_twice_17] at hm
      refine lv_iload hx hb dX6_twice_17 (lv_at hl 3 rfl) ?_
      refine lv_aload_n hx hb dX6_twice_19 rfl (lv_at hl 0 rfl) ?_
      refine g_6_33_0 C hS dX6_twice_20 ?_
      obtain ⟨o23, e23, hm⟩ := ob hm
      refine after_i C hS (call_V (As := []) C hS (c_X5_houses l d q σ o23 e23 _) iv_6_140 ⟨rfl, rfl, Nat.le_of_ble_eq_true rfl, Nat.le_of_ble_eq_true rfl⟩ cw_o22 rfl rfl rfl hl.1 (Nat.le_of_ble_eq_true rfl) dX6_twice_23) (fun H locs hS => ?_)
      refine lv_icmp_ge (tgt := 52) hx hb dX6_twice_26 (by decide) (fun c26 => ?_) (fun c26 => ?_)
      · replace hm := it c26 hm
        refine lv_iload_n hx hb dX6_twice_52 rfl (lv_at hl 2 rfl) ?_
        exact retIw (wf := cw q d) C hS hm dX6_twice_53
      · replace hm := ie c26 hm
        refine lv_aload_n hx hb dX6_twice_29 rfl (lv_at hl 0 rfl) ?_
        refine lv_iload_n hx hb dX6_twice_30 rfl (lv_at hl 1 rfl) ?_
        refine lv_iload hx hb dX6_twice_31 (lv_at hl 3 rfl) ?_
        obtain ⟨o33, e33, hm⟩ := ob hm
        refine after_i C hS (call_V (As := [.int x1, .int x4]) C hS (c_X6_fitsDouble l d q σ x1 x4 o33 e33 _) iv_6_264 ⟨rfl, rfl, Nat.le_of_ble_eq_true rfl, Nat.le_of_ble_eq_true rfl⟩ cw_o0 rfl rfl rfl hl.1 (Nat.le_of_ble_eq_true rfl) dX6_twice_33) (fun H locs hS => ?_)
        refine lv_if_eq (tgt := 46) hx hb dX6_twice_36 (by decide) (fun c36 => ?_) (fun c36 => ?_)
        · replace hm := it c36 hm
          refine lv_iinc (v := x4 + 1) (lv' := [(4, .int (x4 + 1)), (0, .ref (q 0)), (1, .int x1), (3, .int x3)]) hx hb dX6_twice_46 hl (k := 3) rfl rfl (by decide) rfl (fun ls hl => ?_)
          refine lv_goto (tgt := 17) hx hb dX6_twice_49 (by decide) ?_
          exact ih σ x1 x3 (x4 + 1) _ _ _ hS (lv_sub hl [1, 2, 3, 0] rfl) hm
        · replace hm := ie c36 hm
          refine lv_iload_n hx hb dX6_twice_39 rfl (lv_at hl 2 rfl) ?_
          refine lv_iconst (v := 1) hx hb dX6_twice_40 (by decide) ?_
          refine lv_iload hx hb dX6_twice_41 (lv_at hl 3 rfl) ?_
          refine lv_ishl hx hb dX6_twice_43 ?_
          refine lv_ior hx hb dX6_twice_44 ?_
          refine lv_istore_n (lv' := [(3, .int (x3 ||| ((1 : Int32) <<< (x4 &&& 31)))), (0, .ref (q 0)), (1, .int x1), (4, .int x4)]) hx hb dX6_twice_45 rfl hl (by decide) rfl (fun ls hl => ?_)
          refine lv_iinc (v := x4 + 1) (lv' := [(4, .int (x4 + 1)), (3, .int (x3 ||| ((1 : Int32) <<< (x4 &&& 31)))), (0, .ref (q 0)), (1, .int x1)]) hx hb dX6_twice_46 hl (k := 3) rfl rfl (by decide) rfl (fun ls hl => ?_)
          refine lv_goto (tgt := 17) hx hb dX6_twice_49 (by decide) ?_
          exact ih σ x1 (x3 ||| ((1 : Int32) <<< (x4 &&& 31))) (x4 + 1) _ _ _ hS (lv_sub hl [2, 3, 1, 0] rfl) hm
  unfold M_X6_twice at hm
  refine lv_aload_n hx hb dX6_twice_0 rfl (lv_at hl 0 rfl) ?_
  refine lv_iload_n hx hb dX6_twice_1 rfl (lv_at hl 1 rfl) ?_
  obtain ⟨o2, e2, hm⟩ := ob hm
  refine after_i C hS (call_V (As := [.int a1]) C hS (c_X6_refusalOfPairs l d q σ a1 o2 e2 _) iv_6_261 ⟨rfl, rfl, Nat.le_of_ble_eq_true rfl, Nat.le_of_ble_eq_true rfl⟩ cw_o0 rfl rfl rfl hl.1 (Nat.le_of_ble_eq_true rfl) dX6_twice_2) (fun H locs hS => ?_)
  refine lv_istore_n (lv' := [(2, .int o2.1), (0, .ref (q 0)), (1, .int a1)]) hx hb dX6_twice_5 rfl hl (by decide) rfl (fun ls hl => ?_)
  refine lv_iload_n hx hb dX6_twice_6 rfl (lv_at hl 0 rfl) ?_
  refine lv_if_eq (tgt := 12) hx hb dX6_twice_7 (by decide) (fun c7 => ?_) (fun c7 => ?_)
  · replace hm := it c7 hm
    refine lv_iconst (v := 0) hx hb dX6_twice_12 (by decide) ?_
    refine lv_istore_n (lv' := [(3, .int 0), (2, .int o2.1), (0, .ref (q 0)), (1, .int a1)]) hx hb dX6_twice_13 rfl hl (by decide) rfl (fun ls hl => ?_)
    refine lv_iconst (v := 0) hx hb dX6_twice_14 (by decide) ?_
    refine lv_istore (lv' := [(4, .int 0), (3, .int 0), (2, .int o2.1), (0, .ref (q 0)), (1, .int a1)]) hx hb dX6_twice_15 hl (by decide) rfl (fun ls hl => ?_)
    exact L17 10000 o2.2 a1 0 0 _ _ _ hS (lv_sub hl [3, 4, 1, 0] rfl) hm
  · replace hm := ie c7 hm
    refine lv_iload_n hx hb dX6_twice_10 rfl (lv_at hl 0 rfl) ?_
    exact retIw (wf := cw q d) C hS hm dX6_twice_11
