def M_X4_look_19 : Nat → ST → Int32 → Option ST
  | 0, _, _ => none
  | n + 1, σ, x1 => if (σ.1 38) ≤ x1 then some σ else (M_X5_isOpenTo σ x1).bind fun o37 => (okZ o37).bind fun z40 => (wrA 128 σ 33 x1 z40).bind fun σ40 => M_X4_look_19 n σ40 (x1 + 1)
def M_X4_look (σ : ST) : Option ST := (M_X5_sets σ).bind fun o5 => (some (setI σ 38 (if 128 < o5 then 128 else o5))).bind fun σ14 => M_X4_look_19 10000 σ14 0
abbrev rm_X4_look : Room := { frames := 4, cells := 0, slots := 0, locals := 88 }
set_option maxRecDepth 100000 in
set_option maxHeartbeats 4000000 in
theorem c_X4_look (l : Launch) (d : CD) (q : Nat → Nat) (σ : ST) (out : ST) (hm : M_X4_look σ = some out) : MetV l yX4_look cX4_look 2 (none) rm_X4_look d (cw q d σ) [.ref (q 32)] (cw q d out) := by
  refine mkV (own := RX4) (by decide +kernel) rfl (Nat.le_of_ble_eq_true rfl) ?_
  intro p e s m below meth c A ls C hS hl
  obtain ⟨hx, hb, hml, hown, hts, -⟩ := id C
  have hl : lv_has ls 2 [(0, .ref (q 32))] := hl
  have L19 : ∀ (n : Nat) (σ : ST) (x1 : Int32) (H : Heap) (locs : List Loc) (ls : Array Slot), HS d A s.heap H locs (cw q d σ) → lv_has ls 2 [(0, .ref (q 32)), (1, .int x1)] → M_X4_look_19 n σ x1 = some out → WV p l e rm_X4_look s m [.ref (q 32)].toArray below meth c A d H locs (cw q d out) (F0 m 19 ls []) := by
    intro n
    induction n with
    | zero =>
      intro σ x1 H locs ls hS hl hm
      exact absurd hm (by rw [M_X4_look_19]; exact fun h => nomatch h)
    | succ n ih =>
      intro σ x1 H locs ls hS hl hm
      rw [M_X4_look_19] at hm
      refine lv_iload_n hx hb dX4_look_19 rfl (lv_at hl 1 rfl) ?_
      refine lv_aload_n hx hb dX4_look_20 rfl (lv_at hl 0 rfl) ?_
      refine g_4_35_32 C hS dX4_look_21 ?_
      refine lv_icmp_ge (tgt := 47) hx hb dX4_look_24 (by decide) (fun c24 => ?_) (fun c24 => ?_)
      · replace hm := it c24 hm
        exact retVw (wf := cw q d) C hS hm dX4_look_47
      · replace hm := ie c24 hm
        refine lv_aload_n hx hb dX4_look_27 rfl (lv_at hl 0 rfl) ?_
        refine g_4_9_32 C hS dX4_look_28 ?_
        refine lv_iload_n hx hb dX4_look_31 rfl (lv_at hl 1 rfl) ?_
        refine lv_aload_n hx hb dX4_look_32 rfl (lv_at hl 0 rfl) ?_
        refine g_4_19_32 C hS dX4_look_33 ?_
        refine lv_iload_n hx hb dX4_look_36 rfl (lv_at hl 1 rfl) ?_
        obtain ⟨o37, e37, hm⟩ := ob hm
        refine after_i C hS (call_V (As := [.int x1]) C hS (c_X5_isOpenTo l d q σ x1 o37 e37 _) iv_4_38 ⟨rfl, rfl, Nat.le_of_ble_eq_true rfl, Nat.le_of_ble_eq_true rfl⟩ cw_o22 rfl rfl rfl hl.1 (Nat.le_of_ble_eq_true rfl) dX4_look_37) (fun H locs hS => ?_)
        obtain ⟨z40, ez40, hm⟩ := ob hm
        obtain ⟨σ40, e40, hm⟩ := ob hm
        refine zast' (wf := cw q d) C hS cw_a33 cw_s33 ez40 e40 dX4_look_40 (fun H locs hS => ?_)
        refine lv_iinc (v := x1 + 1) (lv' := [(1, .int (x1 + 1)), (0, .ref (q 32))]) hx hb dX4_look_41 hl (k := 1) rfl rfl (by decide) rfl (fun ls hl => ?_)
        refine lv_goto (tgt := 19) hx hb dX4_look_44 (by decide) ?_
        exact ih σ40 (x1 + 1) _ _ _ hS (lv_sub hl [1, 0] rfl) hm
  unfold M_X4_look at hm
  refine lv_aload_n hx hb dX4_look_0 rfl (lv_at hl 0 rfl) ?_
  refine lv_aload_n hx hb dX4_look_1 rfl (lv_at hl 0 rfl) ?_
  refine g_4_19_32 C hS dX4_look_2 ?_
  obtain ⟨o5, e5, hm⟩ := ob hm
  refine after_i C hS (call_V (As := []) C hS (c_X5_sets l d q σ o5 e5 _) iv_4_23 ⟨rfl, rfl, Nat.le_of_ble_eq_true rfl, Nat.le_of_ble_eq_true rfl⟩ cw_o22 rfl rfl rfl hl.1 (Nat.le_of_ble_eq_true rfl) dX4_look_5) (fun H locs hS => ?_)
  refine lv_sipush (v := 128) hx hb dX4_look_8 (by decide) ?_
  refine mmin' C hl.1 mm_X4_29 ⟨Nat.le_of_ble_eq_true rfl, Nat.le_of_ble_eq_true rfl⟩ (Nat.le_of_ble_eq_true rfl) dX4_look_11 ?_
  obtain ⟨σ14, e14, hm⟩ := ob hm
  refine p_4_35_32 C hS e14 dX4_look_14 (fun H locs hS => ?_)
  refine lv_iconst (v := 0) hx hb dX4_look_17 (by decide) ?_
  refine lv_istore_n (lv' := [(1, .int 0), (0, .ref (q 32))]) hx hb dX4_look_18 rfl hl (by decide) rfl (fun ls hl => ?_)
  exact L19 10000 σ14 0 _ _ _ hS (lv_sub hl [1, 0] rfl) hm
def M_X4_howManyOpen_4 (σ : ST) : Nat → Int32 → Int32 → Option Int32
  | 0, _, _ => none
  | n + 1, x1, x2 => if (σ.1 38) ≤ x2 then some x1 else (rd 128 (σ.2.2 33) x2).bind fun v17 => if v17 = 0 then M_X4_howManyOpen_4 σ n x1 (x2 + 1) else M_X4_howManyOpen_4 σ n (x1 + 1) (x2 + 1)
def M_X4_howManyOpen (σ : ST) : Option Int32 := M_X4_howManyOpen_4 σ 10000 0 0
abbrev rm_X4_howManyOpen : Room := { frames := 0, cells := 0, slots := 0, locals := 0 }
set_option maxRecDepth 100000 in
set_option maxHeartbeats 4000000 in
theorem c_X4_howManyOpen (l : Launch) (d : CD) (q : Nat → Nat) (σ : ST) (out : Int32) (hm : M_X4_howManyOpen σ = some out) : MetI l yX4_howManyOpen cX4_howManyOpen 3 (some .int) rm_X4_howManyOpen d (cw q d σ) [.ref (q 32)] out (cw q d σ) := by
  refine mkI (own := RX4) (by decide +kernel) rfl (Nat.le_of_ble_eq_true rfl) ?_
  intro p e s m below meth c A ls C hS hl
  obtain ⟨hx, hb, hml, hown, hts, -⟩ := id C
  have hl : lv_has ls 3 [(0, .ref (q 32))] := hl
  have L4 : ∀ (n : Nat) (x1 : Int32) (x2 : Int32) (H : Heap) (locs : List Loc) (ls : Array Slot), HS d A s.heap H locs (cw q d σ) → lv_has ls 3 [(0, .ref (q 32)), (1, .int x1), (2, .int x2)] → M_X4_howManyOpen_4 σ n x1 x2 = some out → WI p l e rm_X4_howManyOpen s m [.ref (q 32)].toArray below meth c A d H locs out (cw q d σ) (F0 m 4 ls []) := by
    intro n
    induction n with
    | zero =>
      intro x1 x2 H locs ls hS hl hm
      exact absurd hm (by rw [M_X4_howManyOpen_4]; exact fun h => nomatch h)
    | succ n ih =>
      intro x1 x2 H locs ls hS hl hm
      rw [M_X4_howManyOpen_4] at hm
      refine lv_iload_n hx hb dX4_howManyOpen_4 rfl (lv_at hl 2 rfl) ?_
      refine lv_aload_n hx hb dX4_howManyOpen_5 rfl (lv_at hl 0 rfl) ?_
      refine g_4_35_32 C hS dX4_howManyOpen_6 ?_
      refine lv_icmp_ge (tgt := 30) hx hb dX4_howManyOpen_9 (by decide) (fun c9 => ?_) (fun c9 => ?_)
      · replace hm := it c9 hm
        refine lv_iload_n hx hb dX4_howManyOpen_30 rfl (lv_at hl 1 rfl) ?_
        exact retIr C hS hm dX4_howManyOpen_31
      · replace hm := ie c9 hm
        refine lv_aload_n hx hb dX4_howManyOpen_12 rfl (lv_at hl 0 rfl) ?_
        refine g_4_9_32 C hS dX4_howManyOpen_13 ?_
        refine lv_iload_n hx hb dX4_howManyOpen_16 rfl (lv_at hl 2 rfl) ?_
        obtain ⟨v17, e17, hm⟩ := ob hm
        refine zald' C hS cw_a33 e17 dX4_howManyOpen_17 ?_
        refine lv_if_eq (tgt := 24) hx hb dX4_howManyOpen_18 (by decide) (fun c18 => ?_) (fun c18 => ?_)
        · replace hm := it c18 hm
          refine lv_iinc (v := x2 + 1) (lv' := [(2, .int (x2 + 1)), (0, .ref (q 32)), (1, .int x1)]) hx hb dX4_howManyOpen_24 hl (k := 2) rfl rfl (by decide) rfl (fun ls hl => ?_)
          refine lv_goto (tgt := 4) hx hb dX4_howManyOpen_27 (by decide) ?_
          exact ih x1 (x2 + 1) _ _ _ hS (lv_sub hl [1, 2, 0] rfl) hm
        · replace hm := ie c18 hm
          refine lv_iinc (v := x1 + 1) (lv' := [(1, .int (x1 + 1)), (0, .ref (q 32)), (2, .int x2)]) hx hb dX4_howManyOpen_21 hl (k := 1) rfl rfl (by decide) rfl (fun ls hl => ?_)
          refine lv_iinc (v := x2 + 1) (lv' := [(2, .int (x2 + 1)), (1, .int (x1 + 1)), (0, .ref (q 32))]) hx hb dX4_howManyOpen_24 hl (k := 2) rfl rfl (by decide) rfl (fun ls hl => ?_)
          refine lv_goto (tgt := 4) hx hb dX4_howManyOpen_27 (by decide) ?_
          exact ih (x1 + 1) (x2 + 1) _ _ _ hS (lv_sub hl [2, 1, 0] rfl) hm
  unfold M_X4_howManyOpen at hm
  refine lv_iconst (v := 0) hx hb dX4_howManyOpen_0 (by decide) ?_
  refine lv_istore_n (lv' := [(1, .int 0), (0, .ref (q 32))]) hx hb dX4_howManyOpen_1 rfl hl (by decide) rfl (fun ls hl => ?_)
  refine lv_iconst (v := 0) hx hb dX4_howManyOpen_2 (by decide) ?_
  refine lv_istore_n (lv' := [(2, .int 0), (1, .int 0), (0, .ref (q 32))]) hx hb dX4_howManyOpen_3 rfl hl (by decide) rfl (fun ls hl => ?_)
  exact L4 10000 0 0 _ _ _ hS (lv_sub hl [2, 1, 0] rfl) hm
def M_X6_greatestDivisor_9 : Nat → Int64 → Int64 → Int32 → Option Int64
  | 0, _, _, _ => none
  | n + 1, x4, x6, x8 => if 100 ≤ x8 then some x4 else if (lg_cmp x6 0) = 0 then some x4 else (rmL x4 x6).bind fun v27 => M_X6_greatestDivisor_9 n x6 v27 (x8 + 1)
def M_X6_greatestDivisor (a0 : Int64) (a2 : Int64) : Option Int64 := M_X6_greatestDivisor_9 10000 a0 a2 0
abbrev rm_X6_greatestDivisor : Room := { frames := 0, cells := 0, slots := 0, locals := 0 }
set_option maxRecDepth 100000 in
set_option maxHeartbeats 4000000 in
theorem c_X6_greatestDivisor (l : Launch) (d : CD) (w : va_W) (a0 : Int64) (a2 : Int64) (out : Int64) (hm : M_X6_greatestDivisor a0 a2 = some out) : MetL l yX6_greatestDivisor cX6_greatestDivisor 11 (some .long) rm_X6_greatestDivisor d w [.long a0, .long a2] out w := by
  refine mkL (own := RX6) (by decide +kernel) rfl (Nat.le_of_ble_eq_true rfl) ?_
  intro p e s m below meth c A ls C hS hl
  obtain ⟨hx, hb, hml, hown, hts, -⟩ := id C
  have hl : lv_has ls 11 [(0, .long a0), (2, .long a2)] := hl
  have L9 : ∀ (n : Nat) (x4 : Int64) (x6 : Int64) (x8 : Int32) (H : Heap) (locs : List Loc) (ls : Array Slot), HS d A s.heap H locs w → lv_has ls 11 [(4, .long x4), (6, .long x6), (8, .int x8)] → M_X6_greatestDivisor_9 n x4 x6 x8 = some out → WL p l e rm_X6_greatestDivisor s m [.long a0, .long a2].toArray below meth c A d H locs out w (F0 m 9 ls []) := by
    intro n
    induction n with
    | zero =>
      intro x4 x6 x8 H locs ls hS hl hm
      exact absurd hm (by rw [M_X6_greatestDivisor_9]; exact fun h => nomatch h)
    | succ n ih =>
      intro x4 x6 x8 H locs ls hS hl hm
      rw [M_X6_greatestDivisor_9] at hm
      refine lv_iload hx hb dX6_greatestDivisor_9 (lv_at hl 2 rfl) ?_
      refine lv_bipush (v := 100) hx hb dX6_greatestDivisor_11 (by decide) ?_
      refine lv_icmp_ge (tgt := 44) hx hb dX6_greatestDivisor_13 (by decide) (fun c13 => ?_) (fun c13 => ?_)
      · replace hm := it c13 hm
        refine lv_lload hx hb dX6_greatestDivisor_44 (lv_at hl 0 rfl) ?_
        exact retLr C hS hm dX6_greatestDivisor_46
      · replace hm := ie c13 hm
        refine lv_lload hx hb dX6_greatestDivisor_16 (lv_at hl 1 rfl) ?_
        refine lv_lconst (v := 0) hx hb dX6_greatestDivisor_18 (by decide) ?_
        refine W.lcmp hx hb dX6_greatestDivisor_19 ?_
        refine lv_if_eq (tgt := 44) hx hb dX6_greatestDivisor_20 (by decide) (fun c20 => ?_) (fun c20 => ?_)
        · replace hm := it c20 hm
          refine lv_lload hx hb dX6_greatestDivisor_44 (lv_at hl 0 rfl) ?_
          exact retLr C hS hm dX6_greatestDivisor_46
        · replace hm := ie c20 hm
          refine lv_lload hx hb dX6_greatestDivisor_23 (lv_at hl 0 rfl) ?_
          refine lv_lload hx hb dX6_greatestDivisor_25 (lv_at hl 1 rfl) ?_
          obtain ⟨v27, e27, hm⟩ := ob hm
          refine lrem' C e27 dX6_greatestDivisor_27 ?_
          refine lv_lstore (lv' := [(9, .long v27), (4, .long x4), (6, .long x6), (8, .int x8)]) hx hb dX6_greatestDivisor_28 hl (by decide) rfl (fun ls hl => ?_)
          refine lv_lload hx hb dX6_greatestDivisor_30 (lv_at hl 2 rfl) ?_
          refine lv_lstore (lv' := [(4, .long x6), (9, .long v27), (6, .long x6), (8, .int x8)]) hx hb dX6_greatestDivisor_32 hl (by decide) rfl (fun ls hl => ?_)
          refine lv_lload hx hb dX6_greatestDivisor_34 (lv_at hl 1 rfl) ?_
          refine lv_lstore (lv' := [(6, .long v27), (4, .long x6), (9, .long v27), (8, .int x8)]) hx hb dX6_greatestDivisor_36 hl (by decide) rfl (fun ls hl => ?_)
          refine lv_iinc (v := x8 + 1) (lv' := [(8, .int (x8 + 1)), (6, .long v27), (4, .long x6), (9, .long v27)]) hx hb dX6_greatestDivisor_38 hl (k := 3) rfl rfl (by decide) rfl (fun ls hl => ?_)
          refine lv_goto (tgt := 9) hx hb dX6_greatestDivisor_41 (by decide) ?_
          exact ih x6 v27 (x8 + 1) _ _ _ hS (lv_sub hl [2, 1, 0] rfl) hm
  unfold M_X6_greatestDivisor at hm
  refine lv_lload_n hx hb dX6_greatestDivisor_0 rfl (lv_at hl 0 rfl) ?_
  refine lv_lstore (lv' := [(4, .long a0), (0, .long a0), (2, .long a2)]) hx hb dX6_greatestDivisor_1 hl (by decide) rfl (fun ls hl => ?_)
  refine lv_lload_n hx hb dX6_greatestDivisor_3 rfl (lv_at hl 2 rfl) ?_
  refine lv_lstore (lv' := [(6, .long a2), (4, .long a0), (0, .long a0), (2, .long a2)]) hx hb dX6_greatestDivisor_4 hl (by decide) rfl (fun ls hl => ?_)
  refine lv_iconst (v := 0) hx hb dX6_greatestDivisor_6 (by decide) ?_
  refine lv_istore (lv' := [(8, .int 0), (6, .long a2), (4, .long a0), (0, .long a0), (2, .long a2)]) hx hb dX6_greatestDivisor_7 hl (by decide) rfl (fun ls hl => ?_)
  exact L9 10000 a0 a2 0 _ _ _ hS (lv_sub hl [2, 1, 0] rfl) hm
def M_X6_tell_42 (σ : ST) (y1 : Int64) : Option ST := (some (setL σ 10 (y1))).bind fun σ42 => some σ42
def M_X6_tell_23 (σ : ST) (x3 : Int64) (x5 : Int64) (y1 : Int64) : Option ST := (some (setL σ 9 (y1))).bind fun σ23 => if (lg_cmp x5 0) ≤ 0 then M_X6_tell_42 σ23 x3 else (dvL x3 x5).bind fun v37 => M_X6_tell_42 σ23 v37
def M_X6_tell (σ : ST) (a1 : Int64) (a3 : Int64) : Option ST := (M_X6_greatestDivisor a1 a3).bind fun o2 => if (lg_cmp o2 0) ≤ 0 then M_X6_tell_23 σ a3 o2 a1 else (dvL a1 o2).bind fun v18 => M_X6_tell_23 σ a3 o2 v18
abbrev rm_X6_tell : Room := { frames := 1, cells := 0, slots := 0, locals := 30 }
set_option maxRecDepth 100000 in
set_option maxHeartbeats 4000000 in
theorem c_X6_tell (l : Launch) (d : CD) (q : Nat → Nat) (σ : ST) (a1 : Int64) (a3 : Int64) (out : ST) (hm : M_X6_tell σ a1 a3 = some out) : MetV l yX6_tell cX6_tell 7 (none) rm_X6_tell d (cw q d σ) [.ref (q 0), .long a1, .long a3] (cw q d out) := by
  refine mkV (own := RX6) (by decide +kernel) rfl (Nat.le_of_ble_eq_true rfl) ?_
  intro p e s m below meth c A ls C hS hl
  obtain ⟨hx, hb, hml, hown, hts, -⟩ := id C
  have hl : lv_has ls 7 [(0, .ref (q 0)), (1, .long a1), (3, .long a3)] := hl
  have J42 : ∀ (σ : ST) (y1 : Int64) (H : Heap) (locs : List Loc) (ls : Array Slot), HS d A s.heap H locs (cw q d σ) → lv_has ls 7 [] → M_X6_tell_42 σ y1 = some out → WV p l e rm_X6_tell s m [.ref (q 0), .long a1, .long a3].toArray below meth c A d H locs (cw q d out) (F0 m 42 ls [.long y1, .ref (q 0)]) := by
    intro σ y1 H locs ls hS hl hm
    unfold M_X6_tell_42 at hm
    obtain ⟨σ42, e42, hm⟩ := ob hm
    refine p_6_67_0 C hS e42 dX6_tell_42 (fun H locs hS => ?_)
    exact retVw (wf := cw q d) C hS hm dX6_tell_45
  have J23 : ∀ (σ : ST) (x3 : Int64) (x5 : Int64) (y1 : Int64) (H : Heap) (locs : List Loc) (ls : Array Slot), HS d A s.heap H locs (cw q d σ) → lv_has ls 7 [(0, .ref (q 0)), (3, .long x3), (5, .long x5)] → M_X6_tell_23 σ x3 x5 y1 = some out → WV p l e rm_X6_tell s m [.ref (q 0), .long a1, .long a3].toArray below meth c A d H locs (cw q d out) (F0 m 23 ls [.long y1, .ref (q 0)]) := by
    intro σ x3 x5 y1 H locs ls hS hl hm
    unfold M_X6_tell_23 at hm
    obtain ⟨σ23, e23, hm⟩ := ob hm
    refine p_6_63_0 C hS e23 dX6_tell_23 (fun H locs hS => ?_)
    refine lv_aload_n hx hb dX6_tell_26 rfl (lv_at hl 0 rfl) ?_
    refine lv_lload hx hb dX6_tell_27 (lv_at hl 2 rfl) ?_
    refine lv_lconst (v := 0) hx hb dX6_tell_29 (by decide) ?_
    refine W.lcmp hx hb dX6_tell_30 ?_
    refine lv_if_le (tgt := 41) hx hb dX6_tell_31 (by decide) (fun c31 => ?_) (fun c31 => ?_)
    · replace hm := it c31 hm
      refine lv_lload_n hx hb dX6_tell_41 rfl (lv_at hl 1 rfl) ?_
      exact J42 σ23 x3 _ _ _ hS (lv_sub hl [] rfl) hm
    · replace hm := ie c31 hm
      refine lv_lload_n hx hb dX6_tell_34 rfl (lv_at hl 1 rfl) ?_
      refine lv_lload hx hb dX6_tell_35 (lv_at hl 2 rfl) ?_
      obtain ⟨v37, e37, hm⟩ := ob hm
      refine ldiv' C e37 dX6_tell_37 ?_
      refine lv_goto (tgt := 42) hx hb dX6_tell_38 (by decide) ?_
      exact J42 σ23 v37 _ _ _ hS (lv_sub hl [] rfl) hm
  unfold M_X6_tell at hm
  refine lv_lload_n hx hb dX6_tell_0 rfl (lv_at hl 1 rfl) ?_
  refine lv_lload_n hx hb dX6_tell_1 rfl (lv_at hl 2 rfl) ?_
  obtain ⟨o2, e2, hm⟩ := ob hm
  refine after_l C hS (call_S (As := [.long a1, .long a3]) C hS (c_X6_greatestDivisor l d (cw q d σ) a1 a3 o2 e2 _) is_6_315 ⟨rfl, rfl, Nat.le_of_ble_eq_true rfl, Nat.le_of_ble_eq_true rfl⟩ rfl hl.1 (Nat.le_of_ble_eq_true rfl) dX6_tell_2) (fun H locs hS => ?_)
  refine lv_lstore (lv' := [(5, .long o2), (0, .ref (q 0)), (1, .long a1), (3, .long a3)]) hx hb dX6_tell_5 hl (by decide) rfl (fun ls hl => ?_)
  refine lv_aload_n hx hb dX6_tell_7 rfl (lv_at hl 1 rfl) ?_
  refine lv_lload hx hb dX6_tell_8 (lv_at hl 0 rfl) ?_
  refine lv_lconst (v := 0) hx hb dX6_tell_10 (by decide) ?_
  refine W.lcmp hx hb dX6_tell_11 ?_
  refine lv_if_le (tgt := 22) hx hb dX6_tell_12 (by decide) (fun c12 => ?_) (fun c12 => ?_)
  · replace hm := it c12 hm
    refine lv_lload_n hx hb dX6_tell_22 rfl (lv_at hl 2 rfl) ?_
    exact J23 σ a3 o2 a1 _ _ _ hS (lv_sub hl [1, 3, 0] rfl) hm
  · replace hm := ie c12 hm
    refine lv_lload_n hx hb dX6_tell_15 rfl (lv_at hl 2 rfl) ?_
    refine lv_lload hx hb dX6_tell_16 (lv_at hl 0 rfl) ?_
    obtain ⟨v18, e18, hm⟩ := ob hm
    refine ldiv' C e18 dX6_tell_18 ?_
    refine lv_goto (tgt := 23) hx hb dX6_tell_19 (by decide) ?_
    exact J23 σ a3 o2 v18 _ _ _ hS (lv_sub hl [1, 3, 0] rfl) hm
def M_J6_bitCount_0f7a4 (a0 : Int32) : Option Int32 := some ((((((((a0 - (((a0.toUInt32 >>> ((1 : Int32).toUInt32 &&& Int32.toUInt32 31)).toInt32) &&& 1431655765)) &&& 858993459) + ((((a0 - (((a0.toUInt32 >>> ((1 : Int32).toUInt32 &&& Int32.toUInt32 31)).toInt32) &&& 1431655765)).toUInt32 >>> ((2 : Int32).toUInt32 &&& Int32.toUInt32 31)).toInt32) &&& 858993459)) + (((((a0 - (((a0.toUInt32 >>> ((1 : Int32).toUInt32 &&& Int32.toUInt32 31)).toInt32) &&& 1431655765)) &&& 858993459) + ((((a0 - (((a0.toUInt32 >>> ((1 : Int32).toUInt32 &&& Int32.toUInt32 31)).toInt32) &&& 1431655765)).toUInt32 >>> ((2 : Int32).toUInt32 &&& Int32.toUInt32 31)).toInt32) &&& 858993459)).toUInt32 >>> ((4 : Int32).toUInt32 &&& Int32.toUInt32 31)).toInt32)) &&& 252645135) + (((((((a0 - (((a0.toUInt32 >>> ((1 : Int32).toUInt32 &&& Int32.toUInt32 31)).toInt32) &&& 1431655765)) &&& 858993459) + ((((a0 - (((a0.toUInt32 >>> ((1 : Int32).toUInt32 &&& Int32.toUInt32 31)).toInt32) &&& 1431655765)).toUInt32 >>> ((2 : Int32).toUInt32 &&& Int32.toUInt32 31)).toInt32) &&& 858993459)) + (((((a0 - (((a0.toUInt32 >>> ((1 : Int32).toUInt32 &&& Int32.toUInt32 31)).toInt32) &&& 1431655765)) &&& 858993459) + ((((a0 - (((a0.toUInt32 >>> ((1 : Int32).toUInt32 &&& Int32.toUInt32 31)).toInt32) &&& 1431655765)).toUInt32 >>> ((2 : Int32).toUInt32 &&& Int32.toUInt32 31)).toInt32) &&& 858993459)).toUInt32 >>> ((4 : Int32).toUInt32 &&& Int32.toUInt32 31)).toInt32)) &&& 252645135).toUInt32 >>> ((8 : Int32).toUInt32 &&& Int32.toUInt32 31)).toInt32)) + ((((((((a0 - (((a0.toUInt32 >>> ((1 : Int32).toUInt32 &&& Int32.toUInt32 31)).toInt32) &&& 1431655765)) &&& 858993459) + ((((a0 - (((a0.toUInt32 >>> ((1 : Int32).toUInt32 &&& Int32.toUInt32 31)).toInt32) &&& 1431655765)).toUInt32 >>> ((2 : Int32).toUInt32 &&& Int32.toUInt32 31)).toInt32) &&& 858993459)) + (((((a0 - (((a0.toUInt32 >>> ((1 : Int32).toUInt32 &&& Int32.toUInt32 31)).toInt32) &&& 1431655765)) &&& 858993459) + ((((a0 - (((a0.toUInt32 >>> ((1 : Int32).toUInt32 &&& Int32.toUInt32 31)).toInt32) &&& 1431655765)).toUInt32 >>> ((2 : Int32).toUInt32 &&& Int32.toUInt32 31)).toInt32) &&& 858993459)).toUInt32 >>> ((4 : Int32).toUInt32 &&& Int32.toUInt32 31)).toInt32)) &&& 252645135) + (((((((a0 - (((a0.toUInt32 >>> ((1 : Int32).toUInt32 &&& Int32.toUInt32 31)).toInt32) &&& 1431655765)) &&& 858993459) + ((((a0 - (((a0.toUInt32 >>> ((1 : Int32).toUInt32 &&& Int32.toUInt32 31)).toInt32) &&& 1431655765)).toUInt32 >>> ((2 : Int32).toUInt32 &&& Int32.toUInt32 31)).toInt32) &&& 858993459)) + (((((a0 - (((a0.toUInt32 >>> ((1 : Int32).toUInt32 &&& Int32.toUInt32 31)).toInt32) &&& 1431655765)) &&& 858993459) + ((((a0 - (((a0.toUInt32 >>> ((1 : Int32).toUInt32 &&& Int32.toUInt32 31)).toInt32) &&& 1431655765)).toUInt32 >>> ((2 : Int32).toUInt32 &&& Int32.toUInt32 31)).toInt32) &&& 858993459)).toUInt32 >>> ((4 : Int32).toUInt32 &&& Int32.toUInt32 31)).toInt32)) &&& 252645135).toUInt32 >>> ((8 : Int32).toUInt32 &&& Int32.toUInt32 31)).toInt32)).toUInt32 >>> ((16 : Int32).toUInt32 &&& Int32.toUInt32 31)).toInt32)) &&& 63)
abbrev rm_J6_bitCount_0f7a4 : Room := { frames := 0, cells := 0, slots := 0, locals := 0 }
set_option maxRecDepth 100000 in
set_option maxHeartbeats 4000000 in
theorem c_J6_bitCount_0f7a4 (l : Launch) (d : CD) (w : va_W) (a0 : Int32) (out : Int32) (hm : M_J6_bitCount_0f7a4 a0 = some out) : MetI l yJ6_bitCount_0f7a4 cJ6_bitCount_0f7a4 1 (some .int) rm_J6_bitCount_0f7a4 d w [.int a0] out w := by
  refine mkI (own := RJ6) (by decide +kernel) rfl (Nat.le_of_ble_eq_true rfl) ?_
  intro p e s m below meth c A ls C hS hl
  obtain ⟨hx, hb, hml, hown, hts, -⟩ := id C
  have hl : lv_has ls 1 [(0, .int a0)] := hl
  unfold M_J6_bitCount_0f7a4 at hm
  refine lv_iload_n hx hb dJ6_bitCount_0f7a4_0 rfl (lv_at hl 0 rfl) ?_
  refine lv_iload_n hx hb dJ6_bitCount_0f7a4_1 rfl (lv_at hl 0 rfl) ?_
  refine lv_iconst (v := 1) hx hb dJ6_bitCount_0f7a4_2 (by decide) ?_
  refine lv_iushr (v := (a0.toUInt32 >>> ((1 : Int32).toUInt32 &&& Int32.toUInt32 31)).toInt32) hx hb dJ6_bitCount_0f7a4_3 rfl ?_
  refine lv_ldcw (v := 1431655765) hx hb hown (hts _ lc_J6_265) dJ6_bitCount_0f7a4_4 ?_
  refine lv_iand hx hb dJ6_bitCount_0f7a4_7 ?_
  refine lv_isub hx hb dJ6_bitCount_0f7a4_8 ?_
  refine lv_istore_n (lv' := [(0, .int (a0 - (((a0.toUInt32 >>> ((1 : Int32).toUInt32 &&& Int32.toUInt32 31)).toInt32) &&& 1431655765)))]) hx hb dJ6_bitCount_0f7a4_9 rfl hl (by decide) rfl (fun ls hl => ?_)
  refine lv_iload_n hx hb dJ6_bitCount_0f7a4_10 rfl (lv_at hl 0 rfl) ?_
  refine lv_ldcw (v := 858993459) hx hb hown (hts _ lc_J6_266) dJ6_bitCount_0f7a4_11 ?_
  refine lv_iand hx hb dJ6_bitCount_0f7a4_14 ?_
  refine lv_iload_n hx hb dJ6_bitCount_0f7a4_15 rfl (lv_at hl 0 rfl) ?_
  refine lv_iconst (v := 2) hx hb dJ6_bitCount_0f7a4_16 (by decide) ?_
  refine lv_iushr (v := ((a0 - (((a0.toUInt32 >>> ((1 : Int32).toUInt32 &&& Int32.toUInt32 31)).toInt32) &&& 1431655765)).toUInt32 >>> ((2 : Int32).toUInt32 &&& Int32.toUInt32 31)).toInt32) hx hb dJ6_bitCount_0f7a4_17 rfl ?_
  refine lv_ldcw (v := 858993459) hx hb hown (hts _ lc_J6_266) dJ6_bitCount_0f7a4_18 ?_
  refine lv_iand hx hb dJ6_bitCount_0f7a4_21 ?_
  refine lv_iadd hx hb dJ6_bitCount_0f7a4_22 ?_
  refine lv_istore_n (lv' := [(0, .int (((a0 - (((a0.toUInt32 >>> ((1 : Int32).toUInt32 &&& Int32.toUInt32 31)).toInt32) &&& 1431655765)) &&& 858993459) + ((((a0 - (((a0.toUInt32 >>> ((1 : Int32).toUInt32 &&& Int32.toUInt32 31)).toInt32) &&& 1431655765)).toUInt32 >>> ((2 : Int32).toUInt32 &&& Int32.toUInt32 31)).toInt32) &&& 858993459)))]) hx hb dJ6_bitCount_0f7a4_23 rfl hl (by decide) rfl (fun ls hl => ?_)
  refine lv_iload_n hx hb dJ6_bitCount_0f7a4_24 rfl (lv_at hl 0 rfl) ?_
  refine lv_iload_n hx hb dJ6_bitCount_0f7a4_25 rfl (lv_at hl 0 rfl) ?_
  refine lv_iconst (v := 4) hx hb dJ6_bitCount_0f7a4_26 (by decide) ?_
  refine lv_iushr (v := ((((a0 - (((a0.toUInt32 >>> ((1 : Int32).toUInt32 &&& Int32.toUInt32 31)).toInt32) &&& 1431655765)) &&& 858993459) + ((((a0 - (((a0.toUInt32 >>> ((1 : Int32).toUInt32 &&& Int32.toUInt32 31)).toInt32) &&& 1431655765)).toUInt32 >>> ((2 : Int32).toUInt32 &&& Int32.toUInt32 31)).toInt32) &&& 858993459)).toUInt32 >>> ((4 : Int32).toUInt32 &&& Int32.toUInt32 31)).toInt32) hx hb dJ6_bitCount_0f7a4_27 rfl ?_
  refine lv_iadd hx hb dJ6_bitCount_0f7a4_28 ?_
  refine lv_ldcw (v := 252645135) hx hb hown (hts _ lc_J6_267) dJ6_bitCount_0f7a4_29 ?_
  refine lv_iand hx hb dJ6_bitCount_0f7a4_32 ?_
  refine lv_istore_n (lv' := [(0, .int (((((a0 - (((a0.toUInt32 >>> ((1 : Int32).toUInt32 &&& Int32.toUInt32 31)).toInt32) &&& 1431655765)) &&& 858993459) + ((((a0 - (((a0.toUInt32 >>> ((1 : Int32).toUInt32 &&& Int32.toUInt32 31)).toInt32) &&& 1431655765)).toUInt32 >>> ((2 : Int32).toUInt32 &&& Int32.toUInt32 31)).toInt32) &&& 858993459)) + (((((a0 - (((a0.toUInt32 >>> ((1 : Int32).toUInt32 &&& Int32.toUInt32 31)).toInt32) &&& 1431655765)) &&& 858993459) + ((((a0 - (((a0.toUInt32 >>> ((1 : Int32).toUInt32 &&& Int32.toUInt32 31)).toInt32) &&& 1431655765)).toUInt32 >>> ((2 : Int32).toUInt32 &&& Int32.toUInt32 31)).toInt32) &&& 858993459)).toUInt32 >>> ((4 : Int32).toUInt32 &&& Int32.toUInt32 31)).toInt32)) &&& 252645135))]) hx hb dJ6_bitCount_0f7a4_33 rfl hl (by decide) rfl (fun ls hl => ?_)
  refine lv_iload_n hx hb dJ6_bitCount_0f7a4_34 rfl (lv_at hl 0 rfl) ?_
  refine lv_iload_n hx hb dJ6_bitCount_0f7a4_35 rfl (lv_at hl 0 rfl) ?_
  refine lv_bipush (v := 8) hx hb dJ6_bitCount_0f7a4_36 (by decide) ?_
  refine lv_iushr (v := ((((((a0 - (((a0.toUInt32 >>> ((1 : Int32).toUInt32 &&& Int32.toUInt32 31)).toInt32) &&& 1431655765)) &&& 858993459) + ((((a0 - (((a0.toUInt32 >>> ((1 : Int32).toUInt32 &&& Int32.toUInt32 31)).toInt32) &&& 1431655765)).toUInt32 >>> ((2 : Int32).toUInt32 &&& Int32.toUInt32 31)).toInt32) &&& 858993459)) + (((((a0 - (((a0.toUInt32 >>> ((1 : Int32).toUInt32 &&& Int32.toUInt32 31)).toInt32) &&& 1431655765)) &&& 858993459) + ((((a0 - (((a0.toUInt32 >>> ((1 : Int32).toUInt32 &&& Int32.toUInt32 31)).toInt32) &&& 1431655765)).toUInt32 >>> ((2 : Int32).toUInt32 &&& Int32.toUInt32 31)).toInt32) &&& 858993459)).toUInt32 >>> ((4 : Int32).toUInt32 &&& Int32.toUInt32 31)).toInt32)) &&& 252645135).toUInt32 >>> ((8 : Int32).toUInt32 &&& Int32.toUInt32 31)).toInt32) hx hb dJ6_bitCount_0f7a4_38 rfl ?_
  refine lv_iadd hx hb dJ6_bitCount_0f7a4_39 ?_
  refine lv_istore_n (lv' := [(0, .int ((((((a0 - (((a0.toUInt32 >>> ((1 : Int32).toUInt32 &&& Int32.toUInt32 31)).toInt32) &&& 1431655765)) &&& 858993459) + ((((a0 - (((a0.toUInt32 >>> ((1 : Int32).toUInt32 &&& Int32.toUInt32 31)).toInt32) &&& 1431655765)).toUInt32 >>> ((2 : Int32).toUInt32 &&& Int32.toUInt32 31)).toInt32) &&& 858993459)) + (((((a0 - (((a0.toUInt32 >>> ((1 : Int32).toUInt32 &&& Int32.toUInt32 31)).toInt32) &&& 1431655765)) &&& 858993459) + ((((a0 - (((a0.toUInt32 >>> ((1 : Int32).toUInt32 &&& Int32.toUInt32 31)).toInt32) &&& 1431655765)).toUInt32 >>> ((2 : Int32).toUInt32 &&& Int32.toUInt32 31)).toInt32) &&& 858993459)).toUInt32 >>> ((4 : Int32).toUInt32 &&& Int32.toUInt32 31)).toInt32)) &&& 252645135) + (((((((a0 - (((a0.toUInt32 >>> ((1 : Int32).toUInt32 &&& Int32.toUInt32 31)).toInt32) &&& 1431655765)) &&& 858993459) + ((((a0 - (((a0.toUInt32 >>> ((1 : Int32).toUInt32 &&& Int32.toUInt32 31)).toInt32) &&& 1431655765)).toUInt32 >>> ((2 : Int32).toUInt32 &&& Int32.toUInt32 31)).toInt32) &&& 858993459)) + (((((a0 - (((a0.toUInt32 >>> ((1 : Int32).toUInt32 &&& Int32.toUInt32 31)).toInt32) &&& 1431655765)) &&& 858993459) + ((((a0 - (((a0.toUInt32 >>> ((1 : Int32).toUInt32 &&& Int32.toUInt32 31)).toInt32) &&& 1431655765)).toUInt32 >>> ((2 : Int32).toUInt32 &&& Int32.toUInt32 31)).toInt32) &&& 858993459)).toUInt32 >>> ((4 : Int32).toUInt32 &&& Int32.toUInt32 31)).toInt32)) &&& 252645135).toUInt32 >>> ((8 : Int32).toUInt32 &&& Int32.toUInt32 31)).toInt32)))]) hx hb dJ6_bitCount_0f7a4_40 rfl hl (by decide) rfl (fun ls hl => ?_)
  refine lv_iload_n hx hb dJ6_bitCount_0f7a4_41 rfl (lv_at hl 0 rfl) ?_
  refine lv_iload_n hx hb dJ6_bitCount_0f7a4_42 rfl (lv_at hl 0 rfl) ?_
  refine lv_bipush (v := 16) hx hb dJ6_bitCount_0f7a4_43 (by decide) ?_
  refine lv_iushr (v := (((((((a0 - (((a0.toUInt32 >>> ((1 : Int32).toUInt32 &&& Int32.toUInt32 31)).toInt32) &&& 1431655765)) &&& 858993459) + ((((a0 - (((a0.toUInt32 >>> ((1 : Int32).toUInt32 &&& Int32.toUInt32 31)).toInt32) &&& 1431655765)).toUInt32 >>> ((2 : Int32).toUInt32 &&& Int32.toUInt32 31)).toInt32) &&& 858993459)) + (((((a0 - (((a0.toUInt32 >>> ((1 : Int32).toUInt32 &&& Int32.toUInt32 31)).toInt32) &&& 1431655765)) &&& 858993459) + ((((a0 - (((a0.toUInt32 >>> ((1 : Int32).toUInt32 &&& Int32.toUInt32 31)).toInt32) &&& 1431655765)).toUInt32 >>> ((2 : Int32).toUInt32 &&& Int32.toUInt32 31)).toInt32) &&& 858993459)).toUInt32 >>> ((4 : Int32).toUInt32 &&& Int32.toUInt32 31)).toInt32)) &&& 252645135) + (((((((a0 - (((a0.toUInt32 >>> ((1 : Int32).toUInt32 &&& Int32.toUInt32 31)).toInt32) &&& 1431655765)) &&& 858993459) + ((((a0 - (((a0.toUInt32 >>> ((1 : Int32).toUInt32 &&& Int32.toUInt32 31)).toInt32) &&& 1431655765)).toUInt32 >>> ((2 : Int32).toUInt32 &&& Int32.toUInt32 31)).toInt32) &&& 858993459)) + (((((a0 - (((a0.toUInt32 >>> ((1 : Int32).toUInt32 &&& Int32.toUInt32 31)).toInt32) &&& 1431655765)) &&& 858993459) + ((((a0 - (((a0.toUInt32 >>> ((1 : Int32).toUInt32 &&& Int32.toUInt32 31)).toInt32) &&& 1431655765)).toUInt32 >>> ((2 : Int32).toUInt32 &&& Int32.toUInt32 31)).toInt32) &&& 858993459)).toUInt32 >>> ((4 : Int32).toUInt32 &&& Int32.toUInt32 31)).toInt32)) &&& 252645135).toUInt32 >>> ((8 : Int32).toUInt32 &&& Int32.toUInt32 31)).toInt32)).toUInt32 >>> ((16 : Int32).toUInt32 &&& Int32.toUInt32 31)).toInt32) hx hb dJ6_bitCount_0f7a4_45 rfl ?_
  refine lv_iadd hx hb dJ6_bitCount_0f7a4_46 ?_
  refine lv_istore_n (lv' := [(0, .int (((((((a0 - (((a0.toUInt32 >>> ((1 : Int32).toUInt32 &&& Int32.toUInt32 31)).toInt32) &&& 1431655765)) &&& 858993459) + ((((a0 - (((a0.toUInt32 >>> ((1 : Int32).toUInt32 &&& Int32.toUInt32 31)).toInt32) &&& 1431655765)).toUInt32 >>> ((2 : Int32).toUInt32 &&& Int32.toUInt32 31)).toInt32) &&& 858993459)) + (((((a0 - (((a0.toUInt32 >>> ((1 : Int32).toUInt32 &&& Int32.toUInt32 31)).toInt32) &&& 1431655765)) &&& 858993459) + ((((a0 - (((a0.toUInt32 >>> ((1 : Int32).toUInt32 &&& Int32.toUInt32 31)).toInt32) &&& 1431655765)).toUInt32 >>> ((2 : Int32).toUInt32 &&& Int32.toUInt32 31)).toInt32) &&& 858993459)).toUInt32 >>> ((4 : Int32).toUInt32 &&& Int32.toUInt32 31)).toInt32)) &&& 252645135) + (((((((a0 - (((a0.toUInt32 >>> ((1 : Int32).toUInt32 &&& Int32.toUInt32 31)).toInt32) &&& 1431655765)) &&& 858993459) + ((((a0 - (((a0.toUInt32 >>> ((1 : Int32).toUInt32 &&& Int32.toUInt32 31)).toInt32) &&& 1431655765)).toUInt32 >>> ((2 : Int32).toUInt32 &&& Int32.toUInt32 31)).toInt32) &&& 858993459)) + (((((a0 - (((a0.toUInt32 >>> ((1 : Int32).toUInt32 &&& Int32.toUInt32 31)).toInt32) &&& 1431655765)) &&& 858993459) + ((((a0 - (((a0.toUInt32 >>> ((1 : Int32).toUInt32 &&& Int32.toUInt32 31)).toInt32) &&& 1431655765)).toUInt32 >>> ((2 : Int32).toUInt32 &&& Int32.toUInt32 31)).toInt32) &&& 858993459)).toUInt32 >>> ((4 : Int32).toUInt32 &&& Int32.toUInt32 31)).toInt32)) &&& 252645135).toUInt32 >>> ((8 : Int32).toUInt32 &&& Int32.toUInt32 31)).toInt32)) + ((((((((a0 - (((a0.toUInt32 >>> ((1 : Int32).toUInt32 &&& Int32.toUInt32 31)).toInt32) &&& 1431655765)) &&& 858993459) + ((((a0 - (((a0.toUInt32 >>> ((1 : Int32).toUInt32 &&& Int32.toUInt32 31)).toInt32) &&& 1431655765)).toUInt32 >>> ((2 : Int32).toUInt32 &&& Int32.toUInt32 31)).toInt32) &&& 858993459)) + (((((a0 - (((a0.toUInt32 >>> ((1 : Int32).toUInt32 &&& Int32.toUInt32 31)).toInt32) &&& 1431655765)) &&& 858993459) + ((((a0 - (((a0.toUInt32 >>> ((1 : Int32).toUInt32 &&& Int32.toUInt32 31)).toInt32) &&& 1431655765)).toUInt32 >>> ((2 : Int32).toUInt32 &&& Int32.toUInt32 31)).toInt32) &&& 858993459)).toUInt32 >>> ((4 : Int32).toUInt32 &&& Int32.toUInt32 31)).toInt32)) &&& 252645135) + (((((((a0 - (((a0.toUInt32 >>> ((1 : Int32).toUInt32 &&& Int32.toUInt32 31)).toInt32) &&& 1431655765)) &&& 858993459) + ((((a0 - (((a0.toUInt32 >>> ((1 : Int32).toUInt32 &&& Int32.toUInt32 31)).toInt32) &&& 1431655765)).toUInt32 >>> ((2 : Int32).toUInt32 &&& Int32.toUInt32 31)).toInt32) &&& 858993459)) + (((((a0 - (((a0.toUInt32 >>> ((1 : Int32).toUInt32 &&& Int32.toUInt32 31)).toInt32) &&& 1431655765)) &&& 858993459) + ((((a0 - (((a0.toUInt32 >>> ((1 : Int32).toUInt32 &&& Int32.toUInt32 31)).toInt32) &&& 1431655765)).toUInt32 >>> ((2 : Int32).toUInt32 &&& Int32.toUInt32 31)).toInt32) &&& 858993459)).toUInt32 >>> ((4 : Int32).toUInt32 &&& Int32.toUInt32 31)).toInt32)) &&& 252645135).toUInt32 >>> ((8 : Int32).toUInt32 &&& Int32.toUInt32 31)).toInt32)).toUInt32 >>> ((16 : Int32).toUInt32 &&& Int32.toUInt32 31)).toInt32)))]) hx hb dJ6_bitCount_0f7a4_47 rfl hl (by decide) rfl (fun ls hl => ?_)
  refine lv_iload_n hx hb dJ6_bitCount_0f7a4_48 rfl (lv_at hl 0 rfl) ?_
  refine lv_bipush (v := 63) hx hb dJ6_bitCount_0f7a4_49 (by decide) ?_
  refine lv_iand hx hb dJ6_bitCount_0f7a4_51 ?_
  exact retIr C hS hm dJ6_bitCount_0f7a4_52
def M_X4_fewest_5 (σ : ST) : Nat → Int32 → Int32 → Option Int32
  | 0, _, _ => none
  | n + 1, x1, x2 => if (σ.1 38) ≤ x2 then some x1 else (rd 128 (σ.2.2 33) x2).bind fun v18 => if v18 = 0 then M_X4_fewest_5 σ n x1 (x2 + 1) else if x1 = (-9) then M_X4_fewest_5 σ n x2 (x2 + 1) else (M_J6_bitCount_0f7a4 x2).bind fun o29 => (M_J6_bitCount_0f7a4 x1).bind fun o33 => if o33 ≤ o29 then M_X4_fewest_5 σ n x1 (x2 + 1) else M_X4_fewest_5 σ n x2 (x2 + 1)
def M_X4_fewest (σ : ST) : Option Int32 := M_X4_fewest_5 σ 10000 (-9) 0
abbrev rm_X4_fewest : Room := { frames := 1, cells := 0, slots := 0, locals := 20 }
set_option maxRecDepth 100000 in
set_option maxHeartbeats 4000000 in
theorem c_X4_fewest (l : Launch) (d : CD) (q : Nat → Nat) (σ : ST) (out : Int32) (hm : M_X4_fewest σ = some out) : MetI l yX4_fewest cX4_fewest 3 (some .int) rm_X4_fewest d (cw q d σ) [.ref (q 32)] out (cw q d σ) := by
  refine mkI (own := RX4) (by decide +kernel) rfl (Nat.le_of_ble_eq_true rfl) ?_
  intro p e s m below meth c A ls C hS hl
  obtain ⟨hx, hb, hml, hown, hts, -⟩ := id C
  have hl : lv_has ls 3 [(0, .ref (q 32))] := hl
  have L5 : ∀ (n : Nat) (x1 : Int32) (x2 : Int32) (H : Heap) (locs : List Loc) (ls : Array Slot), HS d A s.heap H locs (cw q d σ) → lv_has ls 3 [(0, .ref (q 32)), (1, .int x1), (2, .int x2)] → M_X4_fewest_5 σ n x1 x2 = some out → WI p l e rm_X4_fewest s m [.ref (q 32)].toArray below meth c A d H locs out (cw q d σ) (F0 m 5 ls []) := by
    intro n
    induction n with
    | zero =>
      intro x1 x2 H locs ls hS hl hm
      exact absurd hm (by rw [M_X4_fewest_5]; exact fun h => nomatch h)
    | succ n ih =>
      intro x1 x2 H locs ls hS hl hm
      rw [M_X4_fewest_5] at hm
      refine lv_iload_n hx hb dX4_fewest_5 rfl (lv_at hl 2 rfl) ?_
      refine lv_aload_n hx hb dX4_fewest_6 rfl (lv_at hl 0 rfl) ?_
      refine g_4_35_32 C hS dX4_fewest_7 ?_
      refine lv_icmp_ge (tgt := 47) hx hb dX4_fewest_10 (by decide) (fun c10 => ?_) (fun c10 => ?_)
      · replace hm := it c10 hm
        refine lv_iload_n hx hb dX4_fewest_47 rfl (lv_at hl 1 rfl) ?_
        exact retIr C hS hm dX4_fewest_48
      · replace hm := ie c10 hm
        refine lv_aload_n hx hb dX4_fewest_13 rfl (lv_at hl 0 rfl) ?_
        refine g_4_9_32 C hS dX4_fewest_14 ?_
        refine lv_iload_n hx hb dX4_fewest_17 rfl (lv_at hl 2 rfl) ?_
        obtain ⟨v18, e18, hm⟩ := ob hm
        refine zald' C hS cw_a33 e18 dX4_fewest_18 ?_
        refine lv_if_eq (tgt := 41) hx hb dX4_fewest_19 (by decide) (fun c19 => ?_) (fun c19 => ?_)
        · replace hm := it c19 hm
          refine lv_iinc (v := x2 + 1) (lv' := [(2, .int (x2 + 1)), (0, .ref (q 32)), (1, .int x1)]) hx hb dX4_fewest_41 hl (k := 2) rfl rfl (by decide) rfl (fun ls hl => ?_)
          refine lv_goto (tgt := 5) hx hb dX4_fewest_44 (by decide) ?_
          exact ih x1 (x2 + 1) _ _ _ hS (lv_sub hl [1, 2, 0] rfl) hm
        · replace hm := ie c19 hm
          refine lv_iload_n hx hb dX4_fewest_22 rfl (lv_at hl 1 rfl) ?_
          refine lv_bipush (v := (-9)) hx hb dX4_fewest_23 (by decide) ?_
          refine lv_icmp_eq (tgt := 39) hx hb dX4_fewest_25 (by decide) (fun c25 => ?_) (fun c25 => ?_)
          · replace hm := it c25 hm
            refine lv_iload_n hx hb dX4_fewest_39 rfl (lv_at hl 2 rfl) ?_
            refine lv_istore_n (lv' := [(1, .int x2), (0, .ref (q 32)), (2, .int x2)]) hx hb dX4_fewest_40 rfl hl (by decide) rfl (fun ls hl => ?_)
            refine lv_iinc (v := x2 + 1) (lv' := [(2, .int (x2 + 1)), (1, .int x2), (0, .ref (q 32))]) hx hb dX4_fewest_41 hl (k := 2) rfl rfl (by decide) rfl (fun ls hl => ?_)
            refine lv_goto (tgt := 5) hx hb dX4_fewest_44 (by decide) ?_
            exact ih x2 (x2 + 1) _ _ _ hS (lv_sub hl [2, 1, 0] rfl) hm
          · replace hm := ie c25 hm
            refine lv_iload_n hx hb dX4_fewest_28 rfl (lv_at hl 2 rfl) ?_
            obtain ⟨o29, e29, hm⟩ := ob hm
            refine after_i C hS (call_S (As := [.int x2]) C hS (c_J6_bitCount_0f7a4 l d (cw q d σ) x2 o29 e29 _) is_4_46 ⟨rfl, rfl, Nat.le_of_ble_eq_true rfl, Nat.le_of_ble_eq_true rfl⟩ rfl hl.1 (Nat.le_of_ble_eq_true rfl) dX4_fewest_29) (fun H locs hS => ?_)
            refine lv_iload_n hx hb dX4_fewest_32 rfl (lv_at hl 1 rfl) ?_
            obtain ⟨o33, e33, hm⟩ := ob hm
            refine after_i C hS (call_S (As := [.int x1]) C hS (c_J6_bitCount_0f7a4 l d (cw q d σ) x1 o33 e33 _) is_4_46 ⟨rfl, rfl, Nat.le_of_ble_eq_true rfl, Nat.le_of_ble_eq_true rfl⟩ rfl hl.1 (Nat.le_of_ble_eq_true rfl) dX4_fewest_33) (fun H locs hS => ?_)
            refine lv_icmp_ge (tgt := 41) hx hb dX4_fewest_36 (by decide) (fun c36 => ?_) (fun c36 => ?_)
            · replace hm := it c36 hm
              refine lv_iinc (v := x2 + 1) (lv' := [(2, .int (x2 + 1)), (0, .ref (q 32)), (1, .int x1)]) hx hb dX4_fewest_41 hl (k := 2) rfl rfl (by decide) rfl (fun ls hl => ?_)
              refine lv_goto (tgt := 5) hx hb dX4_fewest_44 (by decide) ?_
              exact ih x1 (x2 + 1) _ _ _ hS (lv_sub hl [1, 2, 0] rfl) hm
            · replace hm := ie c36 hm
              refine lv_iload_n hx hb dX4_fewest_39 rfl (lv_at hl 2 rfl) ?_
              refine lv_istore_n (lv' := [(1, .int x2), (0, .ref (q 32)), (2, .int x2)]) hx hb dX4_fewest_40 rfl hl (by decide) rfl (fun ls hl => ?_)
              refine lv_iinc (v := x2 + 1) (lv' := [(2, .int (x2 + 1)), (1, .int x2), (0, .ref (q 32))]) hx hb dX4_fewest_41 hl (k := 2) rfl rfl (by decide) rfl (fun ls hl => ?_)
              refine lv_goto (tgt := 5) hx hb dX4_fewest_44 (by decide) ?_
              exact ih x2 (x2 + 1) _ _ _ hS (lv_sub hl [2, 1, 0] rfl) hm
  unfold M_X4_fewest at hm
  refine lv_bipush (v := (-9)) hx hb dX4_fewest_0 (by decide) ?_
  refine lv_istore_n (lv' := [(1, .int (-9)), (0, .ref (q 32))]) hx hb dX4_fewest_2 rfl hl (by decide) rfl (fun ls hl => ?_)
  refine lv_iconst (v := 0) hx hb dX4_fewest_3 (by decide) ?_
  refine lv_istore_n (lv' := [(2, .int 0), (1, .int (-9)), (0, .ref (q 32))]) hx hb dX4_fewest_4 rfl hl (by decide) rfl (fun ls hl => ?_)
  exact L5 10000 (-9) 0 _ _ _ hS (lv_sub hl [2, 1, 0] rfl) hm
def M_X6_opens (σ : ST) : Option (Int32 × ST) := (M_X4_look σ).bind fun o4 => (M_X4_howManyOpen o4).bind fun o12 => (M_X6_tell o4 o12.toInt64 1).bind fun o17 => (M_X4_fewest o17).bind fun o25 => (some (setI o17 8 (o25))).bind fun σ28 => some (1, σ28)
abbrev rm_X6_opens : Room := { frames := 5, cells := 0, slots := 0, locals := 109 }
set_option maxRecDepth 100000 in
set_option maxHeartbeats 4000000 in
theorem c_X6_opens (l : Launch) (d : CD) (q : Nat → Nat) (σ : ST) (out : Int32 × ST) (hm : M_X6_opens σ = some out) : MetI l yX6_opens cX6_opens 1 (some .int) rm_X6_opens d (cw q d σ) [.ref (q 0)] out.1 (cw q d out.2) := by
  refine mkI (own := RX6) (by decide +kernel) rfl (Nat.le_of_ble_eq_true rfl) ?_
  intro p e s m below meth c A ls C hS hl
  obtain ⟨hx, hb, hml, hown, hts, -⟩ := id C
  have hl : lv_has ls 1 [(0, .ref (q 0))] := hl
  unfold M_X6_opens at hm
  refine lv_aload_n hx hb dX6_opens_0 rfl (lv_at hl 0 rfl) ?_
  refine g_6_42_0 C hS dX6_opens_1 ?_
  obtain ⟨o4, e4, hm⟩ := ob hm
  refine after_v C hS (call_V (As := []) C hS (c_X4_look l d q σ o4 e4 _) iv_6_203 ⟨rfl, rfl, Nat.le_of_ble_eq_true rfl, Nat.le_of_ble_eq_true rfl⟩ cw_o32 rfl rfl rfl hl.1 (Nat.le_of_ble_eq_true rfl) dX6_opens_4) (fun H locs hS => ?_)
  refine lv_aload_n hx hb dX6_opens_7 rfl (lv_at hl 0 rfl) ?_
  refine lv_aload_n hx hb dX6_opens_8 rfl (lv_at hl 0 rfl) ?_
  refine g_6_42_0 C hS dX6_opens_9 ?_
  obtain ⟨o12, e12, hm⟩ := ob hm
  refine after_i C hS (call_V (As := []) C hS (c_X4_howManyOpen l d q o4 o12 e12 _) iv_6_206 ⟨rfl, rfl, Nat.le_of_ble_eq_true rfl, Nat.le_of_ble_eq_true rfl⟩ cw_o32 rfl rfl rfl hl.1 (Nat.le_of_ble_eq_true rfl) dX6_opens_12) (fun H locs hS => ?_)
  refine lv_i2l (v := o12.toInt64) hx hb dX6_opens_15 rfl ?_
  refine lv_lconst (v := 1) hx hb dX6_opens_16 (by decide) ?_
  obtain ⟨o17, e17, hm⟩ := ob hm
  refine after_v C hS (call_V (As := [.long o12.toInt64, .long 1]) C hS (c_X6_tell l d q o4 o12.toInt64 1 o17 e17 _) iv_6_209 ⟨rfl, rfl, Nat.le_of_ble_eq_true rfl, Nat.le_of_ble_eq_true rfl⟩ cw_o0 rfl rfl rfl hl.1 (Nat.le_of_ble_eq_true rfl) dX6_opens_17) (fun H locs hS => ?_)
  refine lv_aload_n hx hb dX6_opens_20 rfl (lv_at hl 0 rfl) ?_
  refine lv_aload_n hx hb dX6_opens_21 rfl (lv_at hl 0 rfl) ?_
  refine g_6_42_0 C hS dX6_opens_22 ?_
  obtain ⟨o25, e25, hm⟩ := ob hm
  refine after_i C hS (call_V (As := []) C hS (c_X4_fewest l d q o17 o25 e25 _) iv_6_213 ⟨rfl, rfl, Nat.le_of_ble_eq_true rfl, Nat.le_of_ble_eq_true rfl⟩ cw_o32 rfl rfl rfl hl.1 (Nat.le_of_ble_eq_true rfl) dX6_opens_25) (fun H locs hS => ?_)
  obtain ⟨σ28, e28, hm⟩ := ob hm
  refine p_6_60_0 C hS e28 dX6_opens_28 (fun H locs hS => ?_)
  refine lv_iconst (v := 1) hx hb dX6_opens_31 (by decide) ?_
  exact retIw (wf := cw q d) C hS hm dX6_opens_32
def M_X4_inAny_4 (σ : ST) : Nat → Int32 → Int32 → Option Int32
  | 0, _, _ => none
  | n + 1, x1, x2 => if (σ.1 38) ≤ x2 then some x1 else (rd 128 (σ.2.2 33) x2).bind fun v17 => if v17 = 0 then M_X4_inAny_4 σ n x1 (x2 + 1) else M_X4_inAny_4 σ n (x1 ||| x2) (x2 + 1)
def M_X4_inAny (σ : ST) : Option Int32 := M_X4_inAny_4 σ 10000 0 0
abbrev rm_X4_inAny : Room := { frames := 0, cells := 0, slots := 0, locals := 0 }
set_option maxRecDepth 100000 in
set_option maxHeartbeats 4000000 in
theorem c_X4_inAny (l : Launch) (d : CD) (q : Nat → Nat) (σ : ST) (out : Int32) (hm : M_X4_inAny σ = some out) : MetI l yX4_inAny cX4_inAny 3 (some .int) rm_X4_inAny d (cw q d σ) [.ref (q 32)] out (cw q d σ) := by
  refine mkI (own := RX4) (by decide +kernel) rfl (Nat.le_of_ble_eq_true rfl) ?_
  intro p e s m below meth c A ls C hS hl
  obtain ⟨hx, hb, hml, hown, hts, -⟩ := id C
  have hl : lv_has ls 3 [(0, .ref (q 32))] := hl
  have L4 : ∀ (n : Nat) (x1 : Int32) (x2 : Int32) (H : Heap) (locs : List Loc) (ls : Array Slot), HS d A s.heap H locs (cw q d σ) → lv_has ls 3 [(0, .ref (q 32)), (1, .int x1), (2, .int x2)] → M_X4_inAny_4 σ n x1 x2 = some out → WI p l e rm_X4_inAny s m [.ref (q 32)].toArray below meth c A d H locs out (cw q d σ) (F0 m 4 ls []) := by
    intro n
    induction n with
    | zero =>
      intro x1 x2 H locs ls hS hl hm
      exact absurd hm (by rw [M_X4_inAny_4]; exact fun h => nomatch h)
    | succ n ih =>
      intro x1 x2 H locs ls hS hl hm
      rw [M_X4_inAny_4] at hm
      refine lv_iload_n hx hb dX4_inAny_4 rfl (lv_at hl 2 rfl) ?_
      refine lv_aload_n hx hb dX4_inAny_5 rfl (lv_at hl 0 rfl) ?_
      refine g_4_35_32 C hS dX4_inAny_6 ?_
      refine lv_icmp_ge (tgt := 31) hx hb dX4_inAny_9 (by decide) (fun c9 => ?_) (fun c9 => ?_)
      · replace hm := it c9 hm
        refine lv_iload_n hx hb dX4_inAny_31 rfl (lv_at hl 1 rfl) ?_
        exact retIr C hS hm dX4_inAny_32
      · replace hm := ie c9 hm
        refine lv_aload_n hx hb dX4_inAny_12 rfl (lv_at hl 0 rfl) ?_
        refine g_4_9_32 C hS dX4_inAny_13 ?_
        refine lv_iload_n hx hb dX4_inAny_16 rfl (lv_at hl 2 rfl) ?_
        obtain ⟨v17, e17, hm⟩ := ob hm
        refine zald' C hS cw_a33 e17 dX4_inAny_17 ?_
        refine lv_if_eq (tgt := 25) hx hb dX4_inAny_18 (by decide) (fun c18 => ?_) (fun c18 => ?_)
        · replace hm := it c18 hm
          refine lv_iinc (v := x2 + 1) (lv' := [(2, .int (x2 + 1)), (0, .ref (q 32)), (1, .int x1)]) hx hb dX4_inAny_25 hl (k := 2) rfl rfl (by decide) rfl (fun ls hl => ?_)
          refine lv_goto (tgt := 4) hx hb dX4_inAny_28 (by decide) ?_
          exact ih x1 (x2 + 1) _ _ _ hS (lv_sub hl [1, 2, 0] rfl) hm
        · replace hm := ie c18 hm
          refine lv_iload_n hx hb dX4_inAny_21 rfl (lv_at hl 1 rfl) ?_
          refine lv_iload_n hx hb dX4_inAny_22 rfl (lv_at hl 2 rfl) ?_
          refine lv_ior hx hb dX4_inAny_23 ?_
          refine lv_istore_n (lv' := [(1, .int (x1 ||| x2)), (0, .ref (q 32)), (2, .int x2)]) hx hb dX4_inAny_24 rfl hl (by decide) rfl (fun ls hl => ?_)
          refine lv_iinc (v := x2 + 1) (lv' := [(2, .int (x2 + 1)), (1, .int (x1 ||| x2)), (0, .ref (q 32))]) hx hb dX4_inAny_25 hl (k := 2) rfl rfl (by decide) rfl (fun ls hl => ?_)
          refine lv_goto (tgt := 4) hx hb dX4_inAny_28 (by decide) ?_
          exact ih (x1 ||| x2) (x2 + 1) _ _ _ hS (lv_sub hl [2, 1, 0] rfl) hm
  unfold M_X4_inAny at hm
  refine lv_iconst (v := 0) hx hb dX4_inAny_0 (by decide) ?_
  refine lv_istore_n (lv' := [(1, .int 0), (0, .ref (q 32))]) hx hb dX4_inAny_1 rfl hl (by decide) rfl (fun ls hl => ?_)
  refine lv_iconst (v := 0) hx hb dX4_inAny_2 (by decide) ?_
  refine lv_istore_n (lv' := [(2, .int 0), (1, .int 0), (0, .ref (q 32))]) hx hb dX4_inAny_3 rfl hl (by decide) rfl (fun ls hl => ?_)
  exact L4 10000 0 0 _ _ _ hS (lv_sub hl [2, 1, 0] rfl) hm
def M_X4_inAll_9 (σ : ST) : Nat → Int32 → Int32 → Option Int32
  | 0, _, _ => none
  | n + 1, x1, x2 => if (σ.1 38) ≤ x2 then some x1 else (rd 128 (σ.2.2 33) x2).bind fun v22 => if v22 = 0 then M_X4_inAll_9 σ n x1 (x2 + 1) else M_X4_inAll_9 σ n (x1 &&& x2) (x2 + 1)
def M_X4_inAll (σ : ST) : Option Int32 := M_X4_inAll_9 σ 10000 ((σ.1 38) - 1) 0
abbrev rm_X4_inAll : Room := { frames := 0, cells := 0, slots := 0, locals := 0 }
set_option maxRecDepth 100000 in
set_option maxHeartbeats 4000000 in
theorem c_X4_inAll (l : Launch) (d : CD) (q : Nat → Nat) (σ : ST) (out : Int32) (hm : M_X4_inAll σ = some out) : MetI l yX4_inAll cX4_inAll 3 (some .int) rm_X4_inAll d (cw q d σ) [.ref (q 32)] out (cw q d σ) := by
  refine mkI (own := RX4) (by decide +kernel) rfl (Nat.le_of_ble_eq_true rfl) ?_
  intro p e s m below meth c A ls C hS hl
  obtain ⟨hx, hb, hml, hown, hts, -⟩ := id C
  have hl : lv_has ls 3 [(0, .ref (q 32))] := hl
  have L9 : ∀ (n : Nat) (x1 : Int32) (x2 : Int32) (H : Heap) (locs : List Loc) (ls : Array Slot), HS d A s.heap H locs (cw q d σ) → lv_has ls 3 [(0, .ref (q 32)), (1, .int x1), (2, .int x2)] → M_X4_inAll_9 σ n x1 x2 = some out → WI p l e rm_X4_inAll s m [.ref (q 32)].toArray below meth c A d H locs out (cw q d σ) (F0 m 9 ls []) := by
    intro n
    induction n with
    | zero =>
      intro x1 x2 H locs ls hS hl hm
      exact absurd hm (by rw [M_X4_inAll_9]; exact fun h => nomatch h)
    | succ n ih =>
      intro x1 x2 H locs ls hS hl hm
      rw [M_X4_inAll_9] at hm
      refine lv_iload_n hx hb dX4_inAll_9 rfl (lv_at hl 2 rfl) ?_
      refine lv_aload_n hx hb dX4_inAll_10 rfl (lv_at hl 0 rfl) ?_
      refine g_4_35_32 C hS dX4_inAll_11 ?_
      refine lv_icmp_ge (tgt := 36) hx hb dX4_inAll_14 (by decide) (fun c14 => ?_) (fun c14 => ?_)
      · replace hm := it c14 hm
        refine lv_iload_n hx hb dX4_inAll_36 rfl (lv_at hl 1 rfl) ?_
        exact retIr C hS hm dX4_inAll_37
      · replace hm := ie c14 hm
        refine lv_aload_n hx hb dX4_inAll_17 rfl (lv_at hl 0 rfl) ?_
        refine g_4_9_32 C hS dX4_inAll_18 ?_
        refine lv_iload_n hx hb dX4_inAll_21 rfl (lv_at hl 2 rfl) ?_
        obtain ⟨v22, e22, hm⟩ := ob hm
        refine zald' C hS cw_a33 e22 dX4_inAll_22 ?_
        refine lv_if_eq (tgt := 30) hx hb dX4_inAll_23 (by decide) (fun c23 => ?_) (fun c23 => ?_)
        · replace hm := it c23 hm
          refine lv_iinc (v := x2 + 1) (lv' := [(2, .int (x2 + 1)), (0, .ref (q 32)), (1, .int x1)]) hx hb dX4_inAll_30 hl (k := 2) rfl rfl (by decide) rfl (fun ls hl => ?_)
          refine lv_goto (tgt := 9) hx hb dX4_inAll_33 (by decide) ?_
          exact ih x1 (x2 + 1) _ _ _ hS (lv_sub hl [1, 2, 0] rfl) hm
        · replace hm := ie c23 hm
          refine lv_iload_n hx hb dX4_inAll_26 rfl (lv_at hl 1 rfl) ?_
          refine lv_iload_n hx hb dX4_inAll_27 rfl (lv_at hl 2 rfl) ?_
          refine lv_iand hx hb dX4_inAll_28 ?_
          refine lv_istore_n (lv' := [(1, .int (x1 &&& x2)), (0, .ref (q 32)), (2, .int x2)]) hx hb dX4_inAll_29 rfl hl (by decide) rfl (fun ls hl => ?_)
          refine lv_iinc (v := x2 + 1) (lv' := [(2, .int (x2 + 1)), (1, .int (x1 &&& x2)), (0, .ref (q 32))]) hx hb dX4_inAll_30 hl (k := 2) rfl rfl (by decide) rfl (fun ls hl => ?_)
          refine lv_goto (tgt := 9) hx hb dX4_inAll_33 (by decide) ?_
          exact ih (x1 &&& x2) (x2 + 1) _ _ _ hS (lv_sub hl [2, 1, 0] rfl) hm
  unfold M_X4_inAll at hm
  refine lv_aload_n hx hb dX4_inAll_0 rfl (lv_at hl 0 rfl) ?_
  refine g_4_35_32 C hS dX4_inAll_1 ?_
  refine lv_iconst (v := 1) hx hb dX4_inAll_4 (by decide) ?_
  refine lv_isub hx hb dX4_inAll_5 ?_
  refine lv_istore_n (lv' := [(1, .int ((σ.1 38) - 1)), (0, .ref (q 32))]) hx hb dX4_inAll_6 rfl hl (by decide) rfl (fun ls hl => ?_)
  refine lv_iconst (v := 0) hx hb dX4_inAll_7 (by decide) ?_
  refine lv_istore_n (lv' := [(2, .int 0), (1, .int ((σ.1 38) - 1)), (0, .ref (q 32))]) hx hb dX4_inAll_8 rfl hl (by decide) rfl (fun ls hl => ?_)
  exact L9 10000 ((σ.1 38) - 1) 0 _ _ _ hS (lv_sub hl [2, 1, 0] rfl) hm
def M_X6_must (σ : ST) : Option (Int32 × ST) := (M_X4_look σ).bind fun o4 => (M_X4_howManyOpen o4).bind fun o11 => if o11 = 0 then some ((-4), o4) else (M_X4_inAny o4).bind fun o25 => (some (setI o4 8 (o25))).bind fun σ28 => (M_X4_inAll σ28).bind fun o35 => some (o35, σ28)
abbrev rm_X6_must : Room := { frames := 5, cells := 0, slots := 0, locals := 109 }
set_option maxRecDepth 100000 in
set_option maxHeartbeats 4000000 in
theorem c_X6_must (l : Launch) (d : CD) (q : Nat → Nat) (σ : ST) (out : Int32 × ST) (hm : M_X6_must σ = some out) : MetI l yX6_must cX6_must 1 (some .int) rm_X6_must d (cw q d σ) [.ref (q 0)] out.1 (cw q d out.2) := by
  refine mkI (own := RX6) (by decide +kernel) rfl (Nat.le_of_ble_eq_true rfl) ?_
  intro p e s m below meth c A ls C hS hl
  obtain ⟨hx, hb, hml, hown, hts, -⟩ := id C
  have hl : lv_has ls 1 [(0, .ref (q 0))] := hl
  unfold M_X6_must at hm
  refine lv_aload_n hx hb dX6_must_0 rfl (lv_at hl 0 rfl) ?_
  refine g_6_42_0 C hS dX6_must_1 ?_
  obtain ⟨o4, e4, hm⟩ := ob hm
  refine after_v C hS (call_V (As := []) C hS (c_X4_look l d q σ o4 e4 _) iv_6_203 ⟨rfl, rfl, Nat.le_of_ble_eq_true rfl, Nat.le_of_ble_eq_true rfl⟩ cw_o32 rfl rfl rfl hl.1 (Nat.le_of_ble_eq_true rfl) dX6_must_4) (fun H locs hS => ?_)
  refine lv_aload_n hx hb dX6_must_7 rfl (lv_at hl 0 rfl) ?_
  refine g_6_42_0 C hS dX6_must_8 ?_
  obtain ⟨o11, e11, hm⟩ := ob hm
  refine after_i C hS (call_V (As := []) C hS (c_X4_howManyOpen l d q o4 o11 e11 _) iv_6_206 ⟨rfl, rfl, Nat.le_of_ble_eq_true rfl, Nat.le_of_ble_eq_true rfl⟩ cw_o32 rfl rfl rfl hl.1 (Nat.le_of_ble_eq_true rfl) dX6_must_11) (fun H locs hS => ?_)
  refine lv_if_ne (tgt := 20) hx hb dX6_must_14 (by decide) (fun c14 => ?_) (fun c14 => ?_)
  · replace hm := ie c14 hm
    refine lv_aload_n hx hb dX6_must_20 rfl (lv_at hl 0 rfl) ?_
    refine lv_aload_n hx hb dX6_must_21 rfl (lv_at hl 0 rfl) ?_
    refine g_6_42_0 C hS dX6_must_22 ?_
    obtain ⟨o25, e25, hm⟩ := ob hm
    refine after_i C hS (call_V (As := []) C hS (c_X4_inAny l d q o4 o25 e25 _) iv_6_216 ⟨rfl, rfl, Nat.le_of_ble_eq_true rfl, Nat.le_of_ble_eq_true rfl⟩ cw_o32 rfl rfl rfl hl.1 (Nat.le_of_ble_eq_true rfl) dX6_must_25) (fun H locs hS => ?_)
    obtain ⟨σ28, e28, hm⟩ := ob hm
    refine p_6_60_0 C hS e28 dX6_must_28 (fun H locs hS => ?_)
    refine lv_aload_n hx hb dX6_must_31 rfl (lv_at hl 0 rfl) ?_
    refine g_6_42_0 C hS dX6_must_32 ?_
    obtain ⟨o35, e35, hm⟩ := ob hm
    refine after_i C hS (call_V (As := []) C hS (c_X4_inAll l d q σ28 o35 e35 _) iv_6_219 ⟨rfl, rfl, Nat.le_of_ble_eq_true rfl, Nat.le_of_ble_eq_true rfl⟩ cw_o32 rfl rfl rfl hl.1 (Nat.le_of_ble_eq_true rfl) dX6_must_35) (fun H locs hS => ?_)
    exact retIw (wf := cw q d) C hS hm dX6_must_38
  · replace hm := it c14 hm
    refine lv_bipush (v := (-4)) hx hb dX6_must_17 (by decide) ?_
    exact retIw (wf := cw q d) C hS hm dX6_must_19
