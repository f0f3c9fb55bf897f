def M_X7_call (σ : ST) : Option (Int32 × ST) := if (σ.1 3) = 0 then some ((-4), σ) else (M_X7_layWins σ).bind fun o11 => (rd 2187 (o11.2.2 14) 0).bind fun v19 => if v19 = 0 then some (0, o11) else some (1, o11)
abbrev rm_X7_call : Room := { frames := 4, cells := 0, slots := 0, locals := 92 }
set_option maxRecDepth 100000 in
set_option maxHeartbeats 4000000 in
theorem c_X7_call (l : Launch) (d : CD) (q : Nat → Nat) (σ : ST) (out : Int32 × ST) (hm : M_X7_call σ = some out) : MetI l yX7_call cX7_call 1 (some .int) rm_X7_call d (mw q d σ) [.ref (q 0)] out.1 (mw q d out.2) := by
  refine mkI (own := RX7) (by decide +kernel) rfl (Nat.le_of_ble_eq_true rfl) ?_
  intro p e s m below meth c A ls C hS hl
  obtain ⟨hx, hb, hml, hown, hts, -⟩ := id C
  have hl : lv_has ls 1 [(0, .ref (q 0))] := hl
  unfold M_X7_call at hm
  refine lv_aload_n hx hb dX7_call_0 rfl (lv_at hl 0 rfl) ?_
  refine g_7_158_0 C hS dX7_call_1 ?_
  refine lv_if_ne (tgt := 10) hx hb dX7_call_4 (by decide) (fun c4 => ?_) (fun c4 => ?_)
  · replace hm := ie c4 hm
    refine lv_aload_n hx hb dX7_call_10 rfl (lv_at hl 0 rfl) ?_
    obtain ⟨o11, e11, hm⟩ := ob hm
    refine after_v C hS (call_V (As := []) C hS (c_X7_layWins l d q σ o11 e11 _) iv_7_268 ⟨rfl, rfl, Nat.le_of_ble_eq_true rfl, Nat.le_of_ble_eq_true rfl⟩ mw_o0 rfl rfl rfl hl.1 (Nat.le_of_ble_eq_true rfl) dX7_call_11) (fun H locs hS => ?_)
    refine lv_aload_n hx hb dX7_call_14 rfl (lv_at hl 0 rfl) ?_
    refine g_7_53_0 C hS dX7_call_15 ?_
    refine lv_iconst (v := 0) hx hb dX7_call_18 (by decide) ?_
    obtain ⟨v19, e19, hm⟩ := ob hm
    refine zald' C hS mw_a14 e19 dX7_call_19 ?_
    refine lv_if_eq (tgt := 27) hx hb dX7_call_20 (by decide) (fun c20 => ?_) (fun c20 => ?_)
    · replace hm := it c20 hm
      refine lv_iconst (v := 0) hx hb dX7_call_27 (by decide) ?_
      exact retIw (wf := mw q d) C hS hm dX7_call_28
    · replace hm := ie c20 hm
      refine lv_iconst (v := 1) hx hb dX7_call_23 (by decide) ?_
      refine lv_goto (tgt := 28) hx hb dX7_call_24 (by decide) ?_
      exact retIw (wf := mw q d) C hS hm dX7_call_28
  · replace hm := it c4 hm
    refine lv_bipush (v := (-4)) hx hb dX7_call_7 (by decide) ?_
    exact retIw (wf := mw q d) C hS hm dX7_call_9
def M_X7_first_16 : Nat → ST → Int32 → Option (Int32 × ST)
  | 0, _, _ => none
  | n + 1, σ, x1 => if (σ.1 3) ≤ x1 then some ((-9), σ) else (M_X7_power x1).bind fun o29 => (rd 2187 (σ.2.2 14) o29).bind fun v32 => if v32 = 0 then M_X7_first_16 n σ (x1 + 1) else some (x1, σ)
def M_X7_first (σ : ST) : Option (Int32 × ST) := if (σ.1 3) = 0 then some ((-4), σ) else (M_X7_layWins σ).bind fun o11 => M_X7_first_16 10000 o11 0
abbrev rm_X7_first : Room := { frames := 4, cells := 0, slots := 0, locals := 92 }
set_option maxRecDepth 100000 in
set_option maxHeartbeats 4000000 in
theorem c_X7_first (l : Launch) (d : CD) (q : Nat → Nat) (σ : ST) (out : Int32 × ST) (hm : M_X7_first σ = some out) : MetI l yX7_first cX7_first 2 (some .int) rm_X7_first d (mw q d σ) [.ref (q 0)] out.1 (mw q d out.2) := by
  refine mkI (own := RX7) (by decide +kernel) rfl (Nat.le_of_ble_eq_true rfl) ?_
  intro p e s m below meth c A ls C hS hl
  obtain ⟨hx, hb, hml, hown, hts, -⟩ := id C
  have hl : lv_has ls 2 [(0, .ref (q 0))] := hl
  have L16 : ∀ (n : Nat) (σ : ST) (x1 : Int32) (H : Heap) (locs : List Loc) (ls : Array Slot), HS d A s.heap H locs (mw q d σ) → lv_has ls 2 [(0, .ref (q 0)), (1, .int x1)] → M_X7_first_16 n σ x1 = some out → WI p l e rm_X7_first s m [.ref (q 0)].toArray below meth c A d H locs out.1 (mw q d out.2) (F0 m 16 ls []) := by
    intro n
    induction n with
    | zero =>
      intro σ x1 H locs ls hS hl hm
      exact absurd hm (by rw [M_X7_first_16]; exact fun h => nomatch h)
    | succ n ih =>
      intro σ x1 H locs ls hS hl hm
      rw [M_X7_first_16] at hm
      refine lv_iload_n hx hb dX7_first_16 rfl (lv_at hl 1 rfl) ?_
      refine lv_aload_n hx hb dX7_first_17 rfl (lv_at hl 0 rfl) ?_
      refine g_7_158_0 C hS dX7_first_18 ?_
      refine lv_icmp_ge (tgt := 44) hx hb dX7_first_21 (by decide) (fun c21 => ?_) (fun c21 => ?_)
      · replace hm := it c21 hm
        refine lv_bipush (v := (-9)) hx hb dX7_first_44 (by decide) ?_
        exact retIw (wf := mw q d) C hS hm dX7_first_46
      · replace hm := ie c21 hm
        refine lv_aload_n hx hb dX7_first_24 rfl (lv_at hl 0 rfl) ?_
        refine g_7_53_0 C hS dX7_first_25 ?_
        refine lv_iload_n hx hb dX7_first_28 rfl (lv_at hl 1 rfl) ?_
        obtain ⟨o29, e29, hm⟩ := ob hm
        refine after_i C hS (call_S (As := [.int x1]) C hS (c_X7_power l d (mw q d σ) x1 o29 e29 _) is_7_265 ⟨rfl, rfl, Nat.le_of_ble_eq_true rfl, Nat.le_of_ble_eq_true rfl⟩ rfl hl.1 (Nat.le_of_ble_eq_true rfl) dX7_first_29) (fun H locs hS => ?_)
        obtain ⟨v32, e32, hm⟩ := ob hm
        refine zald' C hS mw_a14 e32 dX7_first_32 ?_
        refine lv_if_eq (tgt := 38) hx hb dX7_first_33 (by decide) (fun c33 => ?_) (fun c33 => ?_)
        · replace hm := it c33 hm
          refine lv_iinc (v := x1 + 1) (lv' := [(1, .int (x1 + 1)), (0, .ref (q 0))]) hx hb dX7_first_38 hl (k := 1) rfl rfl (by decide) rfl (fun ls hl => ?_)
          refine lv_goto (tgt := 16) hx hb dX7_first_41 (by decide) ?_
          exact ih σ (x1 + 1) _ _ _ hS (lv_sub hl [1, 0] rfl) hm
        · replace hm := ie c33 hm
          refine lv_iload_n hx hb dX7_first_36 rfl (lv_at hl 1 rfl) ?_
          exact retIw (wf := mw q d) C hS hm dX7_first_37
  unfold M_X7_first at hm
  refine lv_aload_n hx hb dX7_first_0 rfl (lv_at hl 0 rfl) ?_
  refine g_7_158_0 C hS dX7_first_1 ?_
  refine lv_if_ne (tgt := 10) hx hb dX7_first_4 (by decide) (fun c4 => ?_) (fun c4 => ?_)
  · replace hm := ie c4 hm
    refine lv_aload_n hx hb dX7_first_10 rfl (lv_at hl 0 rfl) ?_
    obtain ⟨o11, e11, hm⟩ := ob hm
    refine after_v C hS (call_V (As := []) C hS (c_X7_layWins l d q σ o11 e11 _) iv_7_268 ⟨rfl, rfl, Nat.le_of_ble_eq_true rfl, Nat.le_of_ble_eq_true rfl⟩ mw_o0 rfl rfl rfl hl.1 (Nat.le_of_ble_eq_true rfl) dX7_first_11) (fun H locs hS => ?_)
    refine lv_iconst (v := 0) hx hb dX7_first_14 (by decide) ?_
    refine lv_istore_n (lv' := [(1, .int 0), (0, .ref (q 0))]) hx hb dX7_first_15 rfl hl (by decide) rfl (fun ls hl => ?_)
    exact L16 10000 o11 0 _ _ _ hS (lv_sub hl [1, 0] rfl) hm
  · replace hm := it c4 hm
    refine lv_bipush (v := (-4)) hx hb dX7_first_7 (by decide) ?_
    exact retIw (wf := mw q d) C hS hm dX7_first_9
def M_X7_tellChance_96 (k8 : ST → Int32 → Int32 → Int64 → Int64 → Int32 → Option (Int32 × ST)) (σ : ST) (x1 : Int32) (x2 : Int32) (x5 : Int64) (x7 : Int32) (x8 : Int64) (y0 : Int64) (y1 : Int64) : Option (Int32 × ST) := k8 σ x1 x2 (y0 + y1) (x5 + x8) (x7 + 1)
def M_X7_tellChance_54 (k8 : ST → Int32 → Int32 → Int64 → Int64 → Int32 → Option (Int32 × ST)) (k23 : ST → Int32 → Int32 → Int64 → Int64 → Int32 → Int64 → Int32 → Option (Int32 × ST)) (σ : ST) (x1 : Int32) (x2 : Int32) (x3 : Int64) (x5 : Int64) (x7 : Int32) (x10 : Int32) (y0 : Int64) (y1 : Int64) : Option (Int32 × ST) := k23 σ x1 x2 x3 x5 x7 (y0 * y1) (x10 + 1)
def M_X7_tellChance_23 (k8 : ST → Int32 → Int32 → Int64 → Int64 → Int32 → Option (Int32 × ST)) : Nat → ST → Int32 → Int32 → Int64 → Int64 → Int32 → Int64 → Int32 → Option (Int32 × ST)
  | 0, _, _, _, _, _, _, _, _ => none
  | n + 1, σ, x1, x2, x3, x5, x7, x8, x10 => if (σ.1 3) ≤ x10 then (M_X7_isOpen σ x7).bind fun o67 => if o67 = 0 then M_X7_tellChance_96 k8 σ x1 x2 x5 x7 x8 x3 0 else if x2 = 0 then M_X7_tellChance_96 k8 σ x1 x2 x5 x7 x8 x3 x8 else (M_X7_drawnOf σ x7).bind fun o86 => M_X7_tellChance_96 k8 σ x1 x2 x5 x7 x8 x3 (x8 * o86.toInt64) else (M_X7_has x7 x10).bind fun o38 => if o38 = 0 then M_X7_tellChance_54 k8 (M_X7_tellChance_23 k8 n) σ x1 x2 x3 x5 x7 x10 x8 ((12 - x1).toInt64) else M_X7_tellChance_54 k8 (M_X7_tellChance_23 k8 n) σ x1 x2 x3 x5 x7 x10 x8 x1.toInt64
def M_X7_tellChance_8 : Nat → ST → Int32 → Int32 → Int64 → Int64 → Int32 → Option (Int32 × ST)
  | 0, _, _, _, _, _, _ => none
  | n + 1, σ, x1, x2, x3, x5, x7 => (M_X7_all σ).bind fun o11 => if o11 < x7 then (M_X7_tellParts σ x3 x5).bind fun o115 => some (o115.1, o115.2) else M_X7_tellChance_23 (M_X7_tellChance_8 n) 10000 σ x1 x2 x3 x5 x7 1 0
def M_X7_tellChance (σ : ST) (a1 : Int32) (a2 : Int32) : Option (Int32 × ST) := M_X7_tellChance_8 10000 σ a1 a2 0 0 0
abbrev rm_X7_tellChance : Room := { frames := 3, cells := 0, slots := 0, locals := 66 }
set_option maxRecDepth 100000 in
set_option maxHeartbeats 4000000 in
theorem c_X7_tellChance (l : Launch) (d : CD) (q : Nat → Nat) (σ : ST) (a1 : Int32) (a2 : Int32) (out : Int32 × ST) (hm : M_X7_tellChance σ a1 a2 = some out) : MetI l yX7_tellChance cX7_tellChance 11 (some .int) rm_X7_tellChance d (mw q d σ) [.ref (q 0), .int a1, .int a2] out.1 (mw q d out.2) := by
  refine mkI (own := RX7) (by decide +kernel) rfl (Nat.le_of_ble_eq_true rfl) ?_
  intro p e s m below meth c A ls C hS hl
  obtain ⟨hx, hb, hml, hown, hts, -⟩ := id C
  have hl : lv_has ls 11 [(0, .ref (q 0)), (1, .int a1), (2, .int a2)] := hl
  have J96 : ∀ (k8 : ST → Int32 → Int32 → Int64 → Int64 → Int32 → Option (Int32 × ST)) (hk8 : ∀ (σ : ST) (x1 : Int32) (x2 : Int32) (x3 : Int64) (x5 : Int64) (x7 : Int32) (H : Heap) (locs : List Loc) (ls : Array Slot), HS d A s.heap H locs (mw q d σ) → lv_has ls 11 [(0, .ref (q 0)), (1, .int x1), (2, .int x2), (3, .long x3), (5, .long x5), (7, .int x7)] → k8 σ x1 x2 x3 x5 x7 = some out → WI p l e rm_X7_tellChance s m [.ref (q 0), .int a1, .int a2].toArray below meth c A d H locs out.1 (mw q d out.2) (F0 m 8 ls [])) (σ : ST) (x1 : Int32) (x2 : Int32) (x5 : Int64) (x7 : Int32) (x8 : Int64) (y0 : Int64) (y1 : Int64) (H : Heap) (locs : List Loc) (ls : Array Slot), HS d A s.heap H locs (mw q d σ) → lv_has ls 11 [(0, .ref (q 0)), (1, .int x1), (2, .int x2), (5, .long x5), (7, .int x7), (8, .long x8)] → M_X7_tellChance_96 k8 σ x1 x2 x5 x7 x8 y0 y1 = some out → WI p l e rm_X7_tellChance s m [.ref (q 0), .int a1, .int a2].toArray below meth c A d H locs out.1 (mw q d out.2) (F0 m 96 ls [.long y1, .long y0]) := by
    intro k8 hk8 σ x1 x2 x5 x7 x8 y0 y1 H locs ls hS hl hm
    unfold M_X7_tellChance_96 at hm
    refine lv_ladd hx hb dX7_tellChance_96 ?_
    refine lv_lstore_n (lv' := [(3, .long (y0 + y1)), (0, .ref (q 0)), (1, .int x1), (2, .int x2), (5, .long x5), (7, .int x7), (8, .long x8)]) hx hb dX7_tellChance_97 rfl hl (by decide) rfl (fun ls hl => ?_)
    refine lv_lload hx hb dX7_tellChance_98 (lv_at hl 4 rfl) ?_
    refine lv_lload hx hb dX7_tellChance_100 (lv_at hl 6 rfl) ?_
    refine lv_ladd hx hb dX7_tellChance_102 ?_
    refine lv_lstore (lv' := [(5, .long (x5 + x8)), (3, .long (y0 + y1)), (0, .ref (q 0)), (1, .int x1), (2, .int x2), (7, .int x7), (8, .long x8)]) hx hb dX7_tellChance_103 hl (by decide) rfl (fun ls hl => ?_)
    refine lv_iinc (v := x7 + 1) (lv' := [(7, .int (x7 + 1)), (5, .long (x5 + x8)), (3, .long (y0 + y1)), (0, .ref (q 0)), (1, .int x1), (2, .int x2), (8, .long x8)]) hx hb dX7_tellChance_105 hl (k := 5) rfl rfl (by decide) rfl (fun ls hl => ?_)
    refine lv_goto (tgt := 8) hx hb dX7_tellChance_108 (by decide) ?_
    exact hk8 σ x1 x2 (y0 + y1) (x5 + x8) (x7 + 1) _ _ _ hS (lv_sub hl [3, 4, 5, 2, 1, 0] rfl) hm
  have J54 : ∀ (k8 : ST → Int32 → Int32 → Int64 → Int64 → Int32 → Option (Int32 × ST)) (hk8 : ∀ (σ : ST) (x1 : Int32) (x2 : Int32) (x3 : Int64) (x5 : Int64) (x7 : Int32) (H : Heap) (locs : List Loc) (ls : Array Slot), HS d A s.heap H locs (mw q d σ) → lv_has ls 11 [(0, .ref (q 0)), (1, .int x1), (2, .int x2), (3, .long x3), (5, .long x5), (7, .int x7)] → k8 σ x1 x2 x3 x5 x7 = some out → WI p l e rm_X7_tellChance s m [.ref (q 0), .int a1, .int a2].toArray below meth c A d H locs out.1 (mw q d out.2) (F0 m 8 ls [])) (k23 : ST → Int32 → Int32 → Int64 → Int64 → Int32 → Int64 → Int32 → Option (Int32 × ST)) (hk23 : ∀ (σ : ST) (x1 : Int32) (x2 : Int32) (x3 : Int64) (x5 : Int64) (x7 : Int32) (x8 : Int64) (x10 : Int32) (H : Heap) (locs : List Loc) (ls : Array Slot), HS d A s.heap H locs (mw q d σ) → lv_has ls 11 [(0, .ref (q 0)), (1, .int x1), (2, .int x2), (3, .long x3), (5, .long x5), (7, .int x7), (8, .long x8), (10, .int x10)] → k23 σ x1 x2 x3 x5 x7 x8 x10 = some out → WI p l e rm_X7_tellChance s m [.ref (q 0), .int a1, .int a2].toArray below meth c A d H locs out.1 (mw q d out.2) (F0 m 23 ls [])) (σ : ST) (x1 : Int32) (x2 : Int32) (x3 : Int64) (x5 : Int64) (x7 : Int32) (x10 : Int32) (y0 : Int64) (y1 : Int64) (H : Heap) (locs : List Loc) (ls : Array Slot), HS d A s.heap H locs (mw q d σ) → lv_has ls 11 [(0, .ref (q 0)), (1, .int x1), (2, .int x2), (3, .long x3), (5, .long x5), (7, .int x7), (10, .int x10)] → M_X7_tellChance_54 k8 k23 σ x1 x2 x3 x5 x7 x10 y0 y1 = some out → WI p l e rm_X7_tellChance s m [.ref (q 0), .int a1, .int a2].toArray below meth c A d H locs out.1 (mw q d out.2) (F0 m 54 ls [.long y1, .long y0]) := by
    intro k8 hk8 k23 hk23 σ x1 x2 x3 x5 x7 x10 y0 y1 H locs ls hS hl hm
    unfold M_X7_tellChance_54 at hm
    refine lv_lmul hx hb dX7_tellChance_54 ?_
    refine lv_lstore (lv' := [(8, .long (y0 * y1)), (0, .ref (q 0)), (1, .int x1), (2, .int x2), (3, .long x3), (5, .long x5), (7, .int x7), (10, .int x10)]) hx hb dX7_tellChance_55 hl (by decide) rfl (fun ls hl => ?_)
    refine lv_iinc (v := x10 + 1) (lv' := [(10, .int (x10 + 1)), (8, .long (y0 * y1)), (0, .ref (q 0)), (1, .int x1), (2, .int x2), (3, .long x3), (5, .long x5), (7, .int x7)]) hx hb dX7_tellChance_57 hl (k := 7) rfl rfl (by decide) rfl (fun ls hl => ?_)
    refine lv_goto (tgt := 23) hx hb dX7_tellChance_60 (by decide) ?_
    exact hk23 σ x1 x2 x3 x5 x7 (y0 * y1) (x10 + 1) _ _ _ hS (lv_sub hl [2, 3, 4, 5, 6, 7, 1, 0] rfl) hm
  have L23 : ∀ (k8 : ST → Int32 → Int32 → Int64 → Int64 → Int32 → Option (Int32 × ST)) (hk8 : ∀ (σ : ST) (x1 : Int32) (x2 : Int32) (x3 : Int64) (x5 : Int64) (x7 : Int32) (H : Heap) (locs : List Loc) (ls : Array Slot), HS d A s.heap H locs (mw q d σ) → lv_has ls 11 [(0, .ref (q 0)), (1, .int x1), (2, .int x2), (3, .long x3), (5, .long x5), (7, .int x7)] → k8 σ x1 x2 x3 x5 x7 = some out → WI p l e rm_X7_tellChance s m [.ref (q 0), .int a1, .int a2].toArray below meth c A d H locs out.1 (mw q d out.2) (F0 m 8 ls [])) (n : Nat) (σ : ST) (x1 : Int32) (x2 : Int32) (x3 : Int64) (x5 : Int64) (x7 : Int32) (x8 : Int64) (x10 : Int32) (H : Heap) (locs : List Loc) (ls : Array Slot), HS d A s.heap H locs (mw q d σ) → lv_has ls 11 [(0, .ref (q 0)), (1, .int x1), (2, .int x2), (3, .long x3), (5, .long x5), (7, .int x7), (8, .long x8), (10, .int x10)] → M_X7_tellChance_23 k8 n σ x1 x2 x3 x5 x7 x8 x10 = some out → WI p l e rm_X7_tellChance s m [.ref (q 0), .int a1, .int a2].toArray below meth c A d H locs out.1 (mw q d out.2) (F0 m 23 ls []) := by
    intro k8 hk8 n
    induction n with
    | zero =>
      intro σ x1 x2 x3 x5 x7 x8 x10 H locs ls hS hl hm
      exact absurd hm (by rw [M_X7_tellChance_23]; exact fun h => nomatch h)
    | succ n ih =>
      intro σ x1 x2 x3 x5 x7 x8 x10 H locs ls hS hl hm
      rw [M_X7_tellChance_23] at hm
      refine lv_iload hx hb dX7_tellChance_23 (lv_at hl 7 rfl) ?_
      refine lv_aload_n hx hb dX7_tellChance_25 rfl (lv_at hl 0 rfl) ?_
      refine g_7_158_0 C hS dX7_tellChance_26 ?_
      refine lv_icmp_ge (tgt := 63) hx hb dX7_tellChance_29 (by decide) (fun c29 => ?_) (fun c29 => ?_)
      · replace hm := it c29 hm
        refine lv_lload_n hx hb dX7_tellChance_63 rfl (lv_at hl 3 rfl) ?_
        refine lv_aload_n hx hb dX7_tellChance_64 rfl (lv_at hl 0 rfl) ?_
        refine lv_iload hx hb dX7_tellChance_65 (lv_at hl 5 rfl) ?_
        obtain ⟨o67, e67, hm⟩ := ob hm
        refine after_i C hS (call_V (As := [.int x7]) C hS (c_X7_isOpen l d q σ x7 o67 e67 _) iv_7_187 ⟨rfl, rfl, Nat.le_of_ble_eq_true rfl, Nat.le_of_ble_eq_true rfl⟩ mw_o0 rfl rfl rfl hl.1 (Nat.le_of_ble_eq_true rfl) dX7_tellChance_67) (fun H locs hS => ?_)
        refine lv_if_ne (tgt := 77) hx hb dX7_tellChance_70 (by decide) (fun c70 => ?_) (fun c70 => ?_)
        · replace hm := ie c70 hm
          refine lv_iload_n hx hb dX7_tellChance_77 rfl (lv_at hl 2 rfl) ?_
          refine lv_if_eq (tgt := 94) hx hb dX7_tellChance_78 (by decide) (fun c78 => ?_) (fun c78 => ?_)
          · replace hm := it c78 hm
            refine lv_lload hx hb dX7_tellChance_94 (lv_at hl 6 rfl) ?_
            exact J96 k8 hk8 σ x1 x2 x5 x7 x8 x3 x8 _ _ _ hS (lv_sub hl [0, 1, 2, 4, 5, 6] rfl) hm
          · replace hm := ie c78 hm
            refine lv_lload hx hb dX7_tellChance_81 (lv_at hl 6 rfl) ?_
            refine lv_aload_n hx hb dX7_tellChance_83 rfl (lv_at hl 0 rfl) ?_
            refine lv_iload hx hb dX7_tellChance_84 (lv_at hl 5 rfl) ?_
            obtain ⟨o86, e86, hm⟩ := ob hm
            refine after_i C hS (call_V (As := [.int x7]) C hS (c_X7_drawnOf l d q σ x7 o86 e86 _) iv_7_259 ⟨rfl, rfl, Nat.le_of_ble_eq_true rfl, Nat.le_of_ble_eq_true rfl⟩ mw_o0 rfl rfl rfl hl.1 (Nat.le_of_ble_eq_true rfl) dX7_tellChance_86) (fun H locs hS => ?_)
            refine lv_i2l (v := o86.toInt64) hx hb dX7_tellChance_89 rfl ?_
            refine lv_lmul hx hb dX7_tellChance_90 ?_
            refine lv_goto (tgt := 96) hx hb dX7_tellChance_91 (by decide) ?_
            exact J96 k8 hk8 σ x1 x2 x5 x7 x8 x3 (x8 * o86.toInt64) _ _ _ hS (lv_sub hl [0, 1, 2, 4, 5, 6] rfl) hm
        · replace hm := it c70 hm
          refine lv_lconst (v := 0) hx hb dX7_tellChance_73 (by decide) ?_
          refine lv_goto (tgt := 96) hx hb dX7_tellChance_74 (by decide) ?_
          exact J96 k8 hk8 σ x1 x2 x5 x7 x8 x3 0 _ _ _ hS (lv_sub hl [0, 1, 2, 4, 5, 6] rfl) hm
      · replace hm := ie c29 hm
        refine lv_lload hx hb dX7_tellChance_32 (lv_at hl 6 rfl) ?_
        refine lv_iload hx hb dX7_tellChance_34 (lv_at hl 5 rfl) ?_
        refine lv_iload hx hb dX7_tellChance_36 (lv_at hl 7 rfl) ?_
        obtain ⟨o38, e38, hm⟩ := ob hm
        refine after_i C hS (call_S (As := [.int x7, .int x10]) C hS (c_X7_has l d (mw q d σ) x7 x10 o38 e38 _) is_7_135 ⟨rfl, rfl, Nat.le_of_ble_eq_true rfl, Nat.le_of_ble_eq_true rfl⟩ rfl hl.1 (Nat.le_of_ble_eq_true rfl) dX7_tellChance_38) (fun H locs hS => ?_)
        refine lv_if_eq (tgt := 49) hx hb dX7_tellChance_41 (by decide) (fun c41 => ?_) (fun c41 => ?_)
        · replace hm := it c41 hm
          refine lv_bipush (v := 12) hx hb dX7_tellChance_49 (by decide) ?_
          refine lv_iload_n hx hb dX7_tellChance_51 rfl (lv_at hl 1 rfl) ?_
          refine lv_isub hx hb dX7_tellChance_52 ?_
          refine lv_i2l (v := (12 - x1).toInt64) hx hb dX7_tellChance_53 rfl ?_
          exact J54 k8 hk8 (M_X7_tellChance_23 k8 n) ih σ x1 x2 x3 x5 x7 x10 x8 ((12 - x1).toInt64) _ _ _ hS (lv_sub hl [0, 1, 2, 3, 4, 5, 7] rfl) hm
        · replace hm := ie c41 hm
          refine lv_iload_n hx hb dX7_tellChance_44 rfl (lv_at hl 1 rfl) ?_
          refine lv_i2l (v := x1.toInt64) hx hb dX7_tellChance_45 rfl ?_
          refine lv_goto (tgt := 54) hx hb dX7_tellChance_46 (by decide) ?_
          exact J54 k8 hk8 (M_X7_tellChance_23 k8 n) ih σ x1 x2 x3 x5 x7 x10 x8 x1.toInt64 _ _ _ hS (lv_sub hl [0, 1, 2, 3, 4, 5, 7] rfl) hm
  have L8 : ∀ (n : Nat) (σ : ST) (x1 : Int32) (x2 : Int32) (x3 : Int64) (x5 : Int64) (x7 : Int32) (H : Heap) (locs : List Loc) (ls : Array Slot), HS d A s.heap H locs (mw q d σ) → lv_has ls 11 [(0, .ref (q 0)), (1, .int x1), (2, .int x2), (3, .long x3), (5, .long x5), (7, .int x7)] → M_X7_tellChance_8 n σ x1 x2 x3 x5 x7 = some out → WI p l e rm_X7_tellChance s m [.ref (q 0), .int a1, .int a2].toArray below meth c A d H locs out.1 (mw q d out.2) (F0 m 8 ls []) := by
    intro n
    induction n with
    | zero =>
      intro σ x1 x2 x3 x5 x7 H locs ls hS hl hm
      exact absurd hm (by rw [M_X7_tellChance_8]; exact fun h => nomatch h)
    | succ n ih =>
      intro σ x1 x2 x3 x5 x7 H locs ls hS hl hm
      rw [M_X7_tellChance_8] at hm
      refine lv_iload hx hb dX7_tellChance_8 (lv_at hl 5 rfl) ?_
      refine lv_aload_n hx hb dX7_tellChance_10 rfl (lv_at hl 0 rfl) ?_
      obtain ⟨o11, e11, hm⟩ := ob hm
      refine after_i C hS (call_V (As := []) C hS (c_X7_all l d q σ o11 e11 _) iv_7_164 ⟨rfl, rfl, Nat.le_of_ble_eq_true rfl, Nat.le_of_ble_eq_true rfl⟩ mw_o0 rfl rfl rfl hl.1 (Nat.le_of_ble_eq_true rfl) dX7_tellChance_11) (fun H locs hS => ?_)
      refine lv_icmp_gt (tgt := 111) hx hb dX7_tellChance_14 (by decide) (fun c14 => ?_) (fun c14 => ?_)
      · replace hm := it c14 hm
        refine lv_aload_n hx hb dX7_tellChance_111 rfl (lv_at hl 0 rfl) ?_
        refine lv_lload_n hx hb dX7_tellChance_112 rfl (lv_at hl 3 rfl) ?_
        refine lv_lload hx hb dX7_tellChance_113 (lv_at hl 4 rfl) ?_
        obtain ⟨o115, e115, hm⟩ := ob hm
        refine after_i C hS (call_V (As := [.long x3, .long x5]) C hS (c_X7_tellParts l d q σ x3 x5 o115 e115 _) iv_7_235 ⟨rfl, rfl, Nat.le_of_ble_eq_true rfl, Nat.le_of_ble_eq_true rfl⟩ mw_o0 rfl rfl rfl hl.1 (Nat.le_of_ble_eq_true rfl) dX7_tellChance_115) (fun H locs hS => ?_)
        exact retIw (wf := mw q d) C hS hm dX7_tellChance_118
      · replace hm := ie c14 hm
        refine lv_lconst (v := 1) hx hb dX7_tellChance_17 (by decide) ?_
        refine lv_lstore (lv' := [(8, .long 1), (0, .ref (q 0)), (1, .int x1), (2, .int x2), (3, .long x3), (5, .long x5), (7, .int x7)]) hx hb dX7_tellChance_18 hl (by decide) rfl (fun ls hl => ?_)
        refine lv_iconst (v := 0) hx hb dX7_tellChance_20 (by decide) ?_
        refine lv_istore (lv' := [(10, .int 0), (8, .long 1), (0, .ref (q 0)), (1, .int x1), (2, .int x2), (3, .long x3), (5, .long x5), (7, .int x7)]) hx hb dX7_tellChance_21 hl (by decide) rfl (fun ls hl => ?_)
        exact L23 (M_X7_tellChance_8 n) ih 10000 σ x1 x2 x3 x5 x7 1 0 _ _ _ hS (lv_sub hl [2, 3, 4, 5, 6, 7, 1, 0] rfl) hm
  unfold M_X7_tellChance at hm
  refine lv_lconst (v := 0) hx hb dX7_tellChance_0 (by decide) ?_
  refine lv_lstore_n (lv' := [(3, .long 0), (0, .ref (q 0)), (1, .int a1), (2, .int a2)]) hx hb dX7_tellChance_1 rfl hl (by decide) rfl (fun ls hl => ?_)
  refine lv_lconst (v := 0) hx hb dX7_tellChance_2 (by decide) ?_
  refine lv_lstore (lv' := [(5, .long 0), (3, .long 0), (0, .ref (q 0)), (1, .int a1), (2, .int a2)]) hx hb dX7_tellChance_3 hl (by decide) rfl (fun ls hl => ?_)
  refine lv_iconst (v := 0) hx hb dX7_tellChance_5 (by decide) ?_
  refine lv_istore (lv' := [(7, .int 0), (5, .long 0), (3, .long 0), (0, .ref (q 0)), (1, .int a1), (2, .int a2)]) hx hb dX7_tellChance_6 hl (by decide) rfl (fun ls hl => ?_)
  exact L8 10000 σ a1 a2 0 0 0 _ _ _ hS (lv_sub hl [3, 4, 5, 2, 1, 0] rfl) hm
def M_X7_odds (σ : ST) (a1 : Int32) : Option (Int32 × ST) := (M_X7_in a1.toInt64 0 12).bind fun o6 => if o6 = 0 then some ((-1), σ) else if (σ.1 3) = 0 then some ((-4), σ) else (M_X7_tellChance σ a1 0).bind fun o29 => some (o29.1, o29.2)
abbrev rm_X7_odds : Room := { frames := 4, cells := 0, slots := 0, locals := 96 }
set_option maxRecDepth 100000 in
set_option maxHeartbeats 4000000 in
theorem c_X7_odds (l : Launch) (d : CD) (q : Nat → Nat) (σ : ST) (a1 : Int32) (out : Int32 × ST) (hm : M_X7_odds σ a1 = some out) : MetI l yX7_odds cX7_odds 2 (some .int) rm_X7_odds d (mw q d σ) [.ref (q 0), .int a1] out.1 (mw q d out.2) := by
  refine mkI (own := RX7) (by decide +kernel) rfl (Nat.le_of_ble_eq_true rfl) ?_
  intro p e s m below meth c A ls C hS hl
  obtain ⟨hx, hb, hml, hown, hts, -⟩ := id C
  have hl : lv_has ls 2 [(0, .ref (q 0)), (1, .int a1)] := hl
  unfold M_X7_odds at hm
  refine lv_iload_n hx hb dX7_odds_0 rfl (lv_at hl 1 rfl) ?_
  refine lv_i2l (v := a1.toInt64) hx hb dX7_odds_1 rfl ?_
  refine lv_lconst (v := 0) hx hb dX7_odds_2 (by decide) ?_
  refine lv_ldc2 (v := 12) hx hb hown (hts _ lc_X7_271) dX7_odds_3 ?_
  obtain ⟨o6, e6, hm⟩ := ob hm
  refine after_i C hS (call_S (As := [.long a1.toInt64, .long 0, .long 12]) C hS (c_X7_in l d (mw q d σ) a1.toInt64 0 12 o6 e6 _) is_7_66 ⟨rfl, rfl, Nat.le_of_ble_eq_true rfl, Nat.le_of_ble_eq_true rfl⟩ rfl hl.1 (Nat.le_of_ble_eq_true rfl) dX7_odds_6) (fun H locs hS => ?_)
  refine lv_if_ne (tgt := 14) hx hb dX7_odds_9 (by decide) (fun c9 => ?_) (fun c9 => ?_)
  · replace hm := ie c9 hm
    refine lv_aload_n hx hb dX7_odds_14 rfl (lv_at hl 0 rfl) ?_
    refine g_7_158_0 C hS dX7_odds_15 ?_
    refine lv_if_ne (tgt := 26) hx hb dX7_odds_18 (by decide) (fun c18 => ?_) (fun c18 => ?_)
    · replace hm := ie c18 hm
      refine lv_aload_n hx hb dX7_odds_26 rfl (lv_at hl 0 rfl) ?_
      refine lv_iload_n hx hb dX7_odds_27 rfl (lv_at hl 1 rfl) ?_
      refine lv_iconst (v := 0) hx hb dX7_odds_28 (by decide) ?_
      obtain ⟨o29, e29, hm⟩ := ob hm
      refine after_i C hS (call_V (As := [.int a1, .int 0]) C hS (c_X7_tellChance l d q σ a1 0 o29 e29 _) iv_7_273 ⟨rfl, rfl, Nat.le_of_ble_eq_true rfl, Nat.le_of_ble_eq_true rfl⟩ mw_o0 rfl rfl rfl hl.1 (Nat.le_of_ble_eq_true rfl) dX7_odds_29) (fun H locs hS => ?_)
      exact retIw (wf := mw q d) C hS hm dX7_odds_32
    · replace hm := it c18 hm
      refine lv_bipush (v := (-4)) hx hb dX7_odds_21 (by decide) ?_
      refine lv_goto (tgt := 32) hx hb dX7_odds_23 (by decide) ?_
      exact retIw (wf := mw q d) C hS hm dX7_odds_32
  · replace hm := it c9 hm
    refine lv_iconst (v := (-1)) hx hb dX7_odds_12 (by decide) ?_
    exact retIw (wf := mw q d) C hS hm dX7_odds_13
def M_X7_mid (σ : ST) (a1 : Int32) : Option (Int32 × ST) := (M_X7_in a1.toInt64 0 12).bind fun o6 => if o6 = 0 then some ((-1), σ) else if (σ.1 3) = 0 then some ((-4), σ) else (M_X7_tellChance σ a1 1).bind fun o29 => some (o29.1, o29.2)
abbrev rm_X7_mid : Room := { frames := 4, cells := 0, slots := 0, locals := 96 }
set_option maxRecDepth 100000 in
set_option maxHeartbeats 4000000 in
theorem c_X7_mid (l : Launch) (d : CD) (q : Nat → Nat) (σ : ST) (a1 : Int32) (out : Int32 × ST) (hm : M_X7_mid σ a1 = some out) : MetI l yX7_mid cX7_mid 2 (some .int) rm_X7_mid d (mw q d σ) [.ref (q 0), .int a1] out.1 (mw q d out.2) := by
  refine mkI (own := RX7) (by decide +kernel) rfl (Nat.le_of_ble_eq_true rfl) ?_
  intro p e s m below meth c A ls C hS hl
  obtain ⟨hx, hb, hml, hown, hts, -⟩ := id C
  have hl : lv_has ls 2 [(0, .ref (q 0)), (1, .int a1)] := hl
  unfold M_X7_mid at hm
  refine lv_iload_n hx hb dX7_mid_0 rfl (lv_at hl 1 rfl) ?_
  refine lv_i2l (v := a1.toInt64) hx hb dX7_mid_1 rfl ?_
  refine lv_lconst (v := 0) hx hb dX7_mid_2 (by decide) ?_
  refine lv_ldc2 (v := 12) hx hb hown (hts _ lc_X7_271) dX7_mid_3 ?_
  obtain ⟨o6, e6, hm⟩ := ob hm
  refine after_i C hS (call_S (As := [.long a1.toInt64, .long 0, .long 12]) C hS (c_X7_in l d (mw q d σ) a1.toInt64 0 12 o6 e6 _) is_7_66 ⟨rfl, rfl, Nat.le_of_ble_eq_true rfl, Nat.le_of_ble_eq_true rfl⟩ rfl hl.1 (Nat.le_of_ble_eq_true rfl) dX7_mid_6) (fun H locs hS => ?_)
  refine lv_if_ne (tgt := 14) hx hb dX7_mid_9 (by decide) (fun c9 => ?_) (fun c9 => ?_)
  · replace hm := ie c9 hm
    refine lv_aload_n hx hb dX7_mid_14 rfl (lv_at hl 0 rfl) ?_
    refine g_7_158_0 C hS dX7_mid_15 ?_
    refine lv_if_ne (tgt := 26) hx hb dX7_mid_18 (by decide) (fun c18 => ?_) (fun c18 => ?_)
    · replace hm := ie c18 hm
      refine lv_aload_n hx hb dX7_mid_26 rfl (lv_at hl 0 rfl) ?_
      refine lv_iload_n hx hb dX7_mid_27 rfl (lv_at hl 1 rfl) ?_
      refine lv_iconst (v := 1) hx hb dX7_mid_28 (by decide) ?_
      obtain ⟨o29, e29, hm⟩ := ob hm
      refine after_i C hS (call_V (As := [.int a1, .int 1]) C hS (c_X7_tellChance l d q σ a1 1 o29 e29 _) iv_7_273 ⟨rfl, rfl, Nat.le_of_ble_eq_true rfl, Nat.le_of_ble_eq_true rfl⟩ mw_o0 rfl rfl rfl hl.1 (Nat.le_of_ble_eq_true rfl) dX7_mid_29) (fun H locs hS => ?_)
      exact retIw (wf := mw q d) C hS hm dX7_mid_32
    · replace hm := it c18 hm
      refine lv_bipush (v := (-4)) hx hb dX7_mid_21 (by decide) ?_
      refine lv_goto (tgt := 32) hx hb dX7_mid_23 (by decide) ?_
      exact retIw (wf := mw q d) C hS hm dX7_mid_32
  · replace hm := it c9 hm
    refine lv_iconst (v := (-1)) hx hb dX7_mid_12 (by decide) ?_
    exact retIw (wf := mw q d) C hS hm dX7_mid_13
def M_X7_doLot_50 (σ : ST) (x2 : Int32) : Option (Int32 × ST) := (M_X7_doDay σ).bind fun o51 => some (x2, o51.2)
def M_X7_doLot_16 : Nat → ST → Int32 → Int32 → Int32 → Option (Int32 × ST)
  | 0, _, _, _, _ => none
  | n + 1, σ, x1, x2, x3 => if (σ.1 3) ≤ x3 then M_X7_doLot_50 σ x2 else (M_X7_has x1 x3).bind fun o27 => if o27 = 0 then M_X7_doLot_16 n σ x1 (x2 + 0) (x3 + 1) else (M_X7_draws σ x3).bind fun o35 => M_X7_doLot_16 n o35.2 x1 (x2 + o35.1) (x3 + 1)
def M_X7_doLot (σ : ST) (a1 : Int32) : Option (Int32 × ST) := (M_X7_isOpen σ a1).bind fun o4 => if o4 = 0 then M_X7_doLot_50 σ 0 else (M_X7_keepPast σ).bind fun o11 => M_X7_doLot_16 10000 o11 a1 0 0
abbrev rm_X7_doLot : Room := { frames := 3, cells := 0, slots := 0, locals := 66 }
set_option maxRecDepth 100000 in
set_option maxHeartbeats 4000000 in
theorem c_X7_doLot (l : Launch) (d : CD) (q : Nat → Nat) (σ : ST) (a1 : Int32) (out : Int32 × ST) (hm : M_X7_doLot σ a1 = some out) : MetI l yX7_doLot cX7_doLot 4 (some .int) rm_X7_doLot d (mw q d σ) [.ref (q 0), .int a1] out.1 (mw q d out.2) := by
  refine mkI (own := RX7) (by decide +kernel) rfl (Nat.le_of_ble_eq_true rfl) ?_
  intro p e s m below meth c A ls C hS hl
  obtain ⟨hx, hb, hml, hown, hts, -⟩ := id C
  have hl : lv_has ls 4 [(0, .ref (q 0)), (1, .int a1)] := hl
  have J50 : ∀ (σ : ST) (x2 : Int32) (H : Heap) (locs : List Loc) (ls : Array Slot), HS d A s.heap H locs (mw q d σ) → lv_has ls 4 [(0, .ref (q 0)), (2, .int x2)] → M_X7_doLot_50 σ x2 = some out → WI p l e rm_X7_doLot s m [.ref (q 0), .int a1].toArray below meth c A d H locs out.1 (mw q d out.2) (F0 m 50 ls []) := by
    intro σ x2 H locs ls hS hl hm
    unfold M_X7_doLot_50 at hm
    refine lv_aload_n hx hb dX7_doLot_50 rfl (lv_at hl 0 rfl) ?_
    obtain ⟨o51, e51, hm⟩ := ob hm
    refine after_i C hS (call_V (As := []) C hS (c_X7_doDay l d q σ o51 e51 _) iv_7_211 ⟨rfl, rfl, Nat.le_of_ble_eq_true rfl, Nat.le_of_ble_eq_true rfl⟩ mw_o0 rfl rfl rfl hl.1 (Nat.le_of_ble_eq_true rfl) dX7_doLot_51) (fun H locs hS => ?_)
    refine lv_pop hx hb dX7_doLot_54 rfl ?_
    refine lv_iload_n hx hb dX7_doLot_55 rfl (lv_at hl 1 rfl) ?_
    exact retIw (wf := mw q d) C hS hm dX7_doLot_56
  have L16 : ∀ (n : Nat) (σ : ST) (x1 : Int32) (x2 : Int32) (x3 : Int32) (H : Heap) (locs : List Loc) (ls : Array Slot), HS d A s.heap H locs (mw q d σ) → lv_has ls 4 [(0, .ref (q 0)), (1, .int x1), (2, .int x2), (3, .int x3)] → M_X7_doLot_16 n σ x1 x2 x3 = some out → WI p l e rm_X7_doLot s m [.ref (q 0), .int a1].toArray below meth c A d H locs out.1 (mw q d out.2) (F0 m 16 ls []) := by
    intro n
    induction n with
    | zero =>
      intro σ x1 x2 x3 H locs ls hS hl hm
      exact absurd hm (by rw [M_X7_doLot_16]; exact fun h => nomatch h)
    | succ n ih =>
      intro σ x1 x2 x3 H locs ls hS hl hm
      rw [M_X7_doLot_16] at hm
      refine lv_iload_n hx hb dX7_doLot_16 rfl (lv_at hl 3 rfl) ?_
      refine lv_aload_n hx hb dX7_doLot_17 rfl (lv_at hl 0 rfl) ?_
      refine g_7_158_0 C hS dX7_doLot_18 ?_
      refine lv_icmp_ge (tgt := 50) hx hb dX7_doLot_21 (by decide) (fun c21 => ?_) (fun c21 => ?_)
      · replace hm := it c21 hm
        exact J50 σ x2 _ _ _ hS (lv_sub hl [0, 2] rfl) hm
      · replace hm := ie c21 hm
        refine lv_iload_n hx hb dX7_doLot_24 rfl (lv_at hl 2 rfl) ?_
        refine lv_iload_n hx hb dX7_doLot_25 rfl (lv_at hl 1 rfl) ?_
        refine lv_iload_n hx hb dX7_doLot_26 rfl (lv_at hl 3 rfl) ?_
        obtain ⟨o27, e27, hm⟩ := ob hm
        refine after_i C hS (call_S (As := [.int x1, .int x3]) C hS (c_X7_has l d (mw q d σ) x1 x3 o27 e27 _) is_7_135 ⟨rfl, rfl, Nat.le_of_ble_eq_true rfl, Nat.le_of_ble_eq_true rfl⟩ rfl hl.1 (Nat.le_of_ble_eq_true rfl) dX7_doLot_27) (fun H locs hS => ?_)
        refine lv_if_eq (tgt := 41) hx hb dX7_doLot_30 (by decide) (fun c30 => ?_) (fun c30 => ?_)
        · replace hm := it c30 hm
          refine lv_iconst (v := 0) hx hb dX7_doLot_41 (by decide) ?_
          refine lv_iadd hx hb dX7_doLot_42 ?_
          refine lv_istore_n (lv' := [(2, .int (x2 + 0)), (0, .ref (q 0)), (1, .int x1), (3, .int x3)]) hx hb dX7_doLot_43 rfl hl (by decide) rfl (fun ls hl => ?_)
          refine lv_iinc (v := x3 + 1) (lv' := [(3, .int (x3 + 1)), (2, .int (x2 + 0)), (0, .ref (q 0)), (1, .int x1)]) hx hb dX7_doLot_44 hl (k := 3) rfl rfl (by decide) rfl (fun ls hl => ?_)
          refine lv_goto (tgt := 16) hx hb dX7_doLot_47 (by decide) ?_
          exact ih σ x1 (x2 + 0) (x3 + 1) _ _ _ hS (lv_sub hl [2, 3, 1, 0] rfl) hm
        · replace hm := ie c30 hm
          refine lv_aload_n hx hb dX7_doLot_33 rfl (lv_at hl 0 rfl) ?_
          refine lv_iload_n hx hb dX7_doLot_34 rfl (lv_at hl 3 rfl) ?_
          obtain ⟨o35, e35, hm⟩ := ob hm
          refine after_i C hS (call_V (As := [.int x3]) C hS (c_X7_draws l d q σ x3 o35 e35 _) iv_7_208 ⟨rfl, rfl, Nat.le_of_ble_eq_true rfl, Nat.le_of_ble_eq_true rfl⟩ mw_o0 rfl rfl rfl hl.1 (Nat.le_of_ble_eq_true rfl) dX7_doLot_35) (fun H locs hS => ?_)
          refine lv_goto (tgt := 42) hx hb dX7_doLot_38 (by decide) ?_
          refine lv_iadd hx hb dX7_doLot_42 ?_
          refine lv_istore_n (lv' := [(2, .int (x2 + o35.1)), (0, .ref (q 0)), (1, .int x1), (3, .int x3)]) hx hb dX7_doLot_43 rfl hl (by decide) rfl (fun ls hl => ?_)
          refine lv_iinc (v := x3 + 1) (lv' := [(3, .int (x3 + 1)), (2, .int (x2 + o35.1)), (0, .ref (q 0)), (1, .int x1)]) hx hb dX7_doLot_44 hl (k := 3) rfl rfl (by decide) rfl (fun ls hl => ?_)
          refine lv_goto (tgt := 16) hx hb dX7_doLot_47 (by decide) ?_
          exact ih o35.2 x1 (x2 + o35.1) (x3 + 1) _ _ _ hS (lv_sub hl [2, 3, 1, 0] rfl) hm
  unfold M_X7_doLot at hm
  refine lv_iconst (v := 0) hx hb dX7_doLot_0 (by decide) ?_
  refine lv_istore_n (lv' := [(2, .int 0), (0, .ref (q 0)), (1, .int a1)]) hx hb dX7_doLot_1 rfl hl (by decide) rfl (fun ls hl => ?_)
  refine lv_aload_n hx hb dX7_doLot_2 rfl (lv_at hl 1 rfl) ?_
  refine lv_iload_n hx hb dX7_doLot_3 rfl (lv_at hl 2 rfl) ?_
  obtain ⟨o4, e4, hm⟩ := ob hm
  refine after_i C hS (call_V (As := [.int a1]) C hS (c_X7_isOpen l d q σ a1 o4 e4 _) iv_7_187 ⟨rfl, rfl, Nat.le_of_ble_eq_true rfl, Nat.le_of_ble_eq_true rfl⟩ mw_o0 rfl rfl rfl hl.1 (Nat.le_of_ble_eq_true rfl) dX7_doLot_4) (fun H locs hS => ?_)
  refine lv_if_eq (tgt := 50) hx hb dX7_doLot_7 (by decide) (fun c7 => ?_) (fun c7 => ?_)
  · replace hm := it c7 hm
    exact J50 σ 0 _ _ _ hS (lv_sub hl [1, 0] rfl) hm
  · replace hm := ie c7 hm
    refine lv_aload_n hx hb dX7_doLot_10 rfl (lv_at hl 1 rfl) ?_
    obtain ⟨o11, e11, hm⟩ := ob hm
    refine after_v C hS (call_V (As := []) C hS (c_X7_keepPast l d q σ o11 e11 _) iv_7_205 ⟨rfl, rfl, Nat.le_of_ble_eq_true rfl, Nat.le_of_ble_eq_true rfl⟩ mw_o0 rfl rfl rfl hl.1 (Nat.le_of_ble_eq_true rfl) dX7_doLot_11) (fun H locs hS => ?_)
    refine lv_iconst (v := 0) hx hb dX7_doLot_14 (by decide) ?_
    refine lv_istore_n (lv' := [(3, .int 0), (2, .int 0), (0, .ref (q 0)), (1, .int a1)]) hx hb dX7_doLot_15 rfl hl (by decide) rfl (fun ls hl => ?_)
    exact L16 10000 o11 a1 0 0 _ _ _ hS (lv_sub hl [2, 3, 1, 0] rfl) hm
def M_X7_lots_63 : Nat → ST → Int32 → Int64 → Int32 → Int32 → Option (Int32 × ST)
  | 0, _, _, _, _, _ => none
  | n + 1, σ, x1, x3, x5, x6 => if x1 ≤ x6 then some (x5, σ) else (M_X7_all σ).bind fun o88 => (rmL (((x3 * 48271) - (x3 * 48271) / 2147483647 * 2147483647) / 8) ((o88 + 1).toInt64)).bind fun v94 => (M_X7_doLot σ v94.toInt32).bind fun o96 => M_X7_lots_63 n o96.2 x1 ((x3 * 48271) - (x3 * 48271) / 2147483647 * 2147483647) (x5 + o96.1) (x6 + 1)
def M_X7_lots (σ : ST) (a1 : Int32) (a2 : Int32) : Option (Int32 × ST) := (M_X7_in a1.toInt64 1 20).bind fun o6 => if o6 = 0 then some ((-1), σ) else (M_X7_in a2.toInt64 1 2147483646).bind fun o18 => if o18 = 0 then some ((-1), σ) else if (σ.1 3) = 0 then some ((-4), σ) else (rd 3776 (σ.2.2 1) 0).bind fun v41 => if (v41 + (2 * a1)) ≤ 40 then M_X7_lots_63 10000 σ a1 a2.toInt64 0 0 else some ((-2), σ)
abbrev rm_X7_lots : Room := { frames := 4, cells := 0, slots := 0, locals := 89 }
set_option maxRecDepth 100000 in
set_option maxHeartbeats 4000000 in
theorem c_X7_lots (l : Launch) (d : CD) (q : Nat → Nat) (σ : ST) (a1 : Int32) (a2 : Int32) (out : Int32 × ST) (hm : M_X7_lots σ a1 a2 = some out) : MetI l yX7_lots cX7_lots 7 (some .int) rm_X7_lots d (mw q d σ) [.ref (q 0), .int a1, .int a2] out.1 (mw q d out.2) := by
  refine mkI (own := RX7) (by decide +kernel) rfl (Nat.le_of_ble_eq_true rfl) ?_
  intro p e s m below meth c A ls C hS hl
  obtain ⟨hx, hb, hml, hown, hts, -⟩ := id C
  have hl : lv_has ls 7 [(0, .ref (q 0)), (1, .int a1), (2, .int a2)] := hl
  have L63 : ∀ (n : Nat) (σ : ST) (x1 : Int32) (x3 : Int64) (x5 : Int32) (x6 : Int32) (H : Heap) (locs : List Loc) (ls : Array Slot), HS d A s.heap H locs (mw q d σ) → lv_has ls 7 [(0, .ref (q 0)), (1, .int x1), (3, .long x3), (5, .int x5), (6, .int x6)] → M_X7_lots_63 n σ x1 x3 x5 x6 = some out → WI p l e rm_X7_lots s m [.ref (q 0), .int a1, .int a2].toArray below meth c A d H locs out.1 (mw q d out.2) (F0 m 63 ls []) := by
    intro n
    induction n with
    | zero =>
      intro σ x1 x3 x5 x6 H locs ls hS hl hm
      exact absurd hm (by rw [M_X7_lots_63]; exact fun h => nomatch h)
    | succ n ih =>
      intro σ x1 x3 x5 x6 H locs ls hS hl hm
      rw [M_X7_lots_63] at hm
      refine lv_iload hx hb dX7_lots_63 (lv_at hl 4 rfl) ?_
      refine lv_iload_n hx hb dX7_lots_65 rfl (lv_at hl 1 rfl) ?_
      refine lv_icmp_ge (tgt := 108) hx hb dX7_lots_66 (by decide) (fun c66 => ?_) (fun c66 => ?_)
      · replace hm := it c66 hm
        refine lv_iload hx hb dX7_lots_108 (lv_at hl 3 rfl) ?_
        exact retIw (wf := mw q d) C hS hm dX7_lots_110
      · replace hm := ie c66 hm
        refine lv_lload_n hx hb dX7_lots_69 rfl (lv_at hl 2 rfl) ?_
        refine lv_ldc2 (v := 48271) hx hb hown (hts _ lc_X7_281) dX7_lots_70 ?_
        refine lv_lmul hx hb dX7_lots_73 ?_
        refine lv_ldc2 (v := 2147483647) hx hb hown (hts _ lc_X7_283) dX7_lots_74 ?_
        refine lv_lrem hx hb dX7_lots_77 (by decide) ?_
        refine lv_lstore_n (lv' := [(3, .long ((x3 * 48271) - (x3 * 48271) / 2147483647 * 2147483647)), (0, .ref (q 0)), (1, .int x1), (5, .int x5), (6, .int x6)]) hx hb dX7_lots_78 rfl hl (by decide) rfl (fun ls hl => ?_)
        refine lv_iload hx hb dX7_lots_79 (lv_at hl 3 rfl) ?_
        refine lv_aload_n hx hb dX7_lots_81 rfl (lv_at hl 1 rfl) ?_
        refine lv_lload_n hx hb dX7_lots_82 rfl (lv_at hl 0 rfl) ?_
        refine lv_ldc2 (v := 8) hx hb hown (hts _ lc_X7_285) dX7_lots_83 ?_
        refine lv_ldiv hx hb dX7_lots_86 (by decide) ?_
        refine lv_aload_n hx hb dX7_lots_87 rfl (lv_at hl 1 rfl) ?_
        obtain ⟨o88, e88, hm⟩ := ob hm
        refine after_i C hS (call_V (As := []) C hS (c_X7_all l d q σ o88 e88 _) iv_7_164 ⟨rfl, rfl, Nat.le_of_ble_eq_true rfl, Nat.le_of_ble_eq_true rfl⟩ mw_o0 rfl rfl rfl hl.1 (Nat.le_of_ble_eq_true rfl) dX7_lots_88) (fun H locs hS => ?_)
        refine lv_iconst (v := 1) hx hb dX7_lots_91 (by decide) ?_
        refine lv_iadd hx hb dX7_lots_92 ?_
        refine lv_i2l (v := (o88 + 1).toInt64) hx hb dX7_lots_93 rfl ?_
        obtain ⟨v94, e94, hm⟩ := ob hm
        refine lrem' C e94 dX7_lots_94 ?_
        refine lv_l2i (v := v94.toInt32) hx hb dX7_lots_95 rfl ?_
        obtain ⟨o96, e96, hm⟩ := ob hm
        refine after_i C hS (call_V (As := [.int v94.toInt32]) C hS (c_X7_doLot l d q σ v94.toInt32 o96 e96 _) iv_7_287 ⟨rfl, rfl, Nat.le_of_ble_eq_true rfl, Nat.le_of_ble_eq_true rfl⟩ mw_o0 rfl rfl rfl hl.1 (Nat.le_of_ble_eq_true rfl) dX7_lots_96) (fun H locs hS => ?_)
        refine lv_iadd hx hb dX7_lots_99 ?_
        refine lv_istore (lv' := [(5, .int (x5 + o96.1)), (3, .long ((x3 * 48271) - (x3 * 48271) / 2147483647 * 2147483647)), (0, .ref (q 0)), (1, .int x1), (6, .int x6)]) hx hb dX7_lots_100 hl (by decide) rfl (fun ls hl => ?_)
        refine lv_iinc (v := x6 + 1) (lv' := [(6, .int (x6 + 1)), (5, .int (x5 + o96.1)), (3, .long ((x3 * 48271) - (x3 * 48271) / 2147483647 * 2147483647)), (0, .ref (q 0)), (1, .int x1)]) hx hb dX7_lots_102 hl (k := 4) rfl rfl (by decide) rfl (fun ls hl => ?_)
        refine lv_goto (tgt := 63) hx hb dX7_lots_105 (by decide) ?_
        exact ih o96.2 x1 ((x3 * 48271) - (x3 * 48271) / 2147483647 * 2147483647) (x5 + o96.1) (x6 + 1) _ _ _ hS (lv_sub hl [3, 4, 2, 1, 0] rfl) hm
  unfold M_X7_lots at hm
  refine lv_iload_n hx hb dX7_lots_0 rfl (lv_at hl 1 rfl) ?_
  refine lv_i2l (v := a1.toInt64) hx hb dX7_lots_1 rfl ?_
  refine lv_lconst (v := 1) hx hb dX7_lots_2 (by decide) ?_
  refine lv_ldc2 (v := 20) hx hb hown (hts _ lc_X7_277) dX7_lots_3 ?_
  obtain ⟨o6, e6, hm⟩ := ob hm
  refine after_i C hS (call_S (As := [.long a1.toInt64, .long 1, .long 20]) C hS (c_X7_in l d (mw q d σ) a1.toInt64 1 20 o6 e6 _) is_7_66 ⟨rfl, rfl, Nat.le_of_ble_eq_true rfl, Nat.le_of_ble_eq_true rfl⟩ rfl hl.1 (Nat.le_of_ble_eq_true rfl) dX7_lots_6) (fun H locs hS => ?_)
  refine lv_if_eq (tgt := 24) hx hb dX7_lots_9 (by decide) (fun c9 => ?_) (fun c9 => ?_)
  · replace hm := it c9 hm
    refine lv_iconst (v := (-1)) hx hb dX7_lots_24 (by decide) ?_
    exact retIw (wf := mw q d) C hS hm dX7_lots_25
  · replace hm := ie c9 hm
    refine lv_iload_n hx hb dX7_lots_12 rfl (lv_at hl 2 rfl) ?_
    refine lv_i2l (v := a2.toInt64) hx hb dX7_lots_13 rfl ?_
    refine lv_lconst (v := 1) hx hb dX7_lots_14 (by decide) ?_
    refine lv_ldc2 (v := 2147483646) hx hb hown (hts _ lc_X7_279) dX7_lots_15 ?_
    obtain ⟨o18, e18, hm⟩ := ob hm
    refine after_i C hS (call_S (As := [.long a2.toInt64, .long 1, .long 2147483646]) C hS (c_X7_in l d (mw q d σ) a2.toInt64 1 2147483646 o18 e18 _) is_7_66 ⟨rfl, rfl, Nat.le_of_ble_eq_true rfl, Nat.le_of_ble_eq_true rfl⟩ rfl hl.1 (Nat.le_of_ble_eq_true rfl) dX7_lots_18) (fun H locs hS => ?_)
    refine lv_if_ne (tgt := 26) hx hb dX7_lots_21 (by decide) (fun c21 => ?_) (fun c21 => ?_)
    · replace hm := ie c21 hm
      refine lv_aload_n hx hb dX7_lots_26 rfl (lv_at hl 0 rfl) ?_
      refine g_7_158_0 C hS dX7_lots_27 ?_
      refine lv_if_ne (tgt := 36) hx hb dX7_lots_30 (by decide) (fun c30 => ?_) (fun c30 => ?_)
      · replace hm := ie c30 hm
        refine lv_aload_n hx hb dX7_lots_36 rfl (lv_at hl 0 rfl) ?_
        refine g_7_7_0 C hS dX7_lots_37 ?_
        refine lv_iconst (v := 0) hx hb dX7_lots_40 (by decide) ?_
        obtain ⟨v41, e41, hm⟩ := ob hm
        refine iald' C hS mw_a1 e41 dX7_lots_41 ?_
        refine lv_iconst (v := 2) hx hb dX7_lots_42 (by decide) ?_
        refine lv_iload_n hx hb dX7_lots_43 rfl (lv_at hl 1 rfl) ?_
        refine lv_imul hx hb dX7_lots_44 ?_
        refine lv_iadd hx hb dX7_lots_45 ?_
        refine lv_bipush (v := 40) hx hb dX7_lots_46 (by decide) ?_
        refine lv_icmp_le (tgt := 54) hx hb dX7_lots_48 (by decide) (fun c48 => ?_) (fun c48 => ?_)
        · replace hm := it c48 hm
          refine lv_iload_n hx hb dX7_lots_54 rfl (lv_at hl 2 rfl) ?_
          refine lv_i2l (v := a2.toInt64) hx hb dX7_lots_55 rfl ?_
          refine lv_lstore_n (lv' := [(3, .long a2.toInt64), (0, .ref (q 0)), (1, .int a1), (2, .int a2)]) hx hb dX7_lots_56 rfl hl (by decide) rfl (fun ls hl => ?_)
          refine lv_iconst (v := 0) hx hb dX7_lots_57 (by decide) ?_
          refine lv_istore (lv' := [(5, .int 0), (3, .long a2.toInt64), (0, .ref (q 0)), (1, .int a1), (2, .int a2)]) hx hb dX7_lots_58 hl (by decide) rfl (fun ls hl => ?_)
          refine lv_iconst (v := 0) hx hb dX7_lots_60 (by decide) ?_
          refine lv_istore (lv' := [(6, .int 0), (5, .int 0), (3, .long a2.toInt64), (0, .ref (q 0)), (1, .int a1), (2, .int a2)]) hx hb dX7_lots_61 hl (by decide) rfl (fun ls hl => ?_)
          exact L63 10000 σ a1 a2.toInt64 0 0 _ _ _ hS (lv_sub hl [3, 4, 2, 1, 0] rfl) hm
        · replace hm := ie c48 hm
          refine lv_bipush (v := (-2)) hx hb dX7_lots_51 (by decide) ?_
          exact retIw (wf := mw q d) C hS hm dX7_lots_53
      · replace hm := it c30 hm
        refine lv_bipush (v := (-4)) hx hb dX7_lots_33 (by decide) ?_
        exact retIw (wf := mw q d) C hS hm dX7_lots_35
    · replace hm := it c21 hm
      refine lv_iconst (v := (-1)) hx hb dX7_lots_24 (by decide) ?_
      exact retIw (wf := mw q d) C hS hm dX7_lots_25
def M_X7_asked (σ : ST) : Option Int32 := some (σ.1 12)
abbrev rm_X7_asked : Room := { frames := 0, cells := 0, slots := 0, locals := 0 }
set_option maxRecDepth 100000 in
set_option maxHeartbeats 4000000 in
theorem c_X7_asked (l : Launch) (d : CD) (q : Nat → Nat) (σ : ST) (out : Int32) (hm : M_X7_asked σ = some out) : MetI l yX7_asked cX7_asked 1 (some .int) rm_X7_asked d (mw q d σ) [.ref (q 0)] out (mw q d σ) := by
  refine mkI (own := RX7) (by decide +kernel) rfl (Nat.le_of_ble_eq_true rfl) ?_
  intro p e s m below meth c A ls C hS hl
  obtain ⟨hx, hb, hml, hown, hts, -⟩ := id C
  have hl : lv_has ls 1 [(0, .ref (q 0))] := hl
  unfold M_X7_asked at hm
  refine lv_aload_n hx hb dX7_asked_0 rfl (lv_at hl 0 rfl) ?_
  refine g_7_61_0 C hS dX7_asked_1 ?_
  exact retIr C hS hm dX7_asked_4
def M_X7_upper (σ : ST) : Option Int64 := some (σ.2.1 13)
abbrev rm_X7_upper : Room := { frames := 0, cells := 0, slots := 0, locals := 0 }
set_option maxRecDepth 100000 in
set_option maxHeartbeats 4000000 in
theorem c_X7_upper (l : Launch) (d : CD) (q : Nat → Nat) (σ : ST) (out : Int64) (hm : M_X7_upper σ = some out) : MetL l yX7_upper cX7_upper 1 (some .long) rm_X7_upper d (mw q d σ) [.ref (q 0)] out (mw q d σ) := by
  refine mkL (own := RX7) (by decide +kernel) rfl (Nat.le_of_ble_eq_true rfl) ?_
  intro p e s m below meth c A ls C hS hl
  obtain ⟨hx, hb, hml, hown, hts, -⟩ := id C
  have hl : lv_has ls 1 [(0, .ref (q 0))] := hl
  unfold M_X7_upper at hm
  refine lv_aload_n hx hb dX7_upper_0 rfl (lv_at hl 0 rfl) ?_
  refine g_7_222_0 C hS dX7_upper_1 ?_
  exact retLr C hS hm dX7_upper_4
def M_X7_lower (σ : ST) : Option Int64 := some (σ.2.1 14)
abbrev rm_X7_lower : Room := { frames := 0, cells := 0, slots := 0, locals := 0 }
set_option maxRecDepth 100000 in
set_option maxHeartbeats 4000000 in
theorem c_X7_lower (l : Launch) (d : CD) (q : Nat → Nat) (σ : ST) (out : Int64) (hm : M_X7_lower σ = some out) : MetL l yX7_lower cX7_lower 1 (some .long) rm_X7_lower d (mw q d σ) [.ref (q 0)] out (mw q d σ) := by
  refine mkL (own := RX7) (by decide +kernel) rfl (Nat.le_of_ble_eq_true rfl) ?_
  intro p e s m below meth c A ls C hS hl
  obtain ⟨hx, hb, hml, hown, hts, -⟩ := id C
  have hl : lv_has ls 1 [(0, .ref (q 0))] := hl
  unfold M_X7_lower at hm
  refine lv_aload_n hx hb dX7_lower_0 rfl (lv_at hl 0 rfl) ?_
  refine g_7_34_0 C hS dX7_lower_1 ?_
  exact retLr C hS hm dX7_lower_4
