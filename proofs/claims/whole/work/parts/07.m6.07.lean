def M_X6_pledge (σ : ST) (a1 : Int32) (a2 : Int32) : Option (Int32 × ST) := (M_X5_isHouse σ a1).bind fun o5 => if o5 = 0 then some ((-1), σ) else (M_X5_isHouse σ a2).bind fun o16 => if o16 = 0 then some ((-1), σ) else (rd 7 (σ.2.2 29) a1).bind fun v32 => if v32 = a2 then some ((-4), σ) else (M_X1_isFull σ 1).bind fun o50 => if o50 = 0 then (M_X6_pledgeDeed a1 a2).bind fun o65 => (M_X5_perform σ o65).bind fun o68 => some (v32, o68.2) else some ((-2), σ)
abbrev rm_X6_pledge : Room := { frames := 5, cells := 0, slots := 0, locals := 110 }
set_option maxRecDepth 100000 in
set_option maxHeartbeats 4000000 in
theorem c_X6_pledge (l : Launch) (d : CD) (q : Nat → Nat) (σ : ST) (a1 : Int32) (a2 : Int32) (out : Int32 × ST) (hm : M_X6_pledge σ a1 a2 = some out) : MetI l yX6_pledge cX6_pledge 4 (some .int) rm_X6_pledge d (cw q d σ) [.ref (q 0), .int a1, .int a2] out.1 (cw q d out.2) := by
  refine mkI (own := RX6) (by decide +kernel) rfl (Nat.le_of_ble_eq_true rfl) ?_
  intro p e s m below meth c A ls C hS hl
  obtain ⟨hx, hb, hml, hown, hts, -⟩ := id C
  have hl : lv_has ls 4 [(0, .ref (q 0)), (1, .int a1), (2, .int a2)] := hl
  unfold M_X6_pledge at hm
  refine lv_aload_n hx hb dX6_pledge_0 rfl (lv_at hl 0 rfl) ?_
  refine g_6_33_0 C hS dX6_pledge_1 ?_
  refine lv_iload_n hx hb dX6_pledge_4 rfl (lv_at hl 1 rfl) ?_
  obtain ⟨o5, e5, hm⟩ := ob hm
  refine after_i C hS (call_V (As := [.int a1]) C hS (c_X5_isHouse l d q σ a1 o5 e5 _) iv_6_144 ⟨rfl, rfl, Nat.le_of_ble_eq_true rfl, Nat.le_of_ble_eq_true rfl⟩ cw_o22 rfl rfl rfl hl.1 (Nat.le_of_ble_eq_true rfl) dX6_pledge_5) (fun H locs hS => ?_)
  refine lv_if_eq (tgt := 22) hx hb dX6_pledge_8 (by decide) (fun c8 => ?_) (fun c8 => ?_)
  · replace hm := it c8 hm
    refine lv_iconst (v := (-1)) hx hb dX6_pledge_22 (by decide) ?_
    exact retIw (wf := cw q d) C hS hm dX6_pledge_23
  · replace hm := ie c8 hm
    refine lv_aload_n hx hb dX6_pledge_11 rfl (lv_at hl 0 rfl) ?_
    refine g_6_33_0 C hS dX6_pledge_12 ?_
    refine lv_iload_n hx hb dX6_pledge_15 rfl (lv_at hl 2 rfl) ?_
    obtain ⟨o16, e16, hm⟩ := ob hm
    refine after_i C hS (call_V (As := [.int a2]) C hS (c_X5_isHouse l d q σ a2 o16 e16 _) iv_6_144 ⟨rfl, rfl, Nat.le_of_ble_eq_true rfl, Nat.le_of_ble_eq_true rfl⟩ cw_o22 rfl rfl rfl hl.1 (Nat.le_of_ble_eq_true rfl) dX6_pledge_16) (fun H locs hS => ?_)
    refine lv_if_ne (tgt := 24) hx hb dX6_pledge_19 (by decide) (fun c19 => ?_) (fun c19 => ?_)
    · replace hm := ie c19 hm
      refine lv_aload_n hx hb dX6_pledge_24 rfl (lv_at hl 0 rfl) ?_
      refine g_6_33_0 C hS dX6_pledge_25 ?_
      refine g_6_181_22 C hS dX6_pledge_28 ?_
      refine lv_iload_n hx hb dX6_pledge_31 rfl (lv_at hl 1 rfl) ?_
      obtain ⟨v32, e32, hm⟩ := ob hm
      refine iald' C hS cw_a29 e32 dX6_pledge_32 ?_
      refine lv_istore_n (lv' := [(3, .int v32), (0, .ref (q 0)), (1, .int a1), (2, .int a2)]) hx hb dX6_pledge_33 rfl hl (by decide) rfl (fun ls hl => ?_)
      refine lv_iload_n hx hb dX6_pledge_34 rfl (lv_at hl 0 rfl) ?_
      refine lv_iload_n hx hb dX6_pledge_35 rfl (lv_at hl 3 rfl) ?_
      refine lv_icmp_ne (tgt := 42) hx hb dX6_pledge_36 (by decide) (fun c36 => ?_) (fun c36 => ?_)
      · replace hm := ie c36 hm
        refine lv_aload_n hx hb dX6_pledge_42 rfl (lv_at hl 1 rfl) ?_
        refine g_6_33_0 C hS dX6_pledge_43 ?_
        refine g_6_168_22 C hS dX6_pledge_46 ?_
        refine lv_iconst (v := 1) hx hb dX6_pledge_49 (by decide) ?_
        obtain ⟨o50, e50, hm⟩ := ob hm
        refine after_i C hS (call_V (As := [.int 1]) C hS (c_X1_isFull l d q σ 1 o50 e50 _) iv_6_172 ⟨rfl, rfl, Nat.le_of_ble_eq_true rfl, Nat.le_of_ble_eq_true rfl⟩ cw_o27 rfl rfl rfl hl.1 (Nat.le_of_ble_eq_true rfl) dX6_pledge_50) (fun H locs hS => ?_)
        refine lv_if_eq (tgt := 59) hx hb dX6_pledge_53 (by decide) (fun c53 => ?_) (fun c53 => ?_)
        · replace hm := it c53 hm
          refine lv_aload_n hx hb dX6_pledge_59 rfl (lv_at hl 1 rfl) ?_
          refine g_6_33_0 C hS dX6_pledge_60 ?_
          refine lv_iload_n hx hb dX6_pledge_63 rfl (lv_at hl 2 rfl) ?_
          refine lv_iload_n hx hb dX6_pledge_64 rfl (lv_at hl 3 rfl) ?_
          obtain ⟨o65, e65, hm⟩ := ob hm
          refine after_i C hS (call_S (As := [.int a1, .int a2]) C hS (c_X6_pledgeDeed l d (cw q d σ) a1 a2 o65 e65 _) is_6_184 ⟨rfl, rfl, Nat.le_of_ble_eq_true rfl, Nat.le_of_ble_eq_true rfl⟩ rfl hl.1 (Nat.le_of_ble_eq_true rfl) dX6_pledge_65) (fun H locs hS => ?_)
          obtain ⟨o68, e68, hm⟩ := ob hm
          refine after_i C hS (call_V (As := [.int o65]) C hS (c_X5_perform l d q σ o65 o68 e68 _) iv_6_178 ⟨rfl, rfl, Nat.le_of_ble_eq_true rfl, Nat.le_of_ble_eq_true rfl⟩ cw_o22 rfl rfl rfl hl.1 (Nat.le_of_ble_eq_true rfl) dX6_pledge_68) (fun H locs hS => ?_)
          refine lv_pop hx hb dX6_pledge_71 rfl ?_
          refine lv_iload_n hx hb dX6_pledge_72 rfl (lv_at hl 0 rfl) ?_
          exact retIw (wf := cw q d) C hS hm dX6_pledge_73
        · replace hm := ie c53 hm
          refine lv_bipush (v := (-2)) hx hb dX6_pledge_56 (by decide) ?_
          exact retIw (wf := cw q d) C hS hm dX6_pledge_58
      · replace hm := it c36 hm
        refine lv_bipush (v := (-4)) hx hb dX6_pledge_39 (by decide) ?_
        exact retIw (wf := cw q d) C hS hm dX6_pledge_41
    · replace hm := it c19 hm
      refine lv_iconst (v := (-1)) hx hb dX6_pledge_22 (by decide) ?_
      exact retIw (wf := cw q d) C hS hm dX6_pledge_23
def M_X6_day (σ : ST) : Option (Int32 × ST) := (M_X5_houses σ).bind fun o4 => if o4 = 0 then some ((-4), σ) else (M_X1_isFull σ 1).bind fun o21 => if o21 = 0 then (M_X5_perform σ 2).bind fun o35 => some (o35.2.1 35, o35.2) else some ((-2), σ)
abbrev rm_X6_day : Room := { frames := 5, cells := 0, slots := 0, locals := 110 }
set_option maxRecDepth 100000 in
set_option maxHeartbeats 4000000 in
theorem c_X6_day (l : Launch) (d : CD) (q : Nat → Nat) (σ : ST) (out : Int32 × ST) (hm : M_X6_day σ = some out) : MetI l yX6_day cX6_day 1 (some .int) rm_X6_day d (cw q d σ) [.ref (q 0)] out.1 (cw q d out.2) := by
  refine mkI (own := RX6) (by decide +kernel) rfl (Nat.le_of_ble_eq_true rfl) ?_
  intro p e s m below meth c A ls C hS hl
  obtain ⟨hx, hb, hml, hown, hts, -⟩ := id C
  have hl : lv_has ls 1 [(0, .ref (q 0))] := hl
  unfold M_X6_day at hm
  refine lv_aload_n hx hb dX6_day_0 rfl (lv_at hl 0 rfl) ?_
  refine g_6_33_0 C hS dX6_day_1 ?_
  obtain ⟨o4, e4, hm⟩ := ob hm
  refine after_i C hS (call_V (As := []) C hS (c_X5_houses l d q σ o4 e4 _) iv_6_140 ⟨rfl, rfl, Nat.le_of_ble_eq_true rfl, Nat.le_of_ble_eq_true rfl⟩ cw_o22 rfl rfl rfl hl.1 (Nat.le_of_ble_eq_true rfl) dX6_day_4) (fun H locs hS => ?_)
  refine lv_if_ne (tgt := 13) hx hb dX6_day_7 (by decide) (fun c7 => ?_) (fun c7 => ?_)
  · replace hm := ie c7 hm
    refine lv_aload_n hx hb dX6_day_13 rfl (lv_at hl 0 rfl) ?_
    refine g_6_33_0 C hS dX6_day_14 ?_
    refine g_6_168_22 C hS dX6_day_17 ?_
    refine lv_iconst (v := 1) hx hb dX6_day_20 (by decide) ?_
    obtain ⟨o21, e21, hm⟩ := ob hm
    refine after_i C hS (call_V (As := [.int 1]) C hS (c_X1_isFull l d q σ 1 o21 e21 _) iv_6_172 ⟨rfl, rfl, Nat.le_of_ble_eq_true rfl, Nat.le_of_ble_eq_true rfl⟩ cw_o27 rfl rfl rfl hl.1 (Nat.le_of_ble_eq_true rfl) dX6_day_21) (fun H locs hS => ?_)
    refine lv_if_eq (tgt := 30) hx hb dX6_day_24 (by decide) (fun c24 => ?_) (fun c24 => ?_)
    · replace hm := it c24 hm
      refine lv_aload_n hx hb dX6_day_30 rfl (lv_at hl 0 rfl) ?_
      refine g_6_33_0 C hS dX6_day_31 ?_
      refine lv_iconst (v := 2) hx hb dX6_day_34 (by decide) ?_
      obtain ⟨o35, e35, hm⟩ := ob hm
      refine after_i C hS (call_V (As := [.int 2]) C hS (c_X5_perform l d q σ 2 o35 e35 _) iv_6_178 ⟨rfl, rfl, Nat.le_of_ble_eq_true rfl, Nat.le_of_ble_eq_true rfl⟩ cw_o22 rfl rfl rfl hl.1 (Nat.le_of_ble_eq_true rfl) dX6_day_35) (fun H locs hS => ?_)
      refine lv_pop hx hb dX6_day_38 rfl ?_
      refine lv_aload_n hx hb dX6_day_39 rfl (lv_at hl 0 rfl) ?_
      refine g_6_33_0 C hS dX6_day_40 ?_
      refine g_6_187_22 C hS dX6_day_43 ?_
      exact retIw (wf := cw q d) C hS hm dX6_day_46
    · replace hm := ie c24 hm
      refine lv_bipush (v := (-2)) hx hb dX6_day_27 (by decide) ?_
      exact retIw (wf := cw q d) C hS hm dX6_day_29
  · replace hm := it c7 hm
    refine lv_bipush (v := (-4)) hx hb dX6_day_10 (by decide) ?_
    exact retIw (wf := cw q d) C hS hm dX6_day_12
def M_X5_replay_53 : Nat → ST → Int32 → Option ST
  | 0, _, _ => none
  | n + 1, σ, x1 => if (σ.1 37) ≤ x1 then some σ else if 40 ≤ x1 then some σ else (rd 40 (σ.2.2 28) x1).bind fun v79 => (M_X5_apply σ v79).bind fun o80 => M_X5_replay_53 n o80.2 (x1 + 1)
def M_X5_replay_18 : Nat → ST → Int32 → Option ST
  | 0, _, _ => none
  | n + 1, σ, x1 => if 7 ≤ x1 then M_X5_replay_53 10000 σ 0 else (wrA 7 σ 29 x1 x1).bind fun σ30 => (wrA 7 σ30 30 x1 0).bind fun σ37 => (wrA 7 σ37 31 x1 0).bind fun σ44 => M_X5_replay_18 n σ44 (x1 + 1)
def M_X5_replay (σ : ST) : Option ST := (some (setI σ 35 (σ.1 31))).bind fun σ8 => (some (setI σ8 36 (0))).bind fun σ13 => M_X5_replay_18 10000 σ13 0
abbrev rm_X5_replay : Room := { frames := 4, cells := 0, slots := 0, locals := 89 }
set_option maxRecDepth 100000 in
set_option maxHeartbeats 4000000 in
theorem c_X5_replay (l : Launch) (d : CD) (q : Nat → Nat) (σ : ST) (out : ST) (hm : M_X5_replay σ = some out) : MetV l yX5_replay cX5_replay 2 (none) rm_X5_replay d (cw q d σ) [.ref (q 22)] (cw q d out) := by
  refine mkV (own := RX5) (by decide +kernel) rfl (Nat.le_of_ble_eq_true rfl) ?_
  intro p e s m below meth c A ls C hS hl
  obtain ⟨hx, hb, hml, hown, hts, -⟩ := id C
  have hl : lv_has ls 2 [(0, .ref (q 22))] := hl
  have L53 : ∀ (n : Nat) (σ : ST) (x1 : Int32) (H : Heap) (locs : List Loc) (ls : Array Slot), HS d A s.heap H locs (cw q d σ) → lv_has ls 2 [(0, .ref (q 22)), (1, .int x1)] → M_X5_replay_53 n σ x1 = some out → WV p l e rm_X5_replay s m [.ref (q 22)].toArray below meth c A d H locs (cw q d out) (F0 m 53 ls []) := by
    intro n
    induction n with
    | zero =>
      intro σ x1 H locs ls hS hl hm
      exact absurd hm (by rw [M_X5_replay_53]; exact fun h => nomatch h)
    | succ n ih =>
      intro σ x1 H locs ls hS hl hm
      rw [M_X5_replay_53] at hm
      refine lv_iload_n hx hb dX5_replay_53 rfl (lv_at hl 1 rfl) ?_
      refine lv_aload_n hx hb dX5_replay_54 rfl (lv_at hl 0 rfl) ?_
      refine g_5_23_22 C hS dX5_replay_55 ?_
      refine g_5_37_27 C hS dX5_replay_58 ?_
      refine lv_icmp_ge (tgt := 90) hx hb dX5_replay_61 (by decide) (fun c61 => ?_) (fun c61 => ?_)
      · replace hm := it c61 hm
        exact retVw (wf := cw q d) C hS hm dX5_replay_90
      · replace hm := ie c61 hm
        refine lv_iload_n hx hb dX5_replay_64 rfl (lv_at hl 1 rfl) ?_
        refine lv_bipush (v := 40) hx hb dX5_replay_65 (by decide) ?_
        refine lv_icmp_ge (tgt := 90) hx hb dX5_replay_67 (by decide) (fun c67 => ?_) (fun c67 => ?_)
        · replace hm := it c67 hm
          exact retVw (wf := cw q d) C hS hm dX5_replay_90
        · replace hm := ie c67 hm
          refine lv_aload_n hx hb dX5_replay_70 rfl (lv_at hl 0 rfl) ?_
          refine lv_aload_n hx hb dX5_replay_71 rfl (lv_at hl 0 rfl) ?_
          refine g_5_23_22 C hS dX5_replay_72 ?_
          refine g_5_53_27 C hS dX5_replay_75 ?_
          refine lv_iload_n hx hb dX5_replay_78 rfl (lv_at hl 1 rfl) ?_
          obtain ⟨v79, e79, hm⟩ := ob hm
          refine iald' C hS cw_a28 e79 dX5_replay_79 ?_
          obtain ⟨o80, e80, hm⟩ := ob hm
          refine after_i C hS (call_V (As := [.int v79]) C hS (c_X5_apply l d q σ v79 o80 e80 _) iv_5_56 ⟨rfl, rfl, Nat.le_of_ble_eq_true rfl, Nat.le_of_ble_eq_true rfl⟩ cw_o22 rfl rfl rfl hl.1 (Nat.le_of_ble_eq_true rfl) dX5_replay_80) (fun H locs hS => ?_)
          refine lv_pop hx hb dX5_replay_83 rfl ?_
          refine lv_iinc (v := x1 + 1) (lv' := [(1, .int (x1 + 1)), (0, .ref (q 22))]) hx hb dX5_replay_84 hl (k := 1) rfl rfl (by decide) rfl (fun ls hl => ?_)
          refine lv_goto (tgt := 53) hx hb dX5_replay_87 (by decide) ?_
          exact ih o80.2 (x1 + 1) _ _ _ hS (lv_sub hl [1, 0] rfl) hm
  have L18 : ∀ (n : Nat) (σ : ST) (x1 : Int32) (H : Heap) (locs : List Loc) (ls : Array Slot), HS d A s.heap H locs (cw q d σ) → lv_has ls 2 [(0, .ref (q 22)), (1, .int x1)] → M_X5_replay_18 n σ x1 = some out → WV p l e rm_X5_replay s m [.ref (q 22)].toArray below meth c A d H locs (cw q d out) (F0 m 18 ls []) := by
    intro n
    induction n with
    | zero =>
      intro σ x1 H locs ls hS hl hm
      exact absurd hm (by rw [M_X5_replay_18]; exact fun h => nomatch h)
    | succ n ih =>
      intro σ x1 H locs ls hS hl hm
      rw [M_X5_replay_18] at hm
      refine lv_iload_n hx hb dX5_replay_18 rfl (lv_at hl 1 rfl) ?_
      refine lv_bipush (v := 7) hx hb dX5_replay_19 (by decide) ?_
      refine lv_icmp_ge (tgt := 51) hx hb dX5_replay_21 (by decide) (fun c21 => ?_) (fun c21 => ?_)
      · replace hm := it c21 hm
        refine lv_iconst (v := 0) hx hb dX5_replay_51 (by decide) ?_
        refine lv_istore_n (lv' := [(1, .int 0), (0, .ref (q 22))]) hx hb dX5_replay_52 rfl hl (by decide) rfl (fun ls hl => ?_)
        exact L53 10000 σ 0 _ _ _ hS (lv_sub hl [1, 0] rfl) hm
      · replace hm := ie c21 hm
        refine lv_aload_n hx hb dX5_replay_24 rfl (lv_at hl 0 rfl) ?_
        refine g_5_27_22 C hS dX5_replay_25 ?_
        refine lv_iload_n hx hb dX5_replay_28 rfl (lv_at hl 1 rfl) ?_
        refine lv_iload_n hx hb dX5_replay_29 rfl (lv_at hl 1 rfl) ?_
        obtain ⟨σ30, e30, hm⟩ := ob hm
        refine iast' (wf := cw q d) C hS cw_a29 cw_s29 e30 dX5_replay_30 (fun H locs hS => ?_)
        refine lv_aload_n hx hb dX5_replay_31 rfl (lv_at hl 0 rfl) ?_
        refine g_5_31_22 C hS dX5_replay_32 ?_
        refine lv_iload_n hx hb dX5_replay_35 rfl (lv_at hl 1 rfl) ?_
        refine lv_iconst (v := 0) hx hb dX5_replay_36 (by decide) ?_
        obtain ⟨σ37, e37, hm⟩ := ob hm
        refine iast' (wf := cw q d) C hS cw_a30 cw_s30 e37 dX5_replay_37 (fun H locs hS => ?_)
        refine lv_aload_n hx hb dX5_replay_38 rfl (lv_at hl 0 rfl) ?_
        refine g_5_34_22 C hS dX5_replay_39 ?_
        refine lv_iload_n hx hb dX5_replay_42 rfl (lv_at hl 1 rfl) ?_
        refine lv_iconst (v := 0) hx hb dX5_replay_43 (by decide) ?_
        obtain ⟨σ44, e44, hm⟩ := ob hm
        refine iast' (wf := cw q d) C hS cw_a31 cw_s31 e44 dX5_replay_44 (fun H locs hS => ?_)
        refine lv_iinc (v := x1 + 1) (lv' := [(1, .int (x1 + 1)), (0, .ref (q 22))]) hx hb dX5_replay_45 hl (k := 1) rfl rfl (by decide) rfl (fun ls hl => ?_)
        refine lv_goto (tgt := 18) hx hb dX5_replay_48 (by decide) ?_
        exact ih σ44 (x1 + 1) _ _ _ hS (lv_sub hl [1, 0] rfl) hm
  unfold M_X5_replay at hm
  refine lv_aload_n hx hb dX5_replay_0 rfl (lv_at hl 0 rfl) ?_
  refine lv_aload_n hx hb dX5_replay_1 rfl (lv_at hl 0 rfl) ?_
  refine g_5_12_22 C hS dX5_replay_2 ?_
  refine g_5_44_23 C hS dX5_replay_5 ?_
  obtain ⟨σ8, e8, hm⟩ := ob hm
  refine p_5_47_22 C hS e8 dX5_replay_8 (fun H locs hS => ?_)
  refine lv_aload_n hx hb dX5_replay_11 rfl (lv_at hl 0 rfl) ?_
  refine lv_iconst (v := 0) hx hb dX5_replay_12 (by decide) ?_
  obtain ⟨σ13, e13, hm⟩ := ob hm
  refine p_5_50_22 C hS e13 dX5_replay_13 (fun H locs hS => ?_)
  refine lv_iconst (v := 0) hx hb dX5_replay_16 (by decide) ?_
  refine lv_istore_n (lv' := [(1, .int 0), (0, .ref (q 22))]) hx hb dX5_replay_17 rfl hl (by decide) rfl (fun ls hl => ?_)
  exact L18 10000 σ13 0 _ _ _ hS (lv_sub hl [1, 0] rfl) hm
def M_X6_undo (σ : ST) (a1 : Int32) : Option (Int32 × ST) := if a1 < 0 then some ((-1), σ) else if a1 ≤ (σ.1 37) then (some (setI σ 37 (a1))).bind fun σ30 => (M_X5_replay σ30).bind fun o37 => some ((σ.1 37) - a1, o37) else some ((-1), σ)
abbrev rm_X6_undo : Room := { frames := 5, cells := 0, slots := 0, locals := 110 }
set_option maxRecDepth 100000 in
set_option maxHeartbeats 4000000 in
theorem c_X6_undo (l : Launch) (d : CD) (q : Nat → Nat) (σ : ST) (a1 : Int32) (out : Int32 × ST) (hm : M_X6_undo σ a1 = some out) : MetI l yX6_undo cX6_undo 3 (some .int) rm_X6_undo d (cw q d σ) [.ref (q 0), .int a1] out.1 (cw q d out.2) := by
  refine mkI (own := RX6) (by decide +kernel) rfl (Nat.le_of_ble_eq_true rfl) ?_
  intro p e s m below meth c A ls C hS hl
  obtain ⟨hx, hb, hml, hown, hts, -⟩ := id C
  have hl : lv_has ls 3 [(0, .ref (q 0)), (1, .int a1)] := hl
  unfold M_X6_undo at hm
  refine lv_aload_n hx hb dX6_undo_0 rfl (lv_at hl 0 rfl) ?_
  refine g_6_33_0 C hS dX6_undo_1 ?_
  refine g_6_168_22 C hS dX6_undo_4 ?_
  refine g_6_137_27 C hS dX6_undo_7 ?_
  refine lv_istore_n (lv' := [(2, .int (σ.1 37)), (0, .ref (q 0)), (1, .int a1)]) hx hb dX6_undo_10 rfl hl (by decide) rfl (fun ls hl => ?_)
  refine lv_iload_n hx hb dX6_undo_11 rfl (lv_at hl 2 rfl) ?_
  refine lv_if_lt (tgt := 20) hx hb dX6_undo_12 (by decide) (fun c12 => ?_) (fun c12 => ?_)
  · replace hm := it c12 hm
    refine lv_iconst (v := (-1)) hx hb dX6_undo_20 (by decide) ?_
    exact retIw (wf := cw q d) C hS hm dX6_undo_21
  · replace hm := ie c12 hm
    refine lv_iload_n hx hb dX6_undo_15 rfl (lv_at hl 2 rfl) ?_
    refine lv_iload_n hx hb dX6_undo_16 rfl (lv_at hl 0 rfl) ?_
    refine lv_icmp_le (tgt := 22) hx hb dX6_undo_17 (by decide) (fun c17 => ?_) (fun c17 => ?_)
    · replace hm := it c17 hm
      refine lv_aload_n hx hb dX6_undo_22 rfl (lv_at hl 1 rfl) ?_
      refine g_6_33_0 C hS dX6_undo_23 ?_
      refine g_6_168_22 C hS dX6_undo_26 ?_
      refine lv_iload_n hx hb dX6_undo_29 rfl (lv_at hl 2 rfl) ?_
      obtain ⟨σ30, e30, hm⟩ := ob hm
      refine p_6_137_27 C hS e30 dX6_undo_30 (fun H locs hS => ?_)
      refine lv_aload_n hx hb dX6_undo_33 rfl (lv_at hl 1 rfl) ?_
      refine g_6_33_0 C hS dX6_undo_34 ?_
      obtain ⟨o37, e37, hm⟩ := ob hm
      refine after_v C hS (call_V (As := []) C hS (c_X5_replay l d q σ30 o37 e37 _) iv_6_190 ⟨rfl, rfl, Nat.le_of_ble_eq_true rfl, Nat.le_of_ble_eq_true rfl⟩ cw_o22 rfl rfl rfl hl.1 (Nat.le_of_ble_eq_true rfl) dX6_undo_37) (fun H locs hS => ?_)
      refine lv_iload_n hx hb dX6_undo_40 rfl (lv_at hl 0 rfl) ?_
      refine lv_iload_n hx hb dX6_undo_41 rfl (lv_at hl 2 rfl) ?_
      refine lv_isub hx hb dX6_undo_42 ?_
      exact retIw (wf := cw q d) C hS hm dX6_undo_43
    · replace hm := ie c17 hm
      refine lv_iconst (v := (-1)) hx hb dX6_undo_20 (by decide) ?_
      exact retIw (wf := cw q d) C hS hm dX6_undo_21
def M_X1_take_k (σ : ST) (j : Nat) : Option ST := (cpA 40 40 σ 28 (39 + j) 0 0 40).bind fun σ12 => (some (setI σ12 (40 + j) (σ12.1 37))).bind fun σ20 => some σ20
abbrev rm_X1_take_k : Room := { frames := 1, cells := 0, slots := 0, locals := 59 }
set_option maxRecDepth 100000 in
set_option maxHeartbeats 4000000 in
theorem c_X1_take_k (l : Launch) (d : CD) (q : Nat → Nat) (σ : ST) (j : Nat) (out : ST) (hj : j < 3) (hm : M_X1_take_k σ j = some out) : MetV l yX1_take cX1_take 2 (none) rm_X1_take_k d (cw q d σ) [.ref (q (36 + j)), .ref (q 27)] (cw q d out) := by
  refine mkV (own := RX1) (by decide +kernel) rfl (Nat.le_of_ble_eq_true rfl) ?_
  intro p e s m below meth c A ls C hS hl
  obtain ⟨hx, hb, hml, hown, hts, -⟩ := id C
  have hl : lv_has ls 2 [(0, .ref (q (36 + j))), (1, .ref (q 27))] := hl
  unfold M_X1_take_k at hm
  refine lv_aload_n hx hb dX1_take_0 rfl (lv_at hl 1 rfl) ?_
  refine g_1_9_27 C hS dX1_take_1 ?_
  refine lv_iconst (v := 0) hx hb dX1_take_4 (by decide) ?_
  refine lv_aload_n hx hb dX1_take_5 rfl (lv_at hl 0 rfl) ?_
  refine g_1_9_f36 hj C hS dX1_take_6 ?_
  refine lv_iconst (v := 0) hx hb dX1_take_9 (by decide) ?_
  refine lv_bipush (v := 40) hx hb dX1_take_10 (by decide) ?_
  obtain ⟨σ12, e12, hm⟩ := ob hm
  refine cpy' (wf := cw q d) C hl.1 hS cw_a28 (cw_af39 hj) (cw_sf39 hj) ac_X1_19 ⟨Nat.le_of_ble_eq_true rfl, by decide⟩ (Nat.le_of_ble_eq_true rfl) e12 dX1_take_12 (fun H locs hS => ?_)
  refine lv_aload_n hx hb dX1_take_15 rfl (lv_at hl 0 rfl) ?_
  refine lv_aload_n hx hb dX1_take_16 rfl (lv_at hl 1 rfl) ?_
  refine g_1_15_27 C hS dX1_take_17 ?_
  obtain ⟨σ20, e20, hm⟩ := ob hm
  refine p_1_15_f36 hj C hS e20 dX1_take_20 (fun H locs hS => ?_)
  exact retVw (wf := cw q d) C hS hm dX1_take_23
def M_X6_keep (σ : ST) (a1 : Int32) : Option (Int32 × ST) := if a1 < 0 then some ((-1), σ) else if a1 < 3 then (M_X5_houses σ).bind fun o15 => if o15 = 0 then some ((-4), σ) else (inR 3 a1).bind fun j29 => (M_X1_take_k σ j29).bind fun o37 => some (o37.1 37, o37) else some ((-1), σ)
abbrev rm_X6_keep : Room := { frames := 2, cells := 0, slots := 0, locals := 80 }
set_option maxRecDepth 100000 in
set_option maxHeartbeats 4000000 in
theorem c_X6_keep (l : Launch) (d : CD) (q : Nat → Nat) (σ : ST) (a1 : Int32) (out : Int32 × ST) (hm : M_X6_keep σ a1 = some out) : MetI l yX6_keep cX6_keep 2 (some .int) rm_X6_keep d (cw q d σ) [.ref (q 0), .int a1] out.1 (cw q d out.2) := by
  refine mkI (own := RX6) (by decide +kernel) rfl (Nat.le_of_ble_eq_true rfl) ?_
  intro p e s m below meth c A ls C hS hl
  obtain ⟨hx, hb, hml, hown, hts, -⟩ := id C
  have hl : lv_has ls 2 [(0, .ref (q 0)), (1, .int a1)] := hl
  unfold M_X6_keep at hm
  refine lv_iload_n hx hb dX6_keep_0 rfl (lv_at hl 1 rfl) ?_
  refine lv_if_lt (tgt := 9) hx hb dX6_keep_1 (by decide) (fun c1 => ?_) (fun c1 => ?_)
  · replace hm := it c1 hm
    refine lv_iconst (v := (-1)) hx hb dX6_keep_9 (by decide) ?_
    exact retIw (wf := cw q d) C hS hm dX6_keep_10
  · replace hm := ie c1 hm
    refine lv_iload_n hx hb dX6_keep_4 rfl (lv_at hl 1 rfl) ?_
    refine lv_iconst (v := 3) hx hb dX6_keep_5 (by decide) ?_
    refine lv_icmp_lt (tgt := 11) hx hb dX6_keep_6 (by decide) (fun c6 => ?_) (fun c6 => ?_)
    · replace hm := it c6 hm
      refine lv_aload_n hx hb dX6_keep_11 rfl (lv_at hl 0 rfl) ?_
      refine g_6_33_0 C hS dX6_keep_12 ?_
      obtain ⟨o15, e15, hm⟩ := ob hm
      refine after_i C hS (call_V (As := []) C hS (c_X5_houses l d q σ o15 e15 _) iv_6_140 ⟨rfl, rfl, Nat.le_of_ble_eq_true rfl, Nat.le_of_ble_eq_true rfl⟩ cw_o22 rfl rfl rfl hl.1 (Nat.le_of_ble_eq_true rfl) dX6_keep_15) (fun H locs hS => ?_)
      refine lv_if_ne (tgt := 24) hx hb dX6_keep_18 (by decide) (fun c18 => ?_) (fun c18 => ?_)
      · replace hm := ie c18 hm
        refine lv_aload_n hx hb dX6_keep_24 rfl (lv_at hl 0 rfl) ?_
        refine g_6_48_0 C hS dX6_keep_25 ?_
        refine lv_iload_n hx hb dX6_keep_28 rfl (lv_at hl 1 rfl) ?_
        obtain ⟨j29, e29, hm⟩ := ob hm
        have hj29 := inR_lt e29
        refine aaldD (g := fun j => q (36 + j)) C hS cw_r35 e29 dX6_keep_29 ?_
        refine lv_aload_n hx hb dX6_keep_30 rfl (lv_at hl 0 rfl) ?_
        refine g_6_33_0 C hS dX6_keep_31 ?_
        refine g_6_168_22 C hS dX6_keep_34 ?_
        obtain ⟨o37, e37, hm⟩ := ob hm
        refine after_v C hS (call_V (As := [.ref (q 27)]) C hS (c_X1_take_k l d q σ j29 o37 hj29 e37 _) iv_6_193 ⟨rfl, rfl, Nat.le_of_ble_eq_true rfl, Nat.le_of_ble_eq_true rfl⟩ (cw_of36 hj29) rfl rfl rfl hl.1 (Nat.le_of_ble_eq_true rfl) dX6_keep_37) (fun H locs hS => ?_)
        refine lv_aload_n hx hb dX6_keep_40 rfl (lv_at hl 0 rfl) ?_
        refine g_6_33_0 C hS dX6_keep_41 ?_
        refine g_6_168_22 C hS dX6_keep_44 ?_
        refine g_6_137_27 C hS dX6_keep_47 ?_
        exact retIw (wf := cw q d) C hS hm dX6_keep_50
      · replace hm := it c18 hm
        refine lv_bipush (v := (-4)) hx hb dX6_keep_21 (by decide) ?_
        exact retIw (wf := cw q d) C hS hm dX6_keep_23
    · replace hm := ie c6 hm
      refine lv_iconst (v := (-1)) hx hb dX6_keep_9 (by decide) ?_
      exact retIw (wf := cw q d) C hS hm dX6_keep_10
def M_X1_take_o (σ : ST) (j : Nat) : Option ST := (cpA 40 40 σ (39 + j) 28 0 0 40).bind fun σ12 => (some (setI σ12 37 (σ12.1 (40 + j)))).bind fun σ20 => some σ20
abbrev rm_X1_take_o : Room := { frames := 1, cells := 0, slots := 0, locals := 59 }
set_option maxRecDepth 100000 in
set_option maxHeartbeats 4000000 in
theorem c_X1_take_o (l : Launch) (d : CD) (q : Nat → Nat) (σ : ST) (j : Nat) (out : ST) (hj : j < 3) (hm : M_X1_take_o σ j = some out) : MetV l yX1_take cX1_take 2 (none) rm_X1_take_o d (cw q d σ) [.ref (q 27), .ref (q (36 + j))] (cw q d out) := by
  refine mkV (own := RX1) (by decide +kernel) rfl (Nat.le_of_ble_eq_true rfl) ?_
  intro p e s m below meth c A ls C hS hl
  obtain ⟨hx, hb, hml, hown, hts, -⟩ := id C
  have hl : lv_has ls 2 [(0, .ref (q 27)), (1, .ref (q (36 + j)))] := hl
  unfold M_X1_take_o at hm
  refine lv_aload_n hx hb dX1_take_0 rfl (lv_at hl 1 rfl) ?_
  refine g_1_9_f36 hj C hS dX1_take_1 ?_
  refine lv_iconst (v := 0) hx hb dX1_take_4 (by decide) ?_
  refine lv_aload_n hx hb dX1_take_5 rfl (lv_at hl 0 rfl) ?_
  refine g_1_9_27 C hS dX1_take_6 ?_
  refine lv_iconst (v := 0) hx hb dX1_take_9 (by decide) ?_
  refine lv_bipush (v := 40) hx hb dX1_take_10 (by decide) ?_
  obtain ⟨σ12, e12, hm⟩ := ob hm
  refine cpy' (wf := cw q d) C hl.1 hS (cw_af39 hj) cw_a28 cw_s28 ac_X1_19 ⟨Nat.le_of_ble_eq_true rfl, by decide⟩ (Nat.le_of_ble_eq_true rfl) e12 dX1_take_12 (fun H locs hS => ?_)
  refine lv_aload_n hx hb dX1_take_15 rfl (lv_at hl 0 rfl) ?_
  refine lv_aload_n hx hb dX1_take_16 rfl (lv_at hl 1 rfl) ?_
  refine g_1_15_f36 hj C hS dX1_take_17 ?_
  obtain ⟨σ20, e20, hm⟩ := ob hm
  refine p_1_15_27 C hS e20 dX1_take_20 (fun H locs hS => ?_)
  exact retVw (wf := cw q d) C hS hm dX1_take_23
def M_X6_on (σ : ST) (a1 : Int32) : Option (Int32 × ST) := if a1 < 0 then some ((-1), σ) else if a1 < 3 then (inR 3 a1).bind fun j16 => if (σ.1 (40 + j16)) = (-1) then (M_X6_refuse σ 1).bind fun o26 => some (o26.1, o26.2) else (inR 3 a1).bind fun j42 => (M_X1_take_o σ j42).bind fun o43 => (M_X5_replay o43).bind fun o50 => some (o50.1 37, o50) else some ((-1), σ)
abbrev rm_X6_on : Room := { frames := 5, cells := 0, slots := 0, locals := 110 }
set_option maxRecDepth 100000 in
set_option maxHeartbeats 4000000 in
theorem c_X6_on (l : Launch) (d : CD) (q : Nat → Nat) (σ : ST) (a1 : Int32) (out : Int32 × ST) (hm : M_X6_on σ a1 = some out) : MetI l yX6_on cX6_on 2 (some .int) rm_X6_on d (cw q d σ) [.ref (q 0), .int a1] out.1 (cw q d out.2) := by
  refine mkI (own := RX6) (by decide +kernel) rfl (Nat.le_of_ble_eq_true rfl) ?_
  intro p e s m below meth c A ls C hS hl
  obtain ⟨hx, hb, hml, hown, hts, -⟩ := id C
  have hl : lv_has ls 2 [(0, .ref (q 0)), (1, .int a1)] := hl
  unfold M_X6_on at hm
  refine lv_iload_n hx hb dX6_on_0 rfl (lv_at hl 1 rfl) ?_
  refine lv_if_lt (tgt := 9) hx hb dX6_on_1 (by decide) (fun c1 => ?_) (fun c1 => ?_)
  · replace hm := it c1 hm
    refine lv_iconst (v := (-1)) hx hb dX6_on_9 (by decide) ?_
    exact retIw (wf := cw q d) C hS hm dX6_on_10
  · replace hm := ie c1 hm
    refine lv_iload_n hx hb dX6_on_4 rfl (lv_at hl 1 rfl) ?_
    refine lv_iconst (v := 3) hx hb dX6_on_5 (by decide) ?_
    refine lv_icmp_lt (tgt := 11) hx hb dX6_on_6 (by decide) (fun c6 => ?_) (fun c6 => ?_)
    · replace hm := it c6 hm
      refine lv_aload_n hx hb dX6_on_11 rfl (lv_at hl 0 rfl) ?_
      refine g_6_48_0 C hS dX6_on_12 ?_
      refine lv_iload_n hx hb dX6_on_15 rfl (lv_at hl 1 rfl) ?_
      obtain ⟨j16, e16, hm⟩ := ob hm
      have hj16 := inR_lt e16
      refine aaldD (g := fun j => q (36 + j)) C hS cw_r35 e16 dX6_on_16 ?_
      refine g_6_137_f36 hj16 C hS dX6_on_17 ?_
      refine lv_iconst (v := (-1)) hx hb dX6_on_20 (by decide) ?_
      refine lv_icmp_ne (tgt := 30) hx hb dX6_on_21 (by decide) (fun c21 => ?_) (fun c21 => ?_)
      · replace hm := ie c21 hm
        refine lv_aload_n hx hb dX6_on_30 rfl (lv_at hl 0 rfl) ?_
        refine g_6_33_0 C hS dX6_on_31 ?_
        refine g_6_168_22 C hS dX6_on_34 ?_
        refine lv_aload_n hx hb dX6_on_37 rfl (lv_at hl 0 rfl) ?_
        refine g_6_48_0 C hS dX6_on_38 ?_
        refine lv_iload_n hx hb dX6_on_41 rfl (lv_at hl 1 rfl) ?_
        obtain ⟨j42, e42, hm⟩ := ob hm
        have hj42 := inR_lt e42
        refine aaldD (g := fun j => q (36 + j)) C hS cw_r35 e42 dX6_on_42 ?_
        obtain ⟨o43, e43, hm⟩ := ob hm
        refine after_v C hS (call_V (As := [.ref (q (36 + j42))]) C hS (c_X1_take_o l d q σ j42 o43 hj42 e43 _) iv_6_193 ⟨rfl, rfl, Nat.le_of_ble_eq_true rfl, Nat.le_of_ble_eq_true rfl⟩ cw_o27 rfl rfl rfl hl.1 (Nat.le_of_ble_eq_true rfl) dX6_on_43) (fun H locs hS => ?_)
        refine lv_aload_n hx hb dX6_on_46 rfl (lv_at hl 0 rfl) ?_
        refine g_6_33_0 C hS dX6_on_47 ?_
        obtain ⟨o50, e50, hm⟩ := ob hm
        refine after_v C hS (call_V (As := []) C hS (c_X5_replay l d q o43 o50 e50 _) iv_6_190 ⟨rfl, rfl, Nat.le_of_ble_eq_true rfl, Nat.le_of_ble_eq_true rfl⟩ cw_o22 rfl rfl rfl hl.1 (Nat.le_of_ble_eq_true rfl) dX6_on_50) (fun H locs hS => ?_)
        refine lv_aload_n hx hb dX6_on_53 rfl (lv_at hl 0 rfl) ?_
        refine g_6_33_0 C hS dX6_on_54 ?_
        refine g_6_168_22 C hS dX6_on_57 ?_
        refine g_6_137_27 C hS dX6_on_60 ?_
        exact retIw (wf := cw q d) C hS hm dX6_on_63
      · replace hm := it c21 hm
        refine lv_aload_n hx hb dX6_on_24 rfl (lv_at hl 0 rfl) ?_
        refine lv_iconst (v := 1) hx hb dX6_on_25 (by decide) ?_
        obtain ⟨o26, e26, hm⟩ := ob hm
        refine after_i C hS (call_V (As := [.int 1]) C hS (c_X6_refuse l d q σ 1 o26 e26 _) iv_6_100 ⟨rfl, rfl, Nat.le_of_ble_eq_true rfl, Nat.le_of_ble_eq_true rfl⟩ cw_o0 rfl rfl rfl hl.1 (Nat.le_of_ble_eq_true rfl) dX6_on_26) (fun H locs hS => ?_)
        exact retIw (wf := cw q d) C hS hm dX6_on_29
    · replace hm := ie c6 hm
      refine lv_iconst (v := (-1)) hx hb dX6_on_9 (by decide) ?_
      exact retIw (wf := cw q d) C hS hm dX6_on_10
def M_X5_isSet (σ : ST) (a1 : Int32) : Option Int32 := if a1 < 0 then okZ 0 else (M_X5_sets σ).bind fun o6 => if o6 ≤ a1 then okZ 0 else okZ 1
abbrev rm_X5_isSet : Room := { frames := 1, cells := 0, slots := 0, locals := 20 }
set_option maxRecDepth 100000 in
set_option maxHeartbeats 4000000 in
theorem c_X5_isSet (l : Launch) (d : CD) (q : Nat → Nat) (σ : ST) (a1 : Int32) (out : Int32) (hm : M_X5_isSet σ a1 = some out) : MetI l yX5_isSet cX5_isSet 2 (some .boolean) rm_X5_isSet d (cw q d σ) [.ref (q 22), .int a1] out (cw q d σ) := by
  refine mkI (own := RX5) (by decide +kernel) rfl (Nat.le_of_ble_eq_true rfl) ?_
  intro p e s m below meth c A ls C hS hl
  obtain ⟨hx, hb, hml, hown, hts, -⟩ := id C
  have hl : lv_has ls 2 [(0, .ref (q 22)), (1, .int a1)] := hl
  unfold M_X5_isSet at hm
  refine lv_iload_n hx hb dX5_isSet_0 rfl (lv_at hl 1 rfl) ?_
  refine lv_if_lt (tgt := 16) hx hb dX5_isSet_1 (by decide) (fun c1 => ?_) (fun c1 => ?_)
  · replace hm := it c1 hm
    refine lv_iconst (v := 0) hx hb dX5_isSet_16 (by decide) ?_
    exact retZr C hS hm dX5_isSet_17
  · replace hm := ie c1 hm
    refine lv_iload_n hx hb dX5_isSet_4 rfl (lv_at hl 1 rfl) ?_
    refine lv_aload_n hx hb dX5_isSet_5 rfl (lv_at hl 0 rfl) ?_
    obtain ⟨o6, e6, hm⟩ := ob hm
    refine after_i C hS (call_V (As := []) C hS (c_X5_sets l d q σ o6 e6 _) iv_5_98 ⟨rfl, rfl, Nat.le_of_ble_eq_true rfl, Nat.le_of_ble_eq_true rfl⟩ cw_o22 rfl rfl rfl hl.1 (Nat.le_of_ble_eq_true rfl) dX5_isSet_6) (fun H locs hS => ?_)
    refine lv_icmp_ge (tgt := 16) hx hb dX5_isSet_9 (by decide) (fun c9 => ?_) (fun c9 => ?_)
    · replace hm := it c9 hm
      refine lv_iconst (v := 0) hx hb dX5_isSet_16 (by decide) ?_
      exact retZr C hS hm dX5_isSet_17
    · replace hm := ie c9 hm
      refine lv_iconst (v := 1) hx hb dX5_isSet_12 (by decide) ?_
      refine lv_goto (tgt := 17) hx hb dX5_isSet_13 (by decide) ?_
      exact retZr C hS hm dX5_isSet_17
def M_X6_weight_30 (σ : ST) (x1 : Int32) (y1 : Int32) : Option (Int32 × ST) := (some (setI σ 8 (y1))).bind fun σ30 => (M_X5_weightOf σ30 x1).bind fun o38 => some (o38, σ30)
def M_X6_weight (σ : ST) (a1 : Int32) : Option (Int32 × ST) := (M_X5_isSet σ a1).bind fun o5 => if o5 = 0 then some ((-1), σ) else (M_X5_isOpenTo σ a1).bind fun o19 => if o19 = 0 then M_X6_weight_30 σ a1 0 else M_X6_weight_30 σ a1 1
abbrev rm_X6_weight : Room := { frames := 4, cells := 0, slots := 0, locals := 88 }
set_option maxRecDepth 100000 in
set_option maxHeartbeats 4000000 in
theorem c_X6_weight (l : Launch) (d : CD) (q : Nat → Nat) (σ : ST) (a1 : Int32) (out : Int32 × ST) (hm : M_X6_weight σ a1 = some out) : MetI l yX6_weight cX6_weight 2 (some .int) rm_X6_weight d (cw q d σ) [.ref (q 0), .int a1] out.1 (cw q d out.2) := by
  refine mkI (own := RX6) (by decide +kernel) rfl (Nat.le_of_ble_eq_true rfl) ?_
  intro p e s m below meth c A ls C hS hl
  obtain ⟨hx, hb, hml, hown, hts, -⟩ := id C
  have hl : lv_has ls 2 [(0, .ref (q 0)), (1, .int a1)] := hl
  have J30 : ∀ (σ : ST) (x1 : Int32) (y1 : Int32) (H : Heap) (locs : List Loc) (ls : Array Slot), HS d A s.heap H locs (cw q d σ) → lv_has ls 2 [(0, .ref (q 0)), (1, .int x1)] → M_X6_weight_30 σ x1 y1 = some out → WI p l e rm_X6_weight s m [.ref (q 0), .int a1].toArray below meth c A d H locs out.1 (cw q d out.2) (F0 m 30 ls [.int y1, .ref (q 0)]) := by
    intro σ x1 y1 H locs ls hS hl hm
    unfold M_X6_weight_30 at hm
    obtain ⟨σ30, e30, hm⟩ := ob hm
    refine p_6_60_0 C hS e30 dX6_weight_30 (fun H locs hS => ?_)
    refine lv_aload_n hx hb dX6_weight_33 rfl (lv_at hl 0 rfl) ?_
    refine g_6_33_0 C hS dX6_weight_34 ?_
    refine lv_iload_n hx hb dX6_weight_37 rfl (lv_at hl 1 rfl) ?_
    obtain ⟨o38, e38, hm⟩ := ob hm
    refine after_i C hS (call_V (As := [.int x1]) C hS (c_X5_weightOf l d q σ30 x1 o38 e38 _) iv_6_200 ⟨rfl, rfl, Nat.le_of_ble_eq_true rfl, Nat.le_of_ble_eq_true rfl⟩ cw_o22 rfl rfl rfl hl.1 (Nat.le_of_ble_eq_true rfl) dX6_weight_38) (fun H locs hS => ?_)
    exact retIw (wf := cw q d) C hS hm dX6_weight_41
  unfold M_X6_weight at hm
  refine lv_aload_n hx hb dX6_weight_0 rfl (lv_at hl 0 rfl) ?_
  refine g_6_33_0 C hS dX6_weight_1 ?_
  refine lv_iload_n hx hb dX6_weight_4 rfl (lv_at hl 1 rfl) ?_
  obtain ⟨o5, e5, hm⟩ := ob hm
  refine after_i C hS (call_V (As := [.int a1]) C hS (c_X5_isSet l d q σ a1 o5 e5 _) iv_6_197 ⟨rfl, rfl, Nat.le_of_ble_eq_true rfl, Nat.le_of_ble_eq_true rfl⟩ cw_o22 rfl rfl rfl hl.1 (Nat.le_of_ble_eq_true rfl) dX6_weight_5) (fun H locs hS => ?_)
  refine lv_if_ne (tgt := 13) hx hb dX6_weight_8 (by decide) (fun c8 => ?_) (fun c8 => ?_)
  · replace hm := ie c8 hm
    refine lv_aload_n hx hb dX6_weight_13 rfl (lv_at hl 0 rfl) ?_
    refine lv_aload_n hx hb dX6_weight_14 rfl (lv_at hl 0 rfl) ?_
    refine g_6_33_0 C hS dX6_weight_15 ?_
    refine lv_iload_n hx hb dX6_weight_18 rfl (lv_at hl 1 rfl) ?_
    obtain ⟨o19, e19, hm⟩ := ob hm
    refine after_i C hS (call_V (As := [.int a1]) C hS (c_X5_isOpenTo l d q σ a1 o19 e19 _) iv_6_165 ⟨rfl, rfl, Nat.le_of_ble_eq_true rfl, Nat.le_of_ble_eq_true rfl⟩ cw_o22 rfl rfl rfl hl.1 (Nat.le_of_ble_eq_true rfl) dX6_weight_19) (fun H locs hS => ?_)
    refine lv_if_eq (tgt := 29) hx hb dX6_weight_22 (by decide) (fun c22 => ?_) (fun c22 => ?_)
    · replace hm := it c22 hm
      refine lv_iconst (v := 0) hx hb dX6_weight_29 (by decide) ?_
      exact J30 σ a1 0 _ _ _ hS (lv_sub hl [0, 1] rfl) hm
    · replace hm := ie c22 hm
      refine lv_iconst (v := 1) hx hb dX6_weight_25 (by decide) ?_
      refine lv_goto (tgt := 30) hx hb dX6_weight_26 (by decide) ?_
      exact J30 σ a1 1 _ _ _ hS (lv_sub hl [0, 1] rfl) hm
  · replace hm := it c8 hm
    refine lv_iconst (v := (-1)) hx hb dX6_weight_11 (by decide) ?_
    exact retIw (wf := cw q d) C hS hm dX6_weight_12
