theorem law_lt {i L : Nat} (h : L < i + 6) (hi : i < 1000) (hL : L < 1000) : Int32.ofNat L - 6 < nI i := by
  rw [Int32.lt_iff_toInt_lt]
  have h1 : (nI i).toInt = (i : Int) := nI_toInt (by omega)
  have h2 : (Int32.ofNat L - 6).toInt = (L : Int) - 6 := pk_sub_toInt (a := L) (b := 6) (by omega) (by omega)
  rw [h1, h2]
  omega
def PureAll (Rel : ST → ST → Prop) : Prop := P_row Rel ∧ P_lay Rel ∧ P_at Rel ∧ P_tear Rel ∧ P_copy Rel ∧ P_mean Rel ∧ P_text Rel ∧ P_put Rel ∧ P_fault Rel ∧ P_well Rel ∧ P_house Rel ∧ P_mark Rel ∧ P_meet Rel ∧ P_pledge Rel ∧ P_day Rel ∧ P_undo Rel ∧ P_keep Rel ∧ P_on Rel ∧ P_weight Rel ∧ P_opens Rel ∧ P_must Rel ∧ P_holds Rel ∧ P_part Rel ∧ P_drink Rel ∧ P_best Rel ∧ P_ration Rel ∧ P_frogs Rel ∧ P_twice Rel ∧ P_quorum Rel ∧ P_call Rel ∧ P_first Rel ∧ P_odds Rel ∧ P_mid Rel ∧ P_lots Rel ∧ P_asked Rel ∧ P_upper Rel ∧ P_lower Rel ∧ P_count Rel ∧ P_finding Rel ∧ P_findings Rel ∧ P_digest Rel
set_option maxRecDepth 100000 in
set_option maxHeartbeats 4000000 in
theorem law_loop {Rel : ST → ST → Prop} (hPu : PureAll Rel) {p : Program} {l : Launch} {e : Env} {s : State} {m : MethodId} {below : List Frame} {meth : Method} {c : Code} {b L : Nat} {xs : Nat → Int32} {d : CD} (C : CX p s m #[Value.ref b] meth c RL code 4 ret d (fun q => s.heap.size ≤ q)) (hX : va_X b L xs s s.heap) (hbl : b < s.heap.size) (hL : L ≤ 384) :
    ∀ (n i : Nat) (q q' : Nat → Nat) (σ τ : ST) (H : Heap) (locs : List Loc) (ls : Array Slot), L + 1 ≤ i + n → i ≤ 400 → Rel σ τ → HS2 d (fun q => s.heap.size ≤ q) s.heap H locs (cw q d σ) (mw q' d τ) → lv_has ls 4 [(0, .ref b), (1, .ref (q 0)), (2, .ref (q' 0)), (3, .int (nI i))] → W p l e room_1 s m #[Value.ref b] below meth c H locs 600000 7302250 (lw_Z below #[Value.ref b] s) (F0 m 18 ls []) := by
  obtain ⟨u0, u1, u2, u3, u4, u5, u6, u7, u8, u9, u10, u11, u12, u13, u14, u15, u16, u17, u18, u19, u20, u21, u22, u23, u24, u25, u26, u27, u28, u29, u30, u31, u32, u33, u34, u35, u36, u37, u38, u39, u40⟩ := hPu
  obtain ⟨hx, hb, hml, hown, hts, hE, hr, hlocks, hA, hC⟩ := id C
  have hbA : ¬ (fun q => s.heap.size ≤ q) b := Nat.not_le.mpr hbl
  have hend : ∀ {H : Heap} {locs : List Loc} {ls : Array Slot} {w1 w2 : va_W}, HS2 d (fun q => s.heap.size ≤ q) s.heap H locs w1 w2 → W p l e room_1 s m #[Value.ref b] below meth c H locs 600000 7302250 (lw_Z below #[Value.ref b] s) (F0 m 1214 ls []) := by
    intro H locs ls w1 w2 h2
    refine lv_iconst (v := 1) hx hb dL_law_1214 (by decide) ?_
    refine va_forget (fun q hq => h2.2.2.2.2.2.2.2 q hq) ?_
    exact lw_ret hx hb hr hlocks dL_law_1215
  intro n
  induction n with
  | zero =>
    intro i q q' σ τ H locs ls h1 hi hR h2 hl
    refine lv_iload_n hx hb dL_law_18 rfl (lv_at hl 3 rfl) ?_
    refine lv_aload_n hx hb dL_law_19 rfl (lv_at hl 0 rfl) ?_
    refine va_slen hx hb hX hbl hbA h2.2.2.2.2.2 dL_law_20 ?_
    refine lv_bipush (v := 6) hx hb dL_law_21 (by decide) ?_
    refine lv_isub hx hb dL_law_23 ?_
    refine lv_icmp_gt (tgt := 1214) hx hb dL_law_24 (by decide) (fun _ => hend h2) (fun h => absurd ?_ h)
    exact law_lt (by omega) (by omega) (by omega)
  | succ n ih =>
    intro i q q' σ τ H locs ls h1 hi hR h2 hl
    refine lv_iload_n hx hb dL_law_18 rfl (lv_at hl 3 rfl) ?_
    refine lv_aload_n hx hb dL_law_19 rfl (lv_at hl 0 rfl) ?_
    refine va_slen hx hb hX hbl hbA h2.2.2.2.2.2 dL_law_20 ?_
    refine lv_bipush (v := 6) hx hb dL_law_21 (by decide) ?_
    refine lv_isub hx hb dL_law_23 ?_
    refine lv_icmp_gt (tgt := 1214) hx hb dL_law_24 (by decide) (fun _ => hend h2) (fun h => ?_)
    have hi6 : i + 6 ≤ L := Nat.not_lt.mp (fun q => h (law_lt q (by omega) (by omega)))
    have hv0 : vp_in (nI i) L := vp_in_nI (by omega) (by omega)
    refine lv_aload_n hx hb dL_law_27 rfl (lv_at hl 0 rfl) ?_
    refine lv_iload_n hx hb dL_law_28 rfl (lv_at hl 3 rfl) ?_
    refine va_sld hx hb hX hbl hbA h2.2.2.2.2.2 hv0 dL_law_29 ?_
    refine lv_bipush (v := 63) hx hb dL_law_30 (by decide) ?_
    refine lv_iand hx hb dL_law_32 ?_
    have ih6 : ∀ (q q' : Nat → Nat) (σ τ : ST) (H : Heap) (locs : List Loc) (ls : Array Slot), Rel σ τ → HS2 d (fun q => s.heap.size ≤ q) s.heap H locs (cw q d σ) (mw q' d τ) → lv_has ls 4 [(0, .ref b), (1, .ref (q 0)), (2, .ref (q' 0)), (3, .int (nI (i + 6)))] → W p l e room_1 s m #[Value.ref b] below meth c H locs 600000 7302250 (lw_Z below #[Value.ref b] s) (F0 m 18 ls []) := fun q q' σ τ H locs ls => ih (i + 6) q q' σ τ H locs ls (by omega) (by omega)
    by_cases c0 : xs (nI i).toNatClampNeg &&& 63 = 0
    · exact law_row u0 C hX hbl hL hi6 hR h2 hl c0 ih6
    by_cases c1 : xs (nI i).toNatClampNeg &&& 63 = 1
    · exact law_lay u1 C hX hbl hL hi6 hR h2 hl c1 ih6
    by_cases c2 : xs (nI i).toNatClampNeg &&& 63 = 2
    · exact law_at u2 C hX hbl hL hi6 hR h2 hl c2 ih6
    by_cases c3 : xs (nI i).toNatClampNeg &&& 63 = 3
    · exact law_tear u3 C hX hbl hL hi6 hR h2 hl c3 ih6
    by_cases c4 : xs (nI i).toNatClampNeg &&& 63 = 4
    · exact law_copy u4 C hX hbl hL hi6 hR h2 hl c4 ih6
    by_cases c5 : xs (nI i).toNatClampNeg &&& 63 = 5
    · exact law_mean u5 C hX hbl hL hi6 hR h2 hl c5 ih6
    by_cases c6 : xs (nI i).toNatClampNeg &&& 63 = 6
    · exact law_text u6 C hX hbl hL hi6 hR h2 hl c6 ih6
    by_cases c7 : xs (nI i).toNatClampNeg &&& 63 = 7
    · exact law_put u7 C hX hbl hL hi6 hR h2 hl c7 ih6
    by_cases c8 : xs (nI i).toNatClampNeg &&& 63 = 8
    · exact law_fault u8 C hX hbl hL hi6 hR h2 hl c8 ih6
    by_cases c9 : xs (nI i).toNatClampNeg &&& 63 = 9
    · exact law_well u9 C hX hbl hL hi6 hR h2 hl c9 ih6
    by_cases c10 : xs (nI i).toNatClampNeg &&& 63 = 10
    · exact law_house u10 C hX hbl hL hi6 hR h2 hl c10 ih6
    by_cases c11 : xs (nI i).toNatClampNeg &&& 63 = 11
    · exact law_mark u11 C hX hbl hL hi6 hR h2 hl c11 ih6
    by_cases c12 : xs (nI i).toNatClampNeg &&& 63 = 12
    · exact law_meet u12 C hX hbl hL hi6 hR h2 hl c12 ih6
    by_cases c13 : xs (nI i).toNatClampNeg &&& 63 = 13
    · exact law_pledge u13 C hX hbl hL hi6 hR h2 hl c13 ih6
    by_cases c14 : xs (nI i).toNatClampNeg &&& 63 = 14
    · exact law_day u14 C hX hbl hL hi6 hR h2 hl c14 ih6
    by_cases c15 : xs (nI i).toNatClampNeg &&& 63 = 15
    · exact law_undo u15 C hX hbl hL hi6 hR h2 hl c15 ih6
    by_cases c16 : xs (nI i).toNatClampNeg &&& 63 = 16
    · exact law_keep u16 C hX hbl hL hi6 hR h2 hl c16 ih6
    by_cases c17 : xs (nI i).toNatClampNeg &&& 63 = 17
    · exact law_on u17 C hX hbl hL hi6 hR h2 hl c17 ih6
    by_cases c18 : xs (nI i).toNatClampNeg &&& 63 = 18
    · exact law_weight u18 C hX hbl hL hi6 hR h2 hl c18 ih6
    by_cases c19 : xs (nI i).toNatClampNeg &&& 63 = 19
    · exact law_opens u19 C hX hbl hL hi6 hR h2 hl c19 ih6
    by_cases c20 : xs (nI i).toNatClampNeg &&& 63 = 20
    · exact law_must u20 C hX hbl hL hi6 hR h2 hl c20 ih6
    by_cases c21 : xs (nI i).toNatClampNeg &&& 63 = 21
    · exact law_holds u21 C hX hbl hL hi6 hR h2 hl c21 ih6
    by_cases c22 : xs (nI i).toNatClampNeg &&& 63 = 22
    · exact law_part u22 C hX hbl hL hi6 hR h2 hl c22 ih6
    by_cases c23 : xs (nI i).toNatClampNeg &&& 63 = 23
    · exact law_drink u23 C hX hbl hL hi6 hR h2 hl c23 ih6
    by_cases c24 : xs (nI i).toNatClampNeg &&& 63 = 24
    · exact law_best u24 C hX hbl hL hi6 hR h2 hl c24 ih6
    by_cases c25 : xs (nI i).toNatClampNeg &&& 63 = 25
    · exact law_ration u25 C hX hbl hL hi6 hR h2 hl c25 ih6
    by_cases c26 : xs (nI i).toNatClampNeg &&& 63 = 26
    · exact law_frogs u26 C hX hbl hL hi6 hR h2 hl c26 ih6
    by_cases c27 : xs (nI i).toNatClampNeg &&& 63 = 27
    · exact law_twice u27 C hX hbl hL hi6 hR h2 hl c27 ih6
    by_cases c28 : xs (nI i).toNatClampNeg &&& 63 = 28
    · exact law_quorum u28 C hX hbl hL hi6 hR h2 hl c28 ih6
    by_cases c29 : xs (nI i).toNatClampNeg &&& 63 = 29
    · exact law_call u29 C hX hbl hL hi6 hR h2 hl c29 ih6
    by_cases c30 : xs (nI i).toNatClampNeg &&& 63 = 30
    · exact law_first u30 C hX hbl hL hi6 hR h2 hl c30 ih6
    by_cases c31 : xs (nI i).toNatClampNeg &&& 63 = 31
    · exact law_odds u31 C hX hbl hL hi6 hR h2 hl c31 ih6
    by_cases c32 : xs (nI i).toNatClampNeg &&& 63 = 32
    · exact law_mid u32 C hX hbl hL hi6 hR h2 hl c32 ih6
    by_cases c33 : xs (nI i).toNatClampNeg &&& 63 = 33
    · exact law_lots u33 C hX hbl hL hi6 hR h2 hl c33 ih6
    by_cases c34 : xs (nI i).toNatClampNeg &&& 63 = 34
    · exact law_asked u34 C hX hbl hL hi6 hR h2 hl c34 ih6
    by_cases c35 : xs (nI i).toNatClampNeg &&& 63 = 35
    · exact law_upper u35 C hX hbl hL hi6 hR h2 hl c35 ih6
    by_cases c36 : xs (nI i).toNatClampNeg &&& 63 = 36
    · exact law_lower u36 C hX hbl hL hi6 hR h2 hl c36 ih6
    by_cases c37 : xs (nI i).toNatClampNeg &&& 63 = 37
    · exact law_count u37 C hX hbl hL hi6 hR h2 hl c37 ih6
    by_cases c38 : xs (nI i).toNatClampNeg &&& 63 = 38
    · exact law_finding u38 C hX hbl hL hi6 hR h2 hl c38 ih6
    by_cases c39 : xs (nI i).toNatClampNeg &&& 63 = 39
    · exact law_findings u39 C hX hbl hL hi6 hR h2 hl c39 ih6
    by_cases c40 : xs (nI i).toNatClampNeg &&& 63 = 40
    · exact law_digest u40 C hX hbl hL hi6 hR h2 hl c40 ih6
    refine lv_tableOut (tgt := 1208) hx hb dL_law_33 (by have h0 : (xs (nI i).toNatClampNeg &&& 63).toInt ≠ 0 := ts_ne c0; have h1 : (xs (nI i).toNatClampNeg &&& 63).toInt ≠ 1 := ts_ne c1; have h2 : (xs (nI i).toNatClampNeg &&& 63).toInt ≠ 2 := ts_ne c2; have h3 : (xs (nI i).toNatClampNeg &&& 63).toInt ≠ 3 := ts_ne c3; have h4 : (xs (nI i).toNatClampNeg &&& 63).toInt ≠ 4 := ts_ne c4; have h5 : (xs (nI i).toNatClampNeg &&& 63).toInt ≠ 5 := ts_ne c5; have h6 : (xs (nI i).toNatClampNeg &&& 63).toInt ≠ 6 := ts_ne c6; have h7 : (xs (nI i).toNatClampNeg &&& 63).toInt ≠ 7 := ts_ne c7; have h8 : (xs (nI i).toNatClampNeg &&& 63).toInt ≠ 8 := ts_ne c8; have h9 : (xs (nI i).toNatClampNeg &&& 63).toInt ≠ 9 := ts_ne c9; have h10 : (xs (nI i).toNatClampNeg &&& 63).toInt ≠ 10 := ts_ne c10; have h11 : (xs (nI i).toNatClampNeg &&& 63).toInt ≠ 11 := ts_ne c11; have h12 : (xs (nI i).toNatClampNeg &&& 63).toInt ≠ 12 := ts_ne c12; have h13 : (xs (nI i).toNatClampNeg &&& 63).toInt ≠ 13 := ts_ne c13; have h14 : (xs (nI i).toNatClampNeg &&& 63).toInt ≠ 14 := ts_ne c14; have h15 : (xs (nI i).toNatClampNeg &&& 63).toInt ≠ 15 := ts_ne c15; have h16 : (xs (nI i).toNatClampNeg &&& 63).toInt ≠ 16 := ts_ne c16; have h17 : (xs (nI i).toNatClampNeg &&& 63).toInt ≠ 17 := ts_ne c17; have h18 : (xs (nI i).toNatClampNeg &&& 63).toInt ≠ 18 := ts_ne c18; have h19 : (xs (nI i).toNatClampNeg &&& 63).toInt ≠ 19 := ts_ne c19; have h20 : (xs (nI i).toNatClampNeg &&& 63).toInt ≠ 20 := ts_ne c20; have h21 : (xs (nI i).toNatClampNeg &&& 63).toInt ≠ 21 := ts_ne c21; have h22 : (xs (nI i).toNatClampNeg &&& 63).toInt ≠ 22 := ts_ne c22; have h23 : (xs (nI i).toNatClampNeg &&& 63).toInt ≠ 23 := ts_ne c23; have h24 : (xs (nI i).toNatClampNeg &&& 63).toInt ≠ 24 := ts_ne c24; have h25 : (xs (nI i).toNatClampNeg &&& 63).toInt ≠ 25 := ts_ne c25; have h26 : (xs (nI i).toNatClampNeg &&& 63).toInt ≠ 26 := ts_ne c26; have h27 : (xs (nI i).toNatClampNeg &&& 63).toInt ≠ 27 := ts_ne c27; have h28 : (xs (nI i).toNatClampNeg &&& 63).toInt ≠ 28 := ts_ne c28; have h29 : (xs (nI i).toNatClampNeg &&& 63).toInt ≠ 29 := ts_ne c29; have h30 : (xs (nI i).toNatClampNeg &&& 63).toInt ≠ 30 := ts_ne c30; have h31 : (xs (nI i).toNatClampNeg &&& 63).toInt ≠ 31 := ts_ne c31; have h32 : (xs (nI i).toNatClampNeg &&& 63).toInt ≠ 32 := ts_ne c32; have h33 : (xs (nI i).toNatClampNeg &&& 63).toInt ≠ 33 := ts_ne c33; have h34 : (xs (nI i).toNatClampNeg &&& 63).toInt ≠ 34 := ts_ne c34; have h35 : (xs (nI i).toNatClampNeg &&& 63).toInt ≠ 35 := ts_ne c35; have h36 : (xs (nI i).toNatClampNeg &&& 63).toInt ≠ 36 := ts_ne c36; have h37 : (xs (nI i).toNatClampNeg &&& 63).toInt ≠ 37 := ts_ne c37; have h38 : (xs (nI i).toNatClampNeg &&& 63).toInt ≠ 38 := ts_ne c38; have h39 : (xs (nI i).toNatClampNeg &&& 63).toInt ≠ 39 := ts_ne c39; have h40 : (xs (nI i).toNatClampNeg &&& 63).toInt ≠ 40 := ts_ne c40; omega) (by decide) ?_
    refine lv_iinc (v := nI i + 6) (lv' := [(3, .int (nI i + 6)), (0, .ref b), (1, .ref (q 0)), (2, .ref (q' 0))]) hx hb dL_law_1208 hl (k := 3) rfl rfl (by decide) rfl (fun ls hl => ?_)
    refine lv_goto (tgt := 18) hx hb dL_law_1211 (by decide) ?_
    rw [show nI i + 6 = nI (i + 6) from nI_add i 6] at hl
    exact ih6 q q' σ τ _ _ _ hR h2 (lv_sub hl [1, 2, 3, 0] rfl)
