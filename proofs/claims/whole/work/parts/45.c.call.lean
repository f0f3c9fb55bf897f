/- by turns: call, first -/
theorem lw_step {V : VT} {τ : ST} (ok : okV V) (hm : VM V τ) {st : Nat} {F : Nat → Int32} (fu : Nat) (hs : st < 3 ^ V 0 0) (hF : ∀ k, st < k → k < 3 ^ V 0 0 → F k = b01 (Wv (opn V) (V 0 0) k)) : M_X7_layWins_10 (fu + 1) (setA τ 14 F) (nI st) = M_X7_layWins_10 fu (setA τ 14 (upd F st (b01 (Wv (opn V) (V 0 0) st)))) (nI st + (-1)) := by
  have h7 := ok.1
  have h3 := p3_le (V 0 0) (by omega)
  have hm1 : VM V (setA τ 14 F) := hm.cg (same.rf.sA (by decide))
  have ht := tn_le st (V 0 0)
  have hcl := cl_lt st (V 0 0)
  have h2 := p2h ok
  rw [M_X7_layWins_10, if_neg (nI_pos (by omega)), show M_X7_layWins_21 (M_X7_layWins_10 fu) 10000 (setA τ 14 F) (nI st) 0 0 0 = _ from lw_21 h7 hm1.1 (M_X7_layWins_10 fu) (by omega) (V 0 0) 10000 0 (by omega) (by omega)]
  have ex := fun b => lw_ex h7 hm.1 (opn V) (M_X7_layWins_10 fu) hs hF (V 0 0) 10000 0 b (by omega) (by omega)
  have al := fun b => lw_al h7 hm.1 (opn V) (M_X7_layWins_10 fu) hs hF (V 0 0) 10000 0 b (by omega) (by omega)
  unfold M_X7_layWins_88
  rw [hm1.1, Wv_eq (opn V) h7]
  cases hv : evn (tnS st (V 0 0)) with
  | true =>
    rw [if_pos rfl]
    by_cases q : tnS st (V 0 0) = V 0 0
    · rw [if_pos (congrArg nI q), if_pos q, open_m ok hm1 (by omega), Option.bind_some]
      exact ex _
    · rw [if_neg (fun z => q ((nI_eq (by omega) (by omega)).mp z)), if_neg q, if_neg (by decide)]
      exact ex false
  | false =>
    rw [if_neg Bool.false_ne_true]
    by_cases q : tnS st (V 0 0) = V 0 0
    · rw [if_pos (congrArg nI q), if_pos q, open_m ok hm1 (by omega), Option.bind_some]
      exact al _
    · rw [if_neg (fun z => q ((nI_eq (by omega) (by omega)).mp z)), if_neg q, if_pos bf0]
      exact al true
theorem lw_10 {V : VT} {τ : ST} (ok : okV V) (hm : VM V τ) : ∀ (st fu : Nat) (F : Nat → Int32), st < 3 ^ V 0 0 → st + 1 < fu → (∀ k, st < k → k < 3 ^ V 0 0 → F k = b01 (Wv (opn V) (V 0 0) k)) → ∃ F', M_X7_layWins_10 fu (setA τ 14 F) (nI st) = some (setA τ 14 F') ∧ ∀ k, k < 3 ^ V 0 0 → F' k = b01 (Wv (opn V) (V 0 0) k)
  | 0, fu + 2, F, hs, _, hF => by
    refine ⟨upd F 0 (b01 (Wv (opn V) (V 0 0) 0)), ?_, fun k hk => ?_⟩
    · rw [lw_step ok hm (fu + 1) hs hF, M_X7_layWins_10, if_pos (by decide)]
    · by_cases e : k = 0
      · subst e; exact pk_us
      · rw [pk_un e]; exact hF k (by omega) hk
  | st + 1, fu + 1, F, hs, hf, hF => by
    obtain ⟨F', u1, u2⟩ := lw_10 ok hm st fu (upd F (st + 1) (b01 (Wv (opn V) (V 0 0) (st + 1)))) (by omega) (by omega) (fun k h1 h2 => by
      by_cases e : k = st + 1
      · subst e; exact pk_us
      · rw [pk_un e]; exact hF k (by omega) h2)
    exact ⟨F', by rw [lw_step ok hm fu hs hF, pk_m1]; exact u1, u2⟩
theorem layWins_m {V : VT} {τ : ST} (ok : okV V) (hm : VM V τ) : ∃ F', M_X7_layWins τ = some (setA τ 14 F') ∧ ∀ k, k < 3 ^ V 0 0 → F' k = b01 (Wv (opn V) (V 0 0) k) := by
  have h7 := ok.1
  have h3 := p3_le (V 0 0) (by omega)
  obtain ⟨F', u1, u2⟩ := lw_10 ok hm (3 ^ V 0 0 - 1) 10000 (τ.2.2 14) (by omega) (by omega) (fun k h1 h2 => by omega)
  refine ⟨F', ?_, u2⟩
  unfold M_X7_layWins
  rw [hm.1, pw3 _ (by omega), Option.bind_some, show (1 : Int32) = nI 1 from rfl, pk_sub h3.1]
  rw [setA_self] at u1
  exact u1
theorem RelG.ws {Wl : ST → ST → Prop} (hC : Cg Wl) {σ τ : ST} {F : Nat → Int32} (h : RelG Wl σ τ) : RelG Wl σ (setA τ 14 F) := ⟨h.1.cg same.rf (same.rf.sA (by decide)), h.2.1.cg same.rf (same.rf.sA (by decide)), h.2.2.1.cg same.rf (same.rf.sA (by decide)), h.2.2.2.1.cg same.rf (same.rf.sA (by decide)), h.2.2.2.2.1.cg same.rf (same.rf.sA (by decide)), hC _ _ _ _ h.2.2.2.2.2 same.rf (same.rf.sA (by decide))⟩
theorem dg_0 (i : Nat) : dg 0 i = 0 := by unfold dg; rw [Nat.zero_div]
theorem cl_0 : ∀ m, clS 0 m = 0
  | 0 => rfl
  | m + 1 => by rw [clS, dg_0, if_neg (by decide), cl_0 m]
theorem tn_0 : ∀ m, tnS 0 m = 0
  | 0 => rfl
  | m + 1 => by rw [tnS, dg_0, if_pos rfl, tn_0 m]
theorem lf_0 (h : Nat) : lfS 0 h = 2 ^ h - 1 := by
  apply Nat.eq_of_testBit_eq
  intro j
  rw [lf_bit, dg_0, Nat.testBit_two_pow_sub_one, decide_eq_true rfl, Bool.and_true]
/- what calling house i first is worth -/
def fcF (V : VT) (i : Nat) : Bool := gv (opn V) (V 0 0) (2 ^ i) (wo (2 ^ V 0 0 - 1) i) false
theorem Wv_1 {V : VT} (h7 : V 0 0 ≤ 7) {i : Nat} (hi : i < V 0 0) : Wv (opn V) (V 0 0) (3 ^ i) = fcF V i := by
  have e : 3 ^ i = 0 + 1 * 3 ^ i := by omega
  unfold Wv fcF
  rw [e, cl_add1 (dg_0 i) hi, lf_add (dg_0 i) (by decide) (by decide) hi h7, tn_add (dg_0 i) (by decide) (by decide), if_pos hi, cl_0, lf_0, tn_0, Nat.zero_or]
  rfl
theorem Wv_0 {V : VT} (h7 : V 0 0 ≤ 7) (h0 : 0 < V 0 0) : Wv (opn V) (V 0 0) 0 = exR (fcF V) 0 (V 0 0) := by
  rw [Wv_eq (opn V) h7, tn_0, if_pos (by decide), if_neg (by omega), Bool.false_or]
  refine exR_cg (V 0 0) 0 (fun i _ hi => ?_)
  rw [dg_0, decide_eq_true rfl, Bool.true_and, Nat.zero_add, Nat.one_mul, Wv_1 h7 (by omega)]
theorem full_wo : ∀ h, h < 8 → ∀ i, i < h → 2 ^ i < 2 ^ h ∧ wo (2 ^ h - 1) i < 2 ^ h := by decide +kernel
theorem wc_l {V : VT} {σ τ : ST} (ok : okV V) (hc : VC V σ) (hk : LKp (opn V) (2 ^ V 0 0) σ) (hm : τ.1 3 = nI (V 0 0)) (hF : ∀ k, k < 3 ^ V 0 0 → τ.2.2 14 k = b01 (Wv (opn V) (V 0 0) k)) : ∀ (m fu i : Nat), i + m = V 0 0 → m < fu → ∃ r, M_X4_winningCall_2 σ fu (nI i) = some r ∧ M_X7_first_16 fu τ (nI i) = some (r, τ) ∧ ((exR (fcF V) i m = false ∧ r = -9) ∨ (exR (fcF V) i m = true ∧ ¬ r = -9))
  | 0, fu + 1, i, hi, _ => by
    have h7 := ok.1
    refine ⟨-9, ?_, ?_, Or.inl ⟨rfl, rfl⟩⟩
    · rw [M_X4_winningCall_2, houses_c hc, Option.bind_some, if_pos (nI_le (by omega) (by omega))]
    · rw [M_X7_first_16, hm, if_pos (nI_le (by omega) (by omega))]
  | m + 1, fu + 1, i, hi, hf => by
    have h7 := ok.1
    have h2 := p2h ok
    have h3 := p3_le (V 0 0) (by omega)
    have hlt : i < V 0 0 := by omega
    have h3i : 3 ^ i < 3 ^ V 0 0 := Nat.pow_lt_pow_right (by decide) hlt
    have hw := full_wo (V 0 0) (by omega) i hlt
    obtain ⟨r, u1, u2, u3⟩ := wc_l ok hc hk hm hF m fu (i + 1) (by omega) (by omega)
    have ec : M_X4_winningCall_2 σ (fu + 1) (nI i) = if b01 (fcF V i) = 0 then M_X4_winningCall_2 σ fu (nI (i + 1)) else some (nI i) := by
      rw [M_X4_winningCall_2, houses_c hc, Option.bind_some, if_neg (nI_ge hlt (by omega)), hk.2.1, show nI (2 ^ V 0 0) - 1 = nI (2 ^ V 0 0 - 1) from pk_sub (b := 1) (p2p ok), clr (by omega) (by omega), shl1 (by omega), show M_X4_callerWins σ 10 (nI (2 ^ i)) (nI (wo (2 ^ V 0 0 - 1) i)) 0 = _ from cw_c ok hc hk 9 (2 ^ i) (wo (2 ^ V 0 0 - 1) i) false hw.1 hw.2 (by have := pc7_le (wo (2 ^ V 0 0 - 1) i); omega), Option.bind_some, nI_1]
      rfl
    have em : M_X7_first_16 (fu + 1) τ (nI i) = if b01 (fcF V i) = 0 then M_X7_first_16 fu τ (nI (i + 1)) else some (nI i, τ) := by
      rw [M_X7_first_16, hm, if_neg (nI_ge hlt (by omega)), pw3 i (by omega), Option.bind_some, rd_n _ (by omega) (by decide), Option.bind_some, hF _ h3i, Wv_1 h7 hlt, nI_1]
    rw [ec, em, exR]
    cases hb : fcF V i with
    | false => exact ⟨r, by rw [if_pos bf0]; exact u1, by rw [if_pos bf0]; exact u2, by rw [Bool.false_or]; exact u3⟩
    | true => exact ⟨nI i, if_neg (by decide), if_neg (by decide), Or.inr ⟨rfl, m9_ne (by omega)⟩⟩
theorem turns_cm {Wl : ST → ST → Prop} (hC : Cg Wl) {V : VT} {σ τ : ST} (ok : okV V) (hc : VC V σ) (hm : VM V τ) (hR : RelG Wl σ τ) (h0 : 0 < V 0 0) : ∃ r τ', M_X4_winningCall (lkS V σ) = some r ∧ M_X7_layWins τ = some τ' ∧ M_X7_first_16 10000 τ' 0 = some (r, τ') ∧ rd 2187 (τ'.2.2 14) 0 = some (if r = -9 then 0 else 1) ∧ RelG Wl (lkS V σ) τ' := by
  have h7 := ok.1
  have h3 := p3_le (V 0 0) (by omega)
  obtain ⟨F', u1, u2⟩ := layWins_m ok hm
  obtain ⟨r, v1, v2, v3⟩ := wc_l ok (lk_ok hc).1 (lk_p ok hc) (τ := setA τ 14 F') hm.1 (fun k hk => by rw [sA_at]; exact u2 k hk) (V 0 0) 10000 0 (by omega) (by omega)
  refine ⟨r, setA τ 14 F', v1, u1, v2, ?_, (hR.lk (V := V) hC).ws hC⟩
  rw [sA_at, show rd 2187 F' 0 = some (F' 0) from rd_n (j := 0) _ (by decide) (by decide), u2 0 (by omega), Wv_0 h7 h0]
  rcases v3 with ⟨e, w⟩ | ⟨e, w⟩
  · rw [e, if_pos w]; rfl
  · rw [e, if_neg w]; rfl
theorem pure_call {Wl : ST → ST → Prop} (hC : Cg Wl) (hV : Vws Wl) : P_call (RelG Wl) := by
  intro σ τ hR
  obtain ⟨V, ok, hc, hm⟩ := hV σ τ hR.2.2.2.2.2
  have o1 := ok.1
  by_cases q : V 0 0 = 0
  · refine ⟨-4, σ, τ, ?_, ?_, hR⟩
    · unfold M_X6_call; rw [houses_c hc, Option.bind_some, q, if_pos n00]
    · unfold M_X7_call; rw [hm.1, q, if_pos n00]
  · obtain ⟨r, τ', u1, u2, u3, u4, u5⟩ := turns_cm hC ok hc hm hR (by omega)
    have ec : M_X6_call σ = if r = -9 then some (0, lkS V σ) else some (1, lkS V σ) := by
      unfold M_X6_call; rw [houses_c hc, Option.bind_some, if_neg (nI_ne0 (by omega) (by omega)), look_c ok hc, Option.bind_some, u1, Option.bind_some]
    have em : M_X7_call τ = if (if r = -9 then (0 : Int32) else 1) = 0 then some (0, τ') else some (1, τ') := by
      unfold M_X7_call; rw [hm.1, if_neg (nI_ne0 (by omega) (by omega)), u2, Option.bind_some, u4, Option.bind_some]
    by_cases w : r = -9
    · exact ⟨0, lkS V σ, τ', by rw [ec, if_pos w], by rw [em, if_pos w, if_pos rfl], u5⟩
    · exact ⟨1, lkS V σ, τ', by rw [ec, if_neg w], by rw [em, if_neg w, if_neg n10], u5⟩
theorem pure_first {Wl : ST → ST → Prop} (hC : Cg Wl) (hV : Vws Wl) : P_first (RelG Wl) := by
  intro σ τ hR
  obtain ⟨V, ok, hc, hm⟩ := hV σ τ hR.2.2.2.2.2
  have o1 := ok.1
  by_cases q : V 0 0 = 0
  · refine ⟨-4, σ, τ, ?_, ?_, hR⟩
    · unfold M_X6_first; rw [houses_c hc, Option.bind_some, q, if_pos n00]
    · unfold M_X7_first; rw [hm.1, q, if_pos n00]
  · obtain ⟨r, τ', u1, u2, u3, u4, u5⟩ := turns_cm hC ok hc hm hR (by omega)
    refine ⟨r, lkS V σ, τ', ?_, ?_, u5⟩
    · unfold M_X6_first; rw [houses_c hc, Option.bind_some, if_neg (nI_ne0 (by omega) (by omega)), look_c ok hc, Option.bind_some, u1, Option.bind_some]
    · unfold M_X7_first; rw [hm.1, if_neg (nI_ne0 (by omega) (by omega)), u2, Option.bind_some, u3]
