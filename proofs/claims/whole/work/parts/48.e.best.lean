/- best, both sides -/
theorem b_33 {V : VT} (ok : okV V) {s j : Nat} (hs : s < 2 ^ V 0 0) : ∀ (m fu i : Nat) (τ : ST) (a : Nat → Int32), τ.1 3 = nI (V 0 0) → i + m = V 0 0 → m < fu → arL a (ris s 0 i) → (ris s 0 i).length ≤ i → ∃ a', M_X7_best_33 fu (setA τ 13 a) (nI s) (nI j) (nI (ris s 0 i).length) (nI i) = M_X7_best_74 10000 (setA τ 13 a') (nI j) (nI (ris s 0 (V 0 0)).length) (-1) 1 ∧ arL a' (ris s 0 (V 0 0))
  | 0, fu + 1, i, τ, a, h3, hi, _, ha, hl => by
    have o1 := ok.1
    have e3 : (setA τ 13 a).1 3 = nI (V 0 0) := h3
    obtain rfl : i = V 0 0 := by omega
    exact ⟨a, by rw [M_X7_best_33, e3, if_pos (nI_le (Nat.le_refl _) (by omega))], ha⟩
  | m + 1, fu + 1, i, τ, a, h3, hi, hf, ha, hl => by
    have o1 := ok.1
    have h2 := p2h ok
    have e3 : (setA τ 13 a).1 3 = nI (V 0 0) := h3
    have er := ris_s s i 0
    rw [Nat.zero_add] at er
    cases hb : s.testBit i with
    | false =>
      rw [hb] at er
      have er : ris s 0 (i + 1) = ris s 0 i := er.trans (List.append_nil _)
      obtain ⟨a', u1, u2⟩ := b_33 ok (j := j) hs m fu (i + 1) τ a h3 (by omega) (by omega) (by rw [er]; exact ha) (by rw [er]; omega)
      refine ⟨a', ?_, u2⟩
      rw [M_X7_best_33, e3, if_neg (nI_ge (by omega) (by omega)), has_m (by omega) (by omega), hb, Option.bind_some, if_pos bf0, nI_1]
      rw [er] at u1
      exact u1
    | true =>
      rw [hb] at er
      have er : ris s 0 (i + 1) = ris s 0 i ++ [i] := er
      have hln : (ris s 0 (i + 1)).length = (ris s 0 i).length + 1 := by rw [er, List.length_append]; rfl
      obtain ⟨a', u1, u2⟩ := b_33 ok (j := j) hs m fu (i + 1) τ (upd a (ris s 0 i).length (nI i)) h3 (by omega) (by omega) (fun k hk => by
        rw [hln] at hk
        rw [er]
        by_cases e : k = (ris s 0 i).length
        · subst e
          rw [pk_us, gD_mid]
        · rw [pk_un e, gD_l (by omega)]; exact ha k (by omega)) (by rw [hln]; omega)
      refine ⟨a', ?_, u2⟩
      rw [M_X7_best_33, e3, if_neg (nI_ge (by omega) (by omega)), has_m (by omega) (by omega), hb, Option.bind_some, if_neg (by decide), wrA_n _ _ _ (by omega) (by decide), Option.bind_some, setA_setA, sA_at, nI_1, nI_1]
      rw [hln] at u1
      exact u1
theorem ris_pw : ∀ h, h < 8 → ∀ s, s < 2 ^ h → (ris s 0 h).Pairwise (· < ·) := by decide +kernel
theorem best_m {V : VT} {τ : ST} (ok : okV V) (hm : VM V τ) {s j : Nat} (hs : s < 2 ^ V 0 0) (hj : j < 6) : ∃ a', M_X7_best_33 10000 τ (nI s) (nI j) 0 0 = some (nI (gr (wy V) (ris s 0 (V 0 0)) (V 0 3)), setA (bX τ j (pc7 s) (some (lf (wy V) (pc7 s) (ris s 0 (V 0 0)) (V 0 3)))) 13 a') := by
  have o1 := ok.1
  have o3 := ok.2.2.2.1
  have h2 := p2h ok
  have hlen := ris_len (V 0 0) (by omega) s hs
  have hp := pc7_le s
  have hpw := ris_pw (V 0 0) (by omega) s hs
  have hin : ∀ i ∈ ris s 0 (V 0 0), i < V 0 0 := fun i hi => (ris_bit (V 0 0) (by omega) s hs i hi).1
  obtain ⟨a, u1, u2⟩ := b_33 ok (j := j) hs (V 0 0) 10000 0 τ (τ.2.2 13) hm.1 (by omega) (by omega) (fun k hk => absurd hk (Nat.not_lt_zero _)) (Nat.le_refl _)
  rw [setA_self] at u1
  have hf := fct_le (pc7 s) (by omega)
  obtain ⟨f, hff⟩ : ∃ f, 10000 = (f + 1) + fct (pc7 s) := ⟨10000 - fct (pc7 s) - 1, by omega⟩
  obtain ⟨a', w1, w2⟩ := run_m ok hm (j := j) (n := pc7 s) hj hp (pc7 s) (ris s 0 (V 0 0)) [] 0 (V 0 3) (f + 1) 0 none a hlen hlen hpw hin u2 (fun T => by rw [List.nil_append, Nat.zero_add]) (Nat.zero_le _) o3 (by omega) (fun L' z => by cases z)
  rw [if_pos (Nat.zero_le _), Nat.zero_add, List.nil_append] at w1
  rw [List.nil_append] at w2
  refine ⟨a', ?_⟩
  have e1 : M_X7_best_33 10000 τ (nI s) (nI j) 0 0 = M_X7_best_74 ((f + 1) + fct (pc7 s)) (setA τ 13 a) (nI j) (nI (pc7 s)) (-1) 1 := by
    rw [← hff, ← hlen]; exact u1
  rw [e1]
  refine w1.trans ?_
  have hlr : (ris s 0 (V 0 0)).reverse.length = pc7 s := by rw [List.length_reverse, hlen]
  have hno := no_end (τ := bX τ j (pc7 s) (some (lf (wy V) (pc7 s) (ris s 0 (V 0 0)) (V 0 3)))) (a := a') (g := fun k => (ris s 0 (V 0 0)).reverse.getD k 0) (n := pc7 s) (fun k hk => w2 k (by omega)) (fun k hk => by
      have := hin _ (List.mem_reverse.mp (gD_mem (l := (ris s 0 (V 0 0)).reverse) (k := k) (by omega)))
      show (ris s 0 (V 0 0)).reverse.getD k 0 < 100
      omega) hp (fun k hk => by
      show (ris s 0 (V 0 0)).reverse.getD (k + 1) 0 < (ris s 0 (V 0 0)).reverse.getD k 0
      rw [gD_v (by omega), gD_v (by omega)]
      exact gD_pw hpw (by omega) (by omega))
  unfold M_X7_best_137
  rw [hno, Option.bind_some, M_X7_best_74, if_pos rfl]
  rfl
theorem best_rel {Wl : ST → ST → Prop} (hC : Cg Wl) {σ τ : ST} (hR : RelG Wl σ τ) {j n : Nat} (hj : j < 6) (hn : n ≤ 7) {L : List Nat} (hL : L.length = n) (a : Nat → Int32) : RelG Wl (setA (mkC σ j n 0) (4 + j) (laF ((mkC σ j n 0).2.2 (4 + j)) 0 L)) (setA (bX τ j n (some L)) 13 a) := by
  obtain ⟨h1, h2, h3, h4, h5, h6⟩ := hR
  have eC : setA (mkC σ j n 0) (4 + j) (laF ((mkC σ j n 0).2.2 (4 + j)) 0 L) = setA (setA σ 3 (upd (σ.2.2 3) j (nI n))) (4 + j) (laF ((mkC σ j n 0).2.2 (4 + j)) 0 L) := by
    unfold mkC; rw [setA_setA]
  have eA : ∀ i, i < 40 → laF ((mkC σ j n 0).2.2 (4 + j)) 0 L i = if i < n then nI (L.getD i 0) else 0 := by
    intro i hi
    unfold laF
    by_cases q : i < n
    · rw [if_pos (by omega), if_pos q, Nat.sub_zero]
    · rw [if_neg (by omega), if_neg q]
      unfold mkC
      rw [sA_at, if_pos hi]
  rw [eC]
  generalize laF ((mkC σ j n 0).2.2 (4 + j)) 0 L = F at eA
  have hrow : rlR (setA (setA σ 3 (upd (σ.2.2 3) j (nI n))) (4 + j) F) (setA (bX τ j n (some L)) 13 a) := by
    intro r hr
    obtain ⟨g1, g2, g3⟩ := h1 r hr
    have e1 : (setA (setA σ 3 (upd (σ.2.2 3) j (nI n))) (4 + j) F).2.2 3 = upd (σ.2.2 3) j (nI n) := by rw [sA_ne (by omega), sA_at]
    have e2 : (setA (bX τ j n (some L)) 13 a).2.2 5 = upd (τ.2.2 5) j (nI n) := rfl
    have e3 : (setA (bX τ j n (some L)) 13 a).2.2 6 = rwF τ j L := rfl
    rw [e1, e2, e3]
    by_cases e : r = j
    · subst e
      refine ⟨by rw [pk_us, pk_us], by rw [pk_us]; exact Or.inr ⟨n, by omega, rfl⟩, fun i hi => ?_⟩
      rw [sA_at, eA i hi]
      unfold rwF zr
      by_cases q : i < n
      · rw [if_pos q, if_pos (by omega), show 40 * r + i - 40 * r = i by omega]
      · rw [if_neg q, if_neg (by omega), if_pos (by omega)]
    · refine ⟨by rw [pk_un e, pk_un e]; exact g1, by rw [pk_un e]; exact g2, fun i hi => ?_⟩
      rw [sA_ne (by omega), sA_ne (by omega)]
      unfold rwF zr
      rw [if_neg (by omega), if_neg (by omega)]
      exact g3 i hi
  have sC : ∀ F' : FP, 3 ∉ F'.2.2 → (4 + j) ∉ F'.2.2 → same F' σ (setA (setA σ 3 (upd (σ.2.2 3) j (nI n))) (4 + j) F) := fun F' x1 x2 => (same.rf.sA x1).sA x2
  have sM : ∀ F' : FP, 5 ∉ F'.2.2 → 6 ∉ F'.2.2 → 13 ∉ F'.2.2 → same F' τ (setA (bX τ j n (some L)) 13 a) := fun F' x1 x2 x3 => ((same.rf.sA x1).sA x2).sA x3
  refine ⟨hrow, h2.cg (sC _ (by decide) (by simp [fTc]; omega)) (sM _ (by decide) (by decide) (by decide)), h3.cg (sC _ (by decide) (by simp [fFc]; omega)) (sM _ (by decide) (by decide) (by decide)), h4.cg (sC _ (by decide) (by simp [fQc])) (sM _ (by decide) (by decide) (by decide)), h5.cg (sC _ (by decide) (by simp [fUc])) (sM _ (by decide) (by decide) (by decide)), hC _ _ _ _ h6 (sC _ (by decide) (by simp [fWc]; omega)) (sM _ (by decide) (by decide) (by decide))⟩
theorem pure_best {Wl : ST → ST → Prop} (hC : Cg Wl) (hV : Vws Wl) : P_best (RelG Wl) := by
  intro σ τ a1 a2 hR
  obtain ⟨V, ok, hc, hm⟩ := hV σ τ hR.2.2.2.2.2
  have h2 := p2h ok
  have o1 := ok.1
  have o3 := ok.2.2.2.1
  rcases set_cm ok hc hm a1 with ⟨e1, e2⟩ | ⟨s, hs, rfl, e1, e2⟩
  · exact ⟨-1, σ, τ, by unfold M_X6_best; rw [e1, Option.bind_some, if_pos rfl], by unfold M_X7_best; rw [e2, Option.bind_some, if_pos rfl], hR⟩
  rcases i3 a2 (n := 6) (by decide) with q | ⟨q, q'⟩ | ⟨j, hj, rfl⟩
  · exact ⟨-1, σ, τ, by unfold M_X6_best; rw [e1, Option.bind_some, if_neg n10, isN_lo_r q, Option.bind_some, if_pos rfl], by unfold M_X7_best; rw [e2, Option.bind_some, if_neg n10, isRow_lo q, Option.bind_some, if_pos rfl], hR⟩
  · exact ⟨-1, σ, τ, by unfold M_X6_best; rw [e1, Option.bind_some, if_neg n10, isN_hi_r q q', Option.bind_some, if_pos rfl], by unfold M_X7_best; rw [e2, Option.bind_some, if_neg n10, isRow_hi q q', Option.bind_some, if_pos rfl], hR⟩
  cases ho : opn V s with
  | false =>
    exact ⟨-4, σ, τ, by unfold M_X6_best; rw [e1, Option.bind_some, if_neg n10, isN_ok_r hj, Option.bind_some, if_neg n10, open_c ok hc (by omega), ho, Option.bind_some, if_pos bf0], by unfold M_X7_best; rw [e2, Option.bind_some, if_neg n10, isRow_ok hj, Option.bind_some, if_neg n10, open_m ok hm (by omega), ho, Option.bind_some, if_pos bf0], hR⟩
  | true =>
    have hp := pc7_le s
    have hlen := ris_len (V 0 0) (by omega) s hs
    have hw : ∀ t ∈ ris s 0 (V 0 0), wy V t ≤ 9 := fun t ht => wy_le ok (ris_bit (V 0 0) (by omega) s hs t ht).1
    have hLl := lf_len (w := wy V) (pc7 s) (ris s 0 (V 0 0)) (V 0 3) hlen hw
    obtain ⟨a', u1⟩ := best_m ok hm hs hj
    have hc1 : VC V (mkC σ j (pc7 s) 0) := hc.cg (by unfold mkC; exact (same.rf.sA (by decide)).sA (by simp [fWc]; omega))
    have es : (mkC σ j (pc7 s) 0).2.2 3 j = nI (pc7 s) := by unfold mkC; rw [sA_ne (by omega), sA_at, pk_us]
    have hlb := lb_12 ok hj hp (pc7 s) 10000 0 s (V 0 3) (mkC σ j (pc7 s) 0) (by omega) (by omega) hs rfl (by omega) hc1 es
    have hc2 : VC V (setA (mkC σ j (pc7 s) 0) (4 + j) (laF ((mkC σ j (pc7 s) 0).2.2 (4 + j)) 0 (lf (wy V) (pc7 s) (ris s 0 (V 0 0)) (V 0 3)))) := hc1.cg (same.rf.sA (by simp [fWc]; omega))
    refine ⟨nI (gr (wy V) (ris s 0 (V 0 0)) (V 0 3)), _, _, ?_, ?_, best_rel hC hR hj hp hLl a'⟩
    · unfold M_X6_best M_X5_layBestOrder
      rw [e1, Option.bind_some, if_neg n10, isN_ok_r hj, Option.bind_some, if_neg n10, open_c ok hc (by omega), ho, Option.bind_some, if_neg (by decide), bitc_all s (by omega), Option.bind_some, make_r hj (by omega), Option.bind_some, hc1.2.2.2.1, show M_X5_layBestOrder_12 10000 (mkC σ j (pc7 s) 0) (nI j) (nI s) (nI (V 0 3)) 0 = _ from hlb, Option.bind_some, hc2.2.2.2.1, ms_c ok hc2 (by omega) (by omega), Option.bind_some]
    · unfold M_X7_best
      rw [e2, Option.bind_some, if_neg n10, isRow_ok hj, Option.bind_some, if_neg n10, open_m ok hm (by omega), ho, Option.bind_some, if_neg (by decide), u1]
