/- the digest -/
theorem m1_le {i : Nat} (h : i < 2 ^ 31) : (-1 : Int32) ≤ nI i := by
  rw [Int32.le_iff_toInt_le, nI_toInt h]
  have : (-1 : Int32).toInt = -1 := by decide
  omega
section
variable {σ τ : ST}
theorem dg_row (h : rlR σ τ) {j : Nat} (hj : j < 6) : ∀ (m fu i : Nat) (x : Int64), i + m = 40 → m < fu → ∃ y, ∀ k5 k', M_X3_fold_r_33 σ k5 fu x (nI j) (nI i) = k5 y (nI (j + 1)) ∧ M_X7_digest_128 τ k' fu x (nI j) (nI i) = k' y (nI (j + 1))
  | m, fu + 1, i, x, h1, h2 => by
    obtain ⟨g1, g2, g3⟩ := h j hj
    have stop : σ.2.2 3 j ≤ nI i → ∃ y, ∀ k5 k', M_X3_fold_r_33 σ k5 (fu + 1) x (nI j) (nI i) = k5 y (nI (j + 1)) ∧ M_X7_digest_128 τ k' (fu + 1) x (nI j) (nI i) = k' y (nI (j + 1)) := by
      intro q
      refine ⟨x, fun k5 k' => ⟨?_, ?_⟩⟩
      · unfold M_X3_fold_r_33; rw [rd_n _ hj (by decide), Option.bind_some, if_pos q, nI_1]
      · unfold M_X7_digest_128; rw [rd_n _ hj (by decide), Option.bind_some, ← g1, if_pos q, nI_1]
    rcases g2 with g2 | ⟨n, hn, g2⟩
    · exact stop (by rw [g2]; exact m1_le (by omega))
    by_cases w : n ≤ i
    · exact stop (by rw [g2]; exact nI_le w (by omega))
    · cases m with
      | zero => omega
      | succ m =>
        obtain ⟨y, hy⟩ := dg_row h hj m fu (i + 1) (31 * x + (σ.2.2 (4 + j) i).toInt64) (by omega) (by omega)
        refine ⟨y, fun k5 k' => ⟨?_, ?_⟩⟩
        · unfold M_X3_fold_r_33; rw [rd_n _ hj (by decide), Option.bind_some, g2, if_neg (nI_ge (by omega) (by omega)), get_r hj g2 hn (by omega), Option.bind_some, nI_1]; exact (hy k5 k').1
        · unfold M_X7_digest_128; rw [rd_n _ hj (by decide), Option.bind_some, ← g1, g2, if_neg (nI_ge (by omega) (by omega)), ix40, rd_n _ (by omega) (by decide), Option.bind_some, ← g3 i (by omega), nI_1]; exact (hy k5 k').2
theorem dg_rows (h : rlR σ τ) : ∀ (m fu j : Nat) (x : Int64), j + m = 6 → m < fu → ∃ y, M_X3_fold_r_5 σ fu x (nI j) = some y ∧ M_X7_digest_105 τ fu x (nI j) = M_X7_digest_173 τ 10000 y 0
  | 0, fu + 1, j, x, h1, _ => by
    obtain rfl : j = 6 := by omega
    exact ⟨x, by unfold M_X3_fold_r_5; rw [if_pos (by decide)], by unfold M_X7_digest_105; rw [if_pos (by decide)]⟩
  | m + 1, fu + 1, j, x, h1, h2 => by
    obtain ⟨g1, g2, g3⟩ := h j (by omega)
    obtain ⟨y, hy⟩ := dg_row h (j := j) (by omega) 40 10000 0 (31 * x + (σ.2.2 3 j).toInt64) (by omega) (by omega)
    obtain ⟨z, hz⟩ := dg_rows h m fu (j + 1) y (by omega) (by omega)
    refine ⟨z, ?_, ?_⟩
    · unfold M_X3_fold_r_5
      rw [if_neg (nl 6 6 rfl (show j < 6 by omega) (by decide)), rd_n _ (by omega) (by decide), Option.bind_some]
      exact ((hy (M_X3_fold_r_5 σ fu) (M_X7_digest_105 τ fu)).1).trans hz.1
    · unfold M_X7_digest_105
      rw [if_neg (nl 6 6 rfl (show j < 6 by omega) (by decide)), rd_n _ (by omega) (by decide), Option.bind_some, ← g1]
      exact ((hy (M_X3_fold_r_5 σ fu) (M_X7_digest_105 τ fu)).2).trans hz.2
theorem dg_text (h : rlT σ τ) {j : Nat} (hj : j < 4) : ∀ (m fu i : Nat) (x : Int64), i + m = 80 → m < fu → ∃ y, ∀ k5 k', M_X3_fold_t_33 σ k5 fu x (nI j) (nI i) = k5 y (nI (j + 1)) ∧ M_X7_digest_195 τ k' fu x (nI j) (nI i) = k' y (nI (j + 1))
  | m, fu + 1, i, x, h1, h2 => by
    obtain ⟨g1, g2, g3⟩ := h j hj
    have stop : σ.2.2 12 j ≤ nI i → ∃ y, ∀ k5 k', M_X3_fold_t_33 σ k5 (fu + 1) x (nI j) (nI i) = k5 y (nI (j + 1)) ∧ M_X7_digest_195 τ k' (fu + 1) x (nI j) (nI i) = k' y (nI (j + 1)) := by
      intro q
      refine ⟨x, fun k5 k' => ⟨?_, ?_⟩⟩
      · unfold M_X3_fold_t_33; rw [rd_n _ hj (by decide), Option.bind_some, if_pos q, nI_1]
      · unfold M_X7_digest_195; rw [rd_n _ hj (by decide), Option.bind_some, ← g1, if_pos q, nI_1]
    rcases g2 with g2 | ⟨n, hn, g2⟩
    · exact stop (by rw [g2]; exact m1_le (by omega))
    by_cases w : n ≤ i
    · exact stop (by rw [g2]; exact nI_le w (by omega))
    · cases m with
      | zero => omega
      | succ m =>
        obtain ⟨y, hy⟩ := dg_text h hj m fu (i + 1) (31 * x + (σ.2.2 (13 + j) i).toInt64) (by omega) (by omega)
        refine ⟨y, fun k5 k' => ⟨?_, ?_⟩⟩
        · unfold M_X3_fold_t_33; rw [rd_n _ hj (by decide), Option.bind_some, g2, if_neg (nI_ge (by omega) (by omega)), get_t hj g2 hn (by omega), Option.bind_some, nI_1]; exact (hy k5 k').1
        · unfold M_X7_digest_195; rw [rd_n _ hj (by decide), Option.bind_some, ← g1, g2, if_neg (nI_ge (by omega) (by omega)), ix80, rd_n _ (by omega) (by decide), Option.bind_some, ← (g3 i (by omega)).1, nI_1]; exact (hy k5 k').2
theorem dg_texts (h : rlT σ τ) : ∀ (m fu j : Nat) (x : Int64), j + m = 4 → m < fu → ∃ y, M_X3_fold_t_5 σ fu x (nI j) = some y ∧ M_X7_digest_173 τ fu x (nI j) = some y
  | 0, fu + 1, j, x, h1, _ => by
    obtain rfl : j = 4 := by omega
    exact ⟨x, by unfold M_X3_fold_t_5; rw [if_pos (by decide)], by unfold M_X7_digest_173; rw [if_pos (by decide)]⟩
  | m + 1, fu + 1, j, x, h1, h2 => by
    obtain ⟨g1, g2, g3⟩ := h j (by omega)
    obtain ⟨y, hy⟩ := dg_text h (j := j) (by omega) 80 10000 0 (31 * x + (σ.2.2 12 j).toInt64) (by omega) (by omega)
    obtain ⟨z, hz⟩ := dg_texts h m fu (j + 1) y (by omega) (by omega)
    refine ⟨z, ?_, ?_⟩
    · unfold M_X3_fold_t_5
      rw [if_neg (nl 4 4 rfl (show j < 4 by omega) (by decide)), rd_n _ (by omega) (by decide), Option.bind_some]
      exact ((hy (M_X3_fold_t_5 σ fu) (M_X7_digest_173 τ fu)).1).trans hz.1
    · unfold M_X7_digest_173
      rw [if_neg (nl 4 4 rfl (show j < 4 by omega) (by decide)), rd_n _ (by omega) (by decide), Option.bind_some, ← g1]
      exact ((hy (M_X3_fold_t_5 σ fu) (M_X7_digest_173 τ fu)).2).trans hz.2
theorem ix944' (i : Nat) : (944 : Int32) * nI i + 0 = nI (944 * i) := by rw [show (944 : Int32) = nI 944 from rfl, pk_mul, Int32.add_zero]
theorem dg_kept (h : ∀ k, k < 3 → σ.1 (40 + k) = τ.2.2 1 (944 * (1 + k))) : ∀ (m fu i : Nat) (x : Int64), i + m = 3 → m < fu → ∃ y, M_X6_digest_86 σ fu x (nI i) = ((M_X3_fold_r σ y).bind fun o123 => (M_X3_fold_t σ o123).bind fun o126 => some o126) ∧ M_X7_digest_72 τ fu x (nI (i + 1)) = M_X7_digest_105 τ 10000 y 0
  | 0, fu + 1, i, x, h1, _ => by
    obtain rfl : i = 3 := by omega
    exact ⟨x, by unfold M_X6_digest_86; rw [if_pos (by decide)], by unfold M_X7_digest_72; rw [if_pos (by decide)]⟩
  | m + 1, fu + 1, i, x, h1, h2 => by
    obtain ⟨z, hz⟩ := dg_kept h m fu (i + 1) (31 * x + (σ.1 (40 + i)).toInt64) (by omega) (by omega)
    refine ⟨z, ?_, ?_⟩
    · unfold M_X6_digest_86
      rw [if_neg (nl 3 3 rfl (show i < 3 by omega) (by decide)), inR_n (by omega) (by decide), Option.bind_some, nI_1]; exact hz.1
    · unfold M_X7_digest_72
      rw [if_neg (nl 4 4 rfl (show i + 1 < 4 by omega) (by decide)), ix944', rd_n _ (by omega) (by decide), Option.bind_some, show 944 * (i + 1) = 944 * (1 + i) by omega, ← h i (by omega), nI_1]; exact hz.2
theorem dg_fact {V : VT} (ok : okV V) (h : VC V σ) (hm : VM V τ) (hd : ∀ i, i < 7 → σ.2.2 31 i = τ.2.2 1 (17 + i)) {i : Nat} (hi : i < V 0 0) : ∀ (m fu k : Nat) (x : Int64), k + m = 7 → m < fu → ∃ y, (∀ k33, M_X6_digest_47 σ k33 fu x (nI i) (nI k) = k33 y (nI (i + 1))) ∧ ∀ fu', M_X7_digest_33 τ (fu' + m) x (nI (7 * i + k)) = M_X7_digest_33 τ fu' y (nI (7 * (i + 1)))
  | 0, fu + 1, k, x, h1, _ => by
    obtain rfl : k = 7 := by omega
    exact ⟨x, fun k33 => by unfold M_X6_digest_47; rw [if_pos (by decide), nI_1], fun fu' => rfl⟩
  | m + 1, fu + 1, k, x, h1, h2 => by
    have h7 := ok.1
    obtain ⟨v, e1, e2⟩ := fact_cm ok h hm hd hi (k := k) (by omega)
    obtain ⟨z, hz1, hz2⟩ := dg_fact ok h hm hd hi m fu (k + 1) (31 * x + v.toInt64) (by omega) (by omega)
    refine ⟨z, fun k33 => ?_, fun fu' => ?_⟩
    · unfold M_X6_digest_47
      rw [if_neg (nl 7 7 rfl (show k < 7 by omega) (by decide)), e1, Option.bind_some, nI_1]; exact hz1 k33
    · refine Eq.trans ?_ (hz2 fu')
      show M_X7_digest_33 τ (fu' + m + 1) x _ = _
      conv => lhs; unfold M_X7_digest_33
      rw [hm.1, show (7 : Int32) = nI 7 from rfl, pk_mul, if_neg (nI_ge (by omega) (by omega)), rem_n (nI 7) 7 rfl (by omega) (by decide) (by decide), pk_div (by omega) (by decide) (by decide), show (7 * i + k) / 7 = i by omega, show (7 * i + k) % 7 = k by omega, e2, Option.bind_some, nI_1, show 7 * i + k + 1 = 7 * i + (k + 1) by omega]
theorem dg_facts {V : VT} (ok : okV V) (h : VC V σ) (hm : VM V τ) (hd : ∀ i, i < 7 → σ.2.2 31 i = τ.2.2 1 (17 + i)) : ∀ (m fu i : Nat) (x : Int64), i + m = V 0 0 → m < fu → ∃ y, M_X6_digest_33 σ fu x (nI i) = M_X6_digest_86 σ 10000 y 0 ∧ ∀ fu', M_X7_digest_33 τ (fu' + 1 + 7 * m) x (nI (7 * i)) = M_X7_digest_72 τ 10000 y 1
  | 0, fu + 1, i, x, h1, _ => by
    have h7 := ok.1
    refine ⟨x, ?_, fun fu' => ?_⟩
    · unfold M_X6_digest_33; rw [houses_c h, Option.bind_some, if_pos (nI_le (by omega) (by omega))]
    · show M_X7_digest_33 τ (fu' + 1) x _ = _
      unfold M_X7_digest_33; rw [hm.1, show (7 : Int32) = nI 7 from rfl, pk_mul, if_pos (nI_le (by omega) (by omega))]
  | m + 1, fu + 1, i, x, h1, h2 => by
    have h7 := ok.1
    obtain ⟨y, hy1, hy2⟩ := dg_fact ok h hm hd (i := i) (by omega) 7 10000 0 x (by omega) (by omega)
    obtain ⟨z, hz1, hz2⟩ := dg_facts ok h hm hd m fu (i + 1) y (by omega) (by omega)
    refine ⟨z, ?_, fun fu' => ?_⟩
    · unfold M_X6_digest_33
      rw [houses_c h, Option.bind_some, if_neg (nI_ge (by omega) (by omega))]
      exact (hy1 _).trans hz1
    · rw [show fu' + 1 + 7 * (m + 1) = fu' + 1 + 7 * m + 7 by omega]
      exact (hy2 _).trans (hz2 fu')
theorem dg_counts (hR : RelG Wl σ τ) : ∀ (m fu i : Nat) (x : Int64), i + m = 11 → m < fu → ∃ y, M_X6_digest_6 σ fu x (nI i) = M_X6_digest_33 σ 10000 y 0 ∧ M_X7_digest_6 τ fu x (nI i) = M_X7_digest_33 τ 10000 y 0
  | 0, fu + 1, i, x, h1, _ => by
    obtain rfl : i = 11 := by omega
    exact ⟨x, by unfold M_X6_digest_6; rw [if_pos (by decide)], by unfold M_X7_digest_6; rw [if_pos (by decide)]⟩
  | m + 1, fu + 1, i, x, h1, h2 => by
    obtain ⟨v, e1, e2⟩ := countOf_cm hR (j := i) (by omega)
    obtain ⟨z, hz⟩ := dg_counts hR m fu (i + 1) (31 * x + v.toInt64) (by omega) (by omega)
    refine ⟨z, ?_, ?_⟩
    · unfold M_X6_digest_6
      rw [if_neg (nl 11 11 rfl (show i < 11 by omega) (by decide)), e1, Option.bind_some, nI_1]; exact hz.1
    · unfold M_X7_digest_6
      rw [if_neg (nl 11 11 rfl (show i < 11 by omega) (by decide)), e2, Option.bind_some, nI_1]; exact hz.2
end
theorem pure_digest : P_digest (RelG Wl) := by
  intro σ τ hR
  obtain ⟨V, ok, hc, hm⟩ := Wl_vws σ τ hR.2.2.2.2.2
  have hd := Wl_drs σ τ hR.2.2.2.2.2
  have h7 := ok.1
  have hk : ∀ k, k < 3 → σ.1 (40 + k) = τ.2.2 1 (944 * (1 + k)) := by
    obtain ⟨C, f, n, h1, h2, h3, h4, h5, h6, h7, h8, h9⟩ := hR.2.2.2.2.2
    intro k hk
    rcases h9 k hk with ⟨a, b⟩ | ⟨g, p, -, -, a, -, b⟩
    · rw [a, b]
    · rw [a, b.1]
  obtain ⟨y1, a1, b1⟩ := dg_counts hR 11 10000 0 17 (by omega) (by omega)
  obtain ⟨y2, a2, b2⟩ := dg_facts ok hc hm hd (V 0 0) 10000 0 y1 (by omega) (by omega)
  have b2' := b2 (10000 - 1 - 7 * V 0 0)
  rw [show 10000 - 1 - 7 * V 0 0 + 1 + 7 * V 0 0 = 10000 by omega] at b2'
  obtain ⟨y3, a3, b3⟩ := dg_kept hk 3 10000 0 y2 (by omega) (by omega)
  obtain ⟨y4, a4, b4⟩ := dg_rows hR.1 6 10000 0 y3 (by omega) (by omega)
  obtain ⟨y5, a5, b5⟩ := dg_texts hR.2.1 4 10000 0 y4 (by omega) (by omega)
  refine ⟨y5, ?_, ?_⟩
  · refine (a1.trans (a2.trans a3)).trans ?_
    unfold M_X3_fold_r
    rw [show M_X3_fold_r_5 σ 10000 y3 0 = _ from a4, Option.bind_some]
    unfold M_X3_fold_t
    rw [show M_X3_fold_t_5 σ 10000 y4 0 = _ from a5, Option.bind_some]
  · exact b1.trans (b2'.trans (b3.trans (b4.trans b5)))
