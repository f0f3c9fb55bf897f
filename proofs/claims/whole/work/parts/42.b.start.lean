/- the start -/
theorem st_r : ∀ r, r < 6 → sg0.2.2 3 r = ta0.2.2 5 r ∧ sg0.2.2 3 r = -1 := by decide +kernel
theorem st_rc : ∀ r, r < 6 → ∀ i, i < 40 → sg0.2.2 (4 + r) i = ta0.2.2 6 (40 * r + i) := by decide +kernel
theorem st_t : ∀ r, r < 4 → sg0.2.2 12 r = ta0.2.2 7 r ∧ sg0.2.2 12 r = -1 := by decide +kernel
theorem st_tc : ∀ r, r < 4 → ∀ i, i < 80 → sg0.2.2 (13 + r) i = ta0.2.2 8 (80 * r + i) ∧ sg0.2.2 (13 + r) i = 0 := by decide +kernel
theorem st_f : ∀ k, k < 6 → sg0.2.2 42 k = ta0.2.2 9 k := by decide +kernel
theorem st_h : ∀ k, k < 23 → k < 2 ∨ 16 ≤ k → ta0.2.2 1 (0 + 1 + k) = nI (d0 (fun _ _ => 0) k) := by decide +kernel
theorem st_31 : ∀ k, k < 7 → sg0.2.2 31 k = nI (d0 (fun _ _ => 0) (16 + k)) := by decide +kernel
theorem st_kp : ∀ k, k < 3 → sg0.1 (40 + k) = -1 ∧ ta0.2.2 1 (944 * (1 + k)) = -1 := by decide +kernel
theorem rel0 : RelG Wl sg0 ta0 := by
  refine ⟨fun r hr => ⟨(st_r r hr).1, Or.inl (st_r r hr).2, st_rc r hr⟩, fun r hr => ⟨(st_t r hr).1, Or.inl (st_t r hr).2, fun i hi => ⟨(st_tc r hr i hi).1, by rw [(st_tc r hr i hi).2]; exact ⟨by decide, by decide⟩⟩⟩, ⟨rfl, st_f⟩, rfl, ⟨rfl, rfl⟩, fun _ _ => 0, fun _ => .inr none, 0, ?_, ?_, ?_, ?_, rfl, ?_, ?_, ?_, ?_⟩
  · exact ⟨by decide, by decide, by decide, by decide, by decide, fun i hi => absurd hi (Nat.not_lt_zero _)⟩
  · exact ⟨rfl, rfl, rfl, rfl, rfl, fun i hi => absurd hi (Nat.not_lt_zero _)⟩
  · exact ⟨rfl, rfl, rfl, rfl, fun i hi => absurd hi (Nat.not_lt_zero _)⟩
  · exact ⟨by decide, fun h => absurd h (Nat.not_lt_zero _), fun i hi => absurd hi (Nat.not_lt_zero _)⟩
  · exact fun i hi => absurd hi (Nat.not_lt_zero _)
  · exact ⟨rfl, rfl, fun i hi => ⟨fun h => absurd h (Nat.not_lt_zero _), st_31 i hi⟩⟩
  · refine ⟨by decide +kernel, fun k hk hr => st_h k hk ?_, fun i hi => absurd hi (Nat.not_lt_zero _)⟩
    rcases hr with h | h
    · exact absurd h (Nat.not_lt_zero _)
    · exact h
  · exact fun k hk => Or.inl (st_kp k hk)
/- counts -/
section
variable {V : VT} {σ τ : ST}
def kdP (V : VT) (k i : Nat) : Bool := isk (V 1 i) k
theorem kinds_4 (ok : okV V) (h : VC V σ) {k : Nat} (hk : k < 6) (hk0 : 0 < k) : ∀ (m fu i : Nat), i + m = V 0 0 → m < fu → M_X0_howManyOf_4 σ fu (nI k) (nI (cnt (kdP V k) i)) (nI i) = some (nI (cnt (kdP V k) (V 0 0)))
  | 0, fu + 1, i, h1, _ => by
    unfold M_X0_howManyOf_4; rw [h.1, if_pos (nI_le (by omega) (by have := ok.1; omega)), show V 0 0 = i by omega]
  | m + 1, fu + 1, i, h1, h2 => by
    have h7 := ok.1
    have hi : i < V 0 0 := by omega
    unfold M_X0_howManyOf_4
    rw [h.1, if_neg (nI_ge (by omega) (by omega)), rd_n _ (by omega) (by decide), Option.bind_some, (h.2.2.2.2 i hi).1, isk_c _ (by have := (ok.2.2.2.2 i hi).1; omega) _ hk hk0, Option.bind_some]
    have e : cnt (kdP V k) (i + 1) = cnt (kdP V k) i + if isk (V 1 i) k then 1 else 0 := rfl
    have ih := kinds_4 ok h hk hk0 m fu (i + 1) (by omega) (by omega)
    rw [e] at ih
    rw [nI_1, nI_1]
    cases hb : isk (V 1 i) k
    · rw [hb] at ih; exact ih
    · rw [hb] at ih; exact ih
theorem kinds_4m (ok : okV V) (h : VM V τ) {k : Nat} (hk : k < 6) : ∀ (m fu i : Nat), i + m = V 0 0 → m < fu → M_X7_kindMany_4 τ fu (nI k) (nI (cnt (kdP V k) i)) (nI i) = some (nI (cnt (kdP V k) (V 0 0)))
  | 0, fu + 1, i, h1, _ => by
    unfold M_X7_kindMany_4; rw [h.1, if_pos (nI_le (by omega) (by have := ok.1; omega)), show V 0 0 = i by omega]
  | m + 1, fu + 1, i, h1, h2 => by
    have h7 := ok.1
    have hi : i < V 0 0 := by omega
    unfold M_X7_kindMany_4
    rw [h.1, if_neg (nI_ge (by omega) (by omega)), isk_m ok h hi hk, Option.bind_some]
    have e : cnt (kdP V k) (i + 1) = cnt (kdP V k) i + if isk (V 1 i) k then 1 else 0 := rfl
    have ih := kinds_4m ok h hk m fu (i + 1) (by omega) (by omega)
    rw [e] at ih
    rw [nI_1, nI_1, Int32.add_zero]
    cases hb : isk (V 1 i) k
    · rw [hb] at ih; exact ih
    · rw [hb] at ih; exact ih
end
def thB (n : Nat) (x : Nat → Int32) (i : Nat) : Bool := decide (i < n) && !decide (x i = -1)
theorem cnt1 (P : Nat → Bool) (i : Nat) : cnt P (i + 1) = cnt P i + if P i then 1 else 0 := rfl
theorem th_y {n : Nat} {x : Nat → Int32} {i p : Nat} (h : i < n) (hp : p < 2 ^ 31) (e : x i = nI p) : cnt (thB n x) (i + 1) = cnt (thB n x) i + 1 := by
  rw [cnt1]; unfold thB; rw [decide_eq_true h, e, decide_eq_false (m1_ne hp)]; rfl
theorem th_n {n : Nat} {x : Nat → Int32} {i : Nat} (e : ¬ i < n ∨ x i = -1) : cnt (thB n x) (i + 1) = cnt (thB n x) i := by
  rw [cnt1]; unfold thB
  rcases e with e | e
  · rw [decide_eq_false e]; rfl
  · rw [decide_eq_true e, Bool.not_true, Bool.and_false]; rfl
theorem there_r {σ τ : ST} (h : rlR σ τ) : ∀ (m fu i : Nat), i + m = 6 → m < fu → M_X3_howManyThere_r_4 σ fu (nI (cnt (thB 6 (σ.2.2 3)) i)) (nI i) = some (nI (cnt (thB 6 (σ.2.2 3)) 6)) ∧ M_X7_thereOf_4 τ fu 8 (nI (cnt (thB 6 (σ.2.2 3)) i)) (nI i) = some (nI (cnt (thB 6 (σ.2.2 3)) 6))
  | 0, fu + 1, i, h1, _ => by
    obtain rfl : i = 6 := by omega
    exact ⟨by unfold M_X3_howManyThere_r_4; rw [if_pos (by decide)], by unfold M_X7_thereOf_4; rw [if_pos (by decide)]⟩
  | m + 1, fu + 1, i, h1, h2 => by
    have ih := there_r h m fu (i + 1) (by omega) (by omega)
    obtain ⟨g1, g2, -⟩ := h i (by omega)
    unfold M_X3_howManyThere_r_4 M_X7_thereOf_4
    rw [if_neg (nl 6 6 rfl (show i < 6 by omega) (by decide)), if_neg (nl 6 6 rfl (show i < 6 by omega) (by decide)), if_pos rfl, rd_n _ (by omega) (by decide), Option.bind_some, ← g1, nI_1, nI_1, Int32.add_zero]
    rcases g2 with g2 | ⟨n, hn, g2⟩
    · rw [isT_no_r (by omega) g2, Option.bind_some, if_pos rfl, g2, if_neg n0m1]
      rw [th_n (Or.inr g2)] at ih; exact ih
    · rw [isT_ok_r (by omega) g2 hn, Option.bind_some, if_neg n10, g2, if_pos (nI_nonneg (by omega))]
      rw [th_y (by omega) (by omega) g2] at ih; exact ih
theorem there_tc {σ τ : ST} (h : rlT σ τ) : ∀ (m fu i : Nat), i + m = 4 → m < fu → M_X3_howManyThere_t_4 σ fu (nI (cnt (thB 4 (σ.2.2 12)) i)) (nI i) = some (nI (cnt (thB 4 (σ.2.2 12)) 4))
  | 0, fu + 1, i, h1, _ => by
    obtain rfl : i = 4 := by omega
    unfold M_X3_howManyThere_t_4; rw [if_pos (by decide)]
  | m + 1, fu + 1, i, h1, h2 => by
    have ih := there_tc h m fu (i + 1) (by omega) (by omega)
    obtain ⟨g1, g2, -⟩ := h i (by omega)
    unfold M_X3_howManyThere_t_4
    rw [if_neg (nl 4 4 rfl (show i < 4 by omega) (by decide)), nI_1, nI_1]
    rcases g2 with g2 | ⟨n, hn, g2⟩
    · rw [isT_no_t (by omega) g2, Option.bind_some, if_pos rfl]
      rw [th_n (Or.inr g2)] at ih; exact ih
    · rw [isT_ok_t (by omega) g2 hn, Option.bind_some, if_neg n10]
      rw [th_y (by omega) (by omega) g2] at ih; exact ih
theorem there_tm {σ τ : ST} (h : rlT σ τ) : ∀ (m fu i : Nat), i + m = 6 → m < fu → M_X7_thereOf_4 τ fu 9 (nI (cnt (thB 4 (σ.2.2 12)) i)) (nI i) = some (nI (cnt (thB 4 (σ.2.2 12)) 6))
  | 0, fu + 1, i, h1, _ => by
    obtain rfl : i = 6 := by omega
    unfold M_X7_thereOf_4; rw [if_pos (by decide)]
  | m + 1, fu + 1, i, h1, h2 => by
    have ih := there_tm h m fu (i + 1) (by omega) (by omega)
    unfold M_X7_thereOf_4
    rw [if_neg (nl 6 6 rfl (show i < 6 by omega) (by decide)), if_neg (by decide), if_pos rfl, nI_1, nI_1, Int32.add_zero]
    by_cases w : i < 4
    · obtain ⟨g1, g2, -⟩ := h i w
      rw [if_neg (nl 4 4 rfl w (by decide)), rd_n _ w (by decide), Option.bind_some, ← g1]
      rcases g2 with g2 | ⟨n, hn, g2⟩
      · rw [g2, if_pos (by decide)]
        rw [th_n (Or.inr g2)] at ih; exact ih
      · rw [g2, if_neg (nI_pos (by omega))]
        rw [th_y (by omega) (by omega) g2] at ih; exact ih
    · rw [if_pos (show (4 : Int32) ≤ nI i from nI_le (a := 4) (by omega) (by omega))]
      rw [th_n (Or.inl w)] at ih; exact ih
theorem kept_c {C : VT} {σ τ : ST} (h : ∀ k, k < 3 → KP C k σ τ) : ∀ (m fu i : Nat), i + m = 3 → m < fu → M_X6_keptWells_4 σ fu (nI (cnt (thB 3 (fun k => σ.1 (40 + k))) i)) (nI i) = some (nI (cnt (thB 3 (fun k => σ.1 (40 + k))) 3))
  | 0, fu + 1, i, h1, _ => by
    obtain rfl : i = 3 := by omega
    unfold M_X6_keptWells_4; rw [if_pos (by decide)]
  | m + 1, fu + 1, i, h1, h2 => by
    have ih := kept_c h m fu (i + 1) (by omega) (by omega)
    unfold M_X6_keptWells_4
    rw [if_neg (nl 3 3 rfl (show i < 3 by omega) (by decide)), nI_1, nI_1, inR_n (by omega) (by decide), Option.bind_some]
    rcases h i (by omega) with ⟨g2, -⟩ | ⟨g, p, hp, -, g2, -, -⟩
    · rw [g2, if_pos rfl]
      rw [th_n (n := 3) (x := fun k => σ.1 (40 + k)) (i := i) (Or.inr g2)] at ih; exact ih
    · have := hp.1
      rw [g2, if_neg (m1_ne (by omega))]
      rw [th_y (n := 3) (x := fun k => σ.1 (40 + k)) (i := i) (by omega) (show p < 2 ^ 31 by omega) g2] at ih; exact ih
theorem ix944 (i : Nat) : (944 : Int32) * (1 + nI i) + 0 = nI (944 * (1 + i)) := by rw [show (944 : Int32) = nI 944 from rfl, show (1 : Int32) = nI 1 from rfl, nI_add, pk_mul, Int32.add_zero]
theorem kept_m {C : VT} {σ τ : ST} (h : ∀ k, k < 3 → KP C k σ τ) : ∀ (m fu i : Nat), i + m = 6 → m < fu → M_X7_thereOf_4 τ fu 10 (nI (cnt (thB 3 (fun k => σ.1 (40 + k))) i)) (nI i) = some (nI (cnt (thB 3 (fun k => σ.1 (40 + k))) 6))
  | 0, fu + 1, i, h1, _ => by
    obtain rfl : i = 6 := by omega
    unfold M_X7_thereOf_4; rw [if_pos (by decide)]
  | m + 1, fu + 1, i, h1, h2 => by
    have ih := kept_m h m fu (i + 1) (by omega) (by omega)
    unfold M_X7_thereOf_4
    rw [if_neg (nl 6 6 rfl (show i < 6 by omega) (by decide)), if_neg (by decide), if_neg (by decide), nI_1, nI_1, Int32.add_zero, ix944]
    by_cases w : i < 3
    · rw [if_neg (nl 3 3 rfl w (by decide)), rd_n _ (by omega) (by decide), Option.bind_some]
      rcases h i w with ⟨g2, g3⟩ | ⟨g, p, hp, -, g2, -, g3⟩
      · rw [g3, if_pos (by decide)]
        rw [th_n (n := 3) (x := fun k => σ.1 (40 + k)) (i := i) (Or.inr g2)] at ih; exact ih
      · have := hp.1
        rw [g3.1, if_neg (nI_pos (by omega))]
        rw [th_y (n := 3) (x := fun k => σ.1 (40 + k)) (i := i) (by omega) (show p < 2 ^ 31 by omega) g2] at ih; exact ih
    · rw [if_pos (show (3 : Int32) ≤ nI i from nI_le (a := 3) (by omega) (by omega))]
      rw [th_n (Or.inl w)] at ih; exact ih
theorem countOf_cm {σ τ : ST} (hR : RelG Wl σ τ) {j : Nat} (hj : j < 11) : ∃ r, M_X6_countOf σ (nI j) = some r ∧ M_X7_countOf τ (nI j) = some r := by
  obtain ⟨V, ok, hc, hm⟩ := Wl_vws σ τ hR.2.2.2.2.2
  obtain ⟨C, f, n, h1, h2, h3, h4, h5, h6, h7, h8, h9⟩ := hR.2.2.2.2.2
  have c7 := ok.1
  unfold M_X6_countOf M_X7_countOf
  rcases (by omega : j = 0 ∨ j = 1 ∨ j = 2 ∨ j = 3 ∨ j = 4 ∨ j = 5 ∨ j = 6 ∨ j = 7 ∨ j = 8 ∨ j = 9 ∨ j = 10) with rfl | rfl | rfl | rfl | rfl | rfl | rfl | rfl | rfl | rfl | rfl
  · exact ⟨nI (V 0 0), by rw [if_pos (by decide), houses_c hc]; rfl, by rw [if_pos (by decide), hm.1]⟩
  · exact ⟨nI (V 0 2), by rw [if_neg (by decide), if_pos (by decide), hc.2.2.1], by rw [if_neg (by decide), if_pos (by decide), show (1 : Int32) = nI 1 from rfl, rd_n _ (by decide) (by decide), Option.bind_some, hm.2.2.1]⟩
  · exact ⟨nI n, by rw [if_neg (by decide), if_neg (by decide), if_pos (by decide), h5], by rw [if_neg (by decide), if_neg (by decide), if_pos (by decide), show (0 : Int32) = nI 0 from rfl, rd_n _ (by decide) (by decide), Option.bind_some, h8.1]⟩
  · exact ⟨nI (V 0 3), by rw [if_neg (by decide), if_neg (by decide), if_neg (by decide), if_pos (by decide), hc.2.2.2.1], by rw [if_neg (by decide), if_neg (by decide), if_neg (by decide), if_pos (by decide), show (2 : Int32) = nI 2 from rfl, rd_n _ (by decide) (by decide), Option.bind_some, hm.2.2.2.1]⟩
  · exact ⟨nI (V 0 1), by rw [if_neg (by decide), if_neg (by decide), if_neg (by decide), if_neg (by decide), if_pos (by decide), hc.2.1], by rw [if_neg (by decide), if_neg (by decide), if_neg (by decide), if_neg (by decide), if_pos (by decide), hm.2.1]⟩
  · exact ⟨nI (C 0 4), by rw [if_neg (by decide), if_neg (by decide), if_neg (by decide), if_neg (by decide), if_neg (by decide), if_pos (by decide), h2.2.2.2.2.1], by rw [if_neg (by decide), if_neg (by decide), if_neg (by decide), if_neg (by decide), if_neg (by decide), if_pos (by decide), h3.2.2.2.1]⟩
  · refine ⟨nI (cnt (kdP V 1) (V 0 0)), ?_, ?_⟩
    · rw [if_neg (by decide), if_neg (by decide), if_neg (by decide), if_neg (by decide), if_neg (by decide), if_neg (by decide), if_pos (by decide)]
      unfold M_X0_howManyOf
      rw [show M_X0_howManyOf_4 σ 10000 1 0 0 = _ from kinds_4 ok hc (k := 1) (by decide) (by decide) (V 0 0) 10000 0 (by omega) (by omega)]; rfl
    · rw [if_neg (by decide), if_neg (by decide), if_neg (by decide), if_neg (by decide), if_neg (by decide), if_neg (by decide), if_pos (by decide)]
      unfold M_X7_kindMany
      rw [show M_X7_kindMany_4 τ 10000 1 0 0 = _ from kinds_4m ok hm (k := 1) (by decide) (V 0 0) 10000 0 (by omega) (by omega)]; rfl
  · refine ⟨nI (cnt (kdP V 3) (V 0 0)), ?_, ?_⟩
    · rw [if_neg (by decide), if_neg (by decide), if_neg (by decide), if_neg (by decide), if_neg (by decide), if_neg (by decide), if_neg (by decide), if_pos (by decide)]
      unfold M_X0_howManyOf
      rw [show M_X0_howManyOf_4 σ 10000 3 0 0 = _ from kinds_4 ok hc (k := 3) (by decide) (by decide) (V 0 0) 10000 0 (by omega) (by omega)]; rfl
    · rw [if_neg (by decide), if_neg (by decide), if_neg (by decide), if_neg (by decide), if_neg (by decide), if_neg (by decide), if_neg (by decide), if_pos (by decide)]
      unfold M_X7_kindMany
      rw [show M_X7_kindMany_4 τ 10000 3 0 0 = _ from kinds_4m ok hm (k := 3) (by decide) (V 0 0) 10000 0 (by omega) (by omega)]; rfl
  · have t := there_r hR.1 6 10000 0 (by omega) (by omega)
    refine ⟨nI (cnt (thB 6 (σ.2.2 3)) 6), ?_, ?_⟩
    rotate_left
    · rw [if_neg (by decide), if_neg (by decide), if_neg (by decide), if_neg (by decide), if_neg (by decide), if_neg (by decide), if_neg (by decide), if_neg (by decide)]
      unfold M_X7_thereOf
      rw [show M_X7_thereOf_4 τ 10000 (nI 8) 0 0 = _ from t.2, Option.bind_some]
    · rw [if_neg (by decide), if_neg (by decide), if_neg (by decide), if_neg (by decide), if_neg (by decide), if_neg (by decide), if_neg (by decide), if_neg (by decide), if_pos (by decide)]
      unfold M_X3_howManyThere_r
      rw [show M_X3_howManyThere_r_4 σ 10000 0 0 = _ from t.1]; rfl
  · have t := there_tc hR.2.1 4 10000 0 (by omega) (by omega)
    have u := there_tm hR.2.1 6 10000 0 (by omega) (by omega)
    refine ⟨nI (cnt (thB 4 (σ.2.2 12)) 4), ?_, ?_⟩
    · rw [if_neg (by decide), if_neg (by decide), if_neg (by decide), if_neg (by decide), if_neg (by decide), if_neg (by decide), if_neg (by decide), if_neg (by decide), if_neg (by decide), if_pos (by decide)]
      unfold M_X3_howManyThere_t
      rw [show M_X3_howManyThere_t_4 σ 10000 0 0 = _ from t]; rfl
    · rw [if_neg (by decide), if_neg (by decide), if_neg (by decide), if_neg (by decide), if_neg (by decide), if_neg (by decide), if_neg (by decide), if_neg (by decide)]
      unfold M_X7_thereOf
      rw [show M_X7_thereOf_4 τ 10000 (nI 9) 0 0 = _ from u, Option.bind_some]; rfl
  · have t := kept_c h9 3 10000 0 (by omega) (by omega)
    have u := kept_m h9 6 10000 0 (by omega) (by omega)
    refine ⟨nI (cnt (thB 3 (fun k => σ.1 (40 + k))) 3), ?_, ?_⟩
    · rw [if_neg (by decide), if_neg (by decide), if_neg (by decide), if_neg (by decide), if_neg (by decide), if_neg (by decide), if_neg (by decide), if_neg (by decide), if_neg (by decide), if_neg (by decide)]
      unfold M_X6_keptWells
      rw [show M_X6_keptWells_4 σ 10000 0 0 = _ from t]; rfl
    · rw [if_neg (by decide), if_neg (by decide), if_neg (by decide), if_neg (by decide), if_neg (by decide), if_neg (by decide), if_neg (by decide), if_neg (by decide)]
      unfold M_X7_thereOf
      rw [show M_X7_thereOf_4 τ 10000 (nI 10) 0 0 = _ from u, Option.bind_some]; rfl
theorem nlt11 {x : Int32} (h : nI 11 ≤ x) : ¬ x < 11 := fun q => absurd (show x < nI 11 from q) (Int32.not_lt.mpr h)
theorem pure_count : P_count (RelG Wl) := by
  intro σ τ a hR
  rcases in7k (a := a) 11 (v := 10) rfl (by decide) with ⟨z, z'⟩ | ⟨z, z1, z'⟩ | ⟨j, hj, rfl, z'⟩
  · exact ⟨-1, by unfold M_X6_count; rw [if_pos z], by unfold M_X7_count; rw [z']; rfl⟩
  · exact ⟨-1, by unfold M_X6_count; rw [if_neg z, if_neg (nlt11 z1)], by unfold M_X7_count; rw [z']; rfl⟩
  · obtain ⟨r, e1, e2⟩ := countOf_cm hR hj
    exact ⟨r, by unfold M_X6_count; rw [if_neg (nI_pos (by omega)), if_pos (show nI j < 11 from nI_lt (b := 11) hj (by decide)), e1]; rfl, by unfold M_X7_count; rw [z', Option.bind_some, if_neg n10, e2]; rfl⟩
