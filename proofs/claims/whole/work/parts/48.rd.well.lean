/- a well by a text -/
def chT (k fc nd fw cm : Nat) (K H F : Nat → Nat) : Nat → Nat → Nat
  | 0, 0 => k
  | 0, 1 => nd
  | 0, 2 => cm
  | 0, 3 => fw
  | 0, _ => fc
  | 1, i => K i
  | 2, i => H i
  | _, i => F i
theorem w55_s {fu i : Nat} (s : ST) (hi : i < 3) : M_X6_well_55 (fu + 1) s (nI i) = M_X6_well_55 fu (setI s (40 + i) (-1)) (nI (i + 1)) := by
  rw [M_X6_well_55, if_neg (nl 3 3 rfl hi (by decide)), inR_n hi (by decide), Option.bind_some, Option.bind_some, nI_1]
theorem w55 (s : ST) : M_X6_well_55 10000 s 0 = some (s.1 33, setI (setI (setI s 40 (-1)) 41 (-1)) 42 (-1)) := by
  show M_X6_well_55 (9999 + 1) s (nI 0) = _
  rw [w55_s s (by decide)]
  show M_X6_well_55 (9998 + 1) _ (nI 1) = _
  rw [w55_s (fu := 9998) _ (by decide)]
  show M_X6_well_55 (9997 + 1) _ (nI 2) = _
  rw [w55_s (fu := 9997) _ (by decide)]
  show M_X6_well_55 (9996 + 1) _ (nI 3) = _
  rw [M_X6_well_55, if_pos (by decide)]
  rfl
def zF (g : Nat → Int32) (k : Nat) : Nat → Int32 := fun q => if q < k then 0 else g q
theorem zF_s (g : Nat → Int32) (k : Nat) : upd (zF g k) k 0 = zF g (k + 1) := by
  funext q
  unfold upd zF
  by_cases e : q = k
  · rw [if_pos e, if_pos (by omega)]
  · rw [if_neg e]
    by_cases e2 : q < k
    · rw [if_pos e2, if_pos (by omega)]
    · rw [if_neg e2, if_neg (by omega)]
theorem zF_0 (g : Nat → Int32) : zF g 0 = g := by
  funext q; unfold zF; rw [if_neg (by omega)]
theorem w71 {τ : ST} : ∀ (m fu k : Nat), k + m = 944 → m < fu → M_X7_well_71 fu (setA τ 1 (zF (τ.2.2 1) k)) (nI k) = M_X7_well_103 10000 (setA τ 1 (upd (zF (τ.2.2 1) 944) 2 (τ.1 21))) 0
  | 0, fu + 1, k, h1, _ => by
    obtain rfl : k = 944 := by omega
    have w : ∀ v, wrA 3776 (setA τ 1 (zF (τ.2.2 1) 944)) 1 2 v = some (setA τ 1 (upd (zF (τ.2.2 1) 944) 2 v)) := by
      intro v
      rw [show (2 : Int32) = nI 2 from rfl, wrA_n _ _ _ (by decide) (by decide), setA_setA, sA_at]
    rw [M_X7_well_71, if_pos (by decide), w, Option.bind_some]
    rfl
  | m + 1, fu + 1, k, h1, h2 => by
    rw [M_X7_well_71, if_neg (nl 944 944 rfl (show k < 944 by omega) (by decide)), wrA_n _ _ _ (by omega) (by decide), Option.bind_some, setA_setA, sA_at, zF_s, nI_1]
    exact w71 m fu (k + 1) (by omega) (by omega)
def stepW (u : ST) (i : Nat) (a b : Int32) : ST := setA (setA (setA (setA u 2 (upd (u.2.2 2) i a)) 3 (upd (u.2.2 3) i b)) 4 (upd (u.2.2 4) i (u.2.2 11 i))) 1 (upd (u.2.2 1) (3 + i) (nI i))
theorem w162 (k103 : ST → Int32 → Option (Int32 × ST)) (u : ST) {i : Nat} (hi : i < 7) (a b : Int32) : M_X7_well_162 k103 (setA u 2 (upd (u.2.2 2) i a)) (nI i) (nI i) b = k103 (stepW u i a b) (nI (i + 1)) := by
  unfold M_X7_well_162
  rw [wrA_n _ _ _ hi (by decide), Option.bind_some, show (setA (setA u 2 (upd (u.2.2 2) i a)) 3 (upd ((setA u 2 (upd (u.2.2 2) i a)).2.2 3) i b)).2.2 11 = u.2.2 11 from rfl, rd_n _ hi (by decide), Option.bind_some, wrA_n _ _ _ hi (by decide), Option.bind_some, show (3 : Int32) + nI i = nI (3 + i) by rw [show (3 : Int32) = nI 3 from rfl, nI_add], wrA_n _ _ _ (by omega) (by decide), Option.bind_some, nI_1]
  rfl
theorem w103_s {fu i k : Nat} {K H : Nat → Nat} (u : ST) (hk : k ≤ 7) (hi : i < 7) (h3 : u.1 3 = nI k) (h10 : ∀ t, t < k → u.2.2 10 (2 * t) = nI (K t) ∧ u.2.2 10 (2 * t + 1) = nI (H t)) : M_X7_well_103 (fu + 1) u (nI i) = M_X7_well_103 fu (stepW u i (if i < k then nI (K i) else 0) (if i < k then nI (H i) else 0)) (nI (i + 1)) := by
  have i2 : (2 : Int32) * nI i = nI (2 * i) := by rw [show (2 : Int32) = nI 2 from rfl, pk_mul]
  rw [M_X7_well_103, if_neg (nl 7 7 rfl hi (by decide)), h3]
  by_cases q : i < k
  · rw [if_neg (nI_ge q (by omega)), i2, rd_n _ (by omega) (by decide), Option.bind_some, (h10 i q).1, if_pos q, if_pos q]
    unfold M_X7_well_134
    rw [wrA_n _ _ _ hi (by decide), Option.bind_some, show (setA u 2 (upd (u.2.2 2) i (nI (K i)))).1 3 = nI k from h3, if_neg (nI_ge q (by omega)), i2, nI_1, show (setA u 2 (upd (u.2.2 2) i (nI (K i)))).2.2 10 = u.2.2 10 from rfl, rd_n _ (by omega) (by decide), Option.bind_some, (h10 i q).2]
    exact w162 _ u hi _ _
  · rw [if_pos (nI_le (by omega) (by omega)), if_neg q, if_neg q]
    unfold M_X7_well_134
    rw [wrA_n _ _ _ hi (by decide), Option.bind_some, show (setA u 2 (upd (u.2.2 2) i 0)).1 3 = nI k from h3, if_pos (nI_le (by omega) (by omega))]
    exact w162 _ u hi _ _
theorem w103 {k : Nat} {K H F : Nat → Nat} (hk : k ≤ 7) : ∀ (m fu i : Nat) (u : ST), i + m = 7 → m < fu → u.1 3 = nI k → (∀ t, t < k → u.2.2 10 (2 * t) = nI (K t) ∧ u.2.2 10 (2 * t + 1) = nI (H t)) → (∀ t, t < 7 → u.2.2 11 t = nI (F t)) → ∃ u', M_X7_well_103 fu u (nI i) = M_X7_well_192 10000 u' 1 ∧ u'.1 = u.1 ∧ u'.2.1 = u.2.1 ∧ (∀ a, a = 0 ∨ 4 < a → u'.2.2 a = u.2.2 a) ∧ (∀ t, t < i → u'.2.2 2 t = u.2.2 2 t ∧ u'.2.2 3 t = u.2.2 3 t ∧ u'.2.2 4 t = u.2.2 4 t) ∧ (∀ t, i ≤ t → t < 7 → (t < k → u'.2.2 2 t = nI (K t) ∧ u'.2.2 3 t = nI (H t)) ∧ u'.2.2 4 t = nI (F t)) ∧ ∀ q, u'.2.2 1 q = if 3 + i ≤ q ∧ q < 10 then nI (q - 3) else u.2.2 1 q
  | 0, fu + 1, i, u, h1, _, h3, h10, h11 => by
    refine ⟨u, ?_, rfl, rfl, fun _ _ => rfl, fun t ht => ⟨rfl, rfl, rfl⟩, fun t a b => by omega, fun q => by rw [if_neg (by omega)]⟩
    rw [M_X7_well_103, if_pos (by rw [show i = 7 by omega]; decide)]
  | m + 1, fu + 1, i, u, h1, h2, h3, h10, h11 => by
    obtain ⟨u', a1, a2, a3, a4, a5, a6, a7⟩ := w103 hk m fu (i + 1) (stepW u i (if i < k then nI (K i) else 0) (if i < k then nI (H i) else 0)) (by omega) (by omega) h3 h10 h11
    have b2 : (stepW u i (if i < k then nI (K i) else 0) (if i < k then nI (H i) else 0)).2.2 2 = upd (u.2.2 2) i (if i < k then nI (K i) else 0) := rfl
    have b3 : (stepW u i (if i < k then nI (K i) else 0) (if i < k then nI (H i) else 0)).2.2 3 = upd (u.2.2 3) i (if i < k then nI (H i) else 0) := rfl
    have b4 : (stepW u i (if i < k then nI (K i) else 0) (if i < k then nI (H i) else 0)).2.2 4 = upd (u.2.2 4) i (u.2.2 11 i) := rfl
    have b1 : (stepW u i (if i < k then nI (K i) else 0) (if i < k then nI (H i) else 0)).2.2 1 = upd (u.2.2 1) (3 + i) (nI i) := rfl
    rw [b1] at a7
    rw [b2, b3, b4] at a5
    refine ⟨u', ?_, a2, a3, fun a ha => (a4 a ha).trans ?_, fun t ht => ?_, fun t t1 t2 => ?_, fun q => ?_⟩
    · rw [w103_s u hk (by omega) h3 h10]; exact a1
    · unfold stepW
      rw [sA_ne (by omega), sA_ne (by omega), sA_ne (by omega), sA_ne (by omega)]
    · have := a5 t (by omega)
      rw [pk_un (by omega), pk_un (by omega), pk_un (by omega)] at this
      exact this
    · by_cases e : t = i
      · subst e
        have := a5 t (by omega)
        rw [pk_us, pk_us, pk_us] at this
        refine ⟨fun hk' => ?_, this.2.2.trans (h11 t t2)⟩
        rw [if_pos hk', if_pos hk'] at this
        exact ⟨this.1, this.2.1⟩
      · exact a6 t (by omega) t2
    · rw [a7 q]
      by_cases e : q = 3 + i
      · subst e
        rw [if_neg (by omega), pk_us, if_pos (by omega), show 3 + i - 3 = i by omega]
      · rw [pk_un e]
        by_cases w : 3 + (i + 1) ≤ q ∧ q < 10
        · rw [if_pos w, if_pos (by omega)]
        · rw [if_neg w, if_neg (by omega)]
theorem w192_s {fu i : Nat} (u : ST) (h1 : i < 4) : M_X7_well_192 (fu + 1) u (nI i) = M_X7_well_192 fu (setA u 1 (upd (u.2.2 1) (944 * i) (-1))) (nI (i + 1)) := by
  rw [M_X7_well_192, if_neg (nl 4 4 rfl h1 (by decide)), show (944 : Int32) * nI i + 0 = nI (944 * i) by rw [show (944 : Int32) = nI 944 from rfl, pk_mul, show nI (944 * i) + 0 = nI (944 * i + 0) from nI_add _ 0]; rfl, wrA_n _ _ _ (by omega) (by decide), Option.bind_some, nI_1]
theorem w192 (u : ST) : M_X7_well_192 10000 u 1 = some (u.1 3, setA u 1 (upd (upd (upd (u.2.2 1) 944 (-1)) 1888 (-1)) 2832 (-1))) := by
  show M_X7_well_192 (9999 + 1) u (nI 1) = _
  rw [w192_s u (by decide)]
  show M_X7_well_192 (9998 + 1) _ (nI 2) = _
  rw [w192_s (fu := 9998) _ (by decide), setA_setA, sA_at]
  show M_X7_well_192 (9997 + 1) _ (nI 3) = _
  rw [w192_s (fu := 9997) _ (by decide), setA_setA, sA_at]
  show M_X7_well_192 (9996 + 1) _ (nI 4) = _
  rw [M_X7_well_192, if_pos (by decide)]
  rfl
theorem well_w {σ τ σ' τ' : ST} {nd fw cm k fc : Nat} {K H F : Nat → Nat} (hR : RelG Wl σ τ) (h1 : nR σ σ') (h2 : nM τ τ') (hk : 0 < k) (hf : fc ≤ 80) (C : RC k fc K H F σ' τ') (Q : RQ nd fw cm σ' τ') : ∃ r σ2 τ2, ((M_X5_begin σ').bind fun o50 => (M_X6_well_55 10000 o50 0).bind fun o55 => some (o55.1, o55.2, true)) = some (r, σ2, true) ∧ ((some (setI τ' 1 (τ'.1 20))).bind fun σ42 => (some (setI σ42 2 (σ42.1 22))).bind fun σ50 => (some (setI σ50 3 (σ50.1 24))).bind fun σ58 => (some (setI σ58 7 (σ58.1 26))).bind fun σ66 => M_X7_well_71 10000 σ66 0) = some (r, τ2) ∧ RelG Wl σ2 τ2 := by
  obtain ⟨c1, c2, c3, c4, c5, c6, c7⟩ := C
  obtain ⟨d1, d2, d3, d4, d5, d6, d7, d8, d9⟩ := Q
  have okc : okC (chT k fc nd fw cm K H F) := ⟨c1, d1, d3, d2, show fc ≤ 99 by omega, fun i hi => ⟨(c6 i hi).2.2.2.2.1, (c6 i hi).2.2.2.2.2, (c7 i (Nat.lt_of_lt_of_le hi c1)).2.2⟩⟩
  have okh : okH (chT k fc nd fw cm K H F) (fun _ => .inr none) 0 := ⟨by omega, fun z => absurd z (Nat.lt_irrefl 0), fun m hm => absurd hm (Nat.not_lt_zero _)⟩
  have hcc : CC (chT k fc nd fw cm K H F) (setI (swS σ') 37 0) := ⟨c2, d4, d6, d5, c3, fun i hi => ⟨(c6 i hi).1, (c6 i hi).2.1, (c7 i (Nat.lt_of_lt_of_le hi c1)).1⟩⟩
  obtain ⟨s1, e1, e2, e3⟩ := replay_c (f := fun _ => .inr none) (n := 0) okc okh hcc rfl (fun m hm => absurd hm (Nat.not_lt_zero _))
  have s33 : s1.1 33 = nI k := (e2.1 33 (by decide) (by decide)).trans c2
  have hcc1 : CC (chT k fc nd fw cm K H F) s1 := hcc.cg e2
  obtain ⟨u1, a1, a2, a3, a4, a5, a6, a7⟩ := w103 (K := K) (H := H) (F := F) c1 7 10000 0 (setA (setI (setI (setI (setI τ' 1 (τ'.1 20)) 2 (τ'.1 22)) 3 (τ'.1 24)) 7 (τ'.1 26)) 1 (upd (zF (τ'.2.2 1) 944) 2 (τ'.1 21))) (by omega) (by omega) c4 (fun t ht => ⟨(c6 t ht).2.2.1, (c6 t ht).2.2.2.1⟩) (fun t ht => (c7 t ht).2.1)
  have hz := w71 (τ := setI (setI (setI (setI τ' 1 (τ'.1 20)) 2 (τ'.1 22)) 3 (τ'.1 24)) 7 (τ'.1 26)) 944 10000 0 (by omega) (by omega)
  rw [zF_0, setA_self] at hz
  have u3 : u1.1 3 = nI k := by rw [a2]; exact c4
  refine ⟨nI k, setI (setI (setI s1 40 (-1)) 41 (-1)) 42 (-1), setA u1 1 (upd (upd (upd (u1.2.2 1) 944 (-1)) 1888 (-1)) 2832 (-1)), ?_, ?_, ?_⟩
  · unfold M_X5_begin
    rw [Option.bind_some, e1, Option.bind_some, Option.bind_some, w55, Option.bind_some, s33]
  · rw [Option.bind_some, Option.bind_some, Option.bind_some, Option.bind_some]
    show M_X7_well_71 10000 (setI (setI (setI (setI τ' 1 (τ'.1 20)) 2 (τ'.1 22)) 3 (τ'.1 24)) 7 (τ'.1 26)) 0 = _
    refine hz.trans (a1.trans ?_)
    rw [w192, u3]
  · have hs : same fAc σ (setI (setI (setI s1 40 (-1)) 41 (-1)) 42 (-1)) := by
      have x1 : same fAc σ σ' := h1.same (by decide) (by decide)
      have si : ∀ k ∈ fAc.1, swi k = k ∧ k ≠ 37 := by decide
      have sa : ∀ k ∈ fAc.2.2, sw k = k := by decide
      have x2 : same fAc σ' (setI (swS σ') 37 0) := ⟨fun k hk => (vu_ne (si k hk).2).trans (congrArg σ'.1 (si k hk).1), fun _ _ => rfl, fun k hk => congrArg σ'.2.2 (sa k hk)⟩
      have x3 : same fAc (setI (swS σ') 37 0) s1 := e2.same (by decide) (by decide) (by decide) (by decide) (by decide)
      exact ((((x1.tr x2).tr x3).sI (by decide)).sI (by decide)).sI (by decide)
    have ht : same fAm τ (setA u1 1 (upd (upd (upd (u1.2.2 1) 944 (-1)) 1888 (-1)) 2832 (-1))) := by
      have x1 : same fAm τ τ' := h2.same (by decide) (by decide)
      have x2 : same fAm τ' (setA (setI (setI (setI (setI τ' 1 (τ'.1 20)) 2 (τ'.1 22)) 3 (τ'.1 24)) 7 (τ'.1 26)) 1 (upd (zF (τ'.2.2 1) 944) 2 (τ'.1 21))) := ((((same.rf.sI (by decide)).sI (by decide)).sI (by decide)).sI (by decide)).sA (by decide)
      have hA : ∀ a ∈ fAm.2.2, a = 0 ∨ 4 < a := by decide
      have x3 : same fAm (setA (setI (setI (setI (setI τ' 1 (τ'.1 20)) 2 (τ'.1 22)) 3 (τ'.1 24)) 7 (τ'.1 26)) 1 (upd (zF (τ'.2.2 1) 944) 2 (τ'.1 21))) u1 := ⟨fun a _ => congrFun a2 a, fun a _ => congrFun a3 a, fun a ha => a4 a (hA a ha)⟩
      exact ((x1.tr x2).tr x3).sA (by decide)
    have hrow : ∀ q, (setA u1 1 (upd (upd (upd (u1.2.2 1) 944 (-1)) 1888 (-1)) 2832 (-1))).2.2 1 q = if q = 2832 then -1 else if q = 1888 then -1 else if q = 944 then -1 else if 3 ≤ q ∧ q < 10 then nI (q - 3) else if q = 2 then nI fw else zF (τ'.2.2 1) 944 q := by
      intro q
      rw [sA_at]
      unfold upd
      rw [a7 q, sA_at]
      unfold upd
      rw [d8]
    refine hR.wl hs ht ⟨chT k fc nd fw cm K H F, fun _ => .inr none, 0, okc, hcc1, ?_, okh, ?_, fun m hm => absurd hm (Nat.not_lt_zero _), e3, ?_, fun t ht => Or.inl ?_⟩
    · refine ⟨?_, ?_, ?_, ?_, fun i hi => ⟨?_, ?_, ?_⟩⟩
      · exact u3
      · show u1.1 1 = _; rw [a2]; exact d7
      · show u1.1 2 = _; rw [a2]; exact d9
      · show u1.1 7 = _; rw [a2]; exact c5
      · exact ((a6 i (Nat.zero_le _) (Nat.lt_of_lt_of_le hi c1)).1 hi).1
      · exact ((a6 i (Nat.zero_le _) (Nat.lt_of_lt_of_le hi c1)).1 hi).2
      · exact (a6 i (Nat.zero_le _) (Nat.lt_of_lt_of_le hi c1)).2
    · exact (e2.1 37 (by decide) (by decide)).trans rfl
    · unfold HM
      refine ⟨?_, fun t ht _ => ?_, fun m hm => absurd hm (Nat.not_lt_zero _)⟩
      · rw [hrow 0]; rfl
      · rw [hrow]
        rw [if_neg (by omega), if_neg (by omega), if_neg (by omega)]
        show _ = nI (if t = 1 then fw else if 2 ≤ t ∧ t < 9 then t - 2 else 0)
        by_cases z1 : t = 1
        · rw [if_pos z1, if_neg (by omega), if_pos (by omega)]
        · rw [if_neg z1]
          by_cases z2 : 2 ≤ t ∧ t < 9
          · rw [if_pos z2, if_pos (by omega), show 0 + 1 + t - 3 = t - 2 by omega]
          · rw [if_neg z2, if_neg (by omega), if_neg (by omega)]
            unfold zF
            rw [if_pos (by omega)]; rfl
    · rw [hrow]
      rcases (show t = 0 ∨ t = 1 ∨ t = 2 by omega) with rfl | rfl | rfl <;> exact ⟨rfl, rfl⟩
theorem pure_well : P_well (RelG Wl) := by
  intro σ τ a hR
  rcases i3 a (n := 4) (by decide) with q | ⟨q, q'⟩ | ⟨j, hj, rfl⟩
  · exact ⟨-1, σ, false, τ, by unfold M_X6_well; rw [refusalOf_lo_t q, Option.bind_some, if_neg nz1], by unfold M_X7_well; rw [isText_lo q, Option.bind_some, if_pos rfl], hR⟩
  · exact ⟨-1, σ, false, τ, by unfold M_X6_well; rw [refusalOf_hi_t q q', Option.bind_some, if_neg nz1], by unfold M_X7_well; rw [isText_hi q q', Option.bind_some, if_pos rfl], hR⟩
  obtain ⟨g1, g2, g3⟩ := hR.2.1 j hj
  rcases g2 with g2 | ⟨n, hn, g2⟩
  · obtain ⟨σ', τ', e1, e2, e3⟩ := refuse_ok Wl_cg hR (k := 1) (v := 1) rfl (by decide)
    refine ⟨-3, σ', false, τ', ?_, ?_, e3⟩
    · unfold M_X6_well; rw [refusalOf_no_t hj g2, e1, Option.bind_some, if_neg nz3]
    · unfold M_X7_well; rw [isText_ok hj, Option.bind_some, if_neg n10, rd_n _ hj (by decide), Option.bind_some, ← g1, g2, if_neg n0m1, e2]; rfl
  · obtain ⟨T, T7⟩ := tx_of hR hj hn g2
    obtain ⟨r, σ', τ', nd, fw, cm, u1, u2, u3, u4, u5⟩ := read_cm T T7
    have ec : M_X6_well σ (nI j) = if r = -9 then ((M_X5_begin σ').bind fun o50 => (M_X6_well_55 10000 o50 0).bind fun o55 => some (o55.1, o55.2, true)) else some (-4, σ', false) := by
      unfold M_X6_well; rw [refusalOf_ok_t hj g2 hn, Option.bind_some, if_pos rfl, u1, Option.bind_some]
    have em : M_X7_well τ (nI j) = if r = -9 then ((some (setI τ' 1 (τ'.1 20))).bind fun σ42 => (some (setI σ42 2 (σ42.1 22))).bind fun σ50 => (some (setI σ50 3 (σ50.1 24))).bind fun σ58 => (some (setI σ58 7 (σ58.1 26))).bind fun σ66 => M_X7_well_71 10000 σ66 0) else some (-4, τ') := by
      unfold M_X7_well; rw [isText_ok hj, Option.bind_some, if_neg n10, rd_n _ hj (by decide), Option.bind_some, T7, if_pos (nI_nonneg (by omega)), u2, Option.bind_some]
    rcases u5 with w | ⟨w, k, fc, K, H, F, hk, hf, hRC, hRQ⟩
    · rw [if_neg w] at ec em
      exact ⟨-4, σ', false, τ', ec, em, hR.rdr Wl_cg u3 u4⟩
    · rw [if_pos w] at ec em
      obtain ⟨r2, σ2, τ2, v1, v2, v3⟩ := well_w hR u3 u4 hk hf hRC hRQ
      exact ⟨r2, σ2, true, τ2, ec.trans v1, em.trans v2, v3⟩
