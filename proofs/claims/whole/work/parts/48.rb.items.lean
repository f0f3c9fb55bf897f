/- houses, feuds, items -/
theorem kd_s {fu i : Nat} (c : Int32) (hi : i < 6) : M_X2_kindOf_2 (fu + 1) c (nI i) = if kindL i = c then some (nI i) else M_X2_kindOf_2 fu c (nI (i + 1)) := by
  rw [M_X2_kindOf_2, if_neg (ng 5 5 rfl (by omega) (by decide)), rd_n _ hi (by decide), Option.bind_some, nI_1]
theorem kd_c (c : Int32) : M_X2_kindOf c = if kindL 0 = c then some (nI 0) else if kindL 1 = c then some (nI 1) else if kindL 2 = c then some (nI 2) else if kindL 3 = c then some (nI 3) else if kindL 4 = c then some (nI 4) else if kindL 5 = c then some (nI 5) else some (-1) := by
  unfold M_X2_kindOf
  show M_X2_kindOf_2 (9999 + 1) c (nI 0) = _
  rw [kd_s c (by decide)]
  show (if _ then _ else M_X2_kindOf_2 (9998 + 1) c (nI 1)) = _
  rw [kd_s (fu := 9998) c (by decide)]
  show (if _ then _ else if _ then _ else M_X2_kindOf_2 (9997 + 1) c (nI 2)) = _
  rw [kd_s (fu := 9997) c (by decide)]
  show (if _ then _ else if _ then _ else if _ then _ else M_X2_kindOf_2 (9996 + 1) c (nI 3)) = _
  rw [kd_s (fu := 9996) c (by decide)]
  show (if _ then _ else if _ then _ else if _ then _ else if _ then _ else M_X2_kindOf_2 (9995 + 1) c (nI 4)) = _
  rw [kd_s (fu := 9995) c (by decide)]
  show (if _ then _ else if _ then _ else if _ then _ else if _ then _ else if _ then _ else M_X2_kindOf_2 (9994 + 1) c (nI 5)) = _
  rw [kd_s (fu := 9994) c (by decide)]
  rfl
theorem kind_cm (c : Int32) : (M_X2_kindOf c = some (-1) ∧ M_X7_kindOfLetter c = some (-9)) ∨ ∃ q, q ≤ 5 ∧ M_X2_kindOf c = some (nI q) ∧ M_X7_kindOfLetter c = some (nI q) := by
  rw [kd_c]
  unfold M_X7_kindOfLetter
  by_cases h0 : c = 104
  · subst h0; exact Or.inr ⟨0, by decide, rfl, rfl⟩
  by_cases h1 : c = 99
  · subst h1; exact Or.inr ⟨1, by decide, rfl, rfl⟩
  by_cases h2 : c = 114
  · subst h2; exact Or.inr ⟨2, by decide, rfl, rfl⟩
  by_cases h3 : c = 100
  · subst h3; exact Or.inr ⟨3, by decide, rfl, rfl⟩
  by_cases h4 : c = 115
  · subst h4; exact Or.inr ⟨4, by decide, rfl, rfl⟩
  by_cases h5 : c = 109
  · subst h5; exact Or.inr ⟨5, by decide, rfl, rfl⟩
  refine Or.inl ⟨?_, ?_⟩
  · rw [if_neg (fun z => h0 z.symm), if_neg (fun z => h1 z.symm), if_neg (fun z => h2 z.symm), if_neg (fun z => h3 z.symm), if_neg (fun z => h4 z.symm), if_neg (fun z => h5 z.symm)]
  · rw [if_neg h0, if_neg h1, if_neg h2, if_neg h3, if_neg h4, if_neg h5]
section RI
variable {σ0 τ0 σ τ : ST} {j n p : Nat} {tx : Nat → Int32} {k fc nd fw cm : Nat} {K H F : Nat → Nat}
theorem addH_c {kd v : Nat} (h7 : k < 7) (C : RC k fc K H F σ τ) : M_X0_addHouse σ (nI kd) (nI v) = some (setI (setA (setA σ 19 (upd (σ.2.2 19) k (nI kd))) 20 (upd (σ.2.2 20) k (nI v))) 23 (nI (k + 1))) := by
  unfold M_X0_addHouse
  rw [C.2.1, if_neg (nl 7 7 rfl h7 (by decide)), wrA_n _ _ _ h7 (by decide), Option.bind_some, show (setA σ 19 (upd (σ.2.2 19) k (nI kd))).1 23 = nI k from C.2.1, wrA_n _ _ _ h7 (by decide), Option.bind_some, Option.bind_some]
  show some (setI (setA (setA σ 19 (upd (σ.2.2 19) k (nI kd))) 20 (upd (σ.2.2 20) k (nI v))) 23 (σ.1 23 + 1)) = _
  rw [C.2.1, nI_1]
theorem RC.house {kd v : Nat} (h7 : k < 7) (hk : kd ≤ 5) (hv : v ≤ 9) (C : RC k fc K H F σ τ) : RC (k + 1) fc (fun i => if i = k then kd else K i) (fun i => if i = k then v else H i) F (setI (setA (setA σ 19 (upd (σ.2.2 19) k (nI kd))) 20 (upd (σ.2.2 20) k (nI v))) 23 (nI (k + 1))) (setI (setA τ 10 (upd (upd (τ.2.2 10) (2 * k) (nI kd)) (2 * k + 1) (nI v))) 24 (nI (k + 1))) := by
  obtain ⟨c1, c2, c3, c4, c5, c6, c7⟩ := C
  refine ⟨by omega, rfl, c3, rfl, c5, fun i hi => ?_, c7⟩
  show upd (σ.2.2 19) k (nI kd) i = nI (if i = k then kd else K i) ∧ upd (σ.2.2 20) k (nI v) i = nI (if i = k then v else H i) ∧ upd (upd (τ.2.2 10) (2 * k) (nI kd)) (2 * k + 1) (nI v) (2 * i) = nI (if i = k then kd else K i) ∧ upd (upd (τ.2.2 10) (2 * k) (nI kd)) (2 * k + 1) (nI v) (2 * i + 1) = nI (if i = k then v else H i) ∧ (if i = k then kd else K i) ≤ 5 ∧ (if i = k then v else H i) ≤ 9
  by_cases e : i = k
  · subst e
    rw [if_pos rfl, if_pos rfl, pk_us, pk_us, pk_us, pk_un (by omega), pk_us]
    exact ⟨rfl, rfl, rfl, rfl, hk, hv⟩
  · rw [if_neg e, if_neg e, pk_un e, pk_un e, pk_un (by omega), pk_un (by omega), pk_un (by omega), pk_un (by omega)]
    exact c6 i (by omega)
theorem house_l (T : TX σ0 τ0 j n tx) (B : RB σ0 τ0 j n p σ τ) (q : p < n) (hfc : fc < 2 ^ 31) (C : RC k fc K H F σ τ) (Q : RQ nd fw cm σ τ) : (∃ p' σ' τ', p' ≤ n ∧ M_X2_readHouse σ = some (0, σ') ∧ M_X7_readsHouse τ = some (0, τ') ∧ RB σ0 τ0 j n p' σ' τ') ∨ ∃ p' fc' K' H' F' k' σ' τ', p < p' ∧ p' ≤ n ∧ fc' ≤ fc + 1 ∧ M_X2_readHouse σ = some (1, σ') ∧ M_X7_readsHouse τ = some (1, τ') ∧ RB σ0 τ0 j n p' σ' τ' ∧ RC k' fc' K' H' F' σ' τ' ∧ RQ nd fw cm σ' τ' := by
  have h80 := T.2.1
  have h7 := C.1
  generalize hx : M_X2_readHouse σ = x
  generalize hy : M_X7_readsHouse τ = y
  unfold M_X2_readHouse at hx
  unfold M_X7_readsHouse at hy
  rw [sign_c T B q, Option.bind_some] at hx
  rw [here_m T B q, Option.bind_some] at hy
  rcases kind_cm (tx p) with ⟨e1, e2⟩ | ⟨kd, hkd, e1, e2⟩
  · rw [e1, Option.bind_some, if_pos rfl] at hx
    rw [e2, Option.bind_some, if_pos rfl] at hy
    exact Or.inl ⟨p, σ, τ, by omega, hx.symm, hy.symm, B⟩
  rw [e1, Option.bind_some, if_neg (m1_ne (by omega)), C.2.1, C.2.2.1] at hx
  rw [e2, Option.bind_some, if_neg (m9_ne (by omega)), C.2.2.2.1, C.2.2.2.2.1] at hy
  by_cases k7 : k = 7
  · rw [if_pos (show (7 : Int32) ≤ nI k by rw [k7]; decide)] at hx
    rw [if_pos (show nI k = 7 by rw [k7]; rfl)] at hy
    exact Or.inl ⟨p, σ, τ, by omega, hx.symm, hy.symm, B⟩
  rw [if_neg (nl 7 7 rfl (show k < 7 by omega) (by decide))] at hx
  rw [if_neg (fun z => k7 ((nI_is 7 7 rfl (by omega) (by decide)).mp z))] at hy
  by_cases f0 : fc = 0
  · rw [if_pos (show nI fc ≤ 0 by rw [f0]; decide), Option.bind_some, B.2.2.2.1, nI_1] at hx
    rw [if_pos (show nI fc ≤ 0 by rw [f0]; decide), Option.bind_some, B.2.2.2.2.2.1, nI_1] at hy
    have B1 := B.mv (p + 1)
    have C1 : RC k fc K H F (setI σ 13 (nI (p + 1))) (setI τ 18 (nI (p + 1))) := C
    have Q1 : RQ nd fw cm (setI σ 13 (nI (p + 1))) (setI τ 18 (nI (p + 1))) := Q
    generalize setI σ 13 (nI (p + 1)) = s1 at hx B1 C1 Q1
    generalize setI τ 18 (nI (p + 1)) = u1 at hy B1 C1 Q1
    rcases tf_l T B1 (by omega) (a := 0) (b := 9) (by omega) (by omega) with ⟨e1, e2⟩ | ⟨v, v1, v2, v3, e1, e2⟩
    · rw [show M_X2_takeFigure s1 0 9 = _ from e1, Option.bind_some, if_pos rfl] at hx
      rw [show M_X7_figure u1 0 9 = _ from e2, Option.bind_some, if_pos rfl] at hy
      exact Or.inl ⟨p + 1, s1, u1, by omega, hx.symm, hy.symm, B1⟩
    · rw [show M_X2_takeFigure s1 0 9 = _ from e1, Option.bind_some, if_neg (m1_ne (by omega))] at hx
      rw [show M_X7_figure u1 0 9 = _ from e2, Option.bind_some, if_neg (m9_ne (by omega))] at hy
      have B2 := B1.mv (p + 1 + 1)
      have C2 : RC k fc K H F (setI s1 13 (nI (p + 1 + 1))) (setI u1 18 (nI (p + 1 + 1))) := C1
      have Q2 : RQ nd fw cm (setI s1 13 (nI (p + 1 + 1))) (setI u1 18 (nI (p + 1 + 1))) := Q1
      generalize setI s1 13 (nI (p + 1 + 1)) = s2 at hx B2 C2 Q2
      generalize setI u1 18 (nI (p + 1 + 1)) = u2 at hy B2 C2 Q2
      rw [addH_c (by omega) C2, Option.bind_some, okZ_1, Option.bind_some] at hx
      rw [C2.2.2.2.1, show (2 : Int32) * nI k = nI (2 * k) by rw [show (2 : Int32) = nI 2 from rfl, pk_mul], wrA_n _ _ _ (by omega) (by decide), Option.bind_some, show (setA u2 10 (upd (u2.2.2 10) (2 * k) (nI kd))).1 24 = nI k from C2.2.2.2.1, show (2 : Int32) * nI k = nI (2 * k) by rw [show (2 : Int32) = nI 2 from rfl, pk_mul], nI_1, wrA_n _ _ _ (by omega) (by decide), Option.bind_some, setA_setA, sA_at, Option.bind_some, okZ_1, Option.bind_some, show (setA u2 10 (upd (upd (u2.2.2 10) (2 * k) (nI kd)) (2 * k + 1) (nI v))).1 24 = nI k from C2.2.2.2.1, nI_1] at hy
      exact Or.inr ⟨p + 1 + 1, fc, _, _, F, k + 1, _, _, by omega, by omega, by omega, hx.symm, hy.symm, ((((B2.cA (by omega)).cA (by omega)).c (by omega)).mA (by omega)).m (by omega), C2.house (by omega) hkd v2, Q2⟩
  · rw [if_neg (nI_nle (by omega) hfc)] at hx hy
    exact Or.inl ⟨p, σ, τ, by omega, hx.symm, hy.symm, B⟩
theorem addF_c {a b : Nat} (ha : a < 7) (hb : b < 7) (hab : a ≠ b) (hfc : σ.1 24 = nI fc) (hF : ∀ i, i < 7 → σ.2.2 21 i = nI (F i)) : M_X0_addFeud σ (nI a) (nI b) = some (setI (setA σ 21 (upd (upd (σ.2.2 21) a (nI (F a ||| 2 ^ b))) b (nI (F b ||| 2 ^ a)))) 24 (nI (fc + 1))) := by
  unfold M_X0_addFeud
  rw [rd_n _ ha (by decide), Option.bind_some, hF a ha, shl1 (by omega), nx_or, wrA_n _ _ _ ha (by decide), Option.bind_some, sA_at, rd_n _ hb (by decide), Option.bind_some, pk_un (fun z => hab z.symm), hF b hb, shl1 (by omega), nx_or, wrA_n _ _ _ hb (by decide), Option.bind_some, setA_setA, sA_at, Option.bind_some]
  show some (setI (setA σ 21 _) 24 (σ.1 24 + 1)) = _
  rw [hfc, nI_1]
theorem RC.feud {a b : Nat} (ha : a < 7) (hb : b < 7) (hab : a ≠ b) (C : RC k fc K H F σ τ) : RC k (fc + 1) K H (fun i => if i = b then F b ||| 2 ^ a else if i = a then F a ||| 2 ^ b else F i) (setI (setA σ 21 (upd (upd (σ.2.2 21) a (nI (F a ||| 2 ^ b))) b (nI (F b ||| 2 ^ a)))) 24 (nI (fc + 1))) (setI (setA τ 11 (upd (upd (τ.2.2 11) a (nI (F a ||| 2 ^ b))) b (nI (F b ||| 2 ^ a)))) 26 (nI (fc + 1))) := by
  obtain ⟨c1, c2, c3, c4, c5, c6, c7⟩ := C
  refine ⟨c1, c2, rfl, c4, rfl, c6, fun i hi => ?_⟩
  have la := orbit_lt b hb (F a) (c7 a ha).2.2
  have lb := orbit_lt a ha (F b) (c7 b hb).2.2
  show upd (upd (σ.2.2 21) a (nI (F a ||| 2 ^ b))) b (nI (F b ||| 2 ^ a)) i = nI (if i = b then F b ||| 2 ^ a else if i = a then F a ||| 2 ^ b else F i) ∧ upd (upd (τ.2.2 11) a (nI (F a ||| 2 ^ b))) b (nI (F b ||| 2 ^ a)) i = nI (if i = b then F b ||| 2 ^ a else if i = a then F a ||| 2 ^ b else F i) ∧ (if i = b then F b ||| 2 ^ a else if i = a then F a ||| 2 ^ b else F i) < 128
  by_cases e1 : i = b
  · subst e1
    rw [if_pos rfl, pk_us, pk_us]
    exact ⟨rfl, rfl, lb⟩
  · rw [if_neg e1, pk_un e1, pk_un e1]
    by_cases e2 : i = a
    · subst e2
      rw [if_pos rfl, pk_us, pk_us]
      exact ⟨rfl, rfl, la⟩
    · rw [if_neg e2, pk_un e2, pk_un e2]
      exact c7 i hi
theorem feud_l (T : TX σ0 τ0 j n tx) (B : RB σ0 τ0 j n p σ τ) (q : p < n) (C : RC k fc K H F σ τ) (Q : RQ nd fw cm σ τ) : (∃ p' σ' τ', p' ≤ n ∧ M_X2_readFeud σ = some (0, σ') ∧ M_X7_readsFeud τ = some (0, τ') ∧ RB σ0 τ0 j n p' σ' τ') ∨ ∃ p' fc' K' H' F' k' σ' τ', p < p' ∧ p' ≤ n ∧ fc' ≤ fc + 1 ∧ M_X2_readFeud σ = some (1, σ') ∧ M_X7_readsFeud τ = some (1, τ') ∧ RB σ0 τ0 j n p' σ' τ' ∧ RC k' fc' K' H' F' σ' τ' ∧ RQ nd fw cm σ' τ' := by
  have h80 := T.2.1
  have h7 := C.1
  generalize hx : M_X2_readFeud σ = x
  generalize hy : M_X7_readsFeud τ = y
  unfold M_X2_readFeud at hx
  unfold M_X7_readsFeud at hy
  rw [C.2.1] at hx
  rw [C.2.2.2.1] at hy
  by_cases k0 : k = 0
  · rw [k0, if_pos n00] at hx hy
    exact Or.inl ⟨p, σ, τ, by omega, hx.symm, hy.symm, B⟩
  rw [if_neg (nI_ne0 (by omega) (by omega)), Option.bind_some, B.2.2.2.1, nI_1] at hx
  rw [if_neg (nI_ne0 (by omega) (by omega)), Option.bind_some, B.2.2.2.2.2.1, nI_1] at hy
  have km : nI k - 1 = nI (k - 1) := by rw [show (1 : Int32) = nI 1 from rfl, pk_sub (by omega)]
  have B1 := B.mv (p + 1)
  have C1 : RC k fc K H F (setI σ 13 (nI (p + 1))) (setI τ 18 (nI (p + 1))) := C
  have Q1 : RQ nd fw cm (setI σ 13 (nI (p + 1))) (setI τ 18 (nI (p + 1))) := Q
  generalize setI σ 13 (nI (p + 1)) = s1 at hx B1 C1 Q1
  generalize setI τ 18 (nI (p + 1)) = u1 at hy B1 C1 Q1
  rw [C1.2.1, km] at hx
  rw [C1.2.2.2.1, km] at hy
  rcases tf_l T B1 (by omega) (a := 0) (b := k - 1) (by omega) (by omega) with ⟨e1, e2⟩ | ⟨a, a1, a2, a3, e1, e2⟩
  · rw [show M_X2_takeFigure s1 0 (nI (k - 1)) = _ from e1, Option.bind_some, if_pos rfl] at hx
    rw [show M_X7_figure u1 0 (nI (k - 1)) = _ from e2, Option.bind_some, if_pos rfl] at hy
    unfold M_X7_readsFeud_55 at hy
    rw [if_pos rfl] at hy
    exact Or.inl ⟨p + 1, s1, u1, by omega, hx.symm, hy.symm, B1⟩
  rw [show M_X2_takeFigure s1 0 (nI (k - 1)) = _ from e1, Option.bind_some, if_neg (m1_ne (by omega)), nI_1] at hx
  rw [show M_X7_figure u1 0 (nI (k - 1)) = _ from e2, Option.bind_some, if_neg (m9_ne (by omega)), nI_1] at hy
  have B2 := B1.mv (p + 1 + 1)
  have C2 : RC k fc K H F (setI s1 13 (nI (p + 1 + 1))) (setI u1 18 (nI (p + 1 + 1))) := C1
  have Q2 : RQ nd fw cm (setI s1 13 (nI (p + 1 + 1))) (setI u1 18 (nI (p + 1 + 1))) := Q1
  generalize setI s1 13 (nI (p + 1 + 1)) = s2 at hx B2 C2 Q2
  generalize setI u1 18 (nI (p + 1 + 1)) = u2 at hy B2 C2 Q2
  rw [C2.2.1, km] at hx
  rw [C2.2.2.2.1, km] at hy
  have ha7 : a < 7 := by omega
  rcases fig_l T B2 (by omega) (a := a + 1) (b := k - 1) (by omega) (by omega) with ⟨e1, e2⟩ | ⟨b, b1, b2, b3, e1, e2⟩
  · rw [e1, Option.bind_some, if_pos rfl] at hx
    rw [e2, Option.bind_some] at hy
    unfold M_X7_readsFeud_55 at hy
    rw [if_pos rfl] at hy
    exact Or.inl ⟨p + 1 + 1, s2, u2, by omega, hx.symm, hy.symm, B2⟩
  have hb7 : b < 7 := by omega
  have lFa := (C2.2.2.2.2.2.2 a ha7).2.2
  rw [e1, Option.bind_some, if_neg (m1_ne (by omega)), rd_n _ ha7 (by decide), Option.bind_some, (C2.2.2.2.2.2.2 a ha7).1, isIn_c (by omega) (by omega), Option.bind_some] at hx
  rw [e2, Option.bind_some] at hy
  unfold M_X7_readsFeud_55 at hy
  have e11 : (setI u2 18 (nI (p + 1 + 1 + 1))).2.2 11 = u2.2.2 11 := rfl
  rw [if_neg (m9_ne (by omega)), e11, rd_n _ ha7 (by decide), Option.bind_some, (C2.2.2.2.2.2.2 a ha7).2.1, has_m (by omega) (by omega), Option.bind_some] at hy
  cases hb : (F a).testBit b with
  | true =>
    rw [hb, if_neg (by decide)] at hx
    rw [hb, if_neg (by decide), Option.bind_some, show (setI u2 18 (nI (p + 1 + 1 + 1))).1 18 = nI (p + 1 + 1 + 1) from rfl, m1_n, setI_setI, setI_sf B2.2.2.2.2.2.1] at hy
    exact Or.inl ⟨p + 1 + 1, s2, u2, by omega, hx.symm, hy.symm, B2⟩
  | false =>
    rw [hb, if_pos bf0, Option.bind_some, B2.2.2.2.1, nI_1] at hx
    rw [hb, if_pos bf0, Option.bind_some] at hy
    have B3 := B2.mv (p + 1 + 1 + 1)
    have C3 : RC k fc K H F (setI s2 13 (nI (p + 1 + 1 + 1))) (setI u2 18 (nI (p + 1 + 1 + 1))) := C2
    have Q3 : RQ nd fw cm (setI s2 13 (nI (p + 1 + 1 + 1))) (setI u2 18 (nI (p + 1 + 1 + 1))) := Q2
    generalize setI s2 13 (nI (p + 1 + 1 + 1)) = s3 at hx B3 C3 Q3
    dsimp only at hy
    generalize setI u2 18 (nI (p + 1 + 1 + 1)) = u3 at hy B3 C3 Q3
    rw [addF_c ha7 hb7 (by omega) C3.2.2.1 (fun i hi => (C3.2.2.2.2.2.2 i hi).1), Option.bind_some, okZ_1, Option.bind_some] at hx
    rw [shl1 (by omega), nx_or, wrA_n _ _ _ ha7 (by decide), Option.bind_some, sA_at, rd_n _ hb7 (by decide), Option.bind_some, pk_un (by omega), (C3.2.2.2.2.2.2 b hb7).2.1, shl1 (by omega), nx_or, wrA_n _ _ _ hb7 (by decide), Option.bind_some, setA_setA, sA_at, Option.bind_some, okZ_1, Option.bind_some] at hy
    have e26 : ∀ f, (setA u3 11 f).1 26 = nI fc := fun f => C3.2.2.2.2.1
    rw [e26, nI_1] at hy
    exact Or.inr ⟨p + 1 + 1 + 1, fc + 1, K, H, _, k, _, _, by omega, by omega, by omega, hx.symm, hy.symm, (((B3.cA (by omega)).c (by omega)).mA (by omega)).m (by omega), C3.feud ha7 hb7 (by omega), Q3⟩
end RI
