/- weeks by lots -/
def ris (s : Nat) : Nat → Nat → List Nat
  | _, 0 => []
  | i, m + 1 => if s.testBit i then i :: ris s (i + 1) m else ris s (i + 1) m
theorem rising_all : ∀ s, s < 128 → M_X6_meetingRising (nI s) = some (nI (enc (.inl (ris s 0 7)))) := by decide +kernel
theorem ris_h : ∀ h, h < 8 → ∀ s, s < 2 ^ h → ris s 0 7 = ris s 0 h := by decide +kernel
theorem ris_ok : ∀ h, h < 8 → ∀ s, s < 2 ^ h → (ris s 0 h).length ≤ 7 ∧ ∀ i ∈ ris s 0 h, i < h := by decide +kernel
theorem doLot_16 {C : VT} {D0 : Nat} {τ : ST} {s : Nat} (hC : okC C) (hm : D0 ≤ 40) (hc : CM C τ) (hs : s < 128) : ∀ (m fu i acc : Nat) (h : Nat → Int32) (D : DT), i + m = C 0 0 → m < fu → rpr h D → okD C D0 D → ∃ h', M_X7_doLot_16 fu (setA τ 1 h) (nI s) (nI acc) (nI i) = M_X7_doLot_50 (setA τ 1 h') (nI (acc + (D 1 - drs C D (ris s i m) 1))) ∧ rpr h' (drs C D (ris s i m)) ∧ ∀ q, q = 0 ∨ 24 ≤ q → h' q = h q
  | 0, fu + 1, i, acc, h, D, h1, _, hr, _ => by
    have c7 := hC.1
    have e3 : (setA τ 1 h).1 3 = nI (C 0 0) := hc.1
    refine ⟨h, ?_, hr, fun _ _ => rfl⟩
    rw [M_X7_doLot_16, e3, if_pos (nI_le (by omega) (by omega))]
    show _ = M_X7_doLot_50 (setA τ 1 h) (nI (acc + (D 1 - D 1)))
    rw [Nat.sub_self, Nat.add_zero]
  | m + 1, fu + 1, i, acc, h, D, h1, h2, hr, hD => by
    have c7 := hC.1
    have e3 : (setA τ 1 h).1 3 = nI (C 0 0) := hc.1
    have hi : i < C 0 0 := by omega
    cases hb : s.testBit i with
    | false =>
      obtain ⟨h', u1, u2, u3⟩ := doLot_16 hC hm hc hs m fu (i + 1) acc h D (by omega) (by omega) hr hD
      have er : ris s i (m + 1) = ris s (i + 1) m := by rw [ris, hb]; rfl
      refine ⟨h', ?_, by rw [er]; exact u2, u3⟩
      rw [M_X7_doLot_16, e3, if_neg (nI_ge hi (by omega)), has_m (by omega) (by omega), hb, Option.bind_some, if_pos bf0, nI_1, show nI acc + 0 = nI (acc + 0) from nI_add acc 0, Nat.add_zero, u1, er]
    | true =>
      have ha := am_le C D i
      obtain ⟨h', u1, u2, u3⟩ := doLot_16 hC hm hc hs m fu (i + 1) (acc + am C D i) (dwF C D i h) (dr1 C D i) (by omega) (by omega) (rpr_dw (by omega) hr) (hD.dr1 c7 hi)
      have er : ris s i (m + 1) = i :: ris s (i + 1) m := by rw [ris, hb]; rfl
      refine ⟨h', ?_, by rw [er]; exact u2, fun q hq => (u3 q hq).trans (dwF_o C D h (by omega) hq)⟩
      have hd := drs_le C (ris s (i + 1) m) (dr1 C D i)
      rw [dr1_1] at hd u1
      rw [M_X7_doLot_16, e3, if_neg (nI_ge hi (by omega)), has_m (by omega) (by omega), hb, Option.bind_some, if_neg (by decide), draws_m hC hm hc hD hr hi, Option.bind_some, nI_1, er]
      show M_X7_doLot_16 fu (setA τ 1 (dwF C D i h)) (nI s) (nI acc + nI (am C D i)) (nI (i + 1)) = M_X7_doLot_50 (setA τ 1 h') (nI (acc + (D 1 - drs C (dr1 C D i) (ris s (i + 1) m) 1)))
      rw [nI_add, u1, show acc + am C D i + (D 1 - am C D i - drs C (dr1 C D i) (ris s (i + 1) m) 1) = acc + (D 1 - drs C (dr1 C D i) (ris s (i + 1) m) 1) by omega]
