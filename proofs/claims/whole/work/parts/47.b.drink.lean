/- drink: both tables -/
theorem lowb : ∀ l, l < 128 → 0 < l → ∃ b, b < 7 ∧ l.testBit b = true ∧ nI l &&& (-nI l) = nI (2 ^ b) := by decide +kernel
theorem andb : ∀ b, b < 7 → ∀ s, s < 128 → (nI s &&& nI (2 ^ b) = 0 ↔ s.testBit b = false) := by decide +kernel
section DK
variable {P : Nat → Bool} {N : Nat} {σ : ST}
def IV (P : Nat → Bool) (N l b i : Nat) (v : Int32) : Prop := (v = -9 ∧ ∀ s, s < i → P s = true → s.testBit b = true → ∀ m, ¬ cv P N m (dm l s)) ∨ ∃ m, m ≤ 7 ∧ v = nI (m + 1) ∧ (∃ s, s < N ∧ P s = true ∧ cv P N m (dm l s)) ∧ ∀ s, s < i → P s = true → s.testBit b = true → ∀ m', cv P N m' (dm l s) → m ≤ m'
theorem ftl_11 (hk : LKp P N σ) {l b : Nat} (hl : l < 128) (hb : b < 7) (hlb : l.testBit b = true) (hG : ∀ l', l' < l → TV P N l' (σ.2.2 34 l')) : ∀ (m fu i : Nat) (v : Int32), i + m = N → m < fu → IV P N l b i v → ∃ v', M_X4_fewestToCoverByLesser_11 σ fu (nI l) v (nI (2 ^ b)) (nI i) = some v' ∧ IV P N l b N v'
  | 0, fu + 1, i, v, hi, _, h => by
    have h1 := hk.1
    obtain rfl : i = N := by omega
    exact ⟨v, by rw [M_X4_fewestToCoverByLesser_11, hk.2.1, if_pos (nI_le (by omega) (by omega))], h⟩
  | m + 1, fu + 1, i, v, hi, hf, h => by
    have h1 := hk.1
    have hlt : i < N := by omega
    have nx : (∀ m, P i = true → i.testBit b = true → ¬ cv P N m (dm l i)) → IV P N l b (i + 1) v := by
      intro hno
      rcases h with ⟨e, h⟩ | ⟨m0, a1, a2, a3, a4⟩
      · refine Or.inl ⟨e, fun s hs hP hsb m' => ?_⟩
        by_cases q : s = i
        · subst q; exact hno m' hP hsb
        · exact h s (by omega) hP hsb m'
      · refine Or.inr ⟨m0, a1, a2, a3, fun s hs hP hsb m' hc => ?_⟩
        by_cases q : s = i
        · subst q; exact absurd hc (hno m' hP hsb)
        · exact a4 s (by omega) hP hsb m' hc
    have ih := fun v hv => ftl_11 hk hl hb hlb hG m fu (i + 1) v (by omega) (by omega) hv
    rw [M_X4_fewestToCoverByLesser_11, hk.2.1, if_neg (nI_ge hlt (by omega)), rd_n _ (by omega) (by decide), Option.bind_some, hk.2.2 i hlt, nI_1]
    cases hP : P i with
    | false =>
      rw [if_pos bf0]
      exact ih v (nx (fun _ z => by rw [hP] at z; cases z))
    | true =>
      rw [if_neg (by decide)]
      cases hib : i.testBit b with
      | false =>
        rw [if_pos ((andb b hb i (by omega)).mpr hib)]
        exact ih v (nx (fun _ _ z => by rw [hib] at z; cases z))
      | true =>
        have hd := dm_lt hl hlb hib
        rw [if_neg (fun z => by have := (andb b hb i (by omega)).mp z; rw [hib] at this; cases this), nx_dm i hl, rd_n _ (by omega) (by decide), Option.bind_some]
        rcases hG _ hd with ⟨e, hno⟩ | ⟨m1, c1, c2, c3, c4⟩
        · rw [if_pos e]
          exact ih v (nx (fun m' _ _ => hno m'))
        · rw [c2, if_neg (m9_ne (by omega)), nI_1]
          rcases h with ⟨e, h⟩ | ⟨m0, a1, a2, a3, a4⟩
          · rw [e, if_pos rfl]
            refine ih _ (Or.inr ⟨m1, c1, rfl, ⟨i, hlt, hP, c3⟩, fun s hs hPs hsb m' hc => ?_⟩)
            by_cases z : s = i
            · subst z; exact c4 m' hc
            · exact absurd hc (h s (by omega) hPs hsb m')
          · rw [a2, if_neg (m9_ne (by omega))]
            by_cases q : m0 ≤ m1
            · rw [if_pos (nI_le (by omega) (by omega))]
              refine ih _ (Or.inr ⟨m0, a1, rfl, a3, fun s hs hPs hsb m' hc => ?_⟩)
              by_cases z : s = i
              · subst z; exact Nat.le_trans q (c4 m' hc)
              · exact a4 s (by omega) hPs hsb m' hc
            · rw [if_neg (nI_ge (by omega) (by omega))]
              refine ih _ (Or.inr ⟨m1, c1, rfl, ⟨i, hlt, hP, c3⟩, fun s hs hPs hsb m' hc => ?_⟩)
              by_cases z : s = i
              · subst z; exact c4 m' hc
              · exact Nat.le_trans (by omega) (a4 s (by omega) hPs hsb m' hc)
theorem TV_0 : TV P N 0 0 := Or.inr ⟨0, by omega, rfl, rfl, fun _ _ => Nat.zero_le _⟩
theorem ftl_c (hk : LKp P N σ) {l : Nat} (hl : l < 128) (h0 : 0 < l) (hG : ∀ l', l' < l → TV P N l' (σ.2.2 34 l')) : ∃ v, M_X4_fewestToCoverByLesser σ (nI l) = some v ∧ TV P N l v := by
  have h1 := hk.1
  obtain ⟨b, hb, hlb, eb⟩ := lowb l hl h0
  obtain ⟨v, u1, u2⟩ := ftl_11 hk hl hb hlb hG N 10000 0 (-9) (by omega) (by omega) (Or.inl ⟨rfl, fun s hs => absurd hs (Nat.not_lt_zero _)⟩)
  refine ⟨v, ?_, ?_⟩
  · unfold M_X4_fewestToCoverByLesser
    rw [eb]; exact u1
  · rcases u2 with ⟨e, h⟩ | ⟨m, a1, a2, ⟨s, b1, b2, b3⟩, a4⟩
    · refine Or.inl ⟨e, fun m hc => ?_⟩
      obtain ⟨m', rfl, s, hs, hP, hsb, hcs⟩ := cv_pick m l b hl hlb hc
      exact h s hs hP hsb m' hcs
    · have hmin : ∀ m', cv P N m' l → m + 1 ≤ m' := by
        intro m' hc
        obtain ⟨m2, rfl, s, hs, hP, hsb, hcs⟩ := cv_pick m' l b hl hlb hc
        have := a4 s hs hP hsb m2 hcs
        omega
      have hc : cv P N (m + 1) l := Or.inr ⟨s, b1, b2, b3⟩
      exact Or.inr ⟨m + 1, hmin 7 (cv_small 7 (m + 1) l (Nat.le_refl _) hl hc), a2, hc, hmin⟩
theorem ftc_9 {t : Nat} (ht : t < N) : ∀ (m fu i : Nat) (G : Nat → Int32), LKp P N σ → i + m = N → m < fu → 0 < i → (∀ l, l < i → TV P N l (G l)) → ∃ G', M_X4_fewestToCover_9 fu (setA σ 34 G) (nI t) (nI i) = some (G' t, setA σ 34 G') ∧ ∀ l, l < N → TV P N l (G' l)
  | 0, fu + 1, i, G, hk, hi, _, _, hG => by
    have h1 := hk.1
    obtain rfl : i = N := by omega
    refine ⟨G, ?_, hG⟩
    have e38 : (setA σ 34 G).1 38 = nI i := hk.2.1
    rw [M_X4_fewestToCover_9, e38, if_pos (nI_le (by omega) (by omega)), if_neg (nI_pos (by omega)), if_neg (nI_ge ht (by omega)), sA_at, rd_n _ (by omega) (by decide), Option.bind_some]
  | m + 1, fu + 1, i, G, hk, hi, hf, h0, hG => by
    have h1 := hk.1
    have e38 : (setA σ 34 G).1 38 = nI N := hk.2.1
    have hk' : LKp P N (setA σ 34 G) := hk.cg (same.rf.sA (by decide))
    obtain ⟨v, u1, u2⟩ := ftl_c hk' (l := i) (by omega) h0 (fun l' hl' => by rw [sA_at]; exact hG l' hl')
    obtain ⟨G', w1, w2⟩ := ftc_9 ht m fu (i + 1) (upd G i v) hk (by omega) (by omega) (by omega) (fun l hl => by
      by_cases e : l = i
      · subst e; rw [pk_us]; exact u2
      · rw [pk_un e]; exact hG l (by omega))
    refine ⟨G', ?_, w2⟩
    rw [M_X4_fewestToCover_9, e38, if_neg (nI_ge (by omega) (by omega)), u1, Option.bind_some, wrA_n _ _ _ (by omega) (by decide), Option.bind_some, setA_setA, sA_at, nI_1]
    exact w1
theorem ftc_c (hk : LKp P N σ) {t : Nat} (ht : t < N) : ∃ G', M_X4_fewestToCover σ (nI t) = some (G' t, setA σ 34 G') ∧ ∀ l, l < N → TV P N l (G' l) := by
  have h1 := hk.1
  obtain ⟨G', w1, w2⟩ := ftc_9 ht (N - 1) 10000 1 (upd (σ.2.2 34) 0 0) hk (by omega) (by omega) (by omega) (fun l hl => by
    obtain rfl : l = 0 := by omega
    rw [pk_us]; exact TV_0)
  refine ⟨G', ?_, w2⟩
  unfold M_X4_fewestToCover
  rw [show wrA 128 σ 34 0 0 = _ from wrA_n (j := 0) _ _ _ (by decide) (by decide), Option.bind_some]
  exact w1
theorem lth_2 (hk : LKp P N σ) {l m s : Nat} (hl : l < N) (hT : ∀ l', l' < N → TV P N l' (σ.2.2 34 l')) (hv : σ.2.2 34 l = nI (m + 1)) (h0 : ¬ cv P N m l) (hm : m ≤ 7) (hs : LH P N m l s) : ∀ (d fu i : Nat), i + d = s → d < fu → M_X4_leastThatHelps_2 σ fu (nI l) (nI i) = some (nI s) := by
  have h1 := hk.1
  have e1 : nI (m + 1) - 1 = nI m := m1_n m
  have st : ∀ fu i, i < N → M_X4_leastThatHelps_2 σ (fu + 1) (nI l) (nI i) = if b01 (P i) = 0 then M_X4_leastThatHelps_2 σ fu (nI l) (nI (i + 1)) else if σ.2.2 34 (dm l i) = nI m then some (nI i) else M_X4_leastThatHelps_2 σ fu (nI l) (nI (i + 1)) := by
    intro fu i hi
    have hd := dm_le l i
    rw [M_X4_leastThatHelps_2, hk.2.1, if_neg (nI_ge hi (by omega)), rd_n _ (by omega) (by decide), Option.bind_some, hk.2.2 i hi, nx_dm i (by omega), rd_n _ (by omega) (by decide), Option.bind_some, rd_n _ (by omega) (by decide), Option.bind_some, hv, e1, nI_1]
  intro d
  induction d with
  | zero =>
    intro fu i hi hf
    obtain rfl : i = s := by omega
    obtain ⟨fu, rfl⟩ : ∃ f, fu = f + 1 := ⟨fu - 1, by omega⟩
    obtain ⟨a1, a2, a3, a4⟩ := hs
    have hd := dm_le l i
    rw [st fu i a1, a2, if_neg (by decide)]
    rcases hT (dm l i) (by omega) with ⟨e, hno⟩ | ⟨m0, c1, c2, c3, c4⟩
    · exact absurd a3 (hno m)
    · have q1 := c4 m a3
      have q2 : m ≤ m0 := by
        apply Decidable.byContradiction
        intro z
        have hcc : cv P N (m0 + 1) l := Or.inr ⟨i, a1, a2, c3⟩
        exact h0 (cv_le hcc (by omega))
      rw [c2, show m0 = m by omega, if_pos rfl]
  | succ d ih =>
    intro fu i hi hf
    obtain ⟨fu, rfl⟩ : ∃ f, fu = f + 1 := ⟨fu - 1, by omega⟩
    have ih := ih fu (i + 1) (by omega) (by omega)
    obtain ⟨a1, a2, a3, a4⟩ := hs
    have hd := dm_le l i
    rw [st fu i (by omega)]
    cases hP : P i with
    | false => rw [if_pos bf0]; exact ih
    | true =>
      rw [if_neg (by decide), if_neg (fun z => ?_)]
      · exact ih
      · rcases hT (dm l i) (by omega) with ⟨e, hno⟩ | ⟨m0, c1, c2, c3, c4⟩
        · exact m9_ne (by omega) (z.symm.trans e)
        · have := (nI_eq (by omega) (by omega)).mp (c2.symm.trans z)
          subst this
          exact a4 i (by omega) hP c3
end DK
/- the reference's table -/
def RT (P : Nat → Bool) (N c i : Nat) (A : Nat → Int32) : Prop := (∀ c', c < c' → c' ≤ 128 → ∀ l, l < 128 → ∃ v, A (128 * c' + l) = nI v ∧ RV P N c' l v) ∧ ∀ l, l < i → ∃ v, A (128 * c + l) = nI v ∧ RV P N c l v
section DM
variable {P : Nat → Bool} {N : Nat} {τ : ST}
theorem lm_66 (k38 : ST → Int32 → Option ST) {c : Nat} (hc : c < 128) {b : Bool} (hb : b = true ↔ c < N ∧ P c = true) : ∀ (m fu i : Nat) (A : Nat → Int32), i + m = 128 → m < fu → RT P N c i A → ∃ A', M_X7_layMeetings_66 k38 fu (setA τ 12 A) (nI c) (b01 b) (nI i) = k38 (setA τ 12 A') (nI c + (-1)) ∧ RT P N c 128 A'
  | 0, fu + 1, i, A, hi, _, h => by
    obtain rfl : i = 128 := by omega
    exact ⟨A, by rw [M_X7_layMeetings_66, if_pos (by decide)], h⟩
  | m + 1, fu + 1, i, A, hi, hf, h => by
    have hd := dm_le i c
    obtain ⟨v1, a1, a2⟩ := h.1 (c + 1) (by omega) (by omega) i (by omega)
    obtain ⟨v2, a3, a4⟩ := h.1 (c + 1) (by omega) (by omega) (dm i c) (by omega)
    have l1 := a2.1
    have l2 := a4.1
    have ix : ∀ x, (128 : Int32) * (nI c + 1) + nI x = nI (128 * (c + 1) + x) := fun x => by rw [nI_1, show (128 : Int32) = nI 128 from rfl, pk_mul, nI_add]
    have iy : ∀ x, (128 : Int32) * nI c + nI x = nI (128 * c + x) := fun x => by rw [show (128 : Int32) = nI 128 from rfl, pk_mul, nI_add]
    have fin : ∀ y, y ≤ 100 → RV P N c i (if v1 ≤ y then v1 else y) → ∃ A', M_X7_layMeetings_118 k38 (M_X7_layMeetings_66 k38 fu) (setA τ 12 A) (nI c) (b01 b) (nI i) (nI v1) (nI y) = k38 (setA τ 12 A') (nI c + (-1)) ∧ RT P N c 128 A' := by
      intro y hy hv
      obtain ⟨A', w1, w2⟩ := lm_66 k38 hc hb m fu (i + 1) (upd A (128 * c + i) (nI (if v1 ≤ y then v1 else y))) (by omega) (by omega) ⟨fun c' h1 h2 l hl => by
        rw [pk_un (by omega)]; exact h.1 c' h1 h2 l hl, fun l hl => by
        by_cases e : l = i
        · subst e; exact ⟨_, pk_us, hv⟩
        · rw [pk_un (by omega)]; exact h.2 l (by omega)⟩
      refine ⟨A', ?_, w2⟩
      unfold M_X7_layMeetings_118 M_X7_layMeetings_145
      rw [iy, wrA_n _ _ _ (by omega) (by decide), wrA_n _ _ _ (by omega) (by decide), Option.bind_some, Option.bind_some, setA_setA, setA_setA, sA_at, nI_1]
      by_cases q : v1 ≤ y
      · rw [if_pos q] at w1
        rw [if_pos (nI_le q (by omega))]; exact w1
      · rw [if_neg q] at w1
        rw [if_neg (nI_ge (by omega) (by omega))]; exact w1
    rw [M_X7_layMeetings_66, if_neg (nl 128 128 rfl (show i < 128 by omega) (by decide)), ix, sA_at, rd_n _ (by omega) (by decide), Option.bind_some, a1, nx_dm c (by omega), ix, rd_n _ (by omega) (by decide), Option.bind_some, a3, show (1 : Int32) + nI v2 = nI (1 + v2) from nI_add 1 v2]
    cases hbb : b with
    | false =>
      rw [hbb] at fin
      rw [if_pos bf0]
      refine fin 99 (by omega) (RV_step a2 a4 (Or.inr ⟨fun z => ?_, rfl⟩))
      have := hb.mpr z
      rw [hbb] at this; cases this
    | true =>
      rw [hbb] at fin
      rw [if_neg (by decide)]
      obtain ⟨z1, z2⟩ := hb.mp hbb
      exact fin (1 + v2) (by omega) (RV_step a2 a4 (Or.inl ⟨z1, z2, rfl⟩))
end DM
theorem lm_s {V : VT} {τ : ST} (ok : okV V) (hm : VM V τ) {c : Nat} (hc : c < 128) (fu : Nat) {A : Nat → Int32} (h : RT (opn V) (2 ^ V 0 0) c 0 A) : ∃ A', M_X7_layMeetings_38 (fu + 1) (setA τ 12 A) (nI c) = M_X7_layMeetings_38 fu (setA τ 12 A') (nI c + (-1)) ∧ RT (opn V) (2 ^ V 0 0) c 128 A' := by
  have h2 := p2h ok
  have h3 := p2p ok
  have hm1 : VM V (setA τ 12 A) := hm.cg (same.rf.sA (by decide))
  have key : ∀ b : Bool, (b = true ↔ c < 2 ^ V 0 0 ∧ opn V c = true) → ∃ A', M_X7_layMeetings_66 (M_X7_layMeetings_38 fu) 10000 (setA τ 12 A) (nI c) (b01 b) 0 = M_X7_layMeetings_38 fu (setA τ 12 A') (nI c + (-1)) ∧ RT (opn V) (2 ^ V 0 0) c 128 A' := fun b hb => lm_66 (M_X7_layMeetings_38 fu) hc hb 128 10000 0 A (by omega) (by omega) h
  rw [M_X7_layMeetings_38, if_neg (nI_pos (by omega)), all_m ok hm1, Option.bind_some]
  by_cases q : c < 2 ^ V 0 0
  · rw [if_neg (nI_nlt (by omega) (by omega)), open_m ok hm1 hc, Option.bind_some]
    cases ho : opn V c with
    | false => rw [if_pos bf0]; exact key false ⟨fun z => (by cases z), fun z => (by rw [ho] at z; cases z.2)⟩
    | true => rw [if_neg (by decide)]; exact key true ⟨fun _ => ⟨q, ho⟩, fun _ => rfl⟩
  · rw [if_pos (nI_lt (by omega) (by omega))]
    exact key false ⟨fun z => (by cases z), fun z => absurd z.1 q⟩
theorem lm_38 {V : VT} {τ : ST} (ok : okV V) (hm : VM V τ) : ∀ (c fu : Nat) (A : Nat → Int32), c < 128 → c + 1 < fu → RT (opn V) (2 ^ V 0 0) c 0 A → ∃ A', M_X7_layMeetings_38 fu (setA τ 12 A) (nI c) = some (setA τ 12 A') ∧ ∀ c', c' ≤ 128 → ∀ l, l < 128 → ∃ v, A' (128 * c' + l) = nI v ∧ RV (opn V) (2 ^ V 0 0) c' l v
  | 0, fu + 2, A, hc, _, h => by
    obtain ⟨A', u1, u2⟩ := lm_s ok hm hc (fu + 1) h
    refine ⟨A', ?_, fun c' h1 l hl => ?_⟩
    · rw [u1, M_X7_layMeetings_38, if_pos (by decide)]
    · by_cases e : c' = 0
      · subst e; exact u2.2 l hl
      · exact u2.1 c' (by omega) h1 l hl
  | c + 1, fu + 1, A, hc, hf, h => by
    obtain ⟨A', u1, u2⟩ := lm_s ok hm hc fu h
    obtain ⟨A2, w1, w2⟩ := lm_38 ok hm c fu A' (by omega) (by omega) ⟨fun c' h1 h3 l hl => by
      by_cases e : c' = c + 1
      · subst e; exact u2.2 l hl
      · exact u2.1 c' (by omega) h3 l hl, fun l hl => absurd hl (Nat.not_lt_zero _)⟩
    refine ⟨A2, ?_, w2⟩
    rw [u1, pk_m1]; exact w1
theorem lm_2 {τ : ST} {N : Nat} {P : Nat → Bool} (hN : N ≤ 128) : ∀ (m fu i : Nat) (A : Nat → Int32), i + m = 128 → m < fu → (∀ l, l < i → ∃ v, A (16384 + l) = nI v ∧ RV P N 128 l v) → ∃ A', M_X7_layMeetings_2 fu (setA τ 12 A) (nI i) = M_X7_layMeetings_38 10000 (setA τ 12 A') 127 ∧ ∀ l, l < 128 → ∃ v, A' (16384 + l) = nI v ∧ RV P N 128 l v
  | 0, fu + 1, i, A, hi, _, h => by
    obtain rfl : i = 128 := by omega
    exact ⟨A, by rw [M_X7_layMeetings_2, if_pos (by decide)], h⟩
  | m + 1, fu + 1, i, A, hi, hf, h => by
    obtain ⟨A', w1, w2⟩ := lm_2 hN m fu (i + 1) (upd A (16384 + i) (nI (if i = 0 then 0 else 99))) (by omega) (by omega) (fun l hl => by
      by_cases e : l = i
      · subst e; exact ⟨_, pk_us, RV_128 hN l⟩
      · rw [pk_un (by omega)]; exact h l (by omega))
    refine ⟨A', ?_, w2⟩
    have st : ∀ v, M_X7_layMeetings_28 (M_X7_layMeetings_2 fu) (setA τ 12 A) (nI i) (16384 + nI i) v = M_X7_layMeetings_2 fu (setA τ 12 (upd A (16384 + i) v)) (nI (i + 1)) := by
      intro v
      unfold M_X7_layMeetings_28
      rw [show (16384 : Int32) + nI i = nI (16384 + i) from nI_add 16384 i, wrA_n _ _ _ (by omega) (by decide), Option.bind_some, setA_setA, sA_at, nI_1]
    rw [M_X7_layMeetings_2, if_neg (nl 128 128 rfl (show i < 128 by omega) (by decide)), st, st]
    by_cases q : i = 0
    · rw [if_pos q] at w1
      rw [if_pos (by rw [q]; rfl)]; exact w1
    · rw [if_neg q] at w1
      rw [if_neg (nI_ne0 (by omega) (by omega))]; exact w1
theorem layM_m {V : VT} {τ : ST} (ok : okV V) (hm : VM V τ) : ∃ A', M_X7_layMeetings τ = some (setA τ 12 A') ∧ ∀ c', c' ≤ 128 → ∀ l, l < 128 → ∃ v, A' (128 * c' + l) = nI v ∧ RV (opn V) (2 ^ V 0 0) c' l v := by
  obtain ⟨A1, u1, u2⟩ := lm_2 (τ := τ) (P := opn V) (p2h ok) 128 10000 0 (τ.2.2 12) (by omega) (by omega) (fun l hl => absurd hl (Nat.not_lt_zero _))
  rw [setA_self] at u1
  obtain ⟨A2, w1, w2⟩ := lm_38 ok hm 127 10000 A1 (by omega) (by omega) ⟨fun c' h1 h3 l hl => by
    obtain rfl : c' = 128 := by omega
    exact u2 l hl, fun l hl => absurd hl (Nat.not_lt_zero _)⟩
  exact ⟨A2, u1.trans w1, w2⟩
