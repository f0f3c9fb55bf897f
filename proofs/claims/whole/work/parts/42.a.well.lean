/- the well: charter C, deeds, what the deeds make of the day, the water, the holders, what was drawn -/
abbrev Dd : Type := List Nat ⊕ Option (Nat × Nat)
abbrev DT : Type := Nat → Nat
def vw (C : VT) (D : DT) : Nat → Nat → Nat
  | 0, 0 => C 0 0
  | 0, 1 => C 0 1
  | 0, 2 => D 0
  | 0, _ => D 1
  | 1, i => C 1 i
  | 2, i => C 2 i
  | 3, i => C 3 i
  | 4, i => D (2 + i)
  | _, i => D (9 + i)
def am (C : VT) (D : DT) (i : Nat) : Nat := if D 1 < wn C i - D (9 + i) then D 1 else wn C i - D (9 + i)
def dr1 (C : VT) (D : DT) (i : Nat) : DT := fun k => if k = 1 then D 1 - am C D i else if k = 9 + i ∨ k = 16 + i then D k + am C D i else D k
def drs (C : VT) (D : DT) : List Nat → DT
  | [] => D
  | i :: l => drs C (dr1 C D i) l
def ap (C : VT) : Dd → DT → DT
  | .inl l, D => drs C D l
  | .inr (some (a, b)), D => fun k => if k = 2 + a then b else D k
  | .inr none, D => fun k => if k = 0 then D 0 + 1 else if k = 1 then (if 99 < D 1 + C 0 2 then 99 else D 1 + C 0 2) else if 9 ≤ k ∧ k < 16 then 0 else D k
def d0 (C : VT) : DT := fun k => if k = 1 then C 0 3 else if 2 ≤ k ∧ k < 9 then k - 2 else 0
def rep (C : VT) (f : Nat → Dd) : Nat → DT
  | 0 => d0 C
  | m + 1 => ap C (f m) (rep C f m)
def b8 : List Nat → Nat
  | [] => 0
  | i :: l => i + 8 * b8 l
def enc : Dd → Nat
  | .inl l => 4 * l.length + 32 * b8 l
  | .inr (some (a, b)) => 1 + 4 * a + 32 * b
  | .inr none => 2
def okDd (C : VT) : Dd → Prop
  | .inl l => l.length ≤ 7 ∧ ∀ i ∈ l, i < C 0 0
  | .inr (some (a, b)) => a < C 0 0 ∧ b < C 0 0
  | .inr none => True
def okC (C : VT) : Prop := C 0 0 ≤ 7 ∧ C 0 1 ≤ 9 ∧ C 0 2 ≤ 9 ∧ C 0 3 ≤ 99 ∧ C 0 4 ≤ 99 ∧ ∀ i, i < C 0 0 → C 1 i ≤ 5 ∧ C 2 i ≤ 9 ∧ C 3 i < 128
def okD (C : VT) (m : Nat) (D : DT) : Prop := D 0 ≤ m ∧ D 1 ≤ 99 ∧ (∀ i, i < 7 → D (2 + i) < 7) ∧ ∀ i, i < C 0 0 → D (9 + i) ≤ wn C i
theorem am_le (C : VT) (D : DT) (i : Nat) : am C D i ≤ D 1 ∧ am C D i ≤ wn C i - D (9 + i) := by
  unfold am
  by_cases h : D 1 < wn C i - D (9 + i)
  · rw [if_pos h]; omega
  · rw [if_neg h]; omega
theorem okD.dr1 {C : VT} {m : Nat} {D : DT} (h : okD C m D) {i : Nat} (hC : C 0 0 ≤ 7) (hi : i < C 0 0) : okD C m (dr1 C D i) := by
  obtain ⟨h1, h2, h3, h4⟩ := h
  have ha := am_le C D i
  refine ⟨?_, ?_, fun j hj => ?_, fun j hj => ?_⟩
  · show (if _ then _ else if _ then _ else _) ≤ m
    rw [if_neg (by omega), if_neg (by omega)]; exact h1
  · show (if _ then _ else if _ then _ else _) ≤ 99
    rw [if_pos rfl]; omega
  · show (if _ then _ else if _ then _ else _) < 7
    rw [if_neg (by omega), if_neg (by omega)]; exact h3 j hj
  · show (if _ then _ else if _ then _ else _) ≤ _
    have := h4 j hj
    rw [if_neg (by omega)]
    by_cases e : j = i
    · subst e
      rw [if_pos (Or.inl rfl)]; omega
    · rw [if_neg (by omega)]; exact this
theorem okD.drs {C : VT} {m : Nat} (hC : C 0 0 ≤ 7) : ∀ (l : List Nat) {D : DT}, okD C m D → (∀ i ∈ l, i < C 0 0) → okD C m (drs C D l)
  | [], _, h, _ => h
  | i :: l, _, h, hl => okD.drs hC l (h.dr1 hC (hl i (List.mem_cons_self ..))) (fun j hj => hl j (List.mem_cons_of_mem _ hj))
theorem okD.ap {C : VT} {m : Nat} {D : DT} (hC : okC C) (h : okD C m D) : ∀ d, okDd C d → okD C (m + 1) (ap C d D)
  | .inl l, hd => by
    have := okD.drs hC.1 l h hd.2
    exact ⟨Nat.le_succ_of_le this.1, this.2⟩
  | .inr (some (a, b)), hd => by
    obtain ⟨h1, h2, h3, h4⟩ := h
    have h7 := hC.1
    have ha := hd.1
    have hb := hd.2
    refine ⟨?_, ?_, fun j hj => ?_, fun j hj => ?_⟩
    · show (if _ then _ else _) ≤ _; rw [if_neg (by omega)]; omega
    · show (if _ then _ else _) ≤ _; rw [if_neg (by omega)]; omega
    · show (if _ then _ else _) < _
      by_cases e : 2 + j = 2 + a
      · rw [if_pos e]; omega
      · rw [if_neg e]; exact h3 j hj
    · show (if _ then _ else _) ≤ _; rw [if_neg (by omega)]; exact h4 j hj
  | .inr none, _ => by
    obtain ⟨h1, h2, h3, h4⟩ := h
    have h7 := hC.1
    refine ⟨?_, ?_, fun j hj => ?_, fun j hj => ?_⟩
    · exact Nat.succ_le_succ h1
    · show (if 99 < D 1 + C 0 2 then 99 else D 1 + C 0 2) ≤ 99
      by_cases e : 99 < D 1 + C 0 2
      · rw [if_pos e]; omega
      · rw [if_neg e]; omega
    · show (if _ then _ else _) < _; rw [if_neg (by omega), if_neg (by omega), if_neg (by omega)]; exact h3 j hj
    · show (if _ then _ else _) ≤ _; rw [if_neg (by omega), if_neg (by omega), if_pos (by omega)]; omega
theorem d0_ok {C : VT} (hC : okC C) : okD C 0 (d0 C) := by
  have h3 := hC.2.2.2.1
  have h7 := hC.1
  refine ⟨?_, ?_, fun j hj => ?_, fun j hj => ?_⟩
  · exact Nat.le_refl 0
  · exact h3
  · show (if _ then _ else if _ then _ else _) < _; rw [if_neg (by omega), if_pos (by omega)]; omega
  · show (if _ then _ else if _ then _ else _) ≤ _; rw [if_neg (by omega), if_neg (by omega)]; omega
theorem rep_ok {C : VT} {f : Nat → Dd} {n : Nat} (hC : okC C) (hf : ∀ m, m < n → okDd C (f m)) : ∀ m, m ≤ n → okD C m (rep C f m)
  | 0, _ => d0_ok hC
  | m + 1, h => okD.ap hC (rep_ok hC hf m (by omega)) (f m) (hf m (by omega))
def CC (C : VT) (σ : ST) : Prop := σ.1 33 = nI (C 0 0) ∧ σ.1 30 = nI (C 0 1) ∧ σ.1 32 = nI (C 0 2) ∧ σ.1 31 = nI (C 0 3) ∧ σ.1 34 = nI (C 0 4) ∧ ∀ i, i < C 0 0 → σ.2.2 24 i = nI (C 1 i) ∧ σ.2.2 25 i = nI (C 2 i) ∧ σ.2.2 26 i = nI (C 3 i)
def CM (C : VT) (τ : ST) : Prop := τ.1 3 = nI (C 0 0) ∧ τ.1 1 = nI (C 0 1) ∧ τ.1 2 = nI (C 0 2) ∧ τ.1 7 = nI (C 0 4) ∧ ∀ i, i < C 0 0 → τ.2.2 2 i = nI (C 1 i) ∧ τ.2.2 3 i = nI (C 2 i) ∧ τ.2.2 4 i = nI (C 3 i)
def rk (C : VT) (k : Nat) : Prop := 0 < C 0 0 ∨ k < 2 ∨ 16 ≤ k
def DC (C : VT) (D : DT) (σ : ST) : Prop := σ.1 36 = nI (D 0) ∧ σ.1 35 = nI (D 1) ∧ ∀ i, i < 7 → (0 < C 0 0 → σ.2.2 29 i = nI (D (2 + i)) ∧ σ.2.2 30 i = nI (D (9 + i))) ∧ σ.2.2 31 i = nI (D (16 + i))
def HC (f : Nat → Dd) (n a : Nat) (σ : ST) : Prop := ∀ m, m < n → σ.2.2 a m = nI (enc (f m))
def HM (C : VT) (f : Nat → Dd) (n B : Nat) (τ : ST) : Prop := τ.2.2 1 B = nI n ∧ (∀ k, k < 23 → rk C k → τ.2.2 1 (B + 1 + k) = nI (rep C f n k)) ∧ ∀ m, m < n → ∀ k, k < 23 → τ.2.2 1 (B + 24 + 23 * m + k) = nI (rep C f m k)
def okH (C : VT) (f : Nat → Dd) (n : Nat) : Prop := n ≤ 40 ∧ (0 < n → 0 < C 0 0) ∧ ∀ m, m < n → okDd C (f m)
def KP (C : VT) (k : Nat) (σ τ : ST) : Prop := (σ.1 (40 + k) = -1 ∧ τ.2.2 1 (944 * (1 + k)) = -1) ∨ ∃ g p, okH C g p ∧ 0 < C 0 0 ∧ σ.1 (40 + k) = nI p ∧ HC g p (39 + k) σ ∧ HM C g p (944 * (1 + k)) τ
def WlC (C : VT) (f : Nat → Dd) (n : Nat) (σ τ : ST) : Prop := okC C ∧ CC C σ ∧ CM C τ ∧ okH C f n ∧ σ.1 37 = nI n ∧ HC f n 28 σ ∧ DC C (rep C f n) σ ∧ HM C f n 0 τ ∧ ∀ k, k < 3 → KP C k σ τ
def Wl (σ τ : ST) : Prop := ∃ C f n, WlC C f n σ τ
theorem Wl_cg : Cg Wl := by
  intro σ τ σ' τ' ⟨C, f, n, h1, h2, h3, h4, h5, h6, h7, h8, h9⟩ hs ht
  have i1 : ∀ k ∈ fWc.1, σ'.1 k = σ.1 k := hs.1
  have a1 : ∀ k ∈ fWc.2.2, σ'.2.2 k = σ.2.2 k := hs.2.2
  have i2 : ∀ k ∈ fWm.1, τ'.1 k = τ.1 k := ht.1
  have a2 : ∀ k ∈ fWm.2.2, τ'.2.2 k = τ.2.2 k := ht.2.2
  refine ⟨C, f, n, h1, ?_, ?_, h4, ?_, ?_, ?_, ?_, ?_⟩
  · unfold CC at h2 ⊢
    rw [i1 33 (by decide), i1 30 (by decide), i1 32 (by decide), i1 31 (by decide), i1 34 (by decide), a1 24 (by decide), a1 25 (by decide), a1 26 (by decide)]; exact h2
  · unfold CM at h3 ⊢
    rw [i2 3 (by decide), i2 1 (by decide), i2 2 (by decide), i2 7 (by decide), a2 2 (by decide), a2 3 (by decide), a2 4 (by decide)]; exact h3
  · rw [i1 37 (by decide)]; exact h5
  · unfold HC at h6 ⊢; rw [a1 28 (by decide)]; exact h6
  · unfold DC at h7 ⊢
    rw [i1 36 (by decide), i1 35 (by decide), a1 29 (by decide), a1 30 (by decide), a1 31 (by decide)]; exact h7
  · unfold HM at h8 ⊢; rw [a2 1 (by decide)]; exact h8
  · intro k hk
    have hk3 : k = 0 ∨ k = 1 ∨ k = 2 := by omega
    have e1 : σ'.1 (40 + k) = σ.1 (40 + k) := by rcases hk3 with rfl | rfl | rfl <;> exact i1 _ (by decide)
    have e2 : σ'.2.2 (39 + k) = σ.2.2 (39 + k) := by rcases hk3 with rfl | rfl | rfl <;> exact a1 _ (by decide)
    have := h9 k hk
    unfold KP HC HM at this ⊢
    rw [e1, e2, a2 1 (by decide)]; exact this
theorem vw_ok {C : VT} {D : DT} {m : Nat} (hC : okC C) (hD : okD C m D) (hm : m ≤ 40) : okV (vw C D) :=
  ⟨hC.1, hC.2.1, Nat.le_trans hD.1 hm, hD.2.1, fun i hi => ⟨(hC.2.2.2.2.2 i hi).1, (hC.2.2.2.2.2 i hi).2.1, (hC.2.2.2.2.2 i hi).2.2, hD.2.2.1 i (Nat.lt_of_lt_of_le hi hC.1), hD.2.2.2 i hi⟩⟩
theorem vw_c {C : VT} {D : DT} {σ : ST} (h7 : C 0 0 ≤ 7) (h : CC C σ) (hD : DC C D σ) : VC (vw C D) σ :=
  ⟨h.1, h.2.1, hD.1, hD.2.1, fun i hi => ⟨(h.2.2.2.2.2 i hi).1, (h.2.2.2.2.2 i hi).2.1, (h.2.2.2.2.2 i hi).2.2, ((hD.2.2 i (Nat.lt_of_lt_of_le hi h7)).1 (Nat.lt_of_le_of_lt (Nat.zero_le _) hi)).1, ((hD.2.2 i (Nat.lt_of_lt_of_le hi h7)).1 (Nat.lt_of_le_of_lt (Nat.zero_le _) hi)).2⟩⟩
theorem vw_m {C : VT} {f : Nat → Dd} {n : Nat} {τ : ST} (h7 : C 0 0 ≤ 7) (h : CM C τ) (hD : HM C f n 0 τ) : VM (vw C (rep C f n)) τ := by
  obtain ⟨h1, h2, h3, h4, h5⟩ := h
  obtain ⟨g1, g2, g3⟩ := hD
  refine ⟨h1, h2, g2 0 (by decide) (Or.inr (Or.inl (by decide))), g2 1 (by decide) (Or.inr (Or.inl (by decide))), fun i hi => ⟨(h5 i hi).1, (h5 i hi).2.1, (h5 i hi).2.2, ?_, ?_⟩⟩
  · have hi : i < C 0 0 := hi
    have := g2 (2 + i) (by omega) (Or.inl (by omega))
    rw [show 0 + 1 + (2 + i) = 3 + i by omega] at this; exact this
  · have hi : i < C 0 0 := hi
    have := g2 (9 + i) (by omega) (Or.inl (by omega))
    rw [show 0 + 1 + (9 + i) = 10 + i by omega] at this; exact this
theorem Wl_vws : Vws Wl := by
  intro σ τ ⟨C, f, n, h1, h2, h3, h4, h5, h6, h7, h8, h9⟩
  exact ⟨vw C (rep C f n), vw_ok h1 (rep_ok h1 h4.2.2 n (Nat.le_refl _)) h4.1, vw_c h1.1 h2 h7, vw_m h1.1 h3 h8⟩
theorem Wl_drs : Drs Wl := by
  intro σ τ ⟨C, f, n, h1, h2, h3, h4, h5, h6, h7, h8, h9⟩ i hi
  have := h8.2.1 (16 + i) (by omega) (Or.inr (Or.inr (by omega)))
  rw [show 0 + 1 + (16 + i) = 17 + i by omega] at this
  exact (h7.2.2 i hi).2.trans this.symm
