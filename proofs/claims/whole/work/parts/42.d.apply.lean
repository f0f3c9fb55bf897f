/- what a deed does to the class -/
def eqx (σ σ' : ST) : Prop := (∀ k, k ≠ 35 → k ≠ 36 → σ'.1 k = σ.1 k) ∧ σ'.2.1 = σ.2.1 ∧ ∀ k, k ≠ 29 → k ≠ 30 → k ≠ 31 → σ'.2.2 k = σ.2.2 k
theorem eqx.rf {σ : ST} : eqx σ σ := ⟨fun _ _ _ => rfl, rfl, fun _ _ _ _ => rfl⟩
theorem eqx.tr {σ σ' σ'' : ST} (h : eqx σ σ') (h' : eqx σ' σ'') : eqx σ σ'' := ⟨fun k a b => (h'.1 k a b).trans (h.1 k a b), h'.2.1.trans h.2.1, fun k a b c => (h'.2.2 k a b c).trans (h.2.2 k a b c)⟩
theorem eqx.sI {σ σ' : ST} {k : Nat} {v : Int32} (h : eqx σ σ') (hk : k = 35 ∨ k = 36) : eqx σ (setI σ' k v) := h.tr ⟨fun j a b => vu_ne (by omega), rfl, fun _ _ _ _ => rfl⟩
theorem eqx.sA {σ σ' : ST} {k : Nat} {f : Nat → Int32} (h : eqx σ σ') (hk : k = 29 ∨ k = 30 ∨ k = 31) : eqx σ (setA σ' k f) := h.tr ⟨fun _ _ _ => rfl, rfl, fun j a b c => vu_ne (by omega)⟩
theorem eqx.same {σ σ' : ST} {F : FP} (h : eqx σ σ') (h1 : 35 ∉ F.1) (h2 : 36 ∉ F.1) (h3 : 29 ∉ F.2.2) (h4 : 30 ∉ F.2.2) (h5 : 31 ∉ F.2.2) : same F σ σ' := ⟨fun k hk => h.1 k (fun e => h1 (e ▸ hk)) (fun e => h2 (e ▸ hk)), fun k _ => congrFun h.2.1 k, fun k hk => h.2.2 k (fun e => h3 (e ▸ hk)) (fun e => h4 (e ▸ hk)) (fun e => h5 (e ▸ hk))⟩
theorem CC.cg {C : VT} {σ σ' : ST} (h : CC C σ) (e : eqx σ σ') : CC C σ' := by
  unfold CC at h ⊢
  rw [e.1 33 (by decide) (by decide), e.1 30 (by decide) (by decide), e.1 32 (by decide) (by decide), e.1 31 (by decide) (by decide), e.1 34 (by decide) (by decide), e.2.2 24 (by decide) (by decide) (by decide), e.2.2 25 (by decide) (by decide) (by decide), e.2.2 26 (by decide) (by decide) (by decide)]; exact h
theorem isH_c {C : VT} {σ : ST} (h7 : C 0 0 ≤ 7) (h : CC C σ) {i : Nat} (hi : i < C 0 0) : M_X5_isHouse σ (nI i) = some 1 := by
  unfold M_X5_isHouse; rw [if_neg (nI_pos (by omega)), h.1, if_neg (nI_ge hi (by omega))]; rfl
section
variable {C : VT} {D : DT} {i : Nat}
theorem dr1_0 : dr1 C D i 0 = D 0 := by unfold dr1; rw [if_neg (by omega), if_neg (by omega)]
theorem dr1_1 : dr1 C D i 1 = D 1 - am C D i := by unfold dr1; rw [if_pos rfl]
theorem dr1_h {j : Nat} (hj : j < 7) : dr1 C D i (2 + j) = D (2 + j) := by unfold dr1; rw [if_neg (by omega), if_neg (by omega)]
theorem dr1_t {j : Nat} (hi : i < 7) (hj : j < 7) : dr1 C D i (9 + j) = if j = i then D (9 + j) + am C D i else D (9 + j) := by
  unfold dr1; rw [if_neg (by omega)]
  by_cases e : j = i
  · rw [if_pos (by omega), if_pos e]
  · rw [if_neg (by omega), if_neg e]
theorem dr1_d {j : Nat} (hi : i < 7) (hj : j < 7) : dr1 C D i (16 + j) = if j = i then D (16 + j) + am C D i else D (16 + j) := by
  unfold dr1; rw [if_neg (by omega)]
  by_cases e : j = i
  · rw [if_pos (by omega), if_pos e]
  · rw [if_neg (by omega), if_neg e]
end
theorem b8_drop : ∀ (l : List Nat) (p : Nat), (∀ i ∈ l, i < 8) → b8 l / 8 ^ p = b8 (l.drop p)
  | [], p, _ => by rw [List.drop_nil]; exact Nat.zero_div _
  | i :: l, 0, _ => by rw [Nat.pow_zero, Nat.div_one]; rfl
  | i :: l, p + 1, h => by
    have hi := h i (List.mem_cons_self ..)
    show (i + 8 * b8 l) / 8 ^ (p + 1) = b8 (l.drop p)
    rw [Nat.pow_succ, Nat.mul_comm (8 ^ p) 8, ← Nat.div_div_eq_div_mul, show (i + 8 * b8 l) / 8 = b8 l by omega]
    exact b8_drop l p (fun j hj => h j (List.mem_cons_of_mem _ hj))
theorem b8_lt : ∀ (l : List Nat), (∀ i ∈ l, i < 8) → b8 l < 8 ^ l.length
  | [], _ => by decide
  | i :: l, h => by
    have hi := h i (List.mem_cons_self ..)
    have := b8_lt l (fun j hj => h j (List.mem_cons_of_mem _ hj))
    show i + 8 * b8 l < 8 ^ (l.length + 1)
    rw [Nat.pow_succ]; omega
theorem b8_lt7 {l : List Nat} (hl : l.length ≤ 7) (h : ∀ i ∈ l, i < 8) : b8 l < 2 ^ 21 := Nat.lt_of_lt_of_le (b8_lt l h) (Nat.pow_le_pow_right (n := 8) (by decide) hl)
theorem enc_dig {l : List Nat} (hl : l.length ≤ 7) (h : ∀ i ∈ l, i < 8) {p i : Nat} {r : List Nat} (hp : p < 7) (e : l.drop p = i :: r) : (nI (enc (.inl l)) >>> ((5 + (3 * nI p)) &&& 31)) &&& 7 = nI i := by
  have hb := b8_lt7 hl h
  have hi : i < 8 := h i (List.mem_of_mem_drop (e ▸ List.mem_cons_self ..))
  have e0 : enc (.inl l) = 4 * l.length + 32 * b8 l := rfl
  rw [show (5 : Int32) + 3 * nI p = nI (5 + 3 * p) by rw [show (5 : Int32) = nI 5 from rfl, show (3 : Int32) = nI 3 from rfl, pk_mul, nI_add], pk_shrN (by omega) _ (5 + 3 * p) (sh_n _ (by omega)), pk_andN (Nat.lt_of_le_of_lt (Nat.div_le_self _ _) (by omega)) 3 (by decide), e0, Nat.pow_add, show 2 ^ (3 * p) = 8 ^ p from Nat.pow_mul 2 3 p, ← Nat.div_div_eq_div_mul, show (4 * l.length + 32 * b8 l) / 2 ^ 5 = b8 l by omega, b8_drop l p h, e]
  show nI ((i + 8 * b8 r) % 2 ^ 3) = _
  rw [show (i + 8 * b8 r) % 2 ^ 3 = i by omega]
theorem enc_len {l : List Nat} (hl : l.length ≤ 7) (h : ∀ i ∈ l, i < 8) : (nI (enc (.inl l)) >>> ((2 : Int32) &&& 31)) &&& 7 = nI l.length := by
  have hb := b8_lt7 hl h
  have e0 : enc (.inl l) = 4 * l.length + 32 * b8 l := rfl
  rw [pk_shrN (by omega) _ 2 (by decide), pk_andN (Nat.lt_of_le_of_lt (Nat.div_le_self _ _) (by omega)) 3 (by decide), e0, show (4 * l.length + 32 * b8 l) / 2 ^ 2 % 2 ^ 3 = l.length by omega]
theorem enc_k0 {l : List Nat} (hl : l.length ≤ 7) (h : ∀ i ∈ l, i < 8) : nI (enc (.inl l)) &&& 3 = 0 := by
  have hb := b8_lt7 hl h
  have e0 : enc (.inl l) = 4 * l.length + 32 * b8 l := rfl
  rw [pk_andN (by omega) 2 (by decide), e0, show (4 * l.length + 32 * b8 l) % 2 ^ 2 = 0 by omega]; rfl
theorem am_n {C : VT} {D : DT} {i : Nat} {m : Nat} (hD : okD C m D) (hw : wn C i ≤ 9) : (if nI (D 1) < nI (wn C i - D (9 + i)) then nI (D 1) else nI (wn C i - D (9 + i))) = nI (am C D i) := by
  have := hD.2.1
  unfold am
  by_cases q : D 1 < wn C i - D (9 + i)
  · rw [if_pos q, if_pos (nI_lt q (by omega))]
  · rw [if_neg q, if_neg (nI_nlt (by omega) (by omega))]
def dw1 (C : VT) (D : DT) (i : Nat) (σ : ST) : ST := setI (setA (setA σ 30 (upd (σ.2.2 30) i (σ.2.2 30 i + nI (am C D i)))) 31 (upd (σ.2.2 31) i (σ.2.2 31 i + nI (am C D i)))) 35 (nI (D 1) - nI (am C D i))
theorem dw1_eq {C : VT} {D : DT} {i : Nat} {σ : ST} : eqx σ (dw1 C D i σ) := ((eqx.rf.sA (by omega)).sA (by omega)).sI (by omega)
theorem dw1_dc {C : VT} {D : DT} {i : Nat} {σ : ST} (h7 : C 0 0 ≤ 7) (hi : i < C 0 0) (h : DC C D σ) : DC C (dr1 C D i) (dw1 C D i σ) := by
  obtain ⟨h1, h2, h3⟩ := h
  refine ⟨?_, ?_, fun j hj => ⟨fun h0 => ⟨?_, ?_⟩, ?_⟩⟩
  · rw [dr1_0]; exact h1
  · rw [dr1_1]; show nI (D 1) - nI (am C D i) = _
    rw [pk_sub (am_le C D i).1]
  · rw [dr1_h hj]; exact ((h3 j hj).1 h0).1
  · rw [dr1_t (by omega) hj]
    show upd (σ.2.2 30) i (σ.2.2 30 i + nI (am C D i)) j = _
    by_cases e : j = i
    · subst e; rw [if_pos rfl]; unfold upd; rw [if_pos rfl, ((h3 j hj).1 h0).2, nI_add]
    · rw [if_neg e]; unfold upd; rw [if_neg e]; exact ((h3 j hj).1 h0).2
  · rw [dr1_d (by omega) hj]
    show upd (σ.2.2 31) i (σ.2.2 31 i + nI (am C D i)) j = _
    by_cases e : j = i
    · subst e; rw [if_pos rfl]; unfold upd; rw [if_pos rfl, (h3 j hj).2, nI_add]
    · rw [if_neg e]; unfold upd; rw [if_neg e]; exact (h3 j hj).2
theorem drw_c {C : VT} {l : List Nat} (hC : okC C) (hl : l.length ≤ 7) (hh : ∀ i ∈ l, i < C 0 0) {m : Nat} (hm : m ≤ 40) (x3 : Int32) : ∀ (suf : List Nat) (fu p : Nat) (σ : ST) (D : DT), l.drop p = suf → p ≤ l.length → suf.length < fu → CC C σ → DC C D σ → okD C m D →
    ∃ σ', M_X5_drawInTurn_15 fu σ (nI (enc (.inl l))) (nI l.length) x3 (nI p) = some (x3 - σ'.1 35, σ') ∧ eqx σ σ' ∧ DC C (drs C D suf) σ'
  | [], fu + 1, p, σ, D, e, hp, _, hc, hd, hD => by
    have : l.length ≤ p := List.drop_eq_nil_iff.mp e
    refine ⟨σ, ?_, eqx.rf, hd⟩
    unfold M_X5_drawInTurn_15
    rw [if_pos (nI_le this (by omega))]
  | i :: suf, fu + 1, p, σ, D, e, hp, hf, hc, hd, hD => by
    have h7 := hC.1
    have hlt : p < l.length := by
      apply Decidable.byContradiction; intro q
      rw [List.drop_eq_nil_iff.mpr (by omega)] at e; exact absurd e (by simp)
    have hi : i < C 0 0 := hh i (List.mem_of_mem_drop (e ▸ List.mem_cons_self ..))
    have hw : wn C i ≤ 9 := wn_le (V := vw C D) (vw_ok hC hD hm) hi
    have h8 : ∀ i ∈ l, i < 8 := fun j hj => by have := hh j hj; omega
    have e' : l.drop (p + 1) = suf := by rw [← List.drop_drop, e]; rfl
    obtain ⟨σ', u1, u2, u3⟩ := drw_c hC hl hh hm x3 suf fu (p + 1) (dw1 C D i σ) (dr1 C D i) e' (by omega) (by simp at hf; omega) (hc.cg dw1_eq) (dw1_dc h7 hi hd) (hD.dr1 h7 hi)
    refine ⟨σ', ?_, dw1_eq.tr u2, u3⟩
    rw [← u1]
    conv => lhs; unfold M_X5_drawInTurn_15
    rw [if_neg (nI_ge hlt (by omega)), enc_dig hl h8 (by omega) e, isH_c h7 hc hi, Option.bind_some, if_neg n10, wy_c (vw_ok hC hD hm) (vw_c h7 hc hd) hi, Option.bind_some, rd_n _ (by omega) (by decide), Option.bind_some, hd.2.1, show wy (vw C D) i = wn C i - D (9 + i) from rfl, am_n hD hw, wrA_n _ _ _ (by omega) (by decide), Option.bind_some, rd_n _ (by omega) (by decide), Option.bind_some, wrA_n _ _ _ (by omega) (by decide), Option.bind_some, Option.bind_some, nI_1]
    show M_X5_drawInTurn_15 fu (setI (setA (setA σ 30 _) 31 _) 35 (σ.1 35 - _)) _ _ _ _ = _
    rw [hd.2.1]
    rfl
