/-! pure rows: numbers, guarded steps at known places, footprints -/
theorem okZ_0 : okZ 0 = some 0 := rfl
theorem okZ_1 : okZ 1 = some 1 := rfl
theorem rd_n {n j : Nat} (f : Nat → Int32) (h : j < n) (hn : n < 2 ^ 31) : rd n f (nI j) = some (f j) := by
  unfold rd
  rw [if_neg (nI_in h hn), nI_clamp (by omega)]
theorem inR_n {n j : Nat} (h : j < n) (hn : n < 2 ^ 31) : inR n (nI j) = some j := by
  unfold inR
  rw [if_neg (nI_in h hn), nI_clamp (by omega)]
theorem wrA_n {n j : Nat} (σ : ST) (a : Nat) (v : Int32) (h : j < n) (hn : n < 2 ^ 31) : wrA n σ a (nI j) v = some (setA σ a (upd (σ.2.2 a) j v)) := by
  unfold wrA
  rw [if_neg (nI_in h hn), nI_clamp (by omega)]
theorem i3 (x : Int32) {n : Nat} (hn : n < 2 ^ 31) : x < 0 ∨ (¬ x < 0 ∧ nI n ≤ x) ∨ ∃ j : Nat, j < n ∧ x = nI j := by
  by_cases h : x < 0
  · exact Or.inl h
  · rcases pk_ix x hn with h1 | h1 | h1
    · exact absurd h1 h
    · exact Or.inr (Or.inl ⟨h, h1⟩)
    · exact Or.inr (Or.inr h1)
/-- in(v, lo, hi) of the reference -/
theorem lgc_lt (x y : Int64) : lg_cmp x y < 0 ↔ x < y := by
  unfold lg_cmp
  by_cases h1 : x > y
  · rw [if_pos h1]
    have h1 : y < x := h1
    constructor
    · intro h; exact absurd h (by decide)
    · intro h
      rw [Int64.lt_iff_toInt_lt] at h h1
      omega
  · rw [if_neg h1]
    by_cases h2 : x = y
    · subst h2
      rw [if_pos rfl]
      constructor
      · intro h; exact absurd h (by decide)
      · intro h; exact absurd h h1
    · rw [if_neg h2]
      have h1 : ¬ y < x := h1
      constructor
      · intro _
        rw [Int64.lt_iff_toInt_lt] at h1 ⊢
        have h3 : x.toInt ≠ y.toInt := fun e => h2 (Int64.toInt_inj.mp e)
        omega
      · intro _; decide
theorem lgc_gt (x y : Int64) : 0 < lg_cmp x y ↔ y < x := by
  unfold lg_cmp
  by_cases h1 : x > y
  · rw [if_pos h1]
    exact ⟨fun _ => h1, fun _ => by decide⟩
  · rw [if_neg h1]
    by_cases h2 : x = y
    · rw [if_pos h2]
      exact ⟨fun h => absurd h (by decide), fun h => absurd h h1⟩
    · rw [if_neg h2]
      exact ⟨fun h => absurd h (by decide), fun h => absurd h h1⟩
theorem lgc_eq (x y : Int64) : lg_cmp x y = 0 ↔ x = y := by
  unfold lg_cmp
  by_cases h1 : x > y
  · rw [if_pos h1]
    constructor
    · intro h; exact absurd h (by decide)
    · rintro rfl; exact absurd h1 Int64.lt_irrefl
  · rw [if_neg h1]
    by_cases h2 : x = y
    · rw [if_pos h2]; exact ⟨fun _ => h2, fun _ => rfl⟩
    · rw [if_neg h2]; exact ⟨fun h => absurd h (by decide), fun h => absurd h h2⟩
theorem in7 (v a b : Int64) : M_X7_in v a b = some (if v < a then 0 else if b < v then 0 else 1) := by
  unfold M_X7_in
  by_cases h1 : v < a
  · rw [if_pos ((lgc_lt v a).mpr h1), if_pos h1]; rfl
  · rw [if_neg (fun h => h1 ((lgc_lt v a).mp h)), if_neg h1]
    by_cases h2 : b < v
    · rw [if_pos ((lgc_gt v b).mpr h2), if_pos h2]; rfl
    · rw [if_neg (fun h => h2 ((lgc_gt v b).mp h)), if_neg h2]; rfl
theorem w_lt (a b : Int32) : a.toInt64 < b.toInt64 ↔ a < b := by
  rw [Int64.lt_iff_toInt_lt, Int32.lt_iff_toInt_lt, Int32.toInt_toInt64, Int32.toInt_toInt64]
theorem in7i (v a b : Int32) : M_X7_in v.toInt64 a.toInt64 b.toInt64 = some (if v < a then 0 else if b < v then 0 else 1) := by
  rw [in7]
  simp only [w_lt]
/-- footprints -/
abbrev FP : Type := List Nat × List Nat × List Nat
def same (F : FP) (σ σ' : ST) : Prop := (∀ k ∈ F.1, σ'.1 k = σ.1 k) ∧ (∀ k ∈ F.2.1, σ'.2.1 k = σ.2.1 k) ∧ ∀ k ∈ F.2.2, σ'.2.2 k = σ.2.2 k
theorem same.rf {F : FP} {σ : ST} : same F σ σ := ⟨fun _ _ => rfl, fun _ _ => rfl, fun _ _ => rfl⟩
theorem same.tr {F : FP} {σ σ' σ'' : ST} (h : same F σ σ') (h' : same F σ' σ'') : same F σ σ'' := ⟨fun k hk => (h'.1 k hk).trans (h.1 k hk), fun k hk => (h'.2.1 k hk).trans (h.2.1 k hk), fun k hk => (h'.2.2 k hk).trans (h.2.2 k hk)⟩
theorem vu_ne {α : Type} {f : Nat → α} {k j : Nat} {v : α} (h : j ≠ k) : va_up f k v j = f j := if_neg h
theorem vu_eq {α : Type} {f : Nat → α} {k : Nat} {v : α} : va_up f k v k = v := if_pos rfl
theorem same.sI {F : FP} {σ σ' : ST} {k : Nat} {v : Int32} (h : same F σ σ') (hk : k ∉ F.1) : same F σ (setI σ' k v) := h.tr ⟨fun j hj => vu_ne (fun e => hk (e ▸ hj)), fun _ _ => rfl, fun _ _ => rfl⟩
theorem same.sL {F : FP} {σ σ' : ST} {k : Nat} {v : Int64} (h : same F σ σ') (hk : k ∉ F.2.1) : same F σ (setL σ' k v) := h.tr ⟨fun _ _ => rfl, fun j hj => vu_ne (fun e => hk (e ▸ hj)), fun _ _ => rfl⟩
theorem same.sA {F : FP} {σ σ' : ST} {k : Nat} {f : Nat → Int32} (h : same F σ σ') (hk : k ∉ F.2.2) : same F σ (setA σ' k f) := h.tr ⟨fun _ _ => rfl, fun _ _ => rfl, fun j hj => vu_ne (fun e => hk (e ▸ hj))⟩
theorem same.mono {F G : FP} {σ σ' : ST} (h : same F σ σ') (h1 : ∀ k ∈ G.1, k ∈ F.1) (h2 : ∀ k ∈ G.2.1, k ∈ F.2.1) (h3 : ∀ k ∈ G.2.2, k ∈ F.2.2) : same G σ σ' := ⟨fun k hk => h.1 k (h1 k hk), fun k hk => h.2.1 k (h2 k hk), fun k hk => h.2.2 k (h3 k hk)⟩
theorem sI_1 (σ : ST) (k : Nat) (v : Int32) : (setI σ k v).1 = va_up σ.1 k v := rfl
theorem sI_2 (σ : ST) (k : Nat) (v : Int32) : (setI σ k v).2.1 = σ.2.1 := rfl
theorem sI_3 (σ : ST) (k : Nat) (v : Int32) : (setI σ k v).2.2 = σ.2.2 := rfl
theorem sL_1 (σ : ST) (k : Nat) (v : Int64) : (setL σ k v).1 = σ.1 := rfl
theorem sL_2 (σ : ST) (k : Nat) (v : Int64) : (setL σ k v).2.1 = va_up σ.2.1 k v := rfl
theorem sL_3 (σ : ST) (k : Nat) (v : Int64) : (setL σ k v).2.2 = σ.2.2 := rfl
theorem sA_1 (σ : ST) (k : Nat) (f : Nat → Int32) : (setA σ k f).1 = σ.1 := rfl
theorem sA_2 (σ : ST) (k : Nat) (f : Nat → Int32) : (setA σ k f).2.1 = σ.2.1 := rfl
theorem sA_3 (σ : ST) (k : Nat) (f : Nat → Int32) : (setA σ k f).2.2 = va_up σ.2.2 k f := rfl
theorem sA_at (σ : ST) (k : Nat) (f : Nat → Int32) : (setA σ k f).2.2 k = f := vu_eq
theorem sA_ne {σ : ST} {k j : Nat} {f : Nat → Int32} (h : j ≠ k) : (setA σ k f).2.2 j = σ.2.2 j := vu_ne h
/-- rows, texts, what was told: class and reference -/
def szOk (x : Int32) (m : Nat) : Prop := x = -1 ∨ ∃ n, n ≤ m ∧ x = nI n
def rlR (σ τ : ST) : Prop := ∀ r, r < 6 → σ.2.2 3 r = τ.2.2 5 r ∧ szOk (σ.2.2 3 r) 40 ∧ ∀ i, i < 40 → σ.2.2 (4 + r) i = τ.2.2 6 (40 * r + i)
def isB (x : Int32) : Prop := -128 ≤ x.toInt ∧ x.toInt ≤ 127
def rlT (σ τ : ST) : Prop := ∀ r, r < 4 → σ.2.2 12 r = τ.2.2 7 r ∧ szOk (σ.2.2 12 r) 80 ∧ ∀ i, i < 80 → σ.2.2 (13 + r) i = τ.2.2 8 (80 * r + i) ∧ isB (σ.2.2 (13 + r) i)
def rlF (σ τ : ST) : Prop := σ.1 7 = τ.1 15 ∧ ∀ k, k < 6 → σ.2.2 42 k = τ.2.2 9 k
def rlQ (σ τ : ST) : Prop := σ.1 8 = τ.1 12
def rlU (σ τ : ST) : Prop := σ.2.1 9 = τ.2.1 13 ∧ σ.2.1 10 = τ.2.1 14
def fRc : FP := ([], [], [3, 4, 5, 6, 7, 8, 9])
def fRm : FP := ([], [], [5, 6])
def fTc : FP := ([], [], [12, 13, 14, 15, 16])
def fTm : FP := ([], [], [7, 8])
def fFc : FP := ([7], [], [42])
def fFm : FP := ([15], [], [9])
def fQc : FP := ([8], [], [])
def fQm : FP := ([12], [], [])
def fUc : FP := ([], [9, 10], [])
def fUm : FP := ([], [13, 14], [])
/-- the well's footprints -/
def fWc : FP := ([30, 31, 32, 33, 34, 35, 36, 37, 40, 41, 42], [], [24, 25, 26, 28, 29, 30, 31, 39, 40, 41])
def fWm : FP := ([1, 2, 3, 7], [], [1, 2, 3, 4])
theorem rlR.cg {σ τ σ' τ' : ST} (h : rlR σ τ) (h1 : same fRc σ σ') (h2 : same fRm τ τ') : rlR σ' τ' := by
  intro r hr
  have e3 : σ'.2.2 3 = σ.2.2 3 := h1.2.2 3 (by decide)
  have e4 : σ'.2.2 (4 + r) = σ.2.2 (4 + r) := h1.2.2 _ (by simp [fRc]; omega)
  have e5 : τ'.2.2 5 = τ.2.2 5 := h2.2.2 5 (by decide)
  have e6 : τ'.2.2 6 = τ.2.2 6 := h2.2.2 6 (by decide)
  rw [e3, e4, e5, e6]
  exact h r hr
theorem rlT.cg {σ τ σ' τ' : ST} (h : rlT σ τ) (h1 : same fTc σ σ') (h2 : same fTm τ τ') : rlT σ' τ' := by
  intro r hr
  have e3 : σ'.2.2 12 = σ.2.2 12 := h1.2.2 12 (by decide)
  have e4 : σ'.2.2 (13 + r) = σ.2.2 (13 + r) := h1.2.2 _ (by simp [fTc]; omega)
  have e5 : τ'.2.2 7 = τ.2.2 7 := h2.2.2 7 (by decide)
  have e6 : τ'.2.2 8 = τ.2.2 8 := h2.2.2 8 (by decide)
  rw [e3, e4, e5, e6]
  exact h r hr
theorem rlF.cg {σ τ σ' τ' : ST} (h : rlF σ τ) (h1 : same fFc σ σ') (h2 : same fFm τ τ') : rlF σ' τ' := by
  unfold rlF
  rw [h1.1 7 (by decide), h2.1 15 (by decide), h1.2.2 42 (by decide), h2.2.2 9 (by decide)]
  exact h
theorem rlQ.cg {σ τ σ' τ' : ST} (h : rlQ σ τ) (h1 : same fQc σ σ') (h2 : same fQm τ τ') : rlQ σ' τ' := by
  unfold rlQ
  rw [h1.1 8 (by decide), h2.1 12 (by decide)]
  exact h
theorem rlU.cg {σ τ σ' τ' : ST} (h : rlU σ τ) (h1 : same fUc σ σ') (h2 : same fUm τ τ') : rlU σ' τ' := by
  unfold rlU
  rw [h1.2.1 9 (by decide), h2.2.1 13 (by decide), h1.2.1 10 (by decide), h2.2.1 14 (by decide)]
  exact h
/-- the relation, over a well's own part -/
def RelG (Wl : ST → ST → Prop) (σ τ : ST) : Prop := rlR σ τ ∧ rlT σ τ ∧ rlF σ τ ∧ rlQ σ τ ∧ rlU σ τ ∧ Wl σ τ
def Cg (Wl : ST → ST → Prop) : Prop := ∀ σ τ σ' τ', Wl σ τ → same fWc σ σ' → same fWm τ τ' → Wl σ' τ'
