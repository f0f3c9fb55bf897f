/- undo -/
def uF (g : Nat → Int32) (a k : Nat) : Nat → Int32 := fun q => if 1 ≤ q ∧ q < 1 + k then g (24 + 23 * a + (q - 1)) else g q
theorem uF_s (g : Nat → Int32) (a k : Nat) : upd (uF g a k) (1 + k) (g (24 + 23 * a + k)) = uF g a (k + 1) := by
  funext q
  unfold upd uF
  by_cases e : q = 1 + k
  · rw [if_pos e, if_pos (by omega), show q - 1 = k by omega]
  · rw [if_neg e]
    by_cases e2 : 1 ≤ q ∧ q < 1 + k
    · rw [if_pos e2, if_pos (by omega)]
    · rw [if_neg e2, if_neg (by omega)]
theorem uF_0 (g : Nat → Int32) (a : Nat) : uF g a 0 = g := by
  funext q; unfold uF; rw [if_neg (by omega)]
theorem undo_67 (τ : ST) (a : Nat) (x : Int32) : M_X7_undo_67 τ (nI a) x = some (x, setA τ 1 (upd (τ.2.2 1) 0 (nI a))) := by
  unfold M_X7_undo_67
  rw [show (0 : Int32) = nI 0 from rfl, wrA_n _ _ _ (by decide) (by decide), Option.bind_some]
theorem undo_29 {τ : ST} {a n : Nat} (ha : a < n) (hn : n ≤ 40) : ∀ (m fu k : Nat), k + m = 23 → m < fu → M_X7_undo_29 fu (setA τ 1 (uF (τ.2.2 1) a k)) (nI a) (nI (n - a)) (nI k) = some (nI (n - a), setA τ 1 (upd (uF (τ.2.2 1) a 23) 0 (nI a)))
  | 0, fu + 1, k, h1, _ => by
    obtain rfl : k = 23 := by omega
    unfold M_X7_undo_29
    rw [if_pos (by decide), undo_67, setA_setA, sA_at]
  | m + 1, fu + 1, k, h1, h2 => by
    unfold M_X7_undo_29
    rw [if_neg (nl 23 23 rfl (show k < 23 by omega) (by decide)), if_neg (lg 0 0 rfl (show 0 < n - a by omega) (by omega)), show (24 : Int32) + 23 * nI a + nI k = nI (24 + 23 * a + k) by rw [show (23 : Int32) = nI 23 from rfl, pk_mul, show (24 : Int32) = nI 24 from rfl, nI_add, nI_add], rd_n _ (by omega) (by decide), Option.bind_some, sA_at, show uF (τ.2.2 1) a k (24 + 23 * a + k) = τ.2.2 1 (24 + 23 * a + k) from if_neg (by omega), show (1 : Int32) + nI k = nI (1 + k) by rw [show (1 : Int32) = nI 1 from rfl, nI_add], wrA_n _ _ _ (by omega) (by decide), Option.bind_some, sA_at, setA_setA, uF_s, nI_1]
    exact undo_29 ha hn m fu (k + 1) (by omega) (by omega)
theorem HM_undo {C : VT} {f : Nat → Dd} {n a : Nat} {τ : ST} (h : HM C f n 0 τ) (ha : a < n) : HM C f a 0 (setA τ 1 (upd (uF (τ.2.2 1) a 23) 0 (nI a))) := by
  obtain ⟨h1, h2, h3⟩ := h
  unfold HM
  rw [sA_at]
  refine ⟨if_pos rfl, fun k hk _ => ?_, fun m hm k hk => ?_⟩
  · have := h3 a ha k hk
    unfold upd uF
    rw [if_neg (by omega), if_pos (by omega), show 24 + 23 * a + (0 + 1 + k - 1) = 0 + 24 + 23 * a + k by omega]; exact this
  · have := h3 m (by omega) k hk
    unfold upd uF
    rw [if_neg (by omega), if_neg (by omega)]; exact this
theorem KP_cg {C : VT} {σ σ' τ τ' : ST} {k : Nat} (h : KP C k σ τ) (h1 : σ'.1 (40 + k) = σ.1 (40 + k)) (h2 : σ'.2.2 (39 + k) = σ.2.2 (39 + k)) (h3 : ∀ q, 944 * (1 + k) ≤ q → q < 944 * (1 + k) + 944 → τ'.2.2 1 q = τ.2.2 1 q) : KP C k σ' τ' := by
  unfold KP HC at h ⊢
  rw [h1, h2, h3 _ (by omega) (by omega)]
  rcases h with h | ⟨g, p, a1, a2, a3, a4, a5, a6, a7⟩
  · exact Or.inl h
  · have := a1.1
    refine Or.inr ⟨g, p, a1, a2, a3, a4, ?_, fun k hk hr => ?_, fun m hm k hk => ?_⟩
    · rw [h3 _ (by omega) (by omega)]; exact a5
    · rw [h3 _ (by omega) (by omega)]; exact a6 k hk hr
    · rw [h3 _ (by omega) (by omega)]; exact a7 m hm k hk
