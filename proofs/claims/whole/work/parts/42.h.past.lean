/- a deed more -/
def kF (g : Nat → Int32) (n k : Nat) : Nat → Int32 := fun q => if 24 + 23 * n ≤ q ∧ q < 24 + 23 * n + k then g (1 + (q - (24 + 23 * n))) else g q
theorem kF_s (g : Nat → Int32) (n k : Nat) : upd (kF g n k) (24 + 23 * n + k) (g (1 + k)) = kF g n (k + 1) := by
  funext q
  unfold upd kF
  by_cases e : q = 24 + 23 * n + k
  · rw [if_pos e, if_pos (by omega), show q - (24 + 23 * n) = k by omega]
  · rw [if_neg e]
    by_cases e2 : 24 + 23 * n ≤ q ∧ q < 24 + 23 * n + k
    · rw [if_pos e2, if_pos (by omega)]
    · rw [if_neg e2, if_neg (by omega)]
theorem kF_0 (g : Nat → Int32) (n : Nat) : kF g n 0 = g := by
  funext q; unfold kF; rw [if_neg (by omega)]
theorem past_2 {τ : ST} {n : Nat} (hn : n < 40) (h0 : τ.2.2 1 0 = nI n) : ∀ (m fu k : Nat), k + m = 23 → m < fu → M_X7_keepPast_2 fu (setA τ 1 (kF (τ.2.2 1) n k)) (nI k) = some (setA τ 1 (upd (kF (τ.2.2 1) n 23) 0 (nI (n + 1))))
  | 0, fu + 1, k, h1, _ => by
    obtain rfl : k = 23 := by omega
    have r0 : rd 3776 (kF (τ.2.2 1) n 23) 0 = some (nI n) := by rw [← h0]; exact (rd_n (j := 0) _ (by decide) (by decide)).trans (congrArg some (if_neg (by omega)))
    unfold M_X7_keepPast_2
    rw [if_pos (by decide), sA_at, r0, Option.bind_some, nI_1, show wrA 3776 (setA τ 1 (kF (τ.2.2 1) n 23)) 1 0 (nI (n + 1)) = _ from wrA_n (j := 0) _ _ _ (by decide) (by decide), Option.bind_some, setA_setA, sA_at]
  | m + 1, fu + 1, k, h1, h2 => by
    have r0 : rd 3776 (kF (τ.2.2 1) n k) 0 = some (nI n) := by rw [← h0]; exact (rd_n (j := 0) _ (by decide) (by decide)).trans (congrArg some (if_neg (by omega)))
    unfold M_X7_keepPast_2
    rw [if_neg (nl 23 23 rfl (show k < 23 by omega) (by decide)), sA_at, r0, Option.bind_some, show (1 : Int32) + nI k = nI (1 + k) by rw [show (1 : Int32) = nI 1 from rfl, nI_add], rd_n _ (by omega) (by decide), Option.bind_some, show kF (τ.2.2 1) n k (1 + k) = τ.2.2 1 (1 + k) from if_neg (by omega), show (24 : Int32) + 23 * nI n + nI k = nI (24 + 23 * n + k) by rw [show (23 : Int32) = nI 23 from rfl, pk_mul, show (24 : Int32) = nI 24 from rfl, nI_add, nI_add], wrA_n _ _ _ (by omega) (by decide), Option.bind_some, sA_at, setA_setA, kF_s, nI_1]
    exact past_2 hn h0 m fu (k + 1) (by omega) (by omega)
def pF (g : Nat → Int32) (n : Nat) : Nat → Int32 := upd (kF g n 23) 0 (nI (n + 1))
theorem past_m {τ : ST} {n : Nat} (hn : n < 40) (h0 : τ.2.2 1 0 = nI n) : M_X7_keepPast τ = some (setA τ 1 (pF (τ.2.2 1) n)) := by
  have := past_2 hn h0 23 10000 0 (by omega) (by omega)
  rw [kF_0, setA_self] at this
  unfold M_X7_keepPast
  exact this
theorem pF_0 (g : Nat → Int32) (n : Nat) : pF g n 0 = nI (n + 1) := by unfold pF upd; rw [if_pos rfl]
theorem pF_c (g : Nat → Int32) (n : Nat) {q : Nat} (h : 0 < q) (h2 : q < 24 + 23 * n) : pF g n q = g q := by unfold pF upd kF; rw [if_neg (by omega), if_neg (by omega)]
theorem pF_n (g : Nat → Int32) (n : Nat) {k : Nat} (h : k < 23) : pF g n (24 + 23 * n + k) = g (1 + k) := by unfold pF upd kF; rw [if_neg (by omega), if_pos (by omega), show 24 + 23 * n + k - (24 + 23 * n) = k by omega]
theorem pF_f (g : Nat → Int32) (n : Nat) {q : Nat} (h : 24 + 23 * n + 23 ≤ q) : pF g n q = g q := by unfold pF upd kF; rw [if_neg (by omega), if_neg (by omega)]
def fx (f : Nat → Dd) (n : Nat) (d : Dd) : Nat → Dd := fun m => if m = n then d else f m
theorem rep_fx {C : VT} {f : Nat → Dd} {n : Nat} {d : Dd} : ∀ m, m ≤ n → rep C (fx f n d) m = rep C f m
  | 0, _ => rfl
  | m + 1, h => by
    show ap C (fx f n d m) (rep C (fx f n d) m) = ap C (f m) (rep C f m)
    rw [rep_fx m (by omega), show fx f n d m = f m from if_neg (by omega)]
theorem rep_fx1 {C : VT} {f : Nat → Dd} {n : Nat} {d : Dd} : rep C (fx f n d) (n + 1) = ap C d (rep C f n) := by
  show ap C (fx f n d n) (rep C (fx f n d) n) = _
  rw [rep_fx n (Nat.le_refl _), show fx f n d n = d from if_pos rfl]
theorem HM_add {C : VT} {f : Nat → Dd} {n : Nat} {d : Dd} {τ : ST} {g : Nat → Int32} (h : HM C f n 0 τ) (hp : 0 < C 0 0) (g0 : g 0 = nI (n + 1)) (g1 : ∀ k, k < 23 → g (1 + k) = nI (ap C d (rep C f n) k)) (g2 : ∀ q, 24 ≤ q → q < 24 + 23 * n + 23 → g q = pF (τ.2.2 1) n q) : HM C (fx f n d) (n + 1) 0 (setA τ 1 g) := by
  obtain ⟨h1, h2, h3⟩ := h
  unfold HM
  rw [sA_at]
  refine ⟨g0, fun k hk _ => ?_, fun m hm k hk => ?_⟩
  · rw [rep_fx1, show 0 + 1 + k = 1 + k by omega]; exact g1 k hk
  · rw [rep_fx m (by omega), g2 _ (by omega) (by omega)]
    by_cases e : m = n
    · subst e
      rw [show 0 + 24 + 23 * m + k = 24 + 23 * m + k by omega, pF_n _ _ hk]
      have := h2 k hk (Or.inl hp)
      rw [show 0 + 1 + k = 1 + k by omega] at this; exact this
    · rw [pF_c _ _ (by omega) (by omega)]; exact h3 m (by omega) k hk
