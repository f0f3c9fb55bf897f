/- wells kept, gone on from -/
theorem cp40 (σ : ST) (a b : Nat) : cpA 40 40 σ a b 0 0 40 = some (setA σ b (va_cpy (σ.2.2 a) (σ.2.2 b) 0 0 40)) := by
  unfold cpA
  rw [if_neg (by decide)]
  rfl
def cwF (g : Nat → Int32) (a b k : Nat) : Nat → Int32 := fun q => if b ≤ q ∧ q < b + k then g (a + (q - b)) else g q
theorem cwF_s (g : Nat → Int32) (a b k : Nat) : upd (cwF g a b k) (b + k) (g (a + k)) = cwF g a b (k + 1) := by
  funext q
  unfold upd cwF
  by_cases e : q = b + k
  · rw [if_pos e, if_pos (by omega), show q - b = k by omega]
  · rw [if_neg e]
    by_cases e2 : b ≤ q ∧ q < b + k
    · rw [if_pos e2, if_pos (by omega)]
    · rw [if_neg e2, if_neg (by omega)]
theorem cwF_0 (g : Nat → Int32) (a b : Nat) : cwF g a b 0 = g := by
  funext q; unfold cwF; rw [if_neg (by omega)]
theorem copyW_2 {τ : ST} {a b : Nat} (ha : a + 944 ≤ 3776) (hb : b + 944 ≤ 3776) (hd : a + 944 ≤ b ∨ b + 944 ≤ a) : ∀ (m fu k : Nat), k + m = 944 → m < fu → M_X7_copyWell_2 fu (setA τ 1 (cwF (τ.2.2 1) a b k)) (nI a) (nI b) (nI k) = some (setA τ 1 (cwF (τ.2.2 1) a b 944))
  | 0, fu + 1, k, h1, _ => by
    obtain rfl : k = 944 := by omega
    rw [M_X7_copyWell_2, if_pos (by decide)]
  | m + 1, fu + 1, k, h1, h2 => by
    rw [M_X7_copyWell_2, if_neg (nl 944 944 rfl (show k < 944 by omega) (by decide)), nI_add, nI_add, sA_at, rd_n _ (by omega) (by decide), Option.bind_some, show cwF (τ.2.2 1) a b k (a + k) = τ.2.2 1 (a + k) from if_neg (by omega), wrA_n _ _ _ (by omega) (by decide), Option.bind_some, sA_at, setA_setA, cwF_s, nI_1]
    exact copyW_2 ha hb hd m fu (k + 1) (by omega) (by omega)
theorem copyW_m {τ : ST} {a b : Nat} (ha : a + 944 ≤ 3776) (hb : b + 944 ≤ 3776) (hd : a + 944 ≤ b ∨ b + 944 ≤ a) : M_X7_copyWell τ (nI a) (nI b) = some (setA τ 1 (cwF (τ.2.2 1) a b 944)) := by
  have := copyW_2 (τ := τ) ha hb hd 944 10000 0 (by omega) (by omega)
  rw [cwF_0, setA_self] at this
  unfold M_X7_copyWell
  exact this
theorem HM_mv {C : VT} {f : Nat → Dd} {n a b : Nat} {τ : ST} {g : Nat → Int32} (h : HM C f n a τ) (hn : n ≤ 40) (hg : ∀ t, t < 944 → g (b + t) = τ.2.2 1 (a + t)) : HM C f n b (setA τ 1 g) := by
  obtain ⟨h1, h2, h3⟩ := h
  unfold HM
  rw [sA_at]
  refine ⟨(hg 0 (by decide)).trans h1, fun k hk hr => ?_, fun m hm k hk => ?_⟩
  · rw [show b + 1 + k = b + (1 + k) by omega, hg _ (by omega), show a + (1 + k) = a + 1 + k by omega]; exact h2 k hk hr
  · rw [show b + 24 + 23 * m + k = b + (24 + 23 * m + k) by omega, hg _ (by omega), show a + (24 + 23 * m + k) = a + 24 + 23 * m + k by omega]; exact h3 m hm k hk
theorem keep_w {C : VT} {f : Nat → Dd} {n : Nat} {σ τ : ST} (h : WlC C f n σ τ) (hR : RelG Wl σ τ) (hp : 0 < C 0 0) {j : Nat} (hj : j < 3) : RelG Wl (setI (setA σ (39 + j) (va_cpy (σ.2.2 28) (σ.2.2 (39 + j)) 0 0 40)) (40 + j) (nI n)) (setA τ 1 (cwF (τ.2.2 1) 0 (944 * (1 + j)) 944)) := by
  obtain ⟨h1, h2, h3, h4, h5, h6, h7, h8, h9⟩ := h
  have h40 := h4.1
  have hs : same fAc σ (setI (setA σ (39 + j) (va_cpy (σ.2.2 28) (σ.2.2 (39 + j)) 0 0 40)) (40 + j) (nI n)) := by
    rcases (show j = 0 ∨ j = 1 ∨ j = 2 by omega) with rfl | rfl | rfl <;> exact (same.rf.sA (by decide)).sI (by decide)
  have hM : HM C f n 0 (setA τ 1 (cwF (τ.2.2 1) 0 (944 * (1 + j)) 944)) := HM_mv h8 h40 (fun t ht => if_neg (by omega))
  have hN : HM C f n (944 * (1 + j)) (setA τ 1 (cwF (τ.2.2 1) 0 (944 * (1 + j)) 944)) := HM_mv h8 h40 (fun t ht => by
    unfold cwF
    rw [if_pos (by omega), show 944 * (1 + j) + t - 944 * (1 + j) = t by omega])
  have hH : HC f n (39 + j) (setI (setA σ (39 + j) (va_cpy (σ.2.2 28) (σ.2.2 (39 + j)) 0 0 40)) (40 + j) (nI n)) := by
    intro m hm
    show (setA σ (39 + j) _).2.2 (39 + j) m = _
    rw [sA_at, pk_cpy_in (Nat.zero_le _) (by omega), show 0 + (m - 0) = m by omega]
    exact h6 m hm
  have hK : ∀ k, k < 3 → KP C k (setI (setA σ (39 + j) (va_cpy (σ.2.2 28) (σ.2.2 (39 + j)) 0 0 40)) (40 + j) (nI n)) (setA τ 1 (cwF (τ.2.2 1) 0 (944 * (1 + j)) 944)) := by
    intro k hk
    by_cases e : k = j
    · subst e
      exact Or.inr ⟨f, n, h4, hp, vu_eq, hH, hN⟩
    · refine KP_cg (h9 k hk) (vu_ne (by omega)) (vu_ne (by omega)) (fun q z1 z2 => ?_)
      rw [sA_at]
      exact if_neg (by omega)
  refine hR.wl hs (same.rf.sA (by decide)) ⟨C, f, n, h1, ?_, h3.sA1, h4, ?_, ?_, ?_, hM, hK⟩
  · rcases (show j = 0 ∨ j = 1 ∨ j = 2 by omega) with rfl | rfl | rfl <;> exact h2
  · rcases (show j = 0 ∨ j = 1 ∨ j = 2 by omega) with rfl | rfl | rfl <;> exact h5
  · rcases (show j = 0 ∨ j = 1 ∨ j = 2 by omega) with rfl | rfl | rfl <;> exact h6
  · rcases (show j = 0 ∨ j = 1 ∨ j = 2 by omega) with rfl | rfl | rfl <;> exact h7
theorem iw944 (j : Nat) : (944 : Int32) * (1 + nI j) = nI (944 * (1 + j)) := by rw [show (944 : Int32) = nI 944 from rfl, show (1 : Int32) = nI 1 from rfl, nI_add, pk_mul]
theorem pure_keep : P_keep (RelG Wl) := by
  intro σ τ a hR
  obtain ⟨C, f, n, hW⟩ := hR.2.2.2.2.2
  have hW' := hW
  obtain ⟨h1, h2, h3, h4, h5, h6, h7, h8, h9⟩ := hW'
  have h40 := h4.1
  have c7 := h1.1
  rcases in7k (a := a) 3 (v := 2) rfl (by decide) with ⟨z, z'⟩ | ⟨z, z1, z'⟩ | ⟨j, hj, rfl, z'⟩
  · exact ⟨-1, σ, τ, by unfold M_X6_keep; rw [if_pos z], by unfold M_X7_keep; rw [z', Option.bind_some, if_pos rfl], hR⟩
  · exact ⟨-1, σ, τ, by unfold M_X6_keep; rw [if_neg z, if_neg (show ¬ a < 3 from Int32.not_lt.mpr z1)], by unfold M_X7_keep; rw [z', Option.bind_some, if_pos rfl], hR⟩
  have l3 : nI j < 3 := nI_lt (b := 3) hj (by decide)
  by_cases q : C 0 0 = 0
  · refine ⟨-4, σ, τ, ?_, ?_, hR⟩
    · unfold M_X6_keep M_X5_houses; rw [if_neg (nI_pos (by omega)), if_pos l3, h2.1, Option.bind_some, q, if_pos n00]
    · unfold M_X7_keep; rw [z', Option.bind_some, if_neg n10, h3.1, q, if_pos n00]
  · refine ⟨nI n, _, _, ?_, ?_, keep_w hW hR (by omega) hj⟩
    · unfold M_X6_keep M_X5_houses M_X1_take_k
      rw [if_neg (nI_pos (by omega)), if_pos l3, h2.1, Option.bind_some, if_neg (nI_ne0 (by omega) (by omega)), inR_n hj (by decide), Option.bind_some, cp40, Option.bind_some, Option.bind_some, Option.bind_some]
      have e : (setA σ (39 + j) (va_cpy (σ.2.2 28) (σ.2.2 (39 + j)) 0 0 40)).1 37 = nI n := h5
      rw [e, show (setI (setA σ (39 + j) (va_cpy (σ.2.2 28) (σ.2.2 (39 + j)) 0 0 40)) (40 + j) (nI n)).1 37 = nI n from (vu_ne (by omega)).trans h5]
    · unfold M_X7_keep
      have r0 : rd 3776 (cwF (τ.2.2 1) 0 (944 * (1 + j)) 944) 0 = some (nI n) := (rd_n (j := 0) _ (by decide) (by decide)).trans (congrArg some ((if_neg (by omega)).trans h8.1))
      rw [z', Option.bind_some, if_neg n10, h3.1, if_neg (nI_ne0 (by omega) (by omega)), iw944, show M_X7_copyWell τ 0 (nI (944 * (1 + j))) = _ from copyW_m (τ := τ) (a := 0) (b := 944 * (1 + j)) (by omega) (by omega) (by omega), Option.bind_some, sA_at, r0, Option.bind_some]
theorem on_w {C : VT} {f g : Nat → Dd} {n p : Nat} {σ σ' τ : ST} (h : WlC C f n σ τ) (hR : RelG Wl σ τ) {j : Nat} (hj : j < 3) (ho : okH C g p) (hN : HM C g p (944 * (1 + j)) τ) (hH : HC g p (39 + j) σ) (he : eqx (setI (setA σ 28 (va_cpy (σ.2.2 (39 + j)) (σ.2.2 28) 0 0 40)) 37 (nI p)) σ') (hD : DC C (rep C g p) σ') : RelG Wl σ' (setA τ 1 (cwF (τ.2.2 1) (944 * (1 + j)) 0 944)) := by
  obtain ⟨h1, h2, h3, h4, h5, h6, h7, h8, h9⟩ := h
  have hp := ho.1
  have hs : same fAc σ σ' := ((same.rf.sA (by decide)).sI (by decide)).tr (he.same (by decide) (by decide) (by decide) (by decide) (by decide))
  refine hR.wl hs (same.rf.sA (by decide)) ⟨C, g, p, h1, CC.cg (σ := setI (setA σ 28 (va_cpy (σ.2.2 (39 + j)) (σ.2.2 28) 0 0 40)) 37 (nI p)) h2 he, h3.sA1, ho, (he.1 37 (by decide) (by decide)).trans rfl, ?_, hD, HM_mv hN hp (fun t ht => ?_), fun k hk => KP_cg (h9 k hk) ((he.1 (40 + k) (by omega) (by omega)).trans (vu_ne (by omega))) ((he.2.2 (39 + k) (by omega) (by omega) (by omega)).trans (vu_ne (by omega))) (fun q z1 z2 => ?_)⟩
  · refine HC.cg (σ := setI (setA σ 28 (va_cpy (σ.2.2 (39 + j)) (σ.2.2 28) 0 0 40)) 37 (nI p)) (fun m hm => ?_) he
    show va_cpy (σ.2.2 (39 + j)) (σ.2.2 28) 0 0 40 m = _
    rw [pk_cpy_in (Nat.zero_le _) (by omega), show 0 + (m - 0) = m by omega]
    exact hH m hm
  · unfold cwF; rw [if_pos (by omega), show 0 + t - 0 = t by omega]
  · rw [sA_at]; unfold cwF; rw [if_neg (by omega)]
theorem pure_on : P_on (RelG Wl) := by
  intro σ τ a hR
  obtain ⟨C, f, n, hW⟩ := hR.2.2.2.2.2
  have hW' := hW
  obtain ⟨h1, h2, h3, h4, h5, h6, h7, h8, h9⟩ := hW'
  have h40 := h4.1
  have c7 := h1.1
  rcases in7k (a := a) 3 (v := 2) rfl (by decide) with ⟨z, z'⟩ | ⟨z, z1, z'⟩ | ⟨j, hj, rfl, z'⟩
  · exact ⟨-1, σ, τ, by unfold M_X6_on; rw [if_pos z], by unfold M_X7_on; rw [z', Option.bind_some, if_pos rfl], hR⟩
  · exact ⟨-1, σ, τ, by unfold M_X6_on; rw [if_neg z, if_neg (show ¬ a < 3 from Int32.not_lt.mpr z1)], by unfold M_X7_on; rw [z', Option.bind_some, if_pos rfl], hR⟩
  have l3 : nI j < 3 := nI_lt (b := 3) hj (by decide)
  have rk0 : rd 3776 (τ.2.2 1) (nI (944 * (1 + j)) + 0) = some (τ.2.2 1 (944 * (1 + j))) := by
    rw [show nI (944 * (1 + j)) + 0 = nI (944 * (1 + j) + 0) from nI_add _ 0]; exact rd_n _ (by omega) (by decide)
  rcases h9 j hj with ⟨k1, k2⟩ | ⟨g, p, ho, hp, k1, k2, k3⟩
  · obtain ⟨σ', τ', e1, e2, e3⟩ := refuse_ok Wl_cg hR (k := 1) (v := 1) rfl (by decide)
    refine ⟨-3, σ', τ', ?_, ?_, e3⟩
    · unfold M_X6_on; rw [if_neg (nI_pos (by omega)), if_pos l3, inR_n hj (by decide), Option.bind_some, if_pos k1, e1]; rfl
    · unfold M_X7_on; rw [z', Option.bind_some, if_neg n10, iw944, rk0, Option.bind_some, k2, if_neg n0m1, e2]; rfl
  · have hp40 := ho.1
    obtain ⟨σ', u1, u2, u3⟩ := replay_c (σ := setI (setA σ 28 (va_cpy (σ.2.2 (39 + j)) (σ.2.2 28) 0 0 40)) 37 (nI p)) h1 ho h2 rfl (fun m hm => by
      show va_cpy (σ.2.2 (39 + j)) (σ.2.2 28) 0 0 40 m = _
      rw [pk_cpy_in (Nat.zero_le _) (by omega), show 0 + (m - 0) = m by omega]
      exact k2 m hm)
    refine ⟨nI p, σ', _, ?_, ?_, on_w hW hR hj ho k3 k2 u2 u3⟩
    · unfold M_X6_on M_X1_take_o
      rw [if_neg (nI_pos (by omega)), if_pos l3, inR_n hj (by decide), Option.bind_some, k1, if_neg (m1_ne (by omega)), Option.bind_some, cp40, Option.bind_some, Option.bind_some, Option.bind_some, show (setA σ 28 (va_cpy (σ.2.2 (39 + j)) (σ.2.2 28) 0 0 40)).1 (40 + j) = nI p from k1, u1, Option.bind_some, show σ'.1 37 = nI p from (u2.1 37 (by decide) (by decide)).trans rfl]
    · unfold M_X7_on
      have r0 : rd 3776 (cwF (τ.2.2 1) (944 * (1 + j)) 0 944) 0 = some (nI p) := by
        refine (rd_n (j := 0) _ (by decide) (by decide)).trans (congrArg some ?_)
        unfold cwF
        rw [if_pos (by omega), show 944 * (1 + j) + (0 - 0) = 944 * (1 + j) by omega]; exact k3.1
      rw [z', Option.bind_some, if_neg n10, iw944, rk0, Option.bind_some, k3.1, if_pos (nI_nonneg (by omega)), show M_X7_copyWell τ (nI (944 * (1 + j))) 0 = _ from copyW_m (τ := τ) (a := 944 * (1 + j)) (b := 0) (by omega) (by omega) (by omega), Option.bind_some, sA_at, r0, Option.bind_some]
