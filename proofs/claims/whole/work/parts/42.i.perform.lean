/- the class does one deed more -/
theorem okH.add {C : VT} {f : Nat → Dd} {n : Nat} {d : Dd} (h : okH C f n) (hn : n < 40) (hp : 0 < C 0 0) (hd : okDd C d) : okH C (fx f n d) (n + 1) := by
  refine ⟨by omega, fun _ => hp, fun m hm => ?_⟩
  unfold fx
  by_cases e : m = n
  · rw [if_pos e]; exact hd
  · rw [if_neg e]; exact h.2.2 m (by omega)
theorem perform_c {C : VT} {f : Nat → Dd} {n : Nat} {d : Dd} {σ τ : ST} (h : WlC C f n σ τ) (hR : RelG Wl σ τ) (hn : n < 40) (hp : 0 < C 0 0) (hd : okDd C d) : ∃ σ', M_X5_perform σ (nI (enc d)) = some (rsl d C (rep C f n), σ') ∧ σ'.1 35 = nI (ap C d (rep C f n) 1) ∧ ∀ g : Nat → Int32, g 0 = nI (n + 1) → (∀ k, k < 23 → g (1 + k) = nI (ap C d (rep C f n) k)) → (∀ q, 24 ≤ q → g q = pF (τ.2.2 1) n q) → RelG Wl σ' (setA τ 1 g) := by
  obtain ⟨h1, h2, h3, h4, h5, h6, h7, h8, h9⟩ := h
  obtain ⟨σ', u1, u2, u3⟩ := apply_c (σ := setI (setA σ 28 (upd (σ.2.2 28) n (nI (enc d)))) 37 (nI (n + 1))) h1 (m := n) (by omega) h2 h7 (rep_ok h1 h4.2.2 n (Nat.le_refl _)) d hd
  refine ⟨σ', ?_, u3.2.1, fun g g0 g1 g2 => ?_⟩
  · unfold M_X5_perform M_X1_add
    rw [h5, if_neg (nI_pos (by omega)), if_neg (nl 40 40 rfl hn (by decide)), wrA_n _ _ _ hn (by decide), Option.bind_some, Option.bind_some, Option.bind_some]
    show (M_X5_apply (setI (setA σ 28 (upd (σ.2.2 28) n (nI (enc d)))) 37 (σ.1 37 + 1)) (nI (enc d))).bind _ = _
    rw [h5, nI_1, u1, Option.bind_some]
  · refine hR.wl ((same.rf.sA (by decide)).sI (by decide) |>.tr (u2.same (by decide) (by decide) (by decide) (by decide) (by decide))) (same.rf.sA (by decide)) ⟨C, fx f n d, n + 1, h1, CC.cg (σ := setI (setA σ 28 (upd (σ.2.2 28) n (nI (enc d)))) 37 (nI (n + 1))) h2 u2, h3.sA1, h4.add hn hp hd, (u2.1 37 (by decide) (by decide)).trans rfl, ?_, ?_, HM_add h8 hp g0 g1 (fun q z _ => g2 q z), fun k hk => KP_cg (h9 k hk) ((u2.1 (40 + k) (by omega) (by omega)).trans (vu_ne (by omega))) ((u2.2.2 (39 + k) (by omega) (by omega) (by omega)).trans (vu_ne (by omega))) (fun q z1 z2 => ?_)⟩
    · refine HC.cg (σ := setI (setA σ 28 (upd (σ.2.2 28) n (nI (enc d)))) 37 (nI (n + 1))) (fun m hm => ?_) u2
      show upd (σ.2.2 28) n (nI (enc d)) m = nI (enc (fx f n d m))
      unfold upd fx
      by_cases e : m = n
      · rw [if_pos e, if_pos e]
      · rw [if_neg e, if_neg e]; exact h6 m (by omega)
    · rw [rep_fx1]; exact u3
    · rw [sA_at, g2 q (by omega), pF_f _ _ (by omega)]
