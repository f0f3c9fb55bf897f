/- undo, both sides -/
def fAc : FP := ([7, 8], [9, 10], [3, 4, 5, 6, 7, 8, 9, 12, 13, 14, 15, 16, 42])
def fAm : FP := ([12, 15], [13, 14], [5, 6, 7, 8, 9])
theorem RelG.wl {W : ST → ST → Prop} {σ τ σ' τ' : ST} (h : RelG W σ τ) (hs : same fAc σ σ') (ht : same fAm τ τ') (hw : W σ' τ') : RelG W σ' τ' :=
  ⟨h.1.cg (hs.mono (by decide) (by decide) (by decide)) (ht.mono (by decide) (by decide) (by decide)), h.2.1.cg (hs.mono (by decide) (by decide) (by decide)) (ht.mono (by decide) (by decide) (by decide)), h.2.2.1.cg (hs.mono (by decide) (by decide) (by decide)) (ht.mono (by decide) (by decide) (by decide)), h.2.2.2.1.cg (hs.mono (by decide) (by decide) (by decide)) (ht.mono (by decide) (by decide) (by decide)), h.2.2.2.2.1.cg (hs.mono (by decide) (by decide) (by decide)) (ht.mono (by decide) (by decide) (by decide)), hw⟩
theorem CM.sA1 {C : VT} {τ : ST} {g : Nat → Int32} (h : CM C τ) : CM C (setA τ 1 g) := h
theorem okH.le {C : VT} {f : Nat → Dd} {n a : Nat} (h : okH C f n) (ha : a ≤ n) : okH C f a := ⟨Nat.le_trans ha h.1, fun q => h.2.1 (by omega), fun m hm => h.2.2 m (by omega)⟩
theorem pure_undo : P_undo (RelG Wl) := by
  intro σ τ a hR
  obtain ⟨C, f, n, h1, h2, h3, h4, h5, h6, h7, h8, h9⟩ := hR.2.2.2.2.2
  have h40 := h4.1
  have em : M_X7_undo τ a = (some (if a < 0 then (0 : Int32) else if nI n < a then 0 else 1)).bind fun o10 => if o10 = 0 then some ((-1), τ) else M_X7_undo_29 10000 τ a (nI n - a) 0 := by
    unfold M_X7_undo
    have r0 : rd 3776 (τ.2.2 1) 0 = some (nI n) := by rw [← h8.1]; exact rd_n (j := 0) _ (by decide) (by decide)
    rw [r0, Option.bind_some, show (0 : Int64) = (0 : Int32).toInt64 from rfl, in7i, Option.bind_some, Option.bind_some, Option.bind_some]
  rcases i3 a (n := n + 1) (by omega) with q | ⟨q, q'⟩ | ⟨j, hj, rfl⟩
  · exact ⟨-1, σ, τ, by unfold M_X6_undo; rw [if_pos q], by rw [em, if_pos q]; rfl, hR⟩
  · have q2 : nI n < a := by
      rw [Int32.le_iff_toInt_le, nI_toInt (by omega)] at q'
      rw [Int32.lt_iff_toInt_lt, nI_toInt (by omega)]; omega
    exact ⟨-1, σ, τ, by unfold M_X6_undo; rw [if_neg q, h5, if_neg (Int32.not_le.mpr q2)], by rw [em, if_neg q, if_pos q2]; rfl, hR⟩
  · have ho := h4.le (a := j) (by omega)
    obtain ⟨σ', u1, u2, u3⟩ := replay_c (σ := setI σ 37 (nI j)) h1 ho h2 rfl (fun m hm => h6 m (by omega))
    have ec : M_X6_undo σ (nI j) = some (nI (n - j), σ') := by
      unfold M_X6_undo
      rw [if_neg (nI_pos (by omega)), h5, if_pos (nI_le (by omega) (by omega)), Option.bind_some, u1, Option.bind_some, pk_sub (by omega)]
    rw [if_neg (nI_pos (by omega)), if_neg (nI_nlt (by omega) (by omega)), Option.bind_some, if_neg n10, pk_sub (by omega)] at em
    have hsc : same fAc σ σ' := (same.rf.sI (by decide)).tr (u2.same (by decide) (by decide) (by decide) (by decide) (by decide))
    have hkp : ∀ k, k < 3 → σ'.1 (40 + k) = σ.1 (40 + k) ∧ σ'.2.2 (39 + k) = σ.2.2 (39 + k) := fun k hk => ⟨(u2.1 (40 + k) (by omega) (by omega)).trans (vu_ne (by omega)), u2.2.2 (39 + k) (by omega) (by omega) (by omega)⟩
    have fin : ∀ g : Nat → Int32, (∀ q, 944 ≤ q → g q = τ.2.2 1 q) → HM C f j 0 (setA τ 1 g) → RelG Wl σ' (setA τ 1 g) := by
      intro g hg hH
      refine hR.wl hsc (same.rf.sA (by decide)) ⟨C, f, j, h1, CC.cg (σ := setI σ 37 (nI j)) h2 u2, h3.sA1, ho, (u2.1 37 (by decide) (by decide)).trans rfl, HC.cg (σ := setI σ 37 (nI j)) (fun m hm => h6 m (by omega)) u2, u3, hH, fun k hk => KP_cg (h9 k hk) (hkp k hk).1 (hkp k hk).2 (fun q z1 z2 => ?_)⟩
      rw [sA_at]; exact hg q (by omega)
    by_cases w : j = n
    · subst w
      refine ⟨nI (j - j), σ', setA τ 1 (upd (τ.2.2 1) 0 (nI j)), ec, ?_, fin _ (fun q z => if_neg (by omega)) ?_⟩
      · rw [em]
        unfold M_X7_undo_29
        rw [if_neg (by decide), Nat.sub_self, if_pos (by decide), undo_67]
      · obtain ⟨x1, x2, x3⟩ := h8
        unfold HM
        rw [sA_at]
        refine ⟨if_pos rfl, fun k hk hr => ?_, fun m hm k hk => ?_⟩
        · unfold upd; rw [if_neg (by omega)]; exact x2 k hk hr
        · unfold upd; rw [if_neg (by omega)]; exact x3 m hm k hk
    · have hu := undo_29 (τ := τ) (a := j) (n := n) (by omega) h40 23 10000 0 (by omega) (by omega)
      rw [uF_0, setA_self] at hu
      refine ⟨nI (n - j), σ', _, ec, em.trans hu, fin _ (fun q z => ?_) (HM_undo h8 (by omega))⟩
      unfold upd uF
      rw [if_neg (by omega), if_neg (by omega)]
