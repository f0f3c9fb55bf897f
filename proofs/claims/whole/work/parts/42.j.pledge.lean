/- pledge -/
theorem full_c {σ : ST} {n : Nat} (h : σ.1 37 = nI n) (hn : n ≤ 40) : M_X1_isFull σ 1 = some (if n = 40 then 1 else 0) := by
  unfold M_X1_isFull
  rw [h, nI_1]
  by_cases e : n = 40
  · rw [if_neg (lg 40 40 rfl (show 40 < n + 1 by omega) (by omega)), if_pos e]; rfl
  · rw [if_pos (ll 40 40 rfl (show n + 1 ≤ 40 by omega) (by decide)), if_neg e]; rfl
theorem pd_all : ∀ a, a < 7 → ∀ b, b < 7 → M_X6_pledgeDeed (nI a) (nI b) = some (nI (1 + 4 * a + 32 * b)) := by decide +kernel
theorem pure_pledge : P_pledge (RelG Wl) := by
  intro σ τ a b hR
  obtain ⟨V, ok, hc, hm⟩ := Wl_vws σ τ hR.2.2.2.2.2
  obtain ⟨C, f, n, hW⟩ := hR.2.2.2.2.2
  have hW' := hW
  obtain ⟨h1, h2, h3, h4, h5, h6, h7, h8, h9⟩ := hW'
  have h40 := h4.1
  have c7 := h1.1
  have okv := vw_ok h1 (rep_ok h1 h4.2.2 n (Nat.le_refl _)) h40
  have hcv := vw_c h1.1 h2 h7
  have hmv := vw_m h1.1 h3 h8
  rcases house_cm okv hcv hmv a with ⟨e1, e2⟩ | ⟨i, hi, rfl, e1, e2⟩
  · exact ⟨-1, σ, τ, by unfold M_X6_pledge; rw [e1, Option.bind_some, if_pos rfl], by unfold M_X7_pledge; rw [e2, Option.bind_some, if_pos rfl], hR⟩
  rcases house_cm okv hcv hmv b with ⟨d1, d2⟩ | ⟨j, hj, rfl, d1, d2⟩
  · exact ⟨-1, σ, τ, by unfold M_X6_pledge; rw [e1, Option.bind_some, if_neg n10, d1, Option.bind_some, if_pos rfl], by unfold M_X7_pledge; rw [e2, Option.bind_some, if_neg n10, d2, Option.bind_some, if_pos rfl], hR⟩
  have hi : i < C 0 0 := hi
  have hj : j < C 0 0 := hj
  have k1 : σ.2.2 29 i = nI (rep C f n (2 + i)) := ((h7.2.2 i (by omega)).1 (by omega)).1
  have k2 : τ.2.2 1 (3 + i) = nI (rep C f n (2 + i)) := by
    have := h8.2.1 (2 + i) (by omega) (Or.inl (by omega))
    rw [show 0 + 1 + (2 + i) = 3 + i by omega] at this; exact this
  have r0 : rd 3776 (τ.2.2 1) 0 = some (nI n) := by rw [← h8.1]; exact rd_n (j := 0) _ (by decide) (by decide)
  have ec : M_X6_pledge σ (nI i) (nI j) = if nI (rep C f n (2 + i)) = nI j then some (-4, σ) else if n = 40 then some (-2, σ) else (M_X5_perform σ (nI (1 + 4 * i + 32 * j))).bind fun o68 => some (nI (rep C f n (2 + i)), o68.2) := by
    unfold M_X6_pledge
    rw [e1, Option.bind_some, if_neg n10, d1, Option.bind_some, if_neg n10, rd_n _ (by omega) (by decide), Option.bind_some, k1, full_c h5 h40, Option.bind_some, pd_all i (by omega) j (by omega), Option.bind_some]
    by_cases e : n = 40
    · rw [if_pos e, if_neg n10, if_pos e]
    · rw [if_neg e, if_pos rfl, if_neg e]
  have em : M_X7_pledge τ (nI i) (nI j) = if nI (rep C f n (2 + i)) = nI j then some (-4, τ) else if nI n = 40 then some (-2, τ) else (M_X7_keepPast τ).bind fun o50 => (wrA 3776 o50 1 (nI (3 + i)) (nI j)).bind fun σ61 => some (nI (rep C f n (2 + i)), σ61) := by
    unfold M_X7_pledge
    rw [e2, Option.bind_some, if_neg n10, d2, Option.bind_some, if_neg n10, show (3 : Int32) + nI i = nI (3 + i) by rw [show (3 : Int32) = nI 3 from rfl, nI_add], rd_n _ (by omega) (by decide), Option.bind_some, k2, r0, Option.bind_some]
  by_cases q : nI (rep C f n (2 + i)) = nI j
  · exact ⟨-4, σ, τ, by rw [ec, if_pos q], by rw [em, if_pos q], hR⟩
  by_cases w : n = 40
  · exact ⟨-2, σ, τ, by rw [ec, if_neg q, if_pos w], by rw [em, if_neg q, if_pos ((nI_is 40 40 rfl (by omega) (by decide)).mpr w)], hR⟩
  have hn : n < 40 := by omega
  obtain ⟨σ', u1, -, u2⟩ := perform_c (d := .inr (some (i, j))) hW hR hn (by omega) ⟨hi, hj⟩
  refine ⟨nI (rep C f n (2 + i)), σ', setA τ 1 (upd (pF (τ.2.2 1) n) (3 + i) (nI j)), ?_, ?_, u2 _ ?_ (fun k hk => ?_) (fun p hp => ?_)⟩
  · rw [ec, if_neg q, if_neg w, show M_X5_perform σ (nI (1 + 4 * i + 32 * j)) = _ from u1, Option.bind_some]
  · rw [em, if_neg q, if_neg (fun z => w ((nI_is 40 40 rfl (by omega) (by decide)).mp z)), past_m hn h8.1, Option.bind_some, wrA_n _ _ _ (by omega) (by decide), Option.bind_some, setA_setA, sA_at]
  · unfold upd; rw [if_neg (by omega), pF_0]
  · have hk2 := h8.2.1 k hk (Or.inl (by omega))
    rw [show 0 + 1 + k = 1 + k by omega] at hk2
    show upd _ (3 + i) (nI j) (1 + k) = nI (if k = 2 + i then j else rep C f n k)
    unfold upd
    by_cases e : k = 2 + i
    · rw [if_pos e, if_pos (by omega)]
    · rw [if_neg e, if_neg (by omega), pF_c _ _ (by omega) (by omega)]; exact hk2
  · unfold upd; rw [if_neg (by omega)]
