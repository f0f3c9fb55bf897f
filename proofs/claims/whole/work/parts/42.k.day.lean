/- a deed more, with the well's own words; a day -/
theorem perform_w {C : VT} {f : Nat → Dd} {n : Nat} {d : Dd} {σ τ : ST} (h : WlC C f n σ τ) (hR : RelG Wl σ τ) (hn : n < 40) (hp : 0 < C 0 0) (hd : okDd C d) : ∃ σ', M_X5_perform σ (nI (enc d)) = some (rsl d C (rep C f n), σ') ∧ σ'.1 35 = nI (ap C d (rep C f n) 1) ∧ ∀ g : Nat → Int32, g 0 = nI (n + 1) → (∀ k, k < 23 → g (1 + k) = nI (ap C d (rep C f n) k)) → (∀ q, 24 ≤ q → g q = pF (τ.2.2 1) n q) → RelG Wl σ' (setA τ 1 g) ∧ WlC C (fx f n d) (n + 1) σ' (setA τ 1 g) := by
  obtain ⟨h1, h2, h3, h4, h5, h6, h7, h8, h9⟩ := h
  obtain ⟨σ', u1, u2, u3⟩ := apply_c (σ := setI (setA σ 28 (upd (σ.2.2 28) n (nI (enc d)))) 37 (nI (n + 1))) h1 (m := n) (by omega) h2 h7 (rep_ok h1 h4.2.2 n (Nat.le_refl _)) d hd
  refine ⟨σ', ?_, u3.2.1, fun g g0 g1 g2 => ?_⟩
  · unfold M_X5_perform M_X1_add
    rw [h5, if_neg (nI_pos (by omega)), if_neg (nl 40 40 rfl hn (by decide)), wrA_n _ _ _ hn (by decide), Option.bind_some, Option.bind_some, Option.bind_some]
    show (M_X5_apply (setI (setA σ 28 (upd (σ.2.2 28) n (nI (enc d)))) 37 (σ.1 37 + 1)) (nI (enc d))).bind _ = _
    rw [h5, nI_1, u1, Option.bind_some]
  · have hw : WlC C (fx f n d) (n + 1) σ' (setA τ 1 g) := by
      refine ⟨h1, CC.cg (σ := setI (setA σ 28 (upd (σ.2.2 28) n (nI (enc d)))) 37 (nI (n + 1))) h2 u2, h3.sA1, h4.add hn hp hd, (u2.1 37 (by decide) (by decide)).trans rfl, ?_, ?_, HM_add h8 hp g0 g1 (fun q z _ => g2 q z), fun k hk => KP_cg (h9 k hk) ((u2.1 (40 + k) (by omega) (by omega)).trans (vu_ne (by omega))) ((u2.2.2 (39 + k) (by omega) (by omega) (by omega)).trans (vu_ne (by omega))) (fun q z1 z2 => ?_)⟩
      · refine HC.cg (σ := setI (setA σ 28 (upd (σ.2.2 28) n (nI (enc d)))) 37 (nI (n + 1))) (fun m hm => ?_) u2
        show upd (σ.2.2 28) n (nI (enc d)) m = nI (enc (fx f n d m))
        unfold upd fx
        by_cases e : m = n
        · rw [if_pos e, if_pos e]
        · rw [if_neg e, if_neg e]; exact h6 m (by omega)
      · rw [rep_fx1]; exact u3
      · rw [sA_at, g2 q (by omega), pF_f _ _ (by omega)]
    exact ⟨hR.wl ((same.rf.sA (by decide)).sI (by decide) |>.tr (u2.same (by decide) (by decide) (by decide) (by decide) (by decide))) (same.rf.sA (by decide)) ⟨C, fx f n d, n + 1, hw⟩, hw⟩
def dF (h : Nat → Int32) (k : Nat) : Nat → Int32 := fun q => if 10 ≤ q ∧ q < 10 + k then 0 else h q
theorem dF_s (h : Nat → Int32) (k : Nat) : upd (dF h k) (10 + k) 0 = dF h (k + 1) := by
  funext q
  unfold upd dF
  by_cases e : q = 10 + k
  · rw [if_pos e, if_pos (by omega)]
  · rw [if_neg e]
    by_cases e2 : 10 ≤ q ∧ q < 10 + k
    · rw [if_pos e2, if_pos (by omega)]
    · rw [if_neg e2, if_neg (by omega)]
theorem dF_0 (h : Nat → Int32) : dF h 0 = h := by
  funext q; unfold dF; rw [if_neg (by omega)]
theorem day_54 (τ : ST) (h : Nat → Int32) : ∀ (m fu k : Nat), k + m = 7 → m < fu → M_X7_doDay_54 fu (setA τ 1 (dF h k)) (nI k) = some (h 2, setA τ 1 (dF h 7))
  | 0, fu + 1, k, h1, _ => by
    obtain rfl : k = 7 := by omega
    have r0 : rd 3776 (dF h 7) 2 = some (h 2) := (rd_n (j := 2) _ (by decide) (by decide)).trans (congrArg some (if_neg (by omega)))
    unfold M_X7_doDay_54
    rw [if_pos (by decide), sA_at, r0, Option.bind_some]
  | m + 1, fu + 1, k, h1, h2 => by
    unfold M_X7_doDay_54
    rw [if_neg (nl 7 7 rfl (show k < 7 by omega) (by decide)), show (10 : Int32) + nI k = nI (10 + k) by rw [show (10 : Int32) = nI 10 from rfl, nI_add], wrA_n _ _ _ (by omega) (by decide), Option.bind_some, sA_at, setA_setA, dF_s, nI_1]
    exact day_54 τ h m fu (k + 1) (by omega) (by omega)
def dyF (C : VT) (D : DT) (g : Nat → Int32) (n : Nat) : Nat → Int32 := dF (upd (upd (pF g n) 1 (nI (D 0 + 1))) 2 (nI (if 99 < D 1 + C 0 2 then 99 else D 1 + C 0 2))) 7
theorem doDay_m {C : VT} {f : Nat → Dd} {n : Nat} {τ : ST} (hC : okC C) (hO : okH C f n) (h3 : CM C τ) (h8 : HM C f n 0 τ) (hn : n < 40) : M_X7_doDay τ = some (nI (if 99 < rep C f n 1 + C 0 2 then 99 else rep C f n 1 + C 0 2), setA τ 1 (dyF C (rep C f n) (τ.2.2 1) n)) := by
  have hD := rep_ok hC hO.2.2 n (Nat.le_refl _)
  have h99 := hD.2.1
  have h9 := hC.2.2.1
  have g0 : τ.2.2 1 1 = nI (rep C f n 0) := h8.2.1 0 (by decide) (Or.inr (Or.inl (by decide)))
  have g1 : τ.2.2 1 2 = nI (rep C f n 1) := h8.2.1 1 (by decide) (Or.inr (Or.inl (by decide)))
  have r1 : rd 3776 (pF (τ.2.2 1) n) 1 = some (nI (rep C f n 0)) := (rd_n (j := 1) _ (by decide) (by decide)).trans (congrArg some ((pF_c _ _ (by decide) (by omega)).trans g0))
  have r2 : rd 3776 (upd (pF (τ.2.2 1) n) 1 (nI (rep C f n 0 + 1))) 2 = some (nI (rep C f n 1)) := (rd_n (j := 2) _ (by decide) (by decide)).trans (congrArg some ((if_neg (by omega)).trans ((pF_c _ _ (by decide) (by omega)).trans g1)))
  have w1 : wrA 3776 (setA τ 1 (pF (τ.2.2 1) n)) 1 1 (nI (rep C f n 0 + 1)) = some (setA τ 1 (upd (pF (τ.2.2 1) n) 1 (nI (rep C f n 0 + 1)))) := by
    rw [show (1 : Int32) = nI 1 from rfl, wrA_n _ _ _ (by decide) (by decide), setA_setA, sA_at]
  have w2 : ∀ v, wrA 3776 (setA τ 1 (upd (pF (τ.2.2 1) n) 1 (nI (rep C f n 0 + 1)))) 1 2 v = some (setA τ 1 (upd (upd (pF (τ.2.2 1) n) 1 (nI (rep C f n 0 + 1))) 2 v)) := by
    intro v
    rw [show (2 : Int32) = nI 2 from rfl, wrA_n _ _ _ (by decide) (by decide), setA_setA, sA_at]
  have ed : ∀ v, M_X7_doDay_51 (setA τ 1 (upd (pF (τ.2.2 1) n) 1 (nI (rep C f n 0 + 1)))) 2 v = some (v, setA τ 1 (dF (upd (upd (pF (τ.2.2 1) n) 1 (nI (rep C f n 0 + 1))) 2 v) 7)) := by
    intro v
    have := day_54 τ (upd (upd (pF (τ.2.2 1) n) 1 (nI (rep C f n 0 + 1))) 2 v) 7 10000 0 (by omega) (by omega)
    rw [dF_0, pk_us] at this
    unfold M_X7_doDay_51
    rw [w2, Option.bind_some]
    exact this
  have e2 : (setA τ 1 (upd (pF (τ.2.2 1) n) 1 (nI (rep C f n 0 + 1)))).1 2 = nI (C 0 2) := h3.2.2.1
  unfold M_X7_doDay
  rw [past_m hn h8.1, Option.bind_some, sA_at, r1, Option.bind_some, nI_1, w1, Option.bind_some, sA_at, r2, Option.bind_some, e2, nI_add, Option.bind_some, nI_add, ed, ed]
  unfold dyF
  by_cases q : 99 < rep C f n 1 + C 0 2
  · rw [if_neg (lg 99 99 rfl q (by omega)), if_pos q]; rfl
  · rw [if_pos (ll 99 99 rfl (show rep C f n 1 + C 0 2 ≤ 99 by omega) (by decide)), if_neg q]
theorem day_full {C : VT} {f : Nat → Dd} {n : Nat} {σ τ : ST} (h : WlC C f n σ τ) (hR : RelG Wl σ τ) (hn : n < 40) (hp : 0 < C 0 0) : ∃ σ' τ', M_X5_perform σ 2 = some (0, σ') ∧ M_X7_doDay τ = some (σ'.1 35, τ') ∧ RelG Wl σ' τ' ∧ WlC C (fx f n (.inr none)) (n + 1) σ' τ' := by
  obtain ⟨σ', u1, u2, u3⟩ := perform_w (d := .inr none) h hR hn hp trivial
  obtain ⟨h1, h2, h3, h4, h5, h6, h7, h8, h9⟩ := h
  refine ⟨σ', setA τ 1 (dyF C (rep C f n) (τ.2.2 1) n), u1, ?_, u3 _ ?_ (fun k hk => ?_) (fun q hq => ?_)⟩
  · rw [doDay_m h1 h4 h3 h8 hn, u2]; rfl
  · unfold dyF dF
    rw [if_neg (by omega), pk_un (by omega), pk_un (by omega), pF_0]
  · show dyF C (rep C f n) (τ.2.2 1) n (1 + k) = nI (if k = 0 then rep C f n 0 + 1 else if k = 1 then (if 99 < rep C f n 1 + C 0 2 then 99 else rep C f n 1 + C 0 2) else if 9 ≤ k ∧ k < 16 then 0 else rep C f n k)
    unfold dyF dF
    have hk2 := h8.2.1 k hk (Or.inl (by omega))
    rw [show 0 + 1 + k = 1 + k by omega] at hk2
    by_cases e0 : k = 0
    · subst e0; rw [if_neg (by omega), if_pos rfl, pk_un (by omega), pk_us]
    · rw [if_neg e0]
      by_cases e1 : k = 1
      · subst e1; rw [if_neg (by omega), if_pos rfl, pk_us]
      · rw [if_neg e1]
        by_cases e9 : 9 ≤ k ∧ k < 16
        · rw [if_pos e9, if_pos (by omega)]; rfl
        · rw [if_neg e9, if_neg (by omega), pk_un (by omega), pk_un (by omega), pF_c _ _ (by omega) (by omega)]; exact hk2
  · unfold dyF dF
    rw [if_neg (by omega), pk_un (by omega), pk_un (by omega)]
theorem pure_day : P_day (RelG Wl) := by
  intro σ τ hR
  obtain ⟨C, f, n, hW⟩ := hR.2.2.2.2.2
  have hW' := hW
  obtain ⟨h1, h2, h3, h4, h5, h6, h7, h8, h9⟩ := hW'
  have h40 := h4.1
  have c7 := h1.1
  have r0 : rd 3776 (τ.2.2 1) 0 = some (nI n) := by rw [← h8.1]; exact rd_n (j := 0) _ (by decide) (by decide)
  by_cases q : C 0 0 = 0
  · refine ⟨-4, σ, τ, ?_, ?_, hR⟩
    · unfold M_X6_day M_X5_houses; rw [h2.1, Option.bind_some, q, if_pos n00]
    · unfold M_X7_day; rw [h3.1, q, if_pos n00]
  · by_cases w : n = 40
    · refine ⟨-2, σ, τ, ?_, ?_, hR⟩
      · unfold M_X6_day M_X5_houses; rw [h2.1, Option.bind_some, if_neg (nI_ne0 (by omega) (by omega)), full_c h5 h40, Option.bind_some, if_pos w, if_neg n10]
      · unfold M_X7_day; rw [h3.1, if_neg (nI_ne0 (by omega) (by omega)), r0, Option.bind_some, if_pos ((nI_is 40 40 rfl (by omega) (by decide)).mpr w)]
    · obtain ⟨σ', τ', u1, u2, u3, -⟩ := day_full hW hR (by omega) (by omega)
      refine ⟨σ'.1 35, σ', τ', ?_, ?_, u3⟩
      · unfold M_X6_day M_X5_houses; rw [h2.1, Option.bind_some, if_neg (nI_ne0 (by omega) (by omega)), full_c h5 h40, Option.bind_some, if_neg w, if_pos rfl, u1, Option.bind_some]
      · unfold M_X7_day; rw [h3.1, if_neg (nI_ne0 (by omega) (by omega)), r0, Option.bind_some, if_neg (fun z => w ((nI_is 40 40 rfl (by omega) (by decide)).mp z)), u2, Option.bind_some]
