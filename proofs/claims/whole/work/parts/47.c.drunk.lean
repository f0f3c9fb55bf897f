/- drink: who is thirsty, both walks -/
def tsS (V : VT) : Nat → Nat
  | 0 => 0
  | m + 1 => if 0 < wy V m then tsS V m ||| 2 ^ m else tsS V m
theorem tsS_lt (V : VT) : ∀ m, tsS V m < 2 ^ m
  | 0 => Nat.zero_lt_one
  | m + 1 => by
    have ih := tsS_lt V m
    have h1 : 2 ^ m < 2 ^ (m + 1) := Nat.pow_lt_pow_right (by decide) (by omega)
    rw [tsS]
    split
    · exact Nat.or_lt_two_pow (by omega) h1
    · omega
section TH
variable {V : VT} {σ τ : ST}
theorem th_4 (ok : okV V) (h : VC V σ) : ∀ (m fu i : Nat), i + m = V 0 0 → m < fu → M_X5_thirsty_4 σ fu (nI (tsS V i)) (nI i) = some (nI (tsS V (V 0 0)))
  | 0, fu + 1, i, hi, _ => by
    have := ok.1
    rw [M_X5_thirsty_4, h.1, if_pos (nI_le (by omega) (by omega)), show i = V 0 0 by omega]
  | m + 1, fu + 1, i, hi, hf => by
    have o1 := ok.1
    have hlt : i < V 0 0 := by omega
    have hw := wy_le ok hlt
    have ih := th_4 ok h m fu (i + 1) (by omega) (by omega)
    rw [tsS] at ih
    rw [M_X5_thirsty_4, h.1, if_neg (nI_ge hlt (by omega)), wy_c ok h hlt, Option.bind_some, nI_1 i]
    by_cases q : 0 < wy V i
    · rw [if_pos q] at ih
      rw [if_neg (nI_nle q (by omega)), shl1 (by omega), nx_or]; exact ih
    · rw [if_neg q] at ih
      rw [if_pos (show nI (wy V i) ≤ 0 by rw [show wy V i = 0 by omega]; decide)]; exact ih
theorem th_4m (ok : okV V) (h : VM V τ) : ∀ (m fu i : Nat), i + m = V 0 0 → m < fu → M_X7_thirsty_4 τ fu (nI (tsS V i)) (nI i) = some (nI (tsS V (V 0 0)))
  | 0, fu + 1, i, hi, _ => by
    have := ok.1
    rw [M_X7_thirsty_4, h.1, if_pos (nI_le (by omega) (by omega)), show i = V 0 0 by omega]
  | m + 1, fu + 1, i, hi, hf => by
    have o1 := ok.1
    have hlt : i < V 0 0 := by omega
    have hw := wy_le ok hlt
    have ih := th_4m ok h m fu (i + 1) (by omega) (by omega)
    rw [tsS] at ih
    rw [M_X7_thirsty_4, h.1, if_neg (nI_ge hlt (by omega)), wy_m ok h hlt, Option.bind_some, nI_1 i]
    by_cases q : 0 < wy V i
    · rw [if_pos q] at ih
      rw [if_neg (nI_nle q (by omega)), shl1 (by omega), nx_or]; exact ih
    · rw [if_neg q] at ih
      rw [if_pos (show nI (wy V i) ≤ 0 by rw [show wy V i = 0 by omega]; decide), show nI (tsS V i) ||| 0 = nI (tsS V i ||| 0) from nx_or _ 0, Nat.or_zero]; exact ih
def MT (V : VT) (A : Nat → Int32) : Prop := ∀ c', c' ≤ 128 → ∀ l, l < 128 → ∃ v, A (128 * c' + l) = nI v ∧ RV (opn V) (2 ^ V 0 0) c' l v
theorem with_m (ok : okV V) (hm : VM V τ) (hT : MT V (τ.2.2 12)) {x l : Nat} (hx : x < 128) (hl : l < 128) : ∃ v, RV (opn V) (2 ^ V 0 0) (x + 1) (dm l x) v ∧ M_X7_with τ (nI x) (nI l) = some (nI (if opn V x then 1 + v else 99)) := by
  have hd := dm_le l x
  obtain ⟨v, a1, a2⟩ := hT (x + 1) (by omega) (dm l x) (by omega)
  refine ⟨v, a2, ?_⟩
  unfold M_X7_with
  rw [open_m ok hm hx, Option.bind_some, nx_dm x hl, nI_1, show (128 : Int32) * nI (x + 1) + nI (dm l x) = nI (128 * (x + 1) + dm l x) by rw [show (128 : Int32) = nI 128 from rfl, pk_mul, nI_add], rd_n _ (by omega) (by decide), Option.bind_some, a1]
  cases opn V x with
  | false => rw [if_pos bf0]; rfl
  | true => rw [if_neg (by decide), show (1 : Int32) + nI v = nI (1 + v) from nI_add 1 v]; rfl
theorem wk (ok : okV V) (hm : VM V τ) (hT : MT V (τ.2.2 12)) {l n k m s : Nat} (x1 : Int32) (hl : l < 128) (hn : n = k + (m + 1)) (hn7 : n ≤ 7) (h0 : ¬ cv (opn V) (2 ^ V 0 0) m l) (hs : LH (opn V) (2 ^ V 0 0) m l s) : ∀ (d f x : Nat), x + d = s → M_X7_drink_56 (f + d + 1) τ x1 (nI l) (nI n) (nI k) (nI x) = (wrA 240 τ 6 ((40 * x1) + nI k) (nI s)).bind fun σ98 => M_X7_drink_56 f σ98 x1 (nI (dm l s)) (nI n) (nI (k + 1)) (nI (s + 1)) := by
  have h2 := p2h ok
  have hsN := hs.1
  have st : ∀ f x, x ≤ s → ∃ v, RV (opn V) (2 ^ V 0 0) (x + 1) (dm l x) v ∧ M_X7_drink_56 (f + 1) τ x1 (nI l) (nI n) (nI k) (nI x) = if nI (if opn V x then 1 + v else 99) = nI (m + 1) then (wrA 240 τ 6 ((40 * x1) + nI k) (nI x)).bind fun σ98 => M_X7_drink_56 f σ98 x1 (nI (dm l x)) (nI n) (nI (k + 1)) (nI (x + 1)) else M_X7_drink_56 f τ x1 (nI l) (nI n) (nI k) (nI (x + 1)) := by
    intro f x hx
    obtain ⟨v, a1, a2⟩ := with_m ok hm hT (x := x) (by omega) hl
    refine ⟨v, a1, ?_⟩
    rw [M_X7_drink_56, all_m ok hm, Option.bind_some, if_neg (all_lt ok hm (by omega)), if_neg (nI_ge (by omega) (by omega)), a2, Option.bind_some, pk_sub (by omega), show n - k = m + 1 by omega, nx_dm x hl, nI_1, nI_1]
  intro d
  induction d with
  | zero =>
    intro f x hx
    obtain rfl : x = s := by omega
    obtain ⟨v, a1, a2⟩ := st f x (Nat.le_refl _)
    have hv1 : v ≤ m := (a1.2 m (by omega)).mpr (LH_ge hs h0 (x + 1) (Nat.le_refl _))
    have hv2 : m ≤ v := by
      apply Decidable.byContradiction
      intro z
      have hcc : cv (opn V) (2 ^ V 0 0) (v + 1) l := Or.inr ⟨x, hs.1, hs.2.1, cv_all ((a1.2 v (by omega)).mp (Nat.le_refl _))⟩
      exact h0 (cv_le hcc (by omega))
    rw [Nat.add_zero, a2, hs.2.1, if_pos (by rw [show v = m by omega, if_pos rfl, Nat.add_comm])]
  | succ d ih =>
    intro f x hx
    obtain ⟨v, a1, a2⟩ := st (f + d + 1) x (by omega)
    rw [← Nat.add_assoc, a2, if_neg (fun z => ?_)]
    · exact ih f (x + 1) (by omega)
    · cases ho : opn V x with
      | false =>
        rw [ho] at z
        have := (nI_eq (a := 99) (by omega) (by omega)).mp z
        omega
      | true =>
        rw [ho] at z
        have hv := a1.1
        have z2 : 1 + v = m + 1 := (nI_eq (a := 1 + v) (by omega) (by omega)).mp z
        exact hs.2.2.2 x (by omega) ho (cv_all ((a1.2 m (by omega)).mp (by omega)))
end TH
theorem drk {Wl : ST → ST → Prop} (hC : Cg Wl) {V : VT} (ok : okV V) {j n : Nat} (hj : j < 6) (hn : n ≤ 7) : ∀ (rem fuC fuR i x l : Nat) (σ τ : ST), i + rem = n → rem < fuC → 2 ^ V 0 0 - x < fuR → l < 2 ^ V 0 0 → RelG Wl σ τ → LKp (opn V) (2 ^ V 0 0) σ → (∀ l, l < 2 ^ V 0 0 → TV (opn V) (2 ^ V 0 0) l (σ.2.2 34 l)) → σ.2.2 3 j = nI n → VM V τ → MT V (τ.2.2 12) → cv (opn V) (2 ^ V 0 0) rem l → (∀ m', cv (opn V) (2 ^ V 0 0) m' l → rem ≤ m') → (∀ m s, rem = m + 1 → LH (opn V) (2 ^ V 0 0) m l s → x ≤ s) → ∃ σ' τ', M_X4_layCover_6 fuC σ (nI j) (nI l) (nI i) = some σ' ∧ M_X7_drink_56 fuR τ (nI j) (nI l) (nI n) (nI i) (nI x) = some (nI n, τ') ∧ RelG Wl σ' τ'
  | 0, fuC + 1, fuR + 1, i, x, l, σ, τ, h1, h2, h3, hl, hR, hk, hT, hs, hm, hM, c1, c2, c3 => by
    refine ⟨σ, τ, ?_, ?_, hR⟩
    · rw [M_X4_layCover_6, szOf_r hj, Option.bind_some, hs, if_pos (nI_le (by omega) (by omega))]
    · rw [M_X7_drink_56, all_m ok hm, Option.bind_some, if_pos (show nI n ≤ nI i from nI_le (by omega) (by omega))]
      split <;> rfl
  | r + 1, fuC + 1, fuR, i, x, l, σ, τ, h1, h2, h3, hl, hR, hk, hT, hs, hm, hM, c1, c2, c3 => by
    have hN := p2h ok
    have h0 : ¬ cv (opn V) (2 ^ V 0 0) r l := fun z => by have := c2 r z; omega
    obtain ⟨s, hLH⟩ := LH_ex c1 h0
    have hxs := c3 r s rfl hLH
    have hsN := hLH.1
    have hd := dm_le l s
    have hv : σ.2.2 34 l = nI (r + 1) := by
      rcases hT l hl with ⟨e, hno⟩ | ⟨m, m1, m2, m3, m4⟩
      · exact absurd c1 (hno _)
      · rw [m2, show m = r + 1 by have := c2 m m3; have := m4 _ c1; omega]
    obtain ⟨f, rfl⟩ : ∃ f, fuR = f + (s - x) + 1 := ⟨fuR - (s - x) - 1, by omega⟩
    obtain ⟨σ', τ', u1, u2, u3⟩ := drk hC ok hj hn r fuC f (i + 1) (s + 1) (dm l s) (setA σ (4 + j) (upd (σ.2.2 (4 + j)) i (nI s))) (setA τ 6 (upd (τ.2.2 6) (40 * j + i) (nI s))) (by omega) (by omega) (by omega) (by omega) (hR.put hC hj (by omega) (nI s)) (hk.cg (same.rf.sA (by simp [fLk]; omega))) (fun l' hl' => by rw [sA_ne (by omega)]; exact hT l' hl') (by rw [sA_ne (by omega)]; exact hs) (hm.cg (same.rf.sA (by decide))) hM hLH.2.2.1 (fun m' hc => by
      have hcc : cv (opn V) (2 ^ V 0 0) (m' + 1) l := Or.inr ⟨s, hLH.1, hLH.2.1, hc⟩
      have := c2 _ hcc
      omega) (fun m2 s' e hs' => by
      subst e
      exact LH_next hLH h0 hs')
    refine ⟨σ', τ', ?_, ?_, u3⟩
    · rw [M_X4_layCover_6, szOf_r hj, Option.bind_some, hs, if_neg (nI_ge (by omega) (by omega)), show M_X4_leastThatHelps σ (nI l) = some (nI s) from lth_2 hk hl hT hv h0 (by omega) hLH s 10000 0 (by omega) (by omega), Option.bind_some, if_neg (m9_ne (by omega)), set_r hj hs (by omega) (by omega), Option.bind_some, nx_dm s (by omega), nI_1]
      exact u1
    · rw [wk ok hm hM (nI j) (by omega) (by omega) hn h0 hLH (s - x) f x (by omega), ix40, wrA_n _ _ _ (by omega) (by decide), Option.bind_some]
      exact u2
theorem RelG.make {Wl : ST → ST → Prop} (hC : Cg Wl) {σ τ : ST} (hR : RelG Wl σ τ) {j n : Nat} (hj : j < 6) (hn : n ≤ 40) : RelG Wl (mkC σ j n 0) (mkM τ j n) := by
  obtain ⟨h1, h2, h3, h4, h5, h6⟩ := hR
  unfold mkC mkM
  refine ⟨rlR_make h1 hj hn, h2.cg ?_ ?_, h3.cg ?_ ?_, h4.cg ?_ ?_, h5.cg ?_ ?_, hC _ _ _ _ h6 ?_ ?_⟩ <;> exact (same.rf.sA (by decide)).sA (by simp [fTc, fTm, fFc, fFm, fQc, fQm, fUc, fUm, fWc, fWm]; try omega)
theorem RelG.tabs {Wl : ST → ST → Prop} (hC : Cg Wl) {σ τ : ST} {G A : Nat → Int32} (h : RelG Wl σ τ) : RelG Wl (setA σ 34 G) (setA τ 12 A) := ⟨h.1.cg (same.rf.sA (by decide)) (same.rf.sA (by decide)), h.2.1.cg (same.rf.sA (by decide)) (same.rf.sA (by decide)), h.2.2.1.cg (same.rf.sA (by decide)) (same.rf.sA (by decide)), h.2.2.2.1.cg (same.rf.sA (by decide)) (same.rf.sA (by decide)), h.2.2.2.2.1.cg (same.rf.sA (by decide)) (same.rf.sA (by decide)), hC _ _ _ _ h.2.2.2.2.2 (same.rf.sA (by decide)) (same.rf.sA (by decide))⟩
theorem pure_drink {Wl : ST → ST → Prop} (hC : Cg Wl) (hV : Vws Wl) : P_drink (RelG Wl) := by
  intro σ τ a hR
  obtain ⟨V, ok, hc, hm⟩ := hV σ τ hR.2.2.2.2.2
  have h2 := p2h ok
  have o1 := ok.1
  rcases i3 a (n := 6) (by decide) with q | ⟨q, q'⟩ | ⟨j, hj, rfl⟩
  · exact ⟨-1, σ, τ, by unfold M_X6_drink; rw [isN_lo_r q, Option.bind_some, if_pos rfl], by unfold M_X7_drink; rw [isRow_lo q, Option.bind_some, if_pos rfl], hR⟩
  · exact ⟨-1, σ, τ, by unfold M_X6_drink; rw [isN_hi_r q q', Option.bind_some, if_pos rfl], by unfold M_X7_drink; rw [isRow_hi q q', Option.bind_some, if_pos rfl], hR⟩
  by_cases q0 : V 0 0 = 0
  · refine ⟨-4, σ, τ, ?_, ?_, hR⟩
    · unfold M_X6_drink; rw [isN_ok_r hj, Option.bind_some, if_neg n10, houses_c hc, Option.bind_some, q0, if_pos n00]
    · unfold M_X7_drink; rw [isRow_ok hj, Option.bind_some, if_neg n10, hm.1, q0, if_pos n00]
  have hc1 := (lk_ok hc).1
  have ht := tsS_lt V (V 0 0)
  obtain ⟨G, g1, g2⟩ := ftc_c (lk_p ok hc) ht
  obtain ⟨A, a1, a2⟩ := layM_m ok hm
  have hm1 : VM V (setA τ 12 A) := hm.cg (same.rf.sA (by decide))
  have hR1 : RelG Wl (setA (lkS V σ) 34 G) (setA τ 12 A) := (hR.lk (V := V) hC).tabs hC
  obtain ⟨v, v1, v2⟩ := a2 0 (by omega) (tsS V (V 0 0)) (by omega)
  rw [Nat.mul_zero, Nat.zero_add] at v1
  have ec : M_X6_drink σ (nI j) = if G (tsS V (V 0 0)) = -9 then some (G (tsS V (V 0 0)), setA (lkS V σ) 34 G) else (M_X3_make_r (setA (lkS V σ) 34 G) (nI j) (G (tsS V (V 0 0))) 0).bind fun o63 => (M_X4_layCover o63 (nI (tsS V (V 0 0))) (nI j)).bind fun o76 => some (G (tsS V (V 0 0)), o76) := by
    unfold M_X6_drink
    rw [isN_ok_r hj, Option.bind_some, if_neg n10, houses_c hc, Option.bind_some, if_neg (nI_ne0 (by omega) (by omega)), look_c ok hc, Option.bind_some, show M_X5_thirsty (lkS V σ) = some (nI (tsS V (V 0 0))) from th_4 ok hc1 (V 0 0) 10000 0 (by omega) (by omega), Option.bind_some, g1, Option.bind_some]
  have em : M_X7_drink τ (nI j) = if nI v < 99 then (M_X7_makeRow (setA τ 12 A) (nI j) (nI v)).bind fun o47 => M_X7_drink_56 10000 o47 (nI j) (nI (tsS V (V 0 0))) (nI v) 0 0 else some (-9, setA τ 12 A) := by
    unfold M_X7_drink
    rw [isRow_ok hj, Option.bind_some, if_neg n10, hm.1, if_neg (nI_ne0 (by omega) (by omega)), a1, Option.bind_some, show M_X7_thirsty (setA τ 12 A) = some (nI (tsS V (V 0 0))) from th_4m ok hm1 (V 0 0) 10000 0 (by omega) (by omega), Option.bind_some, sA_at, rd_n _ (by omega) (by decide), Option.bind_some, v1]
  rcases g2 _ ht with ⟨e, hno⟩ | ⟨m, m1, m2, m3, m4⟩
  · have hv : v = 99 := by
      have := v2.1
      apply Decidable.byContradiction
      intro z
      exact hno v (cv_all ((v2.2 v (by omega)).mp (Nat.le_refl _)))
    rw [if_pos e, e] at ec
    rw [hv, if_neg (by decide)] at em
    exact ⟨-9, _, _, ec, em, hR1⟩
  · have hv : v = m := by
      have w1 := (v2.2 m (by omega)).mpr (cv_0 m3)
      have w2 := m4 v (cv_all ((v2.2 v (by omega)).mp (Nat.le_refl _)))
      omega
    subst hv
    rw [m2, if_neg (m9_ne (by omega)), make_r hj (by omega), Option.bind_some] at ec
    rw [if_pos (show nI v < 99 from nI_lt (b := 99) (by omega) (by omega)), makeRow_m hj, Option.bind_some] at em
    have hkM : LKp (opn V) (2 ^ V 0 0) (mkC (setA (lkS V σ) 34 G) j v 0) := (lk_p ok hc).cg (by unfold mkC; exact ((same.rf.sA (by decide)).sA (by decide)).sA (by simp [fLk]; omega))
    have e34 : (mkC (setA (lkS V σ) 34 G) j v 0).2.2 34 = G := by
      unfold mkC; rw [sA_ne (by omega), sA_ne (by omega), sA_at]
    have e3 : (mkC (setA (lkS V σ) 34 G) j v 0).2.2 3 j = nI v := by
      unfold mkC; rw [sA_ne (by omega), sA_at, pk_us]
    have e12 : (mkM (setA τ 12 A) j v).2.2 12 = A := rfl
    obtain ⟨σ', τ', u1, u2, u3⟩ := drk hC ok hj (n := v) m1 v 10000 10000 0 0 (tsS V (V 0 0)) (mkC (setA (lkS V σ) 34 G) j v 0) (mkM (setA τ 12 A) j v) (by omega) (by omega) (by omega) ht (hR1.make hC hj (by omega)) hkM (fun l hl => by rw [e34]; exact g2 l hl) e3 (hm1.cg ((same.rf.sA (by decide)).sA (by decide))) (by rw [e12]; exact a2) m3 m4 (fun _ _ _ _ => Nat.zero_le _)
    rw [show M_X4_layCover (mkC (setA (lkS V σ) 34 G) j v 0) (nI (tsS V (V 0 0))) (nI j) = some σ' from u1, Option.bind_some] at ec
    exact ⟨nI v, σ', τ', ec, em.trans u2, u3⟩
