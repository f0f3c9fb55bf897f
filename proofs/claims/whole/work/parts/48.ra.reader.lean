/- the reader: what it touches, where it is -/
def nR (σ σ' : ST) : Prop := (∀ k, k < 12 ∨ (13 < k ∧ k < 20) ∨ 24 < k → σ'.1 k = σ.1 k) ∧ σ'.2.1 = σ.2.1 ∧ ∀ k, k < 19 ∨ (21 < k ∧ k < 43) ∨ 43 < k → σ'.2.2 k = σ.2.2 k
def nM (τ τ' : ST) : Prop := (∀ k, k < 17 ∨ k = 23 ∨ k = 25 ∨ 26 < k → τ'.1 k = τ.1 k) ∧ τ'.2.1 = τ.2.1 ∧ ∀ k, k < 10 ∨ 11 < k → τ'.2.2 k = τ.2.2 k
theorem nR.rf {σ : ST} : nR σ σ := ⟨fun _ _ => rfl, rfl, fun _ _ => rfl⟩
theorem nM.rf {σ : ST} : nM σ σ := ⟨fun _ _ => rfl, rfl, fun _ _ => rfl⟩
theorem nR.sI {σ σ' : ST} {k : Nat} {v : Int32} (h : nR σ σ') (hk : k = 12 ∨ k = 13 ∨ (20 ≤ k ∧ k ≤ 24)) : nR σ (setI σ' k v) := ⟨fun i hi => (vu_ne (by omega)).trans (h.1 i hi), h.2.1, h.2.2⟩
theorem nR.sA {σ σ' : ST} {k : Nat} {f : Nat → Int32} (h : nR σ σ') (hk : (19 ≤ k ∧ k ≤ 21) ∨ k = 43) : nR σ (setA σ' k f) := ⟨h.1, h.2.1, fun i hi => (vu_ne (by omega)).trans (h.2.2 i hi)⟩
theorem nM.sI {σ σ' : ST} {k : Nat} {v : Int32} (h : nM σ σ') (hk : (17 ≤ k ∧ k ≤ 22) ∨ k = 24 ∨ k = 26) : nM σ (setI σ' k v) := ⟨fun i hi => (vu_ne (by omega)).trans (h.1 i hi), h.2.1, h.2.2⟩
theorem nM.sA {σ σ' : ST} {k : Nat} {f : Nat → Int32} (h : nM σ σ') (hk : k = 10 ∨ k = 11) : nM σ (setA σ' k f) := ⟨h.1, h.2.1, fun i hi => (vu_ne (by omega)).trans (h.2.2 i hi)⟩
theorem setI_sf {σ : ST} {k : Nat} {v : Int32} (h : σ.1 k = v) : setI σ k v = σ := by
  have : va_up σ.1 k v = σ.1 := by
    funext i
    unfold va_up
    by_cases e : i = k
    · rw [if_pos e, e, h]
    · rw [if_neg e]
  show (va_up σ.1 k v, σ.2.1, σ.2.2) = σ
  rw [this]
def TX (σ0 τ0 : ST) (j n : Nat) (tx : Nat → Int32) : Prop := j < 4 ∧ n ≤ 80 ∧ σ0.2.2 12 j = nI n ∧ ∀ i, i < 80 → σ0.2.2 (13 + j) i = tx i ∧ τ0.2.2 8 (80 * j + i) = tx i ∧ isB (tx i)
def RB (σ0 τ0 : ST) (j n p : Nat) (σ τ : ST) : Prop := nR σ0 σ ∧ nM τ0 τ ∧ (σ.1 12 = nI n ∧ ∀ i, i < n → σ.2.2 43 i = σ0.2.2 (13 + j) i) ∧ σ.1 13 = nI p ∧ τ.1 17 = nI (80 * j) ∧ τ.1 18 = nI p ∧ τ.1 19 = nI n
def RC (k fc : Nat) (K H F : Nat → Nat) (σ τ : ST) : Prop := k ≤ 7 ∧ σ.1 23 = nI k ∧ σ.1 24 = nI fc ∧ τ.1 24 = nI k ∧ τ.1 26 = nI fc ∧ (∀ i, i < k → σ.2.2 19 i = nI (K i) ∧ σ.2.2 20 i = nI (H i) ∧ τ.2.2 10 (2 * i) = nI (K i) ∧ τ.2.2 10 (2 * i + 1) = nI (H i) ∧ K i ≤ 5 ∧ H i ≤ 9) ∧ ∀ i, i < 7 → σ.2.2 21 i = nI (F i) ∧ τ.2.2 11 i = nI (F i) ∧ F i < 128
def RQ (nd fw cm : Nat) (σ τ : ST) : Prop := nd ≤ 9 ∧ fw ≤ 99 ∧ cm ≤ 9 ∧ σ.1 20 = nI nd ∧ σ.1 21 = nI fw ∧ σ.1 22 = nI cm ∧ τ.1 20 = nI nd ∧ τ.1 21 = nI fw ∧ τ.1 22 = nI cm
section RD
variable {σ0 τ0 σ τ : ST} {j n p : Nat} {tx : Nat → Int32}
theorem RB.mv (B : RB σ0 τ0 j n p σ τ) (p' : Nat) : RB σ0 τ0 j n p' (setI σ 13 (nI p')) (setI τ 18 (nI p')) := ⟨B.1.sI (by omega), B.2.1.sI (by omega), B.2.2.1, rfl, B.2.2.2.2.1, rfl, B.2.2.2.2.2.2⟩
theorem RB.c {k : Nat} {v : Int32} (B : RB σ0 τ0 j n p σ τ) (hk : k = 20 ∨ k = 21 ∨ k = 22 ∨ k = 23 ∨ k = 24) : RB σ0 τ0 j n p (setI σ k v) τ := ⟨B.1.sI (by omega), B.2.1, ⟨(vu_ne (by omega)).trans B.2.2.1.1, B.2.2.1.2⟩, (vu_ne (by omega)).trans B.2.2.2.1, B.2.2.2.2⟩
theorem RB.m {k : Nat} {v : Int32} (B : RB σ0 τ0 j n p σ τ) (hk : k = 20 ∨ k = 21 ∨ k = 22 ∨ k = 24 ∨ k = 26) : RB σ0 τ0 j n p σ (setI τ k v) := ⟨B.1, B.2.1.sI (by omega), B.2.2.1, B.2.2.2.1, (vu_ne (by omega)).trans B.2.2.2.2.1, (vu_ne (by omega)).trans B.2.2.2.2.2.1, (vu_ne (by omega)).trans B.2.2.2.2.2.2⟩
theorem RB.cA {k : Nat} {f : Nat → Int32} (B : RB σ0 τ0 j n p σ τ) (hk : 19 ≤ k ∧ k ≤ 21) : RB σ0 τ0 j n p (setA σ k f) τ := ⟨B.1.sA (Or.inl hk), B.2.1, ⟨B.2.2.1.1, fun i hi => (congrFun (vu_ne (by omega)) i).trans (B.2.2.1.2 i hi)⟩, B.2.2.2.1, B.2.2.2.2⟩
theorem RB.mA {k : Nat} {f : Nat → Int32} (B : RB σ0 τ0 j n p σ τ) (hk : k = 10 ∨ k = 11) : RB σ0 τ0 j n p σ (setA τ k f) := ⟨B.1, B.2.1.sA hk, B.2.2.1, B.2.2.2.1, B.2.2.2.2⟩
theorem sign_c (T : TX σ0 τ0 j n tx) (B : RB σ0 τ0 j n p σ τ) (q : p < n) : M_X2_sign σ = some (tx p) := by
  have h80 := T.2.1
  unfold M_X2_sign
  rw [B.2.2.2.1, B.2.2.1.1, if_neg (nI_pos (by omega)), if_neg (nI_ge q (by omega)), if_neg (nl 80 80 rfl (show p < 80 by omega) (by decide)), rd_n _ (by omega) (by decide), Option.bind_some, B.2.2.1.2 p q, (T.2.2.2 p (by omega)).1]
theorem sign_e (T : TX σ0 τ0 j n tx) (B : RB σ0 τ0 j n p σ τ) (q : ¬ p < n) (hp : p ≤ n) : M_X2_sign σ = some 256 := by
  have h80 := T.2.1
  unfold M_X2_sign
  rw [B.2.2.2.1, B.2.2.1.1, if_neg (nI_pos (by omega)), if_pos (nI_le (by omega) (by omega))]
theorem isB_256 {c : Int32} (h : isB c) : ¬ c = 256 := fun e => by
  subst e
  exact absurd h.2 (by decide)
theorem here_m (T : TX σ0 τ0 j n tx) (B : RB σ0 τ0 j n p σ τ) (q : p < n) : M_X7_here τ = some (tx p) := by
  have h80 := T.2.1
  have hj := T.1
  unfold M_X7_here
  rw [B.2.2.2.2.1, B.2.2.2.2.2.1, nI_add, rd_n _ (by omega) (by decide), Option.bind_some, B.2.1.2.2 8 (by omega), (T.2.2.2 p (by omega)).2.1]
theorem skip_l (T : TX σ0 τ0 j n tx) : ∀ (m fu fu' p : Nat) (σ τ : ST), p + m = n → m < fu → m < fu' → RB σ0 τ0 j n p σ τ → ∃ p', p ≤ p' ∧ p' ≤ n ∧ M_X2_skipBlanks_0 fu σ = some (setI σ 13 (nI p')) ∧ M_X7_skip_0 fu' τ = some (setI τ 18 (nI p'))
  | 0, fu + 1, fu' + 1, p, σ, τ, h1, _, _, B => by
    have h80 := T.2.1
    refine ⟨p, Nat.le_refl _, by omega, ?_, ?_⟩
    · rw [M_X2_skipBlanks_0, B.2.2.2.1, B.2.2.1.1, if_pos (nI_le (by omega) (by omega)), setI_sf B.2.2.2.1]
    · rw [M_X7_skip_0, B.2.2.2.2.2.2, B.2.2.2.2.2.1, if_pos (nI_le (by omega) (by omega)), setI_sf B.2.2.2.2.2.1]
  | m + 1, fu + 1, fu' + 1, p, σ, τ, h1, h2, h3, B => by
    have h80 := T.2.1
    have q : p < n := by omega
    have ec : M_X2_skipBlanks_0 (fu + 1) σ = if tx p = 32 then M_X2_skipBlanks_0 fu (setI σ 13 (nI (p + 1))) else some σ := by
      rw [M_X2_skipBlanks_0, sign_c T B q, B.2.2.2.1, B.2.2.1.1, if_neg (nI_ge q (by omega)), Option.bind_some, Option.bind_some, nI_1]
    have em : M_X7_skip_0 (fu' + 1) τ = if tx p = 32 then M_X7_skip_0 fu' (setI τ 18 (nI (p + 1))) else some τ := by
      rw [M_X7_skip_0, here_m T B q, B.2.2.2.2.2.2, B.2.2.2.2.2.1, if_neg (nI_ge q (by omega)), Option.bind_some, Option.bind_some, nI_1]
    by_cases w : tx p = 32
    · obtain ⟨p', a1, a2, a3, a4⟩ := skip_l T m fu fu' (p + 1) _ _ (by omega) (by omega) (by omega) (B.mv (p + 1))
      rw [setI_setI] at a3 a4
      exact ⟨p', by omega, a2, by rw [ec, if_pos w]; exact a3, by rw [em, if_pos w]; exact a4⟩
    · exact ⟨p, Nat.le_refl _, by omega, by rw [ec, if_neg w, setI_sf B.2.2.2.1], by rw [em, if_neg w, setI_sf B.2.2.2.2.2.1]⟩
theorem skip_cm (T : TX σ0 τ0 j n tx) (B : RB σ0 τ0 j n p σ τ) (hp : p ≤ n) : ∃ p', p ≤ p' ∧ p' ≤ n ∧ M_X2_skipBlanks σ = some (setI σ 13 (nI p')) ∧ M_X7_skip τ = some (setI τ 18 (nI p')) := by
  have h80 := T.2.1
  exact skip_l T (n - p) 10000 10000 p σ τ (by omega) (by omega) (by omega) B
theorem sb48 {c : Int32} (h : isB c) : (c - 48).toInt = c.toInt - 48 := by
  obtain ⟨h1, h2⟩ := h
  have t : (48 : Int32).toInt = 48 := by decide
  rw [Int32.toInt_sub, t]
  exact Int.bmod_eq_of_le (by omega) (by omega)
theorem fig_l (T : TX σ0 τ0 j n tx) (B : RB σ0 τ0 j n p σ τ) (hp : p ≤ n) {a b : Nat} (ha : a ≤ 100) (hb : b ≤ 100) : (M_X2_figure σ (nI a) (nI b) = some (-1) ∧ M_X7_figure τ (nI a) (nI b) = some (-9, τ)) ∨ ∃ v, a ≤ v ∧ v ≤ b ∧ p < n ∧ M_X2_figure σ (nI a) (nI b) = some (nI v) ∧ M_X7_figure τ (nI a) (nI b) = some (nI v, setI τ 18 (nI (p + 1))) := by
  have h80 := T.2.1
  have hj := T.1
  by_cases q : p < n
  · have hB := (T.2.2.2 p (by omega)).2.2
    have e48 := sb48 hB
    have ta : (nI a).toInt = a := nI_toInt (by omega)
    have tb' : (nI b).toInt = b := nI_toInt (by omega)
    have ta8 : ((48 : Int32) + nI a).toInt = 48 + a := by rw [show (48 : Int32) + nI a = nI (48 + a) from nI_add 48 a, nI_toInt (by omega)]; omega
    have tb8 : ((48 : Int32) + nI b).toInt = 48 + b := by rw [show (48 : Int32) + nI b = nI (48 + b) from nI_add 48 b, nI_toInt (by omega)]; omega
    have ec : M_X2_figure σ (nI a) (nI b) = if tx p - 48 < nI a then some (-1) else if nI b < tx p - 48 then some (-1) else some (tx p - 48) := by
      unfold M_X2_figure
      rw [sign_c T B q, Option.bind_some]
    have ev : rd 320 (τ.2.2 8) (nI (80 * j) + nI (p + 1) - 1) = some (tx p) := by
      rw [nI_add, show 80 * j + (p + 1) = (80 * j + p) + 1 by omega, m1_n, rd_n _ (by omega) (by decide), B.2.1.2.2 8 (by omega), (T.2.2.2 p (by omega)).2.1]
    have em : M_X7_figure τ (nI a) (nI b) = if tx p < 48 + nI a then some (-9, τ) else if 48 + nI b < tx p then some (-9, τ) else some (tx p - 48, setI τ 18 (nI (p + 1))) := by
      unfold M_X7_figure
      rw [B.2.2.2.2.2.1, B.2.2.2.2.2.2, if_neg (fun z => by have := (nI_eq (by omega) (by omega)).mp z; omega), here_m T B q, Option.bind_some, in7i, Option.bind_some, nI_1, Option.bind_some]
      show (if (if tx p < 48 + nI a then (0 : Int32) else if 48 + nI b < tx p then 0 else 1) = 0 then some (-9, τ) else (rd 320 (τ.2.2 8) (τ.1 17 + nI (p + 1) - 1)).bind fun v60 => some (v60 - 48, setI τ 18 (nI (p + 1)))) = _
      rw [B.2.2.2.2.1, ev, Option.bind_some]
      by_cases w1 : tx p < 48 + nI a
      · rw [if_pos w1, if_pos rfl, if_pos w1]
      · rw [if_neg w1, if_neg w1]
        by_cases w2 : 48 + nI b < tx p
        · rw [if_pos w2, if_pos rfl, if_pos w2]
        · rw [if_neg w2, if_neg n10, if_neg w2]
    rw [ec, em]
    simp only [Int32.lt_iff_toInt_lt, e48, ta, tb', ta8, tb8]
    by_cases w1 : (tx p).toInt < 48 + a
    · exact Or.inl ⟨if_pos (by omega), if_pos w1⟩
    · by_cases w2 : 48 + (b : Int) < (tx p).toInt
      · exact Or.inl ⟨by rw [if_neg (by omega), if_pos (by omega)], by rw [if_neg w1, if_pos w2]⟩
      · refine Or.inr ⟨((tx p).toInt - 48).toNat, by omega, by omega, q, ?_, ?_⟩
        · rw [if_neg (by omega), if_neg (by omega)]
          exact congrArg some (Int32.toInt_inj.mp (by rw [e48, nI_toInt (by omega)]; omega))
        · rw [if_neg w1, if_neg w2]
          have : tx p - 48 = nI ((tx p).toInt - 48).toNat := Int32.toInt_inj.mp (by rw [e48, nI_toInt (by omega)]; omega)
          rw [this]
  · refine Or.inl ⟨?_, ?_⟩
    · unfold M_X2_figure
      have e208 : ((256 : Int32) - 48).toInt = 208 := by decide
      have ta : (nI a).toInt = a := nI_toInt (by omega)
      have tb' : (nI b).toInt = b := nI_toInt (by omega)
      rw [sign_e T B q hp, Option.bind_some, if_neg (by rw [Int32.lt_iff_toInt_lt, e208, ta]; omega), if_pos (by rw [Int32.lt_iff_toInt_lt, e208, tb']; omega)]
    · unfold M_X7_figure
      rw [B.2.2.2.2.2.1, B.2.2.2.2.2.2, if_pos (by rw [show p = n by omega])]
theorem tf_l (T : TX σ0 τ0 j n tx) (B : RB σ0 τ0 j n p σ τ) (hp : p ≤ n) {a b : Nat} (ha : a ≤ 100) (hb : b ≤ 100) : (M_X2_takeFigure σ (nI a) (nI b) = some (-1, σ) ∧ M_X7_figure τ (nI a) (nI b) = some (-9, τ)) ∨ ∃ v, a ≤ v ∧ v ≤ b ∧ p < n ∧ M_X2_takeFigure σ (nI a) (nI b) = some (nI v, setI σ 13 (nI (p + 1))) ∧ M_X7_figure τ (nI a) (nI b) = some (nI v, setI τ 18 (nI (p + 1))) := by
  unfold M_X2_takeFigure
  rcases fig_l T B hp ha hb with ⟨e1, e2⟩ | ⟨v, v1, v2, v3, e1, e2⟩
  · exact Or.inl ⟨by rw [e1, Option.bind_some, if_pos rfl], e2⟩
  · exact Or.inr ⟨v, v1, v2, v3, by rw [e1, Option.bind_some, if_neg (m1_ne (by omega)), Option.bind_some, B.2.2.2.1, nI_1], e2⟩
/- the peace -/
theorem w117 (τ : ST) : M_X7_readsWell_117 τ (-9) = some (0, setI τ 22 (-9)) := by
  unfold M_X7_readsWell_117
  rw [Option.bind_some, show (setI τ 22 (-9)).1 22 = -9 from rfl, if_pos rfl]; rfl
theorem w87 (τ : ST) (x : Int32) : M_X7_readsWell_87 τ x (-9) = some (0, setI (setI τ 21 (10 * x + (-9))) 22 (-9)) := by
  unfold M_X7_readsWell_87
  rw [Option.bind_some, if_pos rfl, w117]
theorem w68 (τ : ST) : M_X7_readsWell_68 τ (-9) = some (0, setI (setI τ 21 (10 * (-9) + (-9))) 22 (-9)) := by
  unfold M_X7_readsWell_68
  rw [if_pos rfl, w87]
theorem w117v (τ : ST) {v : Nat} (hv : v ≤ 9) : M_X7_readsWell_117 τ (nI v) = some (1, setI τ 22 (nI v)) := by
  unfold M_X7_readsWell_117
  rw [Option.bind_some, show (setI τ 22 (nI v)).1 22 = nI v from rfl, if_neg (m9_ne (by omega))]; rfl
def rw0 (τ : ST) : Option (Int32 × ST) := if (τ.1 18) = (τ.1 19) then (okZ 0).bind fun z => some (z, τ) else (M_X7_here τ).bind fun o16 => if o16 = 113 then (some (setI τ 18 ((τ.1 18) + 1))).bind fun σ33 => (M_X7_figure σ33 1 9).bind fun o41 => (some (setI o41.2 20 (o41.1))).bind fun σ44 => if (σ44.1 20) = (-9) then M_X7_readsWell_68 σ44 (-9) else (M_X7_figure σ44 0 9).bind fun o65 => M_X7_readsWell_68 o65.2 o65.1 else (okZ 0).bind fun z => some (z, τ)
theorem rw0_eq (τ : ST) : M_X7_readsWell τ = (M_X7_skip τ).bind rw0 := rfl
theorem peace_l (T : TX σ0 τ0 j n tx) (B : RB σ0 τ0 j n p σ τ) (hp : p ≤ n) {k fc : Nat} {K H F : Nat → Nat} (hC : RC k fc K H F σ τ) : (∃ p' σ' τ', p' ≤ n ∧ M_X2_readPeace σ = some (0, σ') ∧ rw0 τ = some (0, τ') ∧ RB σ0 τ0 j n p' σ' τ') ∨ ∃ p' nd fw cm σ' τ', p < p' ∧ p' ≤ n ∧ M_X2_readPeace σ = some (1, σ') ∧ rw0 τ = some (1, τ') ∧ RB σ0 τ0 j n p' σ' τ' ∧ RQ nd fw cm σ' τ' ∧ RC k fc K H F σ' τ' := by
  have h80 := T.2.1
  generalize hx : M_X2_readPeace σ = x
  generalize hy : rw0 τ = y
  unfold M_X2_readPeace at hx
  unfold rw0 at hy
  rw [B.2.2.2.2.2.1, B.2.2.2.2.2.2] at hy
  by_cases q : p < n
  · rw [sign_c T B q, Option.bind_some] at hx
    rw [if_neg (show ¬ nI p = nI n from fun z => by have := (nI_eq (by omega) (by omega)).mp z; omega), here_m T B q, Option.bind_some] at hy
    by_cases c : tx p = 113
    · rw [if_pos c, Option.bind_some, B.2.2.2.1, nI_1] at hx
      rw [if_pos c, Option.bind_some, nI_1] at hy
      have B1 := B.mv (p + 1)
      rcases tf_l T B1 (by omega) (a := 1) (b := 9) (by omega) (by omega) with ⟨e1, e2⟩ | ⟨v, v1, v2, v3, e1, e2⟩
      · rw [show M_X2_takeFigure (setI σ 13 (nI (p + 1))) 1 9 = _ from e1, Option.bind_some, Option.bind_some, if_pos (show (setI (setI σ 13 (nI (p + 1))) 20 (-1)).1 20 = -1 from rfl)] at hx
        rw [show M_X7_figure (setI τ 18 (nI (p + 1))) 1 9 = _ from e2, Option.bind_some, Option.bind_some, if_pos (show (setI (setI τ 18 (nI (p + 1))) 20 (-9)).1 20 = -9 from rfl), w68] at hy
        exact Or.inl ⟨p + 1, _, _, by omega, hx.symm, hy.symm, ((((B1.c (k := 20) (v := -1) (by omega)).m (k := 20) (v := -9) (by omega)).m (k := 21) (v := 10 * (-9) + (-9)) (by omega)).m (k := 22) (v := -9) (by omega))⟩
      · have B2 := ((B1.mv (p + 1 + 1)).c (k := 20) (v := nI v) (by omega)).m (k := 20) (v := nI v) (by omega)
        rw [show M_X2_takeFigure (setI σ 13 (nI (p + 1))) 1 9 = _ from e1, Option.bind_some, Option.bind_some, if_neg (show ¬ (setI (setI (setI σ 13 (nI (p + 1))) 13 (nI (p + 1 + 1))) 20 (nI v)).1 20 = -1 from m1_ne (by omega))] at hx
        rw [show M_X7_figure (setI τ 18 (nI (p + 1))) 1 9 = _ from e2, Option.bind_some, Option.bind_some, if_neg (show ¬ (setI (setI (setI τ 18 (nI (p + 1))) 18 (nI (p + 1 + 1))) 20 (nI v)).1 20 = -9 from m9_ne (by omega))] at hy
        rcases tf_l T B2 (by omega) (a := 0) (b := 9) (by omega) (by omega) with ⟨e1, e2⟩ | ⟨t, t1, t2, t3, e1, e2⟩
        · rw [show M_X2_takeFigure (setI (setI (setI σ 13 (nI (p + 1))) 13 (nI (p + 1 + 1))) 20 (nI v)) 0 9 = _ from e1, Option.bind_some, if_pos rfl] at hx
          rw [show M_X7_figure (setI (setI (setI τ 18 (nI (p + 1))) 18 (nI (p + 1 + 1))) 20 (nI v)) 0 9 = _ from e2, Option.bind_some, w68] at hy
          exact Or.inl ⟨p + 1 + 1, _, _, by omega, hx.symm, hy.symm, ((B2.m (k := 21) (v := 10 * (-9) + (-9)) (by omega)).m (k := 22) (v := -9) (by omega))⟩
        · have B3 := B2.mv (p + 1 + 1 + 1)
          rw [show M_X2_takeFigure (setI (setI (setI σ 13 (nI (p + 1))) 13 (nI (p + 1 + 1))) 20 (nI v)) 0 9 = _ from e1, Option.bind_some, if_neg (m1_ne (by omega))] at hx
          rw [show M_X7_figure (setI (setI (setI τ 18 (nI (p + 1))) 18 (nI (p + 1 + 1))) 20 (nI v)) 0 9 = _ from e2, Option.bind_some] at hy
          unfold M_X7_readsWell_68 at hy
          rw [if_neg (m9_ne (by omega))] at hy
          have C3 : RC k fc K H F (setI (setI (setI (setI σ 13 (nI (p + 1))) 13 (nI (p + 1 + 1))) 20 (nI v)) 13 (nI (p + 1 + 1 + 1))) (setI (setI (setI (setI τ 18 (nI (p + 1))) 18 (nI (p + 1 + 1))) 20 (nI v)) 18 (nI (p + 1 + 1 + 1))) := hC
          have q3 : (setI (setI (setI (setI σ 13 (nI (p + 1))) 13 (nI (p + 1 + 1))) 20 (nI v)) 13 (nI (p + 1 + 1 + 1))).1 20 = nI v := rfl
          have r3 : (setI (setI (setI (setI τ 18 (nI (p + 1))) 18 (nI (p + 1 + 1))) 20 (nI v)) 18 (nI (p + 1 + 1 + 1))).1 20 = nI v := rfl
          generalize setI (setI (setI (setI σ 13 (nI (p + 1))) 13 (nI (p + 1 + 1))) 20 (nI v)) 13 (nI (p + 1 + 1 + 1)) = s3 at hx B3 C3 q3
          generalize setI (setI (setI (setI τ 18 (nI (p + 1))) 18 (nI (p + 1 + 1))) 20 (nI v)) 18 (nI (p + 1 + 1 + 1)) = u3 at hy B3 C3 r3
          rcases tf_l T B3 (by omega) (a := 0) (b := 9) (by omega) (by omega) with ⟨e1, e2⟩ | ⟨o, o1, o2, o3, e1, e2⟩
          · rw [show M_X2_takeFigure s3 0 9 = _ from e1, Option.bind_some, if_pos rfl] at hx
            rw [show M_X7_figure u3 0 9 = _ from e2, Option.bind_some, w87] at hy
            exact Or.inl ⟨p + 1 + 1 + 1, _, _, by omega, hx.symm, hy.symm, ((B3.m (k := 21) (v := 10 * nI t + (-9)) (by omega)).m (k := 22) (v := -9) (by omega))⟩
          · have hto : (10 : Int32) * nI t + nI o = nI (10 * t + o) := by rw [show (10 : Int32) = nI 10 from rfl, pk_mul, nI_add]
            have B4 := ((B3.mv (p + 1 + 1 + 1 + 1)).c (k := 21) (v := nI (10 * t + o)) (by omega)).m (k := 21) (v := nI (10 * t + o)) (by omega)
            rw [show M_X2_takeFigure s3 0 9 = _ from e1, Option.bind_some, if_neg (m1_ne (by omega)), hto, Option.bind_some] at hx
            rw [show M_X7_figure u3 0 9 = _ from e2, Option.bind_some] at hy
            unfold M_X7_readsWell_87 at hy
            rw [hto, Option.bind_some, if_neg (m9_ne (by omega))] at hy
            rcases tf_l T B4 (by omega) (a := 0) (b := 9) (by omega) (by omega) with ⟨e1, e2⟩ | ⟨c, c1, c2, c3, e1, e2⟩
            · rw [show M_X2_takeFigure (setI (setI s3 13 (nI (p + 1 + 1 + 1 + 1))) 21 (nI (10 * t + o))) 0 9 = _ from e1, Option.bind_some, Option.bind_some, if_pos (show (setI (setI (setI s3 13 (nI (p + 1 + 1 + 1 + 1))) 21 (nI (10 * t + o))) 22 (-1)).1 22 = -1 from rfl)] at hx
              rw [show M_X7_figure (setI (setI u3 18 (nI (p + 1 + 1 + 1 + 1))) 21 (nI (10 * t + o))) 0 9 = _ from e2, Option.bind_some, w117] at hy
              exact Or.inl ⟨p + 1 + 1 + 1 + 1, _, _, by omega, hx.symm, hy.symm, ((B4.c (k := 22) (v := -1) (by omega)).m (k := 22) (v := -9) (by omega))⟩
            · have B5 := ((B4.mv (p + 1 + 1 + 1 + 1 + 1)).c (k := 22) (v := nI c) (by omega)).m (k := 22) (v := nI c) (by omega)
              rw [show M_X2_takeFigure (setI (setI s3 13 (nI (p + 1 + 1 + 1 + 1))) 21 (nI (10 * t + o))) 0 9 = _ from e1, Option.bind_some, Option.bind_some, if_neg (show ¬ (setI (setI (setI (setI s3 13 (nI (p + 1 + 1 + 1 + 1))) 21 (nI (10 * t + o))) 13 (nI (p + 1 + 1 + 1 + 1 + 1))) 22 (nI c)).1 22 = -1 from m1_ne (by omega))] at hx
              rw [show M_X7_figure (setI (setI u3 18 (nI (p + 1 + 1 + 1 + 1))) 21 (nI (10 * t + o))) 0 9 = _ from e2, Option.bind_some, w117v _ c2] at hy
              exact Or.inr ⟨p + 1 + 1 + 1 + 1 + 1, v, 10 * t + o, c, _, _, by omega, by omega, hx.symm, hy.symm, B5, ⟨v2, by omega, c2, q3, rfl, rfl, r3, rfl, rfl⟩, C3⟩
    · rw [if_neg c] at hx hy
      exact Or.inl ⟨p, σ, τ, hp, hx.symm, hy.symm, B⟩
  · rw [sign_e T B q hp, Option.bind_some, if_neg (by decide)] at hx
    rw [if_pos (by rw [show p = n by omega])] at hy
    exact Or.inl ⟨p, σ, τ, hp, hx.symm, hy.symm, B⟩
end RD
