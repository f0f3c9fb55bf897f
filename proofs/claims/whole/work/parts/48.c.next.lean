/- best: the next order -/
def rvF (f : Nat → Int32) (i0 j0 t : Nat) : Nat → Int32 := fun k => if (i0 ≤ k ∧ k < i0 + t) ∨ (j0 < k + t ∧ k ≤ j0) then f (i0 + j0 - k) else f k
def revF (f : Nat → Int32) (i0 j0 : Nat) : Nat → Int32 := fun k => if i0 ≤ k ∧ k ≤ j0 then f (i0 + j0 - k) else f k
theorem rvF_0 (f : Nat → Int32) (i0 j0 : Nat) : rvF f i0 j0 0 = f := by
  funext k; unfold rvF; rw [if_neg (by omega)]
theorem no_100 {τ : ST} {f : Nat → Int32} {i0 j0 : Nat} (h0 : 0 < i0) (hj : j0 < 7) (hij : i0 ≤ j0) : ∀ (m fu t : Nat), j0 + 1 ≤ 2 * t + m + i0 → m < fu → 2 * t + i0 ≤ j0 + 1 → M_X7_nextOrder_100 fu (setA τ 13 (rvF f i0 j0 t)) (nI (i0 + t)) (nI (j0 - t)) = some (1, setA τ 13 (revF f i0 j0)) := by
  have stop : ∀ t, j0 ≤ 2 * t + i0 → 2 * t + i0 ≤ j0 + 1 → rvF f i0 j0 t = revF f i0 j0 := by
    intro t h1 h2
    funext k
    unfold rvF revF
    by_cases q : i0 ≤ k ∧ k ≤ j0
    · rw [if_pos q]
      by_cases z : (i0 ≤ k ∧ k < i0 + t) ∨ (j0 < k + t ∧ k ≤ j0)
      · rw [if_pos z]
      · rw [if_neg z, show i0 + j0 - k = k by omega]
    · rw [if_neg q, if_neg (by omega)]
  intro m
  induction m with
  | zero =>
    intro fu t h1 h2 h3
    obtain ⟨fu, rfl⟩ : ∃ x, fu = x + 1 := ⟨fu - 1, by omega⟩
    rw [M_X7_nextOrder_100, if_pos (nI_le (by omega) (by omega)), stop t (by omega) h3]; rfl
  | succ m ih =>
    intro fu t h1 h2 h3
    obtain ⟨fu, rfl⟩ : ∃ x, fu = x + 1 := ⟨fu - 1, by omega⟩
    by_cases q : j0 - t ≤ i0 + t
    · rw [M_X7_nextOrder_100, if_pos (nI_le q (by omega)), stop t (by omega) h3]; rfl
    · have e1 : rvF f i0 j0 t (i0 + t) = f (i0 + t) := if_neg (by omega)
      have e2 : rvF f i0 j0 t (j0 - t) = f (j0 - t) := if_neg (by omega)
      have e3 : upd (upd (rvF f i0 j0 t) (i0 + t) (f (j0 - t))) (j0 - t) (f (i0 + t)) = rvF f i0 j0 (t + 1) := by
        funext k
        unfold upd rvF
        by_cases z1 : k = j0 - t
        · rw [if_pos z1, if_pos (by omega), show i0 + j0 - k = i0 + t by omega]
        · rw [if_neg z1]
          by_cases z2 : k = i0 + t
          · rw [if_pos z2, if_pos (by omega), show i0 + j0 - k = j0 - t by omega]
          · rw [if_neg z2]
            by_cases z : (i0 ≤ k ∧ k < i0 + t) ∨ (j0 < k + t ∧ k ≤ j0)
            · rw [if_pos z, if_pos (by omega)]
            · rw [if_neg z, if_neg (by omega)]
      have ih := ih fu (t + 1) (by omega) (by omega) (by omega)
      rw [M_X7_nextOrder_100, if_neg (nI_ge (by omega) (by omega)), sA_at, rd_n _ (by omega) (by decide), Option.bind_some, rd_n _ (by omega) (by decide), Option.bind_some, e1, e2, wrA_n _ _ _ (by omega) (by decide), Option.bind_some, wrA_n _ _ _ (by omega) (by decide), Option.bind_some]
      simp only [setA_setA, sA_at]
      rw [e3, nI_1, show nI (j0 - t) + (-1) = nI (j0 - (t + 1)) by rw [show j0 - t = (j0 - (t + 1)) + 1 by omega, pk_m1]]
      exact ih
section NO
variable {τ : ST} {a : Nat → Int32} {g : Nat → Nat} {n P mo : Nat}
theorem no_41 (ha : ∀ k, k < n → a k = nI (g k)) (hg : ∀ k, k < n → g k < 100) (hn : n ≤ 7) (hP : P < mo) (hmo : mo < n) (h1 : g P ≤ g mo) (h2 : ∀ k, mo < k → k < n → g k < g P) : ∀ (d fu x : Nat), mo + d = x → x < n → d < fu → M_X7_nextOrder_41 fu (setA τ 13 a) (nI n) (nI P) (nI x) = M_X7_nextOrder_100 10000 (setA τ 13 (upd (upd a P (a mo)) mo (a P))) (nI (P + 1)) (nI (n - 1))
  | 0, fu + 1, x, hx, hxn, _ => by
    obtain rfl : mo = x := by omega
    have g1 := hg P (by omega)
    have g2 := hg mo hmo
    rw [M_X7_nextOrder_41, sA_at, rd_n _ (by omega) (by decide), Option.bind_some, rd_n _ (by omega) (by decide), Option.bind_some, if_pos (by rw [ha P (by omega), ha mo hmo]; exact nI_le h1 (by omega)), Option.bind_some, Option.bind_some, wrA_n _ _ _ (by omega) (by decide), Option.bind_some, wrA_n _ _ _ (by omega) (by decide), Option.bind_some]
    simp only [setA_setA, sA_at]
    rw [nI_1, show (1 : Int32) = nI 1 from rfl, pk_sub (by omega)]
  | d + 1, fu + 1, x, hx, hxn, hf => by
    have g1 := hg P (by omega)
    have g2 := h2 x (by omega) hxn
    rw [M_X7_nextOrder_41, sA_at, rd_n _ (by omega) (by decide), Option.bind_some, rd_n _ (by omega) (by decide), Option.bind_some, if_neg (by rw [ha P (by omega), ha x hxn]; exact nI_ge g2 (by omega)), show nI x + (-1) = nI (x - 1) by rw [show x = (x - 1) + 1 by omega, pk_m1]; rfl]
    exact no_41 ha hg hn hP hmo h1 h2 d fu (x - 1) (by omega) (by omega) (by omega)
theorem no_4 (ha : ∀ k, k < n → a k = nI (g k)) (hg : ∀ k, k < n → g k < 100) (hn : n ≤ 7) (h3 : ∀ k, P < k → k + 1 < n → g (k + 1) < g k) (h4 : g P ≤ g (P + 1)) : ∀ (d fu x : Nat), P + d = x → x + 1 < n → d < fu → M_X7_nextOrder_4 fu (setA τ 13 a) (nI n) (nI x) = M_X7_nextOrder_31 (setA τ 13 a) (nI n) (nI P)
  | 0, fu + 1, x, hx, hxn, _ => by
    obtain rfl : P = x := by omega
    have g1 := hg P (by omega)
    have g2 := hg (P + 1) (by omega)
    rw [M_X7_nextOrder_4, if_neg (nI_pos (by omega)), sA_at, rd_n _ (by omega) (by decide), Option.bind_some, nI_1, rd_n _ (by omega) (by decide), Option.bind_some, if_pos (by rw [ha P (by omega), ha (P + 1) hxn]; exact nI_le h4 (by omega))]
  | d + 1, fu + 1, x, hx, hxn, hf => by
    have g1 := hg x (by omega)
    have g2 := h3 x (by omega) hxn
    rw [M_X7_nextOrder_4, if_neg (nI_pos (by omega)), sA_at, rd_n _ (by omega) (by decide), Option.bind_some, nI_1, rd_n _ (by omega) (by decide), Option.bind_some, if_neg (by rw [ha x (by omega), ha (x + 1) hxn]; exact nI_ge g2 (by omega)), show nI x + (-1) = nI (x - 1) by rw [show x = (x - 1) + 1 by omega, pk_m1]; rfl]
    exact no_4 ha hg hn h3 h4 d fu (x - 1) (by omega) (by omega) (by omega)
theorem no_step (ha : ∀ k, k < n → a k = nI (g k)) (hg : ∀ k, k < n → g k < 100) (hn : n ≤ 7) (hP : P < mo) (hmo : mo < n) (h1 : g P ≤ g mo) (h2 : ∀ k, mo < k → k < n → g k < g P) (h3 : ∀ k, P < k → k + 1 < n → g (k + 1) < g k) (h4 : g P ≤ g (P + 1)) : ∃ a', M_X7_nextOrder (setA τ 13 a) (nI n) = some (1, setA τ 13 a') ∧ ∀ k, k < n → a' k = nI (if k < P then g k else if k = P then g mo else if n + P - k = mo then g P else g (n + P - k)) := by
  refine ⟨revF (upd (upd a P (a mo)) mo (a P)) (P + 1) (n - 1), ?_, fun k hk => ?_⟩
  · have hr := no_100 (τ := τ) (f := upd (upd a P (a mo)) mo (a P)) (i0 := P + 1) (j0 := n - 1) (by omega) (by omega) (by omega) 10 10000 0 (by omega) (by omega) (by omega)
    rw [rvF_0] at hr
    unfold M_X7_nextOrder
    rw [show (2 : Int32) = nI 2 from rfl, pk_sub (by omega), no_4 ha hg hn h3 h4 (n - 2 - P) 10000 (n - 2) (by omega) (by omega) (by omega)]
    unfold M_X7_nextOrder_31
    rw [if_pos (nI_nonneg (by omega)), show (1 : Int32) = nI 1 from rfl, pk_sub (by omega), no_41 ha hg hn hP hmo h1 h2 (n - 1 - mo) 10000 (n - 1) (by omega) (by omega) (by omega)]
    exact hr
  · unfold revF
    by_cases q1 : k < P
    · rw [if_neg (by omega), if_pos q1, pk_un (by omega), pk_un (by omega)]; exact ha k hk
    · rw [if_neg q1]
      by_cases q2 : k = P
      · rw [if_neg (by omega), if_pos q2, pk_un (by omega), q2, pk_us]; exact ha mo hmo
      · rw [if_pos (by omega), if_neg q2, show P + 1 + (n - 1) - k = n + P - k by omega]
        by_cases q3 : n + P - k = mo
        · rw [if_pos q3, q3, pk_us]; exact ha P (by omega)
        · rw [if_neg q3, pk_un q3, pk_un (by omega)]; exact ha _ (by omega)
theorem no_e4 (ha : ∀ k, k < n → a k = nI (g k)) (hg : ∀ k, k < n → g k < 100) (hn : n ≤ 7) (h3 : ∀ k, k + 1 < n → g (k + 1) < g k) : ∀ (x fu : Nat), x + 1 < n → x + 1 < fu → M_X7_nextOrder_4 fu (setA τ 13 a) (nI n) (nI x) = some (0, setA τ 13 a)
  | 0, fu + 2, hxn, _ => by
    have g1 := hg 0 (by omega)
    have g2 := h3 0 hxn
    rw [M_X7_nextOrder_4, if_neg (nI_pos (by omega)), sA_at, rd_n _ (by omega) (by decide), Option.bind_some, nI_1, rd_n _ (by omega) (by decide), Option.bind_some, if_neg (by rw [ha 0 (by omega), ha (0 + 1) hxn]; exact nI_ge g2 (by omega)), M_X7_nextOrder_4, if_pos (by decide)]
    rfl
  | x + 1, fu + 1, hxn, hf => by
    have g1 := hg (x + 1) (by omega)
    have g2 := h3 (x + 1) hxn
    rw [M_X7_nextOrder_4, if_neg (nI_pos (by omega)), sA_at, rd_n _ (by omega) (by decide), Option.bind_some, nI_1, rd_n _ (by omega) (by decide), Option.bind_some, if_neg (by rw [ha (x + 1) (by omega), ha (x + 1 + 1) hxn]; exact nI_ge g2 (by omega)), pk_m1]
    exact no_e4 ha hg hn h3 x fu (by omega) (by omega)
theorem no_end (ha : ∀ k, k < n → a k = nI (g k)) (hg : ∀ k, k < n → g k < 100) (hn : n ≤ 7) (h3 : ∀ k, k + 1 < n → g (k + 1) < g k) : M_X7_nextOrder (setA τ 13 a) (nI n) = some (0, setA τ 13 a) := by
  unfold M_X7_nextOrder
  by_cases q : n < 2
  · rcases (show n = 0 ∨ n = 1 by omega) with rfl | rfl
    · rw [show M_X7_nextOrder_4 10000 (setA τ 13 a) (nI 0) (nI 0 - 2) = M_X7_nextOrder_4 (9999 + 1) (setA τ 13 a) (nI 0) (-2) from rfl, M_X7_nextOrder_4, if_pos (by decide)]; rfl
    · rw [show M_X7_nextOrder_4 10000 (setA τ 13 a) (nI 1) (nI 1 - 2) = M_X7_nextOrder_4 (9999 + 1) (setA τ 13 a) (nI 1) (-1) from rfl, M_X7_nextOrder_4, if_pos (by decide)]; rfl
  · rw [show (2 : Int32) = nI 2 from rfl, pk_sub (by omega)]
    exact no_e4 ha hg hn h3 (n - 2) 10000 (by omega) (by omega)
end NO
/- lists -/
theorem gD_l {l l' : List Nat} {k : Nat} (h : k < l.length) : (l ++ l').getD k 0 = l.getD k 0 := by rw [List.getD_eq_getElem?_getD, List.getD_eq_getElem?_getD, List.getElem?_append_left h]
theorem gD_r {l l' : List Nat} {k : Nat} (h : l.length ≤ k) : (l ++ l').getD k 0 = l'.getD (k - l.length) 0 := by rw [List.getD_eq_getElem?_getD, List.getD_eq_getElem?_getD, List.getElem?_append_right h]
theorem gD_v {l : List Nat} {k : Nat} (h : k < l.length) : l.reverse.getD k 0 = l.getD (l.length - 1 - k) 0 := by rw [List.getD_eq_getElem?_getD, List.getD_eq_getElem?_getD, List.getElem?_reverse h]
theorem gD_pw {l : List Nat} (h : l.Pairwise (· < ·)) {i j : Nat} (hij : i < j) (hj : j < l.length) : l.getD i 0 < l.getD j 0 := by
  rw [List.getD_eq_getElem?_getD, List.getD_eq_getElem?_getD, List.getElem?_eq_getElem hj, List.getElem?_eq_getElem (show i < l.length by omega)]
  exact List.pairwise_iff_getElem.mp h i j (by omega) hj hij
theorem gD_mem {l : List Nat} {k : Nat} (h : k < l.length) : l.getD k 0 ∈ l := by
  rw [List.getD_eq_getElem?_getD, List.getElem?_eq_getElem h]
  exact List.getElem_mem h
def arL (a : Nat → Int32) (L : List Nat) : Prop := ∀ k, k < L.length → a k = nI (L.getD k 0)
theorem no_list {τ : ST} {a : Nat → Int32} {p A B : List Nat} {x y : Nat} (hS : (A ++ x :: y :: B).Pairwise (· < ·)) (ha : arL a (p ++ x :: (A ++ y :: B).reverse)) (hn : (p ++ x :: (A ++ y :: B).reverse).length ≤ 7) (h7 : ∀ i ∈ p ++ x :: (A ++ y :: B), i < 100) : ∃ a', M_X7_nextOrder (setA τ 13 a) (nI (p ++ x :: (A ++ y :: B).reverse).length) = some (1, setA τ 13 a') ∧ arL a' (p ++ y :: (A ++ x :: B)) := by
  have hT : (A ++ y :: B).Pairwise (· < ·) := hS.sublist (List.Sublist.append (List.Sublist.refl A) (List.sublist_cons_self x (y :: B)))
  have lT : (A ++ y :: B).length = A.length + 1 + B.length := by simp only [List.length_append, List.length_cons]; omega
  have lS : (A ++ x :: y :: B).length = A.length + 2 + B.length := by simp only [List.length_append, List.length_cons]; omega
  have lN : (p ++ x :: (A ++ y :: B).reverse).length = p.length + 1 + (A ++ y :: B).length := by simp only [List.length_append, List.length_cons, List.length_reverse]; omega
  have lN' : (p ++ y :: (A ++ x :: B)).length = p.length + 1 + (A.length + 1 + B.length) := by simp only [List.length_append, List.length_cons]; omega
  have gp : ∀ k, k < p.length → (p ++ x :: (A ++ y :: B).reverse).getD k 0 = p.getD k 0 := fun k hk => gD_l hk
  have gx : (p ++ x :: (A ++ y :: B).reverse).getD p.length 0 = x := by rw [gD_r (Nat.le_refl _), Nat.sub_self]; rfl
  have gt : ∀ t, t < (A ++ y :: B).length → (p ++ x :: (A ++ y :: B).reverse).getD (p.length + 1 + t) 0 = (A ++ y :: B).getD ((A ++ y :: B).length - 1 - t) 0 := fun t ht => by
    rw [gD_r (by omega), show p.length + 1 + t - p.length = t + 1 by omega]
    exact gD_v ht
  have gA : (A ++ y :: B).getD A.length 0 = y := by rw [gD_r (Nat.le_refl _), Nat.sub_self]; rfl
  have gSx : (A ++ x :: y :: B).getD A.length 0 = x := by rw [gD_r (Nat.le_refl _), Nat.sub_self]; rfl
  have gSy : (A ++ x :: y :: B).getD (A.length + 1) 0 = y := by rw [gD_r (by omega), show A.length + 1 - A.length = 1 by omega]; rfl
  have hxy : x < y := by
    have := gD_pw hS (i := A.length) (j := A.length + 1) (by omega) (by omega)
    rwa [gSx, gSy] at this
  have hmo : (p ++ x :: (A ++ y :: B).reverse).getD (p.length + 1 + B.length) 0 = y := by
    rw [gt B.length (by omega), show (A ++ y :: B).length - 1 - B.length = A.length by omega, gA]
  obtain ⟨a', u1, u2⟩ := no_step (τ := τ) (a := a) (g := fun k => (p ++ x :: (A ++ y :: B).reverse).getD k 0) (n := (p ++ x :: (A ++ y :: B).reverse).length) (P := p.length) (mo := p.length + 1 + B.length) ha (fun k hk => by
      refine h7 _ ?_
      have := gD_mem hk
      rcases List.mem_append.mp this with q | q
      · exact List.mem_append.mpr (Or.inl q)
      · rcases List.mem_cons.mp q with q | q
        · exact List.mem_append.mpr (Or.inr (List.mem_cons.mpr (Or.inl q)))
        · exact List.mem_append.mpr (Or.inr (List.mem_cons_of_mem _ (List.mem_reverse.mp q)))) hn (by omega) (by omega) (by
      show (p ++ x :: (A ++ y :: B).reverse).getD p.length 0 ≤ (p ++ x :: (A ++ y :: B).reverse).getD (p.length + 1 + B.length) 0
      rw [gx, hmo]; omega) (fun k h1 h2 => by
      show (p ++ x :: (A ++ y :: B).reverse).getD k 0 < (p ++ x :: (A ++ y :: B).reverse).getD p.length 0
      obtain ⟨t, rfl⟩ : ∃ t, k = p.length + 1 + t := ⟨k - (p.length + 1), by omega⟩
      rw [gx, gt t (by omega), gD_l (by omega)]
      have := gD_pw hS (i := (A ++ y :: B).length - 1 - t) (j := A.length) (by omega) (by omega)
      rwa [gSx, gD_l (by omega)] at this) (fun k h1 h2 => by
      show (p ++ x :: (A ++ y :: B).reverse).getD (k + 1) 0 < (p ++ x :: (A ++ y :: B).reverse).getD k 0
      obtain ⟨t, rfl⟩ : ∃ t, k = p.length + 1 + t := ⟨k - (p.length + 1), by omega⟩
      rw [show p.length + 1 + t + 1 = p.length + 1 + (t + 1) by omega, gt t (by omega), gt (t + 1) (by omega)]
      exact gD_pw hT (by omega) (by omega)) (by
      show (p ++ x :: (A ++ y :: B).reverse).getD p.length 0 ≤ (p ++ x :: (A ++ y :: B).reverse).getD (p.length + 1) 0
      have e := gt 0 (by omega)
      rw [Nat.add_zero, Nat.sub_zero] at e
      rw [gx, e]
      by_cases q : B.length = 0
      · rw [show (A ++ y :: B).length - 1 = A.length by omega, gA]; omega
      · have := gD_pw hT (i := A.length) (j := (A ++ y :: B).length - 1) (by omega) (by omega)
        rw [gA] at this; omega)
  refine ⟨a', u1, fun k hk => ?_⟩
  rw [u2 k (by omega)]
  congr 1
  show (if k < p.length then (p ++ x :: (A ++ y :: B).reverse).getD k 0 else if k = p.length then (p ++ x :: (A ++ y :: B).reverse).getD (p.length + 1 + B.length) 0 else if (p ++ x :: (A ++ y :: B).reverse).length + p.length - k = p.length + 1 + B.length then (p ++ x :: (A ++ y :: B).reverse).getD p.length 0 else (p ++ x :: (A ++ y :: B).reverse).getD ((p ++ x :: (A ++ y :: B).reverse).length + p.length - k) 0) = _
  by_cases q1 : k < p.length
  · rw [if_pos q1, gp k q1, gD_l q1]
  · rw [if_neg q1]
    by_cases q2 : k = p.length
    · rw [if_pos q2, hmo, q2, gD_r (Nat.le_refl _), Nat.sub_self]; rfl
    · obtain ⟨t, rfl⟩ : ∃ t, k = p.length + 1 + t := ⟨k - (p.length + 1), by omega⟩
      have er : (p ++ y :: (A ++ x :: B)).getD (p.length + 1 + t) 0 = (A ++ x :: B).getD t 0 := by
        rw [gD_r (by omega), show p.length + 1 + t - p.length = t + 1 by omega]; rfl
      rw [if_neg q2, er]
      by_cases q3 : t = A.length
      · rw [if_pos (by omega), gx, q3, gD_r (Nat.le_refl _), Nat.sub_self]; rfl
      · rw [if_neg (by omega), show (p ++ x :: (A ++ y :: B).reverse).length + p.length - (p.length + 1 + t) = p.length + 1 + ((A ++ y :: B).length - 1 - t) by omega, gt _ (by omega), show (A ++ y :: B).length - 1 - ((A ++ y :: B).length - 1 - t) = t by omega]
        by_cases q4 : t < A.length
        · rw [gD_l q4, gD_l q4]
        · rw [gD_r (by omega), gD_r (by omega), show t - A.length = (t - A.length - 1) + 1 by omega]; rfl
