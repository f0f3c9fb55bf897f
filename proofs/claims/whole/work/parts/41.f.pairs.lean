/- twice, quorum, and the counts -/
def wop (V : VT) (s w q : Nat) : Bool := decide (0 < V 0 0) && (decide (q ≤ w) && pce V s (V 0 0))
theorem n10 : ¬ (1 : Int32) = 0 := by decide
theorem ll (v : Int32) (k : Nat) {j : Nat} (hv : v = nI k) (h : j ≤ k) (hk : k < 2 ^ 31) : nI j ≤ v := by rw [hv]; exact nI_le h hk
theorem lg (v : Int32) (k : Nat) {j : Nat} (hv : v = nI k) (h : k < j) (hj : j < 2 ^ 31) : ¬ nI j ≤ v := by rw [hv]; exact nI_ge h hj
theorem ge2 {x : Int32} (h : nI 2 ≤ x) : ¬ x ≤ 1 := by
  rw [Int32.le_iff_toInt_le] at h ⊢
  have a : (nI 2).toInt = 2 := by decide
  have b : (1 : Int32).toInt = 1 := by decide
  omega
section
variable {V : VT} {σ τ : ST}
theorem would_c (ok : okV V) (h : VC V σ) {s w q : Nat} (hs : s < 128) (hw : w < 1000) (hq : q < 1000) : M_X5_wouldOpen σ (nI s) (nI w) (nI q) = some (b01 (wop V s w q)) := by
  unfold M_X5_wouldOpen wop
  have h7 := ok.1
  rw [h.1]
  rcases Nat.eq_zero_or_pos (V 0 0) with q0 | q0
  · rw [q0, if_pos (by decide), decide_eq_false (by omega)]; rfl
  · rw [if_neg (nI_nle q0 (by omega)), decide_eq_true q0, Bool.true_and]
    by_cases q1 : q ≤ w
    · rw [if_neg (nI_nlt q1 (by omega)), decide_eq_true q1, Bool.true_and, peace_c ok h hs, Option.bind_some]
      cases pce V s (V 0 0)
      · rfl
      · rfl
    · rw [if_pos (nI_lt (by omega) (by omega)), decide_eq_false q1, Bool.false_and]; rfl
def fitA (f v : Nat → Bool) : Nat → Bool
  | 0 => true
  | i + 1 => fitA f v i && (f i == v i)
theorem fitA_f {f v : Nat → Bool} {i : Nat} (h : fitA f v i = false) : ∀ m, i ≤ m → fitA f v m = false := by
  intro m hm
  obtain ⟨k, rfl⟩ := Nat.exists_eq_add_of_le hm
  clear hm
  induction k with
  | zero => exact h
  | succ k ih => show (fitA f v (i + k) && _) = false; rw [ih]; rfl
/- a row of n pairs -/
def prs (V : VT) (row : Nat → Int32) (n : Nat) (g : Nat → Nat) (v : Nat → Bool) : Prop := ∀ i, i < n → g i < 2 ^ V 0 0 ∧ row (2 * i) = nI (g i) ∧ row (2 * i + 1) = b01 (v i)
theorem bad_m {j n : Nat} (hj : j < 6) (hn : n ≤ 8) (hs : τ.2.2 5 j = nI (2 * n)) : ∀ (m fu i : Nat), i + m = n → m < fu → M_X7_noPairs_50 fu τ (nI j) 0 (nI (40 * j + 2 * i)) = M_X7_find τ 3
  | 0, fu + 1, i, h1, _ => by
    unfold M_X7_noPairs_50
    rw [rd_n _ hj (by decide), Option.bind_some, hs, ix40, if_pos (nI_le (by omega) (by omega)), if_pos rfl]
    exact find_eta τ (k := 3) rfl (by decide)
  | m + 1, fu + 1, i, h1, h2 => by
    unfold M_X7_noPairs_50
    rw [rd_n _ hj (by decide), Option.bind_some, hs, ix40, if_neg (nI_ge (by omega) (by omega)), if_pos rfl, show (2 : Int32) = nI 2 from rfl, nI_add, show 40 * j + 2 * i + 2 = 40 * j + 2 * (i + 1) by omega]
    exact bad_m hj hn hs m fu (i + 1) (by omega) (by omega)
theorem pairs_l (ok : okV V) (h : VC V σ) (hm : VM V τ) {j n : Nat} (hj : j < 6) (hn : n ≤ 8) (hs : σ.2.2 3 j = nI (2 * n)) (hst : τ.2.2 5 j = nI (2 * n)) (hr : ∀ i, i < 40 → σ.2.2 (4 + j) i = τ.2.2 6 (40 * j + i)) : ∀ (m fu i : Nat), i + m = n → m < fu →
    (M_X6_refusalOfPairs_46 fu σ (nI j) (nI (2 * n)) (nI (2 * i)) = M_X6_refuse σ 3 ∧ M_X7_noPairs_50 fu τ (nI j) 1 (nI (40 * j + 2 * i)) = M_X7_find τ 3) ∨
    (M_X6_refusalOfPairs_46 fu σ (nI j) (nI (2 * n)) (nI (2 * i)) = some (0, σ) ∧ M_X7_noPairs_50 fu τ (nI j) 1 (nI (40 * j + 2 * i)) = some (0, τ) ∧ ∀ k, i ≤ k → k < n → ∃ s b, s < 2 ^ V 0 0 ∧ σ.2.2 (4 + j) (2 * k) = nI s ∧ σ.2.2 (4 + j) (2 * k + 1) = b01 b)
  | 0, fu + 1, i, h1, _ => by
    refine Or.inr ⟨?_, ?_, fun k a b => by omega⟩
    · unfold M_X6_refusalOfPairs_46
      rw [nI_1, if_pos (nI_le (by omega) (by omega))]
    · unfold M_X7_noPairs_50
      rw [rd_n _ hj (by decide), Option.bind_some, hst, ix40, if_pos (nI_le (by omega) (by omega)), if_neg (by decide)]
  | m + 1, fu + 1, i, h1, h2 => by
    have e0 : M_X6_refusalOfPairs_99 σ = M_X6_refuse σ 3 := refuse_eta σ (k := 3) rfl (by decide)
    have hb := bad_m hj hn hst m fu (i + 1) (by omega) (by omega)
    have ec : M_X6_refusalOfPairs_46 (fu + 1) σ (nI j) (nI (2 * n)) (nI (2 * i)) = (M_X5_isSet σ (σ.2.2 (4 + j) (2 * i))).bind fun o82 => if o82 = 0 then M_X6_refuse σ 3 else if σ.2.2 (4 + j) (2 * i + 1) < 0 then M_X6_refuse σ 3 else if σ.2.2 (4 + j) (2 * i + 1) ≤ 1 then M_X6_refusalOfPairs_46 fu σ (nI j) (nI (2 * n)) (nI (2 * (i + 1))) else M_X6_refuse σ 3 := by
      show (if _ then _ else _) = _
      rw [nI_1, if_neg (nI_ge (by omega) (by omega)), get_r hj hs (by omega) (by omega), Option.bind_some, get_r hj hs (by omega) (by omega), Option.bind_some, e0, show (2 : Int32) = nI 2 from rfl, nI_add, show 2 * i + 2 = 2 * (i + 1) by omega]
    have em : M_X7_noPairs_50 (fu + 1) τ (nI j) 1 (nI (40 * j + 2 * i)) = (M_X7_isSet τ (σ.2.2 (4 + j) (2 * i))).bind fun o76 => if o76 = 0 then M_X7_find τ 3 else (M_X7_in (σ.2.2 (4 + j) (2 * i + 1)).toInt64 0 1).bind fun o93 => if o93 = 0 then M_X7_find τ 3 else M_X7_noPairs_50 fu τ (nI j) 1 (nI (40 * j + 2 * (i + 1))) := by
      show (rd 6 (τ.2.2 5) (nI j)).bind _ = _
      rw [rd_n _ hj (by decide), Option.bind_some, hst, ix40, if_neg (nI_ge (by omega) (by omega)), if_neg (by decide), rd_n _ (by omega) (by decide), Option.bind_some, nI_1, rd_n _ (by omega) (by decide), show (2 : Int32) = nI 2 from rfl, nI_add, show 40 * j + 2 * i + 2 = 40 * j + 2 * (i + 1) by omega, hb, hr _ (by omega), hr _ (by omega)]
      rfl
    rw [ec, em]
    rcases set_cm ok h hm (σ.2.2 (4 + j) (2 * i)) with ⟨g1, g2⟩ | ⟨s, hs2, g0, g1, g2⟩
    · left
      rw [g1, g2, Option.bind_some, Option.bind_some, if_pos rfl, if_pos rfl]; exact ⟨rfl, rfl⟩
    · rw [g1, g2, Option.bind_some, Option.bind_some, if_neg n10, if_neg n10]
      rcases in7k (a := σ.2.2 (4 + j) (2 * i + 1)) 2 (v := 1) rfl (by decide) with ⟨z, z'⟩ | ⟨z, z1, z'⟩ | ⟨b, hb2, z, z'⟩
      · left; rw [z', Option.bind_some, if_pos rfl, if_pos z]; exact ⟨rfl, rfl⟩
      · left; rw [z', Option.bind_some, if_pos rfl, if_neg z, if_neg (ge2 z1)]; exact ⟨rfl, rfl⟩
      · rw [z', Option.bind_some, if_neg n10, z, if_neg (nI_pos (by omega)), if_pos (ll 1 1 rfl (show b ≤ 1 by omega) (by decide))]
        rcases pairs_l ok h hm hj hn hs hst hr m fu (i + 1) (by omega) (by omega) with ⟨u1, u2⟩ | ⟨u1, u2, u3⟩
        · exact Or.inl ⟨u1, u2⟩
        · refine Or.inr ⟨u1, u2, fun k a1 a2 => ?_⟩
          by_cases e : k = i
          · subst e
            refine ⟨s, decide (b = 1), hs2, g0, z.trans ?_⟩
            rcases (by omega : b = 0 ∨ b = 1) with rfl | rfl <;> rfl
          · exact u3 k (by omega) a2
end
theorem pairs_cm {Wl : ST → ST → Prop} (hC : Cg Wl) {V : VT} {σ τ : ST} (ok : okV V) (h : VC V σ) (hm : VM V τ) (hR : RelG Wl σ τ) (a : Int32) :
    (M_X7_isRow a = some 0 ∧ M_X6_refusalOfPairs σ a = some (-1, σ)) ∨
    (M_X7_isRow a = some 1 ∧ ∃ σ' τ', M_X6_refusalOfPairs σ a = some (-3, σ') ∧ M_X7_noPairs τ a = some (-3, τ') ∧ RelG Wl σ' τ') ∨
    (M_X7_isRow a = some 1 ∧ M_X6_refusalOfPairs σ a = some (0, σ) ∧ M_X7_noPairs τ a = some (0, τ) ∧ ∃ j n g v, j < 6 ∧ n ≤ 8 ∧ a = nI j ∧ σ.2.2 3 j = nI (2 * n) ∧ τ.2.2 5 j = nI (2 * n) ∧ prs V (σ.2.2 (4 + j)) n g v ∧ prs V (fun i => τ.2.2 6 (40 * j + i)) n g v) := by
  rcases i3 a (n := 6) (by decide) with q | ⟨q, q'⟩ | ⟨j, hj, rfl⟩
  · refine Or.inl ⟨isRow_lo q, ?_⟩
    unfold M_X6_refusalOfPairs; rw [refusalOf_lo_r q, Option.bind_some, if_neg nz1]
  · refine Or.inl ⟨isRow_hi q q', ?_⟩
    unfold M_X6_refusalOfPairs; rw [refusalOf_hi_r q q', Option.bind_some, if_neg nz1]
  refine Or.inr ?_
  obtain ⟨g1, g2, g3⟩ := hR.1 j hj
  rcases g2 with g2 | ⟨n, hn, g2⟩
  · obtain ⟨σ', τ', e1, e2, e3⟩ := refuse_ok hC hR (k := 1) (v := 1) rfl (by decide)
    refine Or.inl ⟨isRow_ok hj, σ', τ', ?_, ?_, e3⟩
    · unfold M_X6_refusalOfPairs; rw [refusalOf_no_r hj g2, e1, Option.bind_some, if_neg nz3]
    · unfold M_X7_noPairs; rw [rd_n _ hj (by decide), Option.bind_some, ← g1, g2, if_neg n0m1, e2]; rfl
  have e5c : M_X6_refusalOfPairs_37 σ = M_X6_refuse σ 5 := refuse_eta σ (k := 5) rfl (by decide)
  have e5m : M_X7_noPairs_37 τ = M_X7_find τ 5 := find_eta τ (k := 5) rfl (by decide)
  have ec : M_X6_refusalOfPairs σ (nI j) = if nI (n % 2) = 0 then if nI n ≤ 16 then M_X6_refusalOfPairs_46 10000 σ (nI j) (nI n) 0 else M_X6_refuse σ 5 else M_X6_refuse σ 5 := by
    unfold M_X6_refusalOfPairs
    rw [refusalOf_ok_r hj g2 hn, Option.bind_some, if_pos rfl, szOf_r hj, Option.bind_some, g2, rem_n 2 2 rfl (by omega) (by decide) (by decide), e5c]
  have em : M_X7_noPairs τ (nI j) = if nI (n % 2) = 0 then if nI n ≤ 16 then M_X7_noPairs_50 10000 τ (nI j) 1 (nI (40 * j + 2 * 0)) else M_X7_find τ 5 else M_X7_find τ 5 := by
    unfold M_X7_noPairs
    rw [rd_n _ hj (by decide), Option.bind_some, Option.bind_some, Option.bind_some, ← g1, g2, if_pos (nI_nonneg (by omega)), rem_n 2 2 rfl (by omega) (by decide) (by decide), e5m, show (40 : Int32) = nI 40 from rfl, pk_mul]
    rfl
  rcases Nat.mod_two_eq_zero_or_one n with w | w
  · by_cases w2 : n ≤ 16
    · obtain ⟨k, rfl⟩ : ∃ k, n = 2 * k := ⟨n / 2, by omega⟩
      rw [w, if_pos n00, if_pos (ll 16 16 rfl w2 (by decide))] at ec em
      rcases pairs_l ok h hm hj (n := k) (by omega) g2 (g1 ▸ g2) g3 k 10000 0 (by omega) (by omega) with ⟨u1, u2⟩ | ⟨u1, u2, u3⟩
      · obtain ⟨σ', τ', e1, e2, e3⟩ := refuse_ok hC hR (k := 3) (v := 3) rfl (by decide)
        exact Or.inl ⟨isRow_ok hj, σ', τ', ec.trans (u1.trans e1), em.trans (u2.trans e2), e3⟩
      · have hg : ∀ i, ∃ p : Nat × Bool, i < k → p.1 < 2 ^ V 0 0 ∧ σ.2.2 (4 + j) (2 * i) = nI p.1 ∧ σ.2.2 (4 + j) (2 * i + 1) = b01 p.2 := by
          intro i
          by_cases hi : i < k
          · obtain ⟨s, b, x1, x2, x3⟩ := u3 i (Nat.zero_le _) hi
            exact ⟨(s, b), fun _ => ⟨x1, x2, x3⟩⟩
          · exact ⟨(0, false), fun z => absurd z hi⟩
        obtain ⟨p, hp⟩ := Classical.axiomOfChoice hg
        refine Or.inr ⟨isRow_ok hj, ec.trans u1, em.trans u2, j, k, fun i => (p i).1, fun i => (p i).2, hj, by omega, rfl, g2, g1 ▸ g2, fun i hi => hp i hi, fun i hi => ?_⟩
        obtain ⟨x1, x2, x3⟩ := hp i hi
        exact ⟨x1, (g3 _ (by omega)).symm.trans x2, (g3 _ (by omega)).symm.trans x3⟩
    · rw [w, if_pos n00, if_neg (lg 16 16 rfl (show 16 < n by omega) (by omega))] at ec em
      obtain ⟨σ', τ', e1, e2, e3⟩ := refuse_ok hC hR (k := 5) (v := 5) rfl (by decide)
      exact Or.inl ⟨isRow_ok hj, σ', τ', ec.trans e1, em.trans e2, e3⟩
  · rw [w, if_neg (show ¬ nI 1 = 0 by decide)] at ec em
    obtain ⟨σ', τ', e1, e2, e3⟩ := refuse_ok hC hR (k := 5) (v := 5) rfl (by decide)
    exact Or.inl ⟨isRow_ok hj, σ', τ', ec.trans e1, em.trans e2, e3⟩
section
variable {V : VT} {σ τ : ST}
theorem fitD_c (ok : okV V) (h : VC V σ) {j n : Nat} {g : Nat → Nat} {v : Nat → Bool} (hj : j < 6) (hn : n ≤ 8) (hs : σ.2.2 3 j = nI (2 * n)) (hp : prs V (σ.2.2 (4 + j)) n g v) {k : Nat} (hk : k < 7) :
    ∀ (m fu i : Nat), i + m = n → m < fu → fitA (fun i => wop V (g i) (pc7 (g i) + if (g i).testBit k then 1 else 0) (V 0 1)) v i = true → M_X6_fitsDouble_2 σ fu (nI j) (nI k) (nI (2 * i)) = some (b01 (fitA (fun i => wop V (g i) (pc7 (g i) + if (g i).testBit k then 1 else 0) (V 0 1)) v n))
  | 0, fu + 1, i, h1, _, hf => by
    unfold M_X6_fitsDouble_2
    rw [szOf_r hj, Option.bind_some, hs, nI_1, if_pos (nI_le (by omega) (by omega)), show n = i by omega, hf]; rfl
  | m + 1, fu + 1, i, h1, h2, hf => by
    have h128 := p2h ok
    have hd := ok.2.1
    obtain ⟨x1, x2, x3⟩ := hp i (by omega)
    have hpc := pc7_le (g i)
    unfold M_X6_fitsDouble_2
    rw [szOf_r hj, Option.bind_some, hs, nI_1, if_neg (nI_ge (by omega) (by omega)), get_r hj hs (by omega) (by omega), Option.bind_some, x2, bitc_all _ (by omega), Option.bind_some, isIn_c (by omega) (by omega), Option.bind_some]
    have key : (if b01 ((g i).testBit k) = 0 then M_X6_fitsDouble_46 σ (M_X6_fitsDouble_2 σ fu) (nI j) (nI k) (nI (2 * i)) (nI (g i)) (nI (pc7 (g i))) 0 else M_X6_fitsDouble_46 σ (M_X6_fitsDouble_2 σ fu) (nI j) (nI k) (nI (2 * i)) (nI (g i)) (nI (pc7 (g i))) 1) = if wop V (g i) (pc7 (g i) + if (g i).testBit k then 1 else 0) (V 0 1) = v i then M_X6_fitsDouble_2 σ fu (nI j) (nI k) (nI (2 * (i + 1))) else okZ 0 := by
      have k46 : ∀ y : Nat, y ≤ 1 → M_X6_fitsDouble_46 σ (M_X6_fitsDouble_2 σ fu) (nI j) (nI k) (nI (2 * i)) (nI (g i)) (nI (pc7 (g i))) (nI y) = if wop V (g i) (pc7 (g i) + y) (V 0 1) = v i then M_X6_fitsDouble_2 σ fu (nI j) (nI k) (nI (2 * (i + 1))) else okZ 0 := by
        intro y hy
        unfold M_X6_fitsDouble_46 M_X6_fitsDouble_90
        rw [nI_add, h.2.1, would_c ok h (by omega) (by omega) (by omega), Option.bind_some, nI_1, get_r hj hs (by omega) (by omega), Option.bind_some, x3, show (2 : Int32) = nI 2 from rfl, nI_add, show 2 * i + 2 = 2 * (i + 1) by omega]
        cases v i <;> cases wop V (g i) (pc7 (g i) + y) (V 0 1) <;> rfl
      cases (g i).testBit k
      · exact k46 0 (by omega)
      · exact k46 1 (by omega)
    rw [key]
    by_cases z : wop V (g i) (pc7 (g i) + if (g i).testBit k then 1 else 0) (V 0 1) = v i
    · rw [if_pos z]
      exact fitD_c ok h hj hn hs hp hk m fu (i + 1) (by omega) (by omega) (by show (fitA _ v i && (_ == v i)) = true; rw [hf, Bool.true_and]; exact beq_iff_eq.mpr z)
    · rw [if_neg z, fitA_f (i := i + 1) (by show (fitA _ v i && (_ == v i)) = false; rw [hf, Bool.true_and]; exact beq_eq_false_iff_ne.mpr z) n (by omega)]; rfl
end
def twF (V : VT) (g : Nat → Nat) (k i : Nat) : Bool := wop V (g i) (pc7 (g i) + if (g i).testBit k then 1 else 0) (V 0 1)
section
variable {V : VT} {σ τ : ST}
theorem fitD_m (ok : okV V) (h : VM V τ) (h0 : 0 < V 0 0) {j n : Nat} {g : Nat → Nat} {v : Nat → Bool} (hj : j < 6) (hn : n ≤ 8) (hs : τ.2.2 5 j = nI (2 * n)) (hp : prs V (fun i => τ.2.2 6 (40 * j + i)) n g v) {k : Nat} (hk : k < 7) (k26 : ST → Int32 → Int32 → Int32 → Option (Int32 × ST)) (x3 : Int32) :
    ∀ (m fu i : Nat), i + m = n → m < fu → M_X7_twice_44 k26 fu τ (nI j) x3 (nI k) (b01 (fitA (twF V g k) v i)) (nI (40 * j + 2 * i)) = if fitA (twF V g k) v n = false then k26 τ (nI j) (x3 ||| 0) (nI k + 1) else k26 τ (nI j) (x3 ||| ((1 : Int32) <<< (nI k &&& 31))) (nI k + 1)
  | 0, fu + 1, i, h1, _ => by
    unfold M_X7_twice_44
    rw [rd_n _ hj (by decide), Option.bind_some, hs, ix40, if_pos (nI_le (by omega) (by omega)), show n = i by omega]
    cases fitA (twF V g k) v i <;> rfl
  | m + 1, fu + 1, i, h1, h2 => by
    have h128 := p2h ok
    have hd := ok.2.1
    obtain ⟨x1, x2, x3'⟩ : g i < 2 ^ V 0 0 ∧ τ.2.2 6 (40 * j + 2 * i) = nI (g i) ∧ τ.2.2 6 (40 * j + (2 * i + 1)) = b01 (v i) := hp i (by omega)
    have hpc := pc7_le (g i)
    unfold M_X7_twice_44
    rw [rd_n _ hj (by decide), Option.bind_some, hs, ix40, if_neg (nI_ge (by omega) (by omega)), rd_n _ (by omega) (by decide), Option.bind_some, x2, bits_all _ (by omega), Option.bind_some, Option.bind_some, has_m (by omega) (by omega), Option.bind_some]
    have k90 : ∀ y : Nat, y ≤ 1 → M_X7_twice_90 k26 (M_X7_twice_44 k26 fu) τ (nI j) x3 (nI k) (b01 (fitA (twF V g k) v i)) (nI (40 * j + 2 * i)) (nI (pc7 (g i))) (nI y) = M_X7_twice_44 k26 fu τ (nI j) x3 (nI k) (b01 (fitA (twF V g k) v i && (wop V (g i) (pc7 (g i) + y) (V 0 1) == v i))) (nI (40 * j + 2 * (i + 1))) := by
      intro y hy
      unfold M_X7_twice_90 M_X7_twice_125 M_X7_twice_126 M_X7_twice_144 wop
      rw [nI_add, h.2.1, nI_1, rd_n _ (by omega) (by decide), rd_n _ (by omega) (by decide), show 40 * j + 2 * i + 1 = 40 * j + (2 * i + 1) by omega, x2, x3', show (2 : Int32) = nI 2 from rfl, nI_add, show 40 * j + 2 * i + 2 = 40 * j + 2 * (i + 1) by omega, Option.bind_some, Option.bind_some, peace_m ok h (by omega), Option.bind_some, decide_eq_true h0]
      by_cases q1 : V 0 1 ≤ pc7 (g i) + y
      · rw [if_neg (nI_nlt q1 (by omega)), decide_eq_true q1]
        cases fitA (twF V g k) v i <;> cases pce V (g i) (V 0 0) <;> cases v i <;> rfl
      · rw [if_pos (nI_lt (by omega) (by omega)), decide_eq_false q1]
        cases fitA (twF V g k) v i <;> cases v i <;> rfl
    have e : (if b01 ((g i).testBit k) = 0 then M_X7_twice_90 k26 (M_X7_twice_44 k26 fu) τ (nI j) x3 (nI k) (b01 (fitA (twF V g k) v i)) (nI (40 * j + 2 * i)) (nI (pc7 (g i))) 0 else M_X7_twice_90 k26 (M_X7_twice_44 k26 fu) τ (nI j) x3 (nI k) (b01 (fitA (twF V g k) v i)) (nI (40 * j + 2 * i)) (nI (pc7 (g i))) 1) = M_X7_twice_44 k26 fu τ (nI j) x3 (nI k) (b01 (fitA (twF V g k) v (i + 1))) (nI (40 * j + 2 * (i + 1))) := by
      show _ = M_X7_twice_44 k26 fu τ (nI j) x3 (nI k) (b01 (fitA (twF V g k) v i && (wop V (g i) (pc7 (g i) + if (g i).testBit k then 1 else 0) (V 0 1) == v i))) (nI (40 * j + 2 * (i + 1)))
      cases (g i).testBit k
      · exact k90 0 (by omega)
      · exact k90 1 (by omega)
    rw [e]
    exact fitD_m ok h h0 hj hn hs hp hk k26 x3 m fu (i + 1) (by omega) (by omega)
theorem twice_l (ok : okV V) (h : VC V σ) (hm : VM V τ) {j n : Nat} {g : Nat → Nat} {v : Nat → Bool} (hj : j < 6) (hn : n ≤ 8) (hs : σ.2.2 3 j = nI (2 * n)) (hp : prs V (σ.2.2 (4 + j)) n g v) (hst : τ.2.2 5 j = nI (2 * n)) (hpt : prs V (fun i => τ.2.2 6 (40 * j + i)) n g v) :
    ∀ (m fu k : Nat) (x3 : Int32), k + m = V 0 0 → m < fu → ∃ r, M_X6_twice_17 fu σ (nI j) x3 (nI k) = some (r, σ) ∧ M_X7_twice_26 fu τ (nI j) x3 (nI k) = some (r, τ)
  | 0, fu + 1, k, x3, h1, _ => by
    refine ⟨x3, ?_, ?_⟩
    · unfold M_X6_twice_17; rw [houses_c h, Option.bind_some, if_pos (nI_le (by omega) (by have := ok.1; omega))]
    · unfold M_X7_twice_26; rw [hm.1, if_pos (nI_le (by omega) (by have := ok.1; omega))]
  | m + 1, fu + 1, k, x3, h1, h2 => by
    have h7 := ok.1
    have ec : M_X6_twice_17 (fu + 1) σ (nI j) x3 (nI k) = if b01 (fitA (twF V g k) v n) = 0 then M_X6_twice_17 fu σ (nI j) x3 (nI (k + 1)) else M_X6_twice_17 fu σ (nI j) (x3 ||| ((1 : Int32) <<< (nI k &&& 31))) (nI (k + 1)) := by
      show (M_X5_houses σ).bind _ = _
      rw [houses_c h, Option.bind_some, if_neg (nI_ge (by omega) (by omega))]
      unfold M_X6_fitsDouble
      rw [show M_X6_fitsDouble_2 σ 10000 (nI j) (nI k) 0 = some (b01 (fitA (twF V g k) v n)) from fitD_c ok h hj hn hs hp (by omega) n 10000 0 (by omega) (by omega) rfl, Option.bind_some, nI_1]
    have em : M_X7_twice_26 (fu + 1) τ (nI j) x3 (nI k) = if fitA (twF V g k) v n = false then M_X7_twice_26 fu τ (nI j) x3 (nI (k + 1)) else M_X7_twice_26 fu τ (nI j) (x3 ||| ((1 : Int32) <<< (nI k &&& 31))) (nI (k + 1)) := by
      show (if _ then _ else _) = _
      rw [hm.1, if_neg (nI_ge (by omega) (by omega)), show (40 : Int32) * nI j = nI (40 * j + 2 * 0) from by rw [show (40 : Int32) = nI 40 from rfl, pk_mul]; rfl]
      rw [show M_X7_twice_44 (M_X7_twice_26 fu) 10000 τ (nI j) x3 (nI k) 1 (nI (40 * j + 2 * 0)) = _ from fitD_m ok hm (by omega) hj hn hst hpt (by omega) (M_X7_twice_26 fu) x3 n 10000 0 (by omega) (by omega), nI_1, Int32.or_zero]
    rw [ec, em]
    cases fitA (twF V g k) v n
    · exact twice_l ok h hm hj hn hs hp hst hpt m fu (k + 1) x3 (by omega) (by omega)
    · exact twice_l ok h hm hj hn hs hp hst hpt m fu (k + 1) _ (by omega) (by omega)
end
theorem pure_twice {Wl : ST → ST → Prop} (hC : Cg Wl) (hV : Vws Wl) : P_twice (RelG Wl) := by
  intro σ τ a hR
  obtain ⟨V, ok, hc, hm⟩ := hV σ τ hR.2.2.2.2.2
  have h7 := ok.1
  rcases pairs_cm hC ok hc hm hR a with ⟨e1, e2⟩ | ⟨e1, σ', τ', e2, e3, e4⟩ | ⟨e1, e2, e3, j, n, g, v, hj, hn, rfl, x1, x2, x3, x4⟩
  · exact ⟨-1, σ, τ, by unfold M_X6_twice; rw [e2, Option.bind_some, if_neg nz1], by unfold M_X7_twice; rw [e1, Option.bind_some, if_pos rfl], hR⟩
  · exact ⟨-3, σ', τ', by unfold M_X6_twice; rw [e2, Option.bind_some, if_neg nz3], by unfold M_X7_twice; rw [e1, Option.bind_some, if_neg n10, e3, Option.bind_some, if_neg nz3], e4⟩
  · obtain ⟨r, u1, u2⟩ := twice_l ok hc hm hj hn x1 x3 x2 x4 (V 0 0) 10000 0 0 (by omega) (by omega)
    exact ⟨r, σ, τ, by unfold M_X6_twice; rw [e2, Option.bind_some, if_pos rfl]; exact u1, by unfold M_X7_twice; rw [e1, Option.bind_some, if_neg n10, e3, Option.bind_some, if_pos rfl]; exact u2, hR⟩
def quF (V : VT) (g : Nat → Nat) (k i : Nat) : Bool := wop V (g i) (wgt V (g i) (V 0 0)) k
section
variable {V : VT} {σ τ : ST}
theorem fitN_c (ok : okV V) (h : VC V σ) {j n : Nat} {g : Nat → Nat} {v : Nat → Bool} (hj : j < 6) (hn : n ≤ 8) (hs : σ.2.2 3 j = nI (2 * n)) (hp : prs V (σ.2.2 (4 + j)) n g v) {k : Nat} (hk : k < 10) :
    ∀ (m fu i : Nat), i + m = n → m < fu → fitA (quF V g k) v i = true → M_X6_fitsNeed_2 σ fu (nI j) (nI k) (nI (2 * i)) = some (b01 (fitA (quF V g k) v n))
  | 0, fu + 1, i, h1, _, hf => by
    unfold M_X6_fitsNeed_2
    rw [szOf_r hj, Option.bind_some, hs, nI_1, if_pos (nI_le (by omega) (by omega)), show n = i by omega, hf]; rfl
  | m + 1, fu + 1, i, h1, h2, hf => by
    have h128 := p2h ok
    have h7 := ok.1
    obtain ⟨x1, x2, x3⟩ := hp i (by omega)
    have hw := wgt_le (V := V) (g i) (V 0 0)
    unfold M_X6_fitsNeed_2 M_X6_fitsNeed_66
    rw [szOf_r hj, Option.bind_some, hs, nI_1, if_neg (nI_ge (by omega) (by omega)), get_r hj hs (by omega) (by omega), Option.bind_some, x2, weightOf_c ok h (by omega), Option.bind_some, would_c ok h (by omega) (by omega) (by omega), Option.bind_some, get_r hj hs (by omega) (by omega), Option.bind_some, x3, show (2 : Int32) = nI 2 from rfl, nI_add, show 2 * i + 2 = 2 * (i + 1) by omega]
    have key : (if b01 (v i) = 1 then if b01 (wop V (g i) (wgt V (g i) (V 0 0)) k) = 1 then M_X6_fitsNeed_2 σ fu (nI j) (nI k) (nI (2 * (i + 1))) else okZ 0 else if b01 (wop V (g i) (wgt V (g i) (V 0 0)) k) = 0 then M_X6_fitsNeed_2 σ fu (nI j) (nI k) (nI (2 * (i + 1))) else okZ 0) = if quF V g k i = v i then M_X6_fitsNeed_2 σ fu (nI j) (nI k) (nI (2 * (i + 1))) else okZ 0 := by
      show _ = if wop V (g i) (wgt V (g i) (V 0 0)) k = v i then _ else _
      cases v i <;> cases wop V (g i) (wgt V (g i) (V 0 0)) k <;> rfl
    rw [key]
    by_cases z : quF V g k i = v i
    · rw [if_pos z]
      exact fitN_c ok h hj hn hs hp hk m fu (i + 1) (by omega) (by omega) (by show (fitA _ v i && (_ == v i)) = true; rw [hf, Bool.true_and]; exact beq_iff_eq.mpr z)
    · rw [if_neg z, fitA_f (i := i + 1) (by show (fitA _ v i && (_ == v i)) = false; rw [hf, Bool.true_and]; exact beq_eq_false_iff_ne.mpr z) n (by omega)]; rfl
theorem fitN_m (ok : okV V) (h : VM V τ) {j n : Nat} {g : Nat → Nat} {v : Nat → Bool} (hj : j < 6) (hn : n ≤ 8) (hs : τ.2.2 5 j = nI (2 * n)) (hp : prs V (fun i => τ.2.2 6 (40 * j + i)) n g v) {k : Nat} (hk : k < 10) (k26 : ST → Int32 → Int32 → Int32 → Option (Int32 × ST)) (x3 : Int32) :
    ∀ (m fu i : Nat), i + m = n → m < fu → M_X7_quorum_42 k26 fu τ (nI j) x3 (nI k) (b01 (fitA (quF V g k) v i)) (nI (40 * j + 2 * i)) = if fitA (quF V g k) v n = false then k26 τ (nI j) (x3 ||| 0) (nI k + 1) else k26 τ (nI j) (x3 ||| ((1 : Int32) <<< (nI k &&& 31))) (nI k + 1)
  | 0, fu + 1, i, h1, _ => by
    unfold M_X7_quorum_42
    rw [rd_n _ hj (by decide), Option.bind_some, hs, ix40, if_pos (nI_le (by omega) (by omega)), show n = i by omega]
    cases fitA (quF V g k) v i <;> rfl
  | m + 1, fu + 1, i, h1, h2 => by
    have h128 := p2h ok
    have h7 := ok.1
    obtain ⟨x1, x2, x3'⟩ : g i < 2 ^ V 0 0 ∧ τ.2.2 6 (40 * j + 2 * i) = nI (g i) ∧ τ.2.2 6 (40 * j + (2 * i + 1)) = b01 (v i) := hp i (by omega)
    have hw := wgt_le (V := V) (g i) (V 0 0)
    have k100 : ∀ b, M_X7_quorum_100 k26 (M_X7_quorum_42 k26 fu) τ (nI j) x3 (nI k) (b01 (fitA (quF V g k) v i)) (nI (40 * j + 2 * i)) (b01 b) = M_X7_quorum_42 k26 fu τ (nI j) x3 (nI k) (b01 (fitA (quF V g k) v i && (b == v i))) (nI (40 * j + 2 * (i + 1))) := by
      intro b
      unfold M_X7_quorum_100 M_X7_quorum_127
      rw [nI_1, rd_n _ (by omega) (by decide), show 40 * j + 2 * i + 1 = 40 * j + (2 * i + 1) by omega, x3', show (2 : Int32) = nI 2 from rfl, nI_add, show 40 * j + 2 * i + 2 = 40 * j + 2 * (i + 1) by omega, Option.bind_some]
      cases fitA (quF V g k) v i <;> cases b <;> cases v i <;> rfl
    have e : M_X7_quorum_42 k26 (fu + 1) τ (nI j) x3 (nI k) (b01 (fitA (quF V g k) v i)) (nI (40 * j + 2 * i)) = M_X7_quorum_42 k26 fu τ (nI j) x3 (nI k) (b01 (fitA (quF V g k) v (i + 1))) (nI (40 * j + 2 * (i + 1))) := by
      show _ = M_X7_quorum_42 k26 fu τ (nI j) x3 (nI k) (b01 (fitA (quF V g k) v i && (wop V (g i) (wgt V (g i) (V 0 0)) k == v i))) (nI (40 * j + 2 * (i + 1)))
      rw [← k100]
      show (rd 6 (τ.2.2 5) (nI j)).bind _ = _
      unfold M_X7_quorum_99 wop
      rw [rd_n _ hj (by decide), Option.bind_some, hs, ix40, if_neg (nI_ge (by omega) (by omega)), h.1]
      rcases Nat.eq_zero_or_pos (V 0 0) with q0 | q0
      · rw [q0, if_pos (by decide), decide_eq_false (by omega)]; rfl
      · rw [if_neg (nI_nle q0 (by omega)), decide_eq_true q0, Bool.true_and, rd_n _ (by omega) (by decide), Option.bind_some, x2, weightOf_m ok h (by omega), Option.bind_some, Option.bind_some, peace_m ok h (by omega), Option.bind_some]
        by_cases q1 : k ≤ wgt V (g i) (V 0 0)
        · rw [if_neg (nI_nlt q1 (by omega)), decide_eq_true q1, Bool.true_and]
          cases pce V (g i) (V 0 0) <;> rfl
        · rw [if_pos (nI_lt (by omega) (by omega)), decide_eq_false q1, Bool.false_and]; rfl
    rw [e]
    exact fitN_m ok h hj hn hs hp hk k26 x3 m fu (i + 1) (by omega) (by omega)
theorem quorum_l (ok : okV V) (h : VC V σ) (hm : VM V τ) {j n : Nat} {g : Nat → Nat} {v : Nat → Bool} (hj : j < 6) (hn : n ≤ 8) (hs : σ.2.2 3 j = nI (2 * n)) (hp : prs V (σ.2.2 (4 + j)) n g v) (hst : τ.2.2 5 j = nI (2 * n)) (hpt : prs V (fun i => τ.2.2 6 (40 * j + i)) n g v) :
    ∀ (m fu k : Nat) (x3 : Int32), k + m = 10 → m < fu → ∃ r, M_X6_quorum_17 fu σ (nI j) x3 (nI k) = some (r, σ) ∧ M_X7_quorum_26 fu τ (nI j) x3 (nI k) = some (r, τ)
  | 0, fu + 1, k, x3, h1, _ => by
    obtain rfl : k = 10 := by omega
    exact ⟨x3, by unfold M_X6_quorum_17; rw [if_pos (by decide)], by unfold M_X7_quorum_26; rw [if_pos (by decide)]⟩
  | m + 1, fu + 1, k, x3, h1, h2 => by
    have ec : M_X6_quorum_17 (fu + 1) σ (nI j) x3 (nI k) = if b01 (fitA (quF V g k) v n) = 0 then M_X6_quorum_17 fu σ (nI j) x3 (nI (k + 1)) else M_X6_quorum_17 fu σ (nI j) (x3 ||| ((1 : Int32) <<< (nI k &&& 31))) (nI (k + 1)) := by
      show (if _ then _ else _) = _
      rw [if_neg (ng 9 9 rfl (show k ≤ 9 by omega) (by decide))]
      unfold M_X6_fitsNeed
      rw [show M_X6_fitsNeed_2 σ 10000 (nI j) (nI k) 0 = some (b01 (fitA (quF V g k) v n)) from fitN_c ok h hj hn hs hp (by omega) n 10000 0 (by omega) (by omega) rfl, Option.bind_some, nI_1]
    have em : M_X7_quorum_26 (fu + 1) τ (nI j) x3 (nI k) = if fitA (quF V g k) v n = false then M_X7_quorum_26 fu τ (nI j) x3 (nI (k + 1)) else M_X7_quorum_26 fu τ (nI j) (x3 ||| ((1 : Int32) <<< (nI k &&& 31))) (nI (k + 1)) := by
      show (if _ then _ else _) = _
      rw [if_neg (nl 10 10 rfl (show k < 10 by omega) (by decide)), show (40 : Int32) * nI j = nI (40 * j + 2 * 0) from by rw [show (40 : Int32) = nI 40 from rfl, pk_mul]; rfl]
      rw [show M_X7_quorum_42 (M_X7_quorum_26 fu) 10000 τ (nI j) x3 (nI k) 1 (nI (40 * j + 2 * 0)) = _ from fitN_m ok hm hj hn hst hpt (by omega) (M_X7_quorum_26 fu) x3 n 10000 0 (by omega) (by omega), nI_1, Int32.or_zero]
    rw [ec, em]
    cases fitA (quF V g k) v n
    · exact quorum_l ok h hm hj hn hs hp hst hpt m fu (k + 1) x3 (by omega) (by omega)
    · exact quorum_l ok h hm hj hn hs hp hst hpt m fu (k + 1) _ (by omega) (by omega)
end
theorem pure_quorum {Wl : ST → ST → Prop} (hC : Cg Wl) (hV : Vws Wl) : P_quorum (RelG Wl) := by
  intro σ τ a hR
  obtain ⟨V, ok, hc, hm⟩ := hV σ τ hR.2.2.2.2.2
  rcases pairs_cm hC ok hc hm hR a with ⟨e1, e2⟩ | ⟨e1, σ', τ', e2, e3, e4⟩ | ⟨e1, e2, e3, j, n, g, v, hj, hn, rfl, x1, x2, x3, x4⟩
  · exact ⟨-1, σ, τ, by unfold M_X6_quorum; rw [e2, Option.bind_some, if_neg nz1], by unfold M_X7_quorum; rw [e1, Option.bind_some, if_pos rfl], hR⟩
  · exact ⟨-3, σ', τ', by unfold M_X6_quorum; rw [e2, Option.bind_some, if_neg nz3], by unfold M_X7_quorum; rw [e1, Option.bind_some, if_neg n10, e3, Option.bind_some, if_neg nz3], e4⟩
  · obtain ⟨r, u1, u2⟩ := quorum_l ok hc hm hj hn x1 x3 x2 x4 9 10000 1 0 (by omega) (by omega)
    exact ⟨r, σ, τ, by unfold M_X6_quorum; rw [e2, Option.bind_some, if_pos rfl]; exact u1, by unfold M_X7_quorum; rw [e1, Option.bind_some, if_neg n10, e3, Option.bind_some, if_pos rfl]; exact u2, hR⟩
