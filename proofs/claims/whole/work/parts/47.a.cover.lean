/- covers -/
def dm (l s : Nat) : Nat := l &&& (127 ^^^ s)
theorem dm_le (l s : Nat) : dm l s ≤ l := Nat.and_le_left
theorem dm_c (l s t : Nat) : dm (dm l s) t = dm (dm l t) s := by
  unfold dm; rw [Nat.and_assoc, Nat.and_comm (127 ^^^ s), ← Nat.and_assoc]
theorem dm_i (l s : Nat) : dm (dm l s) s = dm l s := by
  unfold dm; rw [Nat.and_assoc, Nat.and_self]
theorem b7 {l b : Nat} (hl : l < 128) (hb : 7 ≤ b) : l.testBit b = false := Nat.testBit_lt_two_pow (Nat.lt_of_lt_of_le hl (Nat.pow_le_pow_right (n := 2) (i := 7) (by decide) hb))
theorem dm_bit {l : Nat} (s : Nat) (hl : l < 128) (b : Nat) : (dm l s).testBit b = (l.testBit b && !s.testBit b) := by
  unfold dm
  rw [Nat.testBit_and, Nat.testBit_xor, show (127 : Nat) = 2 ^ 7 - 1 from rfl, Nat.testBit_two_pow_sub_one]
  by_cases q : b < 7
  · rw [decide_eq_true q]; cases s.testBit b <;> rfl
  · rw [b7 hl (by omega)]; rfl
theorem nx_dm {l : Nat} (s : Nat) (hl : l < 128) : nI l &&& (nI s ^^^ (-1)) = nI (dm l s) := by
  apply Int32.toBitVec_inj.1
  show BitVec.ofNat 32 l &&& (BitVec.ofNat 32 s ^^^ (-1 : Int32).toBitVec) = BitVec.ofNat 32 (dm l s)
  rw [show (-1 : Int32).toBitVec = BitVec.allOnes 32 from by decide]
  apply BitVec.eq_of_getLsbD_eq
  intro i hi
  rw [BitVec.getLsbD_and, BitVec.getLsbD_xor, BitVec.getLsbD_ofNat, BitVec.getLsbD_ofNat, BitVec.getLsbD_ofNat, BitVec.getLsbD_allOnes, decide_eq_true hi, Bool.true_and, Bool.true_and, Bool.true_and, dm_bit s hl]
  cases s.testBit i <;> rfl
theorem dm_lt {l s b : Nat} (hl : l < 128) (h1 : l.testBit b = true) (h2 : s.testBit b = true) : dm l s < l := by
  have h3 := dm_le l s
  rcases Nat.lt_or_ge (dm l s) l with q | q
  · exact q
  · have e : dm l s = l := by omega
    have := dm_bit s hl b
    rw [e, h1, h2] at this
    cases this
def cv (P : Nat → Bool) (N : Nat) : Nat → Nat → Prop
  | 0, l => l = 0
  | m + 1, l => l = 0 ∨ ∃ s, s < N ∧ P s = true ∧ cv P N m (dm l s)
def pge (P : Nat → Bool) (c s : Nat) : Bool := decide (c ≤ s) && P s
theorem pge_e {P : Nat → Bool} {c s : Nat} : pge P c s = true ↔ c ≤ s ∧ P s = true := by
  unfold pge; rw [Bool.and_eq_true, decide_eq_true_eq]
section CVS
variable {P : Nat → Bool} {N : Nat}
theorem cv_z : ∀ m, cv P N m 0
  | 0 => rfl
  | _ + 1 => Or.inl rfl
theorem cv_1 : ∀ m l, cv P N m l → cv P N (m + 1) l
  | 0, _, h => Or.inl h
  | m + 1, _, h => by
    rcases h with h | ⟨s, h1, h2, h3⟩
    · exact Or.inl h
    · exact Or.inr ⟨s, h1, h2, cv_1 m _ h3⟩
theorem cv_m {m l : Nat} (h : cv P N m l) : ∀ d, cv P N (m + d) l
  | 0 => h
  | d + 1 => cv_1 _ _ (cv_m h d)
theorem cv_le {m m' l : Nat} (h : cv P N m l) (hm : m ≤ m') : cv P N m' l := by
  have := cv_m h (m' - m)
  rwa [show m + (m' - m) = m' by omega] at this
theorem cv_P {Q : Nat → Bool} (hPQ : ∀ s, P s = true → Q s = true) : ∀ m l, cv P N m l → cv Q N m l
  | 0, _, h => h
  | m + 1, _, h => by
    rcases h with h | ⟨s, h1, h2, h3⟩
    · exact Or.inl h
    · exact Or.inr ⟨s, h1, hPQ s h2, cv_P hPQ m _ h3⟩
theorem cv_pick : ∀ m l b, l < 128 → l.testBit b = true → cv P N m l → ∃ m', m = m' + 1 ∧ ∃ s, s < N ∧ P s = true ∧ s.testBit b = true ∧ cv P N m' (dm l s)
  | 0, l, b, _, hb, h => by
    have h : l = 0 := h
    rw [h, Nat.zero_testBit] at hb; cases hb
  | m + 1, l, b, hl, hb, h => by
    rcases h with h | ⟨t, ht, hP, hc⟩
    · rw [h, Nat.zero_testBit] at hb; cases hb
    · cases hb2 : t.testBit b with
      | true => exact ⟨m, rfl, t, ht, hP, hb2, hc⟩
      | false =>
        have hd := dm_bit t hl b
        rw [hb, hb2] at hd
        obtain ⟨m', rfl, s, hs, hPs, hsb, hcs⟩ := cv_pick m (dm l t) b (Nat.lt_of_le_of_lt (dm_le l t) hl) hd hc
        rw [dm_c] at hcs
        exact ⟨m' + 1, rfl, s, hs, hPs, hsb, Or.inr ⟨t, ht, hP, hcs⟩⟩
theorem bit_low {l k : Nat} (h : l < 2 ^ (k + 1)) (hb : l.testBit k = false) : l < 2 ^ k := by
  rw [Nat.testBit_eq_decide_div_mod_eq] at hb
  have hb := of_decide_eq_false hb
  rw [Nat.pow_succ] at h
  have h1 : l / 2 ^ k < 2 := Nat.div_lt_of_lt_mul h
  have h2 : l / 2 ^ k = 0 := by
    clear h
    generalize l / 2 ^ k = x at hb h1 ⊢
    omega
  exact Nat.lt_of_div_eq_zero (Nat.two_pow_pos k) h2
theorem cv_small : ∀ k m l, k ≤ 7 → l < 2 ^ k → cv P N m l → cv P N k l
  | 0, m, l, _, h, _ => by rw [Nat.pow_zero] at h; show l = 0; omega
  | k + 1, m, l, hk, h, hc => by
    have h128 : l < 128 := Nat.lt_of_lt_of_le h (Nat.pow_le_pow_right (n := 2) (j := 7) (by decide) hk)
    cases hb : l.testBit k with
    | false => exact cv_1 _ _ (cv_small k m l (by omega) (bit_low h hb) hc)
    | true =>
      obtain ⟨m', rfl, s, hs, hP, hsb, hcs⟩ := cv_pick m l k h128 hb hc
      have hd := dm_bit s h128 k
      rw [hb, hsb] at hd
      exact Or.inr ⟨s, hs, hP, cv_small k m' _ (by omega) (bit_low (Nat.lt_of_le_of_lt (dm_le l s) h) hd) hcs⟩
theorem cv_split (c : Nat) : ∀ m l, cv (pge P c) N m l → cv (pge P (c + 1)) N m l ∨ ∃ m', m = m' + 1 ∧ c < N ∧ P c = true ∧ cv (pge P (c + 1)) N m' (dm l c)
  | 0, _, h => Or.inl h
  | m + 1, l, h => by
    rcases h with h | ⟨s, hs, hP, hc⟩
    · exact Or.inl (Or.inl h)
    · obtain ⟨hcs, hPs⟩ := pge_e.mp hP
      by_cases e : s = c
      · subst e
        refine Or.inr ⟨m, rfl, hs, hPs, ?_⟩
        rcases cv_split s m _ hc with u | ⟨m', rfl, -, -, u⟩
        · exact u
        · rw [dm_i] at u
          exact cv_1 _ _ u
      · have hP1 : pge P (c + 1) s = true := pge_e.mpr ⟨by omega, hPs⟩
        rcases cv_split c m _ hc with u | ⟨m', rfl, h1, h2, u⟩
        · exact Or.inl (Or.inr ⟨s, hs, hP1, u⟩)
        · rw [dm_c] at u
          exact Or.inr ⟨m' + 1, rfl, h1, h2, Or.inr ⟨s, hs, hP1, u⟩⟩
theorem cv_ge {c m l : Nat} (h : cv (pge P (c + 1)) N m l) : cv (pge P c) N m l := cv_P (fun s hs => by
  obtain ⟨h1, h2⟩ := pge_e.mp hs
  exact pge_e.mpr ⟨by omega, h2⟩) _ _ h
theorem cv_all {c m l : Nat} (h : cv (pge P c) N m l) : cv P N m l := cv_P (fun s hs => (pge_e.mp hs).2) _ _ h
theorem cv_0 {m l : Nat} (h : cv P N m l) : cv (pge P 0) N m l := cv_P (fun s hs => pge_e.mpr ⟨Nat.zero_le _, hs⟩) _ _ h
/- the reference's number -/
def RV (P : Nat → Bool) (N c l v : Nat) : Prop := v ≤ 99 ∧ ∀ m, m < 99 → (v ≤ m ↔ cv (pge P c) N m l)
theorem RV_128 (hN : N ≤ 128) (l : Nat) : RV P N 128 l (if l = 0 then 0 else 99) := by
  by_cases q : l = 0
  · rw [if_pos q, q]
    exact ⟨by omega, fun m hm => ⟨fun _ => cv_z m, fun _ => Nat.zero_le _⟩⟩
  · rw [if_neg q]
    refine ⟨Nat.le_refl _, fun m hm => ⟨fun z => by omega, fun z => ?_⟩⟩
    cases m with
    | zero => exact absurd z q
    | succ m =>
      rcases z with z | ⟨s, hs, hP, -⟩
      · exact absurd z q
      · have := (pge_e.mp hP).1
        omega
theorem RV_step {c l v1 v2 y : Nat} (h1 : RV P N (c + 1) l v1) (h2 : RV P N (c + 1) (dm l c) v2) (hy : (c < N ∧ P c = true ∧ y = 1 + v2) ∨ (¬ (c < N ∧ P c = true) ∧ y = 99)) : RV P N c l (if v1 ≤ y then v1 else y) := by
  have hv : (if v1 ≤ y then v1 else y) ≤ v1 ∧ (if v1 ≤ y then v1 else y) ≤ y ∧ ((if v1 ≤ y then v1 else y) = v1 ∨ (if v1 ≤ y then v1 else y) = y) := by split <;> omega
  generalize (if v1 ≤ y then v1 else y) = v at hv
  refine ⟨by have := h1.1; omega, fun m hm => ⟨fun z => ?_, fun z => ?_⟩⟩
  · by_cases q : v1 ≤ m
    · exact cv_ge ((h1.2 m hm).mp q)
    · have ym : y ≤ m := by omega
      rcases hy with ⟨a1, a2, a3⟩ | ⟨-, a3⟩
      · obtain ⟨m', rfl⟩ : ∃ m', m = m' + 1 := ⟨m - 1, by omega⟩
        exact Or.inr ⟨c, a1, pge_e.mpr ⟨Nat.le_refl _, a2⟩, cv_ge ((h2.2 m' (by omega)).mp (by omega))⟩
      · omega
  · rcases cv_split c m l z with u | ⟨m', rfl, a1, a2, u⟩
    · have := (h1.2 m hm).mpr u
      omega
    · have := (h2.2 m' (by omega)).mpr u
      rcases hy with ⟨-, -, a3⟩ | ⟨a3, -⟩
      · omega
      · exact absurd ⟨a1, a2⟩ a3
/- the class's number -/
def TV (P : Nat → Bool) (N l : Nat) (v : Int32) : Prop := (v = -9 ∧ ∀ m, ¬ cv P N m l) ∨ ∃ m, m ≤ 7 ∧ v = nI m ∧ cv P N m l ∧ ∀ m', cv P N m' l → m ≤ m'
/- the least set that helps -/
def LH (P : Nat → Bool) (N m l s : Nat) : Prop := s < N ∧ P s = true ∧ cv P N m (dm l s) ∧ ∀ t, t < s → P t = true → ¬ cv P N m (dm l t)
theorem LH_ex {m l : Nat} (h : cv P N (m + 1) l) (h0 : ¬ cv P N m l) : ∃ s, LH P N m l s := by
  rcases h with h | ⟨s, h1, h2, h3⟩
  · exact absurd (h ▸ cv_z m) h0
  · obtain ⟨s0, ⟨a1, a2, a3⟩, a4⟩ := pk_least (fun s => s < N ∧ P s = true ∧ cv P N m (dm l s)) ⟨s, h1, h2, h3⟩
    exact ⟨s0, a1, a2, a3, fun t ht hP hc => a4 t ht ⟨by omega, hP, hc⟩⟩
theorem LH_ge {m l s : Nat} (h : LH P N m l s) (h0 : ¬ cv P N m l) : ∀ c, c ≤ s + 1 → cv (pge P c) N m (dm l s)
  | 0, _ => cv_0 h.2.2.1
  | c + 1, hc => by
    rcases cv_split c m _ (LH_ge h h0 c (by omega)) with u | ⟨m', rfl, a1, a2, u⟩
    · exact u
    · have u := cv_all u
      by_cases e : c = s
      · subst e
        rw [dm_i] at u
        exact absurd (Or.inr ⟨c, a1, a2, u⟩) h0
      · rw [dm_c] at u
        exact absurd (Or.inr ⟨s, h.1, h.2.1, u⟩) (h.2.2.2 c (by omega) a2)
theorem LH_next {m l s s' : Nat} (h : LH P N (m + 1) l s) (h0 : ¬ cv P N (m + 1) l) (h' : LH P N m (dm l s) s') : s < s' := by
  rcases Nat.lt_trichotomy s s' with q | q | q
  · exact q
  · subst q
    have := h'.2.2.1
    rw [dm_i] at this
    exact absurd (Or.inr ⟨s, h.1, h.2.1, this⟩) h0
  · have := h'.2.2.1
    rw [dm_c] at this
    exact absurd (Or.inr ⟨s, h.1, h.2.1, this⟩) (h.2.2.2 s' q h'.2.1)
end CVS
