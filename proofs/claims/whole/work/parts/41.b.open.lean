/-! open, wants, sets, houses -/
section VO
variable {V : VT} {σ τ σ' τ' : ST}
theorem VC.cg (h : VC V σ) (hs : same fWc σ σ') : VC V σ' := by
  unfold VC
  rw [hs.1 33 (by decide), hs.1 30 (by decide), hs.1 36 (by decide), hs.1 35 (by decide), hs.2.2 24 (by decide), hs.2.2 25 (by decide), hs.2.2 26 (by decide), hs.2.2 29 (by decide), hs.2.2 30 (by decide)]
  exact h
theorem VM.cg (h : VM V τ) (hs : same fWm τ τ') : VM V τ' := by
  unfold VM
  rw [hs.1 3 (by decide), hs.1 1 (by decide), hs.2.2 1 (by decide), hs.2.2 2 (by decide), hs.2.2 3 (by decide), hs.2.2 4 (by decide)]
  exact h
theorem wants_c (ok : okV V) (h : VC V σ) {i : Nat} (hi : i < V 0 0) : M_X0_wants σ (nI i) = some (nI (wn V i)) := by
  obtain ⟨k1, k2, k3, k4, k5⟩ := ok.2.2.2.2 i hi
  obtain ⟨c1, c2, c3, c4, c5⟩ := h.2.2.2.2 i hi
  have o1 := ok.1
  unfold M_X0_wants wn
  rw [rd_n _ (by omega) (by decide), Option.bind_some, c1, rd_n _ (by omega) (by decide), Option.bind_some, c2, Option.bind_some]
  by_cases q5 : V 1 i = 5
  · rw [if_pos ((nI_is 5 5 rfl (by omega) (by decide)).mpr q5), if_pos q5]; rfl
  · rw [if_neg (fun z => q5 ((nI_is 5 5 rfl (by omega) (by decide)).mp z)), if_neg q5, Option.bind_some]
    by_cases q4 : V 1 i = 4
    · rw [if_pos ((nI_is 4 4 rfl (by omega) (by decide)).mpr q4), if_pos q4, show (2 : Int32) = nI 2 from rfl, pk_div (by omega) (by decide) (by decide)]
    · rw [if_neg (fun z => q4 ((nI_is 4 4 rfl (by omega) (by decide)).mp z)), if_neg q4]
theorem wants_m (ok : okV V) (h : VM V τ) {i : Nat} (hi : i < V 0 0) : M_X7_wants τ (nI i) = some (nI (wn V i)) := by
  obtain ⟨k1, k2, k3, k4, k5⟩ := ok.2.2.2.2 i hi
  obtain ⟨c1, c2, c3, c4, c5⟩ := h.2.2.2.2 i hi
  have o1 := ok.1
  unfold M_X7_wants wn
  rw [rd_n _ (by omega) (by decide), Option.bind_some, c1, rd_n _ (by omega) (by decide), Option.bind_some, c2, Option.bind_some]
  by_cases q5 : V 1 i = 5
  · rw [if_pos ((nI_is 5 5 rfl (by omega) (by decide)).mpr q5), if_pos q5]; rfl
  · rw [if_neg (fun z => q5 ((nI_is 5 5 rfl (by omega) (by decide)).mp z)), if_neg q5, Option.bind_some]
    by_cases q4 : V 1 i = 4
    · rw [if_pos ((nI_is 4 4 rfl (by omega) (by decide)).mpr q4), if_pos q4, show (2 : Int32) = nI 2 from rfl, pk_div (by omega) (by decide) (by decide)]
    · rw [if_neg (fun z => q4 ((nI_is 4 4 rfl (by omega) (by decide)).mp z)), if_neg q4]
theorem wy_c (ok : okV V) (h : VC V σ) {i : Nat} (hi : i < V 0 0) : M_X5_wantsYet σ (nI i) = some (nI (wy V i)) := by
  obtain ⟨k1, k2, k3, k4, k5⟩ := ok.2.2.2.2 i hi
  obtain ⟨c1, c2, c3, c4, c5⟩ := h.2.2.2.2 i hi
  have o1 := ok.1
  unfold M_X5_wantsYet wy
  rw [wants_c ok h hi, Option.bind_some, rd_n _ (by omega) (by decide), Option.bind_some, c5, pk_sub k5]
theorem wy_m (ok : okV V) (h : VM V τ) {i : Nat} (hi : i < V 0 0) : M_X7_wantsYet τ (nI i) = some (nI (wy V i)) := by
  obtain ⟨k1, k2, k3, k4, k5⟩ := ok.2.2.2.2 i hi
  obtain ⟨c1, c2, c3, c4, c5⟩ := h.2.2.2.2 i hi
  have o1 := ok.1
  unfold M_X7_wantsYet wy
  rw [wants_m ok h hi, Option.bind_some, show (10 : Int32) + nI i = nI (10 + i) from nI_add 10 i, rd_n _ (by omega) (by decide), Option.bind_some, c5, pk_sub k5]
theorem wn_le (ok : okV V) {i : Nat} (hi : i < V 0 0) : wn V i ≤ 9 := by
  obtain ⟨k1, k2, k3, k4, k5⟩ := ok.2.2.2.2 i hi
  unfold wn
  split
  · omega
  · split <;> omega
theorem wy_le (ok : okV V) {i : Nat} (hi : i < V 0 0) : wy V i ≤ 9 := Nat.le_trans (Nat.sub_le _ _) (wn_le ok hi)
theorem open_c (ok : okV V) (h : VC V σ) {s : Nat} (hs : s < 128) : M_X5_isOpenTo σ (nI s) = some (b01 (opn V s)) := by
  have o1 := ok.1
  have o2 := ok.2.1
  unfold M_X5_isOpenTo M_X5_wouldOpen opn
  rw [weightOf_c ok h (by omega), Option.bind_some, h.1, h.2.1]
  have hw := wgt_le (V := V) s (V 0 0)
  rcases Nat.eq_zero_or_pos (V 0 0) with q | q
  · rw [q, if_pos (by decide), decide_eq_false (by omega)]; rfl
  · rw [if_neg (nI_nle q (by omega)), decide_eq_true q]
    by_cases q2 : V 0 1 ≤ wgt V s (V 0 0)
    · rw [if_neg (nI_nlt q2 (by omega)), decide_eq_true q2, peace_c ok h hs, Option.bind_some]
      cases pce V s (V 0 0) <;> rfl
    · rw [if_pos (nI_lt (by omega) (by omega)), decide_eq_false q2]; rfl
theorem open_m (ok : okV V) (h : VM V τ) {s : Nat} (hs : s < 128) : M_X7_isOpen τ (nI s) = some (b01 (opn V s)) := by
  have o1 := ok.1
  have o2 := ok.2.1
  unfold M_X7_isOpen opn
  rw [h.1, h.2.1]
  have hw := wgt_le (V := V) s (V 0 0)
  rcases Nat.eq_zero_or_pos (V 0 0) with q | q
  · rw [q, if_pos (by decide), decide_eq_false (by omega)]; rfl
  · rw [if_neg (nI_nle q (by omega)), weightOf_m ok h (by omega), Option.bind_some, decide_eq_true q]
    by_cases q2 : V 0 1 ≤ wgt V s (V 0 0)
    · rw [if_neg (nI_nlt q2 (by omega)), decide_eq_true q2, peace_m ok h hs, Option.bind_some]
      cases pce V s (V 0 0) <;> rfl
    · rw [if_pos (nI_lt (by omega) (by omega)), decide_eq_false q2]; rfl
theorem shl1 {k : Nat} (h : k < 31) : (1 : Int32) <<< (nI k &&& 31) = nI (2 ^ k) := by
  have := pk_shlN (n := 1) (nI k &&& 31) k (sh_n k (by omega)) (by rw [Nat.one_mul]; exact Nat.pow_lt_pow_right (by decide) (by omega))
  rw [Nat.one_mul] at this
  exact this
theorem p2h (ok : okV V) : 2 ^ V 0 0 ≤ 128 := Nat.pow_le_pow_right (n := 2) (by decide) ok.1
theorem p2p (ok : okV V) : 1 ≤ 2 ^ V 0 0 := Nat.one_le_two_pow
theorem sets_c (ok : okV V) (h : VC V σ) : M_X5_sets σ = some (nI (2 ^ V 0 0)) := by
  have o1 := ok.1
  unfold M_X5_sets
  rw [h.1, shl1 (by omega)]
theorem all_m (ok : okV V) (h : VM V τ) : M_X7_all τ = some (nI (2 ^ V 0 0 - 1)) := by
  have o1 := ok.1
  unfold M_X7_all
  rw [h.1, shl1 (by omega), show (1 : Int32) = nI 1 from rfl, pk_sub Nat.one_le_two_pow]
theorem set_cm (ok : okV V) (h : VC V σ) (hm : VM V τ) (a : Int32) : (M_X5_isSet σ a = some 0 ∧ M_X7_isSet τ a = some 0) ∨ ∃ s, s < 2 ^ V 0 0 ∧ a = nI s ∧ M_X5_isSet σ a = some 1 ∧ M_X7_isSet τ a = some 1 := by
  have h2 := p2h ok
  have h3 := p2p ok
  have e : nI (2 ^ V 0 0 - 1) = nI (2 ^ V 0 0) - 1 := by rw [show (1 : Int32) = nI 1 from rfl, pk_sub h3]
  unfold M_X5_isSet M_X7_isSet
  rw [sets_c ok h, all_m ok hm, Option.bind_some, Option.bind_some, e]
  rcases i3 a (n := 2 ^ V 0 0) (by omega) with q | ⟨q, q'⟩ | ⟨s, hs, rfl⟩
  · exact Or.inl ⟨by rw [if_pos q]; rfl, by rw [in7lo _ _ q]; rfl⟩
  · exact Or.inl ⟨by rw [if_neg q, if_pos q']; rfl, by rw [in7hi (by omega) q q']; rfl⟩
  · exact Or.inr ⟨s, hs, rfl, by rw [if_neg (nI_pos (by omega)), if_neg (nI_ge hs (by omega))]; rfl, by rw [in7ok (by omega) hs]; rfl⟩
theorem house_cm (ok : okV V) (h : VC V σ) (hm : VM V τ) (a : Int32) : (M_X5_isHouse σ a = some 0 ∧ M_X7_isHouse τ a = some 0) ∨ ∃ i, i < V 0 0 ∧ a = nI i ∧ M_X5_isHouse σ a = some 1 ∧ M_X7_isHouse τ a = some 1 := by
  have o1 := ok.1
  unfold M_X5_isHouse M_X7_isHouse
  rw [h.1, hm.1]
  rcases i3 a (n := V 0 0) (by omega) with q | ⟨q, q'⟩ | ⟨s, hs, rfl⟩
  · exact Or.inl ⟨by rw [if_pos q]; rfl, by rw [in7lo _ _ q]; rfl⟩
  · exact Or.inl ⟨by rw [if_neg q, if_pos q']; rfl, by rw [in7hi (by omega) q q']; rfl⟩
  · exact Or.inr ⟨s, hs, rfl, by rw [if_neg (nI_pos (by omega)), if_neg (nI_ge hs (by omega))]; rfl, by rw [in7ok (by omega) hs]; rfl⟩
end VO
def Vws (Wl : ST → ST → Prop) : Prop := ∀ σ τ, Wl σ τ → ∃ V, okV V ∧ VC V σ ∧ VM V τ
theorem pure_weight {Wl : ST → ST → Prop} (hC : Cg Wl) (hV : Vws Wl) : P_weight (RelG Wl) := by
  intro σ τ a hR
  obtain ⟨V, ok, hc, hm⟩ := hV σ τ hR.2.2.2.2.2
  have h2 := p2h ok
  rcases set_cm ok hc hm a with ⟨e1, e2⟩ | ⟨s, hs, rfl, e1, e2⟩
  · exact ⟨-1, σ, τ, by unfold M_X6_weight; rw [e1, Option.bind_some, if_pos rfl], by unfold M_X7_weight; rw [e2, Option.bind_some, if_pos rfl], hR⟩
  · refine ⟨nI (wgt V s (V 0 0)), setI σ 8 (b01 (opn V s)), setI τ 12 (b01 (opn V s)), ?_, ?_, hR.ask hC _⟩
    · unfold M_X6_weight M_X6_weight_30
      rw [e1, Option.bind_some, if_neg (by decide), open_c ok hc (by omega), Option.bind_some]
      cases opn V s
      · rw [if_pos bf0, Option.bind_some, weightOf_c ok (hc.cg (same.rf.sI (by decide))) (by omega)]; rfl
      · rw [if_neg (by decide), Option.bind_some, weightOf_c ok (hc.cg (same.rf.sI (by decide))) (by omega)]; rfl
    · unfold M_X7_weight M_X7_weight_24
      rw [e2, Option.bind_some, if_neg (by decide), open_m ok hm (by omega), Option.bind_some]
      cases opn V s
      · rw [if_pos bf0, Option.bind_some, weightOf_m ok (hm.cg (same.rf.sI (by decide))) (by omega)]; rfl
      · rw [if_neg (by decide), Option.bind_some, weightOf_m ok (hm.cg (same.rf.sI (by decide))) (by omega)]; rfl
/-- all sets at once -/
def opF (V : VT) (k : Nat) (f : Nat → Int32) : Nat → Int32 := fun s => if s < k then b01 (opn V s) else f s
theorem look_19 {V : VT} (ok : okV V) : ∀ (m fu i : Nat) (σ : ST) (f : Nat → Int32), VC V σ → σ.1 38 = nI (2 ^ V 0 0) → σ.2.2 33 = opF V i f → i + m = 2 ^ V 0 0 → m < fu → M_X4_look_19 fu σ (nI i) = some (setA σ 33 (opF V (2 ^ V 0 0) f))
  | 0, fu + 1, i, σ, f, h, h38, h33, hi, _ => by
    have := p2h ok
    rw [M_X4_look_19, h38, if_pos (nI_le (by omega) (by omega)), show 2 ^ V 0 0 = i by omega, ← h33, setA_self]
  | m + 1, fu + 1, i, σ, f, h, h38, h33, hi, hf => by
    have h2 := p2h ok
    have hlt : i < 2 ^ V 0 0 := by omega
    have e : upd (σ.2.2 33) i (b01 (opn V i)) = opF V (i + 1) f := by
      rw [h33]
      funext q
      unfold upd opF
      by_cases c : q = i
      · subst c; rw [if_pos rfl, if_pos (by omega)]
      · rw [if_neg c]
        by_cases c2 : q < i
        · rw [if_pos c2, if_pos (by omega)]
        · rw [if_neg c2, if_neg (by omega)]
    rw [M_X4_look_19, h38, if_neg (nI_ge hlt (by omega)), open_c ok h (by omega), Option.bind_some, okZ_b, Option.bind_some, wrA_n _ _ _ (by omega) (by decide), Option.bind_some, nI_1, e,
      look_19 ok m fu (i + 1) (setA σ 33 (opF V (i + 1) f)) f (h.cg (same.rf.sA (by decide))) h38 (sA_at _ _ _) (by omega) (by omega), setA_setA]
def lkS (V : VT) (σ : ST) : ST := setA (setI σ 38 (nI (2 ^ V 0 0))) 33 (opF V (2 ^ V 0 0) (σ.2.2 33))
theorem look_c {V : VT} {σ : ST} (ok : okV V) (h : VC V σ) : M_X4_look σ = some (lkS V σ) := by
  have h2 := p2h ok
  unfold M_X4_look
  rw [sets_c ok h, Option.bind_some, if_neg (ng 128 128 rfl h2 (by decide)), Option.bind_some]
  exact look_19 ok (2 ^ V 0 0) 10000 0 (setI σ 38 (nI (2 ^ V 0 0))) (σ.2.2 33) (h.cg (same.rf.sI (by decide))) rfl (funext fun q => (if_neg (by omega)).symm) (by omega) (by omega)
/-- what look() leaves -/
def LK (V : VT) (σ : ST) : Prop := VC V σ ∧ σ.1 38 = nI (2 ^ V 0 0) ∧ ∀ s, s < 2 ^ V 0 0 → σ.2.2 33 s = b01 (opn V s)
theorem lk_ok {V : VT} {σ : ST} (h : VC V σ) : LK V (lkS V σ) := ⟨h.cg ((same.rf.sI (by decide)).sA (by decide)), rfl, fun s hs => by show (setA _ 33 _).2.2 33 s = _; rw [sA_at]; exact if_pos hs⟩
theorem lk_same {F : FP} {V : VT} {σ : ST} (h1 : 38 ∉ F.1) (h2 : 33 ∉ F.2.2) : same F σ (lkS V σ) := (same.rf.sI h1).sA h2
theorem RelG.lk {Wl : ST → ST → Prop} (hC : Cg Wl) {V : VT} {σ τ : ST} (h : RelG Wl σ τ) : RelG Wl (lkS V σ) τ := ⟨h.1.cg (lk_same (by decide) (by decide)) same.rf, h.2.1.cg (lk_same (by decide) (by decide)) same.rf, h.2.2.1.cg (lk_same (by decide) (by decide)) same.rf, h.2.2.2.1.cg (lk_same (by decide) (by decide)) same.rf, h.2.2.2.2.1.cg (lk_same (by decide) (by decide)) same.rf, hC _ _ _ _ h.2.2.2.2.2 (lk_same (by decide) (by decide)) same.rf⟩
