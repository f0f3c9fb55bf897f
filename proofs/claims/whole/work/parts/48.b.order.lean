/- best: the class -/
def gl : List Nat → Nat → Nat
  | [], b => b
  | u :: l, b => if u ≤ b then gl l (b - u) else gl l b
theorem gg_app : ∀ (l1 l2 : List Nat) (b : Nat), gg (l1 ++ l2) b = gg l1 b + gg l2 (gl l1 b)
  | [], l2, b => by rw [List.nil_append, gg, gl, Nat.zero_add]
  | u :: l1, l2, b => by
    rw [List.cons_append, gg, gg, gl]
    by_cases q : u ≤ b
    · rw [if_pos q, if_pos q, if_pos q, gg_app l1 l2]; omega
    · rw [if_neg q, if_neg q, if_neg q, gg_app l1 l2]
theorem gl_le : ∀ (l : List Nat) (b : Nat), gl l b ≤ b
  | [], _ => Nat.le_refl _
  | u :: l, b => by
    rw [gl]
    split
    · exact Nat.le_trans (gl_le l _) (Nat.sub_le _ _)
    · exact gl_le l b
theorem gg_le : ∀ (l : List Nat) (b : Nat), (∀ y ∈ l, 1 ≤ y) → gg l b ≤ b
  | [], _, _ => Nat.zero_le _
  | u :: l, b, h => by
    have h1 := h u (List.mem_cons_self ..)
    have h2 : ∀ y ∈ l, 1 ≤ y := fun y hy => h y (List.mem_cons_of_mem _ hy)
    rw [gg]
    split
    · have := gg_le l (b - u) h2; omega
    · exact gg_le l b h2
theorem gr_b (w : Nat → Nat) (S : List Nat) (b : Nat) : gr w S b ≤ b := gg_le _ _ (fun y hy => (lw_in 9 1 y hy).1)
theorem ris_wo : ∀ h, h < 8 → ∀ i, i < h → ∀ s, s < 2 ^ h → s.testBit i = true → ris (wo s i) 0 h = ris s 0 i ++ ris s (i + 1) (h - (i + 1)) := by decide +kernel
theorem ris_len : ∀ h, h < 8 → ∀ s, s < 2 ^ h → (ris s 0 h).length = pc7 s := by decide +kernel
theorem ris_s (s : Nat) : ∀ m a, ris s a (m + 1) = ris s a m ++ (if s.testBit (a + m) then [a + m] else [])
  | 0, a => by rw [ris, ris, Nat.add_zero]; cases s.testBit a <;> rfl
  | m + 1, a => by
    rw [ris, ris_s s m (a + 1), ris, show a + 1 + m = a + (m + 1) by omega]
    cases s.testBit a <;> rfl
section BC
variable {V : VT} {σ : ST}
theorem ms_18 (ok : okV V) (h : VC V σ) (k8 : Int32 → Int32 → Int32 → Int32 → Option Int32) {s v : Nat} (hs : s < 128) (hv : v ≤ 9) : ∀ (m fu i b acc : Nat), i + m = V 0 0 → m < fu → b ≤ 1000 → M_X5_mostServed_18 σ k8 fu (nI s) (nI b) (nI acc) (nI v) (nI i) = k8 (nI s) (nI (gl (List.replicate (ctL (wy V) (ris s i m) v) v) b)) (nI (acc + gg (List.replicate (ctL (wy V) (ris s i m) v) v) b)) (nI (v + 1))
  | 0, fu + 1, i, b, acc, hi, _, _ => by
    have o1 := ok.1
    rw [M_X5_mostServed_18, h.1, if_pos (nI_le (by omega) (by omega)), nI_1]
    rfl
  | m + 1, fu + 1, i, b, acc, hi, hf, hb => by
    have o1 := ok.1
    have hlt : i < V 0 0 := by omega
    have hw := wy_le ok hlt
    have ih := fun b acc hb => ms_18 ok h k8 hs hv m fu (i + 1) b acc (by omega) (by omega) hb
    rw [M_X5_mostServed_18, h.1, if_neg (nI_ge hlt (by omega)), isIn_c (by omega) (by omega), Option.bind_some, nI_1 i, ris]
    cases hbt : s.testBit i with
    | false => rw [if_pos bf0]; exact ih b acc hb
    | true =>
      rw [if_neg (by decide), wy_c ok h hlt, Option.bind_some, if_pos rfl, ctL]
      by_cases q : wy V i = v
      · rw [if_pos (by rw [q]), if_pos q, List.replicate_succ, gg, gl]
        by_cases z : v ≤ b
        · rw [if_neg (nI_nlt z (by omega)), if_pos z, if_pos z, pk_sub z, nI_1, ih (b - v) (acc + 1) (by omega), Nat.add_assoc]
        · rw [if_pos (nI_lt (by omega) (by omega)), if_neg z, if_neg z]; exact ih b acc hb
      · rw [if_neg (fun z => q ((nI_eq (by omega) (by omega)).mp z)), if_neg q]; exact ih b acc hb
theorem ms_8 (ok : okV V) (h : VC V σ) {s : Nat} (hs : s < 128) : ∀ (m fu v b acc : Nat), v + m = 10 → m < fu → b ≤ 1000 → M_X5_mostServed_8 σ fu (nI s) (nI b) (nI acc) (nI v) = some (nI (acc + gg (lw (ctL (wy V) (ris s 0 (V 0 0))) m v) b))
  | 0, fu + 1, v, b, acc, hi, _, _ => by
    obtain rfl : v = 10 := by omega
    rw [M_X5_mostServed_8, if_pos (by decide)]
    rfl
  | m + 1, fu + 1, v, b, acc, hi, hf, hb => by
    have o1 := ok.1
    have hg := gl_le (List.replicate (ctL (wy V) (ris s 0 (V 0 0)) v) v) b
    rw [M_X5_mostServed_8, if_neg (ng 9 9 rfl (show v ≤ 9 by omega) (by decide)), show M_X5_mostServed_18 σ (M_X5_mostServed_8 σ fu) 10000 (nI s) (nI b) (nI acc) (nI v) 0 = _ from ms_18 ok h (M_X5_mostServed_8 σ fu) hs (by omega) (V 0 0) 10000 0 b acc (by omega) (by omega) hb, ms_8 ok h hs m fu (v + 1) _ _ (by omega) (by omega) (by omega), lw, gg_app, Nat.add_assoc]
theorem ms_c (ok : okV V) (h : VC V σ) {s b : Nat} (hs : s < 128) (hb : b ≤ 1000) : M_X5_mostServed σ (nI s) (nI b) = some (nI (gr (wy V) (ris s 0 (V 0 0)) b)) := by
  have := ms_8 ok h hs 9 10000 1 b 0 (by omega) (by omega) hb
  rw [Nat.zero_add] at this
  exact this
def zV (o : Option (Nat × List Nat)) : Int32 := (o.map fun z => nI z.1).getD (-9)
theorem nb_10 (ok : okV V) (h : VC V σ) {s b g : Nat} (hs : s < 2 ^ V 0 0) (hb : b ≤ 1000) (hg : g ≤ 1000) : ∀ (m fu i : Nat), i + m = V 0 0 → m < fu → M_X5_nextBest_10 σ fu (nI s) (nI b) (nI g) (nI i) = some (zV (fb (wy V) g b (ris s 0 i) (ris s i m)))
  | 0, fu + 1, i, hi, _ => by
    have o1 := ok.1
    rw [M_X5_nextBest_10, h.1, if_pos (nI_le (by omega) (by omega))]
    rfl
  | m + 1, fu + 1, i, hi, hf => by
    have o1 := ok.1
    have h2 := p2h ok
    have hlt : i < V 0 0 := by omega
    have hw := wy_le ok hlt
    have ih := nb_10 ok h hs hb hg m fu (i + 1) (by omega) (by omega)
    rw [ris_s s i 0, Nat.zero_add] at ih
    rw [M_X5_nextBest_10, h.1, if_neg (nI_ge hlt (by omega)), isIn_c (by omega) (by omega), Option.bind_some, nI_1 i, ris]
    cases hbt : s.testBit i with
    | false =>
      rw [hbt] at ih
      rw [if_pos bf0]
      have e : ris s 0 i ++ (if false = true then [i] else []) = ris s 0 i := List.append_nil _
      rw [e] at ih
      exact ih
    | true =>
      rw [hbt] at ih
      have hle := wo_le (s := s) (i := i) (by omega) (by omega)
      have e0 : ris (wo s i) 0 (V 0 0) = ris s 0 i ++ ris s (i + 1) m := by
        rw [ris_wo (V 0 0) (by omega) i hlt s hs hbt, show V 0 0 - (i + 1) = m by omega]
      have hgr := gr_b (wy V) (ris s 0 i ++ ris s (i + 1) m) (b - wy V i)
      have hsv : sv (wy V) b i ≤ 1 := by unfold sv; split <;> omega
      have emn : nI b - (if nI b < nI (wy V i) then nI b else nI (wy V i)) = nI (b - wy V i) := by
        by_cases q : b < wy V i
        · rw [if_pos (nI_lt q (by omega)), pk_sub (Nat.le_refl _), show b - b = b - wy V i by omega]
        · rw [if_neg (nI_nlt (by omega) (by omega)), pk_sub (by omega)]
      have key : ∀ y, y = sv (wy V) b i → M_X5_nextBest_55 σ (M_X5_nextBest_10 σ fu) (nI s) (nI b) (nI g) (nI i) (nI (wy V i)) (nI y) = some (zV (fb (wy V) g b (ris s 0 i) (i :: ris s (i + 1) m))) := by
        rintro y rfl
        unfold M_X5_nextBest_55
        rw [clr (by omega) (by omega), emn, ms_c ok h (by omega) (by omega), Option.bind_some, e0, nI_add, nI_1, fb]
        by_cases q : sv (wy V) b i + gr (wy V) (ris s 0 i ++ ris s (i + 1) m) (b - wy V i) = g
        · rw [if_pos (by rw [q]), if_pos q]; rfl
        · rw [if_neg (fun z => q ((nI_eq (by omega) (by omega)).mp z)), if_neg q]; exact ih
      have kf : sv (wy V) b i = 0 → M_X5_nextBest_54 σ (M_X5_nextBest_10 σ fu) (nI s) (nI b) (nI g) (nI i) (nI (wy V i)) = some (zV (fb (wy V) g b (ris s 0 i) (i :: ris s (i + 1) m))) := fun e => key 0 e.symm
      rw [if_neg (by decide), wy_c ok h hlt, Option.bind_some, if_pos rfl]
      by_cases q1 : wy V i = 0
      · rw [if_pos (show nI (wy V i) ≤ 0 by rw [q1]; decide)]
        exact kf (by unfold sv; rw [if_neg (by omega)])
      · rw [if_neg (nI_nle (by omega) (by omega))]
        by_cases q2 : b < wy V i
        · rw [if_pos (nI_lt q2 (by omega))]
          exact kf (by unfold sv; rw [if_neg (by omega)])
        · rw [if_neg (nI_nlt (by omega) (by omega))]
          exact key 1 (by unfold sv; rw [if_pos (by omega)])
theorem nb_c (ok : okV V) (h : VC V σ) {s b : Nat} (hs : s < 2 ^ V 0 0) (hb : b ≤ 1000) : M_X5_nextBest σ (nI s) (nI b) = some (zV (fb (wy V) (gr (wy V) (ris s 0 (V 0 0)) b) b [] (ris s 0 (V 0 0)))) := by
  have o1 := ok.1
  have h2 := p2h ok
  have hgr := gr_b (wy V) (ris s 0 (V 0 0)) b
  unfold M_X5_nextBest
  rw [ms_c ok h (by omega) hb, Option.bind_some]
  exact nb_10 ok h hs hb (by omega) (V 0 0) 10000 0 (by omega) (by omega)
end BC
def laF (f : Nat → Int32) (i : Nat) (L : List Nat) : Nat → Int32 := fun k => if i ≤ k ∧ k < i + L.length then nI (L.getD (k - i) 0) else f k
theorem laF_c (f : Nat → Int32) (i x : Nat) (L : List Nat) : laF (upd f i (nI x)) (i + 1) L = laF f i (x :: L) := by
  funext k
  unfold laF upd
  rw [List.length_cons]
  by_cases e : k = i
  · subst e
    rw [if_neg (by omega), if_pos rfl, if_pos (by omega), Nat.sub_self]; rfl
  · by_cases q : i + 1 ≤ k ∧ k < i + 1 + L.length
    · rw [if_pos q, if_pos (by omega), show k - i = (k - (i + 1)) + 1 by omega]; rfl
    · rw [if_neg q, if_neg e, if_neg (by omega)]
theorem lf_len {w : Nat → Nat} : ∀ (k : Nat) (S : List Nat) (b : Nat), S.length = k → (∀ i ∈ S, w i ≤ 9) → (lf w k S b).length = k
  | 0, _, _, _, _ => rfl
  | k + 1, S, b, h, hw => by
    obtain ⟨z, hz⟩ := fb_all (w := w) b (S := S) (fun e => by rw [e] at h; cases h) hw
    obtain ⟨A1, B1, h1, h2⟩ := fb_prop S [] z hz
    rw [lf_s hz, List.length_cons, lf_len k z.2 _ ?_ ?_]
    · rw [h2]; rw [h1] at h; simp only [List.length_append, List.length_cons, List.nil_append] at h ⊢; omega
    · intro i hi
      refine hw i ?_
      rw [h2, List.nil_append] at hi
      rw [h1]
      rcases List.mem_append.mp hi with q | q
      · exact List.mem_append.mpr (Or.inl q)
      · exact List.mem_append.mpr (Or.inr (List.mem_cons_of_mem _ q))
theorem ris_bit : ∀ h, h < 8 → ∀ s, s < 2 ^ h → ∀ i ∈ ris s 0 h, i < h ∧ s.testBit i = true := by decide +kernel
theorem ris_er : ∀ h, h < 8 → ∀ s, s < 2 ^ h → ∀ i ∈ ris s 0 h, ris (wo s i) 0 h = (ris s 0 h).erase i ∧ pc7 (wo s i) + 1 = pc7 s := by decide +kernel
theorem ris_nd : ∀ h, h < 8 → ∀ s, s < 2 ^ h → (ris s 0 h).Nodup := by decide +kernel
theorem erase_mid {A B : List Nat} {x : Nat} (h : (A ++ x :: B).Nodup) : (A ++ x :: B).erase x = A ++ B := by
  have hx : x ∉ A := fun z => by
    have := (List.nodup_append.mp h).2.2 x z x (List.mem_cons_self ..)
    exact this rfl
  rw [List.erase_append_right _ hx, List.erase_cons_head]
theorem lb_12 {V : VT} (ok : okV V) {j n : Nat} (hj : j < 6) (hn : n ≤ 7) : ∀ (rem fu i s b : Nat) (σ : ST), i + rem = n → rem < fu → s < 2 ^ V 0 0 → pc7 s = rem → b ≤ 1000 → VC V σ → σ.2.2 3 j = nI n → M_X5_layBestOrder_12 fu σ (nI j) (nI s) (nI b) (nI i) = some (setA σ (4 + j) (laF (σ.2.2 (4 + j)) i (lf (wy V) rem (ris s 0 (V 0 0)) b)))
  | 0, fu + 1, i, s, b, σ, h1, _, hs, hp, hb, hc, h3 => by
    rw [M_X5_layBestOrder_12, szOf_r hj, Option.bind_some, h3, if_pos (nI_le (by omega) (by omega))]
    have : laF (σ.2.2 (4 + j)) i (lf (wy V) 0 (ris s 0 (V 0 0)) b) = σ.2.2 (4 + j) := by
      funext k
      unfold laF
      rw [if_neg (by show ¬ (i ≤ k ∧ k < i + 0); omega)]
    rw [this, setA_self]
  | r + 1, fu + 1, i, s, b, σ, h1, h2, hs, hp, hb, hc, h3 => by
    have o1 := ok.1
    have hN := p2h ok
    have hlen := ris_len (V 0 0) (by omega) s hs
    have hw : ∀ t ∈ ris s 0 (V 0 0), wy V t ≤ 9 := fun t ht => wy_le ok (ris_bit (V 0 0) (by omega) s hs t ht).1
    obtain ⟨z, hz⟩ := fb_all (w := wy V) b (S := ris s 0 (V 0 0)) (fun e => by rw [e] at hlen; simp at hlen; omega) hw
    obtain ⟨A1, B1, z1, z2⟩ := fb_prop _ [] z hz
    have hmem : z.1 ∈ ris s 0 (V 0 0) := by rw [z1]; exact List.mem_append.mpr (Or.inr (List.mem_cons_self ..))
    obtain ⟨hzlt, hzb⟩ := ris_bit (V 0 0) (by omega) s hs z.1 hmem
    obtain ⟨he, hpc⟩ := ris_er (V 0 0) (by omega) s hs z.1 hmem
    have hnd := ris_nd (V 0 0) (by omega) s hs
    have hz2 : z.2 = ris (wo s z.1) 0 (V 0 0) := by
      rw [he, z2, List.nil_append]
      rw [z1] at hnd ⊢
      exact (erase_mid hnd).symm
    have hle := wo_le (s := s) (i := z.1) (by omega) (by omega)
    have hwz := wy_le ok hzlt
    have hc1 : VC V (setA σ (4 + j) (upd (σ.2.2 (4 + j)) i (nI z.1))) := hc.cg (same.rf.sA (by simp [fWc]; omega))
    have emn : nI b - (if nI b < nI (wy V z.1) then nI b else nI (wy V z.1)) = nI (b - wy V z.1) := by
      by_cases q : b < wy V z.1
      · rw [if_pos (nI_lt q (by omega)), pk_sub (Nat.le_refl _), show b - b = b - wy V z.1 by omega]
      · rw [if_neg (nI_nlt (by omega) (by omega)), pk_sub (by omega)]
    have ih := lb_12 ok hj hn r fu (i + 1) (wo s z.1) (b - wy V z.1) (setA σ (4 + j) (upd (σ.2.2 (4 + j)) i (nI z.1))) (by omega) (by omega) (by omega) (by omega) (by omega) hc1 (by rw [sA_ne (by omega)]; exact h3)
    rw [M_X5_layBestOrder_12, szOf_r hj, Option.bind_some, h3, if_neg (nI_ge (by omega) (by omega)), nb_c ok hc hs hb, Option.bind_some, hz, show zV (some z) = nI z.1 from rfl, if_neg (m9_ne (by omega)), set_r hj h3 (by omega) (by omega), Option.bind_some, wy_c ok hc1 hzlt, Option.bind_some, clr (by omega) (by omega), emn, nI_1, ih, setA_setA, sA_at, laF_c, ← hz2, lf_s hz]
