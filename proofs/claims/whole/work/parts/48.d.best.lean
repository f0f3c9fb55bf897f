/- best: all orders -/
def srv (w : Nat → Nat) : Nat → List Nat → Nat
  | _, [] => 0
  | b, i :: L => sv w b i + srv w (b - w i) L
theorem sv_le (w : Nat → Nat) (b i : Nat) : sv w b i ≤ 1 := by unfold sv; split <;> omega
theorem srv_le (w : Nat → Nat) : ∀ (L : List Nat) (b : Nat), srv w b L ≤ L.length
  | [], _ => Nat.le_refl _
  | i :: L, b => by
    have h1 := srv_le w L (b - w i)
    have h2 := sv_le w b i
    rw [srv, List.length_cons]; omega
theorem gD_mid {pre : List Nat} {x : Nat} {suf : List Nat} : (pre ++ x :: suf).getD pre.length 0 = x := by rw [gD_r (Nat.le_refl _), Nat.sub_self]; rfl
section RB2
variable {V : VT} {τ : ST}
theorem sv_12 (ok : okV V) (hm : VM V τ) {L : List Nat} (ha : arL (τ.2.2 13) L) (hn : L.length ≤ 7) (hL : ∀ i ∈ L, i < V 0 0) : ∀ (suf pre : List Nat) (fu b acc : Nat), L = pre ++ suf → suf.length < fu → b ≤ 1000 → M_X7_served_12 τ fu (nI L.length) (nI b) (nI acc) (nI pre.length) = some (nI (acc + srv (wy V) b suf))
  | [], pre, fu + 1, b, acc, e, _, _ => by
    have : L.length = pre.length := by rw [e, List.append_nil]
    rw [M_X7_served_12, if_pos (nI_le (by omega) (by omega))]
    rfl
  | x :: suf, pre, fu + 1, b, acc, e, hf, hb => by
    have hlen : L.length = pre.length + (suf.length + 1) := by rw [e, List.length_append, List.length_cons]
    have hx : x < V 0 0 := hL x (by rw [e]; exact List.mem_append.mpr (Or.inr (List.mem_cons_self ..)))
    have hw := wy_le ok hx
    have gx : L.getD pre.length 0 = x := by rw [e]; exact gD_mid
    have ih := fun b acc hb => sv_12 ok hm ha hn hL suf (pre ++ [x]) fu b acc (by rw [e, app1]) (by simp only [List.length_cons] at hf; omega) hb
    rw [show (pre ++ [x]).length = pre.length + 1 by rw [List.length_append]; rfl] at ih
    have key : ∀ y, y = sv (wy V) b x → M_X7_served_48 τ (M_X7_served_12 τ fu) (nI L.length) (nI b) (nI pre.length) (nI (wy V x)) (nI acc) (nI y) = some (nI (acc + srv (wy V) b (x :: suf))) := by
      rintro y rfl
      have ih2 := ih (b - wy V x) (acc + sv (wy V) b x) (by omega)
      unfold M_X7_served_48
      rw [srv, ← Nat.add_assoc, nI_add, nI_1, pk_sub (Nat.le_refl b)]
      by_cases q : b ≤ wy V x
      · rw [if_pos (nI_le q (by omega)), show b - b = b - wy V x by omega]; exact ih2
      · rw [if_neg (nI_ge (by omega) (by omega)), pk_sub (by omega)]; exact ih2
    have kf : sv (wy V) b x = 0 → M_X7_served_47 τ (M_X7_served_12 τ fu) (nI L.length) (nI b) (nI pre.length) (nI (wy V x)) (nI acc) = some (nI (acc + srv (wy V) b (x :: suf))) := fun z => key 0 z.symm
    rw [M_X7_served_12, if_neg (nI_ge (by omega) (by omega)), rd_n _ (by omega) (by decide), Option.bind_some, ha pre.length (by omega), gx, wy_m ok hm hx, Option.bind_some]
    by_cases q1 : wy V x = 0
    · rw [if_pos (show nI (wy V x) ≤ 0 by rw [q1]; decide)]
      exact kf (by unfold sv; rw [if_neg (by omega)])
    · rw [if_neg (nI_nle (by omega) (by omega))]
      by_cases q2 : b < wy V x
      · rw [if_pos (nI_lt q2 (by omega))]
        exact kf (by unfold sv; rw [if_neg (by omega)])
      · rw [if_neg (nI_nlt (by omega) (by omega))]
        exact key 1 (by unfold sv; rw [if_pos (by omega)])
theorem served_m (ok : okV V) (hm : VM V τ) {L : List Nat} (ha : arL (τ.2.2 13) L) (hn : L.length ≤ 7) (hL : ∀ i ∈ L, i < V 0 0) : M_X7_served τ (nI L.length) = some (nI (srv (wy V) (V 0 3) L)) := by
  have o3 := ok.2.2.2.1
  have := sv_12 ok hm ha hn hL L [] 10000 (V 0 3) 0 rfl (by omega) (by omega)
  rw [Nat.zero_add] at this
  unfold M_X7_served
  rw [show (2 : Int32) = nI 2 from rfl, rd_n _ (by decide) (by decide), Option.bind_some, hm.2.2.2.1]
  exact this
end RB2
/- the reference's state -/
theorem setA_cm {a b : Nat} (h : a ≠ b) (σ : ST) (f g : Nat → Int32) : setA (setA σ a f) b g = setA (setA σ b g) a f := by
  have : va_up (va_up σ.2.2 a f) b g = va_up (va_up σ.2.2 b g) a f := by
    funext k
    unfold va_up
    by_cases e1 : k = a
    · rw [if_pos e1, if_neg (fun z => h (e1.symm.trans z)), if_pos e1]
    · rw [if_neg e1, if_neg e1]
  show (σ.1, σ.2.1, va_up (va_up σ.2.2 a f) b g) = (σ.1, σ.2.1, va_up (va_up σ.2.2 b g) a f)
  rw [this]
def zr (τ0 : ST) (j : Nat) : Nat → Int32 := fun k => if 40 * j ≤ k ∧ k < 40 * j + 40 then 0 else τ0.2.2 6 k
def rwF (τ0 : ST) (j : Nat) (L : List Nat) : Nat → Int32 := fun k => if 40 * j ≤ k ∧ k < 40 * j + L.length then nI (L.getD (k - 40 * j) 0) else zr τ0 j k
def bX (τ0 : ST) (j n : Nat) : Option (List Nat) → ST
  | none => τ0
  | some L => setA (setA τ0 5 (upd (τ0.2.2 5) j (nI n))) 6 (rwF τ0 j L)
theorem rwF_nil (τ0 : ST) (j : Nat) : rwF τ0 j [] = zr τ0 j := by
  funext k; unfold rwF; rw [if_neg (by show ¬ (40 * j ≤ k ∧ k < 40 * j + 0); omega)]
theorem rwF_s (τ0 : ST) (j : Nat) (pre : List Nat) (x : Nat) : upd (rwF τ0 j pre) (40 * j + pre.length) (nI x) = rwF τ0 j (pre ++ [x]) := by
  funext k
  unfold upd rwF
  have hl : (pre ++ [x]).length = pre.length + 1 := by rw [List.length_append]; rfl
  rw [hl]
  by_cases e : k = 40 * j + pre.length
  · rw [if_pos e, if_pos (by omega), show k - 40 * j = pre.length by omega, gD_mid]
  · rw [if_neg e]
    by_cases q : 40 * j ≤ k ∧ k < 40 * j + pre.length
    · rw [if_pos q, if_pos (by omega), gD_l (by omega)]
    · rw [if_neg q, if_neg (by omega)]
theorem mk_bX (τ0 : ST) (j n : Nat) (o : Option (List Nat)) (ho : ∀ L, o = some L → L.length ≤ 40) (a : Nat → Int32) : mkM (setA (bX τ0 j n o) 13 a) j n = setA (bX τ0 j n (some [])) 13 a := by
  have e : ∀ X : ST, mkM (setA X 13 a) j n = setA (mkM X j n) 13 a := by
    intro X
    unfold mkM
    rw [setA_cm (by decide) X a, setA_cm (by decide) _ a]
    rfl
  rw [e]
  congr 1
  cases o with
  | none =>
    show setA (setA τ0 5 _) 6 _ = setA (setA τ0 5 _) 6 (rwF τ0 j [])
    rw [rwF_nil]; rfl
  | some L =>
    have hL := ho L rfl
    show setA (setA (setA (setA τ0 5 (upd (τ0.2.2 5) j (nI n))) 6 (rwF τ0 j L)) 5 (upd (upd (τ0.2.2 5) j (nI n)) j (nI n))) 6 (fun k => if 40 * j ≤ k ∧ k < 40 * j + 40 then 0 else rwF τ0 j L k) = setA (setA τ0 5 (upd (τ0.2.2 5) j (nI n))) 6 (rwF τ0 j [])
    have e1 : upd (upd (τ0.2.2 5) j (nI n)) j (nI n) = upd (τ0.2.2 5) j (nI n) := by
      funext k
      by_cases z : k = j
      · rw [z, pk_us, pk_us]
      · rw [pk_un z]
    have e2 : (fun k => if 40 * j ≤ k ∧ k < 40 * j + 40 then 0 else rwF τ0 j L k) = rwF τ0 j [] := by
      rw [rwF_nil]
      funext k
      unfold rwF zr
      by_cases z : 40 * j ≤ k ∧ k < 40 * j + 40
      · rw [if_pos z, if_pos z]
      · rw [if_neg z, if_neg (by omega), if_neg z]
    rw [e1, e2, setA_cm (by decide) _ (rwF τ0 j L), setA_setA, setA_setA]
theorem b_106 {τ0 : ST} {j n : Nat} {L : List Nat} {a : Nat → Int32} (hj : j < 6) (hL : L.length = n) (hn : n ≤ 7) (ha : arL a L) (k74 : ST → Int32 → Int32 → Int32 → Int32 → Option (Int32 × ST)) (x4 : Int32) : ∀ (suf pre : List Nat) (fu : Nat), L = pre ++ suf → suf.length < fu → M_X7_best_106 k74 fu (setA (bX τ0 j n (some pre)) 13 a) (nI j) (nI n) x4 (nI pre.length) = M_X7_best_137 k74 (setA (bX τ0 j n (some L)) 13 a) (nI j) (nI n) x4
  | [], pre, fu + 1, e, _ => by
    rw [List.append_nil] at e
    rw [M_X7_best_106, if_pos (nI_le (by rw [← e]; omega) (by rw [← e]; omega)), e]
  | x :: suf, pre, fu + 1, e, hf => by
    have hlen : L.length = pre.length + (suf.length + 1) := by rw [e, List.length_append, List.length_cons]
    have gx : L.getD pre.length 0 = x := by rw [e]; exact gD_mid
    have e13 : (setA (bX τ0 j n (some pre)) 13 a).2.2 13 = a := sA_at _ _ _
    have e6 : (setA (bX τ0 j n (some pre)) 13 a).2.2 6 = rwF τ0 j pre := rfl
    have ih := b_106 (τ0 := τ0) hj hL hn ha k74 x4 suf (pre ++ [x]) fu (by rw [e, app1]) (by simp only [List.length_cons] at hf; omega)
    rw [show (pre ++ [x]).length = pre.length + 1 by rw [List.length_append]; rfl] at ih
    rw [M_X7_best_106, if_neg (nI_ge (by omega) (by omega)), e13, rd_n _ (by omega) (by decide), Option.bind_some, ha pre.length (by omega), gx, ix40, wrA_n _ _ _ (by omega) (by decide), Option.bind_some, e6, rwF_s, nI_1, setA_cm (by decide) (bX τ0 j n (some pre)) a]
    have : setA (bX τ0 j n (some pre)) 6 (rwF τ0 j (pre ++ [x])) = bX τ0 j n (some (pre ++ [x])) := by
      show setA (setA (setA τ0 5 _) 6 _) 6 _ = _
      rw [setA_setA]; rfl
    rw [this]
    exact ih
def msV (q : Nat) : Int32 := if q = 0 then -1 else nI (q - 1)
theorem bX_vm {V : VT} {τ0 : ST} (hm : VM V τ0) (j n : Nat) (o : Option (List Nat)) (a : Nat → Int32) : VM V (setA (bX τ0 j n o) 13 a) := by
  cases o with
  | none => exact hm.cg (same.rf.sA (by decide))
  | some L => exact hm.cg (((same.rf.sA (by decide)).sA (by decide)).sA (by decide))
theorem ev_m {V : VT} {τ0 : ST} (ok : okV V) (hm : VM V τ0) {j n q : Nat} {L : List Nat} {o : Option (List Nat)} {a : Nat → Int32} (hj : j < 6) (hL : L.length = n) (hn : n ≤ 7) (ha : arL a L) (hLV : ∀ i ∈ L, i < V 0 0) (hq : q ≤ 1000) (ho : ∀ L', o = some L' → L'.length ≤ 40) (f : Nat) : M_X7_best_74 (f + 1) (setA (bX τ0 j n o) 13 a) (nI j) (nI n) (msV q) 1 = M_X7_best_137 (M_X7_best_74 f) (setA (bX τ0 j n (if q ≤ srv (wy V) (V 0 3) L then (srv (wy V) (V 0 3) L + 1, some L) else (q, o)).2) 13 a) (nI j) (nI n) (msV (if q ≤ srv (wy V) (V 0 3) L then (srv (wy V) (V 0 3) L + 1, some L) else (q, o)).1) := by
  have hv := srv_le (wy V) L (V 0 3)
  have hmm := bX_vm hm j n o a
  have hs := served_m ok hmm (L := L) (by rw [sA_at]; exact ha) (by omega) hLV
  rw [hL] at hs
  rw [M_X7_best_74, if_neg n10, hs, Option.bind_some]
  generalize srv (wy V) (V 0 3) L = v at hv
  by_cases z : q ≤ v
  · rw [if_pos z, if_neg (show ¬ nI v ≤ msV q from ?_), makeRow_m hj, Option.bind_some, mk_bX τ0 j n o ho]
    · rw [show msV (v + 1) = nI v from if_neg (by omega)]
      exact b_106 hj hL hn ha (M_X7_best_74 f) (nI v) L [] 10000 rfl (by omega)
    · unfold msV
      by_cases q0 : q = 0
      · rw [if_pos q0]
        intro w
        rw [Int32.le_iff_toInt_le, nI_toInt (by omega)] at w
        have : (-1 : Int32).toInt = -1 := by decide
        omega
      · rw [if_neg q0]; exact nI_ge (by omega) (by omega)
  · rw [if_neg z, if_pos (show nI v ≤ msV q from ?_)]
    unfold msV
    rw [if_neg (by omega)]; exact nI_le (by omega) (by omega)
theorem gr_nil (w : Nat → Nat) (b : Nat) : gr w [] b = 0 := rfl
theorem lf_in {w : Nat → Nat} : ∀ (k : Nat) (S : List Nat) (b : Nat), (lf w k S b).length ≤ k
  | 0, _, _ => Nat.le_refl _
  | k + 1, S, b => by
    rw [lf]
    cases fb w (gr w S b) b [] S with
    | none => exact Nat.zero_le _
    | some z => exact Nat.succ_le_succ (lf_in k z.2 _)
theorem run_m {V : VT} {τ0 : ST} (ok : okV V) (hm : VM V τ0) {j n : Nat} (hj : j < 6) (hn : n ≤ 7) : ∀ (s : Nat) (S p : List Nat) (c b f q : Nat) (o : Option (List Nat)) (a : Nat → Int32), S.length = s → (p ++ S).length = n → S.Pairwise (· < ·) → (∀ i ∈ p ++ S, i < V 0 0) → arL a (p ++ S) → (∀ T, srv (wy V) (V 0 3) (p ++ T) = c + srv (wy V) b T) → c ≤ p.length → b ≤ 99 → q ≤ 1000 → (∀ L', o = some L' → L'.length ≤ 40) → ∃ a', M_X7_best_74 (f + fct s) (setA (bX τ0 j n o) 13 a) (nI j) (nI n) (msV q) 1 = M_X7_best_137 (M_X7_best_74 f) (setA (bX τ0 j n (if q ≤ c + gr (wy V) S b then (c + gr (wy V) S b + 1, some (p ++ lf (wy V) s S b)) else (q, o)).2) 13 a') (nI j) (nI n) (msV (if q ≤ c + gr (wy V) S b then (c + gr (wy V) S b + 1, some (p ++ lf (wy V) s S b)) else (q, o)).1) ∧ arL a' (p ++ S.reverse) := by
  intro s
  induction s with
  | zero =>
    intro S p c b f q o a h1 h2 h3 h4 h5 h6 h7 h8 h9 h10
    obtain rfl : S = [] := List.length_eq_zero_iff.mp h1
    refine ⟨a, ?_, h5⟩
    have e := ev_m ok hm hj h2 hn h5 h4 h9 h10 f
    rw [h6 []] at e
    exact e
  | succ s ihs =>
    intro S p c b f q o a h1 h2 h3 h4 h5 h6 h7 h8 h9 h10
    have hwS : ∀ i ∈ S, wy V i ≤ 9 := fun i hi => wy_le ok (h4 i (List.mem_append.mpr (Or.inr hi)))
    have hlen : p.length + (s + 1) = n := by rw [← h2, List.length_append, h1]
    have inner : ∀ (B A : List Nat) (x q : Nat) (o : Option (List Nat)) (a : Nat → Int32), A ++ x :: B = S → arL a (p ++ x :: (A ++ B)) → q ≤ 1000 → (∀ L', o = some L' → L'.length ≤ 40) → ∃ a', M_X7_best_74 (f + (B.length + 1) * fct s) (setA (bX τ0 j n o) 13 a) (nI j) (nI n) (msV q) 1 = M_X7_best_137 (M_X7_best_74 f) (setA (bX τ0 j n (fow (wy V) p c b s A (x :: B) (q, o)).2) 13 a') (nI j) (nI n) (msV (fow (wy V) p c b s A (x :: B) (q, o)).1) ∧ arL a' (p ++ S.reverse) := by
      intro B
      induction B with
      | nil =>
        intro A x q o a e ha hq ho
        have hAB : (A ++ []).length = s := by rw [← e] at h1; simp only [List.length_append, List.length_cons, List.length_nil] at h1 ⊢; omega
        have hsub : (A ++ []).Pairwise (· < ·) := by
          rw [← e] at h3
          exact h3.sublist (List.Sublist.append (List.Sublist.refl A) (List.sublist_cons_self x []))
        have hx := h4 x (List.mem_append.mpr (Or.inr (by rw [← e]; exact List.mem_append.mpr (Or.inr (List.mem_cons_self ..)))))
        obtain ⟨a', u1, u2⟩ := ihs (A ++ []) (p ++ [x]) (c + sv (wy V) b x) (b - wy V x) f q o a hAB (by rw [app1, List.length_append, List.length_cons, hAB]; omega) hsub (fun i hi => by
            rw [app1] at hi
            rcases List.mem_append.mp hi with z | z
            · exact h4 i (List.mem_append.mpr (Or.inl z))
            · rcases List.mem_cons.mp z with z | z
              · rw [z]; exact hx
              · refine h4 i (List.mem_append.mpr (Or.inr ?_))
                rw [List.append_nil] at z
                rw [← e]; exact List.mem_append.mpr (Or.inl z)) (by rw [app1]; exact ha) (fun T => by rw [app1, h6, srv, Nat.add_assoc]) (by rw [List.length_append]; have := sv_le (wy V) b x; simp only [List.length_cons, List.length_nil]; omega) (by omega) hq ho
        refine ⟨a', ?_, ?_⟩
        · rw [List.length_nil, Nat.zero_add, Nat.one_mul, u1, fow, fow, Nat.add_assoc, app1]
        · rw [← e, List.reverse_append]
          rw [app1, List.append_nil] at u2
          exact u2
      | cons y B ih =>
        intro A x q o a e ha hq ho
        have hAB : (A ++ y :: B).length = s := by rw [← e] at h1; simp only [List.length_append, List.length_cons] at h1 ⊢; omega
        have hS' : (A ++ x :: y :: B).Pairwise (· < ·) := by rw [e]; exact h3
        have hsub : (A ++ y :: B).Pairwise (· < ·) := hS'.sublist (List.Sublist.append (List.Sublist.refl A) (List.sublist_cons_self x (y :: B)))
        have hin : ∀ i ∈ p ++ x :: (A ++ y :: B), i < V 0 0 := by
          intro i hi
          rcases List.mem_append.mp hi with z | z
          · exact h4 i (List.mem_append.mpr (Or.inl z))
          · refine h4 i (List.mem_append.mpr (Or.inr ?_))
            rw [← e]
            rcases List.mem_cons.mp z with z | z
            · rw [z]; exact List.mem_append.mpr (Or.inr (List.mem_cons_self ..))
            · rcases List.mem_append.mp z with z | z
              · exact List.mem_append.mpr (Or.inl z)
              · exact List.mem_append.mpr (Or.inr (List.mem_cons_of_mem _ z))
        have hgr := gr_b (wy V) (A ++ y :: B) (b - wy V x)
        have hsv := sv_le (wy V) b x
        obtain ⟨a1, u1, u2⟩ := ihs (A ++ y :: B) (p ++ [x]) (c + sv (wy V) b x) (b - wy V x) (f + (B.length + 1) * fct s) q o a hAB (by rw [app1, List.length_append, List.length_cons, hAB]; omega) hsub (fun i hi => by rw [app1] at hi; exact hin i hi) (by rw [app1]; exact ha) (fun T => by rw [app1, h6, srv, Nat.add_assoc]) (by rw [List.length_append]; simp only [List.length_cons, List.length_nil]; omega) (by omega) hq ho
        have hlf := lf_in (w := wy V) s (A ++ y :: B) (b - wy V x)
        have hr1 : (if q ≤ c + (sv (wy V) b x + gr (wy V) (A ++ y :: B) (b - wy V x)) then (c + (sv (wy V) b x + gr (wy V) (A ++ y :: B) (b - wy V x)) + 1, some (p ++ x :: lf (wy V) s (A ++ y :: B) (b - wy V x))) else (q, o)).1 ≤ 1000 := by
          split
          · show c + (sv (wy V) b x + gr (wy V) (A ++ y :: B) (b - wy V x)) + 1 ≤ 1000
            omega
          · exact hq
        have hr2 : ∀ L', (if q ≤ c + (sv (wy V) b x + gr (wy V) (A ++ y :: B) (b - wy V x)) then (c + (sv (wy V) b x + gr (wy V) (A ++ y :: B) (b - wy V x)) + 1, some (p ++ x :: lf (wy V) s (A ++ y :: B) (b - wy V x))) else (q, o)).2 = some L' → L'.length ≤ 40 := by
          intro L'
          split
          · intro z
            cases z
            rw [List.length_append, List.length_cons]; omega
          · exact ho L'
        rw [Nat.add_assoc c, app1] at u1
        rw [app1] at u2
        rw [fow]
        generalize (if q ≤ c + (sv (wy V) b x + gr (wy V) (A ++ y :: B) (b - wy V x)) then (c + (sv (wy V) b x + gr (wy V) (A ++ y :: B) (b - wy V x)) + 1, some (p ++ x :: lf (wy V) s (A ++ y :: B) (b - wy V x))) else (q, o)) = r1 at u1 hr1 hr2
        have ln : (p ++ x :: (A ++ y :: B).reverse).length = n := by rw [List.length_append, List.length_cons, List.length_reverse, hAB]; omega
        obtain ⟨a2, w1, w2⟩ := no_list (τ := bX τ0 j n r1.2) (p := p) hS' u2 (by omega) (fun i hi => by have := hin i hi; have := ok.1; omega)
        rw [ln] at w1
        obtain ⟨a3, t1, t2⟩ := ih (A ++ [x]) y r1.1 r1.2 a2 (by rw [app1]; exact e) (by rw [app1]; exact w2) hr1 hr2
        refine ⟨a3, ?_, t2⟩
        rw [List.length_cons, show f + (B.length + 1 + 1) * fct s = f + (B.length + 1) * fct s + fct s by rw [Nat.succ_mul (B.length + 1)]; omega, u1]
        unfold M_X7_best_137
        rw [w1, Option.bind_some]
        exact t1
    cases S with
    | nil => cases h1
    | cons x B =>
      have hB : B.length = s := by simp only [List.length_cons] at h1; omega
      obtain ⟨a', t1, t2⟩ := inner B [] x q o a rfl h5 h9 h10
      refine ⟨a', ?_, t2⟩
      rw [fow_all (S := x :: B) (by simp) hwS] at t1
      rw [fct, Nat.mul_comm, ← hB]
      rw [← hB] at t1
      exact t1
