def M_X7_digest_195 (σ : ST) (k173 : Int64 → Int32 → Option Int64) : Nat → Int64 → Int32 → Int32 → Option Int64
  | 0, _, _, _ => none
  | n + 1, x1, x3, x4 => (rd 4 (σ.2.2 7) x3).bind fun v202 => if v202 ≤ x4 then k173 x1 (x3 + 1) else (rd 320 (σ.2.2 8) ((80 * x3) + x4)).bind fun v222 => M_X7_digest_195 σ k173 n ((31 * x1) + v222.toInt64) x3 (x4 + 1)
def M_X7_digest_173 (σ : ST) : Nat → Int64 → Int32 → Option Int64
  | 0, _, _ => none
  | n + 1, x1, x3 => if 4 ≤ x3 then some x1 else (rd 4 (σ.2.2 7) x3).bind fun v188 => M_X7_digest_195 σ (M_X7_digest_173 σ n) 10000 ((31 * x1) + v188.toInt64) x3 0
def M_X7_digest_128 (σ : ST) (k105 : Int64 → Int32 → Option Int64) : Nat → Int64 → Int32 → Int32 → Option Int64
  | 0, _, _, _ => none
  | n + 1, x1, x3, x4 => (rd 6 (σ.2.2 5) x3).bind fun v135 => if v135 ≤ x4 then k105 x1 (x3 + 1) else (rd 240 (σ.2.2 6) ((40 * x3) + x4)).bind fun v155 => M_X7_digest_128 σ k105 n ((31 * x1) + v155.toInt64) x3 (x4 + 1)
def M_X7_digest_105 (σ : ST) : Nat → Int64 → Int32 → Option Int64
  | 0, _, _ => none
  | n + 1, x1, x3 => if 6 ≤ x3 then M_X7_digest_173 σ 10000 x1 0 else (rd 6 (σ.2.2 5) x3).bind fun v121 => M_X7_digest_128 σ (M_X7_digest_105 σ n) 10000 ((31 * x1) + v121.toInt64) x3 0
def M_X7_digest_72 (σ : ST) : Nat → Int64 → Int32 → Option Int64
  | 0, _, _ => none
  | n + 1, x1, x3 => if 4 ≤ x3 then M_X7_digest_105 σ 10000 x1 0 else (rd 3776 (σ.2.2 1) ((944 * x3) + 0)).bind fun v93 => M_X7_digest_72 σ n ((31 * x1) + v93.toInt64) (x3 + 1)
def M_X7_digest_33 (σ : ST) : Nat → Int64 → Int32 → Option Int64
  | 0, _, _ => none
  | n + 1, x1, x3 => if (7 * (σ.1 3)) ≤ x3 then M_X7_digest_72 σ 10000 x1 1 else (M_X7_toldOf σ (x3 / 7) (x3 - x3 / 7 * 7)).bind fun o58 => M_X7_digest_33 σ n ((31 * x1) + o58.toInt64) (x3 + 1)
def M_X7_digest_6 (σ : ST) : Nat → Int64 → Int32 → Option Int64
  | 0, _, _ => none
  | n + 1, x1, x3 => if 11 ≤ x3 then M_X7_digest_33 σ 10000 x1 0 else (M_X7_countOf σ x3).bind fun o19 => M_X7_digest_6 σ n ((31 * x1) + o19.toInt64) (x3 + 1)
def M_X7_digest (σ : ST) : Option Int64 := M_X7_digest_6 σ 10000 17 0
abbrev rm_X7_digest : Room := { frames := 3, cells := 0, slots := 0, locals := 66 }
set_option maxRecDepth 100000 in
set_option maxHeartbeats 4000000 in
theorem c_X7_digest (l : Launch) (d : CD) (q : Nat → Nat) (σ : ST) (out : Int64) (hm : M_X7_digest σ = some out) : MetL l yX7_digest cX7_digest 5 (some .long) rm_X7_digest d (mw q d σ) [.ref (q 0)] out (mw q d σ) := by
  refine mkL (own := RX7) (by decide +kernel) rfl (Nat.le_of_ble_eq_true rfl) ?_
  intro p e s m below meth c A ls C hS hl
  obtain ⟨hx, hb, hml, hown, hts, -⟩ := id C
  have hl : lv_has ls 5 [(0, .ref (q 0))] := hl
  have L195 : ∀ (k173 : Int64 → Int32 → Option Int64) (hk173 : ∀ (x1 : Int64) (x3 : Int32) (H : Heap) (locs : List Loc) (ls : Array Slot), HS d A s.heap H locs (mw q d σ) → lv_has ls 5 [(0, .ref (q 0)), (1, .long x1), (3, .int x3)] → k173 x1 x3 = some out → WL p l e rm_X7_digest s m [.ref (q 0)].toArray below meth c A d H locs out (mw q d σ) (F0 m 173 ls [])) (n : Nat) (x1 : Int64) (x3 : Int32) (x4 : Int32) (H : Heap) (locs : List Loc) (ls : Array Slot), HS d A s.heap H locs (mw q d σ) → lv_has ls 5 [(0, .ref (q 0)), (1, .long x1), (3, .int x3), (4, .int x4)] → M_X7_digest_195 σ k173 n x1 x3 x4 = some out → WL p l e rm_X7_digest s m [.ref (q 0)].toArray below meth c A d H locs out (mw q d σ) (F0 m 195 ls []) := by
    intro k173 hk173 n
    induction n with
    | zero =>
      intro x1 x3 x4 H locs ls hS hl hm
      exact absurd hm (by rw [M_X7_digest_195]; exact fun h => nomatch h)
    | succ n ih =>
      intro x1 x3 x4 H locs ls hS hl hm
      rw [M_X7_digest_195] at hm
      refine lv_iload hx hb dX7_digest_195 (lv_at hl 3 rfl) ?_
      refine lv_aload_n hx hb dX7_digest_197 rfl (lv_at hl 0 rfl) ?_
      refine g_7_28_0 C hS dX7_digest_198 ?_
      refine lv_iload_n hx hb dX7_digest_201 rfl (lv_at hl 2 rfl) ?_
      obtain ⟨v202, e202, hm⟩ := ob hm
      refine iald' C hS mw_a7 e202 dX7_digest_202 ?_
      refine lv_icmp_ge (tgt := 232) hx hb dX7_digest_203 (by decide) (fun c203 => ?_) (fun c203 => ?_)
      · replace hm := it c203 hm
        refine lv_iinc (v := x3 + 1) (lv' := [(3, .int (x3 + 1)), (0, .ref (q 0)), (1, .long x1), (4, .int x4)]) hx hb dX7_digest_232 hl (k := 2) rfl rfl (by decide) rfl (fun ls hl => ?_)
        refine lv_goto (tgt := 173) hx hb dX7_digest_235 (by decide) ?_
        exact hk173 x1 (x3 + 1) _ _ _ hS (lv_sub hl [1, 2, 0] rfl) hm
      · replace hm := ie c203 hm
        refine lv_ldc2 (v := 31) hx hb hown (hts _ lc_X7_303) dX7_digest_206 ?_
        refine lv_lload_n hx hb dX7_digest_209 rfl (lv_at hl 1 rfl) ?_
        refine lv_lmul hx hb dX7_digest_210 ?_
        refine lv_aload_n hx hb dX7_digest_211 rfl (lv_at hl 0 rfl) ?_
        refine g_7_31_0 C hS dX7_digest_212 ?_
        refine lv_bipush (v := 80) hx hb dX7_digest_215 (by decide) ?_
        refine lv_iload_n hx hb dX7_digest_217 rfl (lv_at hl 2 rfl) ?_
        refine lv_imul hx hb dX7_digest_218 ?_
        refine lv_iload hx hb dX7_digest_219 (lv_at hl 3 rfl) ?_
        refine lv_iadd hx hb dX7_digest_221 ?_
        obtain ⟨v222, e222, hm⟩ := ob hm
        refine iald' C hS mw_a8 e222 dX7_digest_222 ?_
        refine lv_i2l (v := v222.toInt64) hx hb dX7_digest_223 rfl ?_
        refine lv_ladd hx hb dX7_digest_224 ?_
        refine lv_lstore_n (lv' := [(1, .long ((31 * x1) + v222.toInt64)), (0, .ref (q 0)), (3, .int x3), (4, .int x4)]) hx hb dX7_digest_225 rfl hl (by decide) rfl (fun ls hl => ?_)
        refine lv_iinc (v := x4 + 1) (lv' := [(4, .int (x4 + 1)), (1, .long ((31 * x1) + v222.toInt64)), (0, .ref (q 0)), (3, .int x3)]) hx hb dX7_digest_226 hl (k := 3) rfl rfl (by decide) rfl (fun ls hl => ?_)
        refine lv_goto (tgt := 195) hx hb dX7_digest_229 (by decide) ?_
        exact ih ((31 * x1) + v222.toInt64) x3 (x4 + 1) _ _ _ hS (lv_sub hl [2, 1, 3, 0] rfl) hm
  have L173 : ∀ (n : Nat) (x1 : Int64) (x3 : Int32) (H : Heap) (locs : List Loc) (ls : Array Slot), HS d A s.heap H locs (mw q d σ) → lv_has ls 5 [(0, .ref (q 0)), (1, .long x1), (3, .int x3)] → M_X7_digest_173 σ n x1 x3 = some out → WL p l e rm_X7_digest s m [.ref (q 0)].toArray below meth c A d H locs out (mw q d σ) (F0 m 173 ls []) := by
    intro n
    induction n with
    | zero =>
      intro x1 x3 H locs ls hS hl hm
      exact absurd hm (by rw [M_X7_digest_173]; exact fun h => nomatch h)
    | succ n ih =>
      intro x1 x3 H locs ls hS hl hm
      rw [M_X7_digest_173] at hm
      refine lv_iload_n hx hb dX7_digest_173 rfl (lv_at hl 2 rfl) ?_
      refine lv_iconst (v := 4) hx hb dX7_digest_174 (by decide) ?_
      refine lv_icmp_ge (tgt := 238) hx hb dX7_digest_175 (by decide) (fun c175 => ?_) (fun c175 => ?_)
      · replace hm := it c175 hm
        refine lv_lload_n hx hb dX7_digest_238 rfl (lv_at hl 1 rfl) ?_
        exact retLr C hS hm dX7_digest_239
      · replace hm := ie c175 hm
        refine lv_ldc2 (v := 31) hx hb hown (hts _ lc_X7_303) dX7_digest_178 ?_
        refine lv_lload_n hx hb dX7_digest_181 rfl (lv_at hl 1 rfl) ?_
        refine lv_lmul hx hb dX7_digest_182 ?_
        refine lv_aload_n hx hb dX7_digest_183 rfl (lv_at hl 0 rfl) ?_
        refine g_7_28_0 C hS dX7_digest_184 ?_
        refine lv_iload_n hx hb dX7_digest_187 rfl (lv_at hl 2 rfl) ?_
        obtain ⟨v188, e188, hm⟩ := ob hm
        refine iald' C hS mw_a7 e188 dX7_digest_188 ?_
        refine lv_i2l (v := v188.toInt64) hx hb dX7_digest_189 rfl ?_
        refine lv_ladd hx hb dX7_digest_190 ?_
        refine lv_lstore_n (lv' := [(1, .long ((31 * x1) + v188.toInt64)), (0, .ref (q 0)), (3, .int x3)]) hx hb dX7_digest_191 rfl hl (by decide) rfl (fun ls hl => ?_)
        refine lv_iconst (v := 0) hx hb dX7_digest_192 (by decide) ?_
        refine lv_istore (lv' := [(4, .int 0), (1, .long ((31 * x1) + v188.toInt64)), (0, .ref (q 0)), (3, .int x3)]) hx hb dX7_digest_193 hl (by decide) rfl (fun ls hl => ?_)
        exact L195 (M_X7_digest_173 σ n) ih 10000 ((31 * x1) + v188.toInt64) x3 0 _ _ _ hS (lv_sub hl [2, 1, 3, 0] rfl) hm
  have L128 : ∀ (k105 : Int64 → Int32 → Option Int64) (hk105 : ∀ (x1 : Int64) (x3 : Int32) (H : Heap) (locs : List Loc) (ls : Array Slot), HS d A s.heap H locs (mw q d σ) → lv_has ls 5 [(0, .ref (q 0)), (1, .long x1), (3, .int x3)] → k105 x1 x3 = some out → WL p l e rm_X7_digest s m [.ref (q 0)].toArray below meth c A d H locs out (mw q d σ) (F0 m 105 ls [])) (n : Nat) (x1 : Int64) (x3 : Int32) (x4 : Int32) (H : Heap) (locs : List Loc) (ls : Array Slot), HS d A s.heap H locs (mw q d σ) → lv_has ls 5 [(0, .ref (q 0)), (1, .long x1), (3, .int x3), (4, .int x4)] → M_X7_digest_128 σ k105 n x1 x3 x4 = some out → WL p l e rm_X7_digest s m [.ref (q 0)].toArray below meth c A d H locs out (mw q d σ) (F0 m 128 ls []) := by
    intro k105 hk105 n
    induction n with
    | zero =>
      intro x1 x3 x4 H locs ls hS hl hm
      exact absurd hm (by rw [M_X7_digest_128]; exact fun h => nomatch h)
    | succ n ih =>
      intro x1 x3 x4 H locs ls hS hl hm
      rw [M_X7_digest_128] at hm
      refine lv_iload hx hb dX7_digest_128 (lv_at hl 3 rfl) ?_
      refine lv_aload_n hx hb dX7_digest_130 rfl (lv_at hl 0 rfl) ?_
      refine g_7_22_0 C hS dX7_digest_131 ?_
      refine lv_iload_n hx hb dX7_digest_134 rfl (lv_at hl 2 rfl) ?_
      obtain ⟨v135, e135, hm⟩ := ob hm
      refine iald' C hS mw_a5 e135 dX7_digest_135 ?_
      refine lv_icmp_ge (tgt := 165) hx hb dX7_digest_136 (by decide) (fun c136 => ?_) (fun c136 => ?_)
      · replace hm := it c136 hm
        refine lv_iinc (v := x3 + 1) (lv' := [(3, .int (x3 + 1)), (0, .ref (q 0)), (1, .long x1), (4, .int x4)]) hx hb dX7_digest_165 hl (k := 2) rfl rfl (by decide) rfl (fun ls hl => ?_)
        refine lv_goto (tgt := 105) hx hb dX7_digest_168 (by decide) ?_
        exact hk105 x1 (x3 + 1) _ _ _ hS (lv_sub hl [1, 2, 0] rfl) hm
      · replace hm := ie c136 hm
        refine lv_ldc2 (v := 31) hx hb hown (hts _ lc_X7_303) dX7_digest_139 ?_
        refine lv_lload_n hx hb dX7_digest_142 rfl (lv_at hl 1 rfl) ?_
        refine lv_lmul hx hb dX7_digest_143 ?_
        refine lv_aload_n hx hb dX7_digest_144 rfl (lv_at hl 0 rfl) ?_
        refine g_7_25_0 C hS dX7_digest_145 ?_
        refine lv_bipush (v := 40) hx hb dX7_digest_148 (by decide) ?_
        refine lv_iload_n hx hb dX7_digest_150 rfl (lv_at hl 2 rfl) ?_
        refine lv_imul hx hb dX7_digest_151 ?_
        refine lv_iload hx hb dX7_digest_152 (lv_at hl 3 rfl) ?_
        refine lv_iadd hx hb dX7_digest_154 ?_
        obtain ⟨v155, e155, hm⟩ := ob hm
        refine iald' C hS mw_a6 e155 dX7_digest_155 ?_
        refine lv_i2l (v := v155.toInt64) hx hb dX7_digest_156 rfl ?_
        refine lv_ladd hx hb dX7_digest_157 ?_
        refine lv_lstore_n (lv' := [(1, .long ((31 * x1) + v155.toInt64)), (0, .ref (q 0)), (3, .int x3), (4, .int x4)]) hx hb dX7_digest_158 rfl hl (by decide) rfl (fun ls hl => ?_)
        refine lv_iinc (v := x4 + 1) (lv' := [(4, .int (x4 + 1)), (1, .long ((31 * x1) + v155.toInt64)), (0, .ref (q 0)), (3, .int x3)]) hx hb dX7_digest_159 hl (k := 3) rfl rfl (by decide) rfl (fun ls hl => ?_)
        refine lv_goto (tgt := 128) hx hb dX7_digest_162 (by decide) ?_
        exact ih ((31 * x1) + v155.toInt64) x3 (x4 + 1) _ _ _ hS (lv_sub hl [2, 1, 3, 0] rfl) hm
  have L105 : ∀ (n : Nat) (x1 : Int64) (x3 : Int32) (H : Heap) (locs : List Loc) (ls : Array Slot), HS d A s.heap H locs (mw q d σ) → lv_has ls 5 [(0, .ref (q 0)), (1, .long x1), (3, .int x3)] → M_X7_digest_105 σ n x1 x3 = some out → WL p l e rm_X7_digest s m [.ref (q 0)].toArray below meth c A d H locs out (mw q d σ) (F0 m 105 ls []) := by
    intro n
    induction n with
    | zero =>
      intro x1 x3 H locs ls hS hl hm
      exact absurd hm (by rw [M_X7_digest_105]; exact fun h => nomatch h)
    | succ n ih =>
      intro x1 x3 H locs ls hS hl hm
      rw [M_X7_digest_105] at hm
      refine lv_iload_n hx hb dX7_digest_105 rfl (lv_at hl 2 rfl) ?_
      refine lv_bipush (v := 6) hx hb dX7_digest_106 (by decide) ?_
      refine lv_icmp_ge (tgt := 171) hx hb dX7_digest_108 (by decide) (fun c108 => ?_) (fun c108 => ?_)
      · replace hm := it c108 hm
        refine lv_iconst (v := 0) hx hb dX7_digest_171 (by decide) ?_
        refine lv_istore_n (lv' := [(3, .int 0), (0, .ref (q 0)), (1, .long x1)]) hx hb dX7_digest_172 rfl hl (by decide) rfl (fun ls hl => ?_)
        exact L173 10000 x1 0 _ _ _ hS (lv_sub hl [1, 2, 0] rfl) hm
      · replace hm := ie c108 hm
        refine lv_ldc2 (v := 31) hx hb hown (hts _ lc_X7_303) dX7_digest_111 ?_
        refine lv_lload_n hx hb dX7_digest_114 rfl (lv_at hl 1 rfl) ?_
        refine lv_lmul hx hb dX7_digest_115 ?_
        refine lv_aload_n hx hb dX7_digest_116 rfl (lv_at hl 0 rfl) ?_
        refine g_7_22_0 C hS dX7_digest_117 ?_
        refine lv_iload_n hx hb dX7_digest_120 rfl (lv_at hl 2 rfl) ?_
        obtain ⟨v121, e121, hm⟩ := ob hm
        refine iald' C hS mw_a5 e121 dX7_digest_121 ?_
        refine lv_i2l (v := v121.toInt64) hx hb dX7_digest_122 rfl ?_
        refine lv_ladd hx hb dX7_digest_123 ?_
        refine lv_lstore_n (lv' := [(1, .long ((31 * x1) + v121.toInt64)), (0, .ref (q 0)), (3, .int x3)]) hx hb dX7_digest_124 rfl hl (by decide) rfl (fun ls hl => ?_)
        refine lv_iconst (v := 0) hx hb dX7_digest_125 (by decide) ?_
        refine lv_istore (lv' := [(4, .int 0), (1, .long ((31 * x1) + v121.toInt64)), (0, .ref (q 0)), (3, .int x3)]) hx hb dX7_digest_126 hl (by decide) rfl (fun ls hl => ?_)
        exact L128 (M_X7_digest_105 σ n) ih 10000 ((31 * x1) + v121.toInt64) x3 0 _ _ _ hS (lv_sub hl [2, 1, 3, 0] rfl) hm
  have L72 : ∀ (n : Nat) (x1 : Int64) (x3 : Int32) (H : Heap) (locs : List Loc) (ls : Array Slot), HS d A s.heap H locs (mw q d σ) → lv_has ls 5 [(0, .ref (q 0)), (1, .long x1), (3, .int x3)] → M_X7_digest_72 σ n x1 x3 = some out → WL p l e rm_X7_digest s m [.ref (q 0)].toArray below meth c A d H locs out (mw q d σ) (F0 m 72 ls []) := by
    intro n
    induction n with
    | zero =>
      intro x1 x3 H locs ls hS hl hm
      exact absurd hm (by rw [M_X7_digest_72]; exact fun h => nomatch h)
    | succ n ih =>
      intro x1 x3 H locs ls hS hl hm
      rw [M_X7_digest_72] at hm
      refine lv_iload_n hx hb dX7_digest_72 rfl (lv_at hl 2 rfl) ?_
      refine lv_iconst (v := 4) hx hb dX7_digest_73 (by decide) ?_
      refine lv_icmp_ge (tgt := 103) hx hb dX7_digest_74 (by decide) (fun c74 => ?_) (fun c74 => ?_)
      · replace hm := it c74 hm
        refine lv_iconst (v := 0) hx hb dX7_digest_103 (by decide) ?_
        refine lv_istore_n (lv' := [(3, .int 0), (0, .ref (q 0)), (1, .long x1)]) hx hb dX7_digest_104 rfl hl (by decide) rfl (fun ls hl => ?_)
        exact L105 10000 x1 0 _ _ _ hS (lv_sub hl [1, 2, 0] rfl) hm
      · replace hm := ie c74 hm
        refine lv_ldc2 (v := 31) hx hb hown (hts _ lc_X7_303) dX7_digest_77 ?_
        refine lv_lload_n hx hb dX7_digest_80 rfl (lv_at hl 1 rfl) ?_
        refine lv_lmul hx hb dX7_digest_81 ?_
        refine lv_aload_n hx hb dX7_digest_82 rfl (lv_at hl 0 rfl) ?_
        refine g_7_7_0 C hS dX7_digest_83 ?_
        refine lv_sipush (v := 944) hx hb dX7_digest_86 (by decide) ?_
        refine lv_iload_n hx hb dX7_digest_89 rfl (lv_at hl 2 rfl) ?_
        refine lv_imul hx hb dX7_digest_90 ?_
        refine lv_iconst (v := 0) hx hb dX7_digest_91 (by decide) ?_
        refine lv_iadd hx hb dX7_digest_92 ?_
        obtain ⟨v93, e93, hm⟩ := ob hm
        refine iald' C hS mw_a1 e93 dX7_digest_93 ?_
        refine lv_i2l (v := v93.toInt64) hx hb dX7_digest_94 rfl ?_
        refine lv_ladd hx hb dX7_digest_95 ?_
        refine lv_lstore_n (lv' := [(1, .long ((31 * x1) + v93.toInt64)), (0, .ref (q 0)), (3, .int x3)]) hx hb dX7_digest_96 rfl hl (by decide) rfl (fun ls hl => ?_)
        refine lv_iinc (v := x3 + 1) (lv' := [(3, .int (x3 + 1)), (1, .long ((31 * x1) + v93.toInt64)), (0, .ref (q 0))]) hx hb dX7_digest_97 hl (k := 2) rfl rfl (by decide) rfl (fun ls hl => ?_)
        refine lv_goto (tgt := 72) hx hb dX7_digest_100 (by decide) ?_
        exact ih ((31 * x1) + v93.toInt64) (x3 + 1) _ _ _ hS (lv_sub hl [2, 1, 0] rfl) hm
  have L33 : ∀ (n : Nat) (x1 : Int64) (x3 : Int32) (H : Heap) (locs : List Loc) (ls : Array Slot), HS d A s.heap H locs (mw q d σ) → lv_has ls 5 [(0, .ref (q 0)), (1, .long x1), (3, .int x3)] → M_X7_digest_33 σ n x1 x3 = some out → WL p l e rm_X7_digest s m [.ref (q 0)].toArray below meth c A d H locs out (mw q d σ) (F0 m 33 ls []) := by
    intro n
    induction n with
    | zero =>
      intro x1 x3 H locs ls hS hl hm
      exact absurd hm (by rw [M_X7_digest_33]; exact fun h => nomatch h)
    | succ n ih =>
      intro x1 x3 H locs ls hS hl hm
      rw [M_X7_digest_33] at hm
      refine lv_iload_n hx hb dX7_digest_33 rfl (lv_at hl 2 rfl) ?_
      refine lv_bipush (v := 7) hx hb dX7_digest_34 (by decide) ?_
      refine lv_aload_n hx hb dX7_digest_36 rfl (lv_at hl 0 rfl) ?_
      refine g_7_158_0 C hS dX7_digest_37 ?_
      refine lv_imul hx hb dX7_digest_40 ?_
      refine lv_icmp_ge (tgt := 70) hx hb dX7_digest_41 (by decide) (fun c41 => ?_) (fun c41 => ?_)
      · replace hm := it c41 hm
        refine lv_iconst (v := 1) hx hb dX7_digest_70 (by decide) ?_
        refine lv_istore_n (lv' := [(3, .int 1), (0, .ref (q 0)), (1, .long x1)]) hx hb dX7_digest_71 rfl hl (by decide) rfl (fun ls hl => ?_)
        exact L72 10000 x1 1 _ _ _ hS (lv_sub hl [1, 2, 0] rfl) hm
      · replace hm := ie c41 hm
        refine lv_ldc2 (v := 31) hx hb hown (hts _ lc_X7_303) dX7_digest_44 ?_
        refine lv_lload_n hx hb dX7_digest_47 rfl (lv_at hl 1 rfl) ?_
        refine lv_lmul hx hb dX7_digest_48 ?_
        refine lv_aload_n hx hb dX7_digest_49 rfl (lv_at hl 0 rfl) ?_
        refine lv_iload_n hx hb dX7_digest_50 rfl (lv_at hl 2 rfl) ?_
        refine lv_bipush (v := 7) hx hb dX7_digest_51 (by decide) ?_
        refine lv_idiv hx hb dX7_digest_53 (by decide) ?_
        refine lv_iload_n hx hb dX7_digest_54 rfl (lv_at hl 2 rfl) ?_
        refine lv_bipush (v := 7) hx hb dX7_digest_55 (by decide) ?_
        refine lv_irem hx hb dX7_digest_57 (by decide) ?_
        obtain ⟨o58, e58, hm⟩ := ob hm
        refine after_i C hS (call_V (As := [.int (x3 / 7), .int (x3 - x3 / 7 * 7)]) C hS (c_X7_toldOf l d q σ (x3 / 7) (x3 - x3 / 7 * 7) o58 e58 _) iv_7_184 ⟨rfl, rfl, Nat.le_of_ble_eq_true rfl, Nat.le_of_ble_eq_true rfl⟩ mw_o0 rfl rfl rfl hl.1 (Nat.le_of_ble_eq_true rfl) dX7_digest_58) (fun H locs hS => ?_)
        refine lv_i2l (v := o58.toInt64) hx hb dX7_digest_61 rfl ?_
        refine lv_ladd hx hb dX7_digest_62 ?_
        refine lv_lstore_n (lv' := [(1, .long ((31 * x1) + o58.toInt64)), (0, .ref (q 0)), (3, .int x3)]) hx hb dX7_digest_63 rfl hl (by decide) rfl (fun ls hl => ?_)
        refine lv_iinc (v := x3 + 1) (lv' := [(3, .int (x3 + 1)), (1, .long ((31 * x1) + o58.toInt64)), (0, .ref (q 0))]) hx hb dX7_digest_64 hl (k := 2) rfl rfl (by decide) rfl (fun ls hl => ?_)
        refine lv_goto (tgt := 33) hx hb dX7_digest_67 (by decide) ?_
        exact ih ((31 * x1) + o58.toInt64) (x3 + 1) _ _ _ hS (lv_sub hl [2, 1, 0] rfl) hm
  have L6 : ∀ (n : Nat) (x1 : Int64) (x3 : Int32) (H : Heap) (locs : List Loc) (ls : Array Slot), HS d A s.heap H locs (mw q d σ) → lv_has ls 5 [(0, .ref (q 0)), (1, .long x1), (3, .int x3)] → M_X7_digest_6 σ n x1 x3 = some out → WL p l e rm_X7_digest s m [.ref (q 0)].toArray below meth c A d H locs out (mw q d σ) (F0 m 6 ls []) := by
    intro n
    induction n with
    | zero =>
      intro x1 x3 H locs ls hS hl hm
      exact absurd hm (by rw [M_X7_digest_6]; exact fun h => nomatch h)
    | succ n ih =>
      intro x1 x3 H locs ls hS hl hm
      rw [M_X7_digest_6] at hm
      refine lv_iload_n hx hb dX7_digest_6 rfl (lv_at hl 2 rfl) ?_
      refine lv_bipush (v := 11) hx hb dX7_digest_7 (by decide) ?_
      refine lv_icmp_ge (tgt := 31) hx hb dX7_digest_9 (by decide) (fun c9 => ?_) (fun c9 => ?_)
      · replace hm := it c9 hm
        refine lv_iconst (v := 0) hx hb dX7_digest_31 (by decide) ?_
        refine lv_istore_n (lv' := [(3, .int 0), (0, .ref (q 0)), (1, .long x1)]) hx hb dX7_digest_32 rfl hl (by decide) rfl (fun ls hl => ?_)
        exact L33 10000 x1 0 _ _ _ hS (lv_sub hl [1, 2, 0] rfl) hm
      · replace hm := ie c9 hm
        refine lv_ldc2 (v := 31) hx hb hown (hts _ lc_X7_303) dX7_digest_12 ?_
        refine lv_lload_n hx hb dX7_digest_15 rfl (lv_at hl 1 rfl) ?_
        refine lv_lmul hx hb dX7_digest_16 ?_
        refine lv_aload_n hx hb dX7_digest_17 rfl (lv_at hl 0 rfl) ?_
        refine lv_iload_n hx hb dX7_digest_18 rfl (lv_at hl 2 rfl) ?_
        obtain ⟨o19, e19, hm⟩ := ob hm
        refine after_i C hS (call_V (As := [.int x3]) C hS (c_X7_countOf l d q σ x3 o19 e19 _) iv_7_298 ⟨rfl, rfl, Nat.le_of_ble_eq_true rfl, Nat.le_of_ble_eq_true rfl⟩ mw_o0 rfl rfl rfl hl.1 (Nat.le_of_ble_eq_true rfl) dX7_digest_19) (fun H locs hS => ?_)
        refine lv_i2l (v := o19.toInt64) hx hb dX7_digest_22 rfl ?_
        refine lv_ladd hx hb dX7_digest_23 ?_
        refine lv_lstore_n (lv' := [(1, .long ((31 * x1) + o19.toInt64)), (0, .ref (q 0)), (3, .int x3)]) hx hb dX7_digest_24 rfl hl (by decide) rfl (fun ls hl => ?_)
        refine lv_iinc (v := x3 + 1) (lv' := [(3, .int (x3 + 1)), (1, .long ((31 * x1) + o19.toInt64)), (0, .ref (q 0))]) hx hb dX7_digest_25 hl (k := 2) rfl rfl (by decide) rfl (fun ls hl => ?_)
        refine lv_goto (tgt := 6) hx hb dX7_digest_28 (by decide) ?_
        exact ih ((31 * x1) + o19.toInt64) (x3 + 1) _ _ _ hS (lv_sub hl [2, 1, 0] rfl) hm
  unfold M_X7_digest at hm
  refine lv_ldc2 (v := 17) hx hb hown (hts _ lc_X7_301) dX7_digest_0 ?_
  refine lv_lstore_n (lv' := [(1, .long 17), (0, .ref (q 0))]) hx hb dX7_digest_3 rfl hl (by decide) rfl (fun ls hl => ?_)
  refine lv_iconst (v := 0) hx hb dX7_digest_4 (by decide) ?_
  refine lv_istore_n (lv' := [(3, .int 0), (1, .long 17), (0, .ref (q 0))]) hx hb dX7_digest_5 rfl hl (by decide) rfl (fun ls hl => ?_)
  exact L6 10000 17 0 _ _ _ hS (lv_sub hl [2, 1, 0] rfl) hm
