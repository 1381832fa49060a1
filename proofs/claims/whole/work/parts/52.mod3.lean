/-! THE REFERENCE: adding an element at an end. -/
theorem wf_lt {M : Nat} {T : Tr} (h : wfT M T) (hl : T.1.length < 80) (k : Nat) : (T.2.1 k).length < 80 := by
  by_cases hk : k = 0 ∨ T.2.2 < k
  · rw [h.2.2.2.1 k hk]; simp
  · have h1 := wf_cn_le h k (by omega)
    rw [cn_p T (by omega)] at h1
    omega
theorem WRow.set {R R' : RA} {a l c y : Nat} {Q : List Nat} (h : WRow R a l Q) (hc : c < Q.length) (h8 : R' 8 (8 * a + l) = R 8 (8 * a + l)) (hs : R' 7 (480 * a + 80 * (l - 1) + c) = nI y) (h7 : ∀ j, j < 80 → j ≠ c → R' 7 (480 * a + 80 * (l - 1) + j) = R 7 (480 * a + 80 * (l - 1) + j)) : WRow R' a l (Q.set c y) := by
  refine ⟨by rw [h8, h.1, List.length_set], by rw [List.length_set]; exact h.2.1, fun j hj => ?_⟩
  rw [List.length_set] at hj
  have := h.2.1
  rw [gd_set hc]
  by_cases e : j = c
  · rw [if_pos e, e]; exact hs
  · rw [if_neg e, h7 j (by omega) e]; exact h.2.2 j hj
set_option maxRecDepth 100000 in
set_option maxHeartbeats 4000000 in
theorem c_Mod_addEnd (N : gN) (w0 w : gW) (m : Nat) (R : RA) (md a : Nat) (x : Int32) (T : Tr) (ha : a < 3) (hw : wfT 5 T) (hl : T.1.length < 80) (hR : RefW w0 w m R md) (hW : WkR R a T) : CtN N y_Mod_add b_Mod_add 9 none (rmm 2 48 0 0) [.ref m, .int (nI a), .int x, .int (nI 1)] w (pV (fun w' => ∃ R', RefW w0 w' m R' md ∧ WkR R' a (addEnd T x) ∧ FrW a R R')) 0 0 := by
  refine ct_intro N [some (.ref m), some (.int (nI a)), some (.int x), some (.int (nI 1)), none, none, none, none, none] (by decide) rfl (Nat.le_of_ble_eq_true rfl) (by simp [Value.category]) ?_
  intro X hX C Rr
  have h5 := hw.2.1
  have rl := wf_lt hw hl
  have L1l : (T.1 ++ [x]).length = T.1.length + 1 := by simp
  have fin : ∀ t, 1 ≤ t → t ≤ T.2.2 + 1 → addAt endOf T.2.1 T.2.2 = t → ∀ i, i ≤ t → ∀ w1 R1, 1 ≤ i → RefW w0 w1 m R1 md → FrW a R R1 → WE R1 a (T.1 ++ [x]) → R1 10 a = nI (if t ≤ T.2.2 then T.2.2 else T.2.2 + 1) → (∀ l, 1 ≤ l → l ≤ 6 → WRow R1 a l (if l < i then (T.2.1 l ++ [1]) else if l = t then (if t ≤ T.2.2 then ((T.2.1 t).set ((T.2.1 t).length - 1) (endOf (T.2.1 t) + 1)) else [if T.2.2 = 0 then 1 else 2]) else T.2.1 l)) → V X w1 0 0 [some (.ref m), some (.int (nI a)), some (.int x), some (.int (nI 1)), some (.int (nI T.1.length)), some (.int (nI T.2.2)), some (.int (nI t)), some (.int (nI i)), none] [] 240 := by
    intro t t1 th ht
    refine upto _ (fun i hi ih w R1 i1 hR hF hE hH hQ => ?_)
    refine g_ld C d_Mod_add_240 rfl ?_
    refine g_ld C d_Mod_add_242 rfl ?_
    refine g_icmp_ge C 281 d_Mod_add_244 (by decide) (by first | exact nI_toInt (by omega) | rfl) (by first | exact nI_toInt (by omega) | rfl) (fun b244 => ?_) (fun b244 => ?_)
    · have e : i = t := by omega
      subst e
      refine g_vret C Rr d_Mod_add_281 (by decide) (by decide) ⟨rfl, R1, hR, ⟨hE, ?_, fun l l1 l6 => ?_⟩, hF⟩
      · unfold addEnd; rw [ht]; exact hH
      · have q := hQ l l1 l6
        have : (addEnd T x).2.1 l = (if l < i then (T.2.1 l ++ [1]) else if l = i then (if i ≤ T.2.2 then ((T.2.1 i).set ((T.2.1 i).length - 1) (endOf (T.2.1 i) + 1)) else [if T.2.2 = 0 then 1 else 2]) else T.2.1 l) := by
          unfold addEnd
          dsimp only
          rw [ht]
          unfold addRows
          by_cases e1 : l < i
          · rw [if_pos ⟨l1, e1⟩, if_pos e1]
          · rw [if_neg (by omega), if_neg e1]
            by_cases e2 : l = i
            · rw [if_pos e2, if_pos e2, e2]
            · rw [if_neg e2, if_neg e2]
        rw [this]; exact q
    · have qi := hQ i i1 (by omega)
      rw [if_neg (by omega), if_neg (by omega)] at qi
      refine g_aldn C d_Mod_add_247 rfl ?_
      refine g_ldn C d_Mod_add_248 rfl ?_
      refine g_ld C d_Mod_add_249 rfl ?_
      refine g_ldn C d_Mod_add_251 rfl ?_
      refine g_if_eq C 270 d_Mod_add_252 (by decide) (by first | exact nI_toInt (by omega) | rfl) (fun b252 => ?_) (fun b252 => ?_)
      · exfalso; omega
      · refine g_aldn C d_Mod_add_255 rfl ?_
        refine r_f9 C d_Mod_add_256 hR ?_
        refine g_bipush (v := nI 8) C d_Mod_add_259 (by decide) ?_
        refine g_ldn C d_Mod_add_261 rfl ?_
        first | refine g_mulN C d_Mod_add_262 ?_ | refine g_mul C d_Mod_add_262 ?_
        refine g_ld C d_Mod_add_263 rfl ?_
        first | refine g_addN C d_Mod_add_265 ?_ | refine g_add C d_Mod_add_265 ?_
        refine r_ld8 C d_Mod_add_266 hR (by omega) qi.1 ?_
        refine g_goto C 271 d_Mod_add_267 (by decide) ?_
        refine g_iconst (v := nI 1) C d_Mod_add_271 rfl ?_
        refine g_callV (ci := kMod) C d_Mod_add_272 cw_Mod_67 sl_Mod_enter (c_Mod_enter X.1 w0 w m R1 md a i ((T.2.1 i).length) 1 (T.2.1 i) ha i1 (by omega) (by omega) (rl i) hR qi) rfl hR.2.1 (As := [.int (nI a), .int (nI i), .int (nI (T.2.1 i).length), .int (nI 1)]) rfl rfl rfl (Nat.le_of_ble_eq_true rfl) ⟨rfl, rfl, by decide, by decide⟩ ⟨by decide, by decide⟩ (kV (fun w2 h2 => ?_))
        obtain ⟨R2, hR, hW2, hF2⟩ := h2
        rw [show insL (T.2.1 i) (T.2.1 i).length 1 = (T.2.1 i ++ [1]) by unfold insL; simp] at hW2
        refine g_incN C [_, _, _, _, _, _, _, _, _] d_Mod_add_275 rfl rfl ?_
        refine g_goto C 240 d_Mod_add_278 (by decide) ?_
        refine ih (i + 1) (by omega) (by omega) w2 R2 (by omega) hR (hF.trans (hF2.w i1 (by omega))) (hE.frL hF2) ((hF2 _ _ (by unfold LA; omega)).trans hH) (fun l l1 l6 => ?_)
        by_cases e : l = i
        · rw [e, if_pos (by omega)]; exact hW2
        · have q := (hQ l l1 l6).frL hF2 l1 l6 i1 (by omega) (by omega)
          by_cases e2 : l < i
          · rw [if_pos e2] at q; rw [if_pos (by omega)]; exact q
          · rw [if_neg e2] at q; rw [if_neg (by omega)]; exact q
  have tail : ∀ c w1 R1, RefW w0 w1 m R1 md → FrW a R R1 → WE R1 a (T.1 ++ [x]) → R1 10 a = nI T.2.2 → (∀ l, 1 ≤ l → l ≤ 6 → WRow R1 a l (T.2.1 l)) → ((c = 0 ∧ ∀ k, 0 < k → k ≤ T.2.2 → 4 ≤ endOf (T.2.1 k)) ∨ (0 < c ∧ c ≤ T.2.2 ∧ endOf (T.2.1 c) < 4 ∧ ∀ k, 0 < k → k < c → 4 ≤ endOf (T.2.1 k))) → V X w1 0 0 [some (.ref m), some (.int (nI a)), some (.int x), some (.int (nI 1)), some (.int (nI T.1.length)), some (.int (nI T.2.2)), some (.int (nI c)), none, none] [] 156 := by
    intro c w R1 hR hF hE hH hQ hI
    have c31 : c < 2 ^ 31 := by omega
    refine g_ld C d_Mod_add_156 rfl ?_
    refine g_if_le C 205 d_Mod_add_158 (by decide) (by first | exact nI_toInt (by omega) | rfl) (fun b158 => ?_) (fun b158 => ?_)
    · obtain ⟨c0, hc⟩ : c = 0 ∧ ∀ k, 0 < k → k ≤ T.2.2 → 4 ≤ endOf (T.2.1 k) := by
        rcases hI with h | h
        · exact h
        · exfalso; omega
      subst c0
      have ht : addAt endOf T.2.1 T.2.2 = T.2.2 + 1 := addAt_eq (by omega) (by omega) (fun k a b => hc k (by omega) (by omega)) (fun z => by omega)
      have e0 := hw.2.2.2.1 (T.2.2 + 1) (by omega)
      have q0 := hQ (T.2.2 + 1) (by omega) (by omega)
      rw [e0] at q0
      refine g_ld C d_Mod_add_205 rfl ?_
      refine g_iconst (v := nI 1) C d_Mod_add_207 rfl ?_
      first | refine g_addN C d_Mod_add_208 ?_ | refine g_add C d_Mod_add_208 ?_
      refine g_st C [_, _, _, _, _, _, _, _, _] d_Mod_add_209 (Nat.le_of_ble_eq_true rfl) rfl ?_
      refine g_aldn C d_Mod_add_211 rfl ?_
      refine g_ldn C d_Mod_add_212 rfl ?_
      refine g_ld C d_Mod_add_213 rfl ?_
      refine g_iconst (v := nI 0) C d_Mod_add_215 rfl ?_
      refine g_ld C d_Mod_add_216 rfl ?_
      have body : ∀ y, y = (if T.2.2 = 0 then 1 else 2) → V X w 0 0 [some (.ref m), some (.int (nI a)), some (.int x), some (.int (nI 1)), some (.int (nI T.1.length)), some (.int (nI T.2.2)), some (.int (nI (T.2.2 + 1))), none, none] [.int (nI y), .int (nI 0), .int (nI (T.2.2 + 1)), .int (nI a), .ref m] 226 := by
        intro y hy
        refine g_callV (ci := kMod) C d_Mod_add_226 cw_Mod_67 sl_Mod_enter (c_Mod_enter X.1 w0 w m R1 md a (T.2.2 + 1) 0 y [] ha (by omega) (by omega) (by simp) (by simp) hR q0) rfl hR.2.1 (As := [.int (nI a), .int (nI (T.2.2 + 1)), .int (nI 0), .int (nI y)]) rfl rfl rfl (Nat.le_of_ble_eq_true rfl) ⟨rfl, rfl, by decide, by decide⟩ ⟨by decide, by decide⟩ (kV (fun w2 h2 => ?_))
        obtain ⟨R2, hR, hW2, hF2⟩ := h2
        rw [show insL [] 0 y = [y] from rfl] at hW2
        refine g_aldn C d_Mod_add_229 rfl ?_
        refine r_f11 C d_Mod_add_230 hR ?_
        refine g_ldn C d_Mod_add_233 rfl ?_
        refine g_ld C d_Mod_add_234 rfl ?_
        refine r_st10 C d_Mod_add_236 hR (by omega) (fun w hR => ?_)
        refine g_iconst (v := nI 1) C d_Mod_add_237 rfl ?_
        refine g_st C [_, _, _, _, _, _, _, _, _] d_Mod_add_238 (Nat.le_of_ble_eq_true rfl) rfl ?_
        refine fin (T.2.2 + 1) (by omega) (by omega) ht 1 (by omega) _ _ (by omega) hR ((hF.trans (hF2.w (by omega) (by omega))).up (by unfold WA; omega)) ⟨(rupn (by omega)).trans (hE.frL hF2).1, hE.2.1, fun q hq => (rupn (by omega)).trans ((hE.frL hF2).2.2 q hq)⟩ (by rw [if_neg (by omega)]; exact rups) (fun l l1 l6 => ?_)
        rw [if_neg (by omega)]
        by_cases e : l = T.2.2 + 1
        · subst e; rw [if_pos rfl, if_neg (by omega), ← hy]; exact hW2.fr (rupn (by omega)) (fun q hq => rupn (by omega))
        · rw [if_neg e]; exact ((hQ l l1 l6).frL hF2 l1 l6 (by omega) (by omega) (by omega)).fr (rupn (by omega)) (fun q hq => rupn (by omega))
      refine g_if_ne C 225 d_Mod_add_218 (by decide) (by first | exact nI_toInt (by omega) | rfl) (fun b218 => ?_) (fun b218 => ?_)
      · refine g_iconst (v := nI 2) C d_Mod_add_225 rfl ?_
        exact body 2 (by rw [if_neg (by omega)])
      · refine g_iconst (v := nI 1) C d_Mod_add_221 rfl ?_
        refine g_goto C 226 d_Mod_add_222 (by decide) ?_
        exact body 1 (by rw [if_pos (by omega)])
    · obtain ⟨c0, ch, cg, hc⟩ : 0 < c ∧ c ≤ T.2.2 ∧ endOf (T.2.1 c) < 4 ∧ ∀ k, 0 < k → k < c → 4 ≤ endOf (T.2.1 k) := by
        rcases hI with h | h
        · exfalso; omega
        · exact h
      have ht : addAt endOf T.2.1 T.2.2 = c := addAt_eq (by omega) (by omega) (fun k a b => hc k (by omega) b) (fun z => cg)
      have qc := hQ c (by omega) (by omega)
      have ne := wf_ne hw (k := c) (by omega) ch
      have rc := rl c
      refine g_ldn C d_Mod_add_161 rfl ?_
      refine g_if_eq C 182 d_Mod_add_162 (by decide) (by first | exact nI_toInt (by omega) | rfl) (fun b162 => ?_) (fun b162 => ?_)
      · exfalso; omega
      · refine g_aldn C d_Mod_add_165 rfl ?_
        refine r_f9 C d_Mod_add_166 hR ?_
        refine g_bipush (v := nI 8) C d_Mod_add_169 (by decide) ?_
        refine g_ldn C d_Mod_add_171 rfl ?_
        first | refine g_mulN C d_Mod_add_172 ?_ | refine g_mul C d_Mod_add_172 ?_
        refine g_ld C d_Mod_add_173 rfl ?_
        first | refine g_addN C d_Mod_add_175 ?_ | refine g_add C d_Mod_add_175 ?_
        refine r_ld8 C d_Mod_add_176 hR (by omega) qc.1 ?_
        refine g_iconst (v := nI 1) C d_Mod_add_177 rfl ?_
        first | refine g_subN C d_Mod_add_178 (by omega) ?_ | refine g_sub C d_Mod_add_178 ?_
        refine g_goto C 183 d_Mod_add_179 (by decide) ?_
        refine g_st C [_, _, _, _, _, _, _, _, _] d_Mod_add_183 (Nat.le_of_ble_eq_true rfl) rfl ?_
        refine g_aldn C d_Mod_add_185 rfl ?_
        refine r_f8 C d_Mod_add_186 hR ?_
        refine g_ldn C d_Mod_add_189 rfl ?_
        refine g_ld C d_Mod_add_190 rfl ?_
        refine g_ld C d_Mod_add_192 rfl ?_
        refine r_cell C d_Mod_add_194 (by omega) rfl (Nat.le_of_ble_eq_true rfl) (by decide) (by decide) (by decide) (by decide) ?_
        refine g_dup2 C d_Mod_add_197 rfl rfl ?_
        refine r_ld7 C d_Mod_add_198 hR (by omega) (qc.2.2 ((T.2.1 c).length - 1) (by omega)) ?_
        refine g_iconst (v := nI 1) C d_Mod_add_199 rfl ?_
        first | refine g_addN C d_Mod_add_200 ?_ | refine g_add C d_Mod_add_200 ?_
        refine r_st7 C d_Mod_add_201 hR (by omega) (fun w hR => ?_)
        refine g_goto C 237 d_Mod_add_202 (by decide) ?_
        refine g_iconst (v := nI 1) C d_Mod_add_237 rfl ?_
        refine g_st C [_, _, _, _, _, _, _, _, _] d_Mod_add_238 (Nat.le_of_ble_eq_true rfl) rfl ?_
        refine fin c (by omega) (by omega) ht 1 (by omega) _ _ (by omega) hR (hF.up (by unfold WA; omega)) ⟨(rupn (by omega)).trans hE.1, hE.2.1, fun q hq => (rupn (by omega)).trans (hE.2.2 q hq)⟩ (by rw [if_pos ch]; exact (rupn (by omega)).trans hH) (fun l l1 l6 => ?_)
        rw [if_neg (by omega)]
        by_cases e : l = c
        · subst e; rw [if_pos rfl, if_pos ch]; exact qc.set (by omega) (rupn (by omega)) rups (fun q hq hne => rupn (by omega))
        · rw [if_neg e]; exact (hQ l l1 l6).fr (rupn (by omega)) (fun q hq => rupn (by omega))
  have srch : ∀ w1 R1, RefW w0 w1 m R1 md → FrW a R R1 → WE R1 a (T.1 ++ [x]) → R1 10 a = nI T.2.2 → (∀ l, 1 ≤ l → l ≤ 6 → WRow R1 a l (T.2.1 l)) → ∀ i c, i ≤ T.2.2 → ((c = 0 ∧ ∀ k, i < k → k ≤ T.2.2 → 4 ≤ endOf (T.2.1 k)) ∨ (i < c ∧ c ≤ T.2.2 ∧ endOf (T.2.1 c) < 4 ∧ ∀ k, i < k → k < c → 4 ≤ endOf (T.2.1 k))) → V X w1 0 0 [some (.ref m), some (.int (nI a)), some (.int x), some (.int (nI 1)), some (.int (nI T.1.length)), some (.int (nI T.2.2)), some (.int (nI c)), some (.int (nI i)), none] [] 99 := by
    intro w R1 hR hF hE hH hQ i
    induction i with
    | zero =>
      intro c hi hI
      refine g_ld C d_Mod_add_99 rfl ?_
      refine g_iconst (v := nI 1) C d_Mod_add_101 rfl ?_
      refine g_icmp_lt C 156 d_Mod_add_102 (by decide) (by first | exact nI_toInt (by omega) | rfl) (by first | exact nI_toInt (by omega) | rfl) (fun b102 => ?_) (fun b102 => ?_)
      · refine V.le (lvle.keep (lvle.keep (lvle.keep (lvle.keep (lvle.keep (lvle.keep (lvle.keep (lvle.drop (lvle.drop lvle.nil))))))))) ?_
        exact tail c w R1 hR hF hE hH hQ hI
      · exfalso; omega
    | succ i ih =>
      intro c hi hI
      have qi := hQ (i + 1) (by omega) (by omega)
      have ne := wf_ne hw (k := i + 1) (by omega) hi
      have ri := rl (i + 1)
      refine g_ld C d_Mod_add_99 rfl ?_
      refine g_iconst (v := nI 1) C d_Mod_add_101 rfl ?_
      refine g_icmp_lt C 156 d_Mod_add_102 (by decide) (by first | exact nI_toInt (by omega) | rfl) (by first | exact nI_toInt (by omega) | rfl) (fun b102 => ?_) (fun b102 => ?_)
      · exfalso; omega
      · refine g_ldn C d_Mod_add_105 rfl ?_
        refine g_if_eq C 126 d_Mod_add_106 (by decide) (by first | exact nI_toInt (by omega) | rfl) (fun b106 => ?_) (fun b106 => ?_)
        · exfalso; omega
        · refine g_aldn C d_Mod_add_109 rfl ?_
          refine r_f9 C d_Mod_add_110 hR ?_
          refine g_bipush (v := nI 8) C d_Mod_add_113 (by decide) ?_
          refine g_ldn C d_Mod_add_115 rfl ?_
          first | refine g_mulN C d_Mod_add_116 ?_ | refine g_mul C d_Mod_add_116 ?_
          refine g_ld C d_Mod_add_117 rfl ?_
          first | refine g_addN C d_Mod_add_119 ?_ | refine g_add C d_Mod_add_119 ?_
          refine r_ld8 C d_Mod_add_120 hR (by omega) qi.1 ?_
          refine g_iconst (v := nI 1) C d_Mod_add_121 rfl ?_
          first | refine g_subN C d_Mod_add_122 (by omega) ?_ | refine g_sub C d_Mod_add_122 ?_
          refine g_goto C 127 d_Mod_add_123 (by decide) ?_
          refine g_st C [_, _, _, _, _, _, _, _, _] d_Mod_add_127 (Nat.le_of_ble_eq_true rfl) rfl ?_
          refine g_aldn C d_Mod_add_129 rfl ?_
          refine r_f8 C d_Mod_add_130 hR ?_
          refine g_ldn C d_Mod_add_133 rfl ?_
          refine g_ld C d_Mod_add_134 rfl ?_
          refine g_ld C d_Mod_add_136 rfl ?_
          refine r_cell C d_Mod_add_138 (by omega) rfl (Nat.le_of_ble_eq_true rfl) (by decide) (by decide) (by decide) (by decide) ?_
          refine r_ld7 C d_Mod_add_141 hR (by omega) (qi.2.2 ((T.2.1 (i + 1)).length - 1) (by omega)) ?_
          refine g_iconst (v := nI 4) C d_Mod_add_142 rfl ?_
          have g4 : gd 0 (T.2.1 (i + 1)) ((T.2.1 (i + 1)).length - 1) ≤ 4 := ((hw.2.2.2.2.1 (i + 1) (by omega) hi).1 _ (gd_mem (by omega))).2
          have ge : endOf (T.2.1 (i + 1)) = gd 0 (T.2.1 (i + 1)) ((T.2.1 (i + 1)).length - 1) := rfl
          refine g_icmp_ge C 150 d_Mod_add_143 (by decide) (by first | exact nI_toInt (by omega) | rfl) (by first | exact nI_toInt (by omega) | rfl) (fun b143 => ?_) (fun b143 => ?_)
          · refine g_decN C [_, _, _, _, _, _, _, _, _] d_Mod_add_150 rfl (by omega) rfl ?_
            refine g_goto C 99 d_Mod_add_153 (by decide) ?_
            refine V.le (lvle.keep (lvle.keep (lvle.keep (lvle.keep (lvle.keep (lvle.keep (lvle.keep (lvle.keep (lvle.drop lvle.nil))))))))) ?_
            refine ih c (by omega) ?_
            rcases hI with ⟨h1, h2⟩ | ⟨h1, h2, h3, h4⟩
            · exact Or.inl ⟨h1, fun q q1 q2 => by
                by_cases e : q = i + 1
                · subst e; omega
                · exact h2 q (by omega) q2⟩
            · exact Or.inr ⟨by omega, h2, h3, fun q q1 q2 => by
                by_cases e : q = i + 1
                · subst e; omega
                · exact h4 q (by omega) q2⟩
          · refine g_ld C d_Mod_add_146 rfl ?_
            refine g_st C [_, _, _, _, _, _, _, _, _] d_Mod_add_148 (Nat.le_of_ble_eq_true rfl) rfl ?_
            refine g_decN C [_, _, _, _, _, _, _, _, _] d_Mod_add_150 rfl (by omega) rfl ?_
            refine g_goto C 99 d_Mod_add_153 (by decide) ?_
            refine V.le (lvle.keep (lvle.keep (lvle.keep (lvle.keep (lvle.keep (lvle.keep (lvle.keep (lvle.keep (lvle.drop lvle.nil))))))))) ?_
            exact ih (i + 1) (by omega) (Or.inr ⟨by omega, by omega, by omega, fun q q1 q2 => by omega⟩)
  have mid : ∀ w1 R1, RefW w0 w1 m R1 md → FrW a R R1 → WE R1 a (T.1 ++ [x]) → R1 10 a = nI T.2.2 → (∀ l, 1 ≤ l → l ≤ 6 → WRow R1 a l (T.2.1 l)) → V X w1 0 0 [some (.ref m), some (.int (nI a)), some (.int x), some (.int (nI 1)), some (.int (nI T.1.length)), none, none, none, none] [] 84 := by
    intro w R1 hR hF hE hH hQ
    refine g_aldn C d_Mod_add_84 rfl ?_
    refine r_f11 C d_Mod_add_85 hR ?_
    refine g_ldn C d_Mod_add_88 rfl ?_
    refine r_ld10 C d_Mod_add_89 hR (by omega) hH ?_
    refine g_st C [_, _, _, _, _, _, _, _, _] d_Mod_add_90 (Nat.le_of_ble_eq_true rfl) rfl ?_
    refine g_iconst (v := nI 0) C d_Mod_add_92 rfl ?_
    refine g_st C [_, _, _, _, _, _, _, _, _] d_Mod_add_93 (Nat.le_of_ble_eq_true rfl) rfl ?_
    refine g_ld C d_Mod_add_95 rfl ?_
    refine g_st C [_, _, _, _, _, _, _, _, _] d_Mod_add_97 (Nat.le_of_ble_eq_true rfl) rfl ?_
    exact srch w R1 hR hF hE hH hQ T.2.2 0 (Nat.le_refl _) (Or.inl ⟨rfl, fun k a b => by omega⟩)
  have put : V X w 0 0 [some (.ref m), some (.int (nI a)), some (.int x), some (.int (nI 1)), some (.int (nI T.1.length)), none, none, none, none] [] 53 := by
    refine g_aldn C d_Mod_add_53 rfl ?_
    refine r_f7 C d_Mod_add_54 hR ?_
    refine g_bipush (v := nI 80) C d_Mod_add_57 (by decide) ?_
    refine g_ldn C d_Mod_add_59 rfl ?_
    first | refine g_mulN C d_Mod_add_60 ?_ | refine g_mul C d_Mod_add_60 ?_
    refine g_ldn C d_Mod_add_61 rfl ?_
    refine g_if_eq C 70 d_Mod_add_62 (by decide) (by first | exact nI_toInt (by omega) | rfl) (fun b62 => ?_) (fun b62 => ?_)
    · exfalso; omega
    · refine g_ld C d_Mod_add_65 rfl ?_
      refine g_goto C 71 d_Mod_add_67 (by decide) ?_
      first | refine g_addN C d_Mod_add_71 ?_ | refine g_add C d_Mod_add_71 ?_
      refine g_ldn C d_Mod_add_72 rfl ?_
      refine r_st6 C d_Mod_add_73 hR (by omega) (fun w hR => ?_)
      refine g_aldn C d_Mod_add_74 rfl ?_
      refine r_f10 C d_Mod_add_75 hR ?_
      refine g_ldn C d_Mod_add_78 rfl ?_
      refine g_ld C d_Mod_add_79 rfl ?_
      refine g_iconst (v := nI 1) C d_Mod_add_81 rfl ?_
      first | refine g_addN C d_Mod_add_82 ?_ | refine g_add C d_Mod_add_82 ?_
      refine r_st9 C d_Mod_add_83 hR (by omega) (fun w hR => ?_)
      refine mid _ _ hR ((FrW.rf.up (by unfold WA; omega)).up (by unfold WA; omega)) ⟨by rw [L1l]; exact rups, by omega, fun q hq => ?_⟩ ((rupn (by omega)).trans ((rupn (by omega)).trans hW.2.1)) (fun l l1 l6 => (hW.2.2 l l1 l6).fr ((rupn (by omega)).trans (rupn (by omega))) (fun b hb => (rupn (by omega)).trans (rupn (by omega))))
      rw [rupn (by omega)]
      by_cases e : q = T.1.length
      · rw [e, rups, gd_r (Nat.le_refl _), Nat.sub_self, gd_0]
      · rw [rupn (by omega), gd_l (by omega)]; exact hW.1.2.2 q (by omega)
  refine g_aldn C d_Mod_add_0 rfl ?_
  refine r_f10 C d_Mod_add_1 hR ?_
  refine g_ldn C d_Mod_add_4 rfl ?_
  refine r_ld9 C d_Mod_add_5 hR (by omega) hW.1.1 ?_
  refine g_st C [_, _, _, _, _, _, _, _, _] d_Mod_add_6 (Nat.le_of_ble_eq_true rfl) rfl ?_
  refine g_ld C d_Mod_add_8 rfl ?_
  refine g_st C [_, _, _, _, _, _, _, _, _] d_Mod_add_10 (Nat.le_of_ble_eq_true rfl) rfl ?_
  refine g_ld C d_Mod_add_12 rfl ?_
  refine g_if_le C 53 d_Mod_add_14 (by decide) (by first | exact nI_toInt (by omega) | rfl) (fun b14 => ?_) (fun b14 => ?_)
  · refine V.le (lvle.keep (lvle.keep (lvle.keep (lvle.keep (lvle.keep (lvle.drop (lvle.drop (lvle.drop (lvle.drop lvle.nil))))))))) ?_
    exact put
  · refine g_ldn C d_Mod_add_17 rfl ?_
    refine g_if_ne C 53 d_Mod_add_18 (by decide) (by first | exact nI_toInt (by omega) | rfl) (fun b18 => ?_) (fun b18 => ?_)
    · refine V.le (lvle.keep (lvle.keep (lvle.keep (lvle.keep (lvle.keep (lvle.drop (lvle.drop (lvle.drop (lvle.drop lvle.nil))))))))) ?_
      exact put
    · exfalso; omega
set_option maxRecDepth 100000 in
set_option maxHeartbeats 4000000 in
theorem c_Mod_addBeg (N : gN) (w0 w : gW) (m : Nat) (R : RA) (md a : Nat) (x : Int32) (T : Tr) (ha : a < 3) (hw : wfT 5 T) (hl : T.1.length < 80) (hR : RefW w0 w m R md) (hW : WkR R a T) : CtN N y_Mod_add b_Mod_add 9 none (rmm 2 48 0 0) [.ref m, .int (nI a), .int x, .int (nI 0)] w (pV (fun w' => ∃ R', RefW w0 w' m R' md ∧ WkR R' a (addBeg T x) ∧ FrW a R R')) 0 0 := by
  refine ct_intro N [some (.ref m), some (.int (nI a)), some (.int x), some (.int (nI 0)), none, none, none, none, none] (by decide) rfl (Nat.le_of_ble_eq_true rfl) (by simp [Value.category]) ?_
  intro X hX C Rr
  have h5 := hw.2.1
  have rl := wf_lt hw hl
  have L1l : (x :: T.1).length = T.1.length + 1 := by simp
  have fin : ∀ t, 1 ≤ t → t ≤ T.2.2 + 1 → addAt begOf T.2.1 T.2.2 = t → ∀ i, i ≤ t → ∀ w1 R1, 1 ≤ i → RefW w0 w1 m R1 md → FrW a R R1 → WE R1 a (x :: T.1) → R1 10 a = nI (if t ≤ T.2.2 then T.2.2 else T.2.2 + 1) → (∀ l, 1 ≤ l → l ≤ 6 → WRow R1 a l (if l < i then (1 :: T.2.1 l) else if l = t then (if t ≤ T.2.2 then ((T.2.1 t).set 0 (begOf (T.2.1 t) + 1)) else [if T.2.2 = 0 then 1 else 2]) else T.2.1 l)) → V X w1 0 0 [some (.ref m), some (.int (nI a)), some (.int x), some (.int (nI 0)), some (.int (nI T.1.length)), some (.int (nI T.2.2)), some (.int (nI t)), some (.int (nI i)), none] [] 240 := by
    intro t t1 th ht
    refine upto _ (fun i hi ih w R1 i1 hR hF hE hH hQ => ?_)
    refine g_ld C d_Mod_add_240 rfl ?_
    refine g_ld C d_Mod_add_242 rfl ?_
    refine g_icmp_ge C 281 d_Mod_add_244 (by decide) (by first | exact nI_toInt (by omega) | rfl) (by first | exact nI_toInt (by omega) | rfl) (fun b244 => ?_) (fun b244 => ?_)
    · have e : i = t := by omega
      subst e
      refine g_vret C Rr d_Mod_add_281 (by decide) (by decide) ⟨rfl, R1, hR, ⟨hE, ?_, fun l l1 l6 => ?_⟩, hF⟩
      · unfold addBeg; rw [ht]; exact hH
      · have q := hQ l l1 l6
        have : (addBeg T x).2.1 l = (if l < i then (1 :: T.2.1 l) else if l = i then (if i ≤ T.2.2 then ((T.2.1 i).set 0 (begOf (T.2.1 i) + 1)) else [if T.2.2 = 0 then 1 else 2]) else T.2.1 l) := by
          unfold addBeg
          dsimp only
          rw [ht]
          unfold addRows
          by_cases e1 : l < i
          · rw [if_pos ⟨l1, e1⟩, if_pos e1]
          · rw [if_neg (by omega), if_neg e1]
            by_cases e2 : l = i
            · rw [if_pos e2, if_pos e2, e2]
            · rw [if_neg e2, if_neg e2]
        rw [this]; exact q
    · have qi := hQ i i1 (by omega)
      rw [if_neg (by omega), if_neg (by omega)] at qi
      refine g_aldn C d_Mod_add_247 rfl ?_
      refine g_ldn C d_Mod_add_248 rfl ?_
      refine g_ld C d_Mod_add_249 rfl ?_
      refine g_ldn C d_Mod_add_251 rfl ?_
      refine g_if_eq C 270 d_Mod_add_252 (by decide) (by first | exact nI_toInt (by omega) | rfl) (fun b252 => ?_) (fun b252 => ?_)
      · refine g_iconst (v := nI 0) C d_Mod_add_270 rfl ?_
        refine g_iconst (v := nI 1) C d_Mod_add_271 rfl ?_
        refine g_callV (ci := kMod) C d_Mod_add_272 cw_Mod_67 sl_Mod_enter (c_Mod_enter X.1 w0 w m R1 md a i (0) 1 (T.2.1 i) ha i1 (by omega) (by omega) (rl i) hR qi) rfl hR.2.1 (As := [.int (nI a), .int (nI i), .int (nI 0), .int (nI 1)]) rfl rfl rfl (Nat.le_of_ble_eq_true rfl) ⟨rfl, rfl, by decide, by decide⟩ ⟨by decide, by decide⟩ (kV (fun w2 h2 => ?_))
        obtain ⟨R2, hR, hW2, hF2⟩ := h2
        rw [show insL (T.2.1 i) 0 1 = (1 :: T.2.1 i) by unfold insL; simp] at hW2
        refine g_incN C [_, _, _, _, _, _, _, _, _] d_Mod_add_275 rfl rfl ?_
        refine g_goto C 240 d_Mod_add_278 (by decide) ?_
        refine ih (i + 1) (by omega) (by omega) w2 R2 (by omega) hR (hF.trans (hF2.w i1 (by omega))) (hE.frL hF2) ((hF2 _ _ (by unfold LA; omega)).trans hH) (fun l l1 l6 => ?_)
        by_cases e : l = i
        · rw [e, if_pos (by omega)]; exact hW2
        · have q := (hQ l l1 l6).frL hF2 l1 l6 i1 (by omega) (by omega)
          by_cases e2 : l < i
          · rw [if_pos e2] at q; rw [if_pos (by omega)]; exact q
          · rw [if_neg e2] at q; rw [if_neg (by omega)]; exact q
      · exfalso; omega
  have tail : ∀ c w1 R1, RefW w0 w1 m R1 md → FrW a R R1 → WE R1 a (x :: T.1) → R1 10 a = nI T.2.2 → (∀ l, 1 ≤ l → l ≤ 6 → WRow R1 a l (T.2.1 l)) → ((c = 0 ∧ ∀ k, 0 < k → k ≤ T.2.2 → 4 ≤ begOf (T.2.1 k)) ∨ (0 < c ∧ c ≤ T.2.2 ∧ begOf (T.2.1 c) < 4 ∧ ∀ k, 0 < k → k < c → 4 ≤ begOf (T.2.1 k))) → V X w1 0 0 [some (.ref m), some (.int (nI a)), some (.int x), some (.int (nI 0)), some (.int (nI T.1.length)), some (.int (nI T.2.2)), some (.int (nI c)), none, none] [] 156 := by
    intro c w R1 hR hF hE hH hQ hI
    have c31 : c < 2 ^ 31 := by omega
    refine g_ld C d_Mod_add_156 rfl ?_
    refine g_if_le C 205 d_Mod_add_158 (by decide) (by first | exact nI_toInt (by omega) | rfl) (fun b158 => ?_) (fun b158 => ?_)
    · obtain ⟨c0, hc⟩ : c = 0 ∧ ∀ k, 0 < k → k ≤ T.2.2 → 4 ≤ begOf (T.2.1 k) := by
        rcases hI with h | h
        · exact h
        · exfalso; omega
      subst c0
      have ht : addAt begOf T.2.1 T.2.2 = T.2.2 + 1 := addAt_eq (by omega) (by omega) (fun k a b => hc k (by omega) (by omega)) (fun z => by omega)
      have e0 := hw.2.2.2.1 (T.2.2 + 1) (by omega)
      have q0 := hQ (T.2.2 + 1) (by omega) (by omega)
      rw [e0] at q0
      refine g_ld C d_Mod_add_205 rfl ?_
      refine g_iconst (v := nI 1) C d_Mod_add_207 rfl ?_
      first | refine g_addN C d_Mod_add_208 ?_ | refine g_add C d_Mod_add_208 ?_
      refine g_st C [_, _, _, _, _, _, _, _, _] d_Mod_add_209 (Nat.le_of_ble_eq_true rfl) rfl ?_
      refine g_aldn C d_Mod_add_211 rfl ?_
      refine g_ldn C d_Mod_add_212 rfl ?_
      refine g_ld C d_Mod_add_213 rfl ?_
      refine g_iconst (v := nI 0) C d_Mod_add_215 rfl ?_
      refine g_ld C d_Mod_add_216 rfl ?_
      have body : ∀ y, y = (if T.2.2 = 0 then 1 else 2) → V X w 0 0 [some (.ref m), some (.int (nI a)), some (.int x), some (.int (nI 0)), some (.int (nI T.1.length)), some (.int (nI T.2.2)), some (.int (nI (T.2.2 + 1))), none, none] [.int (nI y), .int (nI 0), .int (nI (T.2.2 + 1)), .int (nI a), .ref m] 226 := by
        intro y hy
        refine g_callV (ci := kMod) C d_Mod_add_226 cw_Mod_67 sl_Mod_enter (c_Mod_enter X.1 w0 w m R1 md a (T.2.2 + 1) 0 y [] ha (by omega) (by omega) (by simp) (by simp) hR q0) rfl hR.2.1 (As := [.int (nI a), .int (nI (T.2.2 + 1)), .int (nI 0), .int (nI y)]) rfl rfl rfl (Nat.le_of_ble_eq_true rfl) ⟨rfl, rfl, by decide, by decide⟩ ⟨by decide, by decide⟩ (kV (fun w2 h2 => ?_))
        obtain ⟨R2, hR, hW2, hF2⟩ := h2
        rw [show insL [] 0 y = [y] from rfl] at hW2
        refine g_aldn C d_Mod_add_229 rfl ?_
        refine r_f11 C d_Mod_add_230 hR ?_
        refine g_ldn C d_Mod_add_233 rfl ?_
        refine g_ld C d_Mod_add_234 rfl ?_
        refine r_st10 C d_Mod_add_236 hR (by omega) (fun w hR => ?_)
        refine g_iconst (v := nI 1) C d_Mod_add_237 rfl ?_
        refine g_st C [_, _, _, _, _, _, _, _, _] d_Mod_add_238 (Nat.le_of_ble_eq_true rfl) rfl ?_
        refine fin (T.2.2 + 1) (by omega) (by omega) ht 1 (by omega) _ _ (by omega) hR ((hF.trans (hF2.w (by omega) (by omega))).up (by unfold WA; omega)) ⟨(rupn (by omega)).trans (hE.frL hF2).1, hE.2.1, fun q hq => (rupn (by omega)).trans ((hE.frL hF2).2.2 q hq)⟩ (by rw [if_neg (by omega)]; exact rups) (fun l l1 l6 => ?_)
        rw [if_neg (by omega)]
        by_cases e : l = T.2.2 + 1
        · subst e; rw [if_pos rfl, if_neg (by omega), ← hy]; exact hW2.fr (rupn (by omega)) (fun q hq => rupn (by omega))
        · rw [if_neg e]; exact ((hQ l l1 l6).frL hF2 l1 l6 (by omega) (by omega) (by omega)).fr (rupn (by omega)) (fun q hq => rupn (by omega))
      refine g_if_ne C 225 d_Mod_add_218 (by decide) (by first | exact nI_toInt (by omega) | rfl) (fun b218 => ?_) (fun b218 => ?_)
      · refine g_iconst (v := nI 2) C d_Mod_add_225 rfl ?_
        exact body 2 (by rw [if_neg (by omega)])
      · refine g_iconst (v := nI 1) C d_Mod_add_221 rfl ?_
        refine g_goto C 226 d_Mod_add_222 (by decide) ?_
        exact body 1 (by rw [if_pos (by omega)])
    · obtain ⟨c0, ch, cg, hc⟩ : 0 < c ∧ c ≤ T.2.2 ∧ begOf (T.2.1 c) < 4 ∧ ∀ k, 0 < k → k < c → 4 ≤ begOf (T.2.1 k) := by
        rcases hI with h | h
        · exfalso; omega
        · exact h
      have ht : addAt begOf T.2.1 T.2.2 = c := addAt_eq (by omega) (by omega) (fun k a b => hc k (by omega) b) (fun z => cg)
      have qc := hQ c (by omega) (by omega)
      have ne := wf_ne hw (k := c) (by omega) ch
      have rc := rl c
      refine g_ldn C d_Mod_add_161 rfl ?_
      refine g_if_eq C 182 d_Mod_add_162 (by decide) (by first | exact nI_toInt (by omega) | rfl) (fun b162 => ?_) (fun b162 => ?_)
      · refine g_iconst (v := nI 0) C d_Mod_add_182 rfl ?_
        refine g_st C [_, _, _, _, _, _, _, _, _] d_Mod_add_183 (Nat.le_of_ble_eq_true rfl) rfl ?_
        refine g_aldn C d_Mod_add_185 rfl ?_
        refine r_f8 C d_Mod_add_186 hR ?_
        refine g_ldn C d_Mod_add_189 rfl ?_
        refine g_ld C d_Mod_add_190 rfl ?_
        refine g_ld C d_Mod_add_192 rfl ?_
        refine r_cell C d_Mod_add_194 (by omega) rfl (Nat.le_of_ble_eq_true rfl) (by decide) (by decide) (by decide) (by decide) ?_
        refine g_dup2 C d_Mod_add_197 rfl rfl ?_
        refine r_ld7 C d_Mod_add_198 hR (by omega) (qc.2.2 0 (by omega)) ?_
        refine g_iconst (v := nI 1) C d_Mod_add_199 rfl ?_
        first | refine g_addN C d_Mod_add_200 ?_ | refine g_add C d_Mod_add_200 ?_
        refine r_st7 C d_Mod_add_201 hR (by omega) (fun w hR => ?_)
        refine g_goto C 237 d_Mod_add_202 (by decide) ?_
        refine g_iconst (v := nI 1) C d_Mod_add_237 rfl ?_
        refine g_st C [_, _, _, _, _, _, _, _, _] d_Mod_add_238 (Nat.le_of_ble_eq_true rfl) rfl ?_
        refine fin c (by omega) (by omega) ht 1 (by omega) _ _ (by omega) hR (hF.up (by unfold WA; omega)) ⟨(rupn (by omega)).trans hE.1, hE.2.1, fun q hq => (rupn (by omega)).trans (hE.2.2 q hq)⟩ (by rw [if_pos ch]; exact (rupn (by omega)).trans hH) (fun l l1 l6 => ?_)
        rw [if_neg (by omega)]
        by_cases e : l = c
        · subst e; rw [if_pos rfl, if_pos ch]; exact qc.set (by omega) (rupn (by omega)) rups (fun q hq hne => rupn (by omega))
        · rw [if_neg e]; exact (hQ l l1 l6).fr (rupn (by omega)) (fun q hq => rupn (by omega))
      · exfalso; omega
  have srch : ∀ w1 R1, RefW w0 w1 m R1 md → FrW a R R1 → WE R1 a (x :: T.1) → R1 10 a = nI T.2.2 → (∀ l, 1 ≤ l → l ≤ 6 → WRow R1 a l (T.2.1 l)) → ∀ i c, i ≤ T.2.2 → ((c = 0 ∧ ∀ k, i < k → k ≤ T.2.2 → 4 ≤ begOf (T.2.1 k)) ∨ (i < c ∧ c ≤ T.2.2 ∧ begOf (T.2.1 c) < 4 ∧ ∀ k, i < k → k < c → 4 ≤ begOf (T.2.1 k))) → V X w1 0 0 [some (.ref m), some (.int (nI a)), some (.int x), some (.int (nI 0)), some (.int (nI T.1.length)), some (.int (nI T.2.2)), some (.int (nI c)), some (.int (nI i)), none] [] 99 := by
    intro w R1 hR hF hE hH hQ i
    induction i with
    | zero =>
      intro c hi hI
      refine g_ld C d_Mod_add_99 rfl ?_
      refine g_iconst (v := nI 1) C d_Mod_add_101 rfl ?_
      refine g_icmp_lt C 156 d_Mod_add_102 (by decide) (by first | exact nI_toInt (by omega) | rfl) (by first | exact nI_toInt (by omega) | rfl) (fun b102 => ?_) (fun b102 => ?_)
      · refine V.le (lvle.keep (lvle.keep (lvle.keep (lvle.keep (lvle.keep (lvle.keep (lvle.keep (lvle.drop (lvle.drop lvle.nil))))))))) ?_
        exact tail c w R1 hR hF hE hH hQ hI
      · exfalso; omega
    | succ i ih =>
      intro c hi hI
      have qi := hQ (i + 1) (by omega) (by omega)
      have ne := wf_ne hw (k := i + 1) (by omega) hi
      have ri := rl (i + 1)
      refine g_ld C d_Mod_add_99 rfl ?_
      refine g_iconst (v := nI 1) C d_Mod_add_101 rfl ?_
      refine g_icmp_lt C 156 d_Mod_add_102 (by decide) (by first | exact nI_toInt (by omega) | rfl) (by first | exact nI_toInt (by omega) | rfl) (fun b102 => ?_) (fun b102 => ?_)
      · exfalso; omega
      · refine g_ldn C d_Mod_add_105 rfl ?_
        refine g_if_eq C 126 d_Mod_add_106 (by decide) (by first | exact nI_toInt (by omega) | rfl) (fun b106 => ?_) (fun b106 => ?_)
        · refine g_iconst (v := nI 0) C d_Mod_add_126 rfl ?_
          refine g_st C [_, _, _, _, _, _, _, _, _] d_Mod_add_127 (Nat.le_of_ble_eq_true rfl) rfl ?_
          refine g_aldn C d_Mod_add_129 rfl ?_
          refine r_f8 C d_Mod_add_130 hR ?_
          refine g_ldn C d_Mod_add_133 rfl ?_
          refine g_ld C d_Mod_add_134 rfl ?_
          refine g_ld C d_Mod_add_136 rfl ?_
          refine r_cell C d_Mod_add_138 (by omega) rfl (Nat.le_of_ble_eq_true rfl) (by decide) (by decide) (by decide) (by decide) ?_
          refine r_ld7 C d_Mod_add_141 hR (by omega) (qi.2.2 0 (by omega)) ?_
          refine g_iconst (v := nI 4) C d_Mod_add_142 rfl ?_
          have g4 : gd 0 (T.2.1 (i + 1)) 0 ≤ 4 := ((hw.2.2.2.2.1 (i + 1) (by omega) hi).1 _ (gd_mem (by omega))).2
          have ge : begOf (T.2.1 (i + 1)) = gd 0 (T.2.1 (i + 1)) 0 := rfl
          refine g_icmp_ge C 150 d_Mod_add_143 (by decide) (by first | exact nI_toInt (by omega) | rfl) (by first | exact nI_toInt (by omega) | rfl) (fun b143 => ?_) (fun b143 => ?_)
          · refine g_decN C [_, _, _, _, _, _, _, _, _] d_Mod_add_150 rfl (by omega) rfl ?_
            refine g_goto C 99 d_Mod_add_153 (by decide) ?_
            refine V.le (lvle.keep (lvle.keep (lvle.keep (lvle.keep (lvle.keep (lvle.keep (lvle.keep (lvle.keep (lvle.drop lvle.nil))))))))) ?_
            refine ih c (by omega) ?_
            rcases hI with ⟨h1, h2⟩ | ⟨h1, h2, h3, h4⟩
            · exact Or.inl ⟨h1, fun q q1 q2 => by
                by_cases e : q = i + 1
                · subst e; omega
                · exact h2 q (by omega) q2⟩
            · exact Or.inr ⟨by omega, h2, h3, fun q q1 q2 => by
                by_cases e : q = i + 1
                · subst e; omega
                · exact h4 q (by omega) q2⟩
          · refine g_ld C d_Mod_add_146 rfl ?_
            refine g_st C [_, _, _, _, _, _, _, _, _] d_Mod_add_148 (Nat.le_of_ble_eq_true rfl) rfl ?_
            refine g_decN C [_, _, _, _, _, _, _, _, _] d_Mod_add_150 rfl (by omega) rfl ?_
            refine g_goto C 99 d_Mod_add_153 (by decide) ?_
            refine V.le (lvle.keep (lvle.keep (lvle.keep (lvle.keep (lvle.keep (lvle.keep (lvle.keep (lvle.keep (lvle.drop lvle.nil))))))))) ?_
            exact ih (i + 1) (by omega) (Or.inr ⟨by omega, by omega, by omega, fun q q1 q2 => by omega⟩)
        · exfalso; omega
  have mid : ∀ w1 R1, RefW w0 w1 m R1 md → FrW a R R1 → WE R1 a (x :: T.1) → R1 10 a = nI T.2.2 → (∀ l, 1 ≤ l → l ≤ 6 → WRow R1 a l (T.2.1 l)) → V X w1 0 0 [some (.ref m), some (.int (nI a)), some (.int x), some (.int (nI 0)), some (.int (nI T.1.length)), none, none, none, none] [] 84 := by
    intro w R1 hR hF hE hH hQ
    refine g_aldn C d_Mod_add_84 rfl ?_
    refine r_f11 C d_Mod_add_85 hR ?_
    refine g_ldn C d_Mod_add_88 rfl ?_
    refine r_ld10 C d_Mod_add_89 hR (by omega) hH ?_
    refine g_st C [_, _, _, _, _, _, _, _, _] d_Mod_add_90 (Nat.le_of_ble_eq_true rfl) rfl ?_
    refine g_iconst (v := nI 0) C d_Mod_add_92 rfl ?_
    refine g_st C [_, _, _, _, _, _, _, _, _] d_Mod_add_93 (Nat.le_of_ble_eq_true rfl) rfl ?_
    refine g_ld C d_Mod_add_95 rfl ?_
    refine g_st C [_, _, _, _, _, _, _, _, _] d_Mod_add_97 (Nat.le_of_ble_eq_true rfl) rfl ?_
    exact srch w R1 hR hF hE hH hQ T.2.2 0 (Nat.le_refl _) (Or.inl ⟨rfl, fun k a b => by omega⟩)
  have put : ∀ w1 R1, RefW w0 w1 m R1 md → FrW a R R1 → (∀ k j, ¬ k = 6 → R1 k j = R k j) → (∀ q, 0 < q → q < T.1.length + 1 → R1 6 (80 * a + q) = gd 0 T.1 (q - 1)) → V X w1 0 0 [some (.ref m), some (.int (nI a)), some (.int x), some (.int (nI 0)), some (.int (nI T.1.length)), none, none, none, none] [] 53 := by
    intro w R1 hR hF h6 hs
    refine g_aldn C d_Mod_add_53 rfl ?_
    refine r_f7 C d_Mod_add_54 hR ?_
    refine g_bipush (v := nI 80) C d_Mod_add_57 (by decide) ?_
    refine g_ldn C d_Mod_add_59 rfl ?_
    first | refine g_mulN C d_Mod_add_60 ?_ | refine g_mul C d_Mod_add_60 ?_
    refine g_ldn C d_Mod_add_61 rfl ?_
    refine g_if_eq C 70 d_Mod_add_62 (by decide) (by first | exact nI_toInt (by omega) | rfl) (fun b62 => ?_) (fun b62 => ?_)
    · refine g_iconst (v := nI 0) C d_Mod_add_70 rfl ?_
      first | refine g_addN C d_Mod_add_71 ?_ | refine g_add C d_Mod_add_71 ?_
      refine g_ldn C d_Mod_add_72 rfl ?_
      refine r_st6 C d_Mod_add_73 hR (by omega) (fun w hR => ?_)
      refine g_aldn C d_Mod_add_74 rfl ?_
      refine r_f10 C d_Mod_add_75 hR ?_
      refine g_ldn C d_Mod_add_78 rfl ?_
      refine g_ld C d_Mod_add_79 rfl ?_
      refine g_iconst (v := nI 1) C d_Mod_add_81 rfl ?_
      first | refine g_addN C d_Mod_add_82 ?_ | refine g_add C d_Mod_add_82 ?_
      refine r_st9 C d_Mod_add_83 hR (by omega) (fun w hR => ?_)
      refine mid _ _ hR ((hF.up (by unfold WA; omega)).up (by unfold WA; omega)) ⟨by rw [L1l]; exact rups, by omega, fun q hq => ?_⟩ ((rupn (by omega)).trans ((rupn (by omega)).trans ((h6 _ _ (by omega)).trans hW.2.1))) (fun l l1 l6 => (hW.2.2 l l1 l6).fr ((rupn (by omega)).trans ((rupn (by omega)).trans (h6 _ _ (by omega)))) (fun b hb => (rupn (by omega)).trans ((rupn (by omega)).trans (h6 _ _ (by omega)))))
      rw [rupn (by omega)]
      by_cases e : q = 0
      · rw [e, rups, gd_0]
      · rw [rupn (by omega), hs q (by omega) (by omega), show q = (q - 1) + 1 by omega, gd_s]; rfl
    · exfalso; omega
  have shift : ∀ e w1 R1, e ≤ T.1.length → RefW w0 w1 m R1 md → FrW a R R1 → (∀ k j, ¬ k = 6 → R1 k j = R k j) → (∀ q, q < T.1.length + 1 → q ≠ e → R1 6 (80 * a + q) = gd 0 T.1 (if e < q then q - 1 else q)) → V X w1 0 0 [some (.ref m), some (.int (nI a)), some (.int x), some (.int (nI 0)), some (.int (nI T.1.length)), some (.int (nI e)), none, none, none] [] 12 := by
    intro e
    induction e with
    | zero =>
      intro w R1 he hR hF h6 hs
      refine g_ld C d_Mod_add_12 rfl ?_
      refine g_if_le C 53 d_Mod_add_14 (by decide) (by first | exact nI_toInt (by omega) | rfl) (fun b14 => ?_) (fun b14 => ?_)
      · refine V.le (lvle.keep (lvle.keep (lvle.keep (lvle.keep (lvle.keep (lvle.drop (lvle.drop (lvle.drop (lvle.drop lvle.nil))))))))) ?_
        exact put w R1 hR hF h6 (fun q q0 q1 => by have := hs q q1 (by omega); rw [if_pos q0] at this; exact this)
      · exfalso; omega
    | succ e ih =>
      intro w R1 he hR hF h6 hs
      refine g_ld C d_Mod_add_12 rfl ?_
      refine g_if_le C 53 d_Mod_add_14 (by decide) (by first | exact nI_toInt (by omega) | rfl) (fun b14 => ?_) (fun b14 => ?_)
      · exfalso; omega
      · refine g_ldn C d_Mod_add_17 rfl ?_
        refine g_if_ne C 53 d_Mod_add_18 (by decide) (by first | exact nI_toInt (by omega) | rfl) (fun b18 => ?_) (fun b18 => ?_)
        · exfalso; omega
        · refine g_aldn C d_Mod_add_21 rfl ?_
          refine r_f7 C d_Mod_add_22 hR ?_
          refine g_bipush (v := nI 80) C d_Mod_add_25 (by decide) ?_
          refine g_ldn C d_Mod_add_27 rfl ?_
          first | refine g_mulN C d_Mod_add_28 ?_ | refine g_mul C d_Mod_add_28 ?_
          refine g_ld C d_Mod_add_29 rfl ?_
          first | refine g_addN C d_Mod_add_31 ?_ | refine g_add C d_Mod_add_31 ?_
          refine g_aldn C d_Mod_add_32 rfl ?_
          refine r_f7 C d_Mod_add_33 hR ?_
          refine g_bipush (v := nI 80) C d_Mod_add_36 (by decide) ?_
          refine g_ldn C d_Mod_add_38 rfl ?_
          first | refine g_mulN C d_Mod_add_39 ?_ | refine g_mul C d_Mod_add_39 ?_
          refine g_ld C d_Mod_add_40 rfl ?_
          first | refine g_addN C d_Mod_add_42 ?_ | refine g_add C d_Mod_add_42 ?_
          refine g_iconst (v := nI 1) C d_Mod_add_43 rfl ?_
          first | refine g_subN C d_Mod_add_44 (by omega) ?_ | refine g_sub C d_Mod_add_44 ?_
          refine r_ld6 C d_Mod_add_45 hR (by omega) (hs e (by omega) (by omega)) ?_
          refine r_st6 C d_Mod_add_46 hR (by omega) (fun w hR => ?_)
          refine g_decN C [_, _, _, _, _, _, _, _, _] d_Mod_add_47 rfl (by omega) rfl ?_
          refine g_goto C 12 d_Mod_add_50 (by decide) ?_
          refine ih _ _ (by omega) hR (hF.up (by unfold WA; omega)) (fun k j hk => (rupn (by omega)).trans (h6 k j hk)) (fun q hq hne => ?_)
          by_cases e1 : q = e + 1
          · rw [e1, rups, if_neg (by omega), if_pos (by omega)]; rfl
          · rw [rupn (by omega), hs q hq e1]
            by_cases e2 : e + 1 < q
            · rw [if_pos e2, if_pos (by omega)]
            · rw [if_neg e2, if_neg (by omega)]
  refine g_aldn C d_Mod_add_0 rfl ?_
  refine r_f10 C d_Mod_add_1 hR ?_
  refine g_ldn C d_Mod_add_4 rfl ?_
  refine r_ld9 C d_Mod_add_5 hR (by omega) hW.1.1 ?_
  refine g_st C [_, _, _, _, _, _, _, _, _] d_Mod_add_6 (Nat.le_of_ble_eq_true rfl) rfl ?_
  refine g_ld C d_Mod_add_8 rfl ?_
  refine g_st C [_, _, _, _, _, _, _, _, _] d_Mod_add_10 (Nat.le_of_ble_eq_true rfl) rfl ?_
  exact shift T.1.length w R (Nat.le_refl _) hR FrW.rf (fun _ _ _ => rfl) (fun q hq hne => by rw [if_neg (by omega)]; exact hW.1.2.2 q (by omega))
