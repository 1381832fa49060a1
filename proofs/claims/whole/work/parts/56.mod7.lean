/-! THE REFERENCE: joining two trees. -/
set_option maxRecDepth 100000 in
set_option maxHeartbeats 4000000 in
theorem c_Mod_join (N : gN) (w0 w : gW) (m : Nat) (R : RA) (md : Nat) (P Q : Tr) (wP : wfT 5 P) (wQ : wfT 5 Q) (hl : P.1.length + Q.1.length ≤ 80) (hR : RefW w0 w m R md) (h0 : WkR R 0 P) (h1 : WkR R 1 Q) : CtN N y_Mod_join b_Mod_join 8 none (rmm 4 106 0 0) [.ref m] w (pV (fun w' => ∃ R', RefW w0 w' m R' md ∧ WkR R' 2 (joinT P Q) ∧ FrW 2 R R')) 0 0 := by
  refine ct_intro N [some (.ref m), none, none, none, none, none, none, none] (by decide) rfl (Nat.le_of_ble_eq_true rfl) (by simp [Value.category]) ?_
  intro X hX C Rr
  have hP5 := wP.2.1
  have hQ5 := wQ.2.1
  have hPz := wP.2.2.1
  have hQz := wQ.2.2.1
  have lP := wf_le1 wP
  have lQ := wf_le1 wQ
  have g0 : R 9 0 = nI P.1.length := h0.1.1
  have g1 : R 9 1 = nI Q.1.length := h1.1.1
  have hH0 : R 10 0 = nI P.2.2 := h0.2.1
  have hH1 : R 10 1 = nI Q.2.2 := h1.2.1
  have hmx : P.2.2 ≤ max P.2.2 Q.2.2 ∧ Q.2.2 ≤ max P.2.2 Q.2.2 ∧ max P.2.2 Q.2.2 ≤ 5 := by omega
  have hjn := fun p0 q0 => joinT_ne (P := P) (Q := Q) p0 q0
  have hmx2 : max P.2.2 Q.2.2 = P.2.2 ∨ max P.2.2 Q.2.2 = Q.2.2 := by omega
  generalize hH : max P.2.2 Q.2.2 = H at hmx hjn hmx2
  have L2 : (P.1 ++ Q.1).length = P.1.length + Q.1.length := List.length_append
  have lpM : 1 ≤ P.2.2 → 1 ≤ Q.2.2 → ∀ i, i ≤ H → ∀ w1 R1, 1 ≤ i → RefW w0 w1 m R1 md → FrW 2 R R1 → WE R1 2 (P.1 ++ Q.1) → R1 10 2 = nI H → (∀ l, 1 ≤ l → l ≤ 6 → WRow R1 2 l (if l < i then (jPk P.2.1 Q.2.1 l).1 else if l = i then (jUp P.2.1 Q.2.1 i).1 else P.2.1 l ++ Q.2.1 l)) → V X w1 0 0 [some (.ref m), some (.int (nI (P.2.2))), some (.int (nI (Q.2.2))), some (.int (nI (H))), some (.int (nI ((jUp P.2.1 Q.2.1 i).2.2))), some (.int (nI (i + 1))), none, none] [] 258 := by
    intro p1 q1
    refine upto _ (fun i hi ih w R1 i1 hR hF hE hH2 hQ2 => ?_)
    have hok := jUp_ok wP wQ p1 q1 (i - 1)
    rw [show i - 1 + 1 = i by omega] at hok
    obtain ⟨j1, j2, j3, j4⟩ := id hok
    refine g_ld C d_Mod_join_258 rfl ?_
    refine g_ldn C d_Mod_join_260 rfl ?_
    refine g_icmp_gt C 280 d_Mod_join_261 (by decide) (by first | exact nI_toInt (by omega) | rfl) (by first | exact nI_toInt (by omega) | rfl) (fun b261 => ?_) (fun b261 => ?_)
    · have e : i = H := by omega
      subst e
      have hjn := hjn (fun z => by have := hPz.mpr z; omega) (fun z => by have := hQz.mpr z; omega)
      refine g_ld C d_Mod_join_280 rfl ?_
      refine g_iconst (v := nI 2) C d_Mod_join_282 rfl ?_
      refine g_icmp_ne C 305 d_Mod_join_283 (by decide) (by first | exact nI_toInt (by omega) | rfl) (by first | exact nI_toInt (by omega) | rfl) (fun b283 => ?_) (fun b283 => ?_)
      · have hm : ¬ (jUp P.2.1 Q.2.1 i).2.2 = 2 := by omega
        refine g_vret C Rr d_Mod_join_305 (by decide) (by decide) ⟨rfl, R1, hR, ?_, hF⟩
        rw [hjn, if_neg hm]
        refine ⟨hE, hH2, fun l l1 l6 => ?_⟩
        have q := hQ2 l l1 l6
        show WRow R1 2 l (if l = 0 then [] else if l < i then (jPk P.2.1 Q.2.1 l).1 else if l = i then (jUp P.2.1 Q.2.1 i).1 else if l = i + 1 ∧ (jUp P.2.1 Q.2.1 i).2.2 = 2 then [2] else [])
        by_cases c1 : l < i
        · rw [if_pos c1] at q; rw [if_neg (by omega), if_pos c1]; exact q
        · rw [if_neg c1] at q; rw [if_neg (by omega), if_neg c1]
          by_cases c2 : l = i
          · rw [if_pos c2] at q; rw [if_pos c2]; exact q
          · rw [if_neg c2, wP.2.2.2.1 l (by omega), wQ.2.2.2.1 l (by omega)] at q; rw [if_neg c2, if_neg (fun z => hm z.2)]; exact q
      · have hm : (jUp P.2.1 Q.2.1 i).2.2 = 2 := by omega
        have q0 := hQ2 (i + 1) (by omega) (by omega)
        rw [if_neg (by omega), if_neg (by omega), wP.2.2.2.1 (i + 1) (by omega), wQ.2.2.2.1 (i + 1) (by omega), List.nil_append] at q0
        refine g_aldn C d_Mod_join_286 rfl ?_
        refine g_iconst (v := nI 2) C d_Mod_join_287 rfl ?_
        refine g_ldn C d_Mod_join_288 rfl ?_
        refine g_iconst (v := nI 1) C d_Mod_join_289 rfl ?_
        first | refine g_addN C d_Mod_join_290 ?_ | refine g_add C d_Mod_join_290 ?_
        refine g_iconst (v := nI 0) C d_Mod_join_291 rfl ?_
        refine g_iconst (v := nI 2) C d_Mod_join_292 rfl ?_
        refine g_callV (ci := kMod) C d_Mod_join_293 cw_Mod_67 sl_Mod_enter (c_Mod_enter X.1 w0 w m R1 md 2 (i + 1) 0 2 [] (by omega) (by omega) (by omega) (by simp) (by simp) hR q0) rfl hR.2.1 (As := [.int (nI 2), .int (nI (i + 1)), .int (nI 0), .int (nI 2)]) rfl rfl rfl (Nat.le_of_ble_eq_true rfl) ⟨rfl, rfl, by decide, by decide⟩ ⟨by decide, by decide⟩ (kV (fun w2 h2 => ?_))
        obtain ⟨R2, hR, hW2, hF2⟩ := h2
        rw [show insL [] 0 2 = [2] from rfl] at hW2
        refine g_aldn C d_Mod_join_296 rfl ?_
        refine r_f11 C d_Mod_join_297 hR ?_
        refine g_iconst (v := nI 2) C d_Mod_join_300 rfl ?_
        refine g_ldn C d_Mod_join_301 rfl ?_
        refine g_iconst (v := nI 1) C d_Mod_join_302 rfl ?_
        first | refine g_addN C d_Mod_join_303 ?_ | refine g_add C d_Mod_join_303 ?_
        refine r_st10 C d_Mod_join_304 hR (by omega) (fun w hR => ?_)
        refine g_vret C Rr d_Mod_join_305 (by decide) (by decide) ⟨rfl, _, hR, ?_, (hF.trans (hF2.w (by omega) (by omega))).up (by unfold WA; omega)⟩
        rw [hjn, if_pos hm]
        have hE2 := hE.frL hF2
        refine ⟨⟨(rupn (by omega)).trans hE2.1, hE2.2.1, fun q hq => (rupn (by omega)).trans (hE2.2.2 q hq)⟩, rups, fun l l1 l6 => ?_⟩
        show WRow _ 2 l (if l = 0 then [] else if l < i then (jPk P.2.1 Q.2.1 l).1 else if l = i then (jUp P.2.1 Q.2.1 i).1 else if l = i + 1 ∧ (jUp P.2.1 Q.2.1 i).2.2 = 2 then [2] else [])
        refine WRow.fr (R := R2) ?_ (rupn (by omega)) (fun b hb => rupn (by omega))
        by_cases c3 : l = i + 1
        · rw [c3, if_neg (by omega), if_neg (by omega), if_neg (by omega), if_pos ⟨rfl, hm⟩]; exact hW2
        · have q := (hQ2 l l1 l6).frL hF2 l1 l6 (by omega) (by omega) (by omega)
          by_cases c1 : l < i
          · rw [if_pos c1] at q; rw [if_neg (by omega), if_pos c1]; exact q
          · rw [if_neg c1] at q; rw [if_neg (by omega), if_neg c1]
            by_cases c2 : l = i
            · rw [if_pos c2] at q; rw [if_pos c2]; exact q
            · rw [if_neg c2, wP.2.2.2.1 l (by omega), wQ.2.2.2.1 l (by omega)] at q; rw [if_neg c2, if_neg (fun z => c3 z.1)]; exact q
    · have hr1 := hQ2 i i1 (by omega)
      rw [if_neg (by omega), if_pos rfl] at hr1
      have hr2 := hQ2 (i + 1) (by omega) (by omega)
      rw [if_neg (by omega), if_neg (by omega)] at hr2
      refine g_aldn C d_Mod_join_264 rfl ?_
      refine g_ld C d_Mod_join_265 rfl ?_
      refine g_ld C d_Mod_join_267 rfl ?_
      refine g_callV (ci := kMod) C d_Mod_join_269 cw_Mod_79 sl_Mod_meet (c_Mod_meet X.1 w0 w m R1 md i P Q wP wQ p1 q1 hl i1 (by omega) hR (h0.frW hF (by omega)) (h1.frW hF (by omega)) hr1 hr2) rfl hR.2.1 (As := [.int (nI (i + 1)), .int (nI (jUp P.2.1 Q.2.1 i).2.2)]) rfl rfl rfl (Nat.le_of_ble_eq_true rfl) ⟨rfl, rfl, by decide, by decide⟩ ⟨by decide, by decide⟩ (kI (fun r w2 h2 => ?_))
      obtain ⟨R2, hR, hW2, hW3, hF2, hr⟩ := h2
      rw [hr]
      refine g_st C [_, _, _, _, _, _, _, _] d_Mod_join_272 (Nat.le_of_ble_eq_true rfl) rfl ?_
      refine g_incN C [_, _, _, _, _, _, _, _] d_Mod_join_274 rfl rfl ?_
      refine g_goto C 258 d_Mod_join_277 (by decide) ?_
      have hF3 : FrW 2 R1 R2 := fun k j hn => hF2 k j (fun z => hn (by unfold LA at z; unfold WA; omega)) (fun z => hn (by unfold LA at z; unfold WA; omega))
      refine ih (i + 1) (by omega) (by omega) w2 R2 (by omega) hR (hF.trans hF3) ⟨(hF2 _ _ (by unfold LA; omega) (by unfold LA; omega)).trans hE.1, hE.2.1, fun q hq => (hF2 _ _ (by unfold LA; omega) (by unfold LA; omega)).trans (hE.2.2 q hq)⟩ ((hF2 _ _ (by unfold LA; omega) (by unfold LA; omega)).trans hH2) (fun l l1 l6 => ?_)
      by_cases c1 : l = i
      · rw [c1, if_pos (by omega)]; exact hW2
      · by_cases c2 : l = i + 1
        · rw [c2, if_neg (by omega), if_pos rfl]; exact hW3
        · have q := (hQ2 l l1 l6).fr (R' := R2) (hF2 _ _ (by unfold LA; omega) (by unfold LA; omega)) (fun b hb => hF2 _ _ (by unfold LA; omega) (by unfold LA; omega))
          by_cases c3 : l < i
          · rw [if_pos c3] at q; rw [if_pos (by omega)]; exact q
          · rw [if_neg c3, if_neg c1] at q; rw [if_neg (by omega), if_neg c2]; exact q
  have st236 : ∀ w1 R1, RefW w0 w1 m R1 md → FrW 2 R R1 → WE R1 2 (P.1 ++ Q.1) → (∀ l, 1 ≤ l → l ≤ 6 → WRow R1 2 l (P.2.1 l ++ Q.2.1 l)) → V X w1 0 0 [some (.ref m), some (.int (nI (P.2.2))), some (.int (nI (Q.2.2))), some (.int (nI (H))), none, none, none, none] [] 236 := by
    intro w R1 hR hF hE hQ2
    refine g_aldn C d_Mod_join_236 rfl ?_
    refine r_f11 C d_Mod_join_237 hR ?_
    refine g_iconst (v := nI 2) C d_Mod_join_240 rfl ?_
    refine g_ldn C d_Mod_join_241 rfl ?_
    refine r_st10 C d_Mod_join_242 hR (by omega) (fun w hR => ?_)
    refine g_ldn C d_Mod_join_243 rfl ?_
    have hF2 : FrW 2 R (rup R1 10 2 (nI H)) := hF.up (by unfold WA; omega)
    have hE2 : WE (rup R1 10 2 (nI H)) 2 (P.1 ++ Q.1) := ⟨(rupn (by omega)).trans hE.1, hE.2.1, fun q hq => (rupn (by omega)).trans (hE.2.2 q hq)⟩
    have hQ3 : ∀ l, 1 ≤ l → l ≤ 6 → WRow (rup R1 10 2 (nI H)) 2 l (P.2.1 l ++ Q.2.1 l) := fun l l1 l6 => (hQ2 l l1 l6).fr (rupn (by omega)) (fun b hb => rupn (by omega))
    refine g_if_eq C 251 d_Mod_join_244 (by decide) (by first | exact nI_toInt (by omega) | rfl) (fun b244 => ?_) (fun b244 => ?_)
    · have z := hPz.mp (by omega)
      have z2 : P.1 = [] := List.length_eq_zero_iff.mp z
      refine g_vret C Rr d_Mod_join_251 (by decide) (by decide) ⟨rfl, _, hR, ?_, hF2⟩
      rw [show joinT P Q = Q by unfold joinT; rw [if_pos z]]
      rw [z2, List.nil_append] at hE2
      refine ⟨hE2, rups.trans (by rw [show H = Q.2.2 by omega]), fun l l1 l6 => ?_⟩
      have q := hQ3 l l1 l6
      rw [wP.2.2.2.1 l (by omega), List.nil_append] at q; exact q
    · refine g_ldn C d_Mod_join_247 rfl ?_
      refine g_if_ne C 252 d_Mod_join_248 (by decide) (by first | exact nI_toInt (by omega) | rfl) (fun b248 => ?_) (fun b248 => ?_)
      · refine g_iconst (v := nI 2) C d_Mod_join_252 rfl ?_
        refine g_st C [_, _, _, _, _, _, _, _] d_Mod_join_253 (Nat.le_of_ble_eq_true rfl) rfl ?_
        refine g_iconst (v := nI 2) C d_Mod_join_255 rfl ?_
        refine g_st C [_, _, _, _, _, _, _, _] d_Mod_join_256 (Nat.le_of_ble_eq_true rfl) rfl ?_
        refine lpM (by omega) (by omega) 1 (by omega) _ _ (Nat.le_refl _) hR hF2 hE2 rups (fun l l1 l6 => ?_)
        rw [if_neg (by omega)]
        by_cases c : l = 1
        · subst c; rw [if_pos rfl]; exact hQ3 1 l1 l6
        · rw [if_neg c]; exact hQ3 l l1 l6
      · have z := hQz.mp (by omega)
        have z2 : Q.1 = [] := List.length_eq_zero_iff.mp z
        have zp : ¬ P.1.length = 0 := fun y => by have := hPz.mpr y; omega
        refine g_vret C Rr d_Mod_join_251 (by decide) (by decide) ⟨rfl, _, hR, ?_, hF2⟩
        rw [show joinT P Q = P by unfold joinT; rw [if_neg zp, if_pos z]]
        rw [z2, List.append_nil] at hE2
        refine ⟨hE2, rups.trans (by rw [show H = P.2.2 by omega]), fun l l1 l6 => ?_⟩
        have q := hQ3 l l1 l6
        rw [wQ.2.2.2.1 l (by omega), List.append_nil] at q; exact q
  have lpR : ∀ l, l ≤ 7 → ∀ w1 R1, 1 ≤ l → RefW w0 w1 m R1 md → FrW 2 R R1 → WE R1 2 (P.1 ++ Q.1) → (∀ q, 1 ≤ q → q < l → WRow R1 2 q (P.2.1 q ++ Q.2.1 q)) → V X w1 0 0 [some (.ref m), some (.int (nI (P.2.2))), some (.int (nI (Q.2.2))), some (.int (nI (H))), some (.int (nI (l))), none, none, none] [] 116 := by
    refine upto _ (fun l hl7 ih w R1 l1 hR hF hE hQ2 => ?_)
    refine g_ld C d_Mod_join_116 rfl ?_
    refine g_bipush (v := nI 6) C d_Mod_join_118 (by decide) ?_
    refine g_icmp_gt C 236 d_Mod_join_120 (by decide) (by first | exact nI_toInt (by omega) | rfl) (by first | exact nI_toInt (by omega) | rfl) (fun b120 => ?_) (fun b120 => ?_)
    · refine V.le (lvle.keep (lvle.keep (lvle.keep (lvle.keep (lvle.drop (lvle.drop (lvle.drop (lvle.drop lvle.nil)))))))) ?_
      exact st236 w R1 hR hF hE (fun q q1 q6 => hQ2 q q1 (by omega))
    · have r0 := (h0.frW hF (by omega)).2.2 l l1 (by omega)
      have r1 := (h1.frW hF (by omega)).2.2 l l1 (by omega)
      have lp := lP l
      have lq := lQ l
      have lpq : (P.2.1 l ++ Q.2.1 l).length = (P.2.1 l).length + (Q.2.1 l).length := List.length_append
      have c0 : R1 8 l = nI (P.2.1 l).length := by have := r0.1; rw [show 8 * 0 + l = l by omega] at this; exact this
      have c1 : R1 8 (8 + l) = nI (Q.2.1 l).length := by have := r1.1; rw [show 8 * 1 + l = 8 + l by omega] at this; exact this
      have inner : ∀ c, c ≤ (P.2.1 l).length + (Q.2.1 l).length → ∀ w1 R2, RefW w0 w1 m R2 md → FrL 2 l R1 R2 → (∀ q, q < c → R2 7 (480 * 2 + 80 * (l - 1) + q) = nI (gd 0 (P.2.1 l ++ Q.2.1 l) q)) → V X w1 0 0 [some (.ref m), some (.int (nI (P.2.2))), some (.int (nI (Q.2.2))), some (.int (nI (H))), some (.int (nI (l))), some (.int (nI ((P.2.1 l).length))), some (.int (nI ((Q.2.1 l).length))), some (.int (nI (c)))] [] 147 := by
        refine upto _ (fun c hc ihc w R2 hR hF2 h7 => ?_)
        refine g_ld C d_Mod_join_147 rfl ?_
        refine g_ld C d_Mod_join_149 rfl ?_
        refine g_ld C d_Mod_join_151 rfl ?_
        first | refine g_addN C d_Mod_join_153 ?_ | refine g_add C d_Mod_join_153 ?_
        refine g_icmp_ge C 215 d_Mod_join_154 (by decide) (by first | exact nI_toInt (by omega) | rfl) (by first | exact nI_toInt (by omega) | rfl) (fun b154 => ?_) (fun b154 => ?_)
        · refine g_aldn C d_Mod_join_215 rfl ?_
          refine r_f9 C d_Mod_join_216 hR ?_
          refine g_bipush (v := nI 16) C d_Mod_join_219 (by decide) ?_
          refine g_ld C d_Mod_join_221 rfl ?_
          first | refine g_addN C d_Mod_join_223 ?_ | refine g_add C d_Mod_join_223 ?_
          refine g_ld C d_Mod_join_224 rfl ?_
          refine g_ld C d_Mod_join_226 rfl ?_
          first | refine g_addN C d_Mod_join_228 ?_ | refine g_add C d_Mod_join_228 ?_
          refine r_st8 C d_Mod_join_229 hR (by omega) (fun w hR => ?_)
          refine g_incN C [_, _, _, _, _, _, _, _] d_Mod_join_230 rfl rfl ?_
          refine g_goto C 116 d_Mod_join_233 (by decide) ?_
          refine V.le (lvle.keep (lvle.keep (lvle.keep (lvle.keep (lvle.keep (lvle.drop (lvle.drop (lvle.drop lvle.nil)))))))) ?_
          have hF3 : FrL 2 l R1 (rup R2 8 (16 + l) (nI ((P.2.1 l).length + (Q.2.1 l).length))) := hF2.up (by unfold LA; omega)
          refine ih (l + 1) (by omega) (by omega) _ _ (by omega) hR (hF.trans (hF3.w l1 (by omega))) (hE.frL hF3) (fun q q1 q2 => ?_)
          by_cases e : q = l
          · subst e; exact ⟨by rw [show 8 * 2 + q = 16 + q by omega, rups, lpq], by omega, fun b hb => (rupn (by omega)).trans (h7 b (by omega))⟩
          · exact (hQ2 q q1 (by omega)).frL hF3 q1 (by omega) l1 (by omega) (by omega)
        · have body : V X w 0 0 [some (.ref m), some (.int (nI (P.2.2))), some (.int (nI (Q.2.2))), some (.int (nI (H))), some (.int (nI (l))), some (.int (nI ((P.2.1 l).length))), some (.int (nI ((Q.2.1 l).length))), some (.int (nI (c)))] [.int (nI (gd 0 (P.2.1 l ++ Q.2.1 l) c)), .int (nI (480 * 2 + 80 * (l - 1) + c)), .ref (m + 8)] 208 := by
            refine r_st7 C d_Mod_join_208 hR (by omega) (fun w hR => ?_)
            refine g_incN C [_, _, _, _, _, _, _, _] d_Mod_join_209 rfl rfl ?_
            refine g_goto C 147 d_Mod_join_212 (by decide) ?_
            refine ihc (c + 1) (by omega) (by omega) _ _ hR (hF2.up (by unfold LA; omega)) (fun q hq => ?_)
            by_cases e : q = c
            · subst e; exact rups
            · exact (rupn (by omega)).trans (h7 q (by omega))
          refine g_aldn C d_Mod_join_157 rfl ?_
          refine r_f8 C d_Mod_join_158 hR ?_
          refine g_iconst (v := nI 2) C d_Mod_join_161 rfl ?_
          refine g_ld C d_Mod_join_162 rfl ?_
          refine g_ld C d_Mod_join_164 rfl ?_
          refine r_cell C d_Mod_join_166 (by omega) rfl (Nat.le_of_ble_eq_true rfl) (by decide) (by decide) (by decide) (by decide) ?_
          refine g_ld C d_Mod_join_169 rfl ?_
          refine g_ld C d_Mod_join_171 rfl ?_
          refine g_icmp_ge C 192 d_Mod_join_173 (by decide) (by first | exact nI_toInt (by omega) | rfl) (by first | exact nI_toInt (by omega) | rfl) (fun b173 => ?_) (fun b173 => ?_)
          · rw [gd_r (by omega)] at body
            refine g_aldn C d_Mod_join_192 rfl ?_
            refine r_f8 C d_Mod_join_193 hR ?_
            refine g_iconst (v := nI 1) C d_Mod_join_196 rfl ?_
            refine g_ld C d_Mod_join_197 rfl ?_
            refine g_ld C d_Mod_join_199 rfl ?_
            refine g_ld C d_Mod_join_201 rfl ?_
            first | refine g_subN C d_Mod_join_203 (by omega) ?_ | refine g_sub C d_Mod_join_203 ?_
            refine r_cell C d_Mod_join_204 (by omega) rfl (Nat.le_of_ble_eq_true rfl) (by decide) (by decide) (by decide) (by decide) ?_
            refine r_ld7 C d_Mod_join_207 hR (by omega) ((hF2 _ _ (by unfold LA; omega)).trans (r1.2.2 (c - (P.2.1 l).length) (by omega))) ?_
            exact body
          · rw [gd_l (by omega)] at body
            refine g_aldn C d_Mod_join_176 rfl ?_
            refine r_f8 C d_Mod_join_177 hR ?_
            refine g_iconst (v := nI 0) C d_Mod_join_180 rfl ?_
            refine g_ld C d_Mod_join_181 rfl ?_
            refine g_ld C d_Mod_join_183 rfl ?_
            refine r_cell C d_Mod_join_185 (by omega) rfl (Nat.le_of_ble_eq_true rfl) (by decide) (by decide) (by decide) (by decide) ?_
            refine r_ld7 C d_Mod_join_188 hR (by omega) ((hF2 _ _ (by unfold LA; omega)).trans (r0.2.2 c (by omega))) ?_
            refine g_goto C 208 d_Mod_join_189 (by decide) ?_
            exact body
      refine g_aldn C d_Mod_join_123 rfl ?_
      refine r_f9 C d_Mod_join_124 hR ?_
      refine g_ld C d_Mod_join_127 rfl ?_
      refine r_ld8 C d_Mod_join_129 hR (by omega) c0 ?_
      refine g_st C [_, _, _, _, _, _, _, _] d_Mod_join_130 (Nat.le_of_ble_eq_true rfl) rfl ?_
      refine g_aldn C d_Mod_join_132 rfl ?_
      refine r_f9 C d_Mod_join_133 hR ?_
      refine g_bipush (v := nI 8) C d_Mod_join_136 (by decide) ?_
      refine g_ld C d_Mod_join_138 rfl ?_
      first | refine g_addN C d_Mod_join_140 ?_ | refine g_add C d_Mod_join_140 ?_
      refine r_ld8 C d_Mod_join_141 hR (by omega) c1 ?_
      refine g_st C [_, _, _, _, _, _, _, _] d_Mod_join_142 (Nat.le_of_ble_eq_true rfl) rfl ?_
      refine g_iconst (v := nI 0) C d_Mod_join_144 rfl ?_
      refine g_st C [_, _, _, _, _, _, _, _] d_Mod_join_145 (Nat.le_of_ble_eq_true rfl) rfl ?_
      exact inner 0 (by omega) w R1 hR FrL.rf (fun q hq => by omega)
  have lpE : ∀ c, c ≤ P.1.length + Q.1.length → ∀ w1 R1, RefW w0 w1 m R1 md → FrW 2 R R1 → R1 9 2 = nI (P.1.length + Q.1.length) → (∀ q, q < c → R1 6 (160 + q) = gd 0 (P.1 ++ Q.1) q) → V X w1 0 0 [some (.ref m), some (.int (nI (P.2.2))), some (.int (nI (Q.2.2))), some (.int (nI (H))), some (.int (nI (c))), none, none, none] [] 47 := by
    refine upto _ (fun c hc ih w R1 hR hF h9 h6 => ?_)
    have e0 := (h0.frW hF (by omega)).1
    have e1 := (h1.frW hF (by omega)).1
    refine g_ld C d_Mod_join_47 rfl ?_
    refine g_aldn C d_Mod_join_49 rfl ?_
    refine r_f10 C d_Mod_join_50 hR ?_
    refine g_iconst (v := nI 2) C d_Mod_join_53 rfl ?_
    refine r_ld9 C d_Mod_join_54 hR (by omega) h9 ?_
    refine g_icmp_ge C 113 d_Mod_join_55 (by decide) (by first | exact nI_toInt (by omega) | rfl) (by first | exact nI_toInt (by omega) | rfl) (fun b55 => ?_) (fun b55 => ?_)
    · refine g_iconst (v := nI 1) C d_Mod_join_113 rfl ?_
      refine g_st C [_, _, _, _, _, _, _, _] d_Mod_join_114 (Nat.le_of_ble_eq_true rfl) rfl ?_
      exact lpR 1 (by omega) w R1 (Nat.le_refl _) hR hF ⟨by rw [L2]; exact h9, by omega, fun q hq => by rw [show 80 * 2 + q = 160 + q by omega]; exact h6 q (by omega)⟩ (fun q q1 q2 => by omega)
    · have body : V X w 0 0 [some (.ref m), some (.int (nI (P.2.2))), some (.int (nI (Q.2.2))), some (.int (nI (H))), some (.int (nI (c))), none, none, none] [.int (gd 0 (P.1 ++ Q.1) c), .int (nI (160 + c)), .ref (m + 7)] 106 := by
        refine r_st6 C d_Mod_join_106 hR (by omega) (fun w hR => ?_)
        refine g_incN C [_, _, _, _, _, _, _, _] d_Mod_join_107 rfl rfl ?_
        refine g_goto C 47 d_Mod_join_110 (by decide) ?_
        refine ih (c + 1) (by omega) (by omega) _ _ hR (hF.up (by unfold WA; omega)) ((rupn (by omega)).trans h9) (fun q hq => ?_)
        by_cases e : q = c
        · subst e; exact rups
        · exact (rupn (by omega)).trans (h6 q (by omega))
      refine g_aldn C d_Mod_join_58 rfl ?_
      refine r_f7 C d_Mod_join_59 hR ?_
      refine g_sipush (v := nI 160) C d_Mod_join_62 (by decide) ?_
      refine g_ld C d_Mod_join_65 rfl ?_
      first | refine g_addN C d_Mod_join_67 ?_ | refine g_add C d_Mod_join_67 ?_
      refine g_ld C d_Mod_join_68 rfl ?_
      refine g_aldn C d_Mod_join_70 rfl ?_
      refine r_f10 C d_Mod_join_71 hR ?_
      refine g_iconst (v := nI 0) C d_Mod_join_74 rfl ?_
      refine r_ld9 C d_Mod_join_75 hR (by omega) e0.1 ?_
      refine g_icmp_ge C 89 d_Mod_join_76 (by decide) (by first | exact nI_toInt (by omega) | rfl) (by first | exact nI_toInt (by omega) | rfl) (fun b76 => ?_) (fun b76 => ?_)
      · rw [gd_r (by omega)] at body
        have ev : R1 6 (80 + c - P.1.length) = gd 0 Q.1 (c - P.1.length) := by have := e1.2.2 (c - P.1.length) (by omega); rw [show 80 * 1 + (c - P.1.length) = 80 + c - P.1.length by omega] at this; exact this
        refine g_aldn C d_Mod_join_89 rfl ?_
        refine r_f7 C d_Mod_join_90 hR ?_
        refine g_bipush (v := nI 80) C d_Mod_join_93 (by decide) ?_
        refine g_ld C d_Mod_join_95 rfl ?_
        first | refine g_addN C d_Mod_join_97 ?_ | refine g_add C d_Mod_join_97 ?_
        refine g_aldn C d_Mod_join_98 rfl ?_
        refine r_f10 C d_Mod_join_99 hR ?_
        refine g_iconst (v := nI 0) C d_Mod_join_102 rfl ?_
        refine r_ld9 C d_Mod_join_103 hR (by omega) e0.1 ?_
        first | refine g_subN C d_Mod_join_104 (by omega) ?_ | refine g_sub C d_Mod_join_104 ?_
        refine r_ld6 C d_Mod_join_105 hR (by omega) ev ?_
        exact body
      · rw [gd_l (by omega)] at body
        have ev : R1 6 c = gd 0 P.1 c := by have := e0.2.2 c (by omega); rw [show 80 * 0 + c = c by omega] at this; exact this
        refine g_aldn C d_Mod_join_79 rfl ?_
        refine r_f7 C d_Mod_join_80 hR ?_
        refine g_ld C d_Mod_join_83 rfl ?_
        refine r_ld6 C d_Mod_join_85 hR (by omega) ev ?_
        refine g_goto C 106 d_Mod_join_86 (by decide) ?_
        exact body
  have st25 : V X w 0 0 [some (.ref m), some (.int (nI (P.2.2))), some (.int (nI (Q.2.2))), some (.int (nI (H))), none, none, none, none] [] 25 := by
    refine g_aldn C d_Mod_join_25 rfl ?_
    refine r_f10 C d_Mod_join_26 hR ?_
    refine g_iconst (v := nI 2) C d_Mod_join_29 rfl ?_
    refine g_aldn C d_Mod_join_30 rfl ?_
    refine r_f10 C d_Mod_join_31 hR ?_
    refine g_iconst (v := nI 0) C d_Mod_join_34 rfl ?_
    refine r_ld9 C d_Mod_join_35 hR (by omega) g0 ?_
    refine g_aldn C d_Mod_join_36 rfl ?_
    refine r_f10 C d_Mod_join_37 hR ?_
    refine g_iconst (v := nI 1) C d_Mod_join_40 rfl ?_
    refine r_ld9 C d_Mod_join_41 hR (by omega) g1 ?_
    first | refine g_addN C d_Mod_join_42 ?_ | refine g_add C d_Mod_join_42 ?_
    refine r_st9 C d_Mod_join_43 hR (by omega) (fun w hR => ?_)
    refine g_iconst (v := nI 0) C d_Mod_join_44 rfl ?_
    refine g_st C [_, _, _, _, _, _, _, _] d_Mod_join_45 (Nat.le_of_ble_eq_true rfl) rfl ?_
    exact lpE 0 (by omega) _ _ hR (FrW.rf.up (by unfold WA; omega)) rups (fun q hq => by omega)
  refine g_aldn C d_Mod_join_0 rfl ?_
  refine r_f11 C d_Mod_join_1 hR ?_
  refine g_iconst (v := nI 0) C d_Mod_join_4 rfl ?_
  refine r_ld10 C d_Mod_join_5 hR (by omega) hH0 ?_
  refine g_stn C [_, _, _, _, _, _, _, _] d_Mod_join_6 (Nat.le_of_ble_eq_true rfl) rfl ?_
  refine g_aldn C d_Mod_join_7 rfl ?_
  refine r_f11 C d_Mod_join_8 hR ?_
  refine g_iconst (v := nI 1) C d_Mod_join_11 rfl ?_
  refine r_ld10 C d_Mod_join_12 hR (by omega) hH1 ?_
  refine g_stn C [_, _, _, _, _, _, _, _] d_Mod_join_13 (Nat.le_of_ble_eq_true rfl) rfl ?_
  refine g_ldn C d_Mod_join_14 rfl ?_
  refine g_ldn C d_Mod_join_15 rfl ?_
  refine g_icmp_le C 23 d_Mod_join_16 (by decide) (by first | exact nI_toInt (by omega) | rfl) (by first | exact nI_toInt (by omega) | rfl) (fun b16 => ?_) (fun b16 => ?_)
  · refine g_ldn C d_Mod_join_23 rfl ?_
    refine g_stn C [_, _, _, _, _, _, _, _] d_Mod_join_24 (Nat.le_of_ble_eq_true rfl) rfl ?_
    rw [show H = Q.2.2 by omega] at st25
    exact st25
  · refine g_ldn C d_Mod_join_19 rfl ?_
    refine g_goto C 24 d_Mod_join_20 (by decide) ?_
    refine g_stn C [_, _, _, _, _, _, _, _] d_Mod_join_24 (Nat.le_of_ble_eq_true rfl) rfl ?_
    rw [show H = P.2.2 by omega] at st25
    exact st25
