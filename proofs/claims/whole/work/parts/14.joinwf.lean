/-! JOINING: each level's row, and that the result is a tree. -/
theorem sum_drop1 (q : List Nat) : (q.drop 1).sum + begOf q = q.sum := by
  cases q with
  | nil => simp [begOf, gd]
  | cons x q => simp only [List.drop_succ_cons, List.drop_zero, List.sum_cons, begOf]; rw [gd_0]; omega
theorem sum_take1 (p : List Nat) : (p.take (p.length - 1)).sum + endOf p = p.sum := by
  cases p with
  | nil => simp [endOf, gd]
  | cons x p =>
    have := ps_s (x :: p) p.length
    rw [ps_len (L := x :: p) (k := p.length + 1) (by simp)] at this
    unfold endOf
    simp only [List.length_cons, Nat.add_sub_cancel]
    unfold ps at this
    exact this.symm
theorem end_le (p : List Nat) : endOf p ≤ p.sum := by have := sum_take1 p; omega
theorem beg_le (p : List Nat) : begOf p ≤ p.sum := by have := sum_drop1 p; omega
theorem jRow_facts {p q : List Nat} {n : Nat} (hp : okR p) (hq : okR q) (h1 : 1 ≤ n) (h8 : n ≤ 8) : okR (jRow p q n) ∧ (jRow p q n).length = (p.length - 1) + (if 4 < n then 2 else 1) + (q.length - 1) ∧ (jRow p q n).sum + endOf p + begOf q = p.sum + n + q.sum := by
  refine ⟨?_, ?_, ?_⟩
  · intro x hx
    unfold jRow at hx
    rcases List.mem_append.mp hx with z | z
    · exact hp x (List.mem_of_mem_take z)
    · rcases List.mem_append.mp z with z | z
      · simp only [List.mem_singleton] at z
        rw [z, Nat.min_def]
        split <;> omega
      · rcases List.mem_append.mp z with z | z
        · by_cases h4 : 4 < n
          · rw [if_pos h4] at z
            simp only [List.mem_singleton] at z
            omega
          · rw [if_neg h4] at z
            cases z
        · exact hq x (List.mem_of_mem_drop z)
  · unfold jRow
    simp only [List.length_append, List.length_take, List.length_drop, List.length_singleton]
    by_cases h4 : 4 < n
    · rw [if_pos h4, if_pos h4]; simp only [List.length_singleton]; omega
    · rw [if_neg h4, if_neg h4]; simp only [List.length_nil]; omega
  · have a := sum_take1 p
    have b := sum_drop1 q
    unfold jRow
    simp only [List.sum_append, List.sum_singleton]
    by_cases h4 : 4 < n
    · rw [if_pos h4]; simp only [List.sum_singleton, Nat.min_def]; split <;> omega
    · rw [if_neg h4]; simp only [List.sum_nil, Nat.min_def]; split <;> omega
theorem wf_okR {M : Nat} {T : Tr} (h : wfT M T) (k : Nat) : okR (T.2.1 k) := by
  by_cases hk : k = 0 ∨ T.2.2 < k
  · rw [h.2.2.2.1 k hk]; intro x hx; cases hx
  · exact (h.2.2.2.2.1 k (by omega) (by omega)).1
theorem ok_end {p : List Nat} (h : okR p) : endOf p ≤ 4 ∧ (1 ≤ p.length → 1 ≤ endOf p) := by
  unfold endOf
  by_cases h0 : 1 ≤ p.length
  · have := okR_gd h (show p.length - 1 < p.length by omega)
    exact ⟨this.2, fun _ => this.1⟩
  · rw [gd_ge (by omega)]; exact ⟨by omega, fun z => by omega⟩
theorem ok_beg {p : List Nat} (h : okR p) : begOf p ≤ 4 ∧ (1 ≤ p.length → 1 ≤ begOf p) := by
  unfold begOf
  by_cases h0 : 1 ≤ p.length
  · have := okR_gd h (show 0 < p.length by omega)
    exact ⟨this.2, fun _ => this.1⟩
  · rw [gd_ge (by omega)]; exact ⟨by omega, fun z => by omega⟩
/-- what holds of a level's row as it comes from below -/
def jOk (P Q : Tr) (k : Nat) : Prop := okR (jUp P.2.1 Q.2.1 k).1 ∧ (jUp P.2.1 Q.2.1 k).2.1 = (P.2.1 k).length - 1 ∧ ((jUp P.2.1 Q.2.1 k).2.2 = 1 ∨ (jUp P.2.1 Q.2.1 k).2.2 = 2) ∧ (jUp P.2.1 Q.2.1 k).1.length = ((P.2.1 k).length - 1) + (jUp P.2.1 Q.2.1 k).2.2 + ((Q.2.1 k).length - 1)
/-- what packing it for the level above finds and leaves -/
theorem jPk_ok {M : Nat} {P Q : Tr} (hP : wfT M P) (hQ : wfT M Q) {k : Nat} (k1 : 1 ≤ k) (h : jOk P Q k) :
    endOf (P.2.1 (k + 1)) - 1 ≤ (jUp P.2.1 Q.2.1 k).2.1 ∧ jStart (P.2.1 (k + 1)) (jUp P.2.1 Q.2.1 k).2.1 + jNum (P.2.1 (k + 1)) (Q.2.1 (k + 1)) (jUp P.2.1 Q.2.1 k).2.2 ≤ (jUp P.2.1 Q.2.1 k).1.length ∧ 1 ≤ jNum (P.2.1 (k + 1)) (Q.2.1 (k + 1)) (jUp P.2.1 Q.2.1 k).2.2 ∧ jNum (P.2.1 (k + 1)) (Q.2.1 (k + 1)) (jUp P.2.1 Q.2.1 k).2.2 ≤ 8 ∧
    okR (jPk P.2.1 Q.2.1 k).1 ∧ (jPk P.2.1 Q.2.1 k).1.length + jNum (P.2.1 (k + 1)) (Q.2.1 (k + 1)) (jUp P.2.1 Q.2.1 k).2.2 = (jUp P.2.1 Q.2.1 k).1.length + (jPk P.2.1 Q.2.1 k).2 ∧ (jPk P.2.1 Q.2.1 k).1.sum = (jUp P.2.1 Q.2.1 k).1.sum ∧ 1 ≤ (jPk P.2.1 Q.2.1 k).2 ∧ (jPk P.2.1 Q.2.1 k).2 ≤ 8 := by
  obtain ⟨h1, h2, h3, h4⟩ := h
  have sumP : (P.2.1 (k + 1)).sum ≤ (P.2.1 k).length := by
    by_cases hk : k + 1 ≤ P.2.2
    · have := (hP.2.2.2.2.1 (k + 1) (by omega) hk).2
      rw [Nat.add_sub_cancel, cn_p P k1] at this
      omega
    · rw [hP.2.2.2.1 (k + 1) (by omega)]; simp
  have sumQ : (Q.2.1 (k + 1)).sum ≤ (Q.2.1 k).length := by
    by_cases hk : k + 1 ≤ Q.2.2
    · have := (hQ.2.2.2.2.1 (k + 1) (by omega) hk).2
      rw [Nat.add_sub_cancel, cn_p Q k1] at this
      omega
    · rw [hQ.2.2.2.1 (k + 1) (by omega)]; simp
  have eP := end_le (P.2.1 (k + 1))
  have bQ := beg_le (Q.2.1 (k + 1))
  have e4 := (ok_end (wf_okR hP (k + 1))).1
  have b4 := (ok_beg (wf_okR hQ (k + 1))).1
  have sn : jStart (P.2.1 (k + 1)) (jUp P.2.1 Q.2.1 k).2.1 + jNum (P.2.1 (k + 1)) (Q.2.1 (k + 1)) (jUp P.2.1 Q.2.1 k).2.2 ≤ (jUp P.2.1 Q.2.1 k).1.length := by
    unfold jStart jNum
    omega
  have n1 : 1 ≤ jNum (P.2.1 (k + 1)) (Q.2.1 (k + 1)) (jUp P.2.1 Q.2.1 k).2.2 := by unfold jNum; omega
  have n8 : jNum (P.2.1 (k + 1)) (Q.2.1 (k + 1)) (jUp P.2.1 Q.2.1 k).2.2 ≤ 8 := by unfold jNum; omega
  have := pkN_ok _ _ _ _ _ h1 sn rfl (Nat.le_refl _) n1
  refine ⟨by omega, sn, n1, n8, this.1, this.2.1, this.2.2.1, this.2.2.2.1, Nat.le_trans this.2.2.2.2 n8⟩
theorem jUp_s (p q : Nat → List Nat) {k : Nat} (h : 1 ≤ k) : jUp p q (k + 1) = (jRow (p (k + 1)) (q (k + 1)) (jPk p q k).2, (p (k + 1)).length - 1, if 4 < (jPk p q k).2 then 2 else 1) := by
  obtain ⟨j, rfl⟩ : ∃ j, k = j + 1 := ⟨k - 1, by omega⟩
  rfl
theorem jUp_ok {M : Nat} {P Q : Tr} (hP : wfT M P) (hQ : wfT M Q) (p1 : 1 ≤ P.2.2) (q1 : 1 ≤ Q.2.2) : ∀ k, jOk P Q (k + 1) := by
  intro k
  induction k with
  | zero =>
    refine ⟨?_, rfl, Or.inr rfl, ?_⟩
    · intro x hx
      rcases List.mem_append.mp hx with z | z
      · exact wf_okR hP 1 x z
      · exact wf_okR hQ 1 x z
    · have a := wf_ne hP (k := 1) (by omega) p1
      have b := wf_ne hQ (k := 1) (by omega) q1
      simp only [jUp, List.length_append, Nat.zero_add]
      omega
  | succ k ih =>
    obtain ⟨a1, a2, a3, a4, a5, a6, a7, a8, a9⟩ := jPk_ok hP hQ (k := k + 1) (by omega) ih
    have f := jRow_facts (wf_okR hP (k + 2)) (wf_okR hQ (k + 2)) a8 a9
    unfold jOk
    rw [jUp_s _ _ (by omega)]
    refine ⟨f.1, rfl, ?_, f.2.1⟩
    simp only
    split
    · exact Or.inr rfl
    · exact Or.inl rfl
theorem jUp_sum {M : Nat} {P Q : Tr} (hP : wfT M P) (hQ : wfT M Q) (p1 : 1 ≤ P.2.2) (q1 : 1 ≤ Q.2.2) (k : Nat) : (jUp P.2.1 Q.2.1 (k + 1)).1.sum = if k = 0 then P.1.length + Q.1.length else (jPk P.2.1 Q.2.1 k).1.length := by
  cases k with
  | zero =>
    have a := (hP.2.2.2.2.1 1 (by omega) p1).2
    have b := (hQ.2.2.2.2.1 1 (by omega) q1).2
    simp only [jUp, List.sum_append, if_pos]
    rw [a, b]
    rfl
  | succ k =>
    rw [if_neg (by omega), jUp_s _ _ (by omega)]
    have ih := jUp_ok hP hQ p1 q1 k
    obtain ⟨a1, a2, a3, a4, a5, a6, a7, a8, a9⟩ := jPk_ok hP hQ (k := k + 1) (by omega) ih
    obtain ⟨i1, i2, i3, i4⟩ := ih
    have f := (jRow_facts (wf_okR hP (k + 2)) (wf_okR hQ (k + 2)) a8 a9).2.2
    simp only
    rw [i4] at a6
    unfold jNum at a6
    have sideP : (P.2.1 (k + 1)).length - 1 = (P.2.1 (k + 2)).sum - endOf (P.2.1 (k + 2)) + (endOf (P.2.1 (k + 2)) - 1) ∧ endOf (P.2.1 (k + 2)) ≤ (P.2.1 (k + 2)).sum := by
      by_cases hk : k + 2 ≤ P.2.2
      · have s1 := (hP.2.2.2.2.1 (k + 2) (by omega) hk).2
        rw [show k + 2 - 1 = k + 1 by omega, cn_p P (by omega)] at s1
        have s2 := (ok_end (wf_okR hP (k + 2))).2 (wf_ne hP (by omega) hk)
        have s3 := end_le (P.2.1 (k + 2))
        omega
      · rw [hP.2.2.2.1 (k + 2) (by omega)]
        have : (P.2.1 (k + 1)).length ≤ 1 := by
          by_cases hk1 : k + 1 = P.2.2
          · rw [hk1, hP.2.2.2.2.2 p1]; exact Nat.le_refl _
          · rw [hP.2.2.2.1 (k + 1) (by omega)]; simp
        simp [endOf, gd]
        omega
    have sideQ : (Q.2.1 (k + 1)).length - 1 = (Q.2.1 (k + 2)).sum - begOf (Q.2.1 (k + 2)) + (begOf (Q.2.1 (k + 2)) - 1) ∧ begOf (Q.2.1 (k + 2)) ≤ (Q.2.1 (k + 2)).sum := by
      by_cases hk : k + 2 ≤ Q.2.2
      · have s1 := (hQ.2.2.2.2.1 (k + 2) (by omega) hk).2
        rw [show k + 2 - 1 = k + 1 by omega, cn_p Q (by omega)] at s1
        have s2 := (ok_beg (wf_okR hQ (k + 2))).2 (wf_ne hQ (by omega) hk)
        have s3 := beg_le (Q.2.1 (k + 2))
        omega
      · rw [hQ.2.2.2.1 (k + 2) (by omega)]
        have : (Q.2.1 (k + 1)).length ≤ 1 := by
          by_cases hk1 : k + 1 = Q.2.2
          · rw [hk1, hQ.2.2.2.2.2 q1]; exact Nat.le_refl _
          · rw [hQ.2.2.2.1 (k + 1) (by omega)]; simp
        simp [begOf, gd]
        omega
    rw [show k + 1 + 1 = k + 2 from rfl] at a6 ⊢
    omega
theorem wf_mono {M M' : Nat} {T : Tr} (h : wfT M T) (hM : M ≤ M') : wfT M' T := ⟨h.1, Nat.le_trans h.2.1 hM, h.2.2⟩
theorem joinT_wf {M : Nat} {P Q : Tr} (hP : wfT M P) (hQ : wfT M Q) (hl : P.1.length + Q.1.length ≤ 80) : wfT (M + 1) (joinT P Q) := by
  unfold joinT
  by_cases p0 : P.1.length = 0
  · rw [if_pos p0]; exact wf_mono hQ (by omega)
  · rw [if_neg p0]
    by_cases q0 : Q.1.length = 0
    · rw [if_pos q0]; exact wf_mono hP (by omega)
    · rw [if_neg q0]
      have p1 : 1 ≤ P.2.2 := Nat.one_le_iff_ne_zero.mpr (fun z => p0 (hP.2.2.1.mp z))
      have q1 : 1 ≤ Q.2.2 := Nat.one_le_iff_ne_zero.mpr (fun z => q0 (hQ.2.2.1.mp z))
      have hH1 : 1 ≤ max P.2.2 Q.2.2 := by omega
      have hHM : max P.2.2 Q.2.2 ≤ M := Nat.max_le.mpr ⟨hP.2.1, hQ.2.1⟩
      have hmx : P.2.2 ≤ max P.2.2 Q.2.2 ∧ Q.2.2 ≤ max P.2.2 Q.2.2 := ⟨Nat.le_max_left _ _, Nat.le_max_right _ _⟩
      simp only
      have hl1 : (P.2.1 (max P.2.2 Q.2.2)).length - 1 = 0 ∧ (Q.2.1 (max P.2.2 Q.2.2)).length - 1 = 0 := by
        generalize max P.2.2 Q.2.2 = H at hmx hH1
        constructor
        · by_cases e : P.2.2 = H
          · rw [← e, hP.2.2.2.2.2 p1]
          · rw [hP.2.2.2.1 H (by omega)]; rfl
        · by_cases e : Q.2.2 = H
          · rw [← e, hQ.2.2.2.2.2 q1]
          · rw [hQ.2.2.2.1 H (by omega)]; rfl
      generalize max P.2.2 Q.2.2 = H at hH1 hHM hl1
      have up : ∀ k, 1 ≤ k → jOk P Q k := fun k hk => by
        have := jUp_ok hP hQ p1 q1 (k - 1)
        rwa [show k - 1 + 1 = k by omega] at this
      have sm : ∀ k, 1 ≤ k → (jUp P.2.1 Q.2.1 k).1.sum = if k = 1 then P.1.length + Q.1.length else (jPk P.2.1 Q.2.1 (k - 1)).1.length := fun k hk => by
        have := jUp_sum hP hQ p1 q1 (k - 1)
        rw [show k - 1 + 1 = k by omega] at this
        rw [this]
        by_cases e : k = 1
        · subst e; rfl
        · rw [if_neg (by omega), if_neg e]
      obtain ⟨t1, t2, t3, t4⟩ := up H hH1
      generalize hm : (jUp P.2.1 Q.2.1 H).2.2 = m at t3 t4
      have topl : (jUp P.2.1 Q.2.1 H).1.length = m := by omega
      refine ⟨by simp only [List.length_append]; exact hl, by simp only; split <;> omega, ?_, ?_, ?_, ?_⟩
      · simp only [List.length_append]
        split <;> omega
      · intro k hk
        simp only at hk ⊢
        by_cases k0 : k = 0
        · rw [if_pos k0]
        · rw [if_neg k0, if_neg (by split at hk <;> omega), if_neg (by split at hk <;> omega), if_neg (by split at hk <;> omega)]
      · intro k k1 k2
        simp only at k2 ⊢
        rw [if_neg (by omega)]
        have below : k ≤ H → 2 ≤ k → cn (P.1 ++ Q.1, fun k => if k = 0 then [] else if k < H then (jPk P.2.1 Q.2.1 k).1 else if k = H then (jUp P.2.1 Q.2.1 H).1 else if k = H + 1 ∧ m = 2 then [2] else [], if m = 2 then H + 1 else H) (k - 1) = (jPk P.2.1 Q.2.1 (k - 1)).1.length := by
          intro a b
          rw [cn_p _ (by omega)]
          simp only
          rw [if_neg (by omega), if_pos (by omega)]
        have bot : cn (P.1 ++ Q.1, fun k => if k = 0 then [] else if k < H then (jPk P.2.1 Q.2.1 k).1 else if k = H then (jUp P.2.1 Q.2.1 H).1 else if k = H + 1 ∧ m = 2 then [2] else [], if m = 2 then H + 1 else H) 0 = P.1.length + Q.1.length := by
          rw [cn_0]; simp only [List.length_append]
        by_cases e1 : k < H
        · rw [if_pos e1]
          obtain ⟨a1, a2, a3, a4, a5, a6, a7, a8, a9⟩ := jPk_ok hP hQ k1 (up k k1)
          refine ⟨a5, ?_⟩
          rw [a7, sm k k1]
          by_cases e : k = 1
          · subst e; rw [if_pos rfl]; exact bot.symm
          · rw [if_neg e, below (by omega) (by omega)]
        · rw [if_neg e1]
          by_cases e2 : k = H
          · subst e2
            rw [if_pos rfl]
            refine ⟨t1, ?_⟩
            rw [sm k k1]
            by_cases e : k = 1
            · subst e; rw [if_pos rfl]; exact bot.symm
            · rw [if_neg e, below (by omega) (by omega)]
          · have m2 : m = 2 := by split at k2 <;> omega
            have kH : k = H + 1 := by split at k2 <;> omega
            subst kH
            rw [if_neg (by omega), if_pos ⟨rfl, m2⟩]
            refine ⟨fun x hx => by simp at hx; omega, ?_⟩
            rw [Nat.add_sub_cancel, cn_p _ (by omega)]
            simp only
            rw [if_neg (by omega), if_neg (by omega)]
            rw [if_pos trivial]
            rw [topl, m2]
            rfl
      · intro _
        simp only
        by_cases m2 : m = 2
        · rw [if_pos m2, if_neg (by omega), if_neg (by omega), if_neg (by omega), if_pos ⟨rfl, m2⟩]; rfl
        · rw [if_neg m2, if_neg (by omega), if_neg (by omega), if_pos rfl, topl]; omega
