/-! PACKING: what one saving finds and leaves. -/
def okR (L : List Nat) : Prop := ∀ x ∈ L, 1 ≤ x ∧ x ≤ 4
theorem okR_gd {L : List Nat} (h : okR L) {i : Nat} (hi : i < L.length) : 1 ≤ gd 0 L i ∧ gd 0 L i ≤ 4 := h _ (gd_mem hi)
theorem okR_of {L : List Nat} (h : ∀ i, i < L.length → 1 ≤ gd 0 L i ∧ gd 0 L i ≤ 4) : okR L := by
  intro x hx
  obtain ⟨i, hi, rfl⟩ := gd_of_mem (z := 0) hx
  exact h i hi
theorem ps_up {L : List Nat} {a c : Nat} : ∀ m, (∀ q, a ≤ q → q < a + m → gd 0 L q = c) → ps L (a + m) = ps L a + c * m := by
  intro m
  induction m with
  | zero => intro _; simp
  | succ m ih =>
    intro h
    rw [← Nat.add_assoc, ps_s, ih (fun q x y => h q x (by omega)), h (a + m) (by omega) (by omega), Nat.mul_succ, Nat.add_assoc]
theorem ps_ge {L : List Nat} {a c : Nat} : ∀ m, (∀ q, a ≤ q → q < a + m → c ≤ gd 0 L q) → ps L a + c * m ≤ ps L (a + m) := by
  intro m
  induction m with
  | zero => intro _; simp
  | succ m ih =>
    intro h
    have h1 := ih (fun q x y => h q x (by omega))
    have h2 := h (a + m) (by omega) (by omega)
    rw [← Nat.add_assoc, ps_s, Nat.mul_succ]
    omega
/-- the places i, j of one saving -/
def pkAt (L : List Nat) (s n i j : Nat) : Prop := s ≤ i ∧ i < j ∧ j < s + n ∧ gd 0 L i < 4 ∧ (∀ q, s ≤ q → q < i → gd 0 L q = 4) ∧ ps L (j + 1) - ps L i ≤ 4 * (j - i) ∧ ∀ q, i < q → q < j → 4 * (q - i) < ps L (q + 1) - ps L i
theorem pk_find {L : List Nat} {s n t : Nat} (hL : okR L) (hs : s + n ≤ L.length) (ht : ps L (s + n) - ps L s = t) (hn : (t + 3) / 4 + 1 < n) : ∃ i j, pkAt L s n i j := by
  have ex : ∃ q, s ≤ q ∧ q < s + n ∧ gd 0 L q < 4 := by
    apply Classical.byContradiction
    intro hno
    have := ps_ge (L := L) (a := s) (c := 4) n (fun q x y => by
      apply Nat.le_of_not_lt
      intro z
      exact hno ⟨q, x, y, z⟩)
    omega
  obtain ⟨i, ⟨i1, i2, i3⟩, imin⟩ := pk_least _ ex
  have all4 : ∀ q, s ≤ q → q < i → gd 0 L q = 4 := by
    intro q x y
    have h1 := (okR_gd hL (show q < L.length by omega)).2
    have h2 : ¬ (s ≤ q ∧ q < s + n ∧ gd 0 L q < 4) := imin q y
    omega
  have psi : ps L i = ps L s + 4 * (i - s) := by
    have := ps_up (L := L) (a := s) (c := 4) (i - s) (fun q x y => all4 q x (by omega))
    rw [show s + (i - s) = i by omega] at this
    exact this
  have pos1 := (okR_gd hL (show i < L.length by omega)).1
  have mono := ps_mono L (a := s) (b := s + n) (by omega)
  have ilt : i + 1 < s + n := by
    apply Classical.byContradiction
    intro hge
    have e : s + n = i + 1 := by omega
    rw [e, ps_s] at ht
    omega
  have exj : ∃ q, i < q ∧ q < s + n ∧ ps L (q + 1) - ps L i ≤ 4 * (q - i) := by
    refine ⟨s + n - 1, by omega, by omega, ?_⟩
    rw [show s + n - 1 + 1 = s + n by omega]
    omega
  obtain ⟨j, ⟨j1, j2, j3⟩, jmin⟩ := pk_least _ exj
  refine ⟨i, j, i1, j1, j2, i3, all4, j3, fun q x y => ?_⟩
  have h2 : ¬ (i < q ∧ q < s + n ∧ ps L (q + 1) - ps L i ≤ 4 * (q - i)) := jmin q y
  omega
theorem pkI_eq {L : List Nat} {s n i j : Nat} (h : pkAt L s n i j) (hs : s + n ≤ L.length) : pkI L s = i := by
  obtain ⟨h1, h2, h3, h4, h5, h6, h7⟩ := h
  refine srch_eq _ _ s i h1 (fun q a b => ?_) (by simpa using h4) (by omega)
  rw [decide_eq_false_iff_not, h5 q a b]; omega
theorem pkJ_eq {L : List Nat} {s n i j : Nat} (h : pkAt L s n i j) (hs : s + n ≤ L.length) : pkJ L i = j := by
  obtain ⟨h1, h2, h3, h4, h5, h6, h7⟩ := h
  refine srch_eq _ _ (i + 1) j (by omega) (fun q a b => ?_) (by simpa using h6) (by omega)
  rw [decide_eq_false_iff_not]
  have := h7 q (by omega) b
  omega
theorem pk1_eq {L : List Nat} {s n i j : Nat} (h : pkAt L s n i j) (hs : s + n ≤ L.length) : pk1 L s = (List.range (L.length - 1)).map (pkG L i j) := by
  unfold pk1
  rw [pkI_eq h hs, pkJ_eq h hs]
theorem pk1_len (L : List Nat) (s : Nat) : (pk1 L s).length = L.length - 1 := by simp [pk1]
theorem gd_range {f : Nat → Nat} {n k : Nat} (h : k < n) : gd 0 ((List.range n).map f) k = f k := by
  simp [gd, h]
theorem pk1_gd {L : List Nat} {s n i j : Nat} (h : pkAt L s n i j) (hs : s + n ≤ L.length) (k : Nat) : gd 0 (pk1 L s) k = pkG L i j k := by
  rw [pk1_eq h hs]
  by_cases hk : k < L.length - 1
  · exact gd_range hk
  · rw [gd_ge (by simp; omega)]
    obtain ⟨h1, h2, h3, h4, h5, h6, h7⟩ := h
    unfold pkG
    rw [if_neg (by omega), if_neg (by omega), if_neg (by omega), gd_ge (by omega)]
/-- a list that is so at each place is the packed one -/
theorem pk1_is {L M : List Nat} {s n i j : Nat} (h : pkAt L s n i j) (hs : s + n ≤ L.length) (hl : M.length + 1 = L.length) (hM : ∀ k, k < M.length → gd 0 M k = pkG L i j k) : M = pk1 L s := by
  apply gd_ext 0
  · rw [pk1_len]; omega
  · intro k hk
    rw [pk1_gd h hs, hM k hk]
theorem pkAt_val {L : List Nat} {s n i j : Nat} (hL : okR L) (h : pkAt L s n i j) (hs : s + n ≤ L.length) : 1 ≤ ps L (j + 1) - ps L i - 4 * (j - 1 - i) ∧ ps L (j + 1) - ps L i - 4 * (j - 1 - i) ≤ 4 ∧ 4 * (j - 1 - i) ≤ ps L (j + 1) - ps L i := by
  obtain ⟨h1, h2, h3, h4, h5, h6, h7⟩ := h
  have p1 := ps_s L j
  have g1 := (okR_gd hL (show j < L.length by omega)).1
  have m1 := ps_mono L (a := i) (b := j) (by omega)
  have key : 4 * (j - 1 - i) ≤ ps L j - ps L i := by
    by_cases e : j = i + 1
    · rw [e]; simp
    · have := h7 (j - 1) (by omega) (by omega)
      rw [show j - 1 + 1 = j by omega] at this
      omega
  omega
theorem pk1_ok {L : List Nat} {s n i j : Nat} (hL : okR L) (h : pkAt L s n i j) (hs : s + n ≤ L.length) : okR (pk1 L s) := by
  apply okR_of
  intro k hk
  rw [pk1_len] at hk
  rw [pk1_gd h hs]
  have hv := pkAt_val hL h hs
  obtain ⟨h1, h2, h3, h4, h5, h6, h7⟩ := h
  unfold pkG
  split
  · exact okR_gd hL (by omega)
  · split
    · omega
    · split
      · omega
      · exact okR_gd hL (by omega)
theorem pk1_ps_lo {L : List Nat} {s n i j : Nat} (h : pkAt L s n i j) (hs : s + n ≤ L.length) : ∀ k, k ≤ i → ps (pk1 L s) k = ps L k := by
  intro k
  induction k with
  | zero => intro _; rw [ps_0, ps_0]
  | succ k ih =>
    intro hk
    rw [ps_s, ps_s, ih (by omega), pk1_gd h hs]
    unfold pkG
    rw [if_pos (by omega)]
theorem pk1_ps_hi {L : List Nat} {s n i j : Nat} (hL : okR L) (h : pkAt L s n i j) (hs : s + n ≤ L.length) : ∀ d, ps (pk1 L s) (j + d) = ps L (j + d + 1) := by
  have hv := pkAt_val hL h hs
  have lo := pk1_ps_lo h hs i (Nat.le_refl _)
  have g := pk1_gd h hs
  have h' := h
  obtain ⟨h1, h2, h3, h4, h5, h6, h7⟩ := h'
  have mid : ps (pk1 L s) (j - 1) = ps L i + 4 * (j - 1 - i) := by
    have := ps_up (L := pk1 L s) (a := i) (c := 4) (j - 1 - i) (fun q x y => by
      rw [g]; unfold pkG; rw [if_neg (by omega), if_pos (by omega)])
    rw [show i + (j - 1 - i) = j - 1 by omega, lo] at this
    exact this
  have m1 := ps_mono L (a := i) (b := j + 1) (by omega)
  intro d
  induction d with
  | zero =>
    have : ps (pk1 L s) (j - 1 + 1) = ps (pk1 L s) (j - 1) + gd 0 (pk1 L s) (j - 1) := ps_s _ _
    rw [g] at this
    unfold pkG at this
    rw [if_neg (by omega), if_neg (by omega), if_pos (by omega), mid, show j - 1 + 1 = j by omega] at this
    rw [Nat.add_zero, this]
    omega
  | succ d ih =>
    rw [← Nat.add_assoc, ps_s, ih, g, ps_s L (j + d + 1)]
    unfold pkG
    rw [if_neg (by omega), if_neg (by omega), if_neg (by omega)]
theorem pk1_sum {L : List Nat} {s n i j : Nat} (hL : okR L) (h : pkAt L s n i j) (hs : s + n ≤ L.length) : (pk1 L s).sum = L.sum ∧ ps (pk1 L s) (s + (n - 1)) - ps (pk1 L s) s = ps L (s + n) - ps L s := by
  have lo := pk1_ps_lo h hs s h.1
  have hi := pk1_ps_hi hL h hs
  have h' := h
  obtain ⟨h1, h2, h3, h4, h5, h6, h7⟩ := h'
  constructor
  · have e := hi (L.length - 1 - j)
    rw [show j + (L.length - 1 - j) = L.length - 1 by omega, show L.length - 1 + 1 = L.length by omega, ps_len (L := L) (Nat.le_refl _), ps_len (by rw [pk1_len]; exact Nat.le_refl _)] at e
    exact e
  · have e := hi (s + n - 1 - j)
    rw [show j + (s + n - 1 - j) = s + (n - 1) by omega, show s + (n - 1) + 1 = s + n by omega] at e
    rw [e, lo]
theorem pkN_ok : ∀ (q : Nat) (L : List Nat) (s n t : Nat), okR L → s + n ≤ L.length → ps L (s + n) - ps L s = t → n ≤ q → 1 ≤ n →
    okR (pkN q L s n t).1 ∧ (pkN q L s n t).1.length + n = L.length + (pkN q L s n t).2 ∧ (pkN q L s n t).1.sum = L.sum ∧ 1 ≤ (pkN q L s n t).2 ∧ (pkN q L s n t).2 ≤ n := by
  intro q
  induction q with
  | zero => intro L s n t _ _ _ h1 h2; omega
  | succ q ih =>
    intro L s n t hL hs ht hq hn
    simp only [pkN]
    by_cases hc : (t + 3) / 4 + 1 < n
    · rw [if_pos hc]
      obtain ⟨i, j, hij⟩ := pk_find hL hs ht hc
      have hsum := pk1_sum hL hij hs
      obtain ⟨a, b, c, d, e⟩ := ih (pk1 L s) s (n - 1) t (pk1_ok hL hij hs) (by rw [pk1_len]; omega) (by rw [hsum.2, ht]) (by omega) (by omega)
      refine ⟨a, ?_, by rw [c, hsum.1], d, by omega⟩
      rw [pk1_len] at b
      omega
    · rw [if_neg hc]
      exact ⟨hL, rfl, rfl, hn, Nat.le_refl _⟩
