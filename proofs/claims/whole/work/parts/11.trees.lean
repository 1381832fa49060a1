/-! TREES: elements, rows of slot counts by level, height; what the calls make of them. -/
abbrev Tr : Type := List Int32 × (Nat → List Nat) × Nat
def cn (T : Tr) (k : Nat) : Nat := if k = 0 then T.1.length else (T.2.1 k).length
def wfT (M : Nat) (T : Tr) : Prop := T.1.length ≤ 80 ∧ T.2.2 ≤ M ∧ (T.2.2 = 0 ↔ T.1.length = 0) ∧ (∀ k, k = 0 ∨ T.2.2 < k → T.2.1 k = []) ∧ (∀ k, 1 ≤ k → k ≤ T.2.2 → (∀ x ∈ T.2.1 k, 1 ≤ x ∧ x ≤ 4) ∧ (T.2.1 k).sum = cn T (k - 1)) ∧ (1 ≤ T.2.2 → (T.2.1 T.2.2).length = 1)
theorem cn_0 (T : Tr) : cn T 0 = T.1.length := rfl
theorem cn_p (T : Tr) {k : Nat} (h : 1 ≤ k) : cn T k = (T.2.1 k).length := by
  unfold cn; rw [if_neg (by omega)]
theorem wf_step {M : Nat} {T : Tr} (h : wfT M T) {k : Nat} (h1 : 1 ≤ k) (h2 : k ≤ T.2.2) : cn T k ≤ cn T (k - 1) := by
  obtain ⟨a, b⟩ := h.2.2.2.2.1 k h1 h2
  rw [cn_p T h1, ← b]
  exact len_le_sum (fun x hx => (a x hx).1)
theorem wf_cn_le {M : Nat} {T : Tr} (h : wfT M T) (k : Nat) (h2 : k ≤ T.2.2) : cn T k ≤ T.1.length := by
  induction k with
  | zero => exact Nat.le_refl _
  | succ k ih =>
    have := wf_step h (k := k + 1) (by omega) h2
    rw [show k + 1 - 1 = k by omega] at this
    exact Nat.le_trans this (ih (by omega))
theorem wf_len {M : Nat} {T : Tr} (h : wfT M T) (k : Nat) : (T.2.1 k).length ≤ 80 := by
  by_cases hk : k = 0 ∨ T.2.2 < k
  · rw [h.2.2.2.1 k hk]; simp
  · have h1 := wf_cn_le h k (by omega)
    rw [cn_p T (by omega)] at h1
    exact Nat.le_trans h1 h.1
theorem wf_pos {M : Nat} {T : Tr} (h : wfT M T) : ∀ d k, k + d = T.2.2 → 1 ≤ T.2.2 → 1 ≤ cn T k := by
  intro d
  induction d with
  | zero =>
    intro k hk h1
    rw [show k = T.2.2 by omega, cn_p T h1, h.2.2.2.2.2 h1]
    exact Nat.le_refl _
  | succ d ih =>
    intro k hk h1
    have h2 := ih (k + 1) (by omega) h1
    have h3 := wf_step h (k := k + 1) (by omega) (by omega)
    rw [show k + 1 - 1 = k by omega] at h3
    omega
theorem wf_ne {M : Nat} {T : Tr} (h : wfT M T) {k : Nat} (h1 : 1 ≤ k) (h2 : k ≤ T.2.2) : 1 ≤ (T.2.1 k).length := by
  have := wf_pos h (T.2.2 - k) k (by omega) (by omega)
  rwa [cn_p T h1] at this
/-! a first place by search -/
def srch (P : Nat → Bool) : Nat → Nat → Nat
  | 0, k => k
  | n + 1, k => if P k = true then k else srch P n (k + 1)
theorem srch_eq (P : Nat → Bool) : ∀ (n k t : Nat), k ≤ t → (∀ q, k ≤ q → q < t → P q = false) → P t = true → t - k ≤ n → srch P n k = t := by
  intro n
  induction n with
  | zero => intro k t h1 h2 h3 h4; simp only [srch]; omega
  | succ n ih =>
    intro k t h1 h2 h3 h4
    simp only [srch]
    by_cases e : k = t
    · subst e; rw [if_pos h3]
    · rw [if_neg (by rw [h2 k (Nat.le_refl _) (by omega)]; decide)]
      exact ih (k + 1) t (by omega) (fun q a b => h2 q (by omega) b) h3 (by omega)
/-! adding at an end: g reads the end's slot count of a row -/
def addAt (g : List Nat → Nat) (r : Nat → List Nat) (h : Nat) : Nat := srch (fun k => decide (h < k ∨ g (r k) < 4)) (h + 1) 1
theorem addAt_eq {g : List Nat → Nat} {r : Nat → List Nat} {h t : Nat} (h1 : 1 ≤ t) (h2 : t ≤ h + 1) (h3 : ∀ k, 1 ≤ k → k < t → 4 ≤ g (r k)) (h4 : t ≤ h → g (r t) < 4) : addAt g r h = t := by
  refine srch_eq _ (h + 1) 1 t h1 (fun q a b => ?_) ?_ (by omega)
  · have := h3 q a b
    simp; omega
  · by_cases e : t ≤ h
    · have := h4 e; simp; omega
    · simp; omega
def endOf (l : List Nat) : Nat := gd 0 l (l.length - 1)
def begOf (l : List Nat) : Nat := gd 0 l 0
def addRows (r : Nat → List Nat) (h t : Nat) (one bump : List Nat → List Nat) : Nat → List Nat := fun k => if 1 ≤ k ∧ k < t then one (r k) else if k = t then (if t ≤ h then bump (r k) else [if h = 0 then 1 else 2]) else r k
def addEnd (T : Tr) (x : Int32) : Tr := (T.1 ++ [x], addRows T.2.1 T.2.2 (addAt endOf T.2.1 T.2.2) (fun l => l ++ [1]) (fun l => l.set (l.length - 1) (endOf l + 1)), if addAt endOf T.2.1 T.2.2 ≤ T.2.2 then T.2.2 else T.2.2 + 1)
def addBeg (T : Tr) (x : Int32) : Tr := (x :: T.1, addRows T.2.1 T.2.2 (addAt begOf T.2.1 T.2.2) (fun l => 1 :: l) (fun l => l.set 0 (begOf l + 1)), if addAt begOf T.2.1 T.2.2 ≤ T.2.2 then T.2.2 else T.2.2 + 1)
/-! cutting -/
def cutF (r : Nat → List Nat) (f : Nat) : Nat → Nat
  | 0 => f
  | k + 1 => hold (r (k + 1)) (cutF r f k)
def cutE (r : Nat → List Nat) (f e : Nat) : Nat → Nat
  | 0 => e
  | k + 1 => hold (r (k + 1)) (cutF r f k) + (clip (r (k + 1)) (cutF r f k) (cutE r f e k)).length
def cutR (r : Nat → List Nat) (f e : Nat) : Nat → List Nat
  | 0 => []
  | k + 1 => clip (r (k + 1)) (cutF r f k) (cutE r f e k)
def lowH (R : Nat → List Nat) : Nat → Nat
  | 0 => 0
  | 1 => 1
  | h + 2 => if gd 0 (R (h + 2)) 0 = 1 then lowH R (h + 1) else h + 2
def cutH (T : Tr) (f e : Nat) : Nat := if e - f = 0 then 0 else lowH (cutR T.2.1 f e) T.2.2
def cutT (T : Tr) (f e : Nat) : Tr := ((T.1.drop f).take (e - f), fun k => if k ≤ cutH T f e then cutR T.2.1 f e k else [], cutH T f e)
/-! packing -/
def pkI (L : List Nat) (s : Nat) : Nat := srch (fun q => decide (gd 0 L q < 4)) L.length s
def pkJ (L : List Nat) (i : Nat) : Nat := srch (fun q => decide (ps L (q + 1) - ps L i ≤ 4 * (q - i))) L.length (i + 1)
def pkG (L : List Nat) (i j : Nat) : Nat → Nat := fun k => if k < i then gd 0 L k else if k + 1 < j then 4 else if k + 1 = j then ps L (j + 1) - ps L i - 4 * (j - 1 - i) else gd 0 L (k + 1)
def pk1 (L : List Nat) (s : Nat) : List Nat := (List.range (L.length - 1)).map (pkG L (pkI L s) (pkJ L (pkI L s)))
def pkN : Nat → List Nat → Nat → Nat → Nat → List Nat × Nat
  | 0, L, _, n, _ => (L, n)
  | q + 1, L, s, n, t => if (t + 3) / 4 + 1 < n then pkN q (pk1 L s) s (n - 1) t else (L, n)
def pack (L : List Nat) (s n : Nat) : List Nat × Nat := pkN n L s n (ps L (s + n) - ps L s)
/-! joining: a row of the level below with the place and number of the nodes that met; the row of this level out of it -/
def jRow (p q : List Nat) (n : Nat) : List Nat := p.take (p.length - 1) ++ ([min n 4] ++ ((if 4 < n then [n - 4] else []) ++ q.drop 1))
def jStart (p : List Nat) (at_ : Nat) : Nat := at_ - (endOf p - 1)
def jNum (p q : List Nat) (met : Nat) : Nat := (endOf p - 1) + met + (begOf q - 1)
/-- level k ≥ 1: (the row of level k as it comes from below, where in it the met nodes stand, how many they are) -/
def jUp (p q : Nat → List Nat) : Nat → List Nat × Nat × Nat
  | 0 => ([], 0, 0)
  | 1 => (p 1 ++ q 1, (p 1).length - 1, 2)
  | k + 2 => let b := jUp p q (k + 1); let n := (pack b.1 (jStart (p (k + 2)) b.2.1) (jNum (p (k + 2)) (q (k + 2)) b.2.2)).2; (jRow (p (k + 2)) (q (k + 2)) n, (p (k + 2)).length - 1, if 4 < n then 2 else 1)
/-- the same row packed, as level k + 1 asks -/
def jPk (p q : Nat → List Nat) (k : Nat) : List Nat × Nat := let b := jUp p q k; pack b.1 (jStart (p (k + 1)) b.2.1) (jNum (p (k + 1)) (q (k + 1)) b.2.2)
def joinT (P Q : Tr) : Tr := if P.1.length = 0 then Q else if Q.1.length = 0 then P else
  let H := max P.2.2 Q.2.2; let m := (jUp P.2.1 Q.2.1 H).2.2
  (P.1 ++ Q.1, fun k => if k = 0 then [] else if k < H then (jPk P.2.1 Q.2.1 k).1 else if k = H then (jUp P.2.1 Q.2.1 H).1 else if k = H + 1 ∧ m = 2 then [2] else [], if m = 2 then H + 1 else H)
