/-! WHAT A STATE IS: rows, trees (class), the reference's arrays, in cells of a world. -/
def Sm (w w' : gW) (lo hi : Nat) : Prop := w'.2 = w.2 ∧ ∀ p : Nat, p < lo ∨ hi ≤ p → w'.1 p = w.1 p
theorem Sm.rf {w : gW} {lo hi : Nat} : Sm w w lo hi := ⟨rfl, fun _ _ => rfl⟩
theorem Sm.trans {w w1 w2 : gW} {lo hi : Nat} (h1 : Sm w w1 lo hi) (h2 : Sm w1 w2 lo hi) : Sm w w2 lo hi := ⟨h2.1.trans h1.1, fun p hp => (h2.2 p hp).trans (h1.2 p hp)⟩
theorem Sm.wide {w w1 : gW} {lo hi lo' hi' : Nat} (h1 : Sm w w1 lo hi) (a : lo' ≤ lo) (b : hi ≤ hi') : Sm w w1 lo' hi' := ⟨h1.1, fun p hp => h1.2 p (by omega)⟩
theorem Sm.set {w : gW} {a lo hi : Nat} {e : gEn} (h1 : lo ≤ a) (h2 : a < hi) : Sm w (gset w a e) lo hi := ⟨rfl, fun p hp => gset_ne _ _ (by omega)⟩
def RowV (w : gW) (q : Nat) (L : List Int32) : Prop := ∃ f : Nat → Int32, w.1 q = some (.inr (kRow, [.ref (q + 1), .int (nI L.length)])) ∧ w.1 (q + 1) = some (.inl (0, 80, .inl f)) ∧ L.length ≤ 80 ∧ ∀ i, i < L.length → f i = gd 0 L i
theorem RowV.fr {w w' : gW} {q : Nat} {L : List Int32} (h : RowV w q L) (hS : ∀ p, q ≤ p → p < q + 2 → w'.1 p = w.1 p) : RowV w' q L := by
  obtain ⟨f, h0, h1, h2, h3⟩ := h
  exact ⟨f, by rw [hS q (by omega) (by omega)]; exact h0, by rw [hS (q + 1) (by omega) (by omega)]; exact h1, h2, h3⟩
theorem RowV.sm {w w' : gW} {q lo hi : Nat} {L : List Int32} (h : RowV w q L) (hS : Sm w w' lo hi) (hq : q + 2 ≤ lo ∨ hi ≤ q) : RowV w' q L := h.fr (fun p a b => hS.2 p (by omega))
theorem RowV.len {w : gW} {q : Nat} {L : List Int32} (h : RowV w q L) : L.length ≤ 80 := by obtain ⟨f, h0, h1, h2, h3⟩ := h; exact h2
def TreeV (w : gW) (t : Nat) (rs : Nat → List Int32) (h : Nat) : Prop := w.1 t = some (.inr (kTree, [.ref (t + 1), .int (nI h)])) ∧ (∃ g : Nat → Option Nat, w.1 (t + 1) = some (.inl (3, 7, .inr (.inr (.inr (.inr g))))) ∧ ∀ k, k < 7 → g k = some (t + 2 + 2 * k)) ∧ ∀ k, k < 7 → RowV w (t + 2 + 2 * k) (rs k)
theorem TreeV.fr {w w' : gW} {t h : Nat} {rs : Nat → List Int32} (hT : TreeV w t rs h) (hS : ∀ p, t ≤ p → p < t + 16 → w'.1 p = w.1 p) : TreeV w' t rs h := by
  obtain ⟨h0, ⟨g, h1, h2⟩, h3⟩ := hT
  exact ⟨by rw [hS t (by omega) (by omega)]; exact h0, ⟨g, by rw [hS (t + 1) (by omega) (by omega)]; exact h1, h2⟩, fun k hk => (h3 k hk).fr (fun p a b => hS p (by omega) (by omega))⟩
theorem TreeV.sm {w w' : gW} {t h lo hi : Nat} {rs : Nat → List Int32} (hT : TreeV w t rs h) (hS : Sm w w' lo hi) (hq : t + 16 ≤ lo ∨ hi ≤ t) : TreeV w' t rs h := hT.fr (fun p a b => hS.2 p (by omega))
/-- one row of a tree changed -/
theorem TreeV.row {w w' : gW} {t h k : Nat} {rs rs' : Nat → List Int32} (hT : TreeV w t rs h) (hk : k < 7) (hS : Sm w w' (t + 2 + 2 * k) (t + 2 + 2 * k + 2)) (hr : RowV w' (t + 2 + 2 * k) (rs' k)) (ho : ∀ j, j < 7 → j ≠ k → rs' j = rs j) : TreeV w' t rs' h := by
  obtain ⟨h0, ⟨g, h1, h2⟩, h3⟩ := hT
  refine ⟨by rw [hS.2 t (by omega)]; exact h0, ⟨g, by rw [hS.2 (t + 1) (by omega)]; exact h1, h2⟩, fun j hj => ?_⟩
  by_cases e : j = k
  · subst e; exact hr
  · rw [ho j hj e]
    exact (h3 j hj).sm hS (by omega)
/-- the tree's height field changed -/
theorem TreeV.hei {w : gW} {t h h' : Nat} {rs : Nat → List Int32} (hT : TreeV w t rs h) : TreeV (gset w t (.inr (kTree, [.ref (t + 1), .int (nI h')]))) t rs h' := by
  obtain ⟨h0, ⟨g, h1, h2⟩, h3⟩ := hT
  refine ⟨gset_self _ _ _, ⟨g, by rw [gset_ne _ _ (by omega)]; exact h1, h2⟩, fun j hj => (h3 j hj).fr (fun p a b => gset_ne _ _ (by omega))⟩
def trs (T : Tr) : Nat → List Int32 := fun k => if k = 0 then T.1 else (T.2.1 k).map nI
/-! going up, going down -/
theorem upto {P : Nat → Prop} (n : Nat) (h : ∀ i, i ≤ n → (∀ j, i < j → j ≤ n → P j) → P i) : ∀ i, i ≤ n → P i := by
  have key : ∀ d i, n - i ≤ d → i ≤ n → P i := by
    intro d
    induction d with
    | zero => intro i hd hi; exact h i hi (fun j a b => by omega)
    | succ d ih => intro i hd hi; exact h i hi (fun j a b => ih j (by omega) b)
  exact fun i hi => key (n - i) i (Nat.le_refl _) hi
theorem nI_inc (a : Nat) : nI a + Int32.ofInt 1 = nI (a + 1) := nI_1 a
theorem nI_dec {a : Nat} (h : 0 < a) : nI a + Int32.ofInt (-1) = nI (a - 1) := by
  obtain ⟨b, rfl⟩ : ∃ b, a = b + 1 := ⟨a - 1, by omega⟩
  exact pk_m1 b
section VS
variable {X : gX} {cc : ByteArray} {own : String} {nL : Nat} {rm : Room} {w : gW} {k n pc : Nat} {lv : List (Option Value)} {st : List Value}
theorem g_incN (C : Fx X cc own nL rm) {i a : Nat} (lv' : List (Option Value)) (d : decode cc pc = .ok (.iinc i 1, 3)) (hx : lv[i]? = some (some (.int (nI a)))) (hl' : lv.set i (some (.int (nI (a + 1)))) = lv') (kk : V X w k n lv' st (pc + 3)) : V X w k n lv st pc :=
  g_iinc C lv' d hx (nI_inc a) hl' kk
theorem g_decN (C : Fx X cc own nL rm) {i a : Nat} (lv' : List (Option Value)) (d : decode cc pc = .ok (.iinc i (-1), 3)) (hx : lv[i]? = some (some (.int (nI a)))) (h : 0 < a) (hl' : lv.set i (some (.int (nI (a - 1)))) = lv') (kk : V X w k n lv' st (pc + 3)) : V X w k n lv st pc :=
  g_iinc C lv' d hx (nI_dec h) hl' kk
end VS
