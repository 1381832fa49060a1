/-! THE LAW: rows of its own; the walk over the script. -/
theorem ClsV.far {w w' : gW} {x : Nat} {S : St} {ed : Nat} {ts : List Nat} {O : Nat → Int32} (hC : ClsV w x S ed ts O) (hS : Sm w w' (x + 68) (x + 68 + 14)) : ClsV w' x S ed ts O := by
  obtain ⟨c0, cA, cO, ⟨⟨rs1, h1, cs1⟩, ⟨rs2, h2, cs2⟩, ⟨rs3, h3, cs3⟩⟩, ⟨cl, ck⟩, cT, cf, cg, cm, ⟨cd, cz, ce, cx⟩⟩ := hC
  refine ⟨(hS.2 x (by omega)).trans c0, cA.fr (hS.2 _ (by omega)) (hS.2 _ (by omega)), (hS.2 _ (by omega)).trans cO, ⟨⟨_, _, cs1.sm hS (by omega)⟩, ⟨_, _, cs2.sm hS (by omega)⟩, ⟨_, _, cs3.sm hS (by omega)⟩⟩, ⟨cl, ck⟩, fun i hi => (cT i hi).sm hS (by have := cg i hi; omega), cf, fun i hi => ?_, cm, ⟨cd, by rw [hS.1]; exact cz, ce, by rw [hS.1]; exact cx⟩⟩
  rw [hS.1]; exact cg i hi
theorem RefW.keep {w w' : gW} {x : Nat} {R : RA} {md : Nat} (h : RefW w w (x + 68) R md) (hF : Fr w w' x) : RefW w' w' (x + 68) R md :=
  ⟨Sm.rf, (hF.2 _ (by omega)).trans h.2.1, fun k hk => (hF.2 _ (by omega)).trans (h.2.2 k hk)⟩
theorem nI_sub4 {L : Nat} (h : L ≤ 2048) : (nI L - nI 4).toInt = (L : Int) - 4 := by
  by_cases h4 : 4 ≤ L
  · rw [pk_sub h4, nI_toInt (by omega)]; omega
  · rcases (show L = 0 ∨ L = 1 ∨ L = 2 ∨ L = 3 by omega) with rfl | rfl | rfl | rfl <;> decide
theorem and31 (z : Int32) : ∃ j : Nat, j < 32 ∧ z &&& nI 31 = nI j := by
  refine ⟨(z &&& nI 31).toInt.toNat, ?_, ?_⟩
  · have : (z &&& nI 31).toBitVec.toNat < 32 := by
      rw [Int32.toBitVec_and, BitVec.toNat_and]
      exact Nat.lt_of_le_of_lt Nat.and_le_right (by decide)
    have h2 : (z &&& nI 31).toInt = ((z &&& nI 31).toBitVec.toNat : Int) := by
      show (z &&& nI 31).toBitVec.toInt = _
      rw [BitVec.toInt_eq_toNat_of_lt (by omega)]
    omega
  · have : (z &&& nI 31).toBitVec.toNat < 32 := by
      rw [Int32.toBitVec_and, BitVec.toNat_and]
      exact Nat.lt_of_le_of_lt Nat.and_le_right (by decide)
    have h2 : (z &&& nI 31).toInt = ((z &&& nI 31).toBitVec.toNat : Int) := by
      show (z &&& nI 31).toBitVec.toInt = _
      rw [BitVec.toInt_eq_toNat_of_lt (by omega)]
    refine i32_eq.mpr ?_
    rw [nI_toInt (by omega), h2]; omega
section LW
variable {X : gX} {cc : ByteArray} {own : String} {nL : Nat} {rm : Room} {w : gW} {k n pc : Nat} {lv : List (Option Value)} {st : List Value}
def lX (X : gX) (b L : Nat) (xs : Nat → Int32) : Prop := va_X b L xs X.2.2.2.2.1 X.1.2.2.1
theorem g_slen (C : Fx X cc own nL rm) {b L : Nat} {xs : Nat → Int32} (d : decode cc pc = .ok (.arraylength, 1)) (hX : lX X b L xs) (hbl : b < X.1.2.2.1.size) (hN : L ≤ 2048) (kk : V X w k n lv (.int (nI L) :: st) (pc + 1)) : V X w k n lv (.ref b :: st) pc := by
  obtain ⟨N, p, e, R, s, m, args, below, meth, c, Q⟩ := X
  obtain ⟨hx, hb, hml, hown, hts, hK, hRm⟩ := C
  intro H locs ls hR hf hlv
  exact va_slen (A := gA N) hx hb hX hbl (fun z => absurd hbl (Nat.not_lt.mpr z)) ⟨by rw [hR.1]; exact hR.2.1, fun q hq _ => hR.2.2.1 q hq, hf⟩ d (kk H locs ls hR hf hlv)
theorem g_sld (C : Fx X cc own nL rm) {b L j : Nat} {xs : Nat → Int32} (d : decode cc pc = .ok (.iaload, 1)) (hX : lX X b L xs) (hbl : b < X.1.2.2.1.size) (hN : L ≤ 2048) (hj : j < L) (hj2 : j < 2 ^ 31) (kk : V X w k n lv (.int (xs j) :: st) (pc + 1)) : V X w k n lv (.int (nI j) :: .ref b :: st) pc := by
  obtain ⟨N, p, e, R, s, m, args, below, meth, c, Q⟩ := X
  obtain ⟨hx, hb, hml, hown, hts, hK, hRm⟩ := C
  intro H locs ls hR hf hlv
  obtain ⟨g1, g2⟩ := gin hj (show L < 2 ^ 31 by omega)
  refine va_sld (A := gA N) hx hb hX hbl (fun z => absurd hbl (Nat.not_lt.mpr z)) ⟨by rw [hR.1]; exact hR.2.1, fun q hq _ => hR.2.2.1 q hq, hf⟩ g1 d ?_
  rw [g2]; exact kk H locs ls hR hf hlv
theorem g_tabIn (C : Fx X cc own nL rm) {dflt lo hi : Int} {offs : Array Int} {len : Nat} {x : Int32} {off : Int} (tgt : Nat) (d : decode cc pc = .ok (.tableswitch dflt lo hi offs, len)) (h1 : ¬ x.toInt < lo) (h2 : ¬ hi < x.toInt) (ho : offs[(x.toInt - lo).toNat]? = some off) (ht : (pc : Int) + off = (tgt : Int)) (kk : V X w k n lv st tgt) : V X w k n lv (.int x :: st) pc := by
  obtain ⟨N, p, e, R, s, m, args, below, meth, c, Q⟩ := X
  obtain ⟨hx, hb, hml, hown, hts, hK, hRm⟩ := C
  intro H locs ls hR hf hlv
  exact lv_tableIn hx hb d h1 h2 ho ht (kk H locs ls hR hf hlv)
theorem g_tabOut (C : Fx X cc own nL rm) {dflt lo hi : Int} {offs : Array Int} {len : Nat} {x : Int32} (tgt : Nat) (d : decode cc pc = .ok (.tableswitch dflt lo hi offs, len)) (h : x.toInt < lo ∨ hi < x.toInt) (ht : (pc : Int) + dflt = (tgt : Int)) (kk : V X w k n lv st tgt) : V X w k n lv (.int x :: st) pc := by
  obtain ⟨N, p, e, R, s, m, args, below, meth, c, Q⟩ := X
  obtain ⟨hx, hb, hml, hown, hts, hK, hRm⟩ := C
  intro H locs ls hR hf hlv
  exact lv_tableOut hx hb d h ht (kk H locs ls hR hf hlv)
end LW
theorem lcmp_same (x : Int64) : lg_cmp x x = nI 0 := by
  unfold lg_cmp
  simp
  exact nI_z
/-- all that the walk asks of its end: true on the stack -/
def lEnd (X : gX) : Prop := ∀ (w : gW) (k n : Nat) (lv : List (Option Value)), k ≤ 600000 → n ≤ 7302250 → V X w k n lv [.int (nI 1)] 766
def lSt (w : gW) (x : Nat) (S : St) : Prop := ∃ ed ts O R, ClsV w x S ed ts O ∧ RefW w w (x + 68) R S.length ∧ RefS R S
set_option maxHeartbeats 4000000 in
theorem op_append {X : gX} (C : Fx X code "RelaxedRadixVectorLaw" 4 room_1) {b L : Nat} {xs : Nat → Int32} (hX : lX X b L xs) (hbl : b < X.1.2.2.1.size) (hN : L ≤ 2048) {q : Nat} (hq : 4 * q + 4 ≤ L) (w : gW) (x : Nat) (S : St) (hL : lSt w x S) (next : ∀ w2 S2, lSt w2 x S2 → V X w2 (82 + 17 * (q + 1)) (30000 + 700 * (q + 1)) [some (.ref b), some (.ref x), some (.ref (x + 68)), some (.int (nI (4 * q)))] [] 759) : V X w (82 + 17 * q) (30000 + 700 * q) [some (.ref b), some (.ref x), some (.ref (x + 68)), some (.int (nI (4 * q)))] [] 128 := by
  obtain ⟨ed, ts, O, R, hC, hR, hS⟩ := hL
  refine g_aldn C d_Law_law_128 rfl ?_
  refine g_aldn C d_Law_law_129 rfl ?_
  refine g_ldn C d_Law_law_130 rfl ?_
  refine g_iconst (v := nI 1) C d_Law_law_131 rfl ?_
  first | refine g_addN C d_Law_law_132 ?_ | refine g_add C d_Law_law_132 ?_
  refine g_sld C d_Law_law_133 hX hbl hN (by omega) (by omega) ?_
  refine g_aldn C d_Law_law_134 rfl ?_
  refine g_ldn C d_Law_law_135 rfl ?_
  refine g_iconst (v := nI 2) C d_Law_law_136 rfl ?_
  first | refine g_addN C d_Law_law_137 ?_ | refine g_add C d_Law_law_137 ?_
  refine g_sld C d_Law_law_138 hX hbl hN (by omega) (by omega) ?_
  refine g_callV (ci := kCls) C d_Law_law_139 cw_Law_13 sl_Cls_append (c_Cls_append X.1 w x S ed ts O (xs (4 * q + 1)) (xs (4 * q + 2)) hC) rfl hC.1 (As := [.int (xs (4 * q + 1)), .int (xs (4 * q + 2))]) rfl rfl rfl (Nat.le_of_ble_eq_true rfl) ⟨rfl, rfl, by decide, by decide⟩ ⟨show _ ≤ 600000 by omega, show _ ≤ 7302250 by omega⟩ (kI (fun r w2 h2 => ?_))
  obtain ⟨e2, ⟨ed2, ts2, O2, hC2⟩, f2⟩ := h2
  have hR2 := hR.keep f2
  refine g_aldn C d_Law_law_142 rfl ?_
  refine g_aldn C d_Law_law_143 rfl ?_
  refine g_ldn C d_Law_law_144 rfl ?_
  refine g_iconst (v := nI 1) C d_Law_law_145 rfl ?_
  first | refine g_addN C d_Law_law_146 ?_ | refine g_add C d_Law_law_146 ?_
  refine g_sld C d_Law_law_147 hX hbl hN (by omega) (by omega) ?_
  refine g_aldn C d_Law_law_148 rfl ?_
  refine g_ldn C d_Law_law_149 rfl ?_
  refine g_iconst (v := nI 2) C d_Law_law_150 rfl ?_
  first | refine g_addN C d_Law_law_151 ?_ | refine g_add C d_Law_law_151 ?_
  refine g_sld C d_Law_law_152 hX hbl hN (by omega) (by omega) ?_
  refine g_callV (ci := kMod) C d_Law_law_153 cw_Law_17 sl_Mod_append (c_Mod_append X.1 w2 w2 (x + 68) R S (xs (4 * q + 1)) (xs (4 * q + 2)) hS hR2) rfl hR2.2.1 (As := [.int (xs (4 * q + 1)), .int (xs (4 * q + 2))]) rfl rfl rfl (Nat.le_of_ble_eq_true rfl) ⟨rfl, rfl, by decide, by decide⟩ ⟨show _ ≤ 600000 by omega, show _ ≤ 7302250 by omega⟩ (kI (fun r3 w3 h3 => ?_))
  obtain ⟨e3, R3, hR3, hS3⟩ := h3
  have hC3 := hC2.far hR3.1
  rw [e2, e3]
  refine g_icmp_eq C 759 d_Law_law_156 (by decide) rfl rfl (fun _ => ?_) (fun z => absurd rfl z)
  exact V.wid (by omega) (by omega) (next w3 _ ⟨_, _, _, R3, hC3, hR3.base, hS3⟩)
set_option maxHeartbeats 4000000 in
theorem op_prepend {X : gX} (C : Fx X code "RelaxedRadixVectorLaw" 4 room_1) {b L : Nat} {xs : Nat → Int32} (hX : lX X b L xs) (hbl : b < X.1.2.2.1.size) (hN : L ≤ 2048) {q : Nat} (hq : 4 * q + 4 ≤ L) (w : gW) (x : Nat) (S : St) (hL : lSt w x S) (next : ∀ w2 S2, lSt w2 x S2 → V X w2 (82 + 17 * (q + 1)) (30000 + 700 * (q + 1)) [some (.ref b), some (.ref x), some (.ref (x + 68)), some (.int (nI (4 * q)))] [] 759) : V X w (82 + 17 * q) (30000 + 700 * q) [some (.ref b), some (.ref x), some (.ref (x + 68)), some (.int (nI (4 * q)))] [] 161 := by
  obtain ⟨ed, ts, O, R, hC, hR, hS⟩ := hL
  refine g_aldn C d_Law_law_161 rfl ?_
  refine g_aldn C d_Law_law_162 rfl ?_
  refine g_ldn C d_Law_law_163 rfl ?_
  refine g_iconst (v := nI 1) C d_Law_law_164 rfl ?_
  first | refine g_addN C d_Law_law_165 ?_ | refine g_add C d_Law_law_165 ?_
  refine g_sld C d_Law_law_166 hX hbl hN (by omega) (by omega) ?_
  refine g_aldn C d_Law_law_167 rfl ?_
  refine g_ldn C d_Law_law_168 rfl ?_
  refine g_iconst (v := nI 2) C d_Law_law_169 rfl ?_
  first | refine g_addN C d_Law_law_170 ?_ | refine g_add C d_Law_law_170 ?_
  refine g_sld C d_Law_law_171 hX hbl hN (by omega) (by omega) ?_
  refine g_callV (ci := kCls) C d_Law_law_172 cw_Law_18 sl_Cls_prepend (c_Cls_prepend X.1 w x S ed ts O (xs (4 * q + 1)) (xs (4 * q + 2)) hC) rfl hC.1 (As := [.int (xs (4 * q + 1)), .int (xs (4 * q + 2))]) rfl rfl rfl (Nat.le_of_ble_eq_true rfl) ⟨rfl, rfl, by decide, by decide⟩ ⟨show _ ≤ 600000 by omega, show _ ≤ 7302250 by omega⟩ (kI (fun r w2 h2 => ?_))
  obtain ⟨e2, ⟨ed2, ts2, O2, hC2⟩, f2⟩ := h2
  have hR2 := hR.keep f2
  refine g_aldn C d_Law_law_175 rfl ?_
  refine g_aldn C d_Law_law_176 rfl ?_
  refine g_ldn C d_Law_law_177 rfl ?_
  refine g_iconst (v := nI 1) C d_Law_law_178 rfl ?_
  first | refine g_addN C d_Law_law_179 ?_ | refine g_add C d_Law_law_179 ?_
  refine g_sld C d_Law_law_180 hX hbl hN (by omega) (by omega) ?_
  refine g_aldn C d_Law_law_181 rfl ?_
  refine g_ldn C d_Law_law_182 rfl ?_
  refine g_iconst (v := nI 2) C d_Law_law_183 rfl ?_
  first | refine g_addN C d_Law_law_184 ?_ | refine g_add C d_Law_law_184 ?_
  refine g_sld C d_Law_law_185 hX hbl hN (by omega) (by omega) ?_
  refine g_callV (ci := kMod) C d_Law_law_186 cw_Law_21 sl_Mod_prepend (c_Mod_prepend X.1 w2 w2 (x + 68) R S (xs (4 * q + 1)) (xs (4 * q + 2)) hS hR2) rfl hR2.2.1 (As := [.int (xs (4 * q + 1)), .int (xs (4 * q + 2))]) rfl rfl rfl (Nat.le_of_ble_eq_true rfl) ⟨rfl, rfl, by decide, by decide⟩ ⟨show _ ≤ 600000 by omega, show _ ≤ 7302250 by omega⟩ (kI (fun r3 w3 h3 => ?_))
  obtain ⟨e3, R3, hR3, hS3⟩ := h3
  have hC3 := hC2.far hR3.1
  rw [e2, e3]
  refine g_icmp_eq C 759 d_Law_law_189 (by decide) rfl rfl (fun _ => ?_) (fun z => absurd rfl z)
  exact V.wid (by omega) (by omega) (next w3 _ ⟨_, _, _, R3, hC3, hR3.base, hS3⟩)
set_option maxHeartbeats 4000000 in
theorem op_set {X : gX} (C : Fx X code "RelaxedRadixVectorLaw" 4 room_1) {b L : Nat} {xs : Nat → Int32} (hX : lX X b L xs) (hbl : b < X.1.2.2.1.size) (hN : L ≤ 2048) {q : Nat} (hq : 4 * q + 4 ≤ L) (w : gW) (x : Nat) (S : St) (hL : lSt w x S) (next : ∀ w2 S2, lSt w2 x S2 → V X w2 (82 + 17 * (q + 1)) (30000 + 700 * (q + 1)) [some (.ref b), some (.ref x), some (.ref (x + 68)), some (.int (nI (4 * q)))] [] 759) : V X w (82 + 17 * q) (30000 + 700 * q) [some (.ref b), some (.ref x), some (.ref (x + 68)), some (.int (nI (4 * q)))] [] 194 := by
  obtain ⟨ed, ts, O, R, hC, hR, hS⟩ := hL
  refine g_aldn C d_Law_law_194 rfl ?_
  refine g_aldn C d_Law_law_195 rfl ?_
  refine g_ldn C d_Law_law_196 rfl ?_
  refine g_iconst (v := nI 1) C d_Law_law_197 rfl ?_
  first | refine g_addN C d_Law_law_198 ?_ | refine g_add C d_Law_law_198 ?_
  refine g_sld C d_Law_law_199 hX hbl hN (by omega) (by omega) ?_
  refine g_aldn C d_Law_law_200 rfl ?_
  refine g_ldn C d_Law_law_201 rfl ?_
  refine g_iconst (v := nI 2) C d_Law_law_202 rfl ?_
  first | refine g_addN C d_Law_law_203 ?_ | refine g_add C d_Law_law_203 ?_
  refine g_sld C d_Law_law_204 hX hbl hN (by omega) (by omega) ?_
  refine g_aldn C d_Law_law_205 rfl ?_
  refine g_ldn C d_Law_law_206 rfl ?_
  refine g_iconst (v := nI 3) C d_Law_law_207 rfl ?_
  first | refine g_addN C d_Law_law_208 ?_ | refine g_add C d_Law_law_208 ?_
  refine g_sld C d_Law_law_209 hX hbl hN (by omega) (by omega) ?_
  refine g_callV (ci := kCls) C d_Law_law_210 cw_Law_22 sl_Cls_set (c_Cls_set X.1 w x S ed ts O (xs (4 * q + 1)) (xs (4 * q + 2)) (xs (4 * q + 3)) hC) rfl hC.1 (As := [.int (xs (4 * q + 1)), .int (xs (4 * q + 2)), .int (xs (4 * q + 3))]) rfl rfl rfl (Nat.le_of_ble_eq_true rfl) ⟨rfl, rfl, by decide, by decide⟩ ⟨show _ ≤ 600000 by omega, show _ ≤ 7302250 by omega⟩ (kI (fun r w2 h2 => ?_))
  obtain ⟨e2, ⟨ed2, ts2, O2, hC2⟩, f2⟩ := h2
  have hR2 := hR.keep f2
  refine g_aldn C d_Law_law_213 rfl ?_
  refine g_aldn C d_Law_law_214 rfl ?_
  refine g_ldn C d_Law_law_215 rfl ?_
  refine g_iconst (v := nI 1) C d_Law_law_216 rfl ?_
  first | refine g_addN C d_Law_law_217 ?_ | refine g_add C d_Law_law_217 ?_
  refine g_sld C d_Law_law_218 hX hbl hN (by omega) (by omega) ?_
  refine g_aldn C d_Law_law_219 rfl ?_
  refine g_ldn C d_Law_law_220 rfl ?_
  refine g_iconst (v := nI 2) C d_Law_law_221 rfl ?_
  first | refine g_addN C d_Law_law_222 ?_ | refine g_add C d_Law_law_222 ?_
  refine g_sld C d_Law_law_223 hX hbl hN (by omega) (by omega) ?_
  refine g_aldn C d_Law_law_224 rfl ?_
  refine g_ldn C d_Law_law_225 rfl ?_
  refine g_iconst (v := nI 3) C d_Law_law_226 rfl ?_
  first | refine g_addN C d_Law_law_227 ?_ | refine g_add C d_Law_law_227 ?_
  refine g_sld C d_Law_law_228 hX hbl hN (by omega) (by omega) ?_
  refine g_callV (ci := kMod) C d_Law_law_229 cw_Law_26 sl_Mod_set (c_Mod_set X.1 w2 w2 (x + 68) R S (xs (4 * q + 1)) (xs (4 * q + 2)) (xs (4 * q + 3)) hS hR2) rfl hR2.2.1 (As := [.int (xs (4 * q + 1)), .int (xs (4 * q + 2)), .int (xs (4 * q + 3))]) rfl rfl rfl (Nat.le_of_ble_eq_true rfl) ⟨rfl, rfl, by decide, by decide⟩ ⟨show _ ≤ 600000 by omega, show _ ≤ 7302250 by omega⟩ (kI (fun r3 w3 h3 => ?_))
  obtain ⟨e3, R3, hR3, hS3⟩ := h3
  have hC3 := hC2.far hR3.1
  rw [e2, e3]
  refine g_icmp_eq C 759 d_Law_law_232 (by decide) rfl rfl (fun _ => ?_) (fun z => absurd rfl z)
  exact V.wid (by omega) (by omega) (next w3 _ ⟨_, _, _, R3, hC3, hR3.base, hS3⟩)
set_option maxHeartbeats 4000000 in
theorem op_concat {X : gX} (C : Fx X code "RelaxedRadixVectorLaw" 4 room_1) {b L : Nat} {xs : Nat → Int32} (hX : lX X b L xs) (hbl : b < X.1.2.2.1.size) (hN : L ≤ 2048) {q : Nat} (hq : 4 * q + 4 ≤ L) (w : gW) (x : Nat) (S : St) (hL : lSt w x S) (next : ∀ w2 S2, lSt w2 x S2 → V X w2 (82 + 17 * (q + 1)) (30000 + 700 * (q + 1)) [some (.ref b), some (.ref x), some (.ref (x + 68)), some (.int (nI (4 * q)))] [] 759) : V X w (82 + 17 * q) (30000 + 700 * q) [some (.ref b), some (.ref x), some (.ref (x + 68)), some (.int (nI (4 * q)))] [] 237 := by
  obtain ⟨ed, ts, O, R, hC, hR, hS⟩ := hL
  refine g_aldn C d_Law_law_237 rfl ?_
  refine g_aldn C d_Law_law_238 rfl ?_
  refine g_ldn C d_Law_law_239 rfl ?_
  refine g_iconst (v := nI 1) C d_Law_law_240 rfl ?_
  first | refine g_addN C d_Law_law_241 ?_ | refine g_add C d_Law_law_241 ?_
  refine g_sld C d_Law_law_242 hX hbl hN (by omega) (by omega) ?_
  refine g_aldn C d_Law_law_243 rfl ?_
  refine g_ldn C d_Law_law_244 rfl ?_
  refine g_iconst (v := nI 2) C d_Law_law_245 rfl ?_
  first | refine g_addN C d_Law_law_246 ?_ | refine g_add C d_Law_law_246 ?_
  refine g_sld C d_Law_law_247 hX hbl hN (by omega) (by omega) ?_
  refine g_callV (ci := kCls) C d_Law_law_248 cw_Law_27 sl_Cls_concat (c_Cls_concat X.1 w x S ed ts O (xs (4 * q + 1)) (xs (4 * q + 2)) hC) rfl hC.1 (As := [.int (xs (4 * q + 1)), .int (xs (4 * q + 2))]) rfl rfl rfl (Nat.le_of_ble_eq_true rfl) ⟨rfl, rfl, by decide, by decide⟩ ⟨show _ ≤ 600000 by omega, show _ ≤ 7302250 by omega⟩ (kI (fun r w2 h2 => ?_))
  obtain ⟨e2, ⟨ed2, ts2, O2, hC2⟩, f2⟩ := h2
  have hR2 := hR.keep f2
  refine g_aldn C d_Law_law_251 rfl ?_
  refine g_aldn C d_Law_law_252 rfl ?_
  refine g_ldn C d_Law_law_253 rfl ?_
  refine g_iconst (v := nI 1) C d_Law_law_254 rfl ?_
  first | refine g_addN C d_Law_law_255 ?_ | refine g_add C d_Law_law_255 ?_
  refine g_sld C d_Law_law_256 hX hbl hN (by omega) (by omega) ?_
  refine g_aldn C d_Law_law_257 rfl ?_
  refine g_ldn C d_Law_law_258 rfl ?_
  refine g_iconst (v := nI 2) C d_Law_law_259 rfl ?_
  first | refine g_addN C d_Law_law_260 ?_ | refine g_add C d_Law_law_260 ?_
  refine g_sld C d_Law_law_261 hX hbl hN (by omega) (by omega) ?_
  refine g_callV (ci := kMod) C d_Law_law_262 cw_Law_30 sl_Mod_concat (c_Mod_concat X.1 w2 w2 (x + 68) R S (xs (4 * q + 1)) (xs (4 * q + 2)) hS hR2) rfl hR2.2.1 (As := [.int (xs (4 * q + 1)), .int (xs (4 * q + 2))]) rfl rfl rfl (Nat.le_of_ble_eq_true rfl) ⟨rfl, rfl, by decide, by decide⟩ ⟨show _ ≤ 600000 by omega, show _ ≤ 7302250 by omega⟩ (kI (fun r3 w3 h3 => ?_))
  obtain ⟨e3, R3, hR3, hS3⟩ := h3
  have hC3 := hC2.far hR3.1
  rw [e2, e3]
  refine g_icmp_eq C 759 d_Law_law_265 (by decide) rfl rfl (fun _ => ?_) (fun z => absurd rfl z)
  exact V.wid (by omega) (by omega) (next w3 _ ⟨_, _, _, R3, hC3, hR3.base, hS3⟩)
set_option maxHeartbeats 4000000 in
theorem op_slice {X : gX} (C : Fx X code "RelaxedRadixVectorLaw" 4 room_1) {b L : Nat} {xs : Nat → Int32} (hX : lX X b L xs) (hbl : b < X.1.2.2.1.size) (hN : L ≤ 2048) {q : Nat} (hq : 4 * q + 4 ≤ L) (w : gW) (x : Nat) (S : St) (hL : lSt w x S) (next : ∀ w2 S2, lSt w2 x S2 → V X w2 (82 + 17 * (q + 1)) (30000 + 700 * (q + 1)) [some (.ref b), some (.ref x), some (.ref (x + 68)), some (.int (nI (4 * q)))] [] 759) : V X w (82 + 17 * q) (30000 + 700 * q) [some (.ref b), some (.ref x), some (.ref (x + 68)), some (.int (nI (4 * q)))] [] 270 := by
  obtain ⟨ed, ts, O, R, hC, hR, hS⟩ := hL
  refine g_aldn C d_Law_law_270 rfl ?_
  refine g_aldn C d_Law_law_271 rfl ?_
  refine g_ldn C d_Law_law_272 rfl ?_
  refine g_iconst (v := nI 1) C d_Law_law_273 rfl ?_
  first | refine g_addN C d_Law_law_274 ?_ | refine g_add C d_Law_law_274 ?_
  refine g_sld C d_Law_law_275 hX hbl hN (by omega) (by omega) ?_
  refine g_aldn C d_Law_law_276 rfl ?_
  refine g_ldn C d_Law_law_277 rfl ?_
  refine g_iconst (v := nI 2) C d_Law_law_278 rfl ?_
  first | refine g_addN C d_Law_law_279 ?_ | refine g_add C d_Law_law_279 ?_
  refine g_sld C d_Law_law_280 hX hbl hN (by omega) (by omega) ?_
  refine g_aldn C d_Law_law_281 rfl ?_
  refine g_ldn C d_Law_law_282 rfl ?_
  refine g_iconst (v := nI 3) C d_Law_law_283 rfl ?_
  first | refine g_addN C d_Law_law_284 ?_ | refine g_add C d_Law_law_284 ?_
  refine g_sld C d_Law_law_285 hX hbl hN (by omega) (by omega) ?_
  refine g_callV (ci := kCls) C d_Law_law_286 cw_Law_31 sl_Cls_slice (c_Cls_slice X.1 w x S ed ts O (xs (4 * q + 1)) (xs (4 * q + 2)) (xs (4 * q + 3)) hC) rfl hC.1 (As := [.int (xs (4 * q + 1)), .int (xs (4 * q + 2)), .int (xs (4 * q + 3))]) rfl rfl rfl (Nat.le_of_ble_eq_true rfl) ⟨rfl, rfl, by decide, by decide⟩ ⟨show _ ≤ 600000 by omega, show _ ≤ 7302250 by omega⟩ (kI (fun r w2 h2 => ?_))
  obtain ⟨e2, ⟨ed2, ts2, O2, hC2⟩, f2⟩ := h2
  have hR2 := hR.keep f2
  refine g_aldn C d_Law_law_289 rfl ?_
  refine g_aldn C d_Law_law_290 rfl ?_
  refine g_ldn C d_Law_law_291 rfl ?_
  refine g_iconst (v := nI 1) C d_Law_law_292 rfl ?_
  first | refine g_addN C d_Law_law_293 ?_ | refine g_add C d_Law_law_293 ?_
  refine g_sld C d_Law_law_294 hX hbl hN (by omega) (by omega) ?_
  refine g_aldn C d_Law_law_295 rfl ?_
  refine g_ldn C d_Law_law_296 rfl ?_
  refine g_iconst (v := nI 2) C d_Law_law_297 rfl ?_
  first | refine g_addN C d_Law_law_298 ?_ | refine g_add C d_Law_law_298 ?_
  refine g_sld C d_Law_law_299 hX hbl hN (by omega) (by omega) ?_
  refine g_aldn C d_Law_law_300 rfl ?_
  refine g_ldn C d_Law_law_301 rfl ?_
  refine g_iconst (v := nI 3) C d_Law_law_302 rfl ?_
  first | refine g_addN C d_Law_law_303 ?_ | refine g_add C d_Law_law_303 ?_
  refine g_sld C d_Law_law_304 hX hbl hN (by omega) (by omega) ?_
  refine g_callV (ci := kMod) C d_Law_law_305 cw_Law_34 sl_Mod_slice (c_Mod_slice X.1 w2 w2 (x + 68) R S (xs (4 * q + 1)) (xs (4 * q + 2)) (xs (4 * q + 3)) hS hR2) rfl hR2.2.1 (As := [.int (xs (4 * q + 1)), .int (xs (4 * q + 2)), .int (xs (4 * q + 3))]) rfl rfl rfl (Nat.le_of_ble_eq_true rfl) ⟨rfl, rfl, by decide, by decide⟩ ⟨show _ ≤ 600000 by omega, show _ ≤ 7302250 by omega⟩ (kI (fun r3 w3 h3 => ?_))
  obtain ⟨e3, R3, hR3, hS3⟩ := h3
  have hC3 := hC2.far hR3.1
  rw [e2, e3]
  refine g_icmp_eq C 759 d_Law_law_308 (by decide) rfl rfl (fun _ => ?_) (fun z => absurd rfl z)
  exact V.wid (by omega) (by omega) (next w3 _ ⟨_, _, _, R3, hC3, hR3.base, hS3⟩)
set_option maxHeartbeats 4000000 in
theorem op_insertAt {X : gX} (C : Fx X code "RelaxedRadixVectorLaw" 4 room_1) {b L : Nat} {xs : Nat → Int32} (hX : lX X b L xs) (hbl : b < X.1.2.2.1.size) (hN : L ≤ 2048) {q : Nat} (hq : 4 * q + 4 ≤ L) (w : gW) (x : Nat) (S : St) (hL : lSt w x S) (next : ∀ w2 S2, lSt w2 x S2 → V X w2 (82 + 17 * (q + 1)) (30000 + 700 * (q + 1)) [some (.ref b), some (.ref x), some (.ref (x + 68)), some (.int (nI (4 * q)))] [] 759) : V X w (82 + 17 * q) (30000 + 700 * q) [some (.ref b), some (.ref x), some (.ref (x + 68)), some (.int (nI (4 * q)))] [] 313 := by
  obtain ⟨ed, ts, O, R, hC, hR, hS⟩ := hL
  refine g_aldn C d_Law_law_313 rfl ?_
  refine g_aldn C d_Law_law_314 rfl ?_
  refine g_ldn C d_Law_law_315 rfl ?_
  refine g_iconst (v := nI 1) C d_Law_law_316 rfl ?_
  first | refine g_addN C d_Law_law_317 ?_ | refine g_add C d_Law_law_317 ?_
  refine g_sld C d_Law_law_318 hX hbl hN (by omega) (by omega) ?_
  refine g_aldn C d_Law_law_319 rfl ?_
  refine g_ldn C d_Law_law_320 rfl ?_
  refine g_iconst (v := nI 2) C d_Law_law_321 rfl ?_
  first | refine g_addN C d_Law_law_322 ?_ | refine g_add C d_Law_law_322 ?_
  refine g_sld C d_Law_law_323 hX hbl hN (by omega) (by omega) ?_
  refine g_aldn C d_Law_law_324 rfl ?_
  refine g_ldn C d_Law_law_325 rfl ?_
  refine g_iconst (v := nI 3) C d_Law_law_326 rfl ?_
  first | refine g_addN C d_Law_law_327 ?_ | refine g_add C d_Law_law_327 ?_
  refine g_sld C d_Law_law_328 hX hbl hN (by omega) (by omega) ?_
  refine g_callV (ci := kCls) C d_Law_law_329 cw_Law_35 sl_Cls_insertAt (c_Cls_insertAt X.1 w x S ed ts O (xs (4 * q + 1)) (xs (4 * q + 2)) (xs (4 * q + 3)) hC) rfl hC.1 (As := [.int (xs (4 * q + 1)), .int (xs (4 * q + 2)), .int (xs (4 * q + 3))]) rfl rfl rfl (Nat.le_of_ble_eq_true rfl) ⟨rfl, rfl, by decide, by decide⟩ ⟨show _ ≤ 600000 by omega, show _ ≤ 7302250 by omega⟩ (kI (fun r w2 h2 => ?_))
  obtain ⟨e2, ⟨ed2, ts2, O2, hC2⟩, f2⟩ := h2
  have hR2 := hR.keep f2
  refine g_aldn C d_Law_law_332 rfl ?_
  refine g_aldn C d_Law_law_333 rfl ?_
  refine g_ldn C d_Law_law_334 rfl ?_
  refine g_iconst (v := nI 1) C d_Law_law_335 rfl ?_
  first | refine g_addN C d_Law_law_336 ?_ | refine g_add C d_Law_law_336 ?_
  refine g_sld C d_Law_law_337 hX hbl hN (by omega) (by omega) ?_
  refine g_aldn C d_Law_law_338 rfl ?_
  refine g_ldn C d_Law_law_339 rfl ?_
  refine g_iconst (v := nI 2) C d_Law_law_340 rfl ?_
  first | refine g_addN C d_Law_law_341 ?_ | refine g_add C d_Law_law_341 ?_
  refine g_sld C d_Law_law_342 hX hbl hN (by omega) (by omega) ?_
  refine g_aldn C d_Law_law_343 rfl ?_
  refine g_ldn C d_Law_law_344 rfl ?_
  refine g_iconst (v := nI 3) C d_Law_law_345 rfl ?_
  first | refine g_addN C d_Law_law_346 ?_ | refine g_add C d_Law_law_346 ?_
  refine g_sld C d_Law_law_347 hX hbl hN (by omega) (by omega) ?_
  refine g_callV (ci := kMod) C d_Law_law_348 cw_Law_38 sl_Mod_insertAt (c_Mod_insertAt X.1 w2 w2 (x + 68) R S (xs (4 * q + 1)) (xs (4 * q + 2)) (xs (4 * q + 3)) hS hR2) rfl hR2.2.1 (As := [.int (xs (4 * q + 1)), .int (xs (4 * q + 2)), .int (xs (4 * q + 3))]) rfl rfl rfl (Nat.le_of_ble_eq_true rfl) ⟨rfl, rfl, by decide, by decide⟩ ⟨show _ ≤ 600000 by omega, show _ ≤ 7302250 by omega⟩ (kI (fun r3 w3 h3 => ?_))
  obtain ⟨e3, R3, hR3, hS3⟩ := h3
  have hC3 := hC2.far hR3.1
  rw [e2, e3]
  refine g_icmp_eq C 759 d_Law_law_351 (by decide) rfl rfl (fun _ => ?_) (fun z => absurd rfl z)
  exact V.wid (by omega) (by omega) (next w3 _ ⟨_, _, _, R3, hC3, hR3.base, hS3⟩)
set_option maxHeartbeats 4000000 in
theorem op_removeAt {X : gX} (C : Fx X code "RelaxedRadixVectorLaw" 4 room_1) {b L : Nat} {xs : Nat → Int32} (hX : lX X b L xs) (hbl : b < X.1.2.2.1.size) (hN : L ≤ 2048) {q : Nat} (hq : 4 * q + 4 ≤ L) (w : gW) (x : Nat) (S : St) (hL : lSt w x S) (next : ∀ w2 S2, lSt w2 x S2 → V X w2 (82 + 17 * (q + 1)) (30000 + 700 * (q + 1)) [some (.ref b), some (.ref x), some (.ref (x + 68)), some (.int (nI (4 * q)))] [] 759) : V X w (82 + 17 * q) (30000 + 700 * q) [some (.ref b), some (.ref x), some (.ref (x + 68)), some (.int (nI (4 * q)))] [] 356 := by
  obtain ⟨ed, ts, O, R, hC, hR, hS⟩ := hL
  refine g_aldn C d_Law_law_356 rfl ?_
  refine g_aldn C d_Law_law_357 rfl ?_
  refine g_ldn C d_Law_law_358 rfl ?_
  refine g_iconst (v := nI 1) C d_Law_law_359 rfl ?_
  first | refine g_addN C d_Law_law_360 ?_ | refine g_add C d_Law_law_360 ?_
  refine g_sld C d_Law_law_361 hX hbl hN (by omega) (by omega) ?_
  refine g_aldn C d_Law_law_362 rfl ?_
  refine g_ldn C d_Law_law_363 rfl ?_
  refine g_iconst (v := nI 2) C d_Law_law_364 rfl ?_
  first | refine g_addN C d_Law_law_365 ?_ | refine g_add C d_Law_law_365 ?_
  refine g_sld C d_Law_law_366 hX hbl hN (by omega) (by omega) ?_
  refine g_callV (ci := kCls) C d_Law_law_367 cw_Law_39 sl_Cls_removeAt (c_Cls_removeAt X.1 w x S ed ts O (xs (4 * q + 1)) (xs (4 * q + 2)) hC) rfl hC.1 (As := [.int (xs (4 * q + 1)), .int (xs (4 * q + 2))]) rfl rfl rfl (Nat.le_of_ble_eq_true rfl) ⟨rfl, rfl, by decide, by decide⟩ ⟨show _ ≤ 600000 by omega, show _ ≤ 7302250 by omega⟩ (kI (fun r w2 h2 => ?_))
  obtain ⟨e2, ⟨ed2, ts2, O2, hC2⟩, f2⟩ := h2
  have hR2 := hR.keep f2
  refine g_aldn C d_Law_law_370 rfl ?_
  refine g_aldn C d_Law_law_371 rfl ?_
  refine g_ldn C d_Law_law_372 rfl ?_
  refine g_iconst (v := nI 1) C d_Law_law_373 rfl ?_
  first | refine g_addN C d_Law_law_374 ?_ | refine g_add C d_Law_law_374 ?_
  refine g_sld C d_Law_law_375 hX hbl hN (by omega) (by omega) ?_
  refine g_aldn C d_Law_law_376 rfl ?_
  refine g_ldn C d_Law_law_377 rfl ?_
  refine g_iconst (v := nI 2) C d_Law_law_378 rfl ?_
  first | refine g_addN C d_Law_law_379 ?_ | refine g_add C d_Law_law_379 ?_
  refine g_sld C d_Law_law_380 hX hbl hN (by omega) (by omega) ?_
  refine g_callV (ci := kMod) C d_Law_law_381 cw_Law_42 sl_Mod_removeAt (c_Mod_removeAt X.1 w2 w2 (x + 68) R S (xs (4 * q + 1)) (xs (4 * q + 2)) hS hR2) rfl hR2.2.1 (As := [.int (xs (4 * q + 1)), .int (xs (4 * q + 2))]) rfl rfl rfl (Nat.le_of_ble_eq_true rfl) ⟨rfl, rfl, by decide, by decide⟩ ⟨show _ ≤ 600000 by omega, show _ ≤ 7302250 by omega⟩ (kI (fun r3 w3 h3 => ?_))
  obtain ⟨e3, R3, hR3, hS3⟩ := h3
  have hC3 := hC2.far hR3.1
  rw [e2, e3]
  refine g_icmp_eq C 759 d_Law_law_384 (by decide) rfl rfl (fun _ => ?_) (fun z => absurd rfl z)
  exact V.wid (by omega) (by omega) (next w3 _ ⟨_, _, _, R3, hC3, hR3.base, hS3⟩)
set_option maxHeartbeats 4000000 in
theorem op_thaw {X : gX} (C : Fx X code "RelaxedRadixVectorLaw" 4 room_1) {b L : Nat} {xs : Nat → Int32} (hX : lX X b L xs) (hbl : b < X.1.2.2.1.size) (hN : L ≤ 2048) {q : Nat} (hq : 4 * q + 4 ≤ L) (w : gW) (x : Nat) (S : St) (hL : lSt w x S) (next : ∀ w2 S2, lSt w2 x S2 → V X w2 (82 + 17 * (q + 1)) (30000 + 700 * (q + 1)) [some (.ref b), some (.ref x), some (.ref (x + 68)), some (.int (nI (4 * q)))] [] 759) : V X w (82 + 17 * q) (30000 + 700 * q) [some (.ref b), some (.ref x), some (.ref (x + 68)), some (.int (nI (4 * q)))] [] 389 := by
  obtain ⟨ed, ts, O, R, hC, hR, hS⟩ := hL
  refine g_aldn C d_Law_law_389 rfl ?_
  refine g_aldn C d_Law_law_390 rfl ?_
  refine g_ldn C d_Law_law_391 rfl ?_
  refine g_iconst (v := nI 1) C d_Law_law_392 rfl ?_
  first | refine g_addN C d_Law_law_393 ?_ | refine g_add C d_Law_law_393 ?_
  refine g_sld C d_Law_law_394 hX hbl hN (by omega) (by omega) ?_
  refine g_callV (ci := kCls) C d_Law_law_395 cw_Law_43 sl_Cls_thaw (c_Cls_thaw X.1 w x S ed ts O (xs (4 * q + 1)) hC) rfl hC.1 (As := [.int (xs (4 * q + 1))]) rfl rfl rfl (Nat.le_of_ble_eq_true rfl) ⟨rfl, rfl, by decide, by decide⟩ ⟨show _ ≤ 600000 by omega, show _ ≤ 7302250 by omega⟩ (kI (fun r w2 h2 => ?_))
  obtain ⟨e2, ⟨ed2, ts2, O2, hC2⟩, f2⟩ := h2
  have hR2 := hR.keep f2
  refine g_aldn C d_Law_law_398 rfl ?_
  refine g_aldn C d_Law_law_399 rfl ?_
  refine g_ldn C d_Law_law_400 rfl ?_
  refine g_iconst (v := nI 1) C d_Law_law_401 rfl ?_
  first | refine g_addN C d_Law_law_402 ?_ | refine g_add C d_Law_law_402 ?_
  refine g_sld C d_Law_law_403 hX hbl hN (by omega) (by omega) ?_
  refine g_callV (ci := kMod) C d_Law_law_404 cw_Law_47 sl_Mod_thaw (c_Mod_thaw X.1 w2 w2 (x + 68) R S (xs (4 * q + 1)) hS hR2) rfl hR2.2.1 (As := [.int (xs (4 * q + 1))]) rfl rfl rfl (Nat.le_of_ble_eq_true rfl) ⟨rfl, rfl, by decide, by decide⟩ ⟨show _ ≤ 600000 by omega, show _ ≤ 7302250 by omega⟩ (kI (fun r3 w3 h3 => ?_))
  obtain ⟨e3, R3, hR3, hS3⟩ := h3
  have hC3 := hC2.far hR3.1
  rw [e2, e3]
  refine g_icmp_eq C 759 d_Law_law_407 (by decide) rfl rfl (fun _ => ?_) (fun z => absurd rfl z)
  exact V.wid (by omega) (by omega) (next w3 _ ⟨_, _, _, R3, hC3, hR3.base, hS3⟩)
set_option maxHeartbeats 4000000 in
theorem op_push {X : gX} (C : Fx X code "RelaxedRadixVectorLaw" 4 room_1) {b L : Nat} {xs : Nat → Int32} (hX : lX X b L xs) (hbl : b < X.1.2.2.1.size) (hN : L ≤ 2048) {q : Nat} (hq : 4 * q + 4 ≤ L) (w : gW) (x : Nat) (S : St) (hL : lSt w x S) (next : ∀ w2 S2, lSt w2 x S2 → V X w2 (82 + 17 * (q + 1)) (30000 + 700 * (q + 1)) [some (.ref b), some (.ref x), some (.ref (x + 68)), some (.int (nI (4 * q)))] [] 759) : V X w (82 + 17 * q) (30000 + 700 * q) [some (.ref b), some (.ref x), some (.ref (x + 68)), some (.int (nI (4 * q)))] [] 412 := by
  obtain ⟨ed, ts, O, R, hC, hR, hS⟩ := hL
  refine g_aldn C d_Law_law_412 rfl ?_
  refine g_aldn C d_Law_law_413 rfl ?_
  refine g_ldn C d_Law_law_414 rfl ?_
  refine g_iconst (v := nI 1) C d_Law_law_415 rfl ?_
  first | refine g_addN C d_Law_law_416 ?_ | refine g_add C d_Law_law_416 ?_
  refine g_sld C d_Law_law_417 hX hbl hN (by omega) (by omega) ?_
  refine g_aldn C d_Law_law_418 rfl ?_
  refine g_ldn C d_Law_law_419 rfl ?_
  refine g_iconst (v := nI 2) C d_Law_law_420 rfl ?_
  first | refine g_addN C d_Law_law_421 ?_ | refine g_add C d_Law_law_421 ?_
  refine g_sld C d_Law_law_422 hX hbl hN (by omega) (by omega) ?_
  refine g_callV (ci := kCls) C d_Law_law_423 cw_Law_48 sl_Cls_push (c_Cls_push X.1 w x S ed ts O (xs (4 * q + 1)) (xs (4 * q + 2)) hC) rfl hC.1 (As := [.int (xs (4 * q + 1)), .int (xs (4 * q + 2))]) rfl rfl rfl (Nat.le_of_ble_eq_true rfl) ⟨rfl, rfl, by decide, by decide⟩ ⟨show _ ≤ 600000 by omega, show _ ≤ 7302250 by omega⟩ (kI (fun r w2 h2 => ?_))
  obtain ⟨e2, ⟨ed2, ts2, O2, hC2⟩, f2⟩ := h2
  have hR2 := hR.keep f2
  refine g_aldn C d_Law_law_426 rfl ?_
  refine g_aldn C d_Law_law_427 rfl ?_
  refine g_ldn C d_Law_law_428 rfl ?_
  refine g_iconst (v := nI 1) C d_Law_law_429 rfl ?_
  first | refine g_addN C d_Law_law_430 ?_ | refine g_add C d_Law_law_430 ?_
  refine g_sld C d_Law_law_431 hX hbl hN (by omega) (by omega) ?_
  refine g_aldn C d_Law_law_432 rfl ?_
  refine g_ldn C d_Law_law_433 rfl ?_
  refine g_iconst (v := nI 2) C d_Law_law_434 rfl ?_
  first | refine g_addN C d_Law_law_435 ?_ | refine g_add C d_Law_law_435 ?_
  refine g_sld C d_Law_law_436 hX hbl hN (by omega) (by omega) ?_
  refine g_callV (ci := kMod) C d_Law_law_437 cw_Law_52 sl_Mod_push (c_Mod_push X.1 w2 w2 (x + 68) R S (xs (4 * q + 1)) (xs (4 * q + 2)) hS hR2) rfl hR2.2.1 (As := [.int (xs (4 * q + 1)), .int (xs (4 * q + 2))]) rfl rfl rfl (Nat.le_of_ble_eq_true rfl) ⟨rfl, rfl, by decide, by decide⟩ ⟨show _ ≤ 600000 by omega, show _ ≤ 7302250 by omega⟩ (kI (fun r3 w3 h3 => ?_))
  obtain ⟨e3, R3, hR3, hS3⟩ := h3
  have hC3 := hC2.far hR3.1
  rw [e2, e3]
  refine g_icmp_eq C 759 d_Law_law_440 (by decide) rfl rfl (fun _ => ?_) (fun z => absurd rfl z)
  exact V.wid (by omega) (by omega) (next w3 _ ⟨_, _, _, R3, hC3, hR3.base, hS3⟩)
set_option maxHeartbeats 4000000 in
theorem op_put {X : gX} (C : Fx X code "RelaxedRadixVectorLaw" 4 room_1) {b L : Nat} {xs : Nat → Int32} (hX : lX X b L xs) (hbl : b < X.1.2.2.1.size) (hN : L ≤ 2048) {q : Nat} (hq : 4 * q + 4 ≤ L) (w : gW) (x : Nat) (S : St) (hL : lSt w x S) (next : ∀ w2 S2, lSt w2 x S2 → V X w2 (82 + 17 * (q + 1)) (30000 + 700 * (q + 1)) [some (.ref b), some (.ref x), some (.ref (x + 68)), some (.int (nI (4 * q)))] [] 759) : V X w (82 + 17 * q) (30000 + 700 * q) [some (.ref b), some (.ref x), some (.ref (x + 68)), some (.int (nI (4 * q)))] [] 445 := by
  obtain ⟨ed, ts, O, R, hC, hR, hS⟩ := hL
  refine g_aldn C d_Law_law_445 rfl ?_
  refine g_aldn C d_Law_law_446 rfl ?_
  refine g_ldn C d_Law_law_447 rfl ?_
  refine g_iconst (v := nI 1) C d_Law_law_448 rfl ?_
  first | refine g_addN C d_Law_law_449 ?_ | refine g_add C d_Law_law_449 ?_
  refine g_sld C d_Law_law_450 hX hbl hN (by omega) (by omega) ?_
  refine g_aldn C d_Law_law_451 rfl ?_
  refine g_ldn C d_Law_law_452 rfl ?_
  refine g_iconst (v := nI 2) C d_Law_law_453 rfl ?_
  first | refine g_addN C d_Law_law_454 ?_ | refine g_add C d_Law_law_454 ?_
  refine g_sld C d_Law_law_455 hX hbl hN (by omega) (by omega) ?_
  refine g_aldn C d_Law_law_456 rfl ?_
  refine g_ldn C d_Law_law_457 rfl ?_
  refine g_iconst (v := nI 3) C d_Law_law_458 rfl ?_
  first | refine g_addN C d_Law_law_459 ?_ | refine g_add C d_Law_law_459 ?_
  refine g_sld C d_Law_law_460 hX hbl hN (by omega) (by omega) ?_
  refine g_callV (ci := kCls) C d_Law_law_461 cw_Law_53 sl_Cls_put (c_Cls_put X.1 w x S ed ts O (xs (4 * q + 1)) (xs (4 * q + 2)) (xs (4 * q + 3)) hC) rfl hC.1 (As := [.int (xs (4 * q + 1)), .int (xs (4 * q + 2)), .int (xs (4 * q + 3))]) rfl rfl rfl (Nat.le_of_ble_eq_true rfl) ⟨rfl, rfl, by decide, by decide⟩ ⟨show _ ≤ 600000 by omega, show _ ≤ 7302250 by omega⟩ (kI (fun r w2 h2 => ?_))
  obtain ⟨e2, ⟨ed2, ts2, O2, hC2⟩, f2⟩ := h2
  have hR2 := hR.keep f2
  refine g_aldn C d_Law_law_464 rfl ?_
  refine g_aldn C d_Law_law_465 rfl ?_
  refine g_ldn C d_Law_law_466 rfl ?_
  refine g_iconst (v := nI 1) C d_Law_law_467 rfl ?_
  first | refine g_addN C d_Law_law_468 ?_ | refine g_add C d_Law_law_468 ?_
  refine g_sld C d_Law_law_469 hX hbl hN (by omega) (by omega) ?_
  refine g_aldn C d_Law_law_470 rfl ?_
  refine g_ldn C d_Law_law_471 rfl ?_
  refine g_iconst (v := nI 2) C d_Law_law_472 rfl ?_
  first | refine g_addN C d_Law_law_473 ?_ | refine g_add C d_Law_law_473 ?_
  refine g_sld C d_Law_law_474 hX hbl hN (by omega) (by omega) ?_
  refine g_aldn C d_Law_law_475 rfl ?_
  refine g_ldn C d_Law_law_476 rfl ?_
  refine g_iconst (v := nI 3) C d_Law_law_477 rfl ?_
  first | refine g_addN C d_Law_law_478 ?_ | refine g_add C d_Law_law_478 ?_
  refine g_sld C d_Law_law_479 hX hbl hN (by omega) (by omega) ?_
  refine g_callV (ci := kMod) C d_Law_law_480 cw_Law_57 sl_Mod_put (c_Mod_put X.1 w2 w2 (x + 68) R S (xs (4 * q + 1)) (xs (4 * q + 2)) (xs (4 * q + 3)) hS hR2) rfl hR2.2.1 (As := [.int (xs (4 * q + 1)), .int (xs (4 * q + 2)), .int (xs (4 * q + 3))]) rfl rfl rfl (Nat.le_of_ble_eq_true rfl) ⟨rfl, rfl, by decide, by decide⟩ ⟨show _ ≤ 600000 by omega, show _ ≤ 7302250 by omega⟩ (kI (fun r3 w3 h3 => ?_))
  obtain ⟨e3, R3, hR3, hS3⟩ := h3
  have hC3 := hC2.far hR3.1
  rw [e2, e3]
  refine g_icmp_eq C 759 d_Law_law_483 (by decide) rfl rfl (fun _ => ?_) (fun z => absurd rfl z)
  exact V.wid (by omega) (by omega) (next w3 _ ⟨_, _, _, R3, hC3, hR3.base, hS3⟩)
set_option maxHeartbeats 4000000 in
theorem op_freeze {X : gX} (C : Fx X code "RelaxedRadixVectorLaw" 4 room_1) {b L : Nat} {xs : Nat → Int32} (hX : lX X b L xs) (hbl : b < X.1.2.2.1.size) (hN : L ≤ 2048) {q : Nat} (hq : 4 * q + 4 ≤ L) (w : gW) (x : Nat) (S : St) (hL : lSt w x S) (next : ∀ w2 S2, lSt w2 x S2 → V X w2 (82 + 17 * (q + 1)) (30000 + 700 * (q + 1)) [some (.ref b), some (.ref x), some (.ref (x + 68)), some (.int (nI (4 * q)))] [] 759) : V X w (82 + 17 * q) (30000 + 700 * q) [some (.ref b), some (.ref x), some (.ref (x + 68)), some (.int (nI (4 * q)))] [] 488 := by
  obtain ⟨ed, ts, O, R, hC, hR, hS⟩ := hL
  refine g_aldn C d_Law_law_488 rfl ?_
  refine g_aldn C d_Law_law_489 rfl ?_
  refine g_ldn C d_Law_law_490 rfl ?_
  refine g_iconst (v := nI 1) C d_Law_law_491 rfl ?_
  first | refine g_addN C d_Law_law_492 ?_ | refine g_add C d_Law_law_492 ?_
  refine g_sld C d_Law_law_493 hX hbl hN (by omega) (by omega) ?_
  refine g_callV (ci := kCls) C d_Law_law_494 cw_Law_58 sl_Cls_freeze (c_Cls_freeze X.1 w x S ed ts O (xs (4 * q + 1)) hC) rfl hC.1 (As := [.int (xs (4 * q + 1))]) rfl rfl rfl (Nat.le_of_ble_eq_true rfl) ⟨rfl, rfl, by decide, by decide⟩ ⟨show _ ≤ 600000 by omega, show _ ≤ 7302250 by omega⟩ (kI (fun r w2 h2 => ?_))
  obtain ⟨e2, ⟨ed2, ts2, O2, hC2⟩, f2⟩ := h2
  have hR2 := hR.keep f2
  refine g_aldn C d_Law_law_497 rfl ?_
  refine g_aldn C d_Law_law_498 rfl ?_
  refine g_ldn C d_Law_law_499 rfl ?_
  refine g_iconst (v := nI 1) C d_Law_law_500 rfl ?_
  first | refine g_addN C d_Law_law_501 ?_ | refine g_add C d_Law_law_501 ?_
  refine g_sld C d_Law_law_502 hX hbl hN (by omega) (by omega) ?_
  refine g_callV (ci := kMod) C d_Law_law_503 cw_Law_62 sl_Mod_freeze (c_Mod_freeze X.1 w2 w2 (x + 68) R S (xs (4 * q + 1)) hS hR2) rfl hR2.2.1 (As := [.int (xs (4 * q + 1))]) rfl rfl rfl (Nat.le_of_ble_eq_true rfl) ⟨rfl, rfl, by decide, by decide⟩ ⟨show _ ≤ 600000 by omega, show _ ≤ 7302250 by omega⟩ (kI (fun r3 w3 h3 => ?_))
  obtain ⟨e3, R3, hR3, hS3⟩ := h3
  have hC3 := hC2.far hR3.1
  rw [e2, e3]
  refine g_icmp_eq C 759 d_Law_law_506 (by decide) rfl rfl (fun _ => ?_) (fun z => absurd rfl z)
  exact V.wid (by omega) (by omega) (next w3 _ ⟨_, _, _, R3, hC3, hR3.base, hS3⟩)
set_option maxHeartbeats 4000000 in
theorem op_versions {X : gX} (C : Fx X code "RelaxedRadixVectorLaw" 4 room_1) {b L : Nat} {xs : Nat → Int32} (hX : lX X b L xs) (hbl : b < X.1.2.2.1.size) (hN : L ≤ 2048) {q : Nat} (hq : 4 * q + 4 ≤ L) (w : gW) (x : Nat) (S : St) (hL : lSt w x S) (next : ∀ w2 S2, lSt w2 x S2 → V X w2 (82 + 17 * (q + 1)) (30000 + 700 * (q + 1)) [some (.ref b), some (.ref x), some (.ref (x + 68)), some (.int (nI (4 * q)))] [] 759) : V X w (82 + 17 * q) (30000 + 700 * q) [some (.ref b), some (.ref x), some (.ref (x + 68)), some (.int (nI (4 * q)))] [] 511 := by
  obtain ⟨ed, ts, O, R, hC, hR, hS⟩ := hL
  refine g_aldn C d_Law_law_511 rfl ?_
  refine g_callV (ci := kCls) C d_Law_law_512 cw_Law_63 sl_Cls_versions (c_Cls_versions X.1 w x S ed ts O hC) rfl hC.1 (As := []) rfl rfl rfl (Nat.le_of_ble_eq_true rfl) ⟨rfl, rfl, by decide, by decide⟩ ⟨show _ ≤ 600000 by omega, show _ ≤ 7302250 by omega⟩ (kI (fun r w2 h2 => ?_))
  rw [h2.1, h2.2]
  refine g_aldn C d_Law_law_515 rfl ?_
  refine g_callV (ci := kMod) C d_Law_law_516 cw_Law_67 sl_Mod_versions (c_Mod_versions X.1 w w (x + 68) R S hS hR) rfl hR.2.1 (As := []) rfl rfl rfl (Nat.le_of_ble_eq_true rfl) ⟨rfl, rfl, by decide, by decide⟩ ⟨show _ ≤ 600000 by omega, show _ ≤ 7302250 by omega⟩ (kI (fun r3 w3 h3 => ?_))
  rw [h3.1, h3.2]
  refine g_icmp_eq C 759 d_Law_law_519 (by decide) rfl rfl (fun _ => ?_) (fun z => absurd rfl z)
  exact V.wid (by omega) (by omega) (next w _ ⟨_, _, _, R, hC, hR, hS⟩)
set_option maxHeartbeats 4000000 in
theorem op_size {X : gX} (C : Fx X code "RelaxedRadixVectorLaw" 4 room_1) {b L : Nat} {xs : Nat → Int32} (hX : lX X b L xs) (hbl : b < X.1.2.2.1.size) (hN : L ≤ 2048) {q : Nat} (hq : 4 * q + 4 ≤ L) (w : gW) (x : Nat) (S : St) (hL : lSt w x S) (next : ∀ w2 S2, lSt w2 x S2 → V X w2 (82 + 17 * (q + 1)) (30000 + 700 * (q + 1)) [some (.ref b), some (.ref x), some (.ref (x + 68)), some (.int (nI (4 * q)))] [] 759) : V X w (82 + 17 * q) (30000 + 700 * q) [some (.ref b), some (.ref x), some (.ref (x + 68)), some (.int (nI (4 * q)))] [] 524 := by
  obtain ⟨ed, ts, O, R, hC, hR, hS⟩ := hL
  refine g_aldn C d_Law_law_524 rfl ?_
  refine g_aldn C d_Law_law_525 rfl ?_
  refine g_ldn C d_Law_law_526 rfl ?_
  refine g_iconst (v := nI 1) C d_Law_law_527 rfl ?_
  first | refine g_addN C d_Law_law_528 ?_ | refine g_add C d_Law_law_528 ?_
  refine g_sld C d_Law_law_529 hX hbl hN (by omega) (by omega) ?_
  refine g_callV (ci := kCls) C d_Law_law_530 cw_Law_68 sl_Cls_size (c_Cls_size X.1 w x S ed ts O (xs (4 * q + 1)) hC) rfl hC.1 (As := [.int (xs (4 * q + 1))]) rfl rfl rfl (Nat.le_of_ble_eq_true rfl) ⟨rfl, rfl, by decide, by decide⟩ ⟨show _ ≤ 600000 by omega, show _ ≤ 7302250 by omega⟩ (kI (fun r w2 h2 => ?_))
  rw [h2.1, h2.2]
  refine g_aldn C d_Law_law_533 rfl ?_
  refine g_aldn C d_Law_law_534 rfl ?_
  refine g_ldn C d_Law_law_535 rfl ?_
  refine g_iconst (v := nI 1) C d_Law_law_536 rfl ?_
  first | refine g_addN C d_Law_law_537 ?_ | refine g_add C d_Law_law_537 ?_
  refine g_sld C d_Law_law_538 hX hbl hN (by omega) (by omega) ?_
  refine g_callV (ci := kMod) C d_Law_law_539 cw_Law_71 sl_Mod_size (c_Mod_size X.1 w w (x + 68) R S (xs (4 * q + 1)) hS hR) rfl hR.2.1 (As := [.int (xs (4 * q + 1))]) rfl rfl rfl (Nat.le_of_ble_eq_true rfl) ⟨rfl, rfl, by decide, by decide⟩ ⟨show _ ≤ 600000 by omega, show _ ≤ 7302250 by omega⟩ (kI (fun r3 w3 h3 => ?_))
  rw [h3.1, h3.2]
  refine g_icmp_eq C 759 d_Law_law_542 (by decide) rfl rfl (fun _ => ?_) (fun z => absurd rfl z)
  exact V.wid (by omega) (by omega) (next w _ ⟨_, _, _, R, hC, hR, hS⟩)
set_option maxHeartbeats 4000000 in
theorem op_get {X : gX} (C : Fx X code "RelaxedRadixVectorLaw" 4 room_1) {b L : Nat} {xs : Nat → Int32} (hX : lX X b L xs) (hbl : b < X.1.2.2.1.size) (hN : L ≤ 2048) {q : Nat} (hq : 4 * q + 4 ≤ L) (w : gW) (x : Nat) (S : St) (hL : lSt w x S) (next : ∀ w2 S2, lSt w2 x S2 → V X w2 (82 + 17 * (q + 1)) (30000 + 700 * (q + 1)) [some (.ref b), some (.ref x), some (.ref (x + 68)), some (.int (nI (4 * q)))] [] 759) : V X w (82 + 17 * q) (30000 + 700 * q) [some (.ref b), some (.ref x), some (.ref (x + 68)), some (.int (nI (4 * q)))] [] 547 := by
  obtain ⟨ed, ts, O, R, hC, hR, hS⟩ := hL
  refine g_aldn C d_Law_law_547 rfl ?_
  refine g_aldn C d_Law_law_548 rfl ?_
  refine g_ldn C d_Law_law_549 rfl ?_
  refine g_iconst (v := nI 1) C d_Law_law_550 rfl ?_
  first | refine g_addN C d_Law_law_551 ?_ | refine g_add C d_Law_law_551 ?_
  refine g_sld C d_Law_law_552 hX hbl hN (by omega) (by omega) ?_
  refine g_aldn C d_Law_law_553 rfl ?_
  refine g_ldn C d_Law_law_554 rfl ?_
  refine g_iconst (v := nI 2) C d_Law_law_555 rfl ?_
  first | refine g_addN C d_Law_law_556 ?_ | refine g_add C d_Law_law_556 ?_
  refine g_sld C d_Law_law_557 hX hbl hN (by omega) (by omega) ?_
  refine g_callV (ci := kCls) C d_Law_law_558 cw_Law_72 sl_Cls_get (c_Cls_get X.1 w x S ed ts O (xs (4 * q + 1)) (xs (4 * q + 2)) hC) rfl hC.1 (As := [.int (xs (4 * q + 1)), .int (xs (4 * q + 2))]) rfl rfl rfl (Nat.le_of_ble_eq_true rfl) ⟨rfl, rfl, by decide, by decide⟩ ⟨show _ ≤ 600000 by omega, show _ ≤ 7302250 by omega⟩ (kL (fun r w2 h2 => ?_))
  rw [h2.1, h2.2]
  refine g_aldn C d_Law_law_561 rfl ?_
  refine g_aldn C d_Law_law_562 rfl ?_
  refine g_ldn C d_Law_law_563 rfl ?_
  refine g_iconst (v := nI 1) C d_Law_law_564 rfl ?_
  first | refine g_addN C d_Law_law_565 ?_ | refine g_add C d_Law_law_565 ?_
  refine g_sld C d_Law_law_566 hX hbl hN (by omega) (by omega) ?_
  refine g_aldn C d_Law_law_567 rfl ?_
  refine g_ldn C d_Law_law_568 rfl ?_
  refine g_iconst (v := nI 2) C d_Law_law_569 rfl ?_
  first | refine g_addN C d_Law_law_570 ?_ | refine g_add C d_Law_law_570 ?_
  refine g_sld C d_Law_law_571 hX hbl hN (by omega) (by omega) ?_
  refine g_callV (ci := kMod) C d_Law_law_572 cw_Law_76 sl_Mod_get (c_Mod_get X.1 w w (x + 68) R S (xs (4 * q + 1)) (xs (4 * q + 2)) hS hR) rfl hR.2.1 (As := [.int (xs (4 * q + 1)), .int (xs (4 * q + 2))]) rfl rfl rfl (Nat.le_of_ble_eq_true rfl) ⟨rfl, rfl, by decide, by decide⟩ ⟨show _ ≤ 600000 by omega, show _ ≤ 7302250 by omega⟩ (kL (fun r3 w3 h3 => ?_))
  rw [h3.1, h3.2]
  refine g_lcmp C d_Law_law_575 ?_
  rw [lcmp_same]
  refine g_if_eq C 759 d_Law_law_576 (by decide) (show (nI 0).toInt = 0 from rfl) (fun _ => ?_) (fun z => absurd rfl z)
  exact V.wid (by omega) (by omega) (next w _ ⟨_, _, _, R, hC, hR, hS⟩)
set_option maxHeartbeats 4000000 in
theorem op_hash {X : gX} (C : Fx X code "RelaxedRadixVectorLaw" 4 room_1) {b L : Nat} {xs : Nat → Int32} (hX : lX X b L xs) (hbl : b < X.1.2.2.1.size) (hN : L ≤ 2048) {q : Nat} (hq : 4 * q + 4 ≤ L) (w : gW) (x : Nat) (S : St) (hL : lSt w x S) (next : ∀ w2 S2, lSt w2 x S2 → V X w2 (82 + 17 * (q + 1)) (30000 + 700 * (q + 1)) [some (.ref b), some (.ref x), some (.ref (x + 68)), some (.int (nI (4 * q)))] [] 759) : V X w (82 + 17 * q) (30000 + 700 * q) [some (.ref b), some (.ref x), some (.ref (x + 68)), some (.int (nI (4 * q)))] [] 581 := by
  obtain ⟨ed, ts, O, R, hC, hR, hS⟩ := hL
  refine g_aldn C d_Law_law_581 rfl ?_
  refine g_aldn C d_Law_law_582 rfl ?_
  refine g_ldn C d_Law_law_583 rfl ?_
  refine g_iconst (v := nI 1) C d_Law_law_584 rfl ?_
  first | refine g_addN C d_Law_law_585 ?_ | refine g_add C d_Law_law_585 ?_
  refine g_sld C d_Law_law_586 hX hbl hN (by omega) (by omega) ?_
  refine g_callV (ci := kCls) C d_Law_law_587 cw_Law_77 sl_Cls_hash (c_Cls_hash X.1 w x S ed ts O (xs (4 * q + 1)) hC) rfl hC.1 (As := [.int (xs (4 * q + 1))]) rfl rfl rfl (Nat.le_of_ble_eq_true rfl) ⟨rfl, rfl, by decide, by decide⟩ ⟨show _ ≤ 600000 by omega, show _ ≤ 7302250 by omega⟩ (kI (fun r w2 h2 => ?_))
  rw [h2.1, h2.2]
  refine g_aldn C d_Law_law_590 rfl ?_
  refine g_aldn C d_Law_law_591 rfl ?_
  refine g_ldn C d_Law_law_592 rfl ?_
  refine g_iconst (v := nI 1) C d_Law_law_593 rfl ?_
  first | refine g_addN C d_Law_law_594 ?_ | refine g_add C d_Law_law_594 ?_
  refine g_sld C d_Law_law_595 hX hbl hN (by omega) (by omega) ?_
  refine g_callV (ci := kMod) C d_Law_law_596 cw_Law_80 sl_Mod_hash (c_Mod_hash X.1 w w (x + 68) R S (xs (4 * q + 1)) hS hR) rfl hR.2.1 (As := [.int (xs (4 * q + 1))]) rfl rfl rfl (Nat.le_of_ble_eq_true rfl) ⟨rfl, rfl, by decide, by decide⟩ ⟨show _ ≤ 600000 by omega, show _ ≤ 7302250 by omega⟩ (kI (fun r3 w3 h3 => ?_))
  rw [h3.1, h3.2]
  refine g_icmp_eq C 759 d_Law_law_599 (by decide) rfl rfl (fun _ => ?_) (fun z => absurd rfl z)
  exact V.wid (by omega) (by omega) (next w _ ⟨_, _, _, R, hC, hR, hS⟩)
set_option maxHeartbeats 4000000 in
theorem op_compare {X : gX} (C : Fx X code "RelaxedRadixVectorLaw" 4 room_1) {b L : Nat} {xs : Nat → Int32} (hX : lX X b L xs) (hbl : b < X.1.2.2.1.size) (hN : L ≤ 2048) {q : Nat} (hq : 4 * q + 4 ≤ L) (w : gW) (x : Nat) (S : St) (hL : lSt w x S) (next : ∀ w2 S2, lSt w2 x S2 → V X w2 (82 + 17 * (q + 1)) (30000 + 700 * (q + 1)) [some (.ref b), some (.ref x), some (.ref (x + 68)), some (.int (nI (4 * q)))] [] 759) : V X w (82 + 17 * q) (30000 + 700 * q) [some (.ref b), some (.ref x), some (.ref (x + 68)), some (.int (nI (4 * q)))] [] 604 := by
  obtain ⟨ed, ts, O, R, hC, hR, hS⟩ := hL
  refine g_aldn C d_Law_law_604 rfl ?_
  refine g_aldn C d_Law_law_605 rfl ?_
  refine g_ldn C d_Law_law_606 rfl ?_
  refine g_iconst (v := nI 1) C d_Law_law_607 rfl ?_
  first | refine g_addN C d_Law_law_608 ?_ | refine g_add C d_Law_law_608 ?_
  refine g_sld C d_Law_law_609 hX hbl hN (by omega) (by omega) ?_
  refine g_aldn C d_Law_law_610 rfl ?_
  refine g_ldn C d_Law_law_611 rfl ?_
  refine g_iconst (v := nI 2) C d_Law_law_612 rfl ?_
  first | refine g_addN C d_Law_law_613 ?_ | refine g_add C d_Law_law_613 ?_
  refine g_sld C d_Law_law_614 hX hbl hN (by omega) (by omega) ?_
  refine g_callV (ci := kCls) C d_Law_law_615 cw_Law_81 sl_Cls_compare (c_Cls_compare X.1 w x S ed ts O (xs (4 * q + 1)) (xs (4 * q + 2)) hC) rfl hC.1 (As := [.int (xs (4 * q + 1)), .int (xs (4 * q + 2))]) rfl rfl rfl (Nat.le_of_ble_eq_true rfl) ⟨rfl, rfl, by decide, by decide⟩ ⟨show _ ≤ 600000 by omega, show _ ≤ 7302250 by omega⟩ (kI (fun r w2 h2 => ?_))
  rw [h2.1, h2.2]
  refine g_aldn C d_Law_law_618 rfl ?_
  refine g_aldn C d_Law_law_619 rfl ?_
  refine g_ldn C d_Law_law_620 rfl ?_
  refine g_iconst (v := nI 1) C d_Law_law_621 rfl ?_
  first | refine g_addN C d_Law_law_622 ?_ | refine g_add C d_Law_law_622 ?_
  refine g_sld C d_Law_law_623 hX hbl hN (by omega) (by omega) ?_
  refine g_aldn C d_Law_law_624 rfl ?_
  refine g_ldn C d_Law_law_625 rfl ?_
  refine g_iconst (v := nI 2) C d_Law_law_626 rfl ?_
  first | refine g_addN C d_Law_law_627 ?_ | refine g_add C d_Law_law_627 ?_
  refine g_sld C d_Law_law_628 hX hbl hN (by omega) (by omega) ?_
  refine g_callV (ci := kMod) C d_Law_law_629 cw_Law_84 sl_Mod_compare (c_Mod_compare X.1 w w (x + 68) R S (xs (4 * q + 1)) (xs (4 * q + 2)) hS hR) rfl hR.2.1 (As := [.int (xs (4 * q + 1)), .int (xs (4 * q + 2))]) rfl rfl rfl (Nat.le_of_ble_eq_true rfl) ⟨rfl, rfl, by decide, by decide⟩ ⟨show _ ≤ 600000 by omega, show _ ≤ 7302250 by omega⟩ (kI (fun r3 w3 h3 => ?_))
  rw [h3.1, h3.2]
  refine g_icmp_eq C 759 d_Law_law_632 (by decide) rfl rfl (fun _ => ?_) (fun z => absurd rfl z)
  exact V.wid (by omega) (by omega) (next w _ ⟨_, _, _, R, hC, hR, hS⟩)
set_option maxHeartbeats 4000000 in
theorem op_height {X : gX} (C : Fx X code "RelaxedRadixVectorLaw" 4 room_1) {b L : Nat} {xs : Nat → Int32} (hX : lX X b L xs) (hbl : b < X.1.2.2.1.size) (hN : L ≤ 2048) {q : Nat} (hq : 4 * q + 4 ≤ L) (w : gW) (x : Nat) (S : St) (hL : lSt w x S) (next : ∀ w2 S2, lSt w2 x S2 → V X w2 (82 + 17 * (q + 1)) (30000 + 700 * (q + 1)) [some (.ref b), some (.ref x), some (.ref (x + 68)), some (.int (nI (4 * q)))] [] 759) : V X w (82 + 17 * q) (30000 + 700 * q) [some (.ref b), some (.ref x), some (.ref (x + 68)), some (.int (nI (4 * q)))] [] 637 := by
  obtain ⟨ed, ts, O, R, hC, hR, hS⟩ := hL
  refine g_aldn C d_Law_law_637 rfl ?_
  refine g_aldn C d_Law_law_638 rfl ?_
  refine g_ldn C d_Law_law_639 rfl ?_
  refine g_iconst (v := nI 1) C d_Law_law_640 rfl ?_
  first | refine g_addN C d_Law_law_641 ?_ | refine g_add C d_Law_law_641 ?_
  refine g_sld C d_Law_law_642 hX hbl hN (by omega) (by omega) ?_
  refine g_callV (ci := kCls) C d_Law_law_643 cw_Law_85 sl_Cls_height (c_Cls_height X.1 w x S ed ts O (xs (4 * q + 1)) hC) rfl hC.1 (As := [.int (xs (4 * q + 1))]) rfl rfl rfl (Nat.le_of_ble_eq_true rfl) ⟨rfl, rfl, by decide, by decide⟩ ⟨show _ ≤ 600000 by omega, show _ ≤ 7302250 by omega⟩ (kI (fun r w2 h2 => ?_))
  rw [h2.1, h2.2]
  refine g_aldn C d_Law_law_646 rfl ?_
  refine g_aldn C d_Law_law_647 rfl ?_
  refine g_ldn C d_Law_law_648 rfl ?_
  refine g_iconst (v := nI 1) C d_Law_law_649 rfl ?_
  first | refine g_addN C d_Law_law_650 ?_ | refine g_add C d_Law_law_650 ?_
  refine g_sld C d_Law_law_651 hX hbl hN (by omega) (by omega) ?_
  refine g_callV (ci := kMod) C d_Law_law_652 cw_Law_88 sl_Mod_height (c_Mod_height X.1 w w (x + 68) R S (xs (4 * q + 1)) hS hR) rfl hR.2.1 (As := [.int (xs (4 * q + 1))]) rfl rfl rfl (Nat.le_of_ble_eq_true rfl) ⟨rfl, rfl, by decide, by decide⟩ ⟨show _ ≤ 600000 by omega, show _ ≤ 7302250 by omega⟩ (kI (fun r3 w3 h3 => ?_))
  rw [h3.1, h3.2]
  refine g_icmp_eq C 759 d_Law_law_655 (by decide) rfl rfl (fun _ => ?_) (fun z => absurd rfl z)
  exact V.wid (by omega) (by omega) (next w _ ⟨_, _, _, R, hC, hR, hS⟩)
set_option maxHeartbeats 4000000 in
theorem op_nodes {X : gX} (C : Fx X code "RelaxedRadixVectorLaw" 4 room_1) {b L : Nat} {xs : Nat → Int32} (hX : lX X b L xs) (hbl : b < X.1.2.2.1.size) (hN : L ≤ 2048) {q : Nat} (hq : 4 * q + 4 ≤ L) (w : gW) (x : Nat) (S : St) (hL : lSt w x S) (next : ∀ w2 S2, lSt w2 x S2 → V X w2 (82 + 17 * (q + 1)) (30000 + 700 * (q + 1)) [some (.ref b), some (.ref x), some (.ref (x + 68)), some (.int (nI (4 * q)))] [] 759) : V X w (82 + 17 * q) (30000 + 700 * q) [some (.ref b), some (.ref x), some (.ref (x + 68)), some (.int (nI (4 * q)))] [] 660 := by
  obtain ⟨ed, ts, O, R, hC, hR, hS⟩ := hL
  refine g_aldn C d_Law_law_660 rfl ?_
  refine g_aldn C d_Law_law_661 rfl ?_
  refine g_ldn C d_Law_law_662 rfl ?_
  refine g_iconst (v := nI 1) C d_Law_law_663 rfl ?_
  first | refine g_addN C d_Law_law_664 ?_ | refine g_add C d_Law_law_664 ?_
  refine g_sld C d_Law_law_665 hX hbl hN (by omega) (by omega) ?_
  refine g_callV (ci := kCls) C d_Law_law_666 cw_Law_89 sl_Cls_nodes (c_Cls_nodes X.1 w x S ed ts O (xs (4 * q + 1)) hC) rfl hC.1 (As := [.int (xs (4 * q + 1))]) rfl rfl rfl (Nat.le_of_ble_eq_true rfl) ⟨rfl, rfl, by decide, by decide⟩ ⟨show _ ≤ 600000 by omega, show _ ≤ 7302250 by omega⟩ (kI (fun r w2 h2 => ?_))
  rw [h2.1, h2.2]
  refine g_aldn C d_Law_law_669 rfl ?_
  refine g_aldn C d_Law_law_670 rfl ?_
  refine g_ldn C d_Law_law_671 rfl ?_
  refine g_iconst (v := nI 1) C d_Law_law_672 rfl ?_
  first | refine g_addN C d_Law_law_673 ?_ | refine g_add C d_Law_law_673 ?_
  refine g_sld C d_Law_law_674 hX hbl hN (by omega) (by omega) ?_
  refine g_callV (ci := kMod) C d_Law_law_675 cw_Law_92 sl_Mod_nodes (c_Mod_nodes X.1 w w (x + 68) R S (xs (4 * q + 1)) hS hR) rfl hR.2.1 (As := [.int (xs (4 * q + 1))]) rfl rfl rfl (Nat.le_of_ble_eq_true rfl) ⟨rfl, rfl, by decide, by decide⟩ ⟨show _ ≤ 600000 by omega, show _ ≤ 7302250 by omega⟩ (kI (fun r3 w3 h3 => ?_))
  rw [h3.1, h3.2]
  refine g_icmp_eq C 759 d_Law_law_678 (by decide) rfl rfl (fun _ => ?_) (fun z => absurd rfl z)
  exact V.wid (by omega) (by omega) (next w _ ⟨_, _, _, R, hC, hR, hS⟩)
set_option maxHeartbeats 4000000 in
theorem op_row {X : gX} (C : Fx X code "RelaxedRadixVectorLaw" 4 room_1) {b L : Nat} {xs : Nat → Int32} (hX : lX X b L xs) (hbl : b < X.1.2.2.1.size) (hN : L ≤ 2048) {q : Nat} (hq : 4 * q + 4 ≤ L) (w : gW) (x : Nat) (S : St) (hL : lSt w x S) (next : ∀ w2 S2, lSt w2 x S2 → V X w2 (82 + 17 * (q + 1)) (30000 + 700 * (q + 1)) [some (.ref b), some (.ref x), some (.ref (x + 68)), some (.int (nI (4 * q)))] [] 759) : V X w (82 + 17 * q) (30000 + 700 * q) [some (.ref b), some (.ref x), some (.ref (x + 68)), some (.int (nI (4 * q)))] [] 683 := by
  obtain ⟨ed, ts, O, R, hC, hR, hS⟩ := hL
  refine g_aldn C d_Law_law_683 rfl ?_
  refine g_aldn C d_Law_law_684 rfl ?_
  refine g_ldn C d_Law_law_685 rfl ?_
  refine g_iconst (v := nI 1) C d_Law_law_686 rfl ?_
  first | refine g_addN C d_Law_law_687 ?_ | refine g_add C d_Law_law_687 ?_
  refine g_sld C d_Law_law_688 hX hbl hN (by omega) (by omega) ?_
  refine g_aldn C d_Law_law_689 rfl ?_
  refine g_ldn C d_Law_law_690 rfl ?_
  refine g_iconst (v := nI 2) C d_Law_law_691 rfl ?_
  first | refine g_addN C d_Law_law_692 ?_ | refine g_add C d_Law_law_692 ?_
  refine g_sld C d_Law_law_693 hX hbl hN (by omega) (by omega) ?_
  refine g_aldn C d_Law_law_694 rfl ?_
  refine g_ldn C d_Law_law_695 rfl ?_
  refine g_iconst (v := nI 3) C d_Law_law_696 rfl ?_
  first | refine g_addN C d_Law_law_697 ?_ | refine g_add C d_Law_law_697 ?_
  refine g_sld C d_Law_law_698 hX hbl hN (by omega) (by omega) ?_
  refine g_callV (ci := kCls) C d_Law_law_699 cw_Law_93 sl_Cls_row (c_Cls_row X.1 w x S ed ts O (xs (4 * q + 1)) (xs (4 * q + 2)) (xs (4 * q + 3)) hC) rfl hC.1 (As := [.int (xs (4 * q + 1)), .int (xs (4 * q + 2)), .int (xs (4 * q + 3))]) rfl rfl rfl (Nat.le_of_ble_eq_true rfl) ⟨rfl, rfl, by decide, by decide⟩ ⟨show _ ≤ 600000 by omega, show _ ≤ 7302250 by omega⟩ (kI (fun r w2 h2 => ?_))
  rw [h2.1, h2.2]
  refine g_aldn C d_Law_law_702 rfl ?_
  refine g_aldn C d_Law_law_703 rfl ?_
  refine g_ldn C d_Law_law_704 rfl ?_
  refine g_iconst (v := nI 1) C d_Law_law_705 rfl ?_
  first | refine g_addN C d_Law_law_706 ?_ | refine g_add C d_Law_law_706 ?_
  refine g_sld C d_Law_law_707 hX hbl hN (by omega) (by omega) ?_
  refine g_aldn C d_Law_law_708 rfl ?_
  refine g_ldn C d_Law_law_709 rfl ?_
  refine g_iconst (v := nI 2) C d_Law_law_710 rfl ?_
  first | refine g_addN C d_Law_law_711 ?_ | refine g_add C d_Law_law_711 ?_
  refine g_sld C d_Law_law_712 hX hbl hN (by omega) (by omega) ?_
  refine g_aldn C d_Law_law_713 rfl ?_
  refine g_ldn C d_Law_law_714 rfl ?_
  refine g_iconst (v := nI 3) C d_Law_law_715 rfl ?_
  first | refine g_addN C d_Law_law_716 ?_ | refine g_add C d_Law_law_716 ?_
  refine g_sld C d_Law_law_717 hX hbl hN (by omega) (by omega) ?_
  refine g_callV (ci := kMod) C d_Law_law_718 cw_Law_96 sl_Mod_row (c_Mod_row X.1 w w (x + 68) R S (xs (4 * q + 1)) (xs (4 * q + 2)) (xs (4 * q + 3)) hS hR) rfl hR.2.1 (As := [.int (xs (4 * q + 1)), .int (xs (4 * q + 2)), .int (xs (4 * q + 3))]) rfl rfl rfl (Nat.le_of_ble_eq_true rfl) ⟨rfl, rfl, by decide, by decide⟩ ⟨show _ ≤ 600000 by omega, show _ ≤ 7302250 by omega⟩ (kI (fun r3 w3 h3 => ?_))
  rw [h3.1, h3.2]
  refine g_icmp_eq C 759 d_Law_law_721 (by decide) rfl rfl (fun _ => ?_) (fun z => absurd rfl z)
  exact V.wid (by omega) (by omega) (next w _ ⟨_, _, _, R, hC, hR, hS⟩)
set_option maxHeartbeats 4000000 in
theorem op_probes {X : gX} (C : Fx X code "RelaxedRadixVectorLaw" 4 room_1) {b L : Nat} {xs : Nat → Int32} (hX : lX X b L xs) (hbl : b < X.1.2.2.1.size) (hN : L ≤ 2048) {q : Nat} (hq : 4 * q + 4 ≤ L) (w : gW) (x : Nat) (S : St) (hL : lSt w x S) (next : ∀ w2 S2, lSt w2 x S2 → V X w2 (82 + 17 * (q + 1)) (30000 + 700 * (q + 1)) [some (.ref b), some (.ref x), some (.ref (x + 68)), some (.int (nI (4 * q)))] [] 759) : V X w (82 + 17 * q) (30000 + 700 * q) [some (.ref b), some (.ref x), some (.ref (x + 68)), some (.int (nI (4 * q)))] [] 726 := by
  obtain ⟨ed, ts, O, R, hC, hR, hS⟩ := hL
  refine g_aldn C d_Law_law_726 rfl ?_
  refine g_aldn C d_Law_law_727 rfl ?_
  refine g_ldn C d_Law_law_728 rfl ?_
  refine g_iconst (v := nI 1) C d_Law_law_729 rfl ?_
  first | refine g_addN C d_Law_law_730 ?_ | refine g_add C d_Law_law_730 ?_
  refine g_sld C d_Law_law_731 hX hbl hN (by omega) (by omega) ?_
  refine g_aldn C d_Law_law_732 rfl ?_
  refine g_ldn C d_Law_law_733 rfl ?_
  refine g_iconst (v := nI 2) C d_Law_law_734 rfl ?_
  first | refine g_addN C d_Law_law_735 ?_ | refine g_add C d_Law_law_735 ?_
  refine g_sld C d_Law_law_736 hX hbl hN (by omega) (by omega) ?_
  refine g_callV (ci := kCls) C d_Law_law_737 cw_Law_97 sl_Cls_probes (c_Cls_probes X.1 w x S ed ts O (xs (4 * q + 1)) (xs (4 * q + 2)) hC) rfl hC.1 (As := [.int (xs (4 * q + 1)), .int (xs (4 * q + 2))]) rfl rfl rfl (Nat.le_of_ble_eq_true rfl) ⟨rfl, rfl, by decide, by decide⟩ ⟨show _ ≤ 600000 by omega, show _ ≤ 7302250 by omega⟩ (kI (fun r w2 h2 => ?_))
  rw [h2.1, h2.2]
  refine g_aldn C d_Law_law_740 rfl ?_
  refine g_aldn C d_Law_law_741 rfl ?_
  refine g_ldn C d_Law_law_742 rfl ?_
  refine g_iconst (v := nI 1) C d_Law_law_743 rfl ?_
  first | refine g_addN C d_Law_law_744 ?_ | refine g_add C d_Law_law_744 ?_
  refine g_sld C d_Law_law_745 hX hbl hN (by omega) (by omega) ?_
  refine g_aldn C d_Law_law_746 rfl ?_
  refine g_ldn C d_Law_law_747 rfl ?_
  refine g_iconst (v := nI 2) C d_Law_law_748 rfl ?_
  first | refine g_addN C d_Law_law_749 ?_ | refine g_add C d_Law_law_749 ?_
  refine g_sld C d_Law_law_750 hX hbl hN (by omega) (by omega) ?_
  refine g_callV (ci := kMod) C d_Law_law_751 cw_Law_100 sl_Mod_probes (c_Mod_probes X.1 w w (x + 68) R S (xs (4 * q + 1)) (xs (4 * q + 2)) hS hR) rfl hR.2.1 (As := [.int (xs (4 * q + 1)), .int (xs (4 * q + 2))]) rfl rfl rfl (Nat.le_of_ble_eq_true rfl) ⟨rfl, rfl, by decide, by decide⟩ ⟨show _ ≤ 600000 by omega, show _ ≤ 7302250 by omega⟩ (kI (fun r3 w3 h3 => ?_))
  rw [h3.1, h3.2]
  refine g_icmp_eq C 759 d_Law_law_754 (by decide) rfl rfl (fun _ => ?_) (fun z => absurd rfl z)
  exact V.wid (by omega) (by omega) (next w _ ⟨_, _, _, R, hC, hR, hS⟩)
