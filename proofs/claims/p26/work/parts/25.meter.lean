/-! ===== the meter ===== -/
abbrev pf (c : Nat) (q : Int) : UInt32 := FP.Core.of32 (.fin false c q)
abbrev NF (c : Nat) (q : Int) : Prop := 2 ^ 23 ≤ c ∧ c < 2 ^ 24 ∧ -149 ≤ q ∧ q ≤ 104
theorem NF.lo {c : Nat} {q : Int} (h : NF c q) : 2 ^ 23 ≤ c := And.left h
theorem NF.hi {c : Nat} {q : Int} (h : NF c q) : c < 2 ^ 24 := And.left (And.right h)
theorem NF.ql {c : Nat} {q : Int} (h : NF c q) : -149 ≤ q := And.left (And.right (And.right h))
theorem NF.qh {c : Nat} {q : Int} (h : NF c q) : q ≤ 104 := And.right (And.right (And.right h))
theorem NF.fits {c : Nat} {q : Int} (h : NF c q) : FP.Core.fits FP.Core.b32 (.fin false c q) := ⟨h.hi, h.ql, h.qh, Or.inr h.lo⟩
theorem NF.val {c : Nat} {q : Int} (h : NF c q) : FP.Core.val32 (pf c q) = .fin false c q := FP.Core.val32_of32 h.fits
theorem fz_v2 : FP.Core.val32 FP.Core.fconst2 = .fin false (2 ^ 23) (-22) := by decide +kernel
theorem fz_v1 : FP.Core.val32 FP.Core.fconst1 = .fin false (2 ^ 23) (-23) := by decide +kernel
theorem fz_v0 : FP.Core.val32 FP.Core.fconst0 = .fin false 0 (-149) := by decide +kernel
theorem fz_vC : FP.Core.val32 (1258291200 : UInt32) = .fin false (2 ^ 23) 0 := by decide +kernel
theorem fz_pf_inj {a : UInt32} {c : Nat} {q : Int} (h : NF c q) (e : FP.Core.val32 a = .fin false c q) : a = pf c q :=
  FP.Core.val32_inj (by rw [e]; exact fun z => by cases z) (e.trans h.val.symm)
theorem fz_pf_div {c : Nat} {q : Int} (h : NF c (q - 1)) (hq : q ≤ 104) : FP.fdiv (pf c q) FP.fconst2 = pf c (q - 1) := by
  refine fz_pf_inj h ?_
  have hn : NF c q := ⟨h.lo, h.hi, by have := h.ql; omega, hq⟩
  show FP.Core.val32 (FP.Core.fdiv (pf c q) FP.Core.fconst2) = _
  rw [FP.Core.val32_fdiv, hn.val, fz_v2]
  show FP.Core.roundRatio FP.Core.b32 (false != false) c (2 ^ 23) (q - -22) = _
  refine FP.Core.roundRatio_exact FP.Core.good_b32 (by decide) h.fits ?_
  rw [show (q - -22 - (q - 1)).toNat = 23 by omega, show (q - 1 - (q - -22)).toNat = 0 by omega, Nat.pow_zero, Nat.mul_one]
theorem fz_pf_mul {c : Nat} {q : Int} (h : NF c (q + 1)) (hq : -149 ≤ q) : FP.fmul (pf c q) FP.fconst2 = pf c (q + 1) := by
  refine fz_pf_inj h ?_
  have hn : NF c q := ⟨h.lo, h.hi, hq, by have := h.qh; omega⟩
  show FP.Core.val32 (FP.Core.fmul (pf c q) FP.Core.fconst2) = _
  rw [FP.Core.val32_fmul, hn.val, fz_v2]
  show FP.Core.roundRatio FP.Core.b32 (false != false) (c * 2 ^ 23) 1 (q + -22) = _
  refine FP.Core.roundRatio_exact FP.Core.good_b32 (by decide) h.fits ?_
  rw [show (q + -22 - (q + 1)).toNat = 0 by omega, show (q + 1 - (q + -22)).toNat = 23 by omega, Nat.pow_zero, Nat.mul_one, Nat.mul_one]
theorem fz_cmp_hi {c : Nat} {q r : Int} {a : UInt32} (h : NF c q) (ha : FP.Core.val32 a = .fin false (2 ^ 23) r) (hq : r ≤ q) : FP.fcmp (pf c q) a = some .gt ∨ FP.fcmp (pf c q) a = some .eq := by
  have e : FP.fcmp (pf c q) a = FP.Core.order (FP.Core.val32 (pf c q)) (FP.Core.val32 a) := rfl
  rw [e, h.val, ha]
  have em : min q r = r := by omega
  have g : FP.Core.order (FP.Core.Datum.fin false c q) (FP.Core.Datum.fin false (2 ^ 23) r) = some (compare ((FP.Core.inUnits c q (min q r) : Nat) : Int) ((FP.Core.inUnits (2 ^ 23) r (min q r) : Nat) : Int)) := rfl
  have h1 : 2 ^ 23 ≤ c * 2 ^ (q - r).toNat := Nat.le_trans h.lo (Nat.le_mul_of_pos_right _ (Nat.two_pow_pos _))
  rw [g, em]
  unfold FP.Core.inUnits
  rw [show (r - r).toNat = 0 by omega, Nat.pow_zero, Nat.mul_one]
  generalize c * 2 ^ (q - r).toNat = z at h1
  rcases Nat.lt_or_eq_of_le h1 with h2 | h2
  · exact Or.inl (congrArg some (by rw [Int.compare_eq_gt]; omega))
  · rw [← h2]
    exact Or.inr (congrArg some (by rw [Int.compare_eq_eq]))
theorem fz_cmp_lo {c : Nat} {q r : Int} {a : UInt32} (h : NF c q) (ha : FP.Core.val32 a = .fin false (2 ^ 23) r) (hq : q < r) : FP.fcmp (pf c q) a = some .lt := by
  have e : FP.fcmp (pf c q) a = FP.Core.order (FP.Core.val32 (pf c q)) (FP.Core.val32 a) := rfl
  rw [e, h.val, ha]
  have em : min q r = q := by omega
  have g : FP.Core.order (FP.Core.Datum.fin false c q) (FP.Core.Datum.fin false (2 ^ 23) r) = some (compare ((FP.Core.inUnits c q (min q r) : Nat) : Int) ((FP.Core.inUnits (2 ^ 23) r (min q r) : Nat) : Int)) := rfl
  have h1 : 2 ^ 23 * 2 ≤ 2 ^ 23 * 2 ^ (r - q).toNat := Nat.mul_le_mul_left _ (by
    have : 2 ^ 1 ≤ 2 ^ (r - q).toNat := Nat.pow_le_pow_right (by decide) (by omega)
    omega)
  have h3 := h.hi
  rw [g, em]
  unfold FP.Core.inUnits
  rw [show (q - q).toNat = 0 by omega, Nat.pow_zero, Nat.mul_one]
  generalize 2 ^ 23 * 2 ^ (r - q).toNat = z at h1
  exact congrArg some (by rw [Int.compare_eq_lt]; omega)
theorem fz_sub_units (c d : Nat) (q : Int) (h : d ≤ c) : FP.Core.exactSum (.fin false c q) (.fin true d q) = .fin false (c - d) q := by
  have eu : FP.Core.sumUnits false c q true d q (min q q) = ((c - d : Nat) : Int) := by
    rw [Int.min_self]
    unfold FP.Core.sumUnits FP.Core.signed FP.Core.inUnits
    rw [Int.sub_self, Int.toNat_zero, Nat.pow_zero, Nat.mul_one, Nat.mul_one, if_neg (by decide), if_pos rfl]
    omega
  show FP.Core.Datum.fin (FP.Core.sumSign false true (FP.Core.sumUnits false c q true d q (min q q))) (FP.Core.sumUnits false c q true d q (min q q)).natAbs (min q q) = _
  rw [eu, Int.min_self, Int.natAbs_natCast]
  have es : FP.Core.sumSign false true ((c - d : Nat) : Int) = false := by
    unfold FP.Core.sumSign
    split
    · rfl
    · exact decide_eq_false (by omega)
  rw [es]
theorem fz_pf_frac {c : Nat} (h : NF c (-23)) : FP.f2i (FP.fmul (FP.fsub (pf c (-23)) FP.fconst1) 1258291200) = nI (c - 2 ^ 23) := by
  have hv : FP.Core.val32 (FP.Core.fsub (pf c (-23)) FP.Core.fconst1) = FP.Core.round FP.Core.b32 (FP.Core.exactSum (FP.Core.val32 (pf c (-23))) (FP.Core.negate (FP.Core.val32 FP.Core.fconst1))) := FP.Core.val32_fsub _ _
  rw [h.val, fz_v1] at hv
  have hlo := h.lo
  have hhi := h.hi
  have es : FP.Core.exactSum (.fin false c (-23)) (FP.Core.negate (.fin false (2 ^ 23) (-23))) = .fin false (c - 2 ^ 23) (-23) := fz_sub_units c (2 ^ 23) (-23) hlo
  rw [es] at hv
  generalize ht : c - 2 ^ 23 = t at hv
  have hw : FP.Core.Whole (t : Int) (FP.Core.exactProduct (FP.Core.val32 (FP.Core.fsub (pf c (-23)) FP.Core.fconst1)) (FP.Core.val32 (1258291200 : UInt32))) := by
    rw [hv, fz_vC]
    by_cases h0 : t = 0
    · subst h0
      show FP.Core.Whole _ (.fin (false != false) (0 * 2 ^ 23) (-149 + 0))
      unfold FP.Core.Whole FP.Core.signed
      simp
    · have l1 : 2 ^ t.log2 ≤ t := Nat.log2_self_le h0
      have l2 : t < 2 ^ (t.log2 + 1) := Nat.lt_log2_self
      have l3 : t.log2 < 23 := (Nat.pow_lt_pow_iff_right (by decide : 1 < 2)).mp (Nat.lt_of_le_of_lt l1 (by omega))
      generalize t.log2 = L at l1 l2 l3
      have p1 : 2 ^ L * 2 ^ (23 - L) = 2 ^ 23 := by rw [← Nat.pow_add, show L + (23 - L) = 23 by omega]
      have p2 : 2 ^ (L + 1) * 2 ^ (23 - L) = 2 ^ 24 := by rw [← Nat.pow_add, show L + 1 + (23 - L) = 24 by omega]
      have hn : NF (t * 2 ^ (23 - L)) (L - 46) := by
        refine ⟨?_, ?_, by omega, by omega⟩
        · rw [← p1]
          exact Nat.mul_le_mul_right _ l1
        · rw [← p2]
          exact Nat.mul_lt_mul_of_pos_right l2 (Nat.two_pow_pos _)
      have hr : FP.Core.round FP.Core.b32 (.fin false t (-23)) = .fin false (t * 2 ^ (23 - L)) (L - 46) := by
        refine FP.Core.roundRatio_exact FP.Core.good_b32 (by decide) hn.fits ?_
        rw [show (-23 - ((L : Int) - 46)).toNat = 23 - L by omega, show ((L : Int) - 46 - -23).toNat = 0 by omega, Nat.pow_zero, Nat.mul_one, Nat.mul_one]
      rw [hr]
      show FP.Core.Whole _ (.fin (false != false) (t * 2 ^ (23 - L) * 2 ^ 23) ((L : Int) - 46 + 0))
      show ((t * 2 ^ (23 - L) * 2 ^ 23 * 2 ^ ((L : Int) - 46 + 0).toNat : Nat) : Int) = (t : Int) * ((2 ^ (-((L : Int) - 46 + 0)).toNat : Nat) : Int)
      rw [show ((L : Int) - 46 + 0).toNat = 0 by omega, show (-((L : Int) - 46 + 0)).toNat = (23 - L) + 23 by omega, Nat.pow_zero, Nat.mul_one, Nat.pow_add, ← Int.natCast_mul, Nat.mul_assoc]
  have hf : FP.Core.FInt (t : Int) (FP.Core.fmul (FP.Core.fsub (pf c (-23)) FP.Core.fconst1) 1258291200) := by
    unfold FP.Core.FInt
    rw [FP.Core.val32_fmul]
    exact FP.Core.whole_round FP.Core.good_b32 FP.Core.wide_b32 (by show (t : Int).natAbs ≤ 2 ^ 24; omega) hw
  have hti : (nI t).toInt = (t : Int) := nI_toInt (by omega)
  exact FP.Core.f2i_int (a := nI t) (by rw [hti]; exact hf)
theorem fz_n32_of {x : UInt32} (h : FP.Core.val32 x ≠ .nan) : vf_n32 x := by
  unfold vf_n32
  rw [UInt32.le_iff_toNat_le, UInt32.toNat_and]
  rw [show (2147483647 : UInt32).toNat = 2 ^ 31 - 1 from rfl, Nat.and_two_pow_sub_one_eq_mod, show (2139095040 : UInt32).toNat = 2139095040 from rfl]
  apply Nat.le_of_not_lt
  intro hl
  apply h
  have e1 : FP.Core.fieldE FP.Core.b32 x.toNat = 255 := by
    show x.toNat / 2 ^ 23 % 2 ^ 8 = 255
    omega
  have e2 : FP.Core.fieldT FP.Core.b32 x.toNat ≠ 0 := by
    show x.toNat % 2 ^ 23 ≠ 0
    omega
  show FP.Core.decode FP.Core.b32 x.toNat = _
  unfold FP.Core.decode
  rw [e1, if_pos (by rfl), if_neg e2]
theorem fz_pf_bits {c : Nat} {q : Int} (h : NF c q) : (pf c q).toInt32 = nI ((q + 150).toNat * 2 ^ 23 + (c - 2 ^ 23)) := by
  have hlo := h.lo
  have hhi := h.hi
  have hql := h.ql
  have hqh := h.qh
  have e : FP.Core.encode FP.Core.b32 (.fin false c q) = (q + 150).toNat * 2 ^ 23 + (c - 2 ^ 23) := by
    show (if c < 2 ^ 23 then _ else FP.Core.assemble FP.Core.b32 false ((q - -149).toNat + 1) (c - 2 ^ 23)) = _
    rw [if_neg (by omega)]
    show (0 * 2 ^ 8 + ((q - -149).toNat + 1)) * 2 ^ 23 + (c - 2 ^ 23) = _
    omega
  show (UInt32.ofNat (FP.Core.encode FP.Core.b32 (.fin false c q))).toInt32 = _
  rw [e]
  exact UInt32.toInt32_ofNat'
theorem fz_nrm {a : UInt32} (h1 : 127 * 2 ^ 23 ≤ a.toNat % 2 ^ 31) (h2 : a.toNat % 2 ^ 31 < 192 * 2 ^ 23) : ∃ c q, FP.Core.val32 a = .fin (FP.Core.fieldS FP.Core.b32 a.toNat) c q ∧ 2 ^ 23 ≤ c ∧ c < 2 ^ 24 ∧ -23 ≤ q ∧ q ≤ 41 := by
  have eE : FP.Core.fieldE FP.Core.b32 a.toNat = a.toNat / 2 ^ 23 % 2 ^ 8 := rfl
  have eT : FP.Core.fieldT FP.Core.b32 a.toNat = a.toNat % 2 ^ 23 := rfl
  have g1 : 127 ≤ a.toNat / 2 ^ 23 % 2 ^ 8 := by omega
  have g2 : a.toNat / 2 ^ 23 % 2 ^ 8 < 192 := by omega
  have g3 : a.toNat % 2 ^ 23 < 2 ^ 23 := Nat.mod_lt _ (by decide)
  refine ⟨2 ^ 23 + a.toNat % 2 ^ 23, -149 + (((a.toNat / 2 ^ 23 % 2 ^ 8 : Nat) : Int) - 1), ?_, by omega, by omega, by omega, by omega⟩
  show FP.Core.decode FP.Core.b32 a.toNat = _
  unfold FP.Core.decode
  rw [eE, eT, if_neg (by show ¬ _ = 255; omega), if_neg (by omega)]
  rfl
theorem fz_i2f_nrm {n : Int32} (hn : 0 < n.toInt) : ∃ c q, FP.Core.val32 (FP.Core.i2f n) = .fin false c q ∧ 2 ^ 23 ≤ c ∧ c < 2 ^ 24 ∧ -23 ≤ q ∧ q ≤ 41 := by
  have h1 := FP.Core.fromInt_ge32 (FP.Core.toNat_i2f n) (by omega)
  have h2 := FP.Core.i2f_mag n
  obtain ⟨c, q, e, h⟩ := fz_nrm (a := FP.Core.i2f n) (by omega) (by omega)
  have hs := FP.Core.sgn_roundRatio FP.Core.b32 (decide (n.toInt < 0)) n.toInt.natAbs 1 0
  have hv : FP.Core.val32 (FP.Core.i2f n) = FP.Core.roundRatio FP.Core.b32 (decide (n.toInt < 0)) n.toInt.natAbs 1 0 := FP.Core.val32_i2f n
  rw [← hv, e] at hs
  have hs2 : FP.Core.fieldS FP.Core.b32 (FP.Core.i2f n).toNat = false := hs.trans (decide_eq_false (by omega))
  rw [hs2] at e
  exact ⟨c, q, e, h⟩
theorem fz_l2f_nrm {n : Int64} (hn : 0 < n.toInt) : ∃ c q, FP.Core.val32 (FP.Core.l2f n) = .fin false c q ∧ 2 ^ 23 ≤ c ∧ c < 2 ^ 24 ∧ -23 ≤ q ∧ q ≤ 41 := by
  have h1 := FP.Core.fromInt_ge32 (FP.Core.toNat_l2f n) (by omega)
  have h2 := FP.Core.l2f_mag n
  obtain ⟨c, q, e, h⟩ := fz_nrm (a := FP.Core.l2f n) (by omega) (by omega)
  have hs := FP.Core.sgn_roundRatio FP.Core.b32 (decide (n.toInt < 0)) n.toInt.natAbs 1 0
  have hv : FP.Core.val32 (FP.Core.l2f n) = FP.Core.roundRatio FP.Core.b32 (decide (n.toInt < 0)) n.toInt.natAbs 1 0 := FP.Core.val32_l2f n
  rw [← hv, e] at hs
  have hs2 : FP.Core.fieldS FP.Core.b32 (FP.Core.l2f n).toNat = false := hs.trans (decide_eq_false (by omega))
  rw [hs2] at e
  exact ⟨c, q, e, h⟩
theorem fz_mean_pf {S : Int64} {n : Int32} (hS : 0 < S.toInt) (hn : 0 < n.toInt) : ∃ c q, NF c q ∧ FP.fdiv (FP.l2f S) (FP.i2f n) = pf c q := by
  obtain ⟨c, q, ea, a1, a2, a3, a4⟩ := fz_l2f_nrm hS
  obtain ⟨d, r, eb, b1, b2, b3, b4⟩ := fz_i2f_nrm hn
  have hq : FP.Core.val32 (FP.Core.fdiv (FP.Core.l2f S) (FP.Core.i2f n)) = FP.Core.roundRatio FP.Core.b32 (false != false) c d (q - r) := by
    rw [FP.Core.val32_fdiv, ea, eb]
    show (if d = 0 then _ else _) = _
    rw [if_neg (by omega)]
  have hfit := FP.Core.val32_fits (FP.Core.fdiv (FP.Core.l2f S) (FP.Core.i2f n))
  have hge := FP.Core.zmag_roundRatio_ge FP.Core.good_b32 (s := (false != false)) (A := c) (B := d) (e := q - r) (e0 := -149) (V := .fin false (2 ^ 23) (-149)) (by omega) ⟨by decide, by decide, by decide, Or.inl rfl⟩ (by decide) (by omega) (by
    show 2 ^ 23 * 2 ^ 0 * 2 ^ 0 * d ≤ c * 2 ^ (q - r - -149).toNat
    have p : 2 ^ 24 ≤ 2 ^ (q - r - -149).toNat := Nat.pow_le_pow_right (by decide) (by omega)
    generalize 2 ^ (q - r - -149).toNat = P at p
    calc 2 ^ 23 * 2 ^ 0 * 2 ^ 0 * d ≤ 2 ^ 23 * 2 ^ 24 := by omega
      _ ≤ c * P := Nat.mul_le_mul a1 p)
  rw [← hq] at hge
  have hmg := FP.Core.fdiv_mag (a := FP.Core.l2f S) (b := FP.Core.i2f n) (K := 192) (L := 127) (FP.Core.l2f_mag S) (FP.Core.fromInt_ge32 (FP.Core.toNat_i2f n) (by omega)) (by have := FP.Core.i2f_mag n; omega) (by decide) (by decide)
  obtain ⟨s, c', q', e'⟩ := FP.Core.fin_of_lt32 hmg (by decide)
  have hs := FP.Core.sgn_roundRatio FP.Core.b32 (false != false) c d (q - r)
  rw [← hq, e'] at hs
  have hs2 : s = false := hs
  subst hs2
  rw [e'] at hfit hge
  obtain ⟨f1, f2, f3, f4⟩ := hfit
  have hlo : 2 ^ 23 ≤ c' := by
    rcases f4 with f4 | f4
    · rw [f4] at hge
      have hge2 : 2 ^ 23 * 2 ^ 0 ≤ c' * 2 ^ 0 := hge
      omega
    · exact f4
  have hn : NF c' q' := ⟨hlo, f1, f2, f3⟩
  exact ⟨c', q', hn, fz_pf_inj hn e'⟩
theorem fz_mean_zero {n : Int32} (hn : 0 < n.toInt) : FP.fdiv (FP.l2f 0) (FP.i2f n) = 0 := by
  obtain ⟨d, r, eb, b1, b2, b3, b4⟩ := fz_i2f_nrm hn
  have ez : FP.Core.val32 (FP.Core.l2f 0) = .fin false 0 (-149) := by decide +kernel
  have hq : FP.Core.val32 (FP.Core.fdiv (FP.Core.l2f 0) (FP.Core.i2f n)) = .fin false 0 (-149) := by
    rw [FP.Core.val32_fdiv, ez, eb]
    show (if d = 0 then _ else FP.Core.roundRatio FP.Core.b32 (false != false) 0 d (-149 - r)) = _
    rw [if_neg (by omega)]
    rfl
  have e0 : FP.Core.val32 (0 : UInt32) = .fin false 0 (-149) := by decide +kernel
  exact FP.Core.val32_inj (by rw [hq]; exact fun z => by cases z) (hq.trans e0.symm)
theorem fz_mean {S : Int64} {n : Int32} (hS : 0 ≤ S.toInt) (hn : 0 < n.toInt) : FP.fdiv (FP.l2f S) (FP.i2f n) = 0 ∨ ∃ c q, NF c q ∧ FP.fdiv (FP.l2f S) (FP.i2f n) = pf c q := by
  by_cases h0 : S.toInt = 0
  · have e : S = 0 := Int64.toInt_inj.mp h0
    subst e
    exact Or.inl (fz_mean_zero hn)
  · exact Or.inr (fz_mean_pf (by omega) hn)
theorem fz_nn {c : Nat} {q : Int} (h : NF c q) : FP.Core.val32 (pf c q) ≠ .nan := by
  rw [h.val]
  exact fun z => by cases z
theorem fz_n32 {S : Int64} {n : Int32} (hS : 0 ≤ S.toInt) (hn : 0 < n.toInt) : vf_n32 (FP.fdiv (FP.l2f S) (FP.i2f n)) := by
  rcases fz_mean hS hn with e | ⟨c, q, h, e⟩
  · rw [e]
    unfold vf_n32
    decide +kernel
  · rw [e]
    exact fz_n32_of (fz_nn h)
theorem fz_self {S : Int64} {n : Int32} (hS : 0 ≤ S.toInt) (hn : 0 < n.toInt) : FP.fcmp (FP.fdiv (FP.l2f S) (FP.i2f n)) (FP.fdiv (FP.l2f S) (FP.i2f n)) = some .eq := by
  rcases fz_mean hS hn with e | ⟨c, q, h, e⟩
  · rw [e]
    decide +kernel
  · rw [e]
    exact FP.Core.fcmp_self (fz_nn h)
theorem fz_gt0 {c : Nat} {q : Int} (h : NF c q) : (0 : Int32) < Op.cmpValue (FP.fcmp (pf c q) FP.fconst0) CmpOp.g := by
  have e : FP.fcmp (pf c q) FP.fconst0 = FP.Core.order (FP.Core.val32 (pf c q)) (FP.Core.val32 FP.Core.fconst0) := rfl
  have em : min q (-149) = -149 := by have := h.ql; omega
  have g : FP.Core.order (FP.Core.Datum.fin false c q) (FP.Core.Datum.fin false 0 (-149)) = some (compare ((FP.Core.inUnits c q (min q (-149)) : Nat) : Int) ((FP.Core.inUnits 0 (-149) (min q (-149)) : Nat) : Int)) := rfl
  have h1 : 0 < c * 2 ^ (q - -149).toNat := Nat.mul_pos (by have := h.lo; omega) (Nat.two_pow_pos _)
  rw [e, h.val, fz_v0, g, em]
  unfold FP.Core.inUnits
  rw [Nat.zero_mul]
  generalize c * 2 ^ (q - -149).toNat = z at h1
  rw [show compare ((z : Nat) : Int) ((0 : Nat) : Int) = .gt by rw [Int.compare_eq_gt]; omega]
  decide
theorem fz_ge2 {c : Nat} {q : Int} (h : NF c q) (hq : -22 ≤ q) : ¬ Op.cmpValue (FP.fcmp (pf c q) FP.fconst2) CmpOp.l < 0 := by
  rcases fz_cmp_hi h fz_v2 hq with e | e <;> rw [show FP.fcmp (pf c q) FP.fconst2 = _ from e] <;> decide
theorem fz_lt2 {c : Nat} {q : Int} (h : NF c q) (hq : q < -22) : Op.cmpValue (FP.fcmp (pf c q) FP.fconst2) CmpOp.l < 0 := by
  rw [show FP.fcmp (pf c q) FP.fconst2 = _ from fz_cmp_lo h fz_v2 hq]
  decide
theorem fz_ge1 {c : Nat} {q : Int} (h : NF c q) (hq : -23 ≤ q) : 0 ≤ Op.cmpValue (FP.fcmp (pf c q) FP.fconst1) CmpOp.g := by
  rcases fz_cmp_hi h fz_v1 hq with e | e <;> rw [show FP.fcmp (pf c q) FP.fconst1 = _ from e] <;> decide
theorem fz_lt1 {c : Nat} {q : Int} (h : NF c q) (hq : q < -23) : ¬ 0 ≤ Op.cmpValue (FP.fcmp (pf c q) FP.fconst1) CmpOp.g := by
  rw [show FP.fcmp (pf c q) FP.fconst1 = _ from fz_cmp_lo h fz_v1 hq]
  decide
theorem fz_dn {c : Nat} {q : Int} (h : NF c q) : vf_n32 (pf c q) := fz_n32_of (fz_nn h)
theorem fz_sub {c : Nat} (h : NF c (-23)) : vf_n32 (FP.fsub (pf c (-23)) FP.fconst1) := by
  refine fz_n32_of ?_
  have hv : FP.Core.val32 (FP.fsub (pf c (-23)) FP.fconst1) = FP.Core.round FP.Core.b32 (FP.Core.exactSum (FP.Core.val32 (pf c (-23))) (FP.Core.negate (FP.Core.val32 FP.Core.fconst1))) := FP.Core.val32_fsub _ _
  rw [hv, h.val, fz_v1, show FP.Core.exactSum (.fin false c (-23)) (FP.Core.negate (.fin false (2 ^ 23) (-23))) = .fin false (c - 2 ^ 23) (-23) from fz_sub_units c (2 ^ 23) (-23) h.lo]
  exact FP.Core.roundRatio_ne_nan _ _ _ _ _
theorem fz_sm {c : Nat} (h : NF c (-23)) : vf_n32 (FP.fmul (FP.fsub (pf c (-23)) FP.fconst1) 1258291200) := by
  refine fz_n32_of ?_
  have hv : FP.Core.val32 (FP.fsub (pf c (-23)) FP.fconst1) = FP.Core.round FP.Core.b32 (FP.Core.exactSum (FP.Core.val32 (pf c (-23))) (FP.Core.negate (FP.Core.val32 FP.Core.fconst1))) := FP.Core.val32_fsub _ _
  have hm : FP.Core.val32 (FP.fmul (FP.fsub (pf c (-23)) FP.fconst1) 1258291200) = FP.Core.round FP.Core.b32 (FP.Core.exactProduct (FP.Core.val32 (FP.fsub (pf c (-23)) FP.fconst1)) (FP.Core.val32 1258291200)) := FP.Core.val32_fmul _ _
  rw [hm, hv, h.val, fz_v1, show FP.Core.exactSum (.fin false c (-23)) (FP.Core.negate (.fin false (2 ^ 23) (-23))) = .fin false (c - 2 ^ 23) (-23) from fz_sub_units c (2 ^ 23) (-23) h.lo, fz_vC]
  intro hz
  have hz2 := FP.Core.round_nan.mp hz
  rcases FP.Core.roundRatio_cases FP.Core.b32 false (c - 2 ^ 23) 1 (-23) with ⟨c', q', hr⟩ | hr
  · rw [show FP.Core.round FP.Core.b32 (.fin false (c - 2 ^ 23) (-23)) = _ from hr] at hz2
    cases hz2
  · rw [show FP.Core.round FP.Core.b32 (.fin false (c - 2 ^ 23) (-23)) = _ from hr] at hz2
    have hz3 : (if 2 ^ 23 = 0 then FP.Core.Datum.nan else FP.Core.Datum.inf (false != false)) = .nan := hz2
    rw [if_neg (by decide)] at hz3
    cases hz3
def mB (su : Int64) (sa : Int32) : Int32 := (FP.fdiv (FP.l2f su) (FP.i2f sa)).toInt32
def rMet (u : QV) (w : Int32) : Int32 := if w = 0 then vSa (qNow u) else if w = 1 then vGr (qNow u) else if w = 2 then vHo (qNow u) else if w = 3 then vHw (qNow u) else if w = 4 then (if vSa (qNow u) = 0 then -1000004 else mB (vSu (qNow u)) (vSa (qNow u))) else -1000001
def mMet (s : Nat → Int32) (su : Nat → Int64) (w : Int32) : Int32 := if w = 0 then s 81 else if w = 1 then s 82 else if w = 2 then s 83 else if w = 3 then s 84 else if w = 4 then (if s 81 = 0 then -1000004 else mB (su 0) (s 81)) else -1000001
set_option maxRecDepth 100000 in
set_option maxHeartbeats 4000000 in
theorem c_X2_bitsOf_0 (E : XE) (N : Nat) (G : GW) : MF E yX2_bitsOf cX2_bitsOf 4 (some .int) 0 0 0 0 [.float 0] N (G) (some (.int 0)) (G) := by
  refine MF.mk RX2 rfl (by decide +kernel) rfl (fun K C Z hin hN => ?_)
  show XW E K 4 N 0 0 _ 0 [(0, .float 0)] []
  refine x_fload_n C dX2_bitsOf_0 0 rfl ?_
  refine x_fconst0 C dX2_bitsOf_1 ?_
  refine x_fcmp C dX2_bitsOf_2 ?_
  refine x_if_gt C 8 dX2_bitsOf_3 rfl (fun c => absurd c (show ¬ (0 : Int32) < Op.cmpValue (FP.fcmp 0 FP.fconst0) CmpOp.g by decide +kernel)) (fun _ => ?_)
  refine x_iconst C 0 dX2_bitsOf_6 rfl ?_
  exact x_iret C Z rfl rfl rfl rfl dX2_bitsOf_7

set_option maxRecDepth 100000 in
set_option maxHeartbeats 4000000 in
theorem c_X2_bitsOf (E : XE) (N : Nat) (G : GW) (cm : Nat) (q : Int) (hn : NF cm q) : MF E yX2_bitsOf cX2_bitsOf 4 (some .int) 0 0 0 0 [.float (pf cm q)] N (G) (some (.int ((pf cm q).toInt32))) (G) := by
  refine MF.mk RX2 rfl (by decide +kernel) rfl (fun K C Z hin hN => ?_)
  show XW E K 4 N 0 0 _ 0 [(0, .float (pf cm q))] []
  refine x_fload_n C dX2_bitsOf_0 0 rfl ?_
  refine x_fconst0 C dX2_bitsOf_1 ?_
  refine x_fcmp C dX2_bitsOf_2 ?_
  refine x_if_gt C 8 dX2_bitsOf_3 rfl (fun _ => ?_) (fun c => absurd c (not_not_intro (fz_gt0 hn)))
  refine x_fload_n C dX2_bitsOf_8 0 rfl ?_
  refine x_fstore_n (L' := [(1, .float (pf cm q)), (0, .float (pf cm q))]) C dX2_bitsOf_9 rfl rfl ?_
  refine x_bipush C 127 dX2_bitsOf_10 rfl ?_
  refine x_istore_n (L' := [(2, .int 127), (1, .float (pf cm q)), (0, .float (pf cm q))]) C dX2_bitsOf_12 rfl rfl ?_
  refine x_iconst C 0 dX2_bitsOf_13 rfl ?_
  refine x_istore_n (L' := [(3, .int 0), (2, .int 127), (1, .float (pf cm q)), (0, .float (pf cm q))]) C dX2_bitsOf_14 rfl rfl ?_
  refine x_perm (L' := [(0, .float (pf cm q)), (1, .float (pf cm q)), (2, .int 127), (3, .int 0)]) [3, 2, 1, 0] rfl ?_
  have lp15 : ∀ (d i : Nat), i + d = (q + 23).toNat → XW E K 4 N 0 0 (G) 15 [(0, .float (pf cm q)), (1, .float (pf cm (q - ((i : Nat) : Int)))), (2, .int (nI (127 + i))), (3, .int (nI i))] [] := by
    intro d
    induction d with
    | zero =>
      intro i hd
      have hi : i = (q + 23).toNat := by omega
      refine x_iload_n C dX2_bitsOf_15 3 rfl ?_
      refine x_sipush C 200 dX2_bitsOf_16 rfl ?_
      refine x_icmp_ge C 41 dX2_bitsOf_19 rfl (fun c => absurd c (nI_ge (b := 200) (by have := hn.qh; have := hn.ql; omega) (by omega))) (fun _ => ?_)
      refine x_fload_n C dX2_bitsOf_22 1 rfl ?_
      refine x_fconst2 C dX2_bitsOf_23 ?_
      refine x_fcmp C dX2_bitsOf_24 ?_
      refine x_if_lt C 41 dX2_bitsOf_25 rfl (fun _ => ?_) (fun c => absurd c (not_not_intro (fz_lt2 (c := cm) ⟨hn.lo, hn.hi, by have := hn.ql; have := hn.qh; omega, by have := hn.ql; have := hn.qh; omega⟩ (by omega))))
      refine x_iconst C 0 dX2_bitsOf_41 rfl ?_
      refine x_istore_n (L' := [(3, .int 0), (0, .float (pf cm q)), (1, .float (pf cm (q - ((i : Nat) : Int)))), (2, .int (nI (127 + i)))]) C dX2_bitsOf_42 rfl rfl ?_
      refine x_perm (L' := [(0, .float (pf cm q)), (1, .float (pf cm (q - ((i : Nat) : Int)))), (2, .int (nI (127 + i))), (3, .int 0)]) [1, 2, 3, 0] rfl ?_
      have lp43 : ∀ (d i : Nat), i + d = (-23 - q).toNat → XW E K 4 N 0 0 (G) 43 [(0, .float (pf cm q)), (1, .float (pf cm (q - (((q + 23).toNat : Nat) : Int) + ((i : Nat) : Int)))), (2, .int (nI (127 + (q + 23).toNat - i))), (3, .int (nI i))] [] := by
        intro d
        induction d with
        | zero =>
          intro i hd
          have hi : i = (-23 - q).toNat := by omega
          refine x_iload_n C dX2_bitsOf_43 3 rfl ?_
          refine x_sipush C 200 dX2_bitsOf_44 rfl ?_
          refine x_icmp_ge C 69 dX2_bitsOf_47 rfl (fun c => absurd c (nI_ge (b := 200) (by have := hn.qh; have := hn.ql; omega) (by omega))) (fun _ => ?_)
          refine x_fload_n C dX2_bitsOf_50 1 rfl ?_
          refine x_fconst1 C dX2_bitsOf_51 ?_
          refine x_fcmp C dX2_bitsOf_52 ?_
          refine x_if_ge C 69 dX2_bitsOf_53 rfl (fun _ => ?_) (fun c => absurd c (not_not_intro (fz_ge1 (c := cm) ⟨hn.lo, hn.hi, by have := hn.ql; have := hn.qh; omega, by have := hn.ql; have := hn.qh; omega⟩ (by omega))))
          have q9e : q - (((q + 23).toNat : Nat) : Int) + ((i : Nat) : Int) = -23 := by omega
          refine x_fload_n C dX2_bitsOf_69 1 rfl ?_
          refine x_fconst1 C dX2_bitsOf_70 ?_
          refine x_fsub C dX2_bitsOf_71 (by rw [q9e]; exact fz_sub (c := cm) ⟨hn.lo, hn.hi, by have := hn.ql; have := hn.qh; omega, by have := hn.ql; have := hn.qh; omega⟩) ?_
          refine x_ldcf C 1258291200 m_358 dX2_bitsOf_72 ?_
          refine x_fmul C dX2_bitsOf_74 (by rw [q9e]; exact fz_sm (c := cm) ⟨hn.lo, hn.hi, by have := hn.ql; have := hn.qh; omega, by have := hn.ql; have := hn.qh; omega⟩) ?_
          refine x_f2i C dX2_bitsOf_75 ?_
          refine x_v (w := .int (nI (cm - 2 ^ 23))) (by rw [q9e]; exact congrArg Value.int (fz_pf_frac (c := cm) ⟨hn.lo, hn.hi, by have := hn.ql; have := hn.qh; omega, by have := hn.ql; have := hn.qh; omega⟩)) ?_
          refine x_istore_n (L' := [(3, .int (nI (cm - 2 ^ 23))), (0, .float (pf cm q)), (1, .float (pf cm (q - (((q + 23).toNat : Nat) : Int) + ((i : Nat) : Int)))), (2, .int (nI (127 + (q + 23).toNat - i)))]) C dX2_bitsOf_76 rfl rfl ?_
          refine x_iload_n C dX2_bitsOf_77 3 rfl ?_
          refine x_ldc C 8388608 m_359 dX2_bitsOf_78 ?_
          refine x_imul C dX2_bitsOf_80 ?_
          refine x_v (w := .int (nI ((127 + (q + 23).toNat - i) * 8388608))) (congrArg Value.int (natMul (a := 127 + (q + 23).toNat - i) (b := 8388608) (by omega))) ?_
          refine x_iload_n C dX2_bitsOf_81 0 rfl ?_
          refine x_iadd C dX2_bitsOf_82 ?_
          refine x_v (w := .int (nI (((127 + (q + 23).toNat - i) * 8388608) + (cm - 2 ^ 23)))) (congrArg Value.int (natAdd (a := (127 + (q + 23).toNat - i) * 8388608) (b := cm - 2 ^ 23) (by omega))) ?_
          exact x_iret C Z rfl rfl (by rw [fz_pf_bits hn, show (q + 150).toNat * 2 ^ 23 + (cm - 2 ^ 23) = (127 + (q + 23).toNat - i) * 8388608 + (cm - 2 ^ 23) by have := hn.ql; omega]) rfl dX2_bitsOf_83
        | succ d ih =>
          intro i hd
          have hi : i < (-23 - q).toNat := by omega
          refine x_iload_n C dX2_bitsOf_43 3 rfl ?_
          refine x_sipush C 200 dX2_bitsOf_44 rfl ?_
          refine x_icmp_ge C 69 dX2_bitsOf_47 rfl (fun c => absurd c (nI_ge (b := 200) (by have := hn.qh; have := hn.ql; omega) (by omega))) (fun _ => ?_)
          refine x_fload_n C dX2_bitsOf_50 1 rfl ?_
          refine x_fconst1 C dX2_bitsOf_51 ?_
          refine x_fcmp C dX2_bitsOf_52 ?_
          refine x_if_ge C 69 dX2_bitsOf_53 rfl (fun c => absurd c (fz_lt1 (c := cm) ⟨hn.lo, hn.hi, by have := hn.ql; have := hn.qh; omega, by have := hn.ql; have := hn.qh; omega⟩ (by omega))) (fun _ => ?_)
          refine x_fload_n C dX2_bitsOf_56 1 rfl ?_
          refine x_fconst2 C dX2_bitsOf_57 ?_
          refine x_fmul C dX2_bitsOf_58 (by rw [fz_pf_mul (c := cm) (q := q - (((q + 23).toNat : Nat) : Int) + ((i : Nat) : Int)) ⟨hn.lo, hn.hi, by have := hn.ql; have := hn.qh; omega, by have := hn.ql; have := hn.qh; omega⟩ (by have := hn.ql; omega)]; exact fz_dn (c := cm) ⟨hn.lo, hn.hi, by have := hn.ql; have := hn.qh; omega, by have := hn.ql; have := hn.qh; omega⟩) ?_
          refine x_fstore_n (L' := [(1, .float (FP.fmul (pf cm (q - (((q + 23).toNat : Nat) : Int) + ((i : Nat) : Int))) FP.fconst2)), (0, .float (pf cm q)), (2, .int (nI (127 + (q + 23).toNat - i))), (3, .int (nI i))]) C dX2_bitsOf_59 rfl rfl ?_
          refine x_iinc (L' := [(2, .int ((nI (127 + (q + 23).toNat - i)) + (-1))), (1, .float (FP.fmul (pf cm (q - (((q + 23).toNat : Nat) : Int) + ((i : Nat) : Int))) FP.fconst2)), (0, .float (pf cm q)), (3, .int (nI i))]) C ((nI (127 + (q + 23).toNat - i)) + (-1)) dX2_bitsOf_60 2 rfl rfl rfl rfl ?_
          refine x_iinc (L' := [(3, .int ((nI i) + 1)), (2, .int ((nI (127 + (q + 23).toNat - i)) + (-1))), (1, .float (FP.fmul (pf cm (q - (((q + 23).toNat : Nat) : Int) + ((i : Nat) : Int))) FP.fconst2)), (0, .float (pf cm q))]) C ((nI i) + 1) dX2_bitsOf_63 3 rfl rfl rfl rfl ?_
          refine x_goto C 43 dX2_bitsOf_66 rfl ?_
          refine x_perm (L' := [(0, .float (pf cm q)), (1, .float (FP.fmul (pf cm (q - (((q + 23).toNat : Nat) : Int) + ((i : Nat) : Int))) FP.fconst2)), (2, .int ((nI (127 + (q + 23).toNat - i)) + (-1))), (3, .int ((nI i) + 1))]) [3, 2, 1, 0] rfl ?_
          refine x_to (L' := [(0, .float (pf cm q)), (1, .float (pf cm (q - (((q + 23).toNat : Nat) : Int) + (((i + 1) : Nat) : Int)))), (2, .int (nI (127 + (q + 23).toNat - (i + 1)))), (3, .int (nI (i + 1)))]) (G' := G) (by rw [fz_pf_mul (c := cm) (q := q - (((q + 23).toNat : Nat) : Int) + ((i : Nat) : Int)) ⟨hn.lo, hn.hi, by have := hn.ql; have := hn.qh; omega, by have := hn.ql; have := hn.qh; omega⟩ (by have := hn.ql; omega), show q - (((q + 23).toNat : Nat) : Int) + ((i : Nat) : Int) + 1 = q - (((q + 23).toNat : Nat) : Int) + ((i + 1 : Nat) : Int) by omega, show 127 + (q + 23).toNat - i = (127 + (q + 23).toNat - (i + 1)) + 1 by have := hn.ql; omega, pk_m1]; simp only [nI_succ]) rfl rfl ?_
          exact ih (i + 1) (by omega)
      refine x_to (L' := [(0, .float (pf cm q)), (1, .float (pf cm (q - (((q + 23).toNat : Nat) : Int) + ((0 : Nat) : Int)))), (2, .int (nI (127 + (q + 23).toNat - 0))), (3, .int (nI 0))]) (G' := G) (by rw [hi, show q - (((q + 23).toNat : Nat) : Int) + ((0 : Nat) : Int) = q - (((q + 23).toNat : Nat) : Int) by omega]; first | done | rfl) rfl rfl ?_
      exact lp43 _ 0 (Nat.add_sub_cancel' (by omega))
    | succ d ih =>
      intro i hd
      have hi : i < (q + 23).toNat := by omega
      refine x_iload_n C dX2_bitsOf_15 3 rfl ?_
      refine x_sipush C 200 dX2_bitsOf_16 rfl ?_
      refine x_icmp_ge C 41 dX2_bitsOf_19 rfl (fun c => absurd c (nI_ge (b := 200) (by have := hn.qh; have := hn.ql; omega) (by omega))) (fun _ => ?_)
      refine x_fload_n C dX2_bitsOf_22 1 rfl ?_
      refine x_fconst2 C dX2_bitsOf_23 ?_
      refine x_fcmp C dX2_bitsOf_24 ?_
      refine x_if_lt C 41 dX2_bitsOf_25 rfl (fun c => absurd c (fz_ge2 (c := cm) ⟨hn.lo, hn.hi, by have := hn.ql; have := hn.qh; omega, by have := hn.ql; have := hn.qh; omega⟩ (by omega))) (fun _ => ?_)
      refine x_fload_n C dX2_bitsOf_28 1 rfl ?_
      refine x_fconst2 C dX2_bitsOf_29 ?_
      refine x_fdiv C dX2_bitsOf_30 (by rw [fz_pf_div (c := cm) (q := q - ((i : Nat) : Int)) ⟨hn.lo, hn.hi, by have := hn.ql; have := hn.qh; omega, by have := hn.ql; have := hn.qh; omega⟩ (by have := hn.qh; omega)]; exact fz_dn (c := cm) ⟨hn.lo, hn.hi, by have := hn.ql; have := hn.qh; omega, by have := hn.ql; have := hn.qh; omega⟩) ?_
      refine x_fstore_n (L' := [(1, .float (FP.fdiv (pf cm (q - ((i : Nat) : Int))) FP.fconst2)), (0, .float (pf cm q)), (2, .int (nI (127 + i))), (3, .int (nI i))]) C dX2_bitsOf_31 rfl rfl ?_
      refine x_iinc (L' := [(2, .int ((nI (127 + i)) + 1)), (1, .float (FP.fdiv (pf cm (q - ((i : Nat) : Int))) FP.fconst2)), (0, .float (pf cm q)), (3, .int (nI i))]) C ((nI (127 + i)) + 1) dX2_bitsOf_32 2 rfl rfl rfl rfl ?_
      refine x_iinc (L' := [(3, .int ((nI i) + 1)), (2, .int ((nI (127 + i)) + 1)), (1, .float (FP.fdiv (pf cm (q - ((i : Nat) : Int))) FP.fconst2)), (0, .float (pf cm q))]) C ((nI i) + 1) dX2_bitsOf_35 3 rfl rfl rfl rfl ?_
      refine x_goto C 15 dX2_bitsOf_38 rfl ?_
      refine x_perm (L' := [(0, .float (pf cm q)), (1, .float (FP.fdiv (pf cm (q - ((i : Nat) : Int))) FP.fconst2)), (2, .int ((nI (127 + i)) + 1)), (3, .int ((nI i) + 1))]) [3, 2, 1, 0] rfl ?_
      refine x_to (L' := [(0, .float (pf cm q)), (1, .float (pf cm (q - (((i + 1) : Nat) : Int)))), (2, .int (nI (127 + (i + 1)))), (3, .int (nI (i + 1)))]) (G' := G) (by rw [fz_pf_div (c := cm) (q := q - ((i : Nat) : Int)) ⟨hn.lo, hn.hi, by have := hn.ql; have := hn.qh; omega, by have := hn.ql; have := hn.qh; omega⟩ (by have := hn.qh; omega), show q - ((i : Nat) : Int) - 1 = q - ((i + 1 : Nat) : Int) by omega]; simp only [nI_succ, ← Nat.add_assoc]) rfl rfl ?_
      exact ih (i + 1) (by omega)
  refine x_to (L' := [(0, .float (pf cm q)), (1, .float (pf cm (q - ((0 : Nat) : Int)))), (2, .int (nI (127 + 0))), (3, .int (nI 0))]) (G' := G) (by rw [show q - ((0 : Nat) : Int) = q by omega]; first | done | rfl) rfl rfl ?_
  exact lp15 _ 0 (Nat.add_sub_cancel' (by omega))

set_option maxRecDepth 100000 in
set_option maxHeartbeats 4000000 in
theorem c_X2_bitsOfMean (E : XE) (N b : Nat) (G : GW) (sa gr ho hw : Int32) (su : Int64) (hS : 0 ≤ su.toInt) (hn : 0 < sa.toInt) (hb_b : xB E ≤ b) (hn_b : b + 1 ≤ N) : MF E yX2_bitsOfMean cX2_bitsOfMean 1 (some .int) 1 23 0 0 [.ref b] N (ov b (metC E b sa gr ho hw su) G) (some (.int (mB su sa))) (ov b (metC E b sa gr ho hw su) G) := by
  refine MF.mk RX2 rfl (by decide +kernel) rfl (fun K C Z hin hN => ?_)
  show XW E K 1 N 0 0 _ 0 [(0, .ref b)] []
  refine x_aload_n C dX2_bitsOfMean_0 0 rfl ?_
  refine x_get C (xlo (i := 0) hb_b) (xhi (i := 0) hn_b rfl) (ov_at (i := 0) rfl) f_X2_13 rfl dX2_bitsOfMean_1 ?_
  refine x_if_gt C 9 dX2_bitsOfMean_4 rfl (fun _ => ?_) (fun c => absurd c (not_not_intro (Int32.lt_iff_toInt_lt.mpr hn)))
  refine x_aload_n C dX2_bitsOfMean_9 0 rfl ?_
  refine x_get C (xlo (i := 0) hb_b) (xhi (i := 0) hn_b rfl) (ov_at (i := 0) rfl) f_X2_19 rfl dX2_bitsOfMean_10 ?_
  refine x_l2f C dX2_bitsOfMean_13 ?_
  refine x_aload_n C dX2_bitsOfMean_14 0 rfl ?_
  refine x_get C (xlo (i := 0) hb_b) (xhi (i := 0) hn_b rfl) (ov_at (i := 0) rfl) f_X2_13 rfl dX2_bitsOfMean_15 ?_
  refine x_i2f C dX2_bitsOfMean_18 ?_
  refine x_fdiv C dX2_bitsOfMean_19 (fz_n32 hS hn) ?_
  rcases fz_mean hS hn with q9z | ⟨c, q, q9n, q9z⟩
  · refine x_v (w := .float 0) (congrArg Value.float q9z) ?_
    refine x_cS1 C (c_X2_bitsOf_0 E N _) v_X2_36 hN rfl rfl rfl rfl dX2_bitsOfMean_20 ?_
    exact x_iret C Z rfl rfl (by unfold mB; rw [q9z]; first | done | rfl) rfl dX2_bitsOfMean_23
  · refine x_v (w := .float (pf c q)) (congrArg Value.float q9z) ?_
    refine x_cS1 C (c_X2_bitsOf E N _ c q q9n) v_X2_36 hN rfl rfl rfl rfl dX2_bitsOfMean_20 ?_
    exact x_iret C Z rfl rfl (by unfold mB; rw [q9z]; first | done | rfl) rfl dX2_bitsOfMean_23

set_option maxRecDepth 100000 in
set_option maxHeartbeats 4000000 in
theorem c_X8_meter (E : XE) (N ob : Nat) (G : GW) (u : QV) (w : Int32) (hM : ¬ vSa (qNow u) = 0 → 0 ≤ (vSu (qNow u)).toInt ∧ 0 < (vSa (qNow u)).toInt) (hb_ob : xB E ≤ ob) (hn_ob : ob + 56 ≤ N) : MF E yX8_meter cX8_meter 2 (some .int) 2 43 0 0 [.ref ob, .int w] N (ov ob (xC E ob (qNow u) (qTr u) (qH0 u) (qH1 u) (qH2 u) (qH3 u) (qOl u) (qKe u) (qCh u) (qTl u) (qNu u) (qKi u) (qEn u) (qWh u) (qFt u) (qFp u) (qFr u) (qFc u)) G) (some (.int (rMet u w))) (ov ob (xC E ob (qNow u) (qTr u) (qH0 u) (qH1 u) (qH2 u) (qH3 u) (qOl u) (qKe u) (qCh u) (qTl u) (qNu u) (qKi u) (qEn u) (qWh u) (qFt u) (qFp u) (qFr u) (qFc u)) G) := by
  refine MF.mk RX8 rfl (by decide +kernel) rfl (fun K C Z hin hN => ?_)
  show XW E K 2 N 0 0 _ 0 [(0, .ref ob), (1, .int w)] []
  refine x_iload_n C dX8_meter_0 1 rfl ?_
  rcases Decidable.em (w = 0) with s1_0 | s1_0
  · refine x_v (w := .int 0) (by rw [s1_0]) ?_
    refine x_tableIn C 36 dX8_meter_1 (by decide) (by decide) rfl rfl ?_
    refine x_aload_n C dX8_meter_36 0 rfl ?_
    refine x_get C (xlo (i := 0) hb_ob) (xhi (i := 0) hn_ob rfl) (ov_at (i := 0) rfl) f_X8_10 rfl dX8_meter_37 ?_
    refine x_get C (xlo (i := 1) hb_ob) (xhi (i := 1) hn_ob rfl) (ov_at (i := 1) rfl) f_X8_128 rfl dX8_meter_40 ?_
    refine x_get C (xlo (i := 6) hb_ob) (xhi (i := 6) hn_ob rfl) (ov_at (i := 6) rfl) f_X8_132 rfl dX8_meter_43 ?_
    exact x_iret C Z rfl rfl (by first | (simp only [rMet, if_pos s1_0, eq_self, Bool.false_eq_true, if_true, if_false]; done) | ((simp only [rMet, if_pos s1_0, eq_self, Bool.false_eq_true, if_true, if_false]); rfl) | (simp [rMet, s1_0]; done) | (simp [rMet, s1_0]; rfl)) (by first | (simp only [rMet, if_pos s1_0, eq_self, Bool.false_eq_true, if_true, if_false]; done) | ((simp only [rMet, if_pos s1_0, eq_self, Bool.false_eq_true, if_true, if_false]); rfl) | (simp [rMet, s1_0]; done) | (simp [rMet, s1_0]; rfl)) dX8_meter_46
  rcases Decidable.em (w = 1) with s1_1 | s1_1
  · refine x_v (w := .int 1) (by rw [s1_1]) ?_
    refine x_tableIn C 47 dX8_meter_1 (by decide) (by decide) rfl rfl ?_
    refine x_aload_n C dX8_meter_47 0 rfl ?_
    refine x_get C (xlo (i := 0) hb_ob) (xhi (i := 0) hn_ob rfl) (ov_at (i := 0) rfl) f_X8_10 rfl dX8_meter_48 ?_
    refine x_get C (xlo (i := 1) hb_ob) (xhi (i := 1) hn_ob rfl) (ov_at (i := 1) rfl) f_X8_128 rfl dX8_meter_51 ?_
    refine x_get C (xlo (i := 6) hb_ob) (xhi (i := 6) hn_ob rfl) (ov_at (i := 6) rfl) f_X8_166 rfl dX8_meter_54 ?_
    exact x_iret C Z rfl rfl (by first | (simp only [rMet, if_neg s1_0, if_pos s1_1, eq_self, Bool.false_eq_true, if_true, if_false]; done) | ((simp only [rMet, if_neg s1_0, if_pos s1_1, eq_self, Bool.false_eq_true, if_true, if_false]); rfl) | (simp [rMet, s1_0, s1_1]; done) | (simp [rMet, s1_0, s1_1]; rfl)) (by first | (simp only [rMet, if_neg s1_0, if_pos s1_1, eq_self, Bool.false_eq_true, if_true, if_false]; done) | ((simp only [rMet, if_neg s1_0, if_pos s1_1, eq_self, Bool.false_eq_true, if_true, if_false]); rfl) | (simp [rMet, s1_0, s1_1]; done) | (simp [rMet, s1_0, s1_1]; rfl)) dX8_meter_57
  rcases Decidable.em (w = 2) with s1_2 | s1_2
  · refine x_v (w := .int 2) (by rw [s1_2]) ?_
    refine x_tableIn C 58 dX8_meter_1 (by decide) (by decide) rfl rfl ?_
    refine x_aload_n C dX8_meter_58 0 rfl ?_
    refine x_get C (xlo (i := 0) hb_ob) (xhi (i := 0) hn_ob rfl) (ov_at (i := 0) rfl) f_X8_10 rfl dX8_meter_59 ?_
    refine x_get C (xlo (i := 1) hb_ob) (xhi (i := 1) hn_ob rfl) (ov_at (i := 1) rfl) f_X8_128 rfl dX8_meter_62 ?_
    refine x_get C (xlo (i := 6) hb_ob) (xhi (i := 6) hn_ob rfl) (ov_at (i := 6) rfl) f_X8_169 rfl dX8_meter_65 ?_
    exact x_iret C Z rfl rfl (by first | (simp only [rMet, if_neg s1_0, if_neg s1_1, if_pos s1_2, eq_self, Bool.false_eq_true, if_true, if_false]; done) | ((simp only [rMet, if_neg s1_0, if_neg s1_1, if_pos s1_2, eq_self, Bool.false_eq_true, if_true, if_false]); rfl) | (simp [rMet, s1_0, s1_1, s1_2]; done) | (simp [rMet, s1_0, s1_1, s1_2]; rfl)) (by first | (simp only [rMet, if_neg s1_0, if_neg s1_1, if_pos s1_2, eq_self, Bool.false_eq_true, if_true, if_false]; done) | ((simp only [rMet, if_neg s1_0, if_neg s1_1, if_pos s1_2, eq_self, Bool.false_eq_true, if_true, if_false]); rfl) | (simp [rMet, s1_0, s1_1, s1_2]; done) | (simp [rMet, s1_0, s1_1, s1_2]; rfl)) dX8_meter_68
  rcases Decidable.em (w = 3) with s1_3 | s1_3
  · refine x_v (w := .int 3) (by rw [s1_3]) ?_
    refine x_tableIn C 69 dX8_meter_1 (by decide) (by decide) rfl rfl ?_
    refine x_aload_n C dX8_meter_69 0 rfl ?_
    refine x_get C (xlo (i := 0) hb_ob) (xhi (i := 0) hn_ob rfl) (ov_at (i := 0) rfl) f_X8_10 rfl dX8_meter_70 ?_
    refine x_get C (xlo (i := 1) hb_ob) (xhi (i := 1) hn_ob rfl) (ov_at (i := 1) rfl) f_X8_128 rfl dX8_meter_73 ?_
    refine x_get C (xlo (i := 6) hb_ob) (xhi (i := 6) hn_ob rfl) (ov_at (i := 6) rfl) f_X8_172 rfl dX8_meter_76 ?_
    exact x_iret C Z rfl rfl (by first | (simp only [rMet, if_neg s1_0, if_neg s1_1, if_neg s1_2, if_pos s1_3, eq_self, Bool.false_eq_true, if_true, if_false]; done) | ((simp only [rMet, if_neg s1_0, if_neg s1_1, if_neg s1_2, if_pos s1_3, eq_self, Bool.false_eq_true, if_true, if_false]); rfl) | (simp [rMet, s1_0, s1_1, s1_2, s1_3]; done) | (simp [rMet, s1_0, s1_1, s1_2, s1_3]; rfl)) (by first | (simp only [rMet, if_neg s1_0, if_neg s1_1, if_neg s1_2, if_pos s1_3, eq_self, Bool.false_eq_true, if_true, if_false]; done) | ((simp only [rMet, if_neg s1_0, if_neg s1_1, if_neg s1_2, if_pos s1_3, eq_self, Bool.false_eq_true, if_true, if_false]); rfl) | (simp [rMet, s1_0, s1_1, s1_2, s1_3]; done) | (simp [rMet, s1_0, s1_1, s1_2, s1_3]; rfl)) dX8_meter_79
  rcases Decidable.em (w = 4) with s1_4 | s1_4
  · refine x_v (w := .int 4) (by rw [s1_4]) ?_
    refine x_tableIn C 80 dX8_meter_1 (by decide) (by decide) rfl rfl ?_
    refine x_aload_n C dX8_meter_80 0 rfl ?_
    refine x_get C (xlo (i := 0) hb_ob) (xhi (i := 0) hn_ob rfl) (ov_at (i := 0) rfl) f_X8_10 rfl dX8_meter_81 ?_
    refine x_get C (xlo (i := 1) hb_ob) (xhi (i := 1) hn_ob rfl) (ov_at (i := 1) rfl) f_X8_128 rfl dX8_meter_84 ?_
    refine x_get C (xlo (i := 6) hb_ob) (xhi (i := 6) hn_ob rfl) (ov_at (i := 6) rfl) f_X8_132 rfl dX8_meter_87 ?_
    refine x_if_ne C 98 dX8_meter_90 rfl (fun c90 => ?_) (fun c90 => ?_)
    · refine x_aload_n C dX8_meter_98 0 rfl ?_
      refine x_get C (xlo (i := 0) hb_ob) (xhi (i := 0) hn_ob rfl) (ov_at (i := 0) rfl) f_X8_10 rfl dX8_meter_99 ?_
      refine x_get C (xlo (i := 1) hb_ob) (xhi (i := 1) hn_ob rfl) (ov_at (i := 1) rfl) f_X8_128 rfl dX8_meter_102 ?_
      refine x_cV1 C (MF.sliceR (i := 6) (n := 1) rfl (c_X2_bitsOfMean E N (ob + 6) _ (vSa (qNow u)) (vGr (qNow u)) (vHo (qNow u)) (vHw (qNow u)) (vSu (qNow u)) ((hM c90).1) ((hM c90).2) (xlo (i := 6) hb_ob) (xhn (i := 6) (n := 1) hn_ob rfl))) v_X8_175 hN (xlo (i := 6) hb_ob) (xhi (i := 6) hn_ob rfl) (ov_at (i := 6) rfl) rfl rfl rfl rfl rfl dX8_meter_105 ?_
      exact x_iret C Z rfl rfl (by first | (simp only [rMet, if_neg s1_0, if_neg s1_1, if_neg s1_2, if_neg s1_3, if_pos s1_4, if_neg c90, eq_self, Bool.false_eq_true, if_true, if_false]; done) | ((simp only [rMet, if_neg s1_0, if_neg s1_1, if_neg s1_2, if_neg s1_3, if_pos s1_4, if_neg c90, eq_self, Bool.false_eq_true, if_true, if_false]); rfl) | (simp [rMet, s1_0, s1_1, s1_2, s1_3, s1_4, c90]; done) | (simp [rMet, s1_0, s1_1, s1_2, s1_3, s1_4, c90]; rfl)) (by first | (simp only [rMet, if_neg s1_0, if_neg s1_1, if_neg s1_2, if_neg s1_3, if_pos s1_4, if_neg c90, eq_self, Bool.false_eq_true, if_true, if_false]; done) | ((simp only [rMet, if_neg s1_0, if_neg s1_1, if_neg s1_2, if_neg s1_3, if_pos s1_4, if_neg c90, eq_self, Bool.false_eq_true, if_true, if_false]); rfl) | (simp [rMet, s1_0, s1_1, s1_2, s1_3, s1_4, c90]; done) | (simp [rMet, s1_0, s1_1, s1_2, s1_3, s1_4, c90]; rfl)) dX8_meter_108
    · refine x_ldc C (-1000004) m_330 dX8_meter_93 ?_
      refine x_goto C 108 dX8_meter_95 rfl ?_
      exact x_iret C Z rfl rfl (by first | (simp only [rMet, if_neg s1_0, if_neg s1_1, if_neg s1_2, if_neg s1_3, if_pos s1_4, if_pos c90, eq_self, Bool.false_eq_true, if_true, if_false]; done) | ((simp only [rMet, if_neg s1_0, if_neg s1_1, if_neg s1_2, if_neg s1_3, if_pos s1_4, if_pos c90, eq_self, Bool.false_eq_true, if_true, if_false]); rfl) | (simp [rMet, s1_0, s1_1, s1_2, s1_3, s1_4, c90]; done) | (simp [rMet, s1_0, s1_1, s1_2, s1_3, s1_4, c90]; rfl)) (by first | (simp only [rMet, if_neg s1_0, if_neg s1_1, if_neg s1_2, if_neg s1_3, if_pos s1_4, if_pos c90, eq_self, Bool.false_eq_true, if_true, if_false]; done) | ((simp only [rMet, if_neg s1_0, if_neg s1_1, if_neg s1_2, if_neg s1_3, if_pos s1_4, if_pos c90, eq_self, Bool.false_eq_true, if_true, if_false]); rfl) | (simp [rMet, s1_0, s1_1, s1_2, s1_3, s1_4, c90]; done) | (simp [rMet, s1_0, s1_1, s1_2, s1_3, s1_4, c90]; rfl)) dX8_meter_108
  refine x_tableOut C 109 dX8_meter_1 (by have q0 := lv_neT (a := 0) s1_0 rfl; have q1 := lv_neT (a := 1) s1_1 rfl; have q2 := lv_neT (a := 2) s1_2 rfl; have q3 := lv_neT (a := 3) s1_3 rfl; have q4 := lv_neT (a := 4) s1_4 rfl; omega) rfl ?_
  refine x_ldc C (-1000001) m_161 dX8_meter_109 ?_
  exact x_iret C Z rfl rfl (by first | (simp only [rMet, if_neg s1_0, if_neg s1_1, if_neg s1_2, if_neg s1_3, if_neg s1_4, eq_self, Bool.false_eq_true, if_true, if_false]; done) | ((simp only [rMet, if_neg s1_0, if_neg s1_1, if_neg s1_2, if_neg s1_3, if_neg s1_4, eq_self, Bool.false_eq_true, if_true, if_false]); rfl) | (simp [rMet, s1_0, s1_1, s1_2, s1_3, s1_4]; done) | (simp [rMet, s1_0, s1_1, s1_2, s1_3, s1_4]; rfl)) (by first | (simp only [rMet, if_neg s1_0, if_neg s1_1, if_neg s1_2, if_neg s1_3, if_neg s1_4, eq_self, Bool.false_eq_true, if_true, if_false]; done) | ((simp only [rMet, if_neg s1_0, if_neg s1_1, if_neg s1_2, if_neg s1_3, if_neg s1_4, eq_self, Bool.false_eq_true, if_true, if_false]); rfl) | (simp [rMet, s1_0, s1_1, s1_2, s1_3, s1_4]; done) | (simp [rMet, s1_0, s1_1, s1_2, s1_3, s1_4]; rfl)) dX8_meter_111

