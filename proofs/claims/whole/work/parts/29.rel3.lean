/-! ===== class and reference: what is told of a state ===== -/
theorem on_eq {v : SV} {f : Nat → Int32} (hb : SRb v f) {t : Nat} (ht : t < 4) : (f (65 + t) = 1) ↔ sOn v (nI t) = true := by
  have ed : sDel v (nI t) = vDe v t := by
    unfold sDel
    rw [rowOk_nI (by omega), if_pos rfl, nI_clamp (by omega)]
  unfold sOn
  rw [ed]
  rcases hb.1 t ht with ⟨e1, e2⟩ | ⟨e1, e2, e3, e4, d, e5, e6, e7⟩
  · rw [e1, e2]
    decide
  · rw [e1, e5]
    have hne : ¬ nI d = 0 := fun z => by
      have h1 := congrArg Int32.toInt z
      rw [nI_toInt (by omega)] at h1
      have z0 : (0 : Int32).toInt = 0 := rfl
      omega
    rw [decide_eq_false hne]
    decide
theorem amts_eq {g h : Nat → Int32} (n : Nat) (e : ∀ j, j < n → g j = h j) : tapS g n = tapS h n := by
  induction n with
  | zero => rfl
  | succ k ih =>
    unfold tapS
    rw [ih (fun j hj => e j (by omega)), e k (by omega)]
theorem tap_on {v : SV} {s : Nat → Int32} {S : Int64} {tk fi a : Nat} (h : SR v (sl s 0) S tk fi a) : tapS (mTa s 0) 4 = tapS (tOn v) 4 := by
  refine amts_eq 4 (fun j hj => ?_)
  have ho := on_eq h.2.1 hj
  rw [sl0] at ho
  unfold mTa tOn
  by_cases c : s (65 + j) = 1
  · rw [if_pos c, if_pos rfl, ho.mp c]
    rfl
  · rw [if_neg c]
    have : sOn v (nI j) = false := by
      rcases Bool.eq_false_or_eq_true (sOn v (nI j)) with q | q
      · exact absurd (ho.mpr q) c
      · exact q
    rw [this]
    rfl
theorem off_on {v : SV} {f : Nat → Int32} (hb : SRb v f) {t : Nat} (ht : t < 4) (c : ¬ f (65 + t) = 1) : sOn v (nI t) = false := by
  rcases Bool.eq_false_or_eq_true (sOn v (nI t)) with q | q
  · exact absurd ((on_eq hb ht).mpr q) c
  · exact q
theorem lost_on {v : SV} {f : Nat → Int32} {tk fi t : Nat} (ha : SRa v f tk fi) (hb : SRb v f) (ht : t < 4) (c : f (65 + t) = 1) : gLost f t = sLost v (nI t) := by
  rcases hb.1 t ht with ⟨e1, e2⟩ | ⟨e1, e2, e3, e4, d, e5, e6, e7⟩
  · exact absurd (e1.symm.trans c) (by decide)
  · exact lost_eq ha (by omega) e5 (e2.trans e5)
theorem tap_lo {v : SV} {s : Nat → Int32} {S : Int64} {tk fi a : Nat} (h : SR v (sl s 0) S tk fi a) : tapS (mTa s 1) 4 = tapS (tLo v) 4 := by
  refine amts_eq 4 (fun j hj => ?_)
  have ho := on_eq h.2.1 hj
  rw [sl0] at ho
  unfold mTa tLo
  by_cases c : s (65 + j) = 1
  · rw [if_pos c, if_neg (by decide), if_pos (ho.mp c), lost_on h.1 h.2.1 hj (by rw [sl0]; exact c)]
  · rw [if_neg c, off_on h.2.1 hj (by rw [sl0]; exact c)]
    rfl
theorem tap_ld {v : SV} {s : Nat → Int32} {S : Int64} {tk fi a : Nat} (h : SR v (sl s 0) S tk fi a) : tapS (mLd s) 4 = tapS (fun j => if sOn v (nI j) = true then if sLost v (nI j) = true then 0 else amt (vGa v j) * vLi v / 1000 else 0) 4 := by
  refine amts_eq 4 (fun j hj => ?_)
  have ho := on_eq h.2.1 hj
  have h79 := h.2.2.1.1
  rw [sl0] at ho h79
  unfold mLd
  by_cases c : s (65 + j) = 1
  · rw [if_pos c, if_pos (ho.mp c), lost_on h.1 h.2.1 hj (by rw [sl0]; exact c), h79]
    rcases h.2.1.1 j hj with ⟨e1, e2⟩ | ⟨e1, e2, e3, e4⟩
    · rw [sl0] at e1
      exact absurd (e1.symm.trans c) (by decide)
    · rw [sl0] at e3
      rw [e3]
  · rw [if_neg c, off_on h.2.1 hj (by rw [sl0]; exact c)]
    rfl
theorem jth_abs {g l : Int32} (h1 : -950 ≤ g.toInt ∧ g.toInt ≤ 950) (h2 : 100 ≤ l.toInt ∧ l.toInt ≤ 30000) : iabs (jth g l) = amt g * l / 1000 := by
  have hb := jth_bd h1 (x := l) (by omega)
  have hg : (amt g).toInt = (g.toInt.natAbs : Int) := by
    rw [amt_abs]
    exact iabs_toInt (by omega)
  have hj : (jth (amt g) l).toInt = ((amt g).toInt * l.toInt).tdiv 1000 := jth_toInt (by rw [hg]; omega) (by omega)
  apply Int32.toInt_inj.mp
  rw [iabs_toInt (by omega), jth_toInt h1 (by omega)]
  show _ = (jth (amt g) l).toInt
  rw [hj, hg]
  by_cases hp : 0 ≤ g.toInt
  · rw [show (g.toInt.natAbs : Int) = g.toInt by omega]
    have hm : 0 ≤ g.toInt * l.toInt := Int.mul_nonneg hp (by omega)
    have hq : 0 ≤ (g.toInt * l.toInt).tdiv 1000 := Int.tdiv_nonneg hm (by decide)
    omega
  · rw [show (g.toInt.natAbs : Int) = -g.toInt by omega, Int.neg_mul, Int.neg_tdiv]
    have hm : 0 ≤ -(g.toInt * l.toInt) := by
      rw [← Int.neg_mul]
      exact Int.mul_nonneg (by omega) (by omega)
    have hq : 0 ≤ (-(g.toInt * l.toInt)).tdiv 1000 := Int.tdiv_nonneg hm (by decide)
    rw [Int.neg_tdiv] at hq
    omega
