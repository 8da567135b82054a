/-! ===== class and reference: settings, meters, taps that are turned off ===== -/
theorem mset_hi {s : Nat → Int32} {t : Nat} {x : Int32} (ht : t < 2) {q : Nat} (h : 100 ≤ q) : mSetS s t x q = kS s q := by
  unfold mSetS
  rw [pk_un (by omega)]
theorem shape_in {x : Int32} (h : inR x 0 2 = true) : x = 0 ∨ x = 1 ∨ x = 2 := by
  obtain ⟨k, rfl, -, hk⟩ := inR_ex (a := 0) (b := 2) (by decide) (by decide) h
  rcases (by omega : k = 0 ∨ k = 1 ∨ k = 2) with rfl | rfl | rfl
  · exact Or.inl rfl
  · exact Or.inr (Or.inl rfl)
  · exact Or.inr (Or.inr rfl)
theorem shape_bd {x : Int32} (h : x = 0 ∨ x = 1 ∨ x = 2) : ¬ x ≤ -1000001 := by
  rcases h with rfl | rfl | rfl <;> decide
theorem setc_ok {u : QV} {s : Nat → Int32} {su : Nat → Int64} {n ny c : Nat} {tx : Nat → Int32} (h : RQ u s su n tx ny c) (w x : Int32) : rSet u w x = mSetR s w x ∧ RQ (qSet u w x) (mSets s n w x) (mSetu s su n w x) (mSetn s n w x) tx ny (c + 1) := by
  have hbad : okSet w x = false → mSetR s w x = -1000001 → mSets s n w x = s → mSetu s su n w x = su → mSetn s n w x = n → rSet u w x = mSetR s w x ∧ RQ (qSet u w x) (mSets s n w x) (mSetu s su n w x) (mSetn s n w x) tx ny (c + 1) := fun e0 r2 s2 u2 n2 => by
    have n0 : ¬ okSet w x = true := by
      rw [e0]
      decide
    have r1 : rSet u w x = -1000001 := if_neg n0
    have q1 : qSet u w x = u := if_neg n0
    rw [r1, q1, r2, s2, u2, n2]
    exact ⟨rfl, rq_mono h (by omega)⟩
  obtain ⟨tk, fi, a, ha, hS⟩ := sx_k h.1
  have h79 : kS s 79 = vLi (qNow u) := by
    have q := hS.2.2.1.1
    rw [sl0] at q
    exact q
  have h80 : kS s 80 = vSh (qNow u) := by
    have q := hS.2.2.1.2.1
    rw [sl0] at q
    exact q
  by_cases e1 : inR w 0 1 = true
  · obtain ⟨k, rfl, -, hk⟩ := inR_ex (a := 0) (b := 1) (by decide) (by decide) e1
    rcases (by omega : k = 0 ∨ k = 1) with rfl | rfl
    · by_cases e2 : inR x 100 30000 = true
      · have hx := inR_bd (a := 100) (b := 30000) (by decide) (by decide) e2
        have e0 : okSet (nI 0) x = true := (if_pos rfl).trans e2
        have eM : okM (nI 0) x = true := (if_pos rfl).trans e2
        have r1 : rSet u (nI 0) x = vLi (qNow u) := (if_pos e0).trans (if_pos rfl)
        have q1 : qSet u (nI 0) x = qSN (qKeep u) (sSet (qNow u) 0 x) := if_pos e0
        have r2 : mSetR s (nI 0) x = kS s 79 := (if_pos e1).trans (if_pos eM)
        have s2 : mSets s n (nI 0) x = mActS (kS s 79) n (upd (kS s) 79 x) := (if_pos e1).trans (if_pos eM)
        have u2 : mSetu s su n (nI 0) x = mActU (kS s 79) n (kU su) := (if_pos e1).trans (if_pos eM)
        have n2 : mSetn s n (nI 0) x = mActN (kS s 79) n := (if_pos e1).trans (if_pos eM)
        rw [r1, q1, r2, s2, u2, n2]
        exact ⟨h79.symm, rq_ch h (r_ok (by rw [h79]; have := hS.2.2.1.2.2.1; omega)) ⟨tk, fi, a, by omega, lim_ok hS hx.1 hx.2⟩ (fun q hq => pk_un (by omega)) (fun k hk => rfl)⟩
      · exact hbad ((if_pos rfl).trans (Bool.eq_false_iff.mpr e2)) ((if_pos e1).trans (if_neg (fun z => e2 ((if_pos rfl).symm.trans z)))) ((if_pos e1).trans (if_neg (fun z => e2 ((if_pos rfl).symm.trans z)))) ((if_pos e1).trans (if_neg (fun z => e2 ((if_pos rfl).symm.trans z)))) ((if_pos e1).trans (if_neg (fun z => e2 ((if_pos rfl).symm.trans z))))
    · have n1 : ¬ nI 1 = 0 := by decide
      by_cases e2 : inR x 0 2 = true
      · have hx := shape_in e2
        have e0 : okSet (nI 1) x = true := (if_neg n1).trans ((if_pos rfl).trans e2)
        have eM : okM (nI 1) x = true := (if_neg n1).trans e2
        have r1 : rSet u (nI 1) x = vSh (qNow u) := (if_pos e0).trans (if_neg n1)
        have q1 : qSet u (nI 1) x = qSN (qKeep u) (sSet (qNow u) 1 x) := if_pos e0
        have r2 : mSetR s (nI 1) x = kS s 80 := (if_pos e1).trans (if_pos eM)
        have s2 : mSets s n (nI 1) x = mActS (kS s 80) n (upd (kS s) 80 x) := (if_pos e1).trans (if_pos eM)
        have u2 : mSetu s su n (nI 1) x = mActU (kS s 80) n (kU su) := (if_pos e1).trans (if_pos eM)
        have n2 : mSetn s n (nI 1) x = mActN (kS s 80) n := (if_pos e1).trans (if_pos eM)
        rw [r1, q1, r2, s2, u2, n2]
        exact ⟨h80.symm, rq_ch h (by rw [h80]; exact shape_bd hS.2.2.1.2.2.2.2) ⟨tk, fi, a, by omega, shape_ok hS hx⟩ (fun q hq => pk_un (by omega)) (fun k hk => rfl)⟩
      · have eM : ¬ okM (nI 1) x = true := fun z => e2 ((if_neg n1).symm.trans z)
        exact hbad ((if_neg n1).trans ((if_pos rfl).trans (Bool.eq_false_iff.mpr e2))) ((if_pos e1).trans (if_neg eM)) ((if_pos e1).trans (if_neg eM)) ((if_pos e1).trans (if_neg eM)) ((if_pos e1).trans (if_neg eM))
  · have n0 : ¬ w = 0 := fun z => e1 (by rw [z]; decide)
    have n1 : ¬ w = 1 := fun z => e1 (by rw [z]; decide)
    exact hbad ((if_neg n0).trans (if_neg n1)) (if_neg e1) (if_neg e1) (if_neg e1) (if_neg e1)
theorem rstc_ok {u : QV} {s : Nat → Int32} {su : Nat → Int64} {n ny c : Nat} {tx : Nat → Int32} (h : RQ u s su n tx ny c) (hc : c ≤ 600) : vSa (qNow u) = kS s 81 ∧ RQ (qSN (qKeep u) (sRst (qNow u))) (mActS (kS s 81) n (mRstS s)) (mActU (kS s 81) n (vp_updL (kU su) 0 0)) (mActN (kS s 81) n) tx ny (c + 1) := by
  obtain ⟨tk, fi, a, ha, hS⟩ := sx_k h.1
  have h81 : kS s 81 = vSa (qNow u) := by
    have q := hS.2.2.2.1.1
    rw [sl0] at q
    exact q
  refine ⟨h81.symm, rq_ch h (by rw [h81, hS.2.2.2.1.2.1]; exact r_nI (by omega)) ⟨tk, fi, 0, by omega, ?_⟩ (fun q hq => ?_) (fun k hk => vp_updL_un (by omega))⟩
  · rw [vp_updL_at]
    exact rst_ok hS
  · unfold mRstS
    rw [pk_un (by omega), pk_un (by omega), pk_un (by omega), pk_un (by omega)]
theorem sdel_nI {v : SV} {t : Nat} (ht : t < 5) : sDel v (nI t) = vDe v t := by
  unfold sDel
  rw [rowOk_nI ht, if_pos rfl, nI_clamp (by omega)]
theorem offc_ok {u : QV} {s : Nat → Int32} {su : Nat → Int64} {n ny c : Nat} {tx : Nat → Int32} (h : RQ u s su n tx ny c) (t : Int32) : rOff u t = mOffR s t ∧ RQ (qOff u t) (mOffs s n t) (mOffu s su n t) (mOffn s n t) tx ny (c + 1) := by
  by_cases e1 : inR t 0 3 = true
  · obtain ⟨k, rfl, -, hk⟩ := inR_ex (a := 0) (b := 3) (by decide) (by decide) e1
    have hcl : (nI k).toNatClampNeg = k := nI_clamp (by omega)
    obtain ⟨tk, fi, a, ha, hS⟩ := sx_k h.1
    have ho := on_eq hS.2.1 (show k < 4 by omega)
    rw [sl0, kS_lo (by omega)] at ho
    rcases hS.2.1.1 k (by omega) with ⟨b1, b2⟩ | ⟨b1, b2, b3, b4, d, b5, b6, b7⟩
    · rw [sl0, kS_lo (by omega)] at b1
      have hoff : ¬ sOn (qNow u) (nI k) = true := fun z => absurd (b1.symm.trans (ho.mpr z)) (by decide)
      have c0 : s (65 + (nI k).toNatClampNeg) = 0 := by
        rw [hcl]
        exact b1
      have r1 : rOff u (nI k) = -1000002 := (if_pos e1).trans (if_neg hoff)
      have q1 : qOff u (nI k) = u := (if_pos e1).trans (if_neg hoff)
      have r2 : mOffR s (nI k) = -1000002 := (if_pos e1).trans (if_pos c0)
      have s2 : mOffs s n (nI k) = s := (if_pos e1).trans (if_pos c0)
      have u2 : mOffu s su n (nI k) = su := (if_pos e1).trans (if_pos c0)
      have n2 : mOffn s n (nI k) = n := (if_pos e1).trans (if_pos c0)
      rw [r1, q1, r2, s2, u2, n2]
      exact ⟨rfl, rq_mono h (by omega)⟩
    · rw [sl0, kS_lo (by omega)] at b1
      have hon : sOn (qNow u) (nI k) = true := ho.mp b1
      have c0 : ¬ s (65 + (nI k).toNatClampNeg) = 0 := fun z => by
        rw [hcl, b1] at z
        exact absurd z (by decide)
      have r1 : rOff u (nI k) = sDel (qNow u) (nI k) := (if_pos e1).trans (if_pos hon)
      have q1 : qOff u (nI k) = qSN (qKeep u) (sPut (qNow u) (nI k) 0 0) := (if_pos e1).trans (if_pos hon)
      have r2 : mOffR s (nI k) = mOffS s (nI k).toNatClampNeg (69 + (nI k).toNatClampNeg) := (if_pos e1).trans (if_neg c0)
      have s2 : mOffs s n (nI k) = mActS (mOffS s (nI k).toNatClampNeg (69 + (nI k).toNatClampNeg)) n (mOffS s (nI k).toNatClampNeg) := (if_pos e1).trans (if_neg c0)
      have u2 : mOffu s su n (nI k) = mActU (mOffS s (nI k).toNatClampNeg (69 + (nI k).toNatClampNeg)) n (kU su) := (if_pos e1).trans (if_neg c0)
      have n2 : mOffn s n (nI k) = mActN (mOffS s (nI k).toNatClampNeg (69 + (nI k).toNatClampNeg)) n := (if_pos e1).trans (if_neg c0)
      have e69 : mOffS s k (69 + k) = nI d := by
        unfold mOffS
        rw [pk_un (by omega)]
        rw [sl0] at b2
        exact b2.trans b5
      rw [r1, q1, r2, s2, u2, n2, hcl, e69, sdel_nI (by omega), b5]
      exact ⟨rfl, rq_ch h (r_nI (by omega)) ⟨tk, fi, a, by omega, off_ok hS (show k < 4 by omega)⟩ (fun q hq => pk_un (by omega)) (fun k hk => rfl)⟩
  · have r1 : rOff u t = -1000001 := if_neg e1
    have q1 : qOff u t = u := if_neg e1
    have r2 : mOffR s t = -1000001 := if_neg e1
    have s2 : mOffs s n t = s := if_neg e1
    have u2 : mOffu s su n t = su := if_neg e1
    have n2 : mOffn s n t = n := if_neg e1
    rw [r1, q1, r2, s2, u2, n2]
    exact ⟨rfl, rq_mono h (by omega)⟩
