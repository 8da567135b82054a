/-! ===== class and reference: what an order does ===== -/
theorem r_lt {x : Int32} (h : ¬ x ≤ -1000001) : -1000001 < x := by
  rw [i_le] at h
  rw [i_lt]
  omega
theorem nAt_0 (nu : Nat → Int32) : nAt nu 0 = nu 0 := (if_neg (by decide)).trans (if_neg (by decide))
theorem nAt_1 (nu : Nat → Int32) : nAt nu 1 = nu 1 := (if_neg (by decide)).trans (if_neg (by decide))
theorem nAt_2 (nu : Nat → Int32) : nAt nu 2 = nu 2 := (if_neg (by decide)).trans (if_neg (by decide))
theorem cl_le {v : SV} {f : Nat → Int32} {S : Int64} {tk fi a : Nat} (h : SR v f S tk fi a) : vLe v = nI (vLe v).toNatClampNeg ∧ (vLe v).toNatClampNeg = 64 - tk := by
  have e : (vLe v).toNatClampNeg = 64 - tk := by
    rw [h.1.2.2.1]
    exact nI_clamp (by omega)
  exact ⟨by rw [e]; exact h.1.2.2.1, e⟩
def DO (L : Int32) (nu X : Nat → Int32) (v : SV) (s : Nat → Int32) (su : Nat → Int64) (tk a : Nat) : Prop :=
  (oErr L nu (nI tk) = 0 → -1000001 < mDoR L s su tk X ∧ (∃ fi2 a2, a2 ≤ a + 200 ∧ SR (dNow v L nu) (sl (mDoS L s su tk X) 0) (mDoU L s su X 0) (mDoK L tk X) fi2 a2) ∧ dOk v L nu ∧ nI tk + wGo L nu = nI (mDoK L tk X)) ∧ (¬ oErr L nu (nI tk) = 0 → mDoR L s su tk X = oErr L nu (nI tk) ∧ ¬ -1000001 < mDoR L s su tk X) ∧ (∀ q, 100 ≤ q → mDoS L s su tk X q = s q) ∧ (∀ k, 0 < k → mDoU L s su X k = su k)

theorem do_115 {v : SV} {s : Nat → Int32} {su : Nat → Int64} {tk fi a : Nat} {nu X : Nat → Int32} (h : SR v (sl s 0) (su 0) tk fi a) (ha : a + 200 ≤ 2000000000) (e0 : nu 0 = X 0) : DO 115 nu X v s su tk a := by
  have hcl := cl_le h
  have g1 : oErr 115 nu (nI tk) = eSam (nAt nu 0) := (if_neg (by decide)).trans ((if_neg (by decide)).trans ((if_pos rfl)))
  have g2 : dNow v 115 nu = sLet v (nAt nu 0) := (if_neg (by decide)).trans ((if_neg (by decide)).trans ((if_pos rfl)))
  have g3 : mDoR 115 s su tk X = mSamR s (X 0) := (if_neg (by decide)).trans ((if_neg (by decide)).trans ((if_pos rfl)))
  have g4 : mDoS 115 s su tk X = mSamS s (X 0) := (if_neg (by decide)).trans ((if_neg (by decide)).trans ((if_pos rfl)))
  have g5 : mDoU 115 s su X = mSamU s su (X 0) := (if_neg (by decide)).trans ((if_neg (by decide)).trans ((if_pos rfl)))
  have g6 : mDoK 115 tk X = tk := (if_neg (by decide)).trans ((if_neg (by decide)).trans ((if_pos rfl)))
  have g7 : wGo 115 nu = 0 := (if_neg (by decide)).trans (if_neg (by decide))
  rw [nAt_0, e0] at g1 g2
  unfold DO
  rw [g1, g2, g3, g4, g5, g6, g7]
  by_cases e : inR (X 0) (-20000) 20000 = true
  · have hx := i_20 e
    have p0 : eSam (X 0) = 0 := if_pos e
    have r2 : mSamR s (X 0) = gOut (sl s 0) (X 0) := if_pos e
    have s2 : mSamS s (X 0) = gS s 0 (X 0) := if_pos e
    have u2 : mSamU s su (X 0) = gSu su s 0 (X 0) := if_pos e
    rw [r2, s2, u2]
    have ho := go_out (X 0) h
    have hb := out_bd h.1 h.2.1 h.2.2.1 hx
    exact ⟨fun _ => ⟨r_lt (r_ok (by rw [ho]; exact hb.1)), ⟨_, a + 1, by omega, go_ok h (by omega) hx⟩, ⟨hcl.1, fun z => absurd z (by decide), fun z1 z2 z3 z4 z5 => absurd rfl z3⟩, Int32.add_zero _⟩, fun z => absurd p0 z, fun q hq => m0_gS hq, fun k hk => m0_gSu hk⟩
  · have p0 : eSam (X 0) = -1000001 := if_neg e
    have r2 : mSamR s (X 0) = -1000001 := if_neg e
    have s2 : mSamS s (X 0) = s := if_neg e
    have u2 : mSamU s su (X 0) = su := if_neg e
    rw [r2, s2, u2, p0]
    exact ⟨fun z => absurd z (by decide), fun _ => ⟨rfl, by decide⟩, fun _ _ => rfl, fun _ _ => rfl⟩
theorem do_122 {v : SV} {s : Nat → Int32} {su : Nat → Int64} {tk fi a : Nat} {nu X : Nat → Int32} (h : SR v (sl s 0) (su 0) tk fi a) (ha : a + 200 ≤ 2000000000) (e0 : nu 0 = X 0) : DO 122 nu X v s su tk a := by
  have hcl := cl_le h
  have g1 : oErr 122 nu (nI tk) = eSil (nAt nu 0) := (if_neg (by decide)).trans ((if_neg (by decide)).trans ((if_neg (by decide)).trans ((if_neg (by decide)).trans ((if_pos rfl)))))
  have g2 : dNow v 122 nu = (sSil v (nAt nu 0).toNatClampNeg).1 := (if_neg (by decide)).trans ((if_neg (by decide)).trans ((if_neg (by decide)).trans ((if_neg (by decide)).trans ((if_pos rfl)))))
  have g3 : mDoR 122 s su tk X = mSilR s su (X 0) := (if_neg (by decide)).trans ((if_neg (by decide)).trans ((if_neg (by decide)).trans ((if_neg (by decide)).trans ((if_pos rfl)))))
  have g4 : mDoS 122 s su tk X = mSilS s su (X 0) := (if_neg (by decide)).trans ((if_neg (by decide)).trans ((if_neg (by decide)).trans ((if_neg (by decide)).trans ((if_pos rfl)))))
  have g5 : mDoU 122 s su X = mSilU s su (X 0) := (if_neg (by decide)).trans ((if_neg (by decide)).trans ((if_neg (by decide)).trans ((if_neg (by decide)).trans ((if_pos rfl)))))
  have g6 : mDoK 122 tk X = tk := (if_neg (by decide)).trans ((if_neg (by decide)).trans ((if_neg (by decide)).trans ((if_neg (by decide)).trans ((if_pos rfl)))))
  have g7 : wGo 122 nu = 0 := (if_neg (by decide)).trans (if_neg (by decide))
  rw [nAt_0, e0] at g1 g2
  unfold DO
  rw [g1, g2, g3, g4, g5, g6, g7]
  by_cases e : inR (X 0) 1 200 = true
  · obtain ⟨k, hk, hk1, hk2⟩ := inR_ex (a := 1) (b := 200) (by decide) (by decide) e
    have hkc : (X 0).toNatClampNeg = k := by
      rw [hk]
      exact nI_clamp (by omega)
    have p0 : eSil (X 0) = 0 := if_pos e
    have r2 : mSilR s su (X 0) = (mSil (s, su) (X 0).toNatClampNeg).2 := if_pos e
    have s2 : mSilS s su (X 0) = (mSil (s, su) (X 0).toNatClampNeg).1.1 := if_pos e
    have u2 : mSilU s su (X 0) = (mSil (s, su) (X 0).toNatClampNeg).1.2 := if_pos e
    rw [r2, s2, u2, hkc]
    obtain ⟨⟨fi2, h1⟩, h2⟩ := sil_ok h k (by omega)
    have hb := sil_bd h k (by omega)
    have hm := m0_sil (p := (s, su)) k
    exact ⟨fun _ => ⟨r_lt (r_ok (by rw [h2]; omega)), ⟨fi2, a + k, by omega, h1⟩, ⟨hcl.1, fun _ => by rw [nAt_0, e0, hkc]; exact ⟨hk, by omega⟩, fun z1 z2 z3 z4 z5 => absurd rfl z5⟩, Int32.add_zero _⟩, fun z => absurd p0 z, hm.1, hm.2⟩
  · have p0 : eSil (X 0) = -1000001 := if_neg e
    have r2 : mSilR s su (X 0) = -1000001 := if_neg e
    have s2 : mSilS s su (X 0) = s := if_neg e
    have u2 : mSilU s su (X 0) = su := if_neg e
    rw [r2, s2, u2, p0]
    exact ⟨fun z => absurd z (by decide), fun _ => ⟨rfl, by decide⟩, fun _ _ => rfl, fun _ _ => rfl⟩
theorem do_102 {v : SV} {s : Nat → Int32} {su : Nat → Int64} {tk fi a : Nat} {nu X : Nat → Int32} (h : SR v (sl s 0) (su 0) tk fi a) (ha : a + 200 ≤ 2000000000) (e0 : nu 0 = X 0) (e1 : nu 1 = X 1) : DO 102 nu X v s su tk a := by
  have hcl := cl_le h
  have g1 : oErr 102 nu (nI tk) = eFee (nAt nu 0) (nAt nu 1) := (if_pos rfl)
  have g2 : dNow v 102 nu = sPut v 4 (nAt nu 0) (nAt nu 1) := (if_pos rfl)
  have g3 : mDoR 102 s su tk X = mFeeR s (X 0) (X 1) := (if_pos rfl)
  have g4 : mDoS 102 s su tk X = mFeeS s (X 0) (X 1) := (if_pos rfl)
  have g5 : mDoU 102 s su X = su := (if_pos rfl)
  have g6 : mDoK 102 tk X = tk := (if_pos rfl)
  have g7 : wGo 102 nu = 0 := (if_neg (by decide)).trans (if_neg (by decide))
  rw [nAt_0, e0, nAt_1, e1] at g1 g2
  have hbad : eFee (X 0) (X 1) = -1000001 → mFeeR s (X 0) (X 1) = -1000001 → mFeeS s (X 0) (X 1) = s → DO 102 nu X v s su tk a := fun p0 r2 s2 => by
    unfold DO
    rw [g1, g2, g3, g4, g5, g6, g7, r2, s2, p0]
    exact ⟨fun z => absurd z (by decide), fun _ => ⟨rfl, by decide⟩, fun _ _ => rfl, fun _ _ => rfl⟩
  by_cases q1 : inR (X 0) 1 64 = true
  · by_cases q2 : inR (X 1) 0 950 = true
    · have p0 : eFee (X 0) (X 1) = 0 := (if_pos q1).trans (if_pos q2)
      have r2 : mFeeR s (X 0) (X 1) = s 78 := (if_pos q1).trans (if_pos q2)
      have s2 : mFeeS s (X 0) (X 1) = upd (upd s 73 (X 0)) 78 (X 1) := (if_pos q1).trans (if_pos q2)
      have hg := fee_g h
      unfold DO
      rw [g1, g2, g3, g4, g5, g6, g7, r2, s2]
      exact ⟨fun _ => ⟨r_lt (r_ok (by omega)), ⟨fi, a, by omega, fee_do h q1 q2⟩, ⟨hcl.1, fun z => absurd z (by decide), fun z1 z2 z3 z4 z5 => absurd rfl z1⟩, Int32.add_zero _⟩, fun z => absurd p0 z, fun q hq => by rw [pk_un (by omega), pk_un (by omega)], fun _ _ => rfl⟩
    · exact hbad ((if_pos q1).trans (if_neg q2)) ((if_pos q1).trans (if_neg q2)) ((if_pos q1).trans (if_neg q2))
  · exact hbad (if_neg q1) (if_neg q1) (if_neg q1)
theorem do_116 {v : SV} {s : Nat → Int32} {su : Nat → Int64} {tk fi a : Nat} {nu X : Nat → Int32} (h : SR v (sl s 0) (su 0) tk fi a) (ha : a + 200 ≤ 2000000000) (e0 : nu 0 = X 0) (e1 : nu 1 = X 1) (e2 : nu 2 = X 2) : DO 116 nu X v s su tk a := by
  have hcl := cl_le h
  have g1 : oErr 116 nu (nI tk) = eTap (nAt nu 0) (nAt nu 1) (nAt nu 2) := (if_neg (by decide)).trans ((if_neg (by decide)).trans ((if_neg (by decide)).trans ((if_pos rfl))))
  have g2 : dNow v 116 nu = sPut v (nAt nu 0) (nAt nu 1) (nAt nu 2) := (if_neg (by decide)).trans ((if_neg (by decide)).trans ((if_neg (by decide)).trans ((if_pos rfl))))
  have g3 : mDoR 116 s su tk X = mTapR s (X 0) (X 1) (X 2) := (if_neg (by decide)).trans ((if_neg (by decide)).trans ((if_neg (by decide)).trans ((if_pos rfl))))
  have g4 : mDoS 116 s su tk X = mTapS s (X 0) (X 1) (X 2) := (if_neg (by decide)).trans ((if_neg (by decide)).trans ((if_neg (by decide)).trans ((if_pos rfl))))
  have g5 : mDoU 116 s su X = su := (if_neg (by decide)).trans ((if_neg (by decide)).trans ((if_neg (by decide)).trans ((if_pos rfl))))
  have g6 : mDoK 116 tk X = tk := (if_neg (by decide)).trans ((if_neg (by decide)).trans ((if_neg (by decide)).trans ((if_pos rfl))))
  have g7 : wGo 116 nu = 0 := (if_neg (by decide)).trans (if_neg (by decide))
  rw [nAt_0, e0, nAt_1, e1, nAt_2, e2] at g1 g2
  have hbad : eTap (X 0) (X 1) (X 2) = -1000001 → mTapR s (X 0) (X 1) (X 2) = -1000001 → mTapS s (X 0) (X 1) (X 2) = s → DO 116 nu X v s su tk a := fun p0 r2 s2 => by
    unfold DO
    rw [g1, g2, g3, g4, g5, g6, g7, r2, s2, p0]
    exact ⟨fun z => absurd z (by decide), fun _ => ⟨rfl, by decide⟩, fun _ _ => rfl, fun _ _ => rfl⟩
  by_cases q1 : inR (X 0) 0 3 = true
  · by_cases q2 : inR (X 1) 1 64 = true
    · by_cases q3 : inR (X 2) (-900) 900 = true
      · have p0 : eTap (X 0) (X 1) (X 2) = 0 := (if_pos q1).trans ((if_pos q2).trans (if_pos q3))
        have r2 : mTapR s (X 0) (X 1) (X 2) = bI (gLost (sl (mTap s (X 0).toNatClampNeg (X 1) (X 2)) 0) (X 0).toNatClampNeg) := (if_pos q1).trans ((if_pos q2).trans (if_pos q3))
        have s2 : mTapS s (X 0) (X 1) (X 2) = mTap s (X 0).toNatClampNeg (X 1) (X 2) := (if_pos q1).trans ((if_pos q2).trans (if_pos q3))
        have ht := tap_do h q1 q2 q3
        have hk := (inR_nat (a := 0) (b := 3) (by decide) (by decide) q1).2.2
        unfold DO
        rw [g1, g2, g3, g4, g5, g6, g7, r2, s2]
        exact ⟨fun _ => ⟨r_lt (bI_ok _), ⟨fi, a, by omega, ht.1⟩, ⟨hcl.1, fun z => absurd z (by decide), fun z1 z2 z3 z4 z5 => absurd rfl z4⟩, Int32.add_zero _⟩, fun z => absurd p0 z, fun q hq => mtap_hi (by omega) hq, fun _ _ => rfl⟩
      · exact hbad ((if_pos q1).trans ((if_pos q2).trans (if_neg q3))) ((if_pos q1).trans ((if_pos q2).trans (if_neg q3))) ((if_pos q1).trans ((if_pos q2).trans (if_neg q3)))
    · exact hbad ((if_pos q1).trans (if_neg q2)) ((if_pos q1).trans (if_neg q2)) ((if_pos q1).trans (if_neg q2))
  · exact hbad (if_neg q1) (if_neg q1) (if_neg q1)
theorem do_107 {v : SV} {s : Nat → Int32} {su : Nat → Int64} {tk fi a : Nat} {nu X : Nat → Int32} (h : SR v (sl s 0) (su 0) tk fi a) (ha : a + 200 ≤ 2000000000) (e0 : nu 0 = X 0) : DO 107 nu X v s su tk a := by
  have hcl := cl_le h
  have htk := h.1.2.1
  have g1 : oErr 107 nu (nI tk) = eSte (nAt nu 0) (nI tk) := (if_neg (by decide)).trans ((if_pos rfl))
  have g2 : dNow v 107 nu = sTak v (nAt nu 0) := (if_neg (by decide)).trans ((if_pos rfl))
  have g3 : mDoR 107 s su tk X = mSteR tk (X 0) := (if_neg (by decide)).trans ((if_pos rfl))
  have g4 : mDoS 107 s su tk X = mSteS s tk (X 0) := (if_neg (by decide)).trans ((if_pos rfl))
  have g5 : mDoU 107 s su X = su := (if_neg (by decide)).trans ((if_pos rfl))
  have g6 : mDoK 107 tk X = mSteK tk (X 0) := (if_neg (by decide)).trans ((if_pos rfl))
  have g7 : wGo 107 nu = nAt nu 0 := if_pos rfl
  rw [nAt_0, e0] at g1 g2 g7
  have hbad : ∀ y : Int32, eSte (X 0) (nI tk) = y → mSteR tk (X 0) = y → mSteS s tk (X 0) = s → ¬ y = 0 → ¬ -1000001 < y → DO 107 nu X v s su tk a := fun y p0 r2 s2 hy hy2 => by
    unfold DO
    rw [g1, g2, g3, g4, g5, g6, g7, r2, s2, p0]
    exact ⟨fun z => absurd z hy, fun _ => ⟨rfl, hy2⟩, fun _ _ => rfl, fun _ _ => rfl⟩
  by_cases e : inR (X 0) 1 48 = true
  · obtain ⟨w, hw, hw1, hw2⟩ := inR_ex (a := 1) (b := 48) (by decide) (by decide) e
    have hwc : (X 0).toNatClampNeg = w := by
      rw [hw]
      exact nI_clamp (by omega)
    have hsum : nI tk + X 0 = nI (tk + w) := by
      rw [hw, nI_add]
    by_cases q2 : nI tk + X 0 ≤ 48
    · have q3 : nI (tk + (X 0).toNatClampNeg) ≤ 48 := by
        rw [hwc, ← hsum]
        exact q2
      have hle : tk + w ≤ 48 := (nI_leI (b := 48) (by omega) (by omega)).mp (by rw [← hsum]; exact q2)
      have p0 : eSte (X 0) (nI tk) = 0 := (if_pos e).trans (if_pos q2)
      have r2 : mSteR tk (X 0) = nI (64 - (tk + (X 0).toNatClampNeg)) := (if_pos e).trans (if_pos q3)
      have s2 : mSteS s tk (X 0) = mSt3 s tk (X 0).toNatClampNeg := (if_pos e).trans (if_pos q3)
      have k2 : mSteK tk (X 0) = tk + (X 0).toNatClampNeg := (if_pos e).trans (if_pos q3)
      have hs := ste_ok h hle
      rw [← hw] at hs
      unfold DO
      rw [g1, g2, g3, g4, g5, g6, g7, r2, s2, k2, hwc]
      exact ⟨fun _ => ⟨r_lt (r_nI (by omega)), ⟨fi, a, by omega, hs⟩, ⟨hcl.1, fun z => absurd z (by decide), fun z1 z2 z3 z4 z5 => absurd rfl z2⟩, hsum⟩, fun z => absurd p0 z, fun q hq => mst3_hi hle hq, fun _ _ => rfl⟩
    · have q3 : ¬ nI (tk + (X 0).toNatClampNeg) ≤ 48 := by
        rw [hwc, ← hsum]
        exact q2
      exact hbad (-1000003) ((if_pos e).trans (if_neg q2)) ((if_pos e).trans (if_neg q3)) ((if_pos e).trans (if_neg q3)) (by decide) (by decide)
  · exact hbad (-1000001) (if_neg e) (if_neg e) (if_neg e) (by decide) (by decide)
theorem do_103 {v : SV} {s : Nat → Int32} {su : Nat → Int64} {tk fi a : Nat} {nu X : Nat → Int32} (h : SR v (sl s 0) (su 0) tk fi a) (ha : a + 200 ≤ 2000000000) (e0 : nu 0 = X 0) : DO 103 nu X v s su tk a := by
  have hcl := cl_le h
  have htk := h.1.2.1
  have g1 : oErr 103 nu (nI tk) = eGiv (nAt nu 0) (nI tk) := (if_neg (by decide)).trans ((if_neg (by decide)).trans ((if_neg (by decide)).trans ((if_neg (by decide)).trans (if_neg (by decide)))))
  have g2 : dNow v 103 nu = sGiv v (vLe v).toNatClampNeg (nAt nu 0).toNatClampNeg := (if_neg (by decide)).trans ((if_neg (by decide)).trans ((if_neg (by decide)).trans ((if_neg (by decide)).trans (if_neg (by decide)))))
  have g3 : mDoR 103 s su tk X = mGivR tk (X 0) := (if_neg (by decide)).trans ((if_neg (by decide)).trans ((if_neg (by decide)).trans ((if_neg (by decide)).trans (if_neg (by decide)))))
  have g4 : mDoS 103 s su tk X = mGivS s tk (X 0) := (if_neg (by decide)).trans ((if_neg (by decide)).trans ((if_neg (by decide)).trans ((if_neg (by decide)).trans (if_neg (by decide)))))
  have g5 : mDoU 103 s su X = su := (if_neg (by decide)).trans ((if_neg (by decide)).trans ((if_neg (by decide)).trans ((if_neg (by decide)).trans (if_neg (by decide)))))
  have g6 : mDoK 103 tk X = mGivK tk (X 0) := (if_neg (by decide)).trans ((if_neg (by decide)).trans ((if_neg (by decide)).trans ((if_neg (by decide)).trans (if_neg (by decide)))))
  have g7 : wGo 103 nu = -nAt nu 0 := (if_neg (by decide)).trans (if_pos rfl)
  rw [nAt_0, e0] at g1 g2 g7
  have hbad : ∀ y : Int32, eGiv (X 0) (nI tk) = y → mGivR tk (X 0) = y → mGivS s tk (X 0) = s → ¬ y = 0 → ¬ -1000001 < y → DO 103 nu X v s su tk a := fun y p0 r2 s2 hy hy2 => by
    unfold DO
    rw [g1, g2, g3, g4, g5, g6, g7, r2, s2, p0]
    exact ⟨fun z => absurd z hy, fun _ => ⟨rfl, hy2⟩, fun _ _ => rfl, fun _ _ => rfl⟩
  by_cases e : inR (X 0) 1 48 = true
  · obtain ⟨w, hw, hw1, hw2⟩ := inR_ex (a := 1) (b := 48) (by decide) (by decide) e
    have hwc : (X 0).toNatClampNeg = w := by
      rw [hw]
      exact nI_clamp (by omega)
    by_cases q2 : X 0 ≤ nI tk
    · have hle : w ≤ tk := (nI_leI (by omega) (by omega)).mp (by rw [← hw]; exact q2)
      have hsub : nI tk + -X 0 = nI (tk - w) := by
        rw [hw, ← Int32.sub_eq_add_neg]
        exact natSub (by omega)
      have p0 : eGiv (X 0) (nI tk) = 0 := (if_pos e).trans (if_pos q2)
      have r2 : mGivR tk (X 0) = nI (64 - (tk - (X 0).toNatClampNeg)) := (if_pos e).trans (if_pos q2)
      have s2 : mGivS s tk (X 0) = upd s 64 (nI (tk - (X 0).toNatClampNeg)) := (if_pos e).trans (if_pos q2)
      have k2 : mGivK tk (X 0) = tk - (X 0).toNatClampNeg := (if_pos e).trans (if_pos q2)
      have hs := giv_ok h hle
      unfold DO
      rw [g1, g2, g3, g4, g5, g6, g7, r2, s2, k2, hwc, hcl.2]
      exact ⟨fun _ => ⟨r_lt (r_nI (by omega)), ⟨fi, a, by omega, hs⟩, ⟨hcl.1, fun z => absurd z (by decide), fun _ _ _ _ _ => by rw [nAt_0, e0, hwc, hcl.2]; exact ⟨hw, by omega⟩⟩, hsub⟩, fun z => absurd p0 z, fun q hq => pk_un (by omega), fun _ _ => rfl⟩
    · exact hbad (-1000002) ((if_pos e).trans (if_neg q2)) ((if_pos e).trans (if_neg q2)) ((if_pos e).trans (if_neg q2)) (by decide) (by decide)
  · exact hbad (-1000001) (if_neg e) (if_neg e) (if_neg e) (by decide) (by decide)
theorem do_ok {v : SV} {s : Nat → Int32} {su : Nat → Int64} {tk fi a : Nat} {nu X : Nat → Int32} {L : Int32} (h : SR v (sl s 0) (su 0) tk fi a) (ha : a + 200 ≤ 2000000000) (hL : L = 115 ∨ L = 122 ∨ L = 116 ∨ L = 102 ∨ L = 107 ∨ L = 103) (e : ∀ j, j < kN L → nu j = X j) : DO L nu X v s su tk a := by
  rcases hL with rfl | rfl | rfl | rfl | rfl | rfl
  · exact do_115 h ha (e 0 (by decide))
  · exact do_122 h ha (e 0 (by decide))
  · exact do_116 h ha (e 0 (by decide)) (e 1 (by decide)) (e 2 (by decide))
  · exact do_102 h ha (e 0 (by decide)) (e 1 (by decide))
  · exact do_107 h ha (e 0 (by decide))
  · exact do_103 h ha (e 0 (by decide))
