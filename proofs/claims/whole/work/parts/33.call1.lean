/-! ===== class and reference: the calls that change a state ===== -/
theorem sx_k {v : SV} {s : Nat → Int32} {su : Nat → Int64} {c : Nat} (h : SX v s su 0 c) : SX v (kS s) (kU su) 0 c := sx_ne (by decide) h
theorem sr_k {v : SV} {s : Nat → Int32} {su : Nat → Int64} {tk fi a : Nat} (h : SR v (sl s 0) (su 0) tk fi a) : SR v (sl (kS s) 0) (kU su 0) tk fi a := mcp_ne (by decide) h
theorem kS_lo {s : Nat → Int32} {q : Nat} (h : q < 600) : kS s q = s q := by
  show slP s 6 (sl s 0) q = s q
  unfold slP
  rw [if_neg (by omega)]
theorem m0_gS {s : Nat → Int32} {x : Int32} {q : Nat} (h : 100 ≤ q) : gS s 0 x q = s q := by
  show slP s 0 (gNx (sl s 0) x) q = s q
  unfold slP
  rw [if_neg (by omega)]
theorem m0_gSu {su : Nat → Int64} {s : Nat → Int32} {x : Int32} {k : Nat} (h : 0 < k) : gSu su s 0 x k = su k := vp_updL_un (by omega)
theorem m0_sil {p : PV} : ∀ n, (∀ q, 100 ≤ q → (mSil p n).1.1 q = p.1 q) ∧ (∀ k, 0 < k → (mSil p n).1.2 k = p.2 k)
  | 0 => ⟨fun _ _ => rfl, fun _ _ => rfl⟩
  | n + 1 => by
    have ih := m0_sil (p := p) n
    exact ⟨fun q hq => (m0_gS hq).trans (ih.1 q hq), fun k hk => (m0_gSu hk).trans (ih.2 k hk)⟩
theorem r_ok {x : Int32} (h : -30000 ≤ x.toInt) : ¬ x ≤ -1000001 := by
  have z : (-1000001 : Int32).toInt = -1000001 := by decide
  rw [i_le, z]
  omega
theorem r_nI {k : Nat} (h : k < 2 ^ 31) : ¬ nI k ≤ -1000001 := r_ok (by rw [nI_toInt h]; omega)
theorem inR_bd {x lo hi : Int32} {a b : Int} (hl : lo.toInt = a) (hh : hi.toInt = b) (h : inR x lo hi = true) : a ≤ x.toInt ∧ x.toInt ≤ b := by
  have h1 := inR_iff.mp h
  omega
theorem inR_ex {x lo hi : Int32} {a b : Nat} (hl : lo.toInt = (a : Int)) (hh : hi.toInt = (b : Int)) (h : inR x lo hi = true) : ∃ k, x = nI k ∧ a ≤ k ∧ k ≤ b := ⟨x.toNatClampNeg, inR_nat hl hh h⟩
theorem i_20 {x : Int32} (h : inR x (-20000) 20000 = true) : -30000 ≤ x.toInt ∧ x.toInt ≤ 30000 := by
  have h1 := inR_bd (a := -20000) (b := 20000) (by decide) (by decide) h
  omega
theorem sam_ok {u : QV} {s : Nat → Int32} {su : Nat → Int64} {n ny c : Nat} {tx : Nat → Int32} (h : RQ u s su n tx ny c) (hc : c ≤ 600) (x : Int32) : rSam u x = mSamR (kS s) x ∧ RQ (qSam u x) (mActS (mSamR (kS s) x) n (mSamS (kS s) x)) (mActU (mSamR (kS s) x) n (mSamU (kS s) (kU su) x)) (mActN (mSamR (kS s) x) n) tx ny (c + 1) := by
  by_cases e : inR x (-20000) 20000 = true
  · have hx := i_20 e
    have e0 : eSam x = 0 := if_pos e
    have r1 : rSam u x = sOut (qNow u) x := if_pos e0
    have q1 : qSam u x = qSN (qKeep u) (sLet (qNow u) x) := if_pos e0
    have r2 : mSamR (kS s) x = gOut (sl (kS s) 0) x := if_pos e
    have s2 : mSamS (kS s) x = gS (kS s) 0 x := if_pos e
    have u2 : mSamU (kS s) (kU su) x = gSu (kU su) (kS s) 0 x := if_pos e
    rw [r1, q1, r2, s2, u2]
    obtain ⟨tk, fi, a, ha, hS⟩ := sx_k h.1
    have ho := go_out x hS
    have hb := out_bd hS.1 hS.2.1 hS.2.2.1 hx
    exact ⟨ho.symm, rq_ch h (r_ok (by rw [ho]; exact hb.1)) ⟨tk, _, a + 1, by omega, go_ok hS (by omega) hx⟩ (fun q hq => m0_gS hq) (fun k hk => m0_gSu hk)⟩
  · have e0 : eSam x = -1000001 := if_neg e
    have n0 : ¬ eSam x = 0 := by
      rw [e0]
      decide
    have r1 : rSam u x = -1000001 := (if_neg n0).trans e0
    have q1 : qSam u x = u := if_neg n0
    have r2 : mSamR (kS s) x = -1000001 := if_neg e
    have s2 : mSamS (kS s) x = kS s := if_neg e
    have u2 : mSamU (kS s) (kU su) x = kU su := if_neg e
    rw [r1, q1, r2, s2, u2]
    exact ⟨rfl, rq_er h (by decide) rfl rfl⟩
theorem silc_ok {u : QV} {s : Nat → Int32} {su : Nat → Int64} {n ny c : Nat} {tx : Nat → Int32} (h : RQ u s su n tx ny c) (hc : c ≤ 600) (x : Int32) : rSilc u x = mSilR (kS s) (kU su) x ∧ RQ (qSilc u x) (mActS (mSilR (kS s) (kU su) x) n (mSilS (kS s) (kU su) x)) (mActU (mSilR (kS s) (kU su) x) n (mSilU (kS s) (kU su) x)) (mActN (mSilR (kS s) (kU su) x) n) tx ny (c + 1) := by
  by_cases e : inR x 1 200 = true
  · obtain ⟨k, hk, hk1, hk2⟩ := inR_ex (a := 1) (b := 200) (by decide) (by decide) e
    have e0 : eSil x = 0 := if_pos e
    have r1 : rSilc u x = (sSil (qNow u) x.toNatClampNeg).2 := if_pos e0
    have q1 : qSilc u x = qSN (qKeep u) (sSil (qNow u) x.toNatClampNeg).1 := if_pos e0
    have r2 : mSilR (kS s) (kU su) x = (mSil (kS s, kU su) x.toNatClampNeg).2 := if_pos e
    have s2 : mSilS (kS s) (kU su) x = (mSil (kS s, kU su) x.toNatClampNeg).1.1 := if_pos e
    have u2 : mSilU (kS s) (kU su) x = (mSil (kS s, kU su) x.toNatClampNeg).1.2 := if_pos e
    rw [r1, q1, r2, s2, u2, hk, nI_clamp (by omega)]
    obtain ⟨tk, fi, a, ha, hS⟩ := sx_k h.1
    obtain ⟨⟨fi2, h1⟩, h2⟩ := sil_ok hS k (by omega)
    have hb := sil_bd hS k (by omega)
    have hm := m0_sil (p := (kS s, kU su)) k
    exact ⟨h2.symm, rq_ch h (r_ok (by rw [h2]; omega)) ⟨tk, fi2, a + k, by omega, h1⟩ hm.1 hm.2⟩
  · have e0 : eSil x = -1000001 := if_neg e
    have n0 : ¬ eSil x = 0 := by
      rw [e0]
      decide
    have r1 : rSilc u x = -1000001 := (if_neg n0).trans e0
    have q1 : qSilc u x = u := if_neg n0
    have r2 : mSilR (kS s) (kU su) x = -1000001 := if_neg e
    have s2 : mSilS (kS s) (kU su) x = kS s := if_neg e
    have u2 : mSilU (kS s) (kU su) x = kU su := if_neg e
    rw [r1, q1, r2, s2, u2]
    exact ⟨rfl, rq_er h (by decide) rfl rfl⟩
theorem mtap_hi {s : Nat → Int32} {k : Nat} {d g : Int32} (hk : k < 4) {q : Nat} (h : 100 ≤ q) : mTap s k d g q = s q := by
  unfold mTap
  rw [pk_un (by omega), pk_un (by omega), pk_un (by omega)]
theorem mtap_on {s : Nat → Int32} {k : Nat} {d g : Int32} : sl (mTap s k d g) 0 (65 + k) = 1 := by
  rw [sl0]
  unfold mTap
  rw [pk_un (by omega), pk_un (by omega), pk_us]
theorem bI_ok (b : Bool) : ¬ bI b ≤ -1000001 := by
  cases b <;> decide
theorem inR_g {g : Int32} (h : inR g (-900) 900 = true) : -950 ≤ g.toInt ∧ g.toInt ≤ 950 := by
  have h1 := inR_bd (a := -900) (b := 900) (by decide) (by decide) h
  omega
theorem inR_f {g : Int32} (h : inR g 0 950 = true) : -950 ≤ g.toInt ∧ g.toInt ≤ 950 := by
  have h1 := inR_bd (a := 0) (b := 950) (by decide) (by decide) h
  omega
/-- a tap that is set in the class and in a slot -/
theorem tap_do {v : SV} {s : Nat → Int32} {S : Int64} {tk fi a : Nat} {t d g : Int32} (h : SR v (sl s 0) S tk fi a) (e1 : inR t 0 3 = true) (e2 : inR d 1 64 = true) (e3 : inR g (-900) 900 = true) : SR (sPut v t d g) (sl (mTap s t.toNatClampNeg d g) 0) S tk fi a ∧ gLost (sl (mTap s t.toNatClampNeg d g) 0) t.toNatClampNeg = sLost (sPut v t d g) t := by
  obtain ⟨k, rfl, -, hk⟩ := inR_ex (a := 0) (b := 3) (by decide) (by decide) e1
  obtain ⟨dn, rfl, hd1, hd2⟩ := inR_ex (a := 1) (b := 64) (by decide) (by decide) e2
  have h1 := tap_ok h (show k < 4 by omega) hd1 hd2 (inR_g e3)
  rw [nI_clamp (by omega)]
  exact ⟨h1, lost_on h1.1 h1.2.1 (show k < 4 by omega) mtap_on⟩
theorem tapc_ok {u : QV} {s : Nat → Int32} {su : Nat → Int64} {n ny c : Nat} {tx : Nat → Int32} (h : RQ u s su n tx ny c) (t d g : Int32) : rTap u t d g = mTapR (kS s) t d g ∧ RQ (qTap u t d g) (mActS (mTapR (kS s) t d g) n (mTapS (kS s) t d g)) (mActU (mTapR (kS s) t d g) n (kU su)) (mActN (mTapR (kS s) t d g) n) tx ny (c + 1) := by
  have hbad : eTap t d g = -1000001 → mTapR (kS s) t d g = -1000001 → mTapS (kS s) t d g = kS s → rTap u t d g = mTapR (kS s) t d g ∧ RQ (qTap u t d g) (mActS (mTapR (kS s) t d g) n (mTapS (kS s) t d g)) (mActU (mTapR (kS s) t d g) n (kU su)) (mActN (mTapR (kS s) t d g) n) tx ny (c + 1) := fun e0 r2 s2 => by
    have n0 : ¬ eTap t d g = 0 := by
      rw [e0]
      decide
    have r1 : rTap u t d g = -1000001 := (if_neg n0).trans e0
    have q1 : qTap u t d g = u := if_neg n0
    rw [r1, q1, r2, s2]
    exact ⟨rfl, rq_er h (by decide) rfl rfl⟩
  by_cases e1 : inR t 0 3 = true
  · by_cases e2 : inR d 1 64 = true
    · by_cases e3 : inR g (-900) 900 = true
      · have e0 : eTap t d g = 0 := (if_pos e1).trans ((if_pos e2).trans (if_pos e3))
        have r1 : rTap u t d g = bI (sLost (sPut (qNow u) t d g) t) := if_pos e0
        have q1 : qTap u t d g = qSN (qKeep u) (sPut (qNow u) t d g) := if_pos e0
        have r2 : mTapR (kS s) t d g = bI (gLost (sl (mTap (kS s) t.toNatClampNeg d g) 0) t.toNatClampNeg) := (if_pos e1).trans ((if_pos e2).trans (if_pos e3))
        have s2 : mTapS (kS s) t d g = mTap (kS s) t.toNatClampNeg d g := (if_pos e1).trans ((if_pos e2).trans (if_pos e3))
        obtain ⟨tk, fi, a, ha, hS⟩ := sx_k h.1
        have ht := tap_do hS e1 e2 e3
        have hk := (inR_nat (a := 0) (b := 3) (by decide) (by decide) e1).2.2
        rw [r1, q1, r2, s2, ht.2]
        exact ⟨rfl, rq_ch h (bI_ok _) ⟨tk, fi, a, by omega, ht.1⟩ (fun q hq => mtap_hi (by omega) hq) (fun k hk => rfl)⟩
      · exact hbad ((if_pos e1).trans ((if_pos e2).trans (if_neg e3))) ((if_pos e1).trans ((if_pos e2).trans (if_neg e3))) ((if_pos e1).trans ((if_pos e2).trans (if_neg e3)))
    · exact hbad ((if_pos e1).trans (if_neg e2)) ((if_pos e1).trans (if_neg e2)) ((if_pos e1).trans (if_neg e2))
  · exact hbad (if_neg e1) (if_neg e1) (if_neg e1)
theorem fee_do {v : SV} {s : Nat → Int32} {S : Int64} {tk fi a : Nat} {d g : Int32} (h : SR v (sl s 0) S tk fi a) (e2 : inR d 1 64 = true) (e3 : inR g 0 950 = true) : SR (sPut v 4 d g) (sl (upd (upd s 73 d) 78 g) 0) S tk fi a := by
  obtain ⟨dn, rfl, hd1, hd2⟩ := inR_ex (a := 1) (b := 64) (by decide) (by decide) e2
  exact fee_ok h hd1 hd2 (inR_f e3)
theorem fee_g {v : SV} {s : Nat → Int32} {S : Int64} {tk fi a : Nat} (h : SR v (sl s 0) S tk fi a) : s 78 = vGa v 4 ∧ -950 ≤ (s 78).toInt := by
  have h1 := h.2.1.2.2.1
  have h2 := h.2.1.2.2.2.1
  rw [sl0] at h1
  rw [h1]
  exact ⟨rfl, h2.1⟩
theorem feec_ok {u : QV} {s : Nat → Int32} {su : Nat → Int64} {n ny c : Nat} {tx : Nat → Int32} (h : RQ u s su n tx ny c) (d g : Int32) : rFee u d g = mFeeR (kS s) d g ∧ RQ (qFee u d g) (mActS (mFeeR (kS s) d g) n (mFeeS (kS s) d g)) (mActU (mFeeR (kS s) d g) n (kU su)) (mActN (mFeeR (kS s) d g) n) tx ny (c + 1) := by
  have hbad : eFee d g = -1000001 → mFeeR (kS s) d g = -1000001 → mFeeS (kS s) d g = kS s → rFee u d g = mFeeR (kS s) d g ∧ RQ (qFee u d g) (mActS (mFeeR (kS s) d g) n (mFeeS (kS s) d g)) (mActU (mFeeR (kS s) d g) n (kU su)) (mActN (mFeeR (kS s) d g) n) tx ny (c + 1) := fun e0 r2 s2 => by
    have n0 : ¬ eFee d g = 0 := by
      rw [e0]
      decide
    have r1 : rFee u d g = -1000001 := (if_neg n0).trans e0
    have q1 : qFee u d g = u := if_neg n0
    rw [r1, q1, r2, s2]
    exact ⟨rfl, rq_er h (by decide) rfl rfl⟩
  by_cases e2 : inR d 1 64 = true
  · by_cases e3 : inR g 0 950 = true
    · have e0 : eFee d g = 0 := (if_pos e2).trans (if_pos e3)
      have r1 : rFee u d g = vGa (qNow u) 4 := if_pos e0
      have q1 : qFee u d g = qSN (qKeep u) (sPut (qNow u) 4 d g) := if_pos e0
      have r2 : mFeeR (kS s) d g = kS s 78 := (if_pos e2).trans (if_pos e3)
      have s2 : mFeeS (kS s) d g = upd (upd (kS s) 73 d) 78 g := (if_pos e2).trans (if_pos e3)
      obtain ⟨tk, fi, a, ha, hS⟩ := sx_k h.1
      have hg := fee_g hS
      rw [r1, q1, r2, s2]
      exact ⟨hg.1.symm, rq_ch h (r_ok (by omega)) ⟨tk, fi, a, by omega, fee_do hS e2 e3⟩ (fun q hq => by rw [pk_un (by omega), pk_un (by omega)]) (fun k hk => rfl)⟩
    · exact hbad ((if_pos e2).trans (if_neg e3)) ((if_pos e2).trans (if_neg e3)) ((if_pos e2).trans (if_neg e3))
  · exact hbad (if_neg e2) (if_neg e2) (if_neg e2)
theorem len_tk {v : SV} {f : Nat → Int32} {S : Int64} {tk fi a : Nat} (h : SR v f S tk fi a) : 64 - vLe v = nI tk := by
  rw [h.1.2.2.1]
  exact natSub (a := 64) (b := 64 - tk) (by have := h.1.2.1; omega)
theorem mst3_hi {s : Nat → Int32} {tk w : Nat} {q : Nat} (hw : tk + w ≤ 48) (h : 100 ≤ q) : mSt3 s tk w q = s q := by
  unfold mSt3 zfA
  rw [if_neg (by omega)]
  unfold mSt2 mSt1
  rw [pk_un (by omega), pk_un (by omega)]
theorem stec_ok {u : QV} {s : Nat → Int32} {su : Nat → Int64} {n ny c tk fi a : Nat} {tx : Nat → Int32} (h : RQ u s su n tx ny c) (ha : a ≤ 30000 * c) (hS0 : SR (qNow u) (sl s 0) (su 0) tk fi a) (x : Int32) : rSte u x = mSteR tk x ∧ RQ (qSte u x) (mActS (mSteR tk x) n (mSteS (kS s) tk x)) (mActU (mSteR tk x) n (kU su)) (mActN (mSteR tk x) n) tx ny (c + 1) := by
  have hS := sr_k hS0
  have hl := len_tk hS0
  have htk := hS0.1.2.1
  have hbad : ∀ y : Int32, eSte x (nI tk) = y → mSteR tk x = y → mSteS (kS s) tk x = kS s → ¬ y = 0 → y ≤ -1000001 → rSte u x = mSteR tk x ∧ RQ (qSte u x) (mActS (mSteR tk x) n (mSteS (kS s) tk x)) (mActU (mSteR tk x) n (kU su)) (mActN (mSteR tk x) n) tx ny (c + 1) := fun y e0 r2 s2 hy hy2 => by
    have n0 : ¬ eSte x (64 - vLe (qNow u)) = 0 := by
      rw [hl, e0]
      exact hy
    have r1 : rSte u x = y := (if_neg n0).trans (by rw [hl]; exact e0)
    have q1 : qSte u x = u := if_neg n0
    rw [r1, q1, r2, s2]
    exact ⟨rfl, rq_er h hy2 rfl rfl⟩
  by_cases e : inR x 1 48 = true
  · obtain ⟨w, rfl, hw1, hw2⟩ := inR_ex (a := 1) (b := 48) (by decide) (by decide) e
    have hcl : (nI w).toNatClampNeg = w := nI_clamp (by omega)
    by_cases e2 : nI tk + nI w ≤ 48
    · have e0 : eSte (nI w) (64 - vLe (qNow u)) = 0 := by
        rw [hl]
        exact (if_pos e).trans (if_pos e2)
      have e3 : nI (tk + (nI w).toNatClampNeg) ≤ 48 := by
        rw [hcl, ← nI_add]
        exact e2
      have hle : tk + w ≤ 48 := (nI_leI (b := 48) (by omega) (by omega)).mp (by rw [← nI_add]; exact e2)
      have r1 : rSte u (nI w) = imax (vLe (qNow u) - nI w) 0 := if_pos e0
      have q1 : qSte u (nI w) = qSN (qKeep u) (sTak (qNow u) (nI w)) := if_pos e0
      have r2 : mSteR tk (nI w) = nI (64 - (tk + (nI w).toNatClampNeg)) := (if_pos e).trans (if_pos e3)
      have s2 : mSteS (kS s) tk (nI w) = mSt3 (kS s) tk (nI w).toNatClampNeg := (if_pos e).trans (if_pos e3)
      have hs := ste_ok hS hle
      rw [r1, q1, r2, s2, hcl]
      exact ⟨hs.1.2.2.1, rq_ch h (r_nI (by omega)) ⟨_, fi, a, by omega, hs⟩ (fun q hq => mst3_hi hle hq) (fun k hk => rfl)⟩
    · have e3 : ¬ nI (tk + (nI w).toNatClampNeg) ≤ 48 := by
        rw [hcl, ← nI_add]
        exact e2
      exact hbad (-1000003) ((if_pos e).trans (if_neg e2)) ((if_pos e).trans (if_neg e3)) ((if_pos e).trans (if_neg e3)) (by decide) (by decide)
  · exact hbad (-1000001) (if_neg e) (if_neg e) (if_neg e) (by decide) (by decide)
theorem givc_ok {u : QV} {s : Nat → Int32} {su : Nat → Int64} {n ny c tk fi a : Nat} {tx : Nat → Int32} (h : RQ u s su n tx ny c) (ha : a ≤ 30000 * c) (hS0 : SR (qNow u) (sl s 0) (su 0) tk fi a) (x : Int32) : rGiv u (64 - tk) x = mGivR tk x ∧ RQ (qGiv u (64 - tk) x) (mActS (mGivR tk x) n (mGivS (kS s) tk x)) (mActU (mGivR tk x) n (kU su)) (mActN (mGivR tk x) n) tx ny (c + 1) := by
  have hS := sr_k hS0
  have hl := len_tk hS0
  have htk := hS0.1.2.1
  have hbad : ∀ y : Int32, eGiv x (nI tk) = y → mGivR tk x = y → mGivS (kS s) tk x = kS s → ¬ y = 0 → y ≤ -1000001 → rGiv u (64 - tk) x = mGivR tk x ∧ RQ (qGiv u (64 - tk) x) (mActS (mGivR tk x) n (mGivS (kS s) tk x)) (mActU (mGivR tk x) n (kU su)) (mActN (mGivR tk x) n) tx ny (c + 1) := fun y e0 r2 s2 hy hy2 => by
    have n0 : ¬ eGiv x (64 - vLe (qNow u)) = 0 := by
      rw [hl, e0]
      exact hy
    have r1 : rGiv u (64 - tk) x = y := (if_neg n0).trans (by rw [hl]; exact e0)
    have q1 : qGiv u (64 - tk) x = u := if_neg n0
    rw [r1, q1, r2, s2]
    exact ⟨rfl, rq_er h hy2 rfl rfl⟩
  by_cases e : inR x 1 48 = true
  · obtain ⟨w, rfl, hw1, hw2⟩ := inR_ex (a := 1) (b := 48) (by decide) (by decide) e
    have hcl : (nI w).toNatClampNeg = w := nI_clamp (by omega)
    by_cases e2 : nI w ≤ nI tk
    · have e0 : eGiv (nI w) (64 - vLe (qNow u)) = 0 := by
        rw [hl]
        exact (if_pos e).trans (if_pos e2)
      have hle : w ≤ tk := (nI_leI (by omega) (by omega)).mp e2
      have r1 : rGiv u (64 - tk) (nI w) = nI (64 - tk + (nI w).toNatClampNeg) := if_pos e0
      have q1 : qGiv u (64 - tk) (nI w) = qSN (qKeep u) (sGiv (qNow u) (64 - tk) (nI w).toNatClampNeg) := if_pos e0
      have r2 : mGivR tk (nI w) = nI (64 - (tk - (nI w).toNatClampNeg)) := (if_pos e).trans (if_pos e2)
      have s2 : mGivS (kS s) tk (nI w) = upd (kS s) 64 (nI (tk - (nI w).toNatClampNeg)) := (if_pos e).trans (if_pos e2)
      have hs := giv_ok hS hle
      rw [r1, q1, r2, s2, hcl]
      exact ⟨hs.1.2.2.1, rq_ch h (r_nI (by omega)) ⟨_, fi, a, by omega, hs⟩ (fun q hq => pk_un (by omega)) (fun k hk => rfl)⟩
    · exact hbad (-1000002) ((if_pos e).trans (if_neg e2)) ((if_pos e).trans (if_neg e2)) ((if_pos e).trans (if_neg e2)) (by decide) (by decide)
  · exact hbad (-1000001) (if_neg e) (if_neg e) (if_neg e) (by decide) (by decide)
