/-! ===== class and reference: the calls that only tell ===== -/
theorem sgai_nI {v : SV} {t : Nat} (ht : t < 5) : sGai v (nI t) = vGa v t := by
  unfold sGai
  rw [rowOk_nI ht, if_pos rfl, nI_clamp (by omega)]
/-- a row that is on: what the two tell of it -/
theorem row_ok {v : SV} {s : Nat → Int32} {tk fi t d : Nat} (h : SR3 v (sl s 0) tk fi) (ht : t < 5) (h1 : s (69 + t) = vDe v t) (h2 : s (74 + t) = vGa v t) (hd : vDe v t = nI d) (hd1 : 1 ≤ d) (hd2 : d ≤ 64) (w : Int32) : (if w = 0 then sDel v (nI t) else if w = 1 then sGai v (nI t) else if w = 2 then bI (sLost v (nI t)) else if w = 3 then sRead v (nI t) else sShare v (nI t)) = (if w = 0 then s (69 + t) else if w = 1 then s (74 + t) else if w = 2 then bI (gLost (sl s 0) t) else if w = 3 then gRead (sl s 0) t else gShare (sl s 0) t) := by
  have f1 : sl s 0 (69 + t) = nI d := by
    rw [sl0, h1, hd]
  have f2 : sl s 0 (74 + t) = vGa v t := by
    rw [sl0, h2]
  rw [sdel_nI ht, sgai_nI ht, lost_eq h.1 ht hd f1, read_eq h.1 ht hd f1 hd1 hd2, share_eq h.1 ht hd f1 f2 hd1 hd2, h1, h2]
theorem tof_ok {u : QV} {s : Nat → Int32} {su : Nat → Int64} {n ny c : Nat} {tx : Nat → Int32} (h : RQ u s su n tx ny c) (t w : Int32) : rTof u t w = mTofR s t w := by
  by_cases e1 : inR t 0 4 = true
  · by_cases e2 : inR w 0 4 = true
    · obtain ⟨k, rfl, -, hk⟩ := inR_ex (a := 0) (b := 4) (by decide) (by decide) e1
      have hcl : (nI k).toNatClampNeg = k := nI_clamp (by omega)
      obtain ⟨tk, fi, a, ha, hS⟩ := h.1
      have h3 := sr_sr3 hS
      refine ((if_pos e1).trans (if_pos e2)).trans (Eq.trans ?_ ((if_pos e1).trans (if_pos e2)).symm)
      rw [hcl]
      by_cases h4 : k = 4
      · subst h4
        obtain ⟨-, b1, b2, -, d, b3, b4, b5⟩ := hS.2.1
        rw [sl0] at b1 b2
        have hon : sOn (qNow u) (nI 4) = true := by
          unfold sOn
          rw [sdel_nI (by omega), b3, decide_eq_false]
          · rfl
          · intro z
            have := (nI_eqI (b := 0) (by omega) (by omega)).mp z
            omega
        refine (if_pos hon).trans (Eq.trans ?_ (if_pos (show (4 : Int32) ≤ nI 4 by decide)).symm)
        exact row_ok h3 (by omega) b1 b2 b3 b4 b5 w
      · have hn4 : ¬ (4 : Int32) ≤ nI k := fun z => by
          have := (nI_leI (a := 4) (by omega) (by omega)).mp z
          omega
        have ho := on_eq hS.2.1 (show k < 4 by omega)
        rw [sl0] at ho
        refine Eq.trans ?_ (if_neg hn4).symm
        rcases hS.2.1.1 k (by omega) with ⟨b1, b2⟩ | ⟨b1, b2, b3, b4, d, b5, b6, b7⟩
        · rw [sl0] at b1
          exact (if_neg (fun z => absurd (b1.symm.trans (ho.mpr z)) (by decide))).trans (if_pos b1).symm
        · rw [sl0] at b1 b2 b3
          refine (if_pos (ho.mp b1)).trans (Eq.trans ?_ (if_neg (fun z => absurd (b1.symm.trans z) (by decide))).symm)
          exact row_ok h3 (by omega) b2 b3 b5 b6 b7 w
    · exact ((if_pos e1).trans (if_neg e2)).trans ((if_pos e1).trans (if_neg e2)).symm
  · exact (if_neg e1).trans (if_neg e1).symm
theorem wof_ok {u : QV} {s : Nat → Int32} {su : Nat → Int64} {n ny c : Nat} {tx : Nat → Int32} (h : RQ u s su n tx ny c) (w : Int32) : rWof u w = mWofR s w := by
  by_cases e1 : inR w 0 63 = true
  · obtain ⟨k, rfl, -, hk⟩ := inR_ex (a := 0) (b := 63) (by decide) (by decide) e1
    have hcl : (nI k).toNatClampNeg = k := nI_clamp (by omega)
    obtain ⟨tk, fi, a, ha, hS⟩ := h.1
    have h64 := hS.1.1
    have htk := hS.1.2.1
    have hl : 64 - sl s 0 64 = nI (64 - tk) := by
      rw [h64]
      exact natSub (a := 64) (b := tk) (by omega)
    refine (if_pos e1).trans (Eq.trans ?_ (if_pos e1).symm)
    rw [hl, hS.1.2.2.1, hcl]
    by_cases hc : k < 64 - tk
    · refine (if_pos ((nI_ltI (by omega) (by omega)).mpr hc)).trans (Eq.trans ?_ (if_neg (fun z => by have := (nI_leI (by omega) (by omega)).mp z; omega)).symm)
      have hr := rAt_ring hS.1 k (by omega)
      rw [hS.1.2.2.1, sl0] at hr
      exact hr
    · exact (if_neg (fun z => hc ((nI_ltI (by omega) (by omega)).mp z))).trans (if_pos ((nI_leI (by omega) (by omega)).mpr (by omega))).symm
  · exact (if_neg e1).trans (if_neg e1).symm
theorem oof_ok {u : QV} {s : Nat → Int32} {su : Nat → Int64} {n ny c : Nat} {tx : Nat → Int32} (h : RQ u s su n tx ny c) (w : Int32) : rOof u w = mOofR s w := by
  obtain ⟨tk, fi, a, ha, hS⟩ := h.1
  obtain ⟨ne, ko, e1, e2, e3, e4, e5, e6⟩ := hS.2.2.2.2.1
  rw [sl0] at e5
  by_cases c0 : 0 ≤ w
  · refine (if_pos c0).trans (Eq.trans ?_ (if_pos c0).symm)
    have hw : 0 ≤ w.toInt := by
      rw [i_le] at c0
      exact c0
    obtain ⟨k, hk, hk2⟩ : ∃ k, w = nI k ∧ k < 2 ^ 31 := ⟨w.toNatClampNeg, nat_of hw, by
      have := Int32.toInt_lt w
      show w.toInt.toNat < 2 ^ 31
      omega⟩
    rw [e3, e5, hk]
    by_cases hc : k < ko
    · refine (if_pos ((nI_ltI hk2 (by omega)).mpr hc)).trans (Eq.trans ?_ (if_neg (fun z => by have := (nI_leI (by omega) hk2).mp z; omega)).symm)
      have hn : ¬ nI k < 0 := fun z => by
        have := (nI_ltI (b := 0) hk2 (by omega)).mp z
        omega
      refine (if_neg hn).trans ((if_pos ((nI_ltI hk2 (by omega)).mpr hc)).trans ?_)
      have e7 := e6 k hc
      rw [sl0] at e7
      have hj : (jfm (nI ne - 1 - nI k) 12).toNatClampNeg = (ne + 11 - k) % 12 := by
        have z12 : (12 : Int32).toInt = 12 := rfl
        have hi : (nI ne - 1 - nI k).toInt = (ne : Int) - 1 - k := by
          have z1 : (1 : Int32).toInt = 1 := rfl
          rw [Int32.toInt_sub, Int32.toInt_sub, z1, nI_toInt (by omega), nI_toInt (by omega), toInt_small (z := (ne : Int) - 1) (by omega) (by omega), toInt_small (by omega) (by omega)]
        have hm := jfm_toInt (x := nI ne - 1 - nI k) (y := 12) (by decide) (by decide)
        rw [hi, z12] at hm
        show (jfm (nI ne - 1 - nI k) 12).toInt.toNat = _
        rw [hm]
        omega
      rw [e1, nI_clamp hk2, e7, hj]
    · exact (if_neg (fun z => hc ((nI_ltI hk2 (by omega)).mp z))).trans (if_pos ((nI_leI (by omega) hk2).mpr (by omega))).symm
  · exact (if_neg c0).trans (if_neg c0).symm
theorem met_ok {u : QV} {s : Nat → Int32} {su : Nat → Int64} {n ny c : Nat} {tx : Nat → Int32} (h : RQ u s su n tx ny c) (w : Int32) : rMet u w = mMet s su w := by
  obtain ⟨tk, fi, a, ha, hS⟩ := h.1
  obtain ⟨d1, d2, d3, d4, d5, d6, d7, d8⟩ := hS.2.2.2.1
  rw [sl0] at d1 d3 d4 d5
  unfold rMet mMet
  rw [d1, d3, d4, d5, d6]
theorem metM_ok {u : QV} {s : Nat → Int32} {su : Nat → Int64} {n ny c : Nat} {tx : Nat → Int32} (h : RQ u s su n tx ny c) (hc : c ≤ 600) : (¬ vSa (qNow u) = 0 → 0 ≤ (vSu (qNow u)).toInt ∧ 0 < (vSa (qNow u)).toInt) ∧ (¬ s 81 = 0 → 0 ≤ (su 0).toInt ∧ 0 < (s 81).toInt) := by
  obtain ⟨tk, fi, a, ha, hS⟩ := h.1
  obtain ⟨d1, d2, d3, d4, d5, d6, d7, d8⟩ := hS.2.2.2.1
  rw [sl0] at d1
  have hp : ¬ vSa (qNow u) = 0 → 0 < (vSa (qNow u)).toInt := fun z => by
    rw [d2] at z ⊢
    rw [nI_toInt (by omega)]
    by_cases e : a = 0
    · subst e
      exact absurd rfl z
    · omega
  rw [d1, ← d6]
  exact ⟨fun z => ⟨d7, hp z⟩, fun z => ⟨d7, hp z⟩⟩
theorem ldc_ok {u : QV} {s : Nat → Int32} {su : Nat → Int64} {n ny c : Nat} {tx : Nat → Int32} (h : RQ u s su n tx ny c) : tapS (tLd (qNow u)) 4 = tapS (mLd s) 4 := by
  obtain ⟨tk, fi, a, ha, hS⟩ := h.1
  rw [tap_ld hS]
  refine amts_eq 4 (fun j hj => ?_)
  unfold tLd
  rcases hS.2.1.1 j hj with ⟨b1, b2⟩ | ⟨b1, b2, b3, b4, d, b5, b6, b7⟩
  · have hoff : ¬ sOn (qNow u) (nI j) = true := fun z => absurd (b1.symm.trans ((on_eq hS.2.1 hj).mpr z)) (by decide)
    rw [if_neg hoff, if_neg hoff]
  · rw [sgai_nI (by omega), jth_abs b4 ⟨hS.2.2.1.2.2.1, hS.2.2.1.2.2.2.1⟩]
theorem cntc_ok {u : QV} {s : Nat → Int32} {su : Nat → Int64} {n ny c tk fi a : Nat} {tx : Nat → Int32} (h : RQ u s su n tx ny c) (hS : SR (qNow u) (sl s 0) (su 0) tk fi a) (w : Int32) : rCnt u (64 - tk) w = mCntR s n tk (nI ny) w := by
  have h3 := sr_sr3 hS
  have e64 := hS.1.1
  have e98 := hS.2.2.2.2.2
  have e79 := hS.2.2.1.1
  have e80 := hS.2.2.1.2.1
  have e0 : 64 - sl s 0 64 = vLe (qNow u) := by
    rw [e64, hS.1.2.2.1]
    exact natSub (a := 64) (b := tk) (by have := hS.1.2.1; omega)
  have e1 := len_tk hS
  have t1 := sum_ring h3 (64 - tk) (by omega)
  have t2 := cnt_words h3 (64 - tk) (by omega)
  rw [sl0] at e64 e98 e79 e80
  unfold rCnt mCntR
  rw [e0, e1, e64, e98, e79, e80, tap_on hS, tap_lo hS, t1, t2, h.2.1.2.1, h.2.2.2.1]
theorem rq_tr {u : QV} {w : SV} {s : Nat → Int32} {su : Nat → Int64} {n ny c : Nat} {tx : Nat → Int32} (h : RQ u s su n tx ny c) : RQ (qST u w) s su n tx ny c := h
theorem mzer_ne {s : Nat → Int32} {k : Nat} (hk : 5 ≠ k) {j : Nat} (hj : j < 100) : sl (mZer s) k j = sl s k j := by
  show mZer s (100 * k + j) = _
  unfold mZer zfA
  rw [if_neg (by omega)]
  exact sl_slP_ne s 5 k (sl s 0) hk hj
theorem echc_ok {u : QV} {s : Nat → Int32} {su : Nat → Int64} {n ny c : Nat} {tx : Nat → Int32} (h : RQ u s su n tx ny c) (hc : c ≤ 600) (x a : Int32) : rEch u x a = mEchR s su x a ∧ RQ (qEch u x a) (mEchP s su x a).1 (mEchP s su x a).2 n tx ny (c + 1) := by
  by_cases e1 : inR x (-20000) 20000 = true
  · by_cases e2 : inR a 0 200 = true
    · obtain ⟨k, rfl, -, hk⟩ := inR_ex (a := 0) (b := 200) (by decide) (by decide) e2
      have r1 : rEch u x (nI k) = eOu (qZer u) x (nI k).toNatClampNeg := (if_pos e1).trans (if_pos e2)
      have q1 : qEch u x (nI k) = qST u (eIt (qZer u) x (nI k).toNatClampNeg) := (if_pos e1).trans (if_pos e2)
      have r2 : mEchR s su x (nI k) = mEo (mZer s, mZu su) x (nI k).toNatClampNeg := (if_pos e1).trans (if_pos e2)
      have s2 : mEchP s su x (nI k) = mEc (mZer s, mZu su) x (nI k).toNatClampNeg := (if_pos e1).trans (if_pos e2)
      obtain ⟨tk, fi, m, hm, hS⟩ := h.1
      have hz : SR (qZer u) (sl (mZer s) 5) (mZu su 5) tk fi m := zer_ok (cpy_ok hS)
      have he := echo_ok (p := (mZer s, mZu su)) hz (i_20 e1) k (by omega)
      rw [r1, q1, r2, s2, nI_clamp (by omega)]
      refine ⟨he.2.symm, rq_slots (rq_tr h) (by omega) (fun i hi j hj => (mec_ne _ x (by omega) hj k).trans (mzer_ne (by omega) hj)) (fun i hi => (mec_su _ x (by omega) k).trans (vp_updL_un (by omega)))⟩
    · have r1 : rEch u x a = -1000001 := (if_pos e1).trans (if_neg e2)
      have q1 : qEch u x a = u := (if_pos e1).trans (if_neg e2)
      have r2 : mEchR s su x a = -1000001 := (if_pos e1).trans (if_neg e2)
      have s2 : mEchP s su x a = (s, su) := (if_pos e1).trans (if_neg e2)
      rw [r1, q1, r2, s2]
      exact ⟨rfl, rq_mono h (by omega)⟩
  · have r1 : rEch u x a = -1000001 := if_neg e1
    have q1 : qEch u x a = u := if_neg e1
    have r2 : mEchR s su x a = -1000001 := if_neg e1
    have s2 : mEchP s su x a = (s, su) := if_neg e1
    rw [r1, q1, r2, s2]
    exact ⟨rfl, rq_mono h (by omega)⟩
theorem quac_ok {u : QV} {s : Nat → Int32} {su : Nat → Int64} {n ny c tk fi m : Nat} {tx : Nat → Int32} (h : RQ u s su n tx ny c) (hS : SR (qNow u) (sl s 0) (su 0) tk fi m) (a : Int32) : rQua u (64 - tk) a = mQuaR s su tk a ∧ RQ (qQua u (64 - tk) a) (mQuaP s su tk a).1 (mQuaP s su tk a).2 n tx ny (c + 1) := by
  by_cases e1 : inR a 0 20000 = true
  · have ha := inR_bd (a := 0) (b := 20000) (by decide) (by decide) e1
    have r1 : rQua u (64 - tk) a = (qaAll u (64 - tk) a).1 := if_pos e1
    have q1 : qQua u (64 - tk) a = qST u (qaAll u (64 - tk) a).2 := if_pos e1
    have r2 : mQuaR s su tk a = (mqAll s su tk a).1 := if_pos e1
    have s2 : mQuaP s su tk a = (mqAll s su tk a).2 := if_pos e1
    have h3 : SR3 (sCpy (qTr u) (qNow u)) (sl (mCp s 0 5, mCu su 0 5).1 5) tk fi := sr3_congr (sr_sr3 (cpy_ok hS)) (fun j hj => sl_slP s 5 (sl s 0) hj)
    have hq := fun (i : Nat) (hi : 5 ≠ i) => mq_ne (m := 64 - tk) (a := a) 501 0 (mCp s 0 5, mCu su 0 5) hi
    rw [r1, q1, r2, s2]
    refine ⟨?_, rq_slots (rq_tr h) (by omega) (fun i hi j hj => ((hq i (by omega)).1 j hj).trans (sl_slP_ne s 5 i (sl s 0) (by omega) hj)) (fun i hi => (hq i (by omega)).2.trans (vp_updL_un (by omega)))⟩
    unfold qaAll mqAll
    rw [cnt_ring h3 a]
    exact qa_ok ha.1 500 0 _ _ fi h3
  · have r1 : rQua u (64 - tk) a = -1000001 := if_neg e1
    have q1 : qQua u (64 - tk) a = u := if_neg e1
    have r2 : mQuaR s su tk a = -1000001 := if_neg e1
    have s2 : mQuaP s su tk a = (s, su) := if_neg e1
    rw [r1, q1, r2, s2]
    exact ⟨rfl, rq_mono h (by omega)⟩
theorem safc_ok {u : QV} {s : Nat → Int32} {su : Nat → Int64} {n ny c tk fi i : Nat} {tx : Nat → Int32} (h : RQ u s su n tx ny c) (hS : SR (qNow u) (sl s 0) (su 0) tk fi i) (m a : Int32) : rSaf u (64 - tk) m a = mSafR s su tk m a ∧ RQ (qSaf u (64 - tk) m a) (mSafP s su tk m a).1 (mSafP s su tk m a).2 n tx ny (c + 1) := by
  by_cases e1 : inR m 1 200 = true
  · by_cases e2 : inR a 0 20000 = true
    · have ha := inR_bd (a := 0) (b := 20000) (by decide) (by decide) e2
      have r1 : rSaf u (64 - tk) m a = (sgAll u (64 - tk) m a).1 := (if_pos e1).trans (if_pos e2)
      have q1 : qSaf u (64 - tk) m a = qST u (sgAll u (64 - tk) m a).2 := (if_pos e1).trans (if_pos e2)
      have r2 : mSafR s su tk m a = (mgAll s su tk m a).1 := (if_pos e1).trans (if_pos e2)
      have s2 : mSafP s su tk m a = (mgAll s su tk m a).2 := (if_pos e1).trans (if_pos e2)
      have hJ : JR (sCpy (qTr u) (qNow u)) (sl (s, su).1 0) tk := jr_of (sr_sr3 (cpy_ok hS))
      have hq := fun (i : Nat) (hi : 5 ≠ i) => mg_ne (m := 64 - tk) (k := m.toNatClampNeg) (a := a) 951 0 950 (s, su) hi
      rw [r1, q1, r2, s2]
      exact ⟨sg_ok ha.1 951 0 950 _ (s, su) (by omega) (by omega) hJ, rq_slots (rq_tr h) (by omega) (fun i hi j hj => (hq i (by omega)).1 j hj) (fun i hi => (hq i (by omega)).2)⟩
    · have r1 : rSaf u (64 - tk) m a = -1000001 := (if_pos e1).trans (if_neg e2)
      have q1 : qSaf u (64 - tk) m a = u := (if_pos e1).trans (if_neg e2)
      have r2 : mSafR s su tk m a = -1000001 := (if_pos e1).trans (if_neg e2)
      have s2 : mSafP s su tk m a = (s, su) := (if_pos e1).trans (if_neg e2)
      rw [r1, q1, r2, s2]
      exact ⟨rfl, rq_mono h (by omega)⟩
  · have r1 : rSaf u (64 - tk) m a = -1000001 := if_neg e1
    have q1 : qSaf u (64 - tk) m a = u := if_neg e1
    have r2 : mSafR s su tk m a = -1000001 := if_neg e1
    have s2 : mSafP s su tk m a = (s, su) := if_neg e1
    rw [r1, q1, r2, s2]
    exact ⟨rfl, rq_mono h (by omega)⟩
theorem char_nar {x : Int32} {k : Nat} (h : x = nI k) (hk : k ≤ 126) : vp_nar .char (x.toUInt32 % 65536).toInt32 = x := by
  subst h
  have e : ((nI k).toUInt32 % 65536).toInt32 = nI k := by
    apply Int32.toBitVec_inj.mp
    apply BitVec.eq_of_toNat_eq
    show ((nI k).toUInt32 % 65536).toNat = (BitVec.ofNat 32 k).toNat
    rw [UInt32.toNat_mod]
    show (BitVec.ofNat 32 k).toNat % 65536 = _
    rw [BitVec.toNat_ofNat]
    omega
  rw [pk_vc, e]
theorem typc_ok {u : QV} {s : Nat → Int32} {su : Nat → Int64} {n ny c : Nat} {tx : Nat → Int32} (h : RQ u s su n tx ny c) (x : Int32) : rTyp u x = mTypR ny x ∧ RQ (qTyp u x) s su n (mTypT tx ny x) (mTypN ny x) (c + 1) := by
  obtain ⟨hny, htl, hch⟩ := h.2.2
  by_cases e1 : inR x 32 126 = true
  · obtain ⟨k, hk, hk1, hk2⟩ := inR_ex (a := 32) (b := 126) (by decide) (by decide) e1
    have hb := inR_bd (a := 32) (b := 126) (by decide) (by decide) e1
    by_cases e2 : ny = 60
    · subst e2
      have c1 : ¬ qTl u < 60 := by
        rw [htl]
        decide
      have r1 : rTyp u x = -1000003 := (if_pos e1).trans (if_neg c1)
      have q1 : qTyp u x = u := (if_pos e1).trans (if_neg c1)
      have r2 : mTypR 60 x = -1000003 := (if_pos e1).trans (if_pos rfl)
      have s2 : mTypT tx 60 x = tx := (if_pos e1).trans (if_pos rfl)
      have n2 : mTypN 60 x = 60 := (if_pos e1).trans (if_pos rfl)
      rw [r1, q1, r2, s2, n2]
      exact ⟨rfl, rq_mono h (by omega)⟩
    · have c1 : qTl u < 60 := by
        rw [htl]
        exact (nI_ltI (b := 60) (by omega) (by omega)).mpr (by omega)
      have c2 : ¬ nI ny = 60 := fun z => e2 ((nI_eqI (b := 60) (by omega) (by omega)).mp z)
      have r1 : rTyp u x = qTl u + 1 := (if_pos e1).trans (if_pos c1)
      have q1 : qTyp u x = qTxt u (upd (qCh u) (qTl u).toNatClampNeg x) (qTl u + 1) := (if_pos e1).trans (if_pos c1)
      have r2 : mTypR ny x = nI (ny + 1) := (if_pos e1).trans (if_neg c2)
      have s2 : mTypT tx ny x = upd tx ny (vp_nar .char (x.toUInt32 % 65536).toInt32) := (if_pos e1).trans (if_neg c2)
      have n2 : mTypN ny x = ny + 1 := (if_pos e1).trans (if_neg c2)
      have h2 := rq_mono h (show c ≤ c + 1 by omega)
      rw [r1, q1, r2, s2, n2, htl, nI_clamp (by omega), char_nar hk hk2]
      refine ⟨(nI_succ ny).symm, h2.1, h2.2.1, by omega, (nI_succ ny).symm, fun j hj => ?_⟩
      show upd (qCh u) ny x j = upd tx ny x j ∧ _
      by_cases e3 : j = ny
      · subst e3
        rw [pk_us, pk_us]
        exact ⟨rfl, hb⟩
      · rw [pk_un e3, pk_un e3]
        exact hch j (by omega)
  · have r1 : rTyp u x = -1000001 := if_neg e1
    have q1 : qTyp u x = u := if_neg e1
    have r2 : mTypR ny x = -1000001 := if_neg e1
    have s2 : mTypT tx ny x = tx := if_neg e1
    have n2 : mTypN ny x = ny := if_neg e1
    rw [r1, q1, r2, s2, n2]
    exact ⟨rfl, rq_mono h (by omega)⟩
theorem clr_ok {u : QV} {s : Nat → Int32} {su : Nat → Int64} {n ny c : Nat} {tx : Nat → Int32} (h : RQ u s su n tx ny c) : qTl u = nI ny ∧ RQ (qTxt u (qCh u) 0) s su n tx 0 (c + 1) := by
  have h2 := rq_mono h (show c ≤ c + 1 by omega)
  exact ⟨h.2.2.2.1, h2.1, h2.2.1, by omega, rfl, fun j hj => absurd hj (by omega)⟩
