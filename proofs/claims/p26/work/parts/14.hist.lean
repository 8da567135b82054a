/-! ===== aliases of loops: lengths and counts by a number ===== -/
theorem c2_X5_lengthen (E : XE) (N b : Nat) (G : GW) (w : Nat → Int32) (fi le x : Int32) (l k : Nat) (hle : le = nI l) (hx : x = nI k) (hl : l + k ≤ 64) (hb_b : xB E ≤ b) (hn_b : b + 2 ≤ N) : MF E yX5_lengthen cX5_lengthen 4 none 1 21 0 0 [.ref b, .int x] N (ov b (ringC E b w fi le) G) none (ov b (ringC E b (rZf w fi l k) fi (nI (l + k))) G) := by
  subst hle
  subst hx
  exact c_X5_lengthen E N b G w fi l k hl hb_b hn_b
theorem c2_X5_wordsAbove (E : XE) (N b : Nat) (G : GW) (w : Nat → Int32) (fi le x : Int32) (l : Nat) (hle : le = nI l) (hl : l ≤ 64) (hb_b : xB E ≤ b) (hn_b : b + 2 ≤ N) : MF E yX5_wordsAbove cX5_wordsAbove 4 (some .int) 1 21 0 0 [.ref b, .int x] N (ov b (ringC E b w fi le) G) (some (.int (cntAb (fun j => rAt w fi le (nI j)) x l))) (ov b (ringC E b w fi le) G) := by
  subst hle
  exact c_X5_wordsAbove E N b G w fi l x hl hb_b hn_b
theorem c2_X5_sumOfAmounts (E : XE) (N b : Nat) (G : GW) (w : Nat → Int32) (fi le : Int32) (l : Nat) (hle : le = nI l) (hl : l ≤ 64) (hb_b : xB E ≤ b) (hn_b : b + 2 ≤ N) : MF E yX5_sumOfAmounts cX5_sumOfAmounts 3 (some .int) 1 21 0 0 [.ref b] N (ov b (ringC E b w fi le) G) (some (.int (sumAb (fun j => rAt w fi le (nI j)) l))) (ov b (ringC E b w fi le) G) := by
  subst hle
  exact c_X5_sumOfAmounts E N b G w fi l hl hb_b hn_b
/-! ===== the whole object ===== -/
abbrev QV : Type := SV × SV × SV × SV × SV × SV × Int32 × Int32 × (Nat → Int32) × Int32 × (Nat → Int32) × Int32 × Int32 × Int32 × Int32 × Int32 × Int32 × Int32
abbrev mkQ (now : SV) (trial : SV) (h0 : SV) (h1 : SV) (h2 : SV) (h3 : SV) (ol : Int32) (ke : Int32) (ch : Nat → Int32) (tl : Int32) (nu : Nat → Int32) (ki : Int32) (en : Int32) (wh : Int32) (ft : Int32) (fp : Int32) (fr : Int32) (fc : Int32) : QV := (now, trial, h0, h1, h2, h3, ol, ke, ch, tl, nu, ki, en, wh, ft, fp, fr, fc)
abbrev qNow (u : QV) : SV := u.1
abbrev qTr (u : QV) : SV := u.2.1
abbrev qH0 (u : QV) : SV := u.2.2.1
abbrev qH1 (u : QV) : SV := u.2.2.2.1
abbrev qH2 (u : QV) : SV := u.2.2.2.2.1
abbrev qH3 (u : QV) : SV := u.2.2.2.2.2.1
abbrev qOl (u : QV) : Int32 := u.2.2.2.2.2.2.1
abbrev qKe (u : QV) : Int32 := u.2.2.2.2.2.2.2.1
abbrev qCh (u : QV) : Nat → Int32 := u.2.2.2.2.2.2.2.2.1
abbrev qTl (u : QV) : Int32 := u.2.2.2.2.2.2.2.2.2.1
abbrev qNu (u : QV) : Nat → Int32 := u.2.2.2.2.2.2.2.2.2.2.1
abbrev qKi (u : QV) : Int32 := u.2.2.2.2.2.2.2.2.2.2.2.1
abbrev qEn (u : QV) : Int32 := u.2.2.2.2.2.2.2.2.2.2.2.2.1
abbrev qWh (u : QV) : Int32 := u.2.2.2.2.2.2.2.2.2.2.2.2.2.1
abbrev qFt (u : QV) : Int32 := u.2.2.2.2.2.2.2.2.2.2.2.2.2.2.1
abbrev qFp (u : QV) : Int32 := u.2.2.2.2.2.2.2.2.2.2.2.2.2.2.2.1
abbrev qFr (u : QV) : Int32 := u.2.2.2.2.2.2.2.2.2.2.2.2.2.2.2.2.1
abbrev qFc (u : QV) : Int32 := u.2.2.2.2.2.2.2.2.2.2.2.2.2.2.2.2.2
def qT (E : XE) (b : Nat) (u : QV) : List va_E := xC E b (qNow u) (qTr u) (qH0 u) (qH1 u) (qH2 u) (qH3 u) (qOl u) (qKe u) (qCh u) (qTl u) (qNu u) (qKi u) (qEn u) (qWh u) (qFt u) (qFp u) (qFr u) (qFc u)
def kOl (ol ke : Int32) : Int32 := if ke < 4 then ol else (ol + 1) - (ol + 1) / 4 * 4
def kKe (ke : Int32) : Int32 := if ke < 4 then ke else 3
def kIx (ol ke : Int32) : Int32 := jfm (kOl ol ke + kKe ke) 4
def kp (j : Int32) (ol ke : Int32) (h now : SV) : SV := if kIx ol ke = j then sCpy h now else h
def rIxH (ol ke : Int32) : Int32 := jfm (ol + (ke - 1)) 4
def rsN (ol ke : Int32) (now h0 h1 h2 h3 : SV) : SV := if rIxH ol ke = 0 then sCpy now h0 else if rIxH ol ke = 1 then sCpy now h1 else if rIxH ol ke = 2 then sCpy now h2 else sCpy now h3
theorem hArr_at {b k : Nat} (h : k < 4) : hArr b k = some (b + 8 * k) := by
  rcases (show k = 0 ∨ k = 1 ∨ k = 2 ∨ k = 3 by omega) with rfl | rfl | rfl | rfl <;> rfl
theorem jfm4 (x : Int32) : jfm x 4 = 0 ∨ jfm x 4 = 1 ∨ jfm x 4 = 2 ∨ jfm x 4 = 3 := by
  have h := jfm_toInt (x := x) (y := 4) (by decide) (by decide)
  have e : (4 : Int32).toInt = 4 := rfl
  have e0 : (0 : Int32).toInt = 0 := rfl
  have e1 : (1 : Int32).toInt = 1 := rfl
  have e2 : (2 : Int32).toInt = 2 := rfl
  have e3 : (3 : Int32).toInt = 3 := rfl
  simp only [← Int32.toInt_inj, e0, e1, e2, e3]
  rw [e] at h
  omega
def qKeep (u : QV) : QV := mkQ (qNow u) (qTr u) (kp 0 (qOl u) (qKe u) (qH0 u) (qNow u)) (kp 1 (qOl u) (qKe u) (qH1 u) (qNow u)) (kp 2 (qOl u) (qKe u) (qH2 u) (qNow u)) (kp 3 (qOl u) (qKe u) (qH3 u) (qNow u)) (kOl (qOl u) (qKe u)) (kKe (qKe u) + 1) (qCh u) (qTl u) (qNu u) (qKi u) (qEn u) (qWh u) (qFt u) (qFp u) (qFr u) (qFc u)
def qSN (u : QV) (now : SV) : QV := mkQ now (qTr u) (qH0 u) (qH1 u) (qH2 u) (qH3 u) (qOl u) (qKe u) (qCh u) (qTl u) (qNu u) (qKi u) (qEn u) (qWh u) (qFt u) (qFp u) (qFr u) (qFc u)
def qST (u : QV) (trial : SV) : QV := mkQ (qNow u) trial (qH0 u) (qH1 u) (qH2 u) (qH3 u) (qOl u) (qKe u) (qCh u) (qTl u) (qNu u) (qKi u) (qEn u) (qWh u) (qFt u) (qFp u) (qFr u) (qFc u)
def qRest (u : QV) : QV := mkQ (rsN (qOl u) (qKe u) (qNow u) (qH0 u) (qH1 u) (qH2 u) (qH3 u)) (qTr u) (qH0 u) (qH1 u) (qH2 u) (qH3 u) (qOl u) (qKe u - 1) (qCh u) (qTl u) (qNu u) (qKi u) (qEn u) (qWh u) (qFt u) (qFp u) (qFr u) (qFc u)
theorem vp_in_d4 {x : Int32} {k : Nat} (h : x = nI k) (hk : k < 4) : vp_in x 4 := by rw [h]; exact vp_in_nI hk (by decide)
set_option maxRecDepth 100000 in
set_option maxHeartbeats 4000000 in
theorem c_X1_stateAt (E : XE) (N ob : Nat) (G : GW) (u : QV) (age : Int32) (k : Nat) (hk : jfm (qOl u + age) 4 = nI k) (hk4 : k < 4) (hb_ob : xB E ≤ ob) (hn_ob : ob + 56 ≤ N) : MF E yX1_stateAt cX1_stateAt 2 (some (.object "SharedEchoes$State")) 1 22 0 0 [.ref (ob + 17), .int age] N (ov ob (xC E ob (qNow u) (qTr u) (qH0 u) (qH1 u) (qH2 u) (qH3 u) (qOl u) (qKe u) (qCh u) (qTl u) (qNu u) (qKi u) (qEn u) (qWh u) (qFt u) (qFp u) (qFr u) (qFc u)) G) (some ((.ref (ob + 17 + 2 + 8 * k)))) (ov ob (xC E ob (qNow u) (qTr u) (qH0 u) (qH1 u) (qH2 u) (qH3 u) (qOl u) (qKe u) (qCh u) (qTl u) (qNu u) (qKi u) (qEn u) (qWh u) (qFt u) (qFp u) (qFr u) (qFc u)) G) := by
  refine MF.mk RX1 rfl (by decide +kernel) rfl (fun K C Z hin hN => ?_)
  show XW E K 2 N 0 0 _ 0 [(0, .ref (ob + 17)), (1, .int age)] []
  refine x_aload_n C dX1_stateAt_0 0 rfl ?_
  refine x_get C (xlo (i := 17) hb_ob) (xhi (i := 17) hn_ob rfl) (ov_at (i := 17) rfl) f_X1_11 rfl dX1_stateAt_1 ?_
  refine x_aload_n C dX1_stateAt_4 0 rfl ?_
  refine x_get C (xlo (i := 17) hb_ob) (xhi (i := 17) hn_ob rfl) (ov_at (i := 17) rfl) f_X1_18 rfl dX1_stateAt_5 ?_
  refine x_iload_n C dX1_stateAt_8 1 rfl ?_
  refine x_iadd C dX1_stateAt_9 ?_
  refine x_iconst C 4 dX1_stateAt_10 rfl ?_
  refine x_cS1 C (c_J9_floorMod_7cf53 E N _ ((qOl u) + age) 4 (by first | assumption | omega | decide)) v_X1_22 hN rfl rfl rfl rfl dX1_stateAt_11 ?_
  refine x_aald C (ob + 17 + 2 + 8 * k) (xlo (i := 18) hb_ob) (xhi (i := 18) hn_ob rfl) (ov_at (i := 18) rfl) (vp_in_d4 (by rw [hk]) hk4) (by rw [hk, nI_clamp (by omega)]; exact hArr_at hk4) dX1_stateAt_14 ?_
  exact x_aret C Z rfl rfl rfl dX1_stateAt_15

set_option maxRecDepth 100000 in
set_option maxHeartbeats 4000000 in
theorem c_X1_keep (E : XE) (N ob : Nat) (G : GW) (u : QV) (hb_ob : xB E ≤ ob) (hn_ob : ob + 56 ≤ N) : MF E yX1_keep cX1_keep 3 none 3 102 0 0 [.ref (ob + 17), .ref (ob + 1)] N (ov ob (xC E ob (qNow u) (qTr u) (qH0 u) (qH1 u) (qH2 u) (qH3 u) (qOl u) (qKe u) (qCh u) (qTl u) (qNu u) (qKi u) (qEn u) (qWh u) (qFt u) (qFp u) (qFr u) (qFc u)) G) none (ov ob (xC E ob (qNow (qKeep u)) (qTr (qKeep u)) (qH0 (qKeep u)) (qH1 (qKeep u)) (qH2 (qKeep u)) (qH3 (qKeep u)) (qOl (qKeep u)) (qKe (qKeep u)) (qCh (qKeep u)) (qTl (qKeep u)) (qNu (qKeep u)) (qKi (qKeep u)) (qEn (qKeep u)) (qWh (qKeep u)) (qFt (qKeep u)) (qFp (qKeep u)) (qFr (qKeep u)) (qFc (qKeep u))) G) := by
  refine MF.mk RX1 rfl (by decide +kernel) rfl (fun K C Z hin hN => ?_)
  show XW E K 3 N 0 0 _ 0 [(0, .ref (ob + 17)), (1, .ref (ob + 1))] []
  refine x_aload_n C dX1_keep_0 0 rfl ?_
  refine x_get C (xlo (i := 17) hb_ob) (xhi (i := 17) hn_ob rfl) (ov_at (i := 17) rfl) f_X1_28 rfl dX1_keep_1 ?_
  refine x_iconst C 4 dX1_keep_4 rfl ?_
  refine x_icmp_lt C 25 dX1_keep_5 rfl (fun c5 => ?_) (fun c5 => ?_)
  · refine x_aload_n C dX1_keep_25 0 rfl ?_
    refine x_aload_n C dX1_keep_26 0 rfl ?_
    refine x_get C (xlo (i := 17) hb_ob) (xhi (i := 17) hn_ob rfl) (ov_at (i := 17) rfl) f_X1_28 rfl dX1_keep_27 ?_
    rcases jfm4 ((qOl u) + (qKe u)) with k4 | k4 | k4 | k4
    · refine x_cV1 C (c_X1_stateAt E N ob G (mkQ (qNow u) (qTr u) (qH0 u) (qH1 u) (qH2 u) (qH3 u) (qOl u) (qKe u) (qCh u) (qTl u) (qNu u) (qKi u) (qEn u) (qWh u) (qFt u) (qFp u) (qFr u) (qFc u)) (qKe u) 0 k4 (by decide) hb_ob hn_ob) v_X1_31 hN (xlo (i := 17) hb_ob) (xhi (i := 17) hn_ob rfl) (ov_at (i := 17) rfl) rfl rfl rfl rfl rfl dX1_keep_30 ?_
      refine x_astore_n (L' := [(2, .ref (ob + 19)), (0, .ref (ob + 17)), (1, .ref (ob + 1))]) C dX1_keep_33 rfl rfl ?_
      refine x_aload_n C dX1_keep_34 0 rfl ?_
      refine x_ifnull C dX1_keep_35 ?_
      refine x_aload_n C dX1_keep_38 0 rfl ?_
      refine x_aload_n C dX1_keep_39 2 rfl ?_
      refine x_cV0 C (MF.slice2s (i := 19) (j := 1) (n := 8) (k := 8) (cs' := xC E ob (qNow u) (qTr u) (sCpy (qH0 u) (qNow u)) (qH1 u) (qH2 u) (qH3 u) (qOl u) (qKe u) (qCh u) (qTl u) (qNu u) (qKi u) (qEn u) (qWh u) (qFt u) (qFp u) (qFr u) (qFc u)) rfl rfl rfl (Nat.le_of_ble_eq_true rfl) rfl (c_X6_takeOver E N (ob + 19) (ob + 1) _ (qH0 u) (qNow u) (xlo (i := 19) hb_ob) (xhn (i := 19) (n := 8) hn_ob rfl) (xlo (i := 1) hb_ob) (xhn (i := 1) (n := 8) hn_ob rfl) (by omega))) v_X1_35 hN (xlo (i := 19) hb_ob) (xhi (i := 19) hn_ob rfl) (ov_at (i := 19) rfl) rfl rfl rfl rfl rfl dX1_keep_40 ?_
      refine x_aload_n C dX1_keep_43 1 rfl ?_
      refine x_dup C dX1_keep_44 rfl ?_
      refine x_get C (xlo (i := 17) hb_ob) (xhi (i := 17) hn_ob rfl) (ov_at (i := 17) rfl) f_X1_28 rfl dX1_keep_45 ?_
      refine x_iconst C 1 dX1_keep_48 rfl ?_
      refine x_iadd C dX1_keep_49 ?_
      refine x_put (G' := ov ob (xC E ob (qNow u) (qTr u) (sCpy (qH0 u) (qNow u)) (qH1 u) (qH2 u) (qH3 u) (qOl u) ((qKe u) + 1) (qCh u) (qTl u) (qNu u) (qKi u) (qEn u) (qWh u) (qFt u) (qFp u) (qFr u) (qFc u)) G) C (xlo (i := 17) hb_ob) (xhi (i := 17) hn_ob rfl) (ov_at (i := 17) rfl) f_X1_28 xt_X1 rfl rfl rfl rfl (ov_set (i := 17) rfl rfl) dX1_keep_50 ?_
      exact x_vret C Z rfl rfl (by simp [qKeep, kp, kIx, kOl, kKe, c5, k4]) dX1_keep_53
    · refine x_cV1 C (c_X1_stateAt E N ob G (mkQ (qNow u) (qTr u) (qH0 u) (qH1 u) (qH2 u) (qH3 u) (qOl u) (qKe u) (qCh u) (qTl u) (qNu u) (qKi u) (qEn u) (qWh u) (qFt u) (qFp u) (qFr u) (qFc u)) (qKe u) 1 k4 (by decide) hb_ob hn_ob) v_X1_31 hN (xlo (i := 17) hb_ob) (xhi (i := 17) hn_ob rfl) (ov_at (i := 17) rfl) rfl rfl rfl rfl rfl dX1_keep_30 ?_
      refine x_astore_n (L' := [(2, .ref (ob + 27)), (0, .ref (ob + 17)), (1, .ref (ob + 1))]) C dX1_keep_33 rfl rfl ?_
      refine x_aload_n C dX1_keep_34 0 rfl ?_
      refine x_ifnull C dX1_keep_35 ?_
      refine x_aload_n C dX1_keep_38 0 rfl ?_
      refine x_aload_n C dX1_keep_39 2 rfl ?_
      refine x_cV0 C (MF.slice2s (i := 27) (j := 1) (n := 8) (k := 8) (cs' := xC E ob (qNow u) (qTr u) (qH0 u) (sCpy (qH1 u) (qNow u)) (qH2 u) (qH3 u) (qOl u) (qKe u) (qCh u) (qTl u) (qNu u) (qKi u) (qEn u) (qWh u) (qFt u) (qFp u) (qFr u) (qFc u)) rfl rfl rfl (Nat.le_of_ble_eq_true rfl) rfl (c_X6_takeOver E N (ob + 27) (ob + 1) _ (qH1 u) (qNow u) (xlo (i := 27) hb_ob) (xhn (i := 27) (n := 8) hn_ob rfl) (xlo (i := 1) hb_ob) (xhn (i := 1) (n := 8) hn_ob rfl) (by omega))) v_X1_35 hN (xlo (i := 27) hb_ob) (xhi (i := 27) hn_ob rfl) (ov_at (i := 27) rfl) rfl rfl rfl rfl rfl dX1_keep_40 ?_
      refine x_aload_n C dX1_keep_43 1 rfl ?_
      refine x_dup C dX1_keep_44 rfl ?_
      refine x_get C (xlo (i := 17) hb_ob) (xhi (i := 17) hn_ob rfl) (ov_at (i := 17) rfl) f_X1_28 rfl dX1_keep_45 ?_
      refine x_iconst C 1 dX1_keep_48 rfl ?_
      refine x_iadd C dX1_keep_49 ?_
      refine x_put (G' := ov ob (xC E ob (qNow u) (qTr u) (qH0 u) (sCpy (qH1 u) (qNow u)) (qH2 u) (qH3 u) (qOl u) ((qKe u) + 1) (qCh u) (qTl u) (qNu u) (qKi u) (qEn u) (qWh u) (qFt u) (qFp u) (qFr u) (qFc u)) G) C (xlo (i := 17) hb_ob) (xhi (i := 17) hn_ob rfl) (ov_at (i := 17) rfl) f_X1_28 xt_X1 rfl rfl rfl rfl (ov_set (i := 17) rfl rfl) dX1_keep_50 ?_
      exact x_vret C Z rfl rfl (by simp [qKeep, kp, kIx, kOl, kKe, c5, k4]) dX1_keep_53
    · refine x_cV1 C (c_X1_stateAt E N ob G (mkQ (qNow u) (qTr u) (qH0 u) (qH1 u) (qH2 u) (qH3 u) (qOl u) (qKe u) (qCh u) (qTl u) (qNu u) (qKi u) (qEn u) (qWh u) (qFt u) (qFp u) (qFr u) (qFc u)) (qKe u) 2 k4 (by decide) hb_ob hn_ob) v_X1_31 hN (xlo (i := 17) hb_ob) (xhi (i := 17) hn_ob rfl) (ov_at (i := 17) rfl) rfl rfl rfl rfl rfl dX1_keep_30 ?_
      refine x_astore_n (L' := [(2, .ref (ob + 35)), (0, .ref (ob + 17)), (1, .ref (ob + 1))]) C dX1_keep_33 rfl rfl ?_
      refine x_aload_n C dX1_keep_34 0 rfl ?_
      refine x_ifnull C dX1_keep_35 ?_
      refine x_aload_n C dX1_keep_38 0 rfl ?_
      refine x_aload_n C dX1_keep_39 2 rfl ?_
      refine x_cV0 C (MF.slice2s (i := 35) (j := 1) (n := 8) (k := 8) (cs' := xC E ob (qNow u) (qTr u) (qH0 u) (qH1 u) (sCpy (qH2 u) (qNow u)) (qH3 u) (qOl u) (qKe u) (qCh u) (qTl u) (qNu u) (qKi u) (qEn u) (qWh u) (qFt u) (qFp u) (qFr u) (qFc u)) rfl rfl rfl (Nat.le_of_ble_eq_true rfl) rfl (c_X6_takeOver E N (ob + 35) (ob + 1) _ (qH2 u) (qNow u) (xlo (i := 35) hb_ob) (xhn (i := 35) (n := 8) hn_ob rfl) (xlo (i := 1) hb_ob) (xhn (i := 1) (n := 8) hn_ob rfl) (by omega))) v_X1_35 hN (xlo (i := 35) hb_ob) (xhi (i := 35) hn_ob rfl) (ov_at (i := 35) rfl) rfl rfl rfl rfl rfl dX1_keep_40 ?_
      refine x_aload_n C dX1_keep_43 1 rfl ?_
      refine x_dup C dX1_keep_44 rfl ?_
      refine x_get C (xlo (i := 17) hb_ob) (xhi (i := 17) hn_ob rfl) (ov_at (i := 17) rfl) f_X1_28 rfl dX1_keep_45 ?_
      refine x_iconst C 1 dX1_keep_48 rfl ?_
      refine x_iadd C dX1_keep_49 ?_
      refine x_put (G' := ov ob (xC E ob (qNow u) (qTr u) (qH0 u) (qH1 u) (sCpy (qH2 u) (qNow u)) (qH3 u) (qOl u) ((qKe u) + 1) (qCh u) (qTl u) (qNu u) (qKi u) (qEn u) (qWh u) (qFt u) (qFp u) (qFr u) (qFc u)) G) C (xlo (i := 17) hb_ob) (xhi (i := 17) hn_ob rfl) (ov_at (i := 17) rfl) f_X1_28 xt_X1 rfl rfl rfl rfl (ov_set (i := 17) rfl rfl) dX1_keep_50 ?_
      exact x_vret C Z rfl rfl (by simp [qKeep, kp, kIx, kOl, kKe, c5, k4]) dX1_keep_53
    · refine x_cV1 C (c_X1_stateAt E N ob G (mkQ (qNow u) (qTr u) (qH0 u) (qH1 u) (qH2 u) (qH3 u) (qOl u) (qKe u) (qCh u) (qTl u) (qNu u) (qKi u) (qEn u) (qWh u) (qFt u) (qFp u) (qFr u) (qFc u)) (qKe u) 3 k4 (by decide) hb_ob hn_ob) v_X1_31 hN (xlo (i := 17) hb_ob) (xhi (i := 17) hn_ob rfl) (ov_at (i := 17) rfl) rfl rfl rfl rfl rfl dX1_keep_30 ?_
      refine x_astore_n (L' := [(2, .ref (ob + 43)), (0, .ref (ob + 17)), (1, .ref (ob + 1))]) C dX1_keep_33 rfl rfl ?_
      refine x_aload_n C dX1_keep_34 0 rfl ?_
      refine x_ifnull C dX1_keep_35 ?_
      refine x_aload_n C dX1_keep_38 0 rfl ?_
      refine x_aload_n C dX1_keep_39 2 rfl ?_
      refine x_cV0 C (MF.slice2s (i := 43) (j := 1) (n := 8) (k := 8) (cs' := xC E ob (qNow u) (qTr u) (qH0 u) (qH1 u) (qH2 u) (sCpy (qH3 u) (qNow u)) (qOl u) (qKe u) (qCh u) (qTl u) (qNu u) (qKi u) (qEn u) (qWh u) (qFt u) (qFp u) (qFr u) (qFc u)) rfl rfl rfl (Nat.le_of_ble_eq_true rfl) rfl (c_X6_takeOver E N (ob + 43) (ob + 1) _ (qH3 u) (qNow u) (xlo (i := 43) hb_ob) (xhn (i := 43) (n := 8) hn_ob rfl) (xlo (i := 1) hb_ob) (xhn (i := 1) (n := 8) hn_ob rfl) (by omega))) v_X1_35 hN (xlo (i := 43) hb_ob) (xhi (i := 43) hn_ob rfl) (ov_at (i := 43) rfl) rfl rfl rfl rfl rfl dX1_keep_40 ?_
      refine x_aload_n C dX1_keep_43 1 rfl ?_
      refine x_dup C dX1_keep_44 rfl ?_
      refine x_get C (xlo (i := 17) hb_ob) (xhi (i := 17) hn_ob rfl) (ov_at (i := 17) rfl) f_X1_28 rfl dX1_keep_45 ?_
      refine x_iconst C 1 dX1_keep_48 rfl ?_
      refine x_iadd C dX1_keep_49 ?_
      refine x_put (G' := ov ob (xC E ob (qNow u) (qTr u) (qH0 u) (qH1 u) (qH2 u) (sCpy (qH3 u) (qNow u)) (qOl u) ((qKe u) + 1) (qCh u) (qTl u) (qNu u) (qKi u) (qEn u) (qWh u) (qFt u) (qFp u) (qFr u) (qFc u)) G) C (xlo (i := 17) hb_ob) (xhi (i := 17) hn_ob rfl) (ov_at (i := 17) rfl) f_X1_28 xt_X1 rfl rfl rfl rfl (ov_set (i := 17) rfl rfl) dX1_keep_50 ?_
      exact x_vret C Z rfl rfl (by simp [qKeep, kp, kIx, kOl, kKe, c5, k4]) dX1_keep_53
  · refine x_aload_n C dX1_keep_8 0 rfl ?_
    refine x_aload_n C dX1_keep_9 0 rfl ?_
    refine x_get C (xlo (i := 17) hb_ob) (xhi (i := 17) hn_ob rfl) (ov_at (i := 17) rfl) f_X1_18 rfl dX1_keep_10 ?_
    refine x_iconst C 1 dX1_keep_13 rfl ?_
    refine x_iadd C dX1_keep_14 ?_
    refine x_iconst C 4 dX1_keep_15 rfl ?_
    refine x_irem C dX1_keep_16 (by decide) ?_
    refine x_put (G' := ov ob (xC E ob (qNow u) (qTr u) (qH0 u) (qH1 u) (qH2 u) (qH3 u) (((qOl u) + 1) - ((qOl u) + 1) / 4 * 4) (qKe u) (qCh u) (qTl u) (qNu u) (qKi u) (qEn u) (qWh u) (qFt u) (qFp u) (qFr u) (qFc u)) G) C (xlo (i := 17) hb_ob) (xhi (i := 17) hn_ob rfl) (ov_at (i := 17) rfl) f_X1_18 xt_X1 rfl rfl rfl rfl (ov_set (i := 17) rfl rfl) dX1_keep_17 ?_
    refine x_aload_n C dX1_keep_20 0 rfl ?_
    refine x_iconst C 3 dX1_keep_21 rfl ?_
    refine x_put (G' := ov ob (xC E ob (qNow u) (qTr u) (qH0 u) (qH1 u) (qH2 u) (qH3 u) (((qOl u) + 1) - ((qOl u) + 1) / 4 * 4) 3 (qCh u) (qTl u) (qNu u) (qKi u) (qEn u) (qWh u) (qFt u) (qFp u) (qFr u) (qFc u)) G) C (xlo (i := 17) hb_ob) (xhi (i := 17) hn_ob rfl) (ov_at (i := 17) rfl) f_X1_28 xt_X1 rfl rfl rfl rfl (ov_set (i := 17) rfl rfl) dX1_keep_22 ?_
    refine x_aload_n C dX1_keep_25 0 rfl ?_
    refine x_aload_n C dX1_keep_26 0 rfl ?_
    refine x_get C (xlo (i := 17) hb_ob) (xhi (i := 17) hn_ob rfl) (ov_at (i := 17) rfl) f_X1_28 rfl dX1_keep_27 ?_
    rcases jfm4 ((((qOl u) + 1) - ((qOl u) + 1) / 4 * 4) + 3) with k4 | k4 | k4 | k4
    · refine x_cV1 C (c_X1_stateAt E N ob G (mkQ (qNow u) (qTr u) (qH0 u) (qH1 u) (qH2 u) (qH3 u) (((qOl u) + 1) - ((qOl u) + 1) / 4 * 4) 3 (qCh u) (qTl u) (qNu u) (qKi u) (qEn u) (qWh u) (qFt u) (qFp u) (qFr u) (qFc u)) 3 0 k4 (by decide) hb_ob hn_ob) v_X1_31 hN (xlo (i := 17) hb_ob) (xhi (i := 17) hn_ob rfl) (ov_at (i := 17) rfl) rfl rfl rfl rfl rfl dX1_keep_30 ?_
      refine x_astore_n (L' := [(2, .ref (ob + 19)), (0, .ref (ob + 17)), (1, .ref (ob + 1))]) C dX1_keep_33 rfl rfl ?_
      refine x_aload_n C dX1_keep_34 0 rfl ?_
      refine x_ifnull C dX1_keep_35 ?_
      refine x_aload_n C dX1_keep_38 0 rfl ?_
      refine x_aload_n C dX1_keep_39 2 rfl ?_
      refine x_cV0 C (MF.slice2s (i := 19) (j := 1) (n := 8) (k := 8) (cs' := xC E ob (qNow u) (qTr u) (sCpy (qH0 u) (qNow u)) (qH1 u) (qH2 u) (qH3 u) (((qOl u) + 1) - ((qOl u) + 1) / 4 * 4) 3 (qCh u) (qTl u) (qNu u) (qKi u) (qEn u) (qWh u) (qFt u) (qFp u) (qFr u) (qFc u)) rfl rfl rfl (Nat.le_of_ble_eq_true rfl) rfl (c_X6_takeOver E N (ob + 19) (ob + 1) _ (qH0 u) (qNow u) (xlo (i := 19) hb_ob) (xhn (i := 19) (n := 8) hn_ob rfl) (xlo (i := 1) hb_ob) (xhn (i := 1) (n := 8) hn_ob rfl) (by omega))) v_X1_35 hN (xlo (i := 19) hb_ob) (xhi (i := 19) hn_ob rfl) (ov_at (i := 19) rfl) rfl rfl rfl rfl rfl dX1_keep_40 ?_
      refine x_aload_n C dX1_keep_43 1 rfl ?_
      refine x_dup C dX1_keep_44 rfl ?_
      refine x_get C (xlo (i := 17) hb_ob) (xhi (i := 17) hn_ob rfl) (ov_at (i := 17) rfl) f_X1_28 rfl dX1_keep_45 ?_
      refine x_iconst C 1 dX1_keep_48 rfl ?_
      refine x_iadd C dX1_keep_49 ?_
      refine x_v (w := .int 4) rfl ?_
      refine x_put (G' := ov ob (xC E ob (qNow u) (qTr u) (sCpy (qH0 u) (qNow u)) (qH1 u) (qH2 u) (qH3 u) (((qOl u) + 1) - ((qOl u) + 1) / 4 * 4) 4 (qCh u) (qTl u) (qNu u) (qKi u) (qEn u) (qWh u) (qFt u) (qFp u) (qFr u) (qFc u)) G) C (xlo (i := 17) hb_ob) (xhi (i := 17) hn_ob rfl) (ov_at (i := 17) rfl) f_X1_28 xt_X1 rfl rfl rfl rfl (ov_set (i := 17) rfl rfl) dX1_keep_50 ?_
      exact x_vret C Z rfl rfl (by simp [qKeep, kp, kIx, kOl, kKe, c5, k4]) dX1_keep_53
    · refine x_cV1 C (c_X1_stateAt E N ob G (mkQ (qNow u) (qTr u) (qH0 u) (qH1 u) (qH2 u) (qH3 u) (((qOl u) + 1) - ((qOl u) + 1) / 4 * 4) 3 (qCh u) (qTl u) (qNu u) (qKi u) (qEn u) (qWh u) (qFt u) (qFp u) (qFr u) (qFc u)) 3 1 k4 (by decide) hb_ob hn_ob) v_X1_31 hN (xlo (i := 17) hb_ob) (xhi (i := 17) hn_ob rfl) (ov_at (i := 17) rfl) rfl rfl rfl rfl rfl dX1_keep_30 ?_
      refine x_astore_n (L' := [(2, .ref (ob + 27)), (0, .ref (ob + 17)), (1, .ref (ob + 1))]) C dX1_keep_33 rfl rfl ?_
      refine x_aload_n C dX1_keep_34 0 rfl ?_
      refine x_ifnull C dX1_keep_35 ?_
      refine x_aload_n C dX1_keep_38 0 rfl ?_
      refine x_aload_n C dX1_keep_39 2 rfl ?_
      refine x_cV0 C (MF.slice2s (i := 27) (j := 1) (n := 8) (k := 8) (cs' := xC E ob (qNow u) (qTr u) (qH0 u) (sCpy (qH1 u) (qNow u)) (qH2 u) (qH3 u) (((qOl u) + 1) - ((qOl u) + 1) / 4 * 4) 3 (qCh u) (qTl u) (qNu u) (qKi u) (qEn u) (qWh u) (qFt u) (qFp u) (qFr u) (qFc u)) rfl rfl rfl (Nat.le_of_ble_eq_true rfl) rfl (c_X6_takeOver E N (ob + 27) (ob + 1) _ (qH1 u) (qNow u) (xlo (i := 27) hb_ob) (xhn (i := 27) (n := 8) hn_ob rfl) (xlo (i := 1) hb_ob) (xhn (i := 1) (n := 8) hn_ob rfl) (by omega))) v_X1_35 hN (xlo (i := 27) hb_ob) (xhi (i := 27) hn_ob rfl) (ov_at (i := 27) rfl) rfl rfl rfl rfl rfl dX1_keep_40 ?_
      refine x_aload_n C dX1_keep_43 1 rfl ?_
      refine x_dup C dX1_keep_44 rfl ?_
      refine x_get C (xlo (i := 17) hb_ob) (xhi (i := 17) hn_ob rfl) (ov_at (i := 17) rfl) f_X1_28 rfl dX1_keep_45 ?_
      refine x_iconst C 1 dX1_keep_48 rfl ?_
      refine x_iadd C dX1_keep_49 ?_
      refine x_v (w := .int 4) rfl ?_
      refine x_put (G' := ov ob (xC E ob (qNow u) (qTr u) (qH0 u) (sCpy (qH1 u) (qNow u)) (qH2 u) (qH3 u) (((qOl u) + 1) - ((qOl u) + 1) / 4 * 4) 4 (qCh u) (qTl u) (qNu u) (qKi u) (qEn u) (qWh u) (qFt u) (qFp u) (qFr u) (qFc u)) G) C (xlo (i := 17) hb_ob) (xhi (i := 17) hn_ob rfl) (ov_at (i := 17) rfl) f_X1_28 xt_X1 rfl rfl rfl rfl (ov_set (i := 17) rfl rfl) dX1_keep_50 ?_
      exact x_vret C Z rfl rfl (by simp [qKeep, kp, kIx, kOl, kKe, c5, k4]) dX1_keep_53
    · refine x_cV1 C (c_X1_stateAt E N ob G (mkQ (qNow u) (qTr u) (qH0 u) (qH1 u) (qH2 u) (qH3 u) (((qOl u) + 1) - ((qOl u) + 1) / 4 * 4) 3 (qCh u) (qTl u) (qNu u) (qKi u) (qEn u) (qWh u) (qFt u) (qFp u) (qFr u) (qFc u)) 3 2 k4 (by decide) hb_ob hn_ob) v_X1_31 hN (xlo (i := 17) hb_ob) (xhi (i := 17) hn_ob rfl) (ov_at (i := 17) rfl) rfl rfl rfl rfl rfl dX1_keep_30 ?_
      refine x_astore_n (L' := [(2, .ref (ob + 35)), (0, .ref (ob + 17)), (1, .ref (ob + 1))]) C dX1_keep_33 rfl rfl ?_
      refine x_aload_n C dX1_keep_34 0 rfl ?_
      refine x_ifnull C dX1_keep_35 ?_
      refine x_aload_n C dX1_keep_38 0 rfl ?_
      refine x_aload_n C dX1_keep_39 2 rfl ?_
      refine x_cV0 C (MF.slice2s (i := 35) (j := 1) (n := 8) (k := 8) (cs' := xC E ob (qNow u) (qTr u) (qH0 u) (qH1 u) (sCpy (qH2 u) (qNow u)) (qH3 u) (((qOl u) + 1) - ((qOl u) + 1) / 4 * 4) 3 (qCh u) (qTl u) (qNu u) (qKi u) (qEn u) (qWh u) (qFt u) (qFp u) (qFr u) (qFc u)) rfl rfl rfl (Nat.le_of_ble_eq_true rfl) rfl (c_X6_takeOver E N (ob + 35) (ob + 1) _ (qH2 u) (qNow u) (xlo (i := 35) hb_ob) (xhn (i := 35) (n := 8) hn_ob rfl) (xlo (i := 1) hb_ob) (xhn (i := 1) (n := 8) hn_ob rfl) (by omega))) v_X1_35 hN (xlo (i := 35) hb_ob) (xhi (i := 35) hn_ob rfl) (ov_at (i := 35) rfl) rfl rfl rfl rfl rfl dX1_keep_40 ?_
      refine x_aload_n C dX1_keep_43 1 rfl ?_
      refine x_dup C dX1_keep_44 rfl ?_
      refine x_get C (xlo (i := 17) hb_ob) (xhi (i := 17) hn_ob rfl) (ov_at (i := 17) rfl) f_X1_28 rfl dX1_keep_45 ?_
      refine x_iconst C 1 dX1_keep_48 rfl ?_
      refine x_iadd C dX1_keep_49 ?_
      refine x_v (w := .int 4) rfl ?_
      refine x_put (G' := ov ob (xC E ob (qNow u) (qTr u) (qH0 u) (qH1 u) (sCpy (qH2 u) (qNow u)) (qH3 u) (((qOl u) + 1) - ((qOl u) + 1) / 4 * 4) 4 (qCh u) (qTl u) (qNu u) (qKi u) (qEn u) (qWh u) (qFt u) (qFp u) (qFr u) (qFc u)) G) C (xlo (i := 17) hb_ob) (xhi (i := 17) hn_ob rfl) (ov_at (i := 17) rfl) f_X1_28 xt_X1 rfl rfl rfl rfl (ov_set (i := 17) rfl rfl) dX1_keep_50 ?_
      exact x_vret C Z rfl rfl (by simp [qKeep, kp, kIx, kOl, kKe, c5, k4]) dX1_keep_53
    · refine x_cV1 C (c_X1_stateAt E N ob G (mkQ (qNow u) (qTr u) (qH0 u) (qH1 u) (qH2 u) (qH3 u) (((qOl u) + 1) - ((qOl u) + 1) / 4 * 4) 3 (qCh u) (qTl u) (qNu u) (qKi u) (qEn u) (qWh u) (qFt u) (qFp u) (qFr u) (qFc u)) 3 3 k4 (by decide) hb_ob hn_ob) v_X1_31 hN (xlo (i := 17) hb_ob) (xhi (i := 17) hn_ob rfl) (ov_at (i := 17) rfl) rfl rfl rfl rfl rfl dX1_keep_30 ?_
      refine x_astore_n (L' := [(2, .ref (ob + 43)), (0, .ref (ob + 17)), (1, .ref (ob + 1))]) C dX1_keep_33 rfl rfl ?_
      refine x_aload_n C dX1_keep_34 0 rfl ?_
      refine x_ifnull C dX1_keep_35 ?_
      refine x_aload_n C dX1_keep_38 0 rfl ?_
      refine x_aload_n C dX1_keep_39 2 rfl ?_
      refine x_cV0 C (MF.slice2s (i := 43) (j := 1) (n := 8) (k := 8) (cs' := xC E ob (qNow u) (qTr u) (qH0 u) (qH1 u) (qH2 u) (sCpy (qH3 u) (qNow u)) (((qOl u) + 1) - ((qOl u) + 1) / 4 * 4) 3 (qCh u) (qTl u) (qNu u) (qKi u) (qEn u) (qWh u) (qFt u) (qFp u) (qFr u) (qFc u)) rfl rfl rfl (Nat.le_of_ble_eq_true rfl) rfl (c_X6_takeOver E N (ob + 43) (ob + 1) _ (qH3 u) (qNow u) (xlo (i := 43) hb_ob) (xhn (i := 43) (n := 8) hn_ob rfl) (xlo (i := 1) hb_ob) (xhn (i := 1) (n := 8) hn_ob rfl) (by omega))) v_X1_35 hN (xlo (i := 43) hb_ob) (xhi (i := 43) hn_ob rfl) (ov_at (i := 43) rfl) rfl rfl rfl rfl rfl dX1_keep_40 ?_
      refine x_aload_n C dX1_keep_43 1 rfl ?_
      refine x_dup C dX1_keep_44 rfl ?_
      refine x_get C (xlo (i := 17) hb_ob) (xhi (i := 17) hn_ob rfl) (ov_at (i := 17) rfl) f_X1_28 rfl dX1_keep_45 ?_
      refine x_iconst C 1 dX1_keep_48 rfl ?_
      refine x_iadd C dX1_keep_49 ?_
      refine x_v (w := .int 4) rfl ?_
      refine x_put (G' := ov ob (xC E ob (qNow u) (qTr u) (qH0 u) (qH1 u) (qH2 u) (sCpy (qH3 u) (qNow u)) (((qOl u) + 1) - ((qOl u) + 1) / 4 * 4) 4 (qCh u) (qTl u) (qNu u) (qKi u) (qEn u) (qWh u) (qFt u) (qFp u) (qFr u) (qFc u)) G) C (xlo (i := 17) hb_ob) (xhi (i := 17) hn_ob rfl) (ov_at (i := 17) rfl) f_X1_28 xt_X1 rfl rfl rfl rfl (ov_set (i := 17) rfl rfl) dX1_keep_50 ?_
      exact x_vret C Z rfl rfl (by simp [qKeep, kp, kIx, kOl, kKe, c5, k4]) dX1_keep_53

set_option maxRecDepth 100000 in
set_option maxHeartbeats 4000000 in
theorem c_X1_restoreInto (E : XE) (N ob : Nat) (G : GW) (u : QV) (hk : 0 < qKe u) (hb_ob : xB E ≤ ob) (hn_ob : ob + 56 ≤ N) : MF E yX1_restoreInto cX1_restoreInto 3 none 3 102 0 0 [.ref (ob + 17), .ref (ob + 1)] N (ov ob (xC E ob (qNow u) (qTr u) (qH0 u) (qH1 u) (qH2 u) (qH3 u) (qOl u) (qKe u) (qCh u) (qTl u) (qNu u) (qKi u) (qEn u) (qWh u) (qFt u) (qFp u) (qFr u) (qFc u)) G) none (ov ob (xC E ob (qNow (qRest u)) (qTr (qRest u)) (qH0 (qRest u)) (qH1 (qRest u)) (qH2 (qRest u)) (qH3 (qRest u)) (qOl (qRest u)) (qKe (qRest u)) (qCh (qRest u)) (qTl (qRest u)) (qNu (qRest u)) (qKi (qRest u)) (qEn (qRest u)) (qWh (qRest u)) (qFt (qRest u)) (qFp (qRest u)) (qFr (qRest u)) (qFc (qRest u))) G) := by
  refine MF.mk RX1 rfl (by decide +kernel) rfl (fun K C Z hin hN => ?_)
  show XW E K 3 N 0 0 _ 0 [(0, .ref (ob + 17)), (1, .ref (ob + 1))] []
  refine x_aload_n C dX1_restoreInto_0 0 rfl ?_
  refine x_get C (xlo (i := 17) hb_ob) (xhi (i := 17) hn_ob rfl) (ov_at (i := 17) rfl) f_X1_28 rfl dX1_restoreInto_1 ?_
  refine x_if_gt C 8 dX1_restoreInto_4 rfl (fun _ => ?_) (fun c => absurd c (not_not_intro hk))
  refine x_aload_n C dX1_restoreInto_8 0 rfl ?_
  refine x_aload_n C dX1_restoreInto_9 0 rfl ?_
  refine x_get C (xlo (i := 17) hb_ob) (xhi (i := 17) hn_ob rfl) (ov_at (i := 17) rfl) f_X1_28 rfl dX1_restoreInto_10 ?_
  refine x_iconst C 1 dX1_restoreInto_13 rfl ?_
  refine x_isub C dX1_restoreInto_14 ?_
  rcases jfm4 ((qOl u) + ((qKe u) - 1)) with k4 | k4 | k4 | k4
  · refine x_cV1 C (c_X1_stateAt E N ob G (mkQ (qNow u) (qTr u) (qH0 u) (qH1 u) (qH2 u) (qH3 u) (qOl u) (qKe u) (qCh u) (qTl u) (qNu u) (qKi u) (qEn u) (qWh u) (qFt u) (qFp u) (qFr u) (qFc u)) ((qKe u) - 1) 0 k4 (by decide) hb_ob hn_ob) v_X1_31 hN (xlo (i := 17) hb_ob) (xhi (i := 17) hn_ob rfl) (ov_at (i := 17) rfl) rfl rfl rfl rfl rfl dX1_restoreInto_15 ?_
    refine x_astore_n (L' := [(2, .ref (ob + 19)), (0, .ref (ob + 17)), (1, .ref (ob + 1))]) C dX1_restoreInto_18 rfl rfl ?_
    refine x_aload_n C dX1_restoreInto_19 0 rfl ?_
    refine x_ifnull C dX1_restoreInto_20 ?_
    refine x_aload_n C dX1_restoreInto_23 2 rfl ?_
    refine x_aload_n C dX1_restoreInto_24 0 rfl ?_
    refine x_cV0 C (MF.slice2s (i := 1) (j := 19) (n := 8) (k := 8) (cs' := xC E ob (sCpy (qNow u) (qH0 u)) (qTr u) (qH0 u) (qH1 u) (qH2 u) (qH3 u) (qOl u) (qKe u) (qCh u) (qTl u) (qNu u) (qKi u) (qEn u) (qWh u) (qFt u) (qFp u) (qFr u) (qFc u)) rfl rfl rfl (Nat.le_of_ble_eq_true rfl) rfl (c_X6_takeOver E N (ob + 1) (ob + 19) _ (qNow u) (qH0 u) (xlo (i := 1) hb_ob) (xhn (i := 1) (n := 8) hn_ob rfl) (xlo (i := 19) hb_ob) (xhn (i := 19) (n := 8) hn_ob rfl) (by omega))) v_X1_35 hN (xlo (i := 1) hb_ob) (xhi (i := 1) hn_ob rfl) (ov_at (i := 1) rfl) rfl rfl rfl rfl rfl dX1_restoreInto_25 ?_
    refine x_aload_n C dX1_restoreInto_28 1 rfl ?_
    refine x_dup C dX1_restoreInto_29 rfl ?_
    refine x_get C (xlo (i := 17) hb_ob) (xhi (i := 17) hn_ob rfl) (ov_at (i := 17) rfl) f_X1_28 rfl dX1_restoreInto_30 ?_
    refine x_iconst C 1 dX1_restoreInto_33 rfl ?_
    refine x_isub C dX1_restoreInto_34 ?_
    refine x_put (G' := ov ob (xC E ob (sCpy (qNow u) (qH0 u)) (qTr u) (qH0 u) (qH1 u) (qH2 u) (qH3 u) (qOl u) ((qKe u) - 1) (qCh u) (qTl u) (qNu u) (qKi u) (qEn u) (qWh u) (qFt u) (qFp u) (qFr u) (qFc u)) G) C (xlo (i := 17) hb_ob) (xhi (i := 17) hn_ob rfl) (ov_at (i := 17) rfl) f_X1_28 xt_X1 rfl rfl rfl rfl (ov_set (i := 17) rfl rfl) dX1_restoreInto_35 ?_
    exact x_vret C Z rfl rfl (by simp [qRest, rsN, rIxH, k4]) dX1_restoreInto_38
  · refine x_cV1 C (c_X1_stateAt E N ob G (mkQ (qNow u) (qTr u) (qH0 u) (qH1 u) (qH2 u) (qH3 u) (qOl u) (qKe u) (qCh u) (qTl u) (qNu u) (qKi u) (qEn u) (qWh u) (qFt u) (qFp u) (qFr u) (qFc u)) ((qKe u) - 1) 1 k4 (by decide) hb_ob hn_ob) v_X1_31 hN (xlo (i := 17) hb_ob) (xhi (i := 17) hn_ob rfl) (ov_at (i := 17) rfl) rfl rfl rfl rfl rfl dX1_restoreInto_15 ?_
    refine x_astore_n (L' := [(2, .ref (ob + 27)), (0, .ref (ob + 17)), (1, .ref (ob + 1))]) C dX1_restoreInto_18 rfl rfl ?_
    refine x_aload_n C dX1_restoreInto_19 0 rfl ?_
    refine x_ifnull C dX1_restoreInto_20 ?_
    refine x_aload_n C dX1_restoreInto_23 2 rfl ?_
    refine x_aload_n C dX1_restoreInto_24 0 rfl ?_
    refine x_cV0 C (MF.slice2s (i := 1) (j := 27) (n := 8) (k := 8) (cs' := xC E ob (sCpy (qNow u) (qH1 u)) (qTr u) (qH0 u) (qH1 u) (qH2 u) (qH3 u) (qOl u) (qKe u) (qCh u) (qTl u) (qNu u) (qKi u) (qEn u) (qWh u) (qFt u) (qFp u) (qFr u) (qFc u)) rfl rfl rfl (Nat.le_of_ble_eq_true rfl) rfl (c_X6_takeOver E N (ob + 1) (ob + 27) _ (qNow u) (qH1 u) (xlo (i := 1) hb_ob) (xhn (i := 1) (n := 8) hn_ob rfl) (xlo (i := 27) hb_ob) (xhn (i := 27) (n := 8) hn_ob rfl) (by omega))) v_X1_35 hN (xlo (i := 1) hb_ob) (xhi (i := 1) hn_ob rfl) (ov_at (i := 1) rfl) rfl rfl rfl rfl rfl dX1_restoreInto_25 ?_
    refine x_aload_n C dX1_restoreInto_28 1 rfl ?_
    refine x_dup C dX1_restoreInto_29 rfl ?_
    refine x_get C (xlo (i := 17) hb_ob) (xhi (i := 17) hn_ob rfl) (ov_at (i := 17) rfl) f_X1_28 rfl dX1_restoreInto_30 ?_
    refine x_iconst C 1 dX1_restoreInto_33 rfl ?_
    refine x_isub C dX1_restoreInto_34 ?_
    refine x_put (G' := ov ob (xC E ob (sCpy (qNow u) (qH1 u)) (qTr u) (qH0 u) (qH1 u) (qH2 u) (qH3 u) (qOl u) ((qKe u) - 1) (qCh u) (qTl u) (qNu u) (qKi u) (qEn u) (qWh u) (qFt u) (qFp u) (qFr u) (qFc u)) G) C (xlo (i := 17) hb_ob) (xhi (i := 17) hn_ob rfl) (ov_at (i := 17) rfl) f_X1_28 xt_X1 rfl rfl rfl rfl (ov_set (i := 17) rfl rfl) dX1_restoreInto_35 ?_
    exact x_vret C Z rfl rfl (by simp [qRest, rsN, rIxH, k4]) dX1_restoreInto_38
  · refine x_cV1 C (c_X1_stateAt E N ob G (mkQ (qNow u) (qTr u) (qH0 u) (qH1 u) (qH2 u) (qH3 u) (qOl u) (qKe u) (qCh u) (qTl u) (qNu u) (qKi u) (qEn u) (qWh u) (qFt u) (qFp u) (qFr u) (qFc u)) ((qKe u) - 1) 2 k4 (by decide) hb_ob hn_ob) v_X1_31 hN (xlo (i := 17) hb_ob) (xhi (i := 17) hn_ob rfl) (ov_at (i := 17) rfl) rfl rfl rfl rfl rfl dX1_restoreInto_15 ?_
    refine x_astore_n (L' := [(2, .ref (ob + 35)), (0, .ref (ob + 17)), (1, .ref (ob + 1))]) C dX1_restoreInto_18 rfl rfl ?_
    refine x_aload_n C dX1_restoreInto_19 0 rfl ?_
    refine x_ifnull C dX1_restoreInto_20 ?_
    refine x_aload_n C dX1_restoreInto_23 2 rfl ?_
    refine x_aload_n C dX1_restoreInto_24 0 rfl ?_
    refine x_cV0 C (MF.slice2s (i := 1) (j := 35) (n := 8) (k := 8) (cs' := xC E ob (sCpy (qNow u) (qH2 u)) (qTr u) (qH0 u) (qH1 u) (qH2 u) (qH3 u) (qOl u) (qKe u) (qCh u) (qTl u) (qNu u) (qKi u) (qEn u) (qWh u) (qFt u) (qFp u) (qFr u) (qFc u)) rfl rfl rfl (Nat.le_of_ble_eq_true rfl) rfl (c_X6_takeOver E N (ob + 1) (ob + 35) _ (qNow u) (qH2 u) (xlo (i := 1) hb_ob) (xhn (i := 1) (n := 8) hn_ob rfl) (xlo (i := 35) hb_ob) (xhn (i := 35) (n := 8) hn_ob rfl) (by omega))) v_X1_35 hN (xlo (i := 1) hb_ob) (xhi (i := 1) hn_ob rfl) (ov_at (i := 1) rfl) rfl rfl rfl rfl rfl dX1_restoreInto_25 ?_
    refine x_aload_n C dX1_restoreInto_28 1 rfl ?_
    refine x_dup C dX1_restoreInto_29 rfl ?_
    refine x_get C (xlo (i := 17) hb_ob) (xhi (i := 17) hn_ob rfl) (ov_at (i := 17) rfl) f_X1_28 rfl dX1_restoreInto_30 ?_
    refine x_iconst C 1 dX1_restoreInto_33 rfl ?_
    refine x_isub C dX1_restoreInto_34 ?_
    refine x_put (G' := ov ob (xC E ob (sCpy (qNow u) (qH2 u)) (qTr u) (qH0 u) (qH1 u) (qH2 u) (qH3 u) (qOl u) ((qKe u) - 1) (qCh u) (qTl u) (qNu u) (qKi u) (qEn u) (qWh u) (qFt u) (qFp u) (qFr u) (qFc u)) G) C (xlo (i := 17) hb_ob) (xhi (i := 17) hn_ob rfl) (ov_at (i := 17) rfl) f_X1_28 xt_X1 rfl rfl rfl rfl (ov_set (i := 17) rfl rfl) dX1_restoreInto_35 ?_
    exact x_vret C Z rfl rfl (by simp [qRest, rsN, rIxH, k4]) dX1_restoreInto_38
  · refine x_cV1 C (c_X1_stateAt E N ob G (mkQ (qNow u) (qTr u) (qH0 u) (qH1 u) (qH2 u) (qH3 u) (qOl u) (qKe u) (qCh u) (qTl u) (qNu u) (qKi u) (qEn u) (qWh u) (qFt u) (qFp u) (qFr u) (qFc u)) ((qKe u) - 1) 3 k4 (by decide) hb_ob hn_ob) v_X1_31 hN (xlo (i := 17) hb_ob) (xhi (i := 17) hn_ob rfl) (ov_at (i := 17) rfl) rfl rfl rfl rfl rfl dX1_restoreInto_15 ?_
    refine x_astore_n (L' := [(2, .ref (ob + 43)), (0, .ref (ob + 17)), (1, .ref (ob + 1))]) C dX1_restoreInto_18 rfl rfl ?_
    refine x_aload_n C dX1_restoreInto_19 0 rfl ?_
    refine x_ifnull C dX1_restoreInto_20 ?_
    refine x_aload_n C dX1_restoreInto_23 2 rfl ?_
    refine x_aload_n C dX1_restoreInto_24 0 rfl ?_
    refine x_cV0 C (MF.slice2s (i := 1) (j := 43) (n := 8) (k := 8) (cs' := xC E ob (sCpy (qNow u) (qH3 u)) (qTr u) (qH0 u) (qH1 u) (qH2 u) (qH3 u) (qOl u) (qKe u) (qCh u) (qTl u) (qNu u) (qKi u) (qEn u) (qWh u) (qFt u) (qFp u) (qFr u) (qFc u)) rfl rfl rfl (Nat.le_of_ble_eq_true rfl) rfl (c_X6_takeOver E N (ob + 1) (ob + 43) _ (qNow u) (qH3 u) (xlo (i := 1) hb_ob) (xhn (i := 1) (n := 8) hn_ob rfl) (xlo (i := 43) hb_ob) (xhn (i := 43) (n := 8) hn_ob rfl) (by omega))) v_X1_35 hN (xlo (i := 1) hb_ob) (xhi (i := 1) hn_ob rfl) (ov_at (i := 1) rfl) rfl rfl rfl rfl rfl dX1_restoreInto_25 ?_
    refine x_aload_n C dX1_restoreInto_28 1 rfl ?_
    refine x_dup C dX1_restoreInto_29 rfl ?_
    refine x_get C (xlo (i := 17) hb_ob) (xhi (i := 17) hn_ob rfl) (ov_at (i := 17) rfl) f_X1_28 rfl dX1_restoreInto_30 ?_
    refine x_iconst C 1 dX1_restoreInto_33 rfl ?_
    refine x_isub C dX1_restoreInto_34 ?_
    refine x_put (G' := ov ob (xC E ob (sCpy (qNow u) (qH3 u)) (qTr u) (qH0 u) (qH1 u) (qH2 u) (qH3 u) (qOl u) ((qKe u) - 1) (qCh u) (qTl u) (qNu u) (qKi u) (qEn u) (qWh u) (qFt u) (qFp u) (qFr u) (qFc u)) G) C (xlo (i := 17) hb_ob) (xhi (i := 17) hn_ob rfl) (ov_at (i := 17) rfl) f_X1_28 xt_X1 rfl rfl rfl rfl (ov_set (i := 17) rfl rfl) dX1_restoreInto_35 ?_
    exact x_vret C Z rfl rfl (by simp [qRest, rsN, rIxH, k4]) dX1_restoreInto_38


