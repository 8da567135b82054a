/-! ===== counts, taps, texts, what would be ===== -/
def tapS (f : Nat → Int32) : Nat → Int32
  | 0 => 0
  | n + 1 => tapS f n + f n
def tOn (v : SV) (j : Nat) : Int32 := bI (sOn v (nI j))
def tLo (v : SV) (j : Nat) : Int32 := if sOn v (nI j) = true then bI (sLost v (nI j)) else 0
def tLd (v : SV) (j : Nat) : Int32 := if sOn v (nI j) = true then if sLost v (nI j) = true then 0 else iabs (jth (sGai v (nI j)) (vLi v)) else 0
def rCnt (u : QV) (l : Nat) (w : Int32) : Int32 := if w = 0 then vLe (qNow u) else if w = 1 then 64 - vLe (qNow u) else if w = 2 then tapS (tOn (qNow u)) 4 else if w = 3 then tapS (tLo (qNow u)) 4 else if w = 4 then sumAb (fun j => rAt (vW (qNow u)) (vFi (qNow u)) (vLe (qNow u)) (nI j)) l else if w = 5 then cntAb (fun j => rAt (vW (qNow u)) (vFi (qNow u)) (vLe (qNow u)) (nI j)) 0 l else if w = 6 then vSl (qNow u) else if w = 7 then qKe u else if w = 8 then qTl u else if w = 20 then vLi (qNow u) else if w = 21 then vSh (qNow u) else -1000001
def qUnd (u : QV) : QV := if qKe u = 0 then u else qRest u
def rUnd (u : QV) : Int32 := if qKe u = 0 then -1000002 else qKe u - 1
theorem pos_of {x : Int32} (h1 : ¬ x < 0) (h2 : ¬ x = 0) : 0 < x := by
  rw [Int32.lt_iff_toInt_lt] at h1 ⊢
  have h3 : ¬ x.toInt = (0 : Int32).toInt := fun q => h2 (Int32.toInt_inj.mp q)
  have z : (0 : Int32).toInt = 0 := rfl
  omega
/-! echo -/
/-! quietAfter -/
/-! safeGain -/
set_option maxRecDepth 100000 in
set_option maxHeartbeats 4000000 in
theorem c_X8_tapsOn (E : XE) (N ob : Nat) (G : GW) (u : QV) (hb_ob : xB E ≤ ob) (hn_ob : ob + 56 ≤ N) : MF E yX8_tapsOn cX8_tapsOn 3 (some .int) 3 62 0 0 [.ref ob] N (ov ob (xC E ob (qNow u) (qTr u) (qH0 u) (qH1 u) (qH2 u) (qH3 u) (qOl u) (qKe u) (qCh u) (qTl u) (qNu u) (qKi u) (qEn u) (qWh u) (qFt u) (qFp u) (qFr u) (qFc u)) G) (some (.int (tapS (tOn (qNow u)) 4))) (ov ob (xC E ob (qNow u) (qTr u) (qH0 u) (qH1 u) (qH2 u) (qH3 u) (qOl u) (qKe u) (qCh u) (qTl u) (qNu u) (qKi u) (qEn u) (qWh u) (qFt u) (qFp u) (qFr u) (qFc u)) G) := by
  refine MF.mk RX8 rfl (by decide +kernel) rfl (fun K C Z hin hN => ?_)
  show XW E K 3 N 0 0 _ 0 [(0, .ref ob)] []
  refine x_iconst C 0 dX8_tapsOn_0 rfl ?_
  refine x_istore_n (L' := [(1, .int 0), (0, .ref ob)]) C dX8_tapsOn_1 rfl rfl ?_
  refine x_iconst C 0 dX8_tapsOn_2 rfl ?_
  refine x_istore_n (L' := [(2, .int 0), (1, .int 0), (0, .ref ob)]) C dX8_tapsOn_3 rfl rfl ?_
  refine x_perm (L' := [(0, .ref ob), (1, .int 0), (2, .int 0)]) [2, 1, 0] rfl ?_
  have lp4 : ∀ (d i : Nat), i + d = 4 → XW E K 3 N 0 0 (ov ob (xC E ob (qNow u) (qTr u) (qH0 u) (qH1 u) (qH2 u) (qH3 u) (qOl u) (qKe u) (qCh u) (qTl u) (qNu u) (qKi u) (qEn u) (qWh u) (qFt u) (qFp u) (qFr u) (qFc u)) G) 4 [(0, .ref ob), (1, .int (tapS (tOn (qNow u)) i)), (2, .int (nI i))] [] := by
    intro d
    induction d with
    | zero =>
      intro i hd
      have q9i : 4 = i := by omega
      subst q9i
      refine x_iload_n C dX8_tapsOn_4 2 rfl ?_
      refine x_iconst C 4 dX8_tapsOn_5 rfl ?_
      refine x_icmp_ge C 34 dX8_tapsOn_6 rfl (fun _ => ?_) (fun c => absurd c (not_not_intro (nI_le (a := 4) (by omega) (by omega))))
      refine x_iload_n C dX8_tapsOn_34 1 rfl ?_
      exact x_iret C Z rfl rfl rfl rfl dX8_tapsOn_35
    | succ d ih =>
      intro i hd
      have hi : i < 4 := by omega
      refine x_iload_n C dX8_tapsOn_4 2 rfl ?_
      refine x_iconst C 4 dX8_tapsOn_5 rfl ?_
      refine x_icmp_ge C 34 dX8_tapsOn_6 rfl (fun c => absurd c (nI_ge (b := 4) (by omega) (by omega))) (fun _ => ?_)
      refine x_iload_n C dX8_tapsOn_9 1 rfl ?_
      refine x_aload_n C dX8_tapsOn_10 0 rfl ?_
      refine x_get C (xlo (i := 0) hb_ob) (xhi (i := 0) hn_ob rfl) (ov_at (i := 0) rfl) f_X8_10 rfl dX8_tapsOn_11 ?_
      refine x_iload_n C dX8_tapsOn_14 2 rfl ?_
      refine x_cV1 C (MF.sliceR (i := 1) (n := 8) rfl (c_X6_isOn E N (ob + 1) _ (qNow u) (nI i) (xlo (i := 1) hb_ob) (xhn (i := 1) (n := 8) hn_ob rfl))) v_X8_80 hN (xlo (i := 1) hb_ob) (xhi (i := 1) hn_ob rfl) (ov_at (i := 1) rfl) rfl rfl rfl rfl rfl dX8_tapsOn_15 ?_
      refine x_tb_eq C 25 26 dX8_tapsOn_18 rfl dX8_tapsOn_21 dX8_tapsOn_22 rfl dX8_tapsOn_25 rfl ?_
      refine x_iadd C dX8_tapsOn_26 ?_
      refine x_topi (fun z1 ez1 => ?_)
      refine x_istore_n (L' := [(1, .int z1), (0, .ref ob), (2, .int (nI i))]) C dX8_tapsOn_27 rfl rfl ?_
      refine x_iinc (L' := [(2, .int ((nI i) + 1)), (1, .int z1), (0, .ref ob)]) C ((nI i) + 1) dX8_tapsOn_28 2 rfl rfl rfl rfl ?_
      refine x_goto C 4 dX8_tapsOn_31 rfl ?_
      refine x_perm (L' := [(0, .ref ob), (1, .int z1), (2, .int ((nI i) + 1))]) [2, 1, 0] rfl ?_
      subst ez1
      refine x_to (L' := [(0, .ref ob), (1, .int (tapS (tOn (qNow u)) (i + 1))), (2, .int (nI (i + 1)))]) (G' := ov ob (xC E ob (qNow u) (qTr u) (qH0 u) (qH1 u) (qH2 u) (qH3 u) (qOl u) (qKe u) (qCh u) (qTl u) (qNu u) (qKi u) (qEn u) (qWh u) (qFt u) (qFp u) (qFr u) (qFc u)) G) (by simp only [nI_succ, tapS, tOn]; first | done | rfl | (simp [bI]; done) | (simp [bI]; rfl)) rfl rfl ?_
      exact ih (i + 1) (by omega)
  refine x_to (L' := [(0, .ref ob), (1, .int (tapS (tOn (qNow u)) 0)), (2, .int (nI 0))]) (G' := ov ob (xC E ob (qNow u) (qTr u) (qH0 u) (qH1 u) (qH2 u) (qH3 u) (qOl u) (qKe u) (qCh u) (qTl u) (qNu u) (qKi u) (qEn u) (qWh u) (qFt u) (qFp u) (qFr u) (qFc u)) G) rfl rfl rfl ?_
  exact lp4 _ 0 (Nat.add_sub_cancel' (by omega))

set_option maxRecDepth 100000 in
set_option maxHeartbeats 4000000 in
theorem c_X8_tapsLost (E : XE) (N ob : Nat) (G : GW) (u : QV) (hb_ob : xB E ≤ ob) (hn_ob : ob + 56 ≤ N) : MF E yX8_tapsLost cX8_tapsLost 3 (some .int) 3 62 0 0 [.ref ob] N (ov ob (xC E ob (qNow u) (qTr u) (qH0 u) (qH1 u) (qH2 u) (qH3 u) (qOl u) (qKe u) (qCh u) (qTl u) (qNu u) (qKi u) (qEn u) (qWh u) (qFt u) (qFp u) (qFr u) (qFc u)) G) (some (.int (tapS (tLo (qNow u)) 4))) (ov ob (xC E ob (qNow u) (qTr u) (qH0 u) (qH1 u) (qH2 u) (qH3 u) (qOl u) (qKe u) (qCh u) (qTl u) (qNu u) (qKi u) (qEn u) (qWh u) (qFt u) (qFp u) (qFr u) (qFc u)) G) := by
  refine MF.mk RX8 rfl (by decide +kernel) rfl (fun K C Z hin hN => ?_)
  show XW E K 3 N 0 0 _ 0 [(0, .ref ob)] []
  refine x_iconst C 0 dX8_tapsLost_0 rfl ?_
  refine x_istore_n (L' := [(1, .int 0), (0, .ref ob)]) C dX8_tapsLost_1 rfl rfl ?_
  refine x_iconst C 0 dX8_tapsLost_2 rfl ?_
  refine x_istore_n (L' := [(2, .int 0), (1, .int 0), (0, .ref ob)]) C dX8_tapsLost_3 rfl rfl ?_
  refine x_perm (L' := [(0, .ref ob), (1, .int 0), (2, .int 0)]) [2, 1, 0] rfl ?_
  have lp4 : ∀ (d i : Nat), i + d = 4 → XW E K 3 N 0 0 (ov ob (xC E ob (qNow u) (qTr u) (qH0 u) (qH1 u) (qH2 u) (qH3 u) (qOl u) (qKe u) (qCh u) (qTl u) (qNu u) (qKi u) (qEn u) (qWh u) (qFt u) (qFp u) (qFr u) (qFc u)) G) 4 [(0, .ref ob), (1, .int (tapS (tLo (qNow u)) i)), (2, .int (nI i))] [] := by
    intro d
    induction d with
    | zero =>
      intro i hd
      have q9i : 4 = i := by omega
      subst q9i
      refine x_iload_n C dX8_tapsLost_4 2 rfl ?_
      refine x_iconst C 4 dX8_tapsLost_5 rfl ?_
      refine x_icmp_ge C 45 dX8_tapsLost_6 rfl (fun _ => ?_) (fun c => absurd c (not_not_intro (nI_le (a := 4) (by omega) (by omega))))
      refine x_iload_n C dX8_tapsLost_45 1 rfl ?_
      exact x_iret C Z rfl rfl rfl rfl dX8_tapsLost_46
    | succ d ih =>
      intro i hd
      have hi : i < 4 := by omega
      refine x_iload_n C dX8_tapsLost_4 2 rfl ?_
      refine x_iconst C 4 dX8_tapsLost_5 rfl ?_
      refine x_icmp_ge C 45 dX8_tapsLost_6 rfl (fun c => absurd c (nI_ge (b := 4) (by omega) (by omega))) (fun _ => ?_)
      refine x_iload_n C dX8_tapsLost_9 1 rfl ?_
      refine x_aload_n C dX8_tapsLost_10 0 rfl ?_
      refine x_get C (xlo (i := 0) hb_ob) (xhi (i := 0) hn_ob rfl) (ov_at (i := 0) rfl) f_X8_10 rfl dX8_tapsLost_11 ?_
      refine x_iload_n C dX8_tapsLost_14 2 rfl ?_
      refine x_cV1 C (MF.sliceR (i := 1) (n := 8) rfl (c_X6_isOn E N (ob + 1) _ (qNow u) (nI i) (xlo (i := 1) hb_ob) (xhn (i := 1) (n := 8) hn_ob rfl))) v_X8_80 hN (xlo (i := 1) hb_ob) (xhi (i := 1) hn_ob rfl) (ov_at (i := 1) rfl) rfl rfl rfl rfl rfl dX8_tapsLost_15 ?_
      refine x_ifb_eq C 36 dX8_tapsLost_18 rfl (fun c18 => ?_) (fun c18 => ?_)
      · refine x_iconst C 0 dX8_tapsLost_36 rfl ?_
        refine x_iadd C dX8_tapsLost_37 ?_
        refine x_topi (fun z1 ez1 => ?_)
        refine x_istore_n (L' := [(1, .int z1), (0, .ref ob), (2, .int (nI i))]) C dX8_tapsLost_38 rfl rfl ?_
        refine x_iinc (L' := [(2, .int ((nI i) + 1)), (1, .int z1), (0, .ref ob)]) C ((nI i) + 1) dX8_tapsLost_39 2 rfl rfl rfl rfl ?_
        refine x_goto C 4 dX8_tapsLost_42 rfl ?_
        refine x_perm (L' := [(0, .ref ob), (1, .int z1), (2, .int ((nI i) + 1))]) [2, 1, 0] rfl ?_
        subst ez1
        refine x_to (L' := [(0, .ref ob), (1, .int (tapS (tLo (qNow u)) (i + 1))), (2, .int (nI (i + 1)))]) (G' := ov ob (xC E ob (qNow u) (qTr u) (qH0 u) (qH1 u) (qH2 u) (qH3 u) (qOl u) (qKe u) (qCh u) (qTl u) (qNu u) (qKi u) (qEn u) (qWh u) (qFt u) (qFp u) (qFr u) (qFc u)) G) (by simp only [nI_succ, tapS, tLo]; first | done | rfl | (simp [bI, c18]; done) | (simp [bI, c18]; rfl)) rfl rfl ?_
        exact ih (i + 1) (by omega)
      · refine x_aload_n C dX8_tapsLost_21 0 rfl ?_
        refine x_get C (xlo (i := 0) hb_ob) (xhi (i := 0) hn_ob rfl) (ov_at (i := 0) rfl) f_X8_10 rfl dX8_tapsLost_22 ?_
        refine x_iload_n C dX8_tapsLost_25 2 rfl ?_
        refine x_cV1 C (MF.sliceR (i := 1) (n := 8) rfl (c_X6_isLost E N (ob + 1) _ (qNow u) (nI i) (xlo (i := 1) hb_ob) (xhn (i := 1) (n := 8) hn_ob rfl))) v_X8_72 hN (xlo (i := 1) hb_ob) (xhi (i := 1) hn_ob rfl) (ov_at (i := 1) rfl) rfl rfl rfl rfl rfl dX8_tapsLost_26 ?_
        refine x_ifb_eq C 36 dX8_tapsLost_29 rfl (fun c29 => ?_) (fun c29 => ?_)
        · refine x_iconst C 0 dX8_tapsLost_36 rfl ?_
          refine x_iadd C dX8_tapsLost_37 ?_
          refine x_topi (fun z2 ez2 => ?_)
          refine x_istore_n (L' := [(1, .int z2), (0, .ref ob), (2, .int (nI i))]) C dX8_tapsLost_38 rfl rfl ?_
          refine x_iinc (L' := [(2, .int ((nI i) + 1)), (1, .int z2), (0, .ref ob)]) C ((nI i) + 1) dX8_tapsLost_39 2 rfl rfl rfl rfl ?_
          refine x_goto C 4 dX8_tapsLost_42 rfl ?_
          refine x_perm (L' := [(0, .ref ob), (1, .int z2), (2, .int ((nI i) + 1))]) [2, 1, 0] rfl ?_
          subst ez2
          refine x_to (L' := [(0, .ref ob), (1, .int (tapS (tLo (qNow u)) (i + 1))), (2, .int (nI (i + 1)))]) (G' := ov ob (xC E ob (qNow u) (qTr u) (qH0 u) (qH1 u) (qH2 u) (qH3 u) (qOl u) (qKe u) (qCh u) (qTl u) (qNu u) (qKi u) (qEn u) (qWh u) (qFt u) (qFp u) (qFr u) (qFc u)) G) (by simp only [nI_succ, tapS, tLo]; first | done | rfl | (simp [bI, c18, c29]; done) | (simp [bI, c18, c29]; rfl)) rfl rfl ?_
          exact ih (i + 1) (by omega)
        · refine x_iconst C 1 dX8_tapsLost_32 rfl ?_
          refine x_goto C 37 dX8_tapsLost_33 rfl ?_
          refine x_iadd C dX8_tapsLost_37 ?_
          refine x_topi (fun z3 ez3 => ?_)
          refine x_istore_n (L' := [(1, .int z3), (0, .ref ob), (2, .int (nI i))]) C dX8_tapsLost_38 rfl rfl ?_
          refine x_iinc (L' := [(2, .int ((nI i) + 1)), (1, .int z3), (0, .ref ob)]) C ((nI i) + 1) dX8_tapsLost_39 2 rfl rfl rfl rfl ?_
          refine x_goto C 4 dX8_tapsLost_42 rfl ?_
          refine x_perm (L' := [(0, .ref ob), (1, .int z3), (2, .int ((nI i) + 1))]) [2, 1, 0] rfl ?_
          subst ez3
          refine x_to (L' := [(0, .ref ob), (1, .int (tapS (tLo (qNow u)) (i + 1))), (2, .int (nI (i + 1)))]) (G' := ov ob (xC E ob (qNow u) (qTr u) (qH0 u) (qH1 u) (qH2 u) (qH3 u) (qOl u) (qKe u) (qCh u) (qTl u) (qNu u) (qKi u) (qEn u) (qWh u) (qFt u) (qFp u) (qFr u) (qFc u)) G) (by simp only [nI_succ, tapS, tLo]; first | done | rfl | (simp [bI, c18, c29]; done) | (simp [bI, c18, c29]; rfl)) rfl rfl ?_
          exact ih (i + 1) (by omega)
  refine x_to (L' := [(0, .ref ob), (1, .int (tapS (tLo (qNow u)) 0)), (2, .int (nI 0))]) (G' := ov ob (xC E ob (qNow u) (qTr u) (qH0 u) (qH1 u) (qH2 u) (qH3 u) (qOl u) (qKe u) (qCh u) (qTl u) (qNu u) (qKi u) (qEn u) (qWh u) (qFt u) (qFp u) (qFr u) (qFc u)) G) rfl rfl rfl ?_
  exact lp4 _ 0 (Nat.add_sub_cancel' (by omega))

set_option maxRecDepth 100000 in
set_option maxHeartbeats 4000000 in
theorem c_X8_loudest (E : XE) (N ob : Nat) (G : GW) (u : QV) (hb_ob : xB E ≤ ob) (hn_ob : ob + 56 ≤ N) : MF E yX8_loudest cX8_loudest 3 (some .int) 3 62 0 0 [.ref ob] N (ov ob (xC E ob (qNow u) (qTr u) (qH0 u) (qH1 u) (qH2 u) (qH3 u) (qOl u) (qKe u) (qCh u) (qTl u) (qNu u) (qKi u) (qEn u) (qWh u) (qFt u) (qFp u) (qFr u) (qFc u)) G) (some (.int (tapS (tLd (qNow u)) 4))) (ov ob (xC E ob (qNow u) (qTr u) (qH0 u) (qH1 u) (qH2 u) (qH3 u) (qOl u) (qKe u) (qCh u) (qTl u) (qNu u) (qKi u) (qEn u) (qWh u) (qFt u) (qFp u) (qFr u) (qFc u)) G) := by
  refine MF.mk RX8 rfl (by decide +kernel) rfl (fun K C Z hin hN => ?_)
  show XW E K 3 N 0 0 _ 0 [(0, .ref ob)] []
  refine x_iconst C 0 dX8_loudest_0 rfl ?_
  refine x_istore_n (L' := [(1, .int 0), (0, .ref ob)]) C dX8_loudest_1 rfl rfl ?_
  refine x_iconst C 0 dX8_loudest_2 rfl ?_
  refine x_istore_n (L' := [(2, .int 0), (1, .int 0), (0, .ref ob)]) C dX8_loudest_3 rfl rfl ?_
  refine x_perm (L' := [(0, .ref ob), (1, .int 0), (2, .int 0)]) [2, 1, 0] rfl ?_
  have lp4 : ∀ (d i : Nat), i + d = 4 → XW E K 3 N 0 0 (ov ob (xC E ob (qNow u) (qTr u) (qH0 u) (qH1 u) (qH2 u) (qH3 u) (qOl u) (qKe u) (qCh u) (qTl u) (qNu u) (qKi u) (qEn u) (qWh u) (qFt u) (qFp u) (qFr u) (qFc u)) G) 4 [(0, .ref ob), (1, .int (tapS (tLd (qNow u)) i)), (2, .int (nI i))] [] := by
    intro d
    induction d with
    | zero =>
      intro i hd
      have q9i : 4 = i := by omega
      subst q9i
      refine x_iload_n C dX8_loudest_4 2 rfl ?_
      refine x_iconst C 4 dX8_loudest_5 rfl ?_
      refine x_icmp_ge C 61 dX8_loudest_6 rfl (fun _ => ?_) (fun c => absurd c (not_not_intro (nI_le (a := 4) (by omega) (by omega))))
      refine x_iload_n C dX8_loudest_61 1 rfl ?_
      exact x_iret C Z rfl rfl rfl rfl dX8_loudest_62
    | succ d ih =>
      intro i hd
      have hi : i < 4 := by omega
      refine x_iload_n C dX8_loudest_4 2 rfl ?_
      refine x_iconst C 4 dX8_loudest_5 rfl ?_
      refine x_icmp_ge C 61 dX8_loudest_6 rfl (fun c => absurd c (nI_ge (b := 4) (by omega) (by omega))) (fun _ => ?_)
      refine x_aload_n C dX8_loudest_9 0 rfl ?_
      refine x_get C (xlo (i := 0) hb_ob) (xhi (i := 0) hn_ob rfl) (ov_at (i := 0) rfl) f_X8_10 rfl dX8_loudest_10 ?_
      refine x_iload_n C dX8_loudest_13 2 rfl ?_
      refine x_cV1 C (MF.sliceR (i := 1) (n := 8) rfl (c_X6_isOn E N (ob + 1) _ (qNow u) (nI i) (xlo (i := 1) hb_ob) (xhn (i := 1) (n := 8) hn_ob rfl))) v_X8_80 hN (xlo (i := 1) hb_ob) (xhi (i := 1) hn_ob rfl) (ov_at (i := 1) rfl) rfl rfl rfl rfl rfl dX8_loudest_14 ?_
      refine x_ifb_eq C 55 dX8_loudest_17 rfl (fun c17 => ?_) (fun c17 => ?_)
      · refine x_iinc (L' := [(2, .int ((nI i) + 1)), (0, .ref ob), (1, .int (tapS (tLd (qNow u)) i))]) C ((nI i) + 1) dX8_loudest_55 2 rfl rfl rfl rfl ?_
        refine x_goto C 4 dX8_loudest_58 rfl ?_
        refine x_perm (L' := [(0, .ref ob), (1, .int (tapS (tLd (qNow u)) i)), (2, .int ((nI i) + 1))]) [1, 2, 0] rfl ?_
        refine x_to (L' := [(0, .ref ob), (1, .int (tapS (tLd (qNow u)) (i + 1))), (2, .int (nI (i + 1)))]) (G' := ov ob (xC E ob (qNow u) (qTr u) (qH0 u) (qH1 u) (qH2 u) (qH3 u) (qOl u) (qKe u) (qCh u) (qTl u) (qNu u) (qKi u) (qEn u) (qWh u) (qFt u) (qFp u) (qFr u) (qFc u)) G) (by simp only [nI_succ, tapS, tLd]; first | done | rfl | (simp [bI, c17]; done) | (simp [bI, c17]; rfl)) rfl rfl ?_
        exact ih (i + 1) (by omega)
      · refine x_aload_n C dX8_loudest_20 0 rfl ?_
        refine x_get C (xlo (i := 0) hb_ob) (xhi (i := 0) hn_ob rfl) (ov_at (i := 0) rfl) f_X8_10 rfl dX8_loudest_21 ?_
        refine x_iload_n C dX8_loudest_24 2 rfl ?_
        refine x_cV1 C (MF.sliceR (i := 1) (n := 8) rfl (c_X6_isLost E N (ob + 1) _ (qNow u) (nI i) (xlo (i := 1) hb_ob) (xhn (i := 1) (n := 8) hn_ob rfl))) v_X8_72 hN (xlo (i := 1) hb_ob) (xhi (i := 1) hn_ob rfl) (ov_at (i := 1) rfl) rfl rfl rfl rfl rfl dX8_loudest_25 ?_
        refine x_ifb_ne C 55 dX8_loudest_28 rfl (fun c28 => ?_) (fun c28 => ?_)
        · refine x_iinc (L' := [(2, .int ((nI i) + 1)), (0, .ref ob), (1, .int (tapS (tLd (qNow u)) i))]) C ((nI i) + 1) dX8_loudest_55 2 rfl rfl rfl rfl ?_
          refine x_goto C 4 dX8_loudest_58 rfl ?_
          refine x_perm (L' := [(0, .ref ob), (1, .int (tapS (tLd (qNow u)) i)), (2, .int ((nI i) + 1))]) [1, 2, 0] rfl ?_
          refine x_to (L' := [(0, .ref ob), (1, .int (tapS (tLd (qNow u)) (i + 1))), (2, .int (nI (i + 1)))]) (G' := ov ob (xC E ob (qNow u) (qTr u) (qH0 u) (qH1 u) (qH2 u) (qH3 u) (qOl u) (qKe u) (qCh u) (qTl u) (qNu u) (qKi u) (qEn u) (qWh u) (qFt u) (qFp u) (qFr u) (qFc u)) G) (by simp only [nI_succ, tapS, tLd]; first | done | rfl | (simp [bI, c17, c28]; done) | (simp [bI, c17, c28]; rfl)) rfl rfl ?_
          exact ih (i + 1) (by omega)
        · refine x_iload_n C dX8_loudest_31 1 rfl ?_
          refine x_aload_n C dX8_loudest_32 0 rfl ?_
          refine x_get C (xlo (i := 0) hb_ob) (xhi (i := 0) hn_ob rfl) (ov_at (i := 0) rfl) f_X8_10 rfl dX8_loudest_33 ?_
          refine x_iload_n C dX8_loudest_36 2 rfl ?_
          refine x_cV1 C (MF.sliceR (i := 1) (n := 8) rfl (c_X6_gainOf E N (ob + 1) _ (qNow u) (nI i) (xlo (i := 1) hb_ob) (xhn (i := 1) (n := 8) hn_ob rfl))) v_X8_91 hN (xlo (i := 1) hb_ob) (xhi (i := 1) hn_ob rfl) (ov_at (i := 1) rfl) rfl rfl rfl rfl rfl dX8_loudest_37 ?_
          refine x_aload_n C dX8_loudest_40 0 rfl ?_
          refine x_get C (xlo (i := 0) hb_ob) (xhi (i := 0) hn_ob rfl) (ov_at (i := 0) rfl) f_X8_10 rfl dX8_loudest_41 ?_
          refine x_get C (xlo (i := 1) hb_ob) (xhi (i := 1) hn_ob rfl) (ov_at (i := 1) rfl) f_X8_198 rfl dX8_loudest_44 ?_
          refine x_cS1 C (c_X8_thousandths E N _ (sGai (qNow u) (nI i)) (vLi (qNow u))) v_X8_201 hN rfl rfl rfl rfl dX8_loudest_47 ?_
          refine x_mabs C m_216 rfl rfl rfl rfl dX8_loudest_50 ?_
          refine x_iadd C dX8_loudest_53 ?_
          refine x_topi (fun z1 ez1 => ?_)
          refine x_istore_n (L' := [(1, .int z1), (0, .ref ob), (2, .int (nI i))]) C dX8_loudest_54 rfl rfl ?_
          refine x_iinc (L' := [(2, .int ((nI i) + 1)), (1, .int z1), (0, .ref ob)]) C ((nI i) + 1) dX8_loudest_55 2 rfl rfl rfl rfl ?_
          refine x_goto C 4 dX8_loudest_58 rfl ?_
          refine x_perm (L' := [(0, .ref ob), (1, .int z1), (2, .int ((nI i) + 1))]) [2, 1, 0] rfl ?_
          subst ez1
          refine x_to (L' := [(0, .ref ob), (1, .int (tapS (tLd (qNow u)) (i + 1))), (2, .int (nI (i + 1)))]) (G' := ov ob (xC E ob (qNow u) (qTr u) (qH0 u) (qH1 u) (qH2 u) (qH3 u) (qOl u) (qKe u) (qCh u) (qTl u) (qNu u) (qKi u) (qEn u) (qWh u) (qFt u) (qFp u) (qFr u) (qFc u)) G) (by simp only [nI_succ, tapS, tLd]; first | done | rfl | (simp [bI, c17, c28]; done) | (simp [bI, c17, c28]; rfl)) rfl rfl ?_
          exact ih (i + 1) (by omega)
  refine x_to (L' := [(0, .ref ob), (1, .int (tapS (tLd (qNow u)) 0)), (2, .int (nI 0))]) (G' := ov ob (xC E ob (qNow u) (qTr u) (qH0 u) (qH1 u) (qH2 u) (qH3 u) (qOl u) (qKe u) (qCh u) (qTl u) (qNu u) (qKi u) (qEn u) (qWh u) (qFt u) (qFp u) (qFr u) (qFc u)) G) rfl rfl rfl ?_
  exact lp4 _ 0 (Nat.add_sub_cancel' (by omega))

set_option maxRecDepth 100000 in
set_option maxHeartbeats 4000000 in
theorem c_X8_count (E : XE) (N ob : Nat) (G : GW) (u : QV) (w : Int32) (l : Nat) (hle : vLe (qNow u) = nI l) (hl : l ≤ 64) (hb_ob : xB E ≤ ob) (hn_ob : ob + 56 ≤ N) : MF E yX8_count cX8_count 2 (some .int) 4 84 0 0 [.ref ob, .int w] N (ov ob (xC E ob (qNow u) (qTr u) (qH0 u) (qH1 u) (qH2 u) (qH3 u) (qOl u) (qKe u) (qCh u) (qTl u) (qNu u) (qKi u) (qEn u) (qWh u) (qFt u) (qFp u) (qFr u) (qFc u)) G) (some (.int (rCnt u l w))) (ov ob (xC E ob (qNow u) (qTr u) (qH0 u) (qH1 u) (qH2 u) (qH3 u) (qOl u) (qKe u) (qCh u) (qTl u) (qNu u) (qKi u) (qEn u) (qWh u) (qFt u) (qFp u) (qFr u) (qFc u)) G) := by
  refine MF.mk RX8 rfl (by decide +kernel) rfl (fun K C Z hin hN => ?_)
  show XW E K 2 N 0 0 _ 0 [(0, .ref ob), (1, .int w)] []
  refine x_iload_n C dX8_count_0 1 rfl ?_
  rcases Decidable.em (w = 0) with s1_0 | s1_0
  · refine x_v (w := .int 0) (by rw [s1_0]) ?_
    refine x_tableIn C 104 dX8_count_1 (by decide) (by decide) rfl rfl ?_
    refine x_aload_n C dX8_count_104 0 rfl ?_
    refine x_get C (xlo (i := 0) hb_ob) (xhi (i := 0) hn_ob rfl) (ov_at (i := 0) rfl) f_X8_10 rfl dX8_count_105 ?_
    refine x_get C (xlo (i := 1) hb_ob) (xhi (i := 1) hn_ob rfl) (ov_at (i := 1) rfl) f_X8_105 rfl dX8_count_108 ?_
    refine x_get C (xlo (i := 2) hb_ob) (xhi (i := 2) hn_ob rfl) (ov_at (i := 2) rfl) f_X8_109 rfl dX8_count_111 ?_
    exact x_iret C Z rfl rfl (by first | (simp only [rCnt, if_pos s1_0, eq_self, Bool.false_eq_true, if_true, if_false]; done) | ((simp only [rCnt, if_pos s1_0, eq_self, Bool.false_eq_true, if_true, if_false]); rfl) | (simp [rCnt, s1_0]; done) | (simp [rCnt, s1_0]; rfl)) (by first | (simp only [rCnt, if_pos s1_0, eq_self, Bool.false_eq_true, if_true, if_false]; done) | ((simp only [rCnt, if_pos s1_0, eq_self, Bool.false_eq_true, if_true, if_false]); rfl) | (simp [rCnt, s1_0]; done) | (simp [rCnt, s1_0]; rfl)) dX8_count_114
  rcases Decidable.em (w = 1) with s1_1 | s1_1
  · refine x_v (w := .int 1) (by rw [s1_1]) ?_
    refine x_tableIn C 115 dX8_count_1 (by decide) (by decide) rfl rfl ?_
    refine x_aload_n C dX8_count_115 0 rfl ?_
    refine x_get C (xlo (i := 0) hb_ob) (xhi (i := 0) hn_ob rfl) (ov_at (i := 0) rfl) f_X8_10 rfl dX8_count_116 ?_
    refine x_cV1 C (MF.sliceR (i := 1) (n := 8) rfl (c_X6_wordsOfProgram E N (ob + 1) _ (qNow u) (xlo (i := 1) hb_ob) (xhn (i := 1) (n := 8) hn_ob rfl))) v_X8_94 hN (xlo (i := 1) hb_ob) (xhi (i := 1) hn_ob rfl) (ov_at (i := 1) rfl) rfl rfl rfl rfl rfl dX8_count_119 ?_
    exact x_iret C Z rfl rfl (by first | (simp only [rCnt, if_neg s1_0, if_pos s1_1, eq_self, Bool.false_eq_true, if_true, if_false]; done) | ((simp only [rCnt, if_neg s1_0, if_pos s1_1, eq_self, Bool.false_eq_true, if_true, if_false]); rfl) | (simp [rCnt, s1_0, s1_1]; done) | (simp [rCnt, s1_0, s1_1]; rfl)) (by first | (simp only [rCnt, if_neg s1_0, if_pos s1_1, eq_self, Bool.false_eq_true, if_true, if_false]; done) | ((simp only [rCnt, if_neg s1_0, if_pos s1_1, eq_self, Bool.false_eq_true, if_true, if_false]); rfl) | (simp [rCnt, s1_0, s1_1]; done) | (simp [rCnt, s1_0, s1_1]; rfl)) dX8_count_122
  rcases Decidable.em (w = 2) with s1_2 | s1_2
  · refine x_v (w := .int 2) (by rw [s1_2]) ?_
    refine x_tableIn C 123 dX8_count_1 (by decide) (by decide) rfl rfl ?_
    refine x_aload_n C dX8_count_123 0 rfl ?_
    refine x_cV1 C (c_X8_tapsOn E N ob _ (mkQ (qNow u) (qTr u) (qH0 u) (qH1 u) (qH2 u) (qH3 u) (qOl u) (qKe u) (qCh u) (qTl u) (qNu u) (qKi u) (qEn u) (qWh u) (qFt u) (qFp u) (qFr u) (qFc u)) hb_ob hn_ob) v_X8_207 hN (xlo (i := 0) hb_ob) (xhi (i := 0) hn_ob rfl) (ov_at (i := 0) rfl) rfl rfl rfl rfl rfl dX8_count_124 ?_
    exact x_iret C Z rfl rfl (by first | (simp only [rCnt, if_neg s1_0, if_neg s1_1, if_pos s1_2, eq_self, Bool.false_eq_true, if_true, if_false]; done) | ((simp only [rCnt, if_neg s1_0, if_neg s1_1, if_pos s1_2, eq_self, Bool.false_eq_true, if_true, if_false]); rfl) | (simp [rCnt, s1_0, s1_1, s1_2]; done) | (simp [rCnt, s1_0, s1_1, s1_2]; rfl)) (by first | (simp only [rCnt, if_neg s1_0, if_neg s1_1, if_pos s1_2, eq_self, Bool.false_eq_true, if_true, if_false]; done) | ((simp only [rCnt, if_neg s1_0, if_neg s1_1, if_pos s1_2, eq_self, Bool.false_eq_true, if_true, if_false]); rfl) | (simp [rCnt, s1_0, s1_1, s1_2]; done) | (simp [rCnt, s1_0, s1_1, s1_2]; rfl)) dX8_count_127
  rcases Decidable.em (w = 3) with s1_3 | s1_3
  · refine x_v (w := .int 3) (by rw [s1_3]) ?_
    refine x_tableIn C 128 dX8_count_1 (by decide) (by decide) rfl rfl ?_
    refine x_aload_n C dX8_count_128 0 rfl ?_
    refine x_cV1 C (c_X8_tapsLost E N ob _ (mkQ (qNow u) (qTr u) (qH0 u) (qH1 u) (qH2 u) (qH3 u) (qOl u) (qKe u) (qCh u) (qTl u) (qNu u) (qKi u) (qEn u) (qWh u) (qFt u) (qFp u) (qFr u) (qFc u)) hb_ob hn_ob) v_X8_210 hN (xlo (i := 0) hb_ob) (xhi (i := 0) hn_ob rfl) (ov_at (i := 0) rfl) rfl rfl rfl rfl rfl dX8_count_129 ?_
    exact x_iret C Z rfl rfl (by first | (simp only [rCnt, if_neg s1_0, if_neg s1_1, if_neg s1_2, if_pos s1_3, eq_self, Bool.false_eq_true, if_true, if_false]; done) | ((simp only [rCnt, if_neg s1_0, if_neg s1_1, if_neg s1_2, if_pos s1_3, eq_self, Bool.false_eq_true, if_true, if_false]); rfl) | (simp [rCnt, s1_0, s1_1, s1_2, s1_3]; done) | (simp [rCnt, s1_0, s1_1, s1_2, s1_3]; rfl)) (by first | (simp only [rCnt, if_neg s1_0, if_neg s1_1, if_neg s1_2, if_pos s1_3, eq_self, Bool.false_eq_true, if_true, if_false]; done) | ((simp only [rCnt, if_neg s1_0, if_neg s1_1, if_neg s1_2, if_pos s1_3, eq_self, Bool.false_eq_true, if_true, if_false]); rfl) | (simp [rCnt, s1_0, s1_1, s1_2, s1_3]; done) | (simp [rCnt, s1_0, s1_1, s1_2, s1_3]; rfl)) dX8_count_132
  rcases Decidable.em (w = 4) with s1_4 | s1_4
  · refine x_v (w := .int 4) (by rw [s1_4]) ?_
    refine x_tableIn C 133 dX8_count_1 (by decide) (by decide) rfl rfl ?_
    refine x_aload_n C dX8_count_133 0 rfl ?_
    refine x_get C (xlo (i := 0) hb_ob) (xhi (i := 0) hn_ob rfl) (ov_at (i := 0) rfl) f_X8_10 rfl dX8_count_134 ?_
    refine x_get C (xlo (i := 1) hb_ob) (xhi (i := 1) hn_ob rfl) (ov_at (i := 1) rfl) f_X8_105 rfl dX8_count_137 ?_
    refine x_cV1 C (MF.sliceR (i := 2) (n := 2) rfl (c2_X5_sumOfAmounts E N (ob + 2) _ (vW (qNow u)) (vFi (qNow u)) (vLe (qNow u)) l hle hl (xlo (i := 2) hb_ob) (xhn (i := 2) (n := 2) hn_ob rfl))) v_X8_213 hN (xlo (i := 2) hb_ob) (xhi (i := 2) hn_ob rfl) (ov_at (i := 2) rfl) rfl rfl rfl rfl rfl dX8_count_140 ?_
    exact x_iret C Z rfl rfl (by first | (simp only [rCnt, if_neg s1_0, if_neg s1_1, if_neg s1_2, if_neg s1_3, if_pos s1_4, eq_self, Bool.false_eq_true, if_true, if_false]; done) | ((simp only [rCnt, if_neg s1_0, if_neg s1_1, if_neg s1_2, if_neg s1_3, if_pos s1_4, eq_self, Bool.false_eq_true, if_true, if_false]); rfl) | (simp [rCnt, s1_0, s1_1, s1_2, s1_3, s1_4]; done) | (simp [rCnt, s1_0, s1_1, s1_2, s1_3, s1_4]; rfl)) (by first | (simp only [rCnt, if_neg s1_0, if_neg s1_1, if_neg s1_2, if_neg s1_3, if_pos s1_4, eq_self, Bool.false_eq_true, if_true, if_false]; done) | ((simp only [rCnt, if_neg s1_0, if_neg s1_1, if_neg s1_2, if_neg s1_3, if_pos s1_4, eq_self, Bool.false_eq_true, if_true, if_false]); rfl) | (simp [rCnt, s1_0, s1_1, s1_2, s1_3, s1_4]; done) | (simp [rCnt, s1_0, s1_1, s1_2, s1_3, s1_4]; rfl)) dX8_count_143
  rcases Decidable.em (w = 5) with s1_5 | s1_5
  · refine x_v (w := .int 5) (by rw [s1_5]) ?_
    refine x_tableIn C 144 dX8_count_1 (by decide) (by decide) rfl rfl ?_
    refine x_aload_n C dX8_count_144 0 rfl ?_
    refine x_get C (xlo (i := 0) hb_ob) (xhi (i := 0) hn_ob rfl) (ov_at (i := 0) rfl) f_X8_10 rfl dX8_count_145 ?_
    refine x_get C (xlo (i := 1) hb_ob) (xhi (i := 1) hn_ob rfl) (ov_at (i := 1) rfl) f_X8_105 rfl dX8_count_148 ?_
    refine x_iconst C 0 dX8_count_151 rfl ?_
    refine x_cV1 C (MF.sliceR (i := 2) (n := 2) rfl (c2_X5_wordsAbove E N (ob + 2) _ (vW (qNow u)) (vFi (qNow u)) (vLe (qNow u)) 0 l hle hl (xlo (i := 2) hb_ob) (xhn (i := 2) (n := 2) hn_ob rfl))) v_X8_187 hN (xlo (i := 2) hb_ob) (xhi (i := 2) hn_ob rfl) (ov_at (i := 2) rfl) rfl rfl rfl rfl rfl dX8_count_152 ?_
    exact x_iret C Z rfl rfl (by first | (simp only [rCnt, if_neg s1_0, if_neg s1_1, if_neg s1_2, if_neg s1_3, if_neg s1_4, if_pos s1_5, eq_self, Bool.false_eq_true, if_true, if_false]; done) | ((simp only [rCnt, if_neg s1_0, if_neg s1_1, if_neg s1_2, if_neg s1_3, if_neg s1_4, if_pos s1_5, eq_self, Bool.false_eq_true, if_true, if_false]); rfl) | (simp [rCnt, s1_0, s1_1, s1_2, s1_3, s1_4, s1_5]; done) | (simp [rCnt, s1_0, s1_1, s1_2, s1_3, s1_4, s1_5]; rfl)) (by first | (simp only [rCnt, if_neg s1_0, if_neg s1_1, if_neg s1_2, if_neg s1_3, if_neg s1_4, if_pos s1_5, eq_self, Bool.false_eq_true, if_true, if_false]; done) | ((simp only [rCnt, if_neg s1_0, if_neg s1_1, if_neg s1_2, if_neg s1_3, if_neg s1_4, if_pos s1_5, eq_self, Bool.false_eq_true, if_true, if_false]); rfl) | (simp [rCnt, s1_0, s1_1, s1_2, s1_3, s1_4, s1_5]; done) | (simp [rCnt, s1_0, s1_1, s1_2, s1_3, s1_4, s1_5]; rfl)) dX8_count_155
  rcases Decidable.em (w = 6) with s1_6 | s1_6
  · refine x_v (w := .int 6) (by rw [s1_6]) ?_
    refine x_tableIn C 156 dX8_count_1 (by decide) (by decide) rfl rfl ?_
    refine x_aload_n C dX8_count_156 0 rfl ?_
    refine x_get C (xlo (i := 0) hb_ob) (xhi (i := 0) hn_ob rfl) (ov_at (i := 0) rfl) f_X8_10 rfl dX8_count_157 ?_
    refine x_get C (xlo (i := 1) hb_ob) (xhi (i := 1) hn_ob rfl) (ov_at (i := 1) rfl) f_X8_216 rfl dX8_count_160 ?_
    exact x_iret C Z rfl rfl (by first | (simp only [rCnt, if_neg s1_0, if_neg s1_1, if_neg s1_2, if_neg s1_3, if_neg s1_4, if_neg s1_5, if_pos s1_6, eq_self, Bool.false_eq_true, if_true, if_false]; done) | ((simp only [rCnt, if_neg s1_0, if_neg s1_1, if_neg s1_2, if_neg s1_3, if_neg s1_4, if_neg s1_5, if_pos s1_6, eq_self, Bool.false_eq_true, if_true, if_false]); rfl) | (simp [rCnt, s1_0, s1_1, s1_2, s1_3, s1_4, s1_5, s1_6]; done) | (simp [rCnt, s1_0, s1_1, s1_2, s1_3, s1_4, s1_5, s1_6]; rfl)) (by first | (simp only [rCnt, if_neg s1_0, if_neg s1_1, if_neg s1_2, if_neg s1_3, if_neg s1_4, if_neg s1_5, if_pos s1_6, eq_self, Bool.false_eq_true, if_true, if_false]; done) | ((simp only [rCnt, if_neg s1_0, if_neg s1_1, if_neg s1_2, if_neg s1_3, if_neg s1_4, if_neg s1_5, if_pos s1_6, eq_self, Bool.false_eq_true, if_true, if_false]); rfl) | (simp [rCnt, s1_0, s1_1, s1_2, s1_3, s1_4, s1_5, s1_6]; done) | (simp [rCnt, s1_0, s1_1, s1_2, s1_3, s1_4, s1_5, s1_6]; rfl)) dX8_count_163
  rcases Decidable.em (w = 7) with s1_7 | s1_7
  · refine x_v (w := .int 7) (by rw [s1_7]) ?_
    refine x_tableIn C 164 dX8_count_1 (by decide) (by decide) rfl rfl ?_
    refine x_aload_n C dX8_count_164 0 rfl ?_
    refine x_get C (xlo (i := 0) hb_ob) (xhi (i := 0) hn_ob rfl) (ov_at (i := 0) rfl) f_X8_22 rfl dX8_count_165 ?_
    refine x_get C (xlo (i := 17) hb_ob) (xhi (i := 17) hn_ob rfl) (ov_at (i := 17) rfl) f_X8_219 rfl dX8_count_168 ?_
    exact x_iret C Z rfl rfl (by first | (simp only [rCnt, if_neg s1_0, if_neg s1_1, if_neg s1_2, if_neg s1_3, if_neg s1_4, if_neg s1_5, if_neg s1_6, if_pos s1_7, eq_self, Bool.false_eq_true, if_true, if_false]; done) | ((simp only [rCnt, if_neg s1_0, if_neg s1_1, if_neg s1_2, if_neg s1_3, if_neg s1_4, if_neg s1_5, if_neg s1_6, if_pos s1_7, eq_self, Bool.false_eq_true, if_true, if_false]); rfl) | (simp [rCnt, s1_0, s1_1, s1_2, s1_3, s1_4, s1_5, s1_6, s1_7]; done) | (simp [rCnt, s1_0, s1_1, s1_2, s1_3, s1_4, s1_5, s1_6, s1_7]; rfl)) (by first | (simp only [rCnt, if_neg s1_0, if_neg s1_1, if_neg s1_2, if_neg s1_3, if_neg s1_4, if_neg s1_5, if_neg s1_6, if_pos s1_7, eq_self, Bool.false_eq_true, if_true, if_false]; done) | ((simp only [rCnt, if_neg s1_0, if_neg s1_1, if_neg s1_2, if_neg s1_3, if_neg s1_4, if_neg s1_5, if_neg s1_6, if_pos s1_7, eq_self, Bool.false_eq_true, if_true, if_false]); rfl) | (simp [rCnt, s1_0, s1_1, s1_2, s1_3, s1_4, s1_5, s1_6, s1_7]; done) | (simp [rCnt, s1_0, s1_1, s1_2, s1_3, s1_4, s1_5, s1_6, s1_7]; rfl)) dX8_count_171
  rcases Decidable.em (w = 8) with s1_8 | s1_8
  · refine x_v (w := .int 8) (by rw [s1_8]) ?_
    refine x_tableIn C 172 dX8_count_1 (by decide) (by decide) rfl rfl ?_
    refine x_aload_n C dX8_count_172 0 rfl ?_
    refine x_get C (xlo (i := 0) hb_ob) (xhi (i := 0) hn_ob rfl) (ov_at (i := 0) rfl) f_X8_29 rfl dX8_count_173 ?_
    refine x_get C (xlo (i := 51) hb_ob) (xhi (i := 51) hn_ob rfl) (ov_at (i := 51) rfl) f_X8_220 rfl dX8_count_176 ?_
    exact x_iret C Z rfl rfl (by first | (simp only [rCnt, if_neg s1_0, if_neg s1_1, if_neg s1_2, if_neg s1_3, if_neg s1_4, if_neg s1_5, if_neg s1_6, if_neg s1_7, if_pos s1_8, eq_self, Bool.false_eq_true, if_true, if_false]; done) | ((simp only [rCnt, if_neg s1_0, if_neg s1_1, if_neg s1_2, if_neg s1_3, if_neg s1_4, if_neg s1_5, if_neg s1_6, if_neg s1_7, if_pos s1_8, eq_self, Bool.false_eq_true, if_true, if_false]); rfl) | (simp [rCnt, s1_0, s1_1, s1_2, s1_3, s1_4, s1_5, s1_6, s1_7, s1_8]; done) | (simp [rCnt, s1_0, s1_1, s1_2, s1_3, s1_4, s1_5, s1_6, s1_7, s1_8]; rfl)) (by first | (simp only [rCnt, if_neg s1_0, if_neg s1_1, if_neg s1_2, if_neg s1_3, if_neg s1_4, if_neg s1_5, if_neg s1_6, if_neg s1_7, if_pos s1_8, eq_self, Bool.false_eq_true, if_true, if_false]; done) | ((simp only [rCnt, if_neg s1_0, if_neg s1_1, if_neg s1_2, if_neg s1_3, if_neg s1_4, if_neg s1_5, if_neg s1_6, if_neg s1_7, if_pos s1_8, eq_self, Bool.false_eq_true, if_true, if_false]); rfl) | (simp [rCnt, s1_0, s1_1, s1_2, s1_3, s1_4, s1_5, s1_6, s1_7, s1_8]; done) | (simp [rCnt, s1_0, s1_1, s1_2, s1_3, s1_4, s1_5, s1_6, s1_7, s1_8]; rfl)) dX8_count_179
  rcases Decidable.em (w = 9) with s1_9 | s1_9
  · refine x_v (w := .int 9) (by rw [s1_9]) ?_
    refine x_tableIn C 196 dX8_count_1 (by decide) (by decide) rfl rfl ?_
    refine x_ldc C (-1000001) m_161 dX8_count_196 ?_
    exact x_iret C Z rfl rfl (by first | (simp only [rCnt, if_neg s1_0, if_neg s1_1, if_neg s1_2, if_neg s1_3, if_neg s1_4, if_neg s1_5, if_neg s1_6, if_neg s1_7, if_neg s1_8, if_pos s1_9, eq_self, Bool.false_eq_true, if_true, if_false]; done) | ((simp only [rCnt, if_neg s1_0, if_neg s1_1, if_neg s1_2, if_neg s1_3, if_neg s1_4, if_neg s1_5, if_neg s1_6, if_neg s1_7, if_neg s1_8, if_pos s1_9, eq_self, Bool.false_eq_true, if_true, if_false]); rfl) | (simp [rCnt, s1_0, s1_1, s1_2, s1_3, s1_4, s1_5, s1_6, s1_7, s1_8, s1_9]; done) | (simp [rCnt, s1_0, s1_1, s1_2, s1_3, s1_4, s1_5, s1_6, s1_7, s1_8, s1_9]; rfl)) (by first | (simp only [rCnt, if_neg s1_0, if_neg s1_1, if_neg s1_2, if_neg s1_3, if_neg s1_4, if_neg s1_5, if_neg s1_6, if_neg s1_7, if_neg s1_8, if_pos s1_9, eq_self, Bool.false_eq_true, if_true, if_false]; done) | ((simp only [rCnt, if_neg s1_0, if_neg s1_1, if_neg s1_2, if_neg s1_3, if_neg s1_4, if_neg s1_5, if_neg s1_6, if_neg s1_7, if_neg s1_8, if_pos s1_9, eq_self, Bool.false_eq_true, if_true, if_false]); rfl) | (simp [rCnt, s1_0, s1_1, s1_2, s1_3, s1_4, s1_5, s1_6, s1_7, s1_8, s1_9]; done) | (simp [rCnt, s1_0, s1_1, s1_2, s1_3, s1_4, s1_5, s1_6, s1_7, s1_8, s1_9]; rfl)) dX8_count_198
  rcases Decidable.em (w = 10) with s1_10 | s1_10
  · refine x_v (w := .int 10) (by rw [s1_10]) ?_
    refine x_tableIn C 196 dX8_count_1 (by decide) (by decide) rfl rfl ?_
    refine x_ldc C (-1000001) m_161 dX8_count_196 ?_
    exact x_iret C Z rfl rfl (by first | (simp only [rCnt, if_neg s1_0, if_neg s1_1, if_neg s1_2, if_neg s1_3, if_neg s1_4, if_neg s1_5, if_neg s1_6, if_neg s1_7, if_neg s1_8, if_neg s1_9, if_pos s1_10, eq_self, Bool.false_eq_true, if_true, if_false]; done) | ((simp only [rCnt, if_neg s1_0, if_neg s1_1, if_neg s1_2, if_neg s1_3, if_neg s1_4, if_neg s1_5, if_neg s1_6, if_neg s1_7, if_neg s1_8, if_neg s1_9, if_pos s1_10, eq_self, Bool.false_eq_true, if_true, if_false]); rfl) | (simp [rCnt, s1_0, s1_1, s1_2, s1_3, s1_4, s1_5, s1_6, s1_7, s1_8, s1_9, s1_10]; done) | (simp [rCnt, s1_0, s1_1, s1_2, s1_3, s1_4, s1_5, s1_6, s1_7, s1_8, s1_9, s1_10]; rfl)) (by first | (simp only [rCnt, if_neg s1_0, if_neg s1_1, if_neg s1_2, if_neg s1_3, if_neg s1_4, if_neg s1_5, if_neg s1_6, if_neg s1_7, if_neg s1_8, if_neg s1_9, if_pos s1_10, eq_self, Bool.false_eq_true, if_true, if_false]; done) | ((simp only [rCnt, if_neg s1_0, if_neg s1_1, if_neg s1_2, if_neg s1_3, if_neg s1_4, if_neg s1_5, if_neg s1_6, if_neg s1_7, if_neg s1_8, if_neg s1_9, if_pos s1_10, eq_self, Bool.false_eq_true, if_true, if_false]); rfl) | (simp [rCnt, s1_0, s1_1, s1_2, s1_3, s1_4, s1_5, s1_6, s1_7, s1_8, s1_9, s1_10]; done) | (simp [rCnt, s1_0, s1_1, s1_2, s1_3, s1_4, s1_5, s1_6, s1_7, s1_8, s1_9, s1_10]; rfl)) dX8_count_198
  rcases Decidable.em (w = 11) with s1_11 | s1_11
  · refine x_v (w := .int 11) (by rw [s1_11]) ?_
    refine x_tableIn C 196 dX8_count_1 (by decide) (by decide) rfl rfl ?_
    refine x_ldc C (-1000001) m_161 dX8_count_196 ?_
    exact x_iret C Z rfl rfl (by first | (simp only [rCnt, if_neg s1_0, if_neg s1_1, if_neg s1_2, if_neg s1_3, if_neg s1_4, if_neg s1_5, if_neg s1_6, if_neg s1_7, if_neg s1_8, if_neg s1_9, if_neg s1_10, if_pos s1_11, eq_self, Bool.false_eq_true, if_true, if_false]; done) | ((simp only [rCnt, if_neg s1_0, if_neg s1_1, if_neg s1_2, if_neg s1_3, if_neg s1_4, if_neg s1_5, if_neg s1_6, if_neg s1_7, if_neg s1_8, if_neg s1_9, if_neg s1_10, if_pos s1_11, eq_self, Bool.false_eq_true, if_true, if_false]); rfl) | (simp [rCnt, s1_0, s1_1, s1_2, s1_3, s1_4, s1_5, s1_6, s1_7, s1_8, s1_9, s1_10, s1_11]; done) | (simp [rCnt, s1_0, s1_1, s1_2, s1_3, s1_4, s1_5, s1_6, s1_7, s1_8, s1_9, s1_10, s1_11]; rfl)) (by first | (simp only [rCnt, if_neg s1_0, if_neg s1_1, if_neg s1_2, if_neg s1_3, if_neg s1_4, if_neg s1_5, if_neg s1_6, if_neg s1_7, if_neg s1_8, if_neg s1_9, if_neg s1_10, if_pos s1_11, eq_self, Bool.false_eq_true, if_true, if_false]; done) | ((simp only [rCnt, if_neg s1_0, if_neg s1_1, if_neg s1_2, if_neg s1_3, if_neg s1_4, if_neg s1_5, if_neg s1_6, if_neg s1_7, if_neg s1_8, if_neg s1_9, if_neg s1_10, if_pos s1_11, eq_self, Bool.false_eq_true, if_true, if_false]); rfl) | (simp [rCnt, s1_0, s1_1, s1_2, s1_3, s1_4, s1_5, s1_6, s1_7, s1_8, s1_9, s1_10, s1_11]; done) | (simp [rCnt, s1_0, s1_1, s1_2, s1_3, s1_4, s1_5, s1_6, s1_7, s1_8, s1_9, s1_10, s1_11]; rfl)) dX8_count_198
  rcases Decidable.em (w = 12) with s1_12 | s1_12
  · refine x_v (w := .int 12) (by rw [s1_12]) ?_
    refine x_tableIn C 196 dX8_count_1 (by decide) (by decide) rfl rfl ?_
    refine x_ldc C (-1000001) m_161 dX8_count_196 ?_
    exact x_iret C Z rfl rfl (by first | (simp only [rCnt, if_neg s1_0, if_neg s1_1, if_neg s1_2, if_neg s1_3, if_neg s1_4, if_neg s1_5, if_neg s1_6, if_neg s1_7, if_neg s1_8, if_neg s1_9, if_neg s1_10, if_neg s1_11, if_pos s1_12, eq_self, Bool.false_eq_true, if_true, if_false]; done) | ((simp only [rCnt, if_neg s1_0, if_neg s1_1, if_neg s1_2, if_neg s1_3, if_neg s1_4, if_neg s1_5, if_neg s1_6, if_neg s1_7, if_neg s1_8, if_neg s1_9, if_neg s1_10, if_neg s1_11, if_pos s1_12, eq_self, Bool.false_eq_true, if_true, if_false]); rfl) | (simp [rCnt, s1_0, s1_1, s1_2, s1_3, s1_4, s1_5, s1_6, s1_7, s1_8, s1_9, s1_10, s1_11, s1_12]; done) | (simp [rCnt, s1_0, s1_1, s1_2, s1_3, s1_4, s1_5, s1_6, s1_7, s1_8, s1_9, s1_10, s1_11, s1_12]; rfl)) (by first | (simp only [rCnt, if_neg s1_0, if_neg s1_1, if_neg s1_2, if_neg s1_3, if_neg s1_4, if_neg s1_5, if_neg s1_6, if_neg s1_7, if_neg s1_8, if_neg s1_9, if_neg s1_10, if_neg s1_11, if_pos s1_12, eq_self, Bool.false_eq_true, if_true, if_false]; done) | ((simp only [rCnt, if_neg s1_0, if_neg s1_1, if_neg s1_2, if_neg s1_3, if_neg s1_4, if_neg s1_5, if_neg s1_6, if_neg s1_7, if_neg s1_8, if_neg s1_9, if_neg s1_10, if_neg s1_11, if_pos s1_12, eq_self, Bool.false_eq_true, if_true, if_false]); rfl) | (simp [rCnt, s1_0, s1_1, s1_2, s1_3, s1_4, s1_5, s1_6, s1_7, s1_8, s1_9, s1_10, s1_11, s1_12]; done) | (simp [rCnt, s1_0, s1_1, s1_2, s1_3, s1_4, s1_5, s1_6, s1_7, s1_8, s1_9, s1_10, s1_11, s1_12]; rfl)) dX8_count_198
  rcases Decidable.em (w = 13) with s1_13 | s1_13
  · refine x_v (w := .int 13) (by rw [s1_13]) ?_
    refine x_tableIn C 196 dX8_count_1 (by decide) (by decide) rfl rfl ?_
    refine x_ldc C (-1000001) m_161 dX8_count_196 ?_
    exact x_iret C Z rfl rfl (by first | (simp only [rCnt, if_neg s1_0, if_neg s1_1, if_neg s1_2, if_neg s1_3, if_neg s1_4, if_neg s1_5, if_neg s1_6, if_neg s1_7, if_neg s1_8, if_neg s1_9, if_neg s1_10, if_neg s1_11, if_neg s1_12, if_pos s1_13, eq_self, Bool.false_eq_true, if_true, if_false]; done) | ((simp only [rCnt, if_neg s1_0, if_neg s1_1, if_neg s1_2, if_neg s1_3, if_neg s1_4, if_neg s1_5, if_neg s1_6, if_neg s1_7, if_neg s1_8, if_neg s1_9, if_neg s1_10, if_neg s1_11, if_neg s1_12, if_pos s1_13, eq_self, Bool.false_eq_true, if_true, if_false]); rfl) | (simp [rCnt, s1_0, s1_1, s1_2, s1_3, s1_4, s1_5, s1_6, s1_7, s1_8, s1_9, s1_10, s1_11, s1_12, s1_13]; done) | (simp [rCnt, s1_0, s1_1, s1_2, s1_3, s1_4, s1_5, s1_6, s1_7, s1_8, s1_9, s1_10, s1_11, s1_12, s1_13]; rfl)) (by first | (simp only [rCnt, if_neg s1_0, if_neg s1_1, if_neg s1_2, if_neg s1_3, if_neg s1_4, if_neg s1_5, if_neg s1_6, if_neg s1_7, if_neg s1_8, if_neg s1_9, if_neg s1_10, if_neg s1_11, if_neg s1_12, if_pos s1_13, eq_self, Bool.false_eq_true, if_true, if_false]; done) | ((simp only [rCnt, if_neg s1_0, if_neg s1_1, if_neg s1_2, if_neg s1_3, if_neg s1_4, if_neg s1_5, if_neg s1_6, if_neg s1_7, if_neg s1_8, if_neg s1_9, if_neg s1_10, if_neg s1_11, if_neg s1_12, if_pos s1_13, eq_self, Bool.false_eq_true, if_true, if_false]); rfl) | (simp [rCnt, s1_0, s1_1, s1_2, s1_3, s1_4, s1_5, s1_6, s1_7, s1_8, s1_9, s1_10, s1_11, s1_12, s1_13]; done) | (simp [rCnt, s1_0, s1_1, s1_2, s1_3, s1_4, s1_5, s1_6, s1_7, s1_8, s1_9, s1_10, s1_11, s1_12, s1_13]; rfl)) dX8_count_198
  rcases Decidable.em (w = 14) with s1_14 | s1_14
  · refine x_v (w := .int 14) (by rw [s1_14]) ?_
    refine x_tableIn C 196 dX8_count_1 (by decide) (by decide) rfl rfl ?_
    refine x_ldc C (-1000001) m_161 dX8_count_196 ?_
    exact x_iret C Z rfl rfl (by first | (simp only [rCnt, if_neg s1_0, if_neg s1_1, if_neg s1_2, if_neg s1_3, if_neg s1_4, if_neg s1_5, if_neg s1_6, if_neg s1_7, if_neg s1_8, if_neg s1_9, if_neg s1_10, if_neg s1_11, if_neg s1_12, if_neg s1_13, if_pos s1_14, eq_self, Bool.false_eq_true, if_true, if_false]; done) | ((simp only [rCnt, if_neg s1_0, if_neg s1_1, if_neg s1_2, if_neg s1_3, if_neg s1_4, if_neg s1_5, if_neg s1_6, if_neg s1_7, if_neg s1_8, if_neg s1_9, if_neg s1_10, if_neg s1_11, if_neg s1_12, if_neg s1_13, if_pos s1_14, eq_self, Bool.false_eq_true, if_true, if_false]); rfl) | (simp [rCnt, s1_0, s1_1, s1_2, s1_3, s1_4, s1_5, s1_6, s1_7, s1_8, s1_9, s1_10, s1_11, s1_12, s1_13, s1_14]; done) | (simp [rCnt, s1_0, s1_1, s1_2, s1_3, s1_4, s1_5, s1_6, s1_7, s1_8, s1_9, s1_10, s1_11, s1_12, s1_13, s1_14]; rfl)) (by first | (simp only [rCnt, if_neg s1_0, if_neg s1_1, if_neg s1_2, if_neg s1_3, if_neg s1_4, if_neg s1_5, if_neg s1_6, if_neg s1_7, if_neg s1_8, if_neg s1_9, if_neg s1_10, if_neg s1_11, if_neg s1_12, if_neg s1_13, if_pos s1_14, eq_self, Bool.false_eq_true, if_true, if_false]; done) | ((simp only [rCnt, if_neg s1_0, if_neg s1_1, if_neg s1_2, if_neg s1_3, if_neg s1_4, if_neg s1_5, if_neg s1_6, if_neg s1_7, if_neg s1_8, if_neg s1_9, if_neg s1_10, if_neg s1_11, if_neg s1_12, if_neg s1_13, if_pos s1_14, eq_self, Bool.false_eq_true, if_true, if_false]); rfl) | (simp [rCnt, s1_0, s1_1, s1_2, s1_3, s1_4, s1_5, s1_6, s1_7, s1_8, s1_9, s1_10, s1_11, s1_12, s1_13, s1_14]; done) | (simp [rCnt, s1_0, s1_1, s1_2, s1_3, s1_4, s1_5, s1_6, s1_7, s1_8, s1_9, s1_10, s1_11, s1_12, s1_13, s1_14]; rfl)) dX8_count_198
  rcases Decidable.em (w = 15) with s1_15 | s1_15
  · refine x_v (w := .int 15) (by rw [s1_15]) ?_
    refine x_tableIn C 196 dX8_count_1 (by decide) (by decide) rfl rfl ?_
    refine x_ldc C (-1000001) m_161 dX8_count_196 ?_
    exact x_iret C Z rfl rfl (by first | (simp only [rCnt, if_neg s1_0, if_neg s1_1, if_neg s1_2, if_neg s1_3, if_neg s1_4, if_neg s1_5, if_neg s1_6, if_neg s1_7, if_neg s1_8, if_neg s1_9, if_neg s1_10, if_neg s1_11, if_neg s1_12, if_neg s1_13, if_neg s1_14, if_pos s1_15, eq_self, Bool.false_eq_true, if_true, if_false]; done) | ((simp only [rCnt, if_neg s1_0, if_neg s1_1, if_neg s1_2, if_neg s1_3, if_neg s1_4, if_neg s1_5, if_neg s1_6, if_neg s1_7, if_neg s1_8, if_neg s1_9, if_neg s1_10, if_neg s1_11, if_neg s1_12, if_neg s1_13, if_neg s1_14, if_pos s1_15, eq_self, Bool.false_eq_true, if_true, if_false]); rfl) | (simp [rCnt, s1_0, s1_1, s1_2, s1_3, s1_4, s1_5, s1_6, s1_7, s1_8, s1_9, s1_10, s1_11, s1_12, s1_13, s1_14, s1_15]; done) | (simp [rCnt, s1_0, s1_1, s1_2, s1_3, s1_4, s1_5, s1_6, s1_7, s1_8, s1_9, s1_10, s1_11, s1_12, s1_13, s1_14, s1_15]; rfl)) (by first | (simp only [rCnt, if_neg s1_0, if_neg s1_1, if_neg s1_2, if_neg s1_3, if_neg s1_4, if_neg s1_5, if_neg s1_6, if_neg s1_7, if_neg s1_8, if_neg s1_9, if_neg s1_10, if_neg s1_11, if_neg s1_12, if_neg s1_13, if_neg s1_14, if_pos s1_15, eq_self, Bool.false_eq_true, if_true, if_false]; done) | ((simp only [rCnt, if_neg s1_0, if_neg s1_1, if_neg s1_2, if_neg s1_3, if_neg s1_4, if_neg s1_5, if_neg s1_6, if_neg s1_7, if_neg s1_8, if_neg s1_9, if_neg s1_10, if_neg s1_11, if_neg s1_12, if_neg s1_13, if_neg s1_14, if_pos s1_15, eq_self, Bool.false_eq_true, if_true, if_false]); rfl) | (simp [rCnt, s1_0, s1_1, s1_2, s1_3, s1_4, s1_5, s1_6, s1_7, s1_8, s1_9, s1_10, s1_11, s1_12, s1_13, s1_14, s1_15]; done) | (simp [rCnt, s1_0, s1_1, s1_2, s1_3, s1_4, s1_5, s1_6, s1_7, s1_8, s1_9, s1_10, s1_11, s1_12, s1_13, s1_14, s1_15]; rfl)) dX8_count_198
  rcases Decidable.em (w = 16) with s1_16 | s1_16
  · refine x_v (w := .int 16) (by rw [s1_16]) ?_
    refine x_tableIn C 196 dX8_count_1 (by decide) (by decide) rfl rfl ?_
    refine x_ldc C (-1000001) m_161 dX8_count_196 ?_
    exact x_iret C Z rfl rfl (by first | (simp only [rCnt, if_neg s1_0, if_neg s1_1, if_neg s1_2, if_neg s1_3, if_neg s1_4, if_neg s1_5, if_neg s1_6, if_neg s1_7, if_neg s1_8, if_neg s1_9, if_neg s1_10, if_neg s1_11, if_neg s1_12, if_neg s1_13, if_neg s1_14, if_neg s1_15, if_pos s1_16, eq_self, Bool.false_eq_true, if_true, if_false]; done) | ((simp only [rCnt, if_neg s1_0, if_neg s1_1, if_neg s1_2, if_neg s1_3, if_neg s1_4, if_neg s1_5, if_neg s1_6, if_neg s1_7, if_neg s1_8, if_neg s1_9, if_neg s1_10, if_neg s1_11, if_neg s1_12, if_neg s1_13, if_neg s1_14, if_neg s1_15, if_pos s1_16, eq_self, Bool.false_eq_true, if_true, if_false]); rfl) | (simp [rCnt, s1_0, s1_1, s1_2, s1_3, s1_4, s1_5, s1_6, s1_7, s1_8, s1_9, s1_10, s1_11, s1_12, s1_13, s1_14, s1_15, s1_16]; done) | (simp [rCnt, s1_0, s1_1, s1_2, s1_3, s1_4, s1_5, s1_6, s1_7, s1_8, s1_9, s1_10, s1_11, s1_12, s1_13, s1_14, s1_15, s1_16]; rfl)) (by first | (simp only [rCnt, if_neg s1_0, if_neg s1_1, if_neg s1_2, if_neg s1_3, if_neg s1_4, if_neg s1_5, if_neg s1_6, if_neg s1_7, if_neg s1_8, if_neg s1_9, if_neg s1_10, if_neg s1_11, if_neg s1_12, if_neg s1_13, if_neg s1_14, if_neg s1_15, if_pos s1_16, eq_self, Bool.false_eq_true, if_true, if_false]; done) | ((simp only [rCnt, if_neg s1_0, if_neg s1_1, if_neg s1_2, if_neg s1_3, if_neg s1_4, if_neg s1_5, if_neg s1_6, if_neg s1_7, if_neg s1_8, if_neg s1_9, if_neg s1_10, if_neg s1_11, if_neg s1_12, if_neg s1_13, if_neg s1_14, if_neg s1_15, if_pos s1_16, eq_self, Bool.false_eq_true, if_true, if_false]); rfl) | (simp [rCnt, s1_0, s1_1, s1_2, s1_3, s1_4, s1_5, s1_6, s1_7, s1_8, s1_9, s1_10, s1_11, s1_12, s1_13, s1_14, s1_15, s1_16]; done) | (simp [rCnt, s1_0, s1_1, s1_2, s1_3, s1_4, s1_5, s1_6, s1_7, s1_8, s1_9, s1_10, s1_11, s1_12, s1_13, s1_14, s1_15, s1_16]; rfl)) dX8_count_198
  rcases Decidable.em (w = 17) with s1_17 | s1_17
  · refine x_v (w := .int 17) (by rw [s1_17]) ?_
    refine x_tableIn C 196 dX8_count_1 (by decide) (by decide) rfl rfl ?_
    refine x_ldc C (-1000001) m_161 dX8_count_196 ?_
    exact x_iret C Z rfl rfl (by first | (simp only [rCnt, if_neg s1_0, if_neg s1_1, if_neg s1_2, if_neg s1_3, if_neg s1_4, if_neg s1_5, if_neg s1_6, if_neg s1_7, if_neg s1_8, if_neg s1_9, if_neg s1_10, if_neg s1_11, if_neg s1_12, if_neg s1_13, if_neg s1_14, if_neg s1_15, if_neg s1_16, if_pos s1_17, eq_self, Bool.false_eq_true, if_true, if_false]; done) | ((simp only [rCnt, if_neg s1_0, if_neg s1_1, if_neg s1_2, if_neg s1_3, if_neg s1_4, if_neg s1_5, if_neg s1_6, if_neg s1_7, if_neg s1_8, if_neg s1_9, if_neg s1_10, if_neg s1_11, if_neg s1_12, if_neg s1_13, if_neg s1_14, if_neg s1_15, if_neg s1_16, if_pos s1_17, eq_self, Bool.false_eq_true, if_true, if_false]); rfl) | (simp [rCnt, s1_0, s1_1, s1_2, s1_3, s1_4, s1_5, s1_6, s1_7, s1_8, s1_9, s1_10, s1_11, s1_12, s1_13, s1_14, s1_15, s1_16, s1_17]; done) | (simp [rCnt, s1_0, s1_1, s1_2, s1_3, s1_4, s1_5, s1_6, s1_7, s1_8, s1_9, s1_10, s1_11, s1_12, s1_13, s1_14, s1_15, s1_16, s1_17]; rfl)) (by first | (simp only [rCnt, if_neg s1_0, if_neg s1_1, if_neg s1_2, if_neg s1_3, if_neg s1_4, if_neg s1_5, if_neg s1_6, if_neg s1_7, if_neg s1_8, if_neg s1_9, if_neg s1_10, if_neg s1_11, if_neg s1_12, if_neg s1_13, if_neg s1_14, if_neg s1_15, if_neg s1_16, if_pos s1_17, eq_self, Bool.false_eq_true, if_true, if_false]; done) | ((simp only [rCnt, if_neg s1_0, if_neg s1_1, if_neg s1_2, if_neg s1_3, if_neg s1_4, if_neg s1_5, if_neg s1_6, if_neg s1_7, if_neg s1_8, if_neg s1_9, if_neg s1_10, if_neg s1_11, if_neg s1_12, if_neg s1_13, if_neg s1_14, if_neg s1_15, if_neg s1_16, if_pos s1_17, eq_self, Bool.false_eq_true, if_true, if_false]); rfl) | (simp [rCnt, s1_0, s1_1, s1_2, s1_3, s1_4, s1_5, s1_6, s1_7, s1_8, s1_9, s1_10, s1_11, s1_12, s1_13, s1_14, s1_15, s1_16, s1_17]; done) | (simp [rCnt, s1_0, s1_1, s1_2, s1_3, s1_4, s1_5, s1_6, s1_7, s1_8, s1_9, s1_10, s1_11, s1_12, s1_13, s1_14, s1_15, s1_16, s1_17]; rfl)) dX8_count_198
  rcases Decidable.em (w = 18) with s1_18 | s1_18
  · refine x_v (w := .int 18) (by rw [s1_18]) ?_
    refine x_tableIn C 196 dX8_count_1 (by decide) (by decide) rfl rfl ?_
    refine x_ldc C (-1000001) m_161 dX8_count_196 ?_
    exact x_iret C Z rfl rfl (by first | (simp only [rCnt, if_neg s1_0, if_neg s1_1, if_neg s1_2, if_neg s1_3, if_neg s1_4, if_neg s1_5, if_neg s1_6, if_neg s1_7, if_neg s1_8, if_neg s1_9, if_neg s1_10, if_neg s1_11, if_neg s1_12, if_neg s1_13, if_neg s1_14, if_neg s1_15, if_neg s1_16, if_neg s1_17, if_pos s1_18, eq_self, Bool.false_eq_true, if_true, if_false]; done) | ((simp only [rCnt, if_neg s1_0, if_neg s1_1, if_neg s1_2, if_neg s1_3, if_neg s1_4, if_neg s1_5, if_neg s1_6, if_neg s1_7, if_neg s1_8, if_neg s1_9, if_neg s1_10, if_neg s1_11, if_neg s1_12, if_neg s1_13, if_neg s1_14, if_neg s1_15, if_neg s1_16, if_neg s1_17, if_pos s1_18, eq_self, Bool.false_eq_true, if_true, if_false]); rfl) | (simp [rCnt, s1_0, s1_1, s1_2, s1_3, s1_4, s1_5, s1_6, s1_7, s1_8, s1_9, s1_10, s1_11, s1_12, s1_13, s1_14, s1_15, s1_16, s1_17, s1_18]; done) | (simp [rCnt, s1_0, s1_1, s1_2, s1_3, s1_4, s1_5, s1_6, s1_7, s1_8, s1_9, s1_10, s1_11, s1_12, s1_13, s1_14, s1_15, s1_16, s1_17, s1_18]; rfl)) (by first | (simp only [rCnt, if_neg s1_0, if_neg s1_1, if_neg s1_2, if_neg s1_3, if_neg s1_4, if_neg s1_5, if_neg s1_6, if_neg s1_7, if_neg s1_8, if_neg s1_9, if_neg s1_10, if_neg s1_11, if_neg s1_12, if_neg s1_13, if_neg s1_14, if_neg s1_15, if_neg s1_16, if_neg s1_17, if_pos s1_18, eq_self, Bool.false_eq_true, if_true, if_false]; done) | ((simp only [rCnt, if_neg s1_0, if_neg s1_1, if_neg s1_2, if_neg s1_3, if_neg s1_4, if_neg s1_5, if_neg s1_6, if_neg s1_7, if_neg s1_8, if_neg s1_9, if_neg s1_10, if_neg s1_11, if_neg s1_12, if_neg s1_13, if_neg s1_14, if_neg s1_15, if_neg s1_16, if_neg s1_17, if_pos s1_18, eq_self, Bool.false_eq_true, if_true, if_false]); rfl) | (simp [rCnt, s1_0, s1_1, s1_2, s1_3, s1_4, s1_5, s1_6, s1_7, s1_8, s1_9, s1_10, s1_11, s1_12, s1_13, s1_14, s1_15, s1_16, s1_17, s1_18]; done) | (simp [rCnt, s1_0, s1_1, s1_2, s1_3, s1_4, s1_5, s1_6, s1_7, s1_8, s1_9, s1_10, s1_11, s1_12, s1_13, s1_14, s1_15, s1_16, s1_17, s1_18]; rfl)) dX8_count_198
  rcases Decidable.em (w = 19) with s1_19 | s1_19
  · refine x_v (w := .int 19) (by rw [s1_19]) ?_
    refine x_tableIn C 196 dX8_count_1 (by decide) (by decide) rfl rfl ?_
    refine x_ldc C (-1000001) m_161 dX8_count_196 ?_
    exact x_iret C Z rfl rfl (by first | (simp only [rCnt, if_neg s1_0, if_neg s1_1, if_neg s1_2, if_neg s1_3, if_neg s1_4, if_neg s1_5, if_neg s1_6, if_neg s1_7, if_neg s1_8, if_neg s1_9, if_neg s1_10, if_neg s1_11, if_neg s1_12, if_neg s1_13, if_neg s1_14, if_neg s1_15, if_neg s1_16, if_neg s1_17, if_neg s1_18, if_pos s1_19, eq_self, Bool.false_eq_true, if_true, if_false]; done) | ((simp only [rCnt, if_neg s1_0, if_neg s1_1, if_neg s1_2, if_neg s1_3, if_neg s1_4, if_neg s1_5, if_neg s1_6, if_neg s1_7, if_neg s1_8, if_neg s1_9, if_neg s1_10, if_neg s1_11, if_neg s1_12, if_neg s1_13, if_neg s1_14, if_neg s1_15, if_neg s1_16, if_neg s1_17, if_neg s1_18, if_pos s1_19, eq_self, Bool.false_eq_true, if_true, if_false]); rfl) | (simp [rCnt, s1_0, s1_1, s1_2, s1_3, s1_4, s1_5, s1_6, s1_7, s1_8, s1_9, s1_10, s1_11, s1_12, s1_13, s1_14, s1_15, s1_16, s1_17, s1_18, s1_19]; done) | (simp [rCnt, s1_0, s1_1, s1_2, s1_3, s1_4, s1_5, s1_6, s1_7, s1_8, s1_9, s1_10, s1_11, s1_12, s1_13, s1_14, s1_15, s1_16, s1_17, s1_18, s1_19]; rfl)) (by first | (simp only [rCnt, if_neg s1_0, if_neg s1_1, if_neg s1_2, if_neg s1_3, if_neg s1_4, if_neg s1_5, if_neg s1_6, if_neg s1_7, if_neg s1_8, if_neg s1_9, if_neg s1_10, if_neg s1_11, if_neg s1_12, if_neg s1_13, if_neg s1_14, if_neg s1_15, if_neg s1_16, if_neg s1_17, if_neg s1_18, if_pos s1_19, eq_self, Bool.false_eq_true, if_true, if_false]; done) | ((simp only [rCnt, if_neg s1_0, if_neg s1_1, if_neg s1_2, if_neg s1_3, if_neg s1_4, if_neg s1_5, if_neg s1_6, if_neg s1_7, if_neg s1_8, if_neg s1_9, if_neg s1_10, if_neg s1_11, if_neg s1_12, if_neg s1_13, if_neg s1_14, if_neg s1_15, if_neg s1_16, if_neg s1_17, if_neg s1_18, if_pos s1_19, eq_self, Bool.false_eq_true, if_true, if_false]); rfl) | (simp [rCnt, s1_0, s1_1, s1_2, s1_3, s1_4, s1_5, s1_6, s1_7, s1_8, s1_9, s1_10, s1_11, s1_12, s1_13, s1_14, s1_15, s1_16, s1_17, s1_18, s1_19]; done) | (simp [rCnt, s1_0, s1_1, s1_2, s1_3, s1_4, s1_5, s1_6, s1_7, s1_8, s1_9, s1_10, s1_11, s1_12, s1_13, s1_14, s1_15, s1_16, s1_17, s1_18, s1_19]; rfl)) dX8_count_198
  rcases Decidable.em (w = 20) with s1_20 | s1_20
  · refine x_v (w := .int 20) (by rw [s1_20]) ?_
    refine x_tableIn C 180 dX8_count_1 (by decide) (by decide) rfl rfl ?_
    refine x_aload_n C dX8_count_180 0 rfl ?_
    refine x_get C (xlo (i := 0) hb_ob) (xhi (i := 0) hn_ob rfl) (ov_at (i := 0) rfl) f_X8_10 rfl dX8_count_181 ?_
    refine x_get C (xlo (i := 1) hb_ob) (xhi (i := 1) hn_ob rfl) (ov_at (i := 1) rfl) f_X8_198 rfl dX8_count_184 ?_
    exact x_iret C Z rfl rfl (by first | (simp only [rCnt, if_neg s1_0, if_neg s1_1, if_neg s1_2, if_neg s1_3, if_neg s1_4, if_neg s1_5, if_neg s1_6, if_neg s1_7, if_neg s1_8, if_neg s1_9, if_neg s1_10, if_neg s1_11, if_neg s1_12, if_neg s1_13, if_neg s1_14, if_neg s1_15, if_neg s1_16, if_neg s1_17, if_neg s1_18, if_neg s1_19, if_pos s1_20, eq_self, Bool.false_eq_true, if_true, if_false]; done) | ((simp only [rCnt, if_neg s1_0, if_neg s1_1, if_neg s1_2, if_neg s1_3, if_neg s1_4, if_neg s1_5, if_neg s1_6, if_neg s1_7, if_neg s1_8, if_neg s1_9, if_neg s1_10, if_neg s1_11, if_neg s1_12, if_neg s1_13, if_neg s1_14, if_neg s1_15, if_neg s1_16, if_neg s1_17, if_neg s1_18, if_neg s1_19, if_pos s1_20, eq_self, Bool.false_eq_true, if_true, if_false]); rfl) | (simp [rCnt, s1_0, s1_1, s1_2, s1_3, s1_4, s1_5, s1_6, s1_7, s1_8, s1_9, s1_10, s1_11, s1_12, s1_13, s1_14, s1_15, s1_16, s1_17, s1_18, s1_19, s1_20]; done) | (simp [rCnt, s1_0, s1_1, s1_2, s1_3, s1_4, s1_5, s1_6, s1_7, s1_8, s1_9, s1_10, s1_11, s1_12, s1_13, s1_14, s1_15, s1_16, s1_17, s1_18, s1_19, s1_20]; rfl)) (by first | (simp only [rCnt, if_neg s1_0, if_neg s1_1, if_neg s1_2, if_neg s1_3, if_neg s1_4, if_neg s1_5, if_neg s1_6, if_neg s1_7, if_neg s1_8, if_neg s1_9, if_neg s1_10, if_neg s1_11, if_neg s1_12, if_neg s1_13, if_neg s1_14, if_neg s1_15, if_neg s1_16, if_neg s1_17, if_neg s1_18, if_neg s1_19, if_pos s1_20, eq_self, Bool.false_eq_true, if_true, if_false]; done) | ((simp only [rCnt, if_neg s1_0, if_neg s1_1, if_neg s1_2, if_neg s1_3, if_neg s1_4, if_neg s1_5, if_neg s1_6, if_neg s1_7, if_neg s1_8, if_neg s1_9, if_neg s1_10, if_neg s1_11, if_neg s1_12, if_neg s1_13, if_neg s1_14, if_neg s1_15, if_neg s1_16, if_neg s1_17, if_neg s1_18, if_neg s1_19, if_pos s1_20, eq_self, Bool.false_eq_true, if_true, if_false]); rfl) | (simp [rCnt, s1_0, s1_1, s1_2, s1_3, s1_4, s1_5, s1_6, s1_7, s1_8, s1_9, s1_10, s1_11, s1_12, s1_13, s1_14, s1_15, s1_16, s1_17, s1_18, s1_19, s1_20]; done) | (simp [rCnt, s1_0, s1_1, s1_2, s1_3, s1_4, s1_5, s1_6, s1_7, s1_8, s1_9, s1_10, s1_11, s1_12, s1_13, s1_14, s1_15, s1_16, s1_17, s1_18, s1_19, s1_20]; rfl)) dX8_count_187
  rcases Decidable.em (w = 21) with s1_21 | s1_21
  · refine x_v (w := .int 21) (by rw [s1_21]) ?_
    refine x_tableIn C 188 dX8_count_1 (by decide) (by decide) rfl rfl ?_
    refine x_aload_n C dX8_count_188 0 rfl ?_
    refine x_get C (xlo (i := 0) hb_ob) (xhi (i := 0) hn_ob rfl) (ov_at (i := 0) rfl) f_X8_10 rfl dX8_count_189 ?_
    refine x_get C (xlo (i := 1) hb_ob) (xhi (i := 1) hn_ob rfl) (ov_at (i := 1) rfl) f_X8_221 rfl dX8_count_192 ?_
    exact x_iret C Z rfl rfl (by first | (simp only [rCnt, if_neg s1_0, if_neg s1_1, if_neg s1_2, if_neg s1_3, if_neg s1_4, if_neg s1_5, if_neg s1_6, if_neg s1_7, if_neg s1_8, if_neg s1_9, if_neg s1_10, if_neg s1_11, if_neg s1_12, if_neg s1_13, if_neg s1_14, if_neg s1_15, if_neg s1_16, if_neg s1_17, if_neg s1_18, if_neg s1_19, if_neg s1_20, if_pos s1_21, eq_self, Bool.false_eq_true, if_true, if_false]; done) | ((simp only [rCnt, if_neg s1_0, if_neg s1_1, if_neg s1_2, if_neg s1_3, if_neg s1_4, if_neg s1_5, if_neg s1_6, if_neg s1_7, if_neg s1_8, if_neg s1_9, if_neg s1_10, if_neg s1_11, if_neg s1_12, if_neg s1_13, if_neg s1_14, if_neg s1_15, if_neg s1_16, if_neg s1_17, if_neg s1_18, if_neg s1_19, if_neg s1_20, if_pos s1_21, eq_self, Bool.false_eq_true, if_true, if_false]); rfl) | (simp [rCnt, s1_0, s1_1, s1_2, s1_3, s1_4, s1_5, s1_6, s1_7, s1_8, s1_9, s1_10, s1_11, s1_12, s1_13, s1_14, s1_15, s1_16, s1_17, s1_18, s1_19, s1_20, s1_21]; done) | (simp [rCnt, s1_0, s1_1, s1_2, s1_3, s1_4, s1_5, s1_6, s1_7, s1_8, s1_9, s1_10, s1_11, s1_12, s1_13, s1_14, s1_15, s1_16, s1_17, s1_18, s1_19, s1_20, s1_21]; rfl)) (by first | (simp only [rCnt, if_neg s1_0, if_neg s1_1, if_neg s1_2, if_neg s1_3, if_neg s1_4, if_neg s1_5, if_neg s1_6, if_neg s1_7, if_neg s1_8, if_neg s1_9, if_neg s1_10, if_neg s1_11, if_neg s1_12, if_neg s1_13, if_neg s1_14, if_neg s1_15, if_neg s1_16, if_neg s1_17, if_neg s1_18, if_neg s1_19, if_neg s1_20, if_pos s1_21, eq_self, Bool.false_eq_true, if_true, if_false]; done) | ((simp only [rCnt, if_neg s1_0, if_neg s1_1, if_neg s1_2, if_neg s1_3, if_neg s1_4, if_neg s1_5, if_neg s1_6, if_neg s1_7, if_neg s1_8, if_neg s1_9, if_neg s1_10, if_neg s1_11, if_neg s1_12, if_neg s1_13, if_neg s1_14, if_neg s1_15, if_neg s1_16, if_neg s1_17, if_neg s1_18, if_neg s1_19, if_neg s1_20, if_pos s1_21, eq_self, Bool.false_eq_true, if_true, if_false]); rfl) | (simp [rCnt, s1_0, s1_1, s1_2, s1_3, s1_4, s1_5, s1_6, s1_7, s1_8, s1_9, s1_10, s1_11, s1_12, s1_13, s1_14, s1_15, s1_16, s1_17, s1_18, s1_19, s1_20, s1_21]; done) | (simp [rCnt, s1_0, s1_1, s1_2, s1_3, s1_4, s1_5, s1_6, s1_7, s1_8, s1_9, s1_10, s1_11, s1_12, s1_13, s1_14, s1_15, s1_16, s1_17, s1_18, s1_19, s1_20, s1_21]; rfl)) dX8_count_195
  refine x_tableOut C 196 dX8_count_1 (by have q0 := lv_neT (a := 0) s1_0 rfl; have q1 := lv_neT (a := 1) s1_1 rfl; have q2 := lv_neT (a := 2) s1_2 rfl; have q3 := lv_neT (a := 3) s1_3 rfl; have q4 := lv_neT (a := 4) s1_4 rfl; have q5 := lv_neT (a := 5) s1_5 rfl; have q6 := lv_neT (a := 6) s1_6 rfl; have q7 := lv_neT (a := 7) s1_7 rfl; have q8 := lv_neT (a := 8) s1_8 rfl; have q9 := lv_neT (a := 9) s1_9 rfl; have q10 := lv_neT (a := 10) s1_10 rfl; have q11 := lv_neT (a := 11) s1_11 rfl; have q12 := lv_neT (a := 12) s1_12 rfl; have q13 := lv_neT (a := 13) s1_13 rfl; have q14 := lv_neT (a := 14) s1_14 rfl; have q15 := lv_neT (a := 15) s1_15 rfl; have q16 := lv_neT (a := 16) s1_16 rfl; have q17 := lv_neT (a := 17) s1_17 rfl; have q18 := lv_neT (a := 18) s1_18 rfl; have q19 := lv_neT (a := 19) s1_19 rfl; have q20 := lv_neT (a := 20) s1_20 rfl; have q21 := lv_neT (a := 21) s1_21 rfl; omega) rfl ?_
  refine x_ldc C (-1000001) m_161 dX8_count_196 ?_
  exact x_iret C Z rfl rfl (by first | (simp only [rCnt, if_neg s1_0, if_neg s1_1, if_neg s1_2, if_neg s1_3, if_neg s1_4, if_neg s1_5, if_neg s1_6, if_neg s1_7, if_neg s1_8, if_neg s1_9, if_neg s1_10, if_neg s1_11, if_neg s1_12, if_neg s1_13, if_neg s1_14, if_neg s1_15, if_neg s1_16, if_neg s1_17, if_neg s1_18, if_neg s1_19, if_neg s1_20, if_neg s1_21, eq_self, Bool.false_eq_true, if_true, if_false]; done) | ((simp only [rCnt, if_neg s1_0, if_neg s1_1, if_neg s1_2, if_neg s1_3, if_neg s1_4, if_neg s1_5, if_neg s1_6, if_neg s1_7, if_neg s1_8, if_neg s1_9, if_neg s1_10, if_neg s1_11, if_neg s1_12, if_neg s1_13, if_neg s1_14, if_neg s1_15, if_neg s1_16, if_neg s1_17, if_neg s1_18, if_neg s1_19, if_neg s1_20, if_neg s1_21, eq_self, Bool.false_eq_true, if_true, if_false]); rfl) | (simp [rCnt, s1_0, s1_1, s1_2, s1_3, s1_4, s1_5, s1_6, s1_7, s1_8, s1_9, s1_10, s1_11, s1_12, s1_13, s1_14, s1_15, s1_16, s1_17, s1_18, s1_19, s1_20, s1_21]; done) | (simp [rCnt, s1_0, s1_1, s1_2, s1_3, s1_4, s1_5, s1_6, s1_7, s1_8, s1_9, s1_10, s1_11, s1_12, s1_13, s1_14, s1_15, s1_16, s1_17, s1_18, s1_19, s1_20, s1_21]; rfl)) (by first | (simp only [rCnt, if_neg s1_0, if_neg s1_1, if_neg s1_2, if_neg s1_3, if_neg s1_4, if_neg s1_5, if_neg s1_6, if_neg s1_7, if_neg s1_8, if_neg s1_9, if_neg s1_10, if_neg s1_11, if_neg s1_12, if_neg s1_13, if_neg s1_14, if_neg s1_15, if_neg s1_16, if_neg s1_17, if_neg s1_18, if_neg s1_19, if_neg s1_20, if_neg s1_21, eq_self, Bool.false_eq_true, if_true, if_false]; done) | ((simp only [rCnt, if_neg s1_0, if_neg s1_1, if_neg s1_2, if_neg s1_3, if_neg s1_4, if_neg s1_5, if_neg s1_6, if_neg s1_7, if_neg s1_8, if_neg s1_9, if_neg s1_10, if_neg s1_11, if_neg s1_12, if_neg s1_13, if_neg s1_14, if_neg s1_15, if_neg s1_16, if_neg s1_17, if_neg s1_18, if_neg s1_19, if_neg s1_20, if_neg s1_21, eq_self, Bool.false_eq_true, if_true, if_false]); rfl) | (simp [rCnt, s1_0, s1_1, s1_2, s1_3, s1_4, s1_5, s1_6, s1_7, s1_8, s1_9, s1_10, s1_11, s1_12, s1_13, s1_14, s1_15, s1_16, s1_17, s1_18, s1_19, s1_20, s1_21]; done) | (simp [rCnt, s1_0, s1_1, s1_2, s1_3, s1_4, s1_5, s1_6, s1_7, s1_8, s1_9, s1_10, s1_11, s1_12, s1_13, s1_14, s1_15, s1_16, s1_17, s1_18, s1_19, s1_20, s1_21]; rfl)) dX8_count_198

set_option maxRecDepth 100000 in
set_option maxHeartbeats 4000000 in
theorem c_X8_undo (E : XE) (N ob : Nat) (G : GW) (u : QV) (hke : ¬ qKe u < 0) (hb_ob : xB E ≤ ob) (hn_ob : ob + 56 ≤ N) : MF E yX8_undo cX8_undo 1 (some .int) 4 124 0 0 [.ref ob] N (ov ob (xC E ob (qNow u) (qTr u) (qH0 u) (qH1 u) (qH2 u) (qH3 u) (qOl u) (qKe u) (qCh u) (qTl u) (qNu u) (qKi u) (qEn u) (qWh u) (qFt u) (qFp u) (qFr u) (qFc u)) G) (some (.int (rUnd u))) (ov ob (xC E ob (qNow (qUnd u)) (qTr (qUnd u)) (qH0 (qUnd u)) (qH1 (qUnd u)) (qH2 (qUnd u)) (qH3 (qUnd u)) (qOl (qUnd u)) (qKe (qUnd u)) (qCh (qUnd u)) (qTl (qUnd u)) (qNu (qUnd u)) (qKi (qUnd u)) (qEn (qUnd u)) (qWh (qUnd u)) (qFt (qUnd u)) (qFp (qUnd u)) (qFr (qUnd u)) (qFc (qUnd u))) G) := by
  refine MF.mk RX8 rfl (by decide +kernel) rfl (fun K C Z hin hN => ?_)
  show XW E K 1 N 0 0 _ 0 [(0, .ref ob)] []
  refine x_aload_n C dX8_undo_0 0 rfl ?_
  refine x_get C (xlo (i := 0) hb_ob) (xhi (i := 0) hn_ob rfl) (ov_at (i := 0) rfl) f_X8_22 rfl dX8_undo_1 ?_
  refine x_get C (xlo (i := 17) hb_ob) (xhi (i := 17) hn_ob rfl) (ov_at (i := 17) rfl) f_X8_219 rfl dX8_undo_4 ?_
  refine x_if_ne C 13 dX8_undo_7 rfl (fun c7 => ?_) (fun c7 => ?_)
  · refine x_aload_n C dX8_undo_13 0 rfl ?_
    refine x_get C (xlo (i := 0) hb_ob) (xhi (i := 0) hn_ob rfl) (ov_at (i := 0) rfl) f_X8_22 rfl dX8_undo_14 ?_
    refine x_aload_n C dX8_undo_17 0 rfl ?_
    refine x_get C (xlo (i := 0) hb_ob) (xhi (i := 0) hn_ob rfl) (ov_at (i := 0) rfl) f_X8_10 rfl dX8_undo_18 ?_
    refine x_cV0 C (c_X1_restoreInto E N ob _ (mkQ (qNow u) (qTr u) (qH0 u) (qH1 u) (qH2 u) (qH3 u) (qOl u) (qKe u) (qCh u) (qTl u) (qNu u) (qKi u) (qEn u) (qWh u) (qFt u) (qFp u) (qFr u) (qFc u)) (pos_of hke c7) hb_ob hn_ob) v_X8_224 hN (xlo (i := 17) hb_ob) (xhi (i := 17) hn_ob rfl) (ov_at (i := 17) rfl) rfl rfl rfl rfl rfl dX8_undo_21 ?_
    refine x_aload_n C dX8_undo_24 0 rfl ?_
    refine x_get C (xlo (i := 0) hb_ob) (xhi (i := 0) hn_ob rfl) (ov_at (i := 0) rfl) f_X8_22 rfl dX8_undo_25 ?_
    refine x_get C (xlo (i := 17) hb_ob) (xhi (i := 17) hn_ob rfl) (ov_at (i := 17) rfl) f_X8_219 rfl dX8_undo_28 ?_
    exact x_iret C Z rfl rfl (by first | (simp only [qUnd, rUnd, if_neg c7, eq_self, Bool.false_eq_true, if_true, if_false]; done) | ((simp only [qUnd, rUnd, if_neg c7, eq_self, Bool.false_eq_true, if_true, if_false]); rfl) | (simp [qUnd, rUnd, c7]; done) | (simp [qUnd, rUnd, c7]; rfl)) (by first | (simp only [qUnd, rUnd, if_neg c7, eq_self, Bool.false_eq_true, if_true, if_false]; done) | ((simp only [qUnd, rUnd, if_neg c7, eq_self, Bool.false_eq_true, if_true, if_false]); rfl) | (simp [qUnd, rUnd, c7]; done) | (simp [qUnd, rUnd, c7]; rfl)) dX8_undo_31
  · refine x_ldc C (-1000002) m_269 dX8_undo_10 ?_
    exact x_iret C Z rfl rfl (by first | (simp only [qUnd, rUnd, if_pos c7, eq_self, Bool.false_eq_true, if_true, if_false]; done) | ((simp only [qUnd, rUnd, if_pos c7, eq_self, Bool.false_eq_true, if_true, if_false]); rfl) | (simp [qUnd, rUnd, c7]; done) | (simp [qUnd, rUnd, c7]; rfl)) (by first | (simp only [qUnd, rUnd, if_pos c7, eq_self, Bool.false_eq_true, if_true, if_false]; done) | ((simp only [qUnd, rUnd, if_pos c7, eq_self, Bool.false_eq_true, if_true, if_false]); rfl) | (simp [qUnd, rUnd, c7]; done) | (simp [qUnd, rUnd, c7]; rfl)) dX8_undo_12


