/-! ===== counts, taps, texts, what would be ===== -/
def tapS (f : Nat → Int32) : Nat → Int32
  | 0 => 0
  | n + 1 => tapS f n + f n
def tOn (v : SV) (j : Nat) : Int32 := bI (sOn v (nI j))
def tLo (v : SV) (j : Nat) : Int32 := if sOn v (nI j) = true then bI (sLost v (nI j)) else 0
def tLd (v : SV) (j : Nat) : Int32 := if sOn v (nI j) = true then if sLost v (nI j) = true then 0 else iabs (jth (sGai v (nI j)) (vLi v)) else 0
def rCnt (u : QV) (l : Nat) (w : Int32) : Int32 := if w = 0 then vLe (qNow u) else if w = 1 then 64 - vLe (qNow u) else if w = 2 then tapS (tOn (qNow u)) 4 else if w = 3 then tapS (tLo (qNow u)) 4 else if w = 4 then sumAb (fun j => rAt (vW (qNow u)) (vFi (qNow u)) (vLe (qNow u)) (nI j)) l else if w = 5 then cntAb (fun j => rAt (vW (qNow u)) (vFi (qNow u)) (vLe (qNow u)) (nI j)) 0 l else if w = 6 then vSl (qNow u) else if w = 7 then qKe u else if w = 8 then qTl u else if w = 20 then vLi (qNow u) else if w = 21 then vSh (qNow u) else -1000001
def qUnd (u : QV) : QV := if qKe u = 0 then u else qRest u
def rUnd (u : QV) : Int32 := if qKe u = 0 then -1000002 else qKe u - 1
def qTxt (u : QV) (ch : Nat → Int32) (tl : Int32) : QV := mkQ (qNow u) (qTr u) (qH0 u) (qH1 u) (qH2 u) (qH3 u) (qOl u) (qKe u) ch tl (qNu u) (qKi u) (qEn u) (qWh u) (qFt u) (qFp u) (qFr u) (qFc u)
def qTyp (u : QV) (x : Int32) : QV := if inR x 32 126 = true then if qTl u < 60 then qTxt u (upd (qCh u) (qTl u).toNatClampNeg x) (qTl u + 1) else u else u
def rTyp (u : QV) (x : Int32) : Int32 := if inR x 32 126 = true then if qTl u < 60 then qTl u + 1 else -1000003 else -1000001
theorem pos_of {x : Int32} (h1 : ¬ x < 0) (h2 : ¬ x = 0) : 0 < x := by
  rw [Int32.lt_iff_toInt_lt] at h1 ⊢
  have h3 : ¬ x.toInt = (0 : Int32).toInt := fun q => h2 (Int32.toInt_inj.mp q)
  have z : (0 : Int32).toInt = 0 := rfl
  omega
/-! echo -/
def sZer (v : SV) : SV := mkS (fillI (vW v) 0 64) (vFi v) (vLe v) (vRo v) (vNe v) (vKe v) (vSa v) (vGr v) (vHo v) (vHw v) (vSu v) (vDe v) (vGa v) (vLi v) (vSh v) (vSl v)
def eIt (v : SV) (x : Int32) : Nat → SV
  | 0 => sLet v x
  | n + 1 => sLet (eIt v x n) 0
def eOu (v : SV) (x : Int32) : Nat → Int32
  | 0 => sOut v x
  | n + 1 => sOut (eIt v x n) 0
def qZer (u : QV) : SV := sZer (sCpy (qTr u) (qNow u))
def qEch (u : QV) (x a : Int32) : QV := if inR x (-20000) 20000 = true then if inR a 0 200 = true then qST u (eIt (qZer u) x a.toNatClampNeg) else u else u
def rEch (u : QV) (x a : Int32) : Int32 := if inR x (-20000) 20000 = true then if inR a 0 200 = true then eOu (qZer u) x a.toNatClampNeg else -1000001 else -1000001
/-! quietAfter -/
def qaRun (a : Int32) : Nat → Nat → Int32 → SV → Int32 × SV
  | 0, i, lo, v => (if lo ≤ 0 then nI i else -1000004, v)
  | d + 1, i, lo, v => if lo ≤ 0 then (nI i, v) else qaRun a d (i + 1) (lo - (if iabs (rAt (vW v) (vFi v) (vLe v) (vLe v - 1)) ≤ a then 0 else 1) + (if iabs (sWrd v 0) ≤ a then 0 else 1)) (sFeed v 0)
def qaAll (u : QV) (l : Nat) (a : Int32) : Int32 × SV := qaRun a 500 0 (cntAb (fun j => rAt (vW (sCpy (qTr u) (qNow u))) (vFi (sCpy (qTr u) (qNow u))) (vLe (sCpy (qTr u) (qNow u))) (nI j)) a l) (sCpy (qTr u) (qNow u))
def qQua (u : QV) (l : Nat) (a : Int32) : QV := if inR a 0 20000 = true then qST u (qaAll u l a).2 else u
def rQua (u : QV) (l : Nat) (a : Int32) : Int32 := if inR a 0 20000 = true then (qaAll u l a).1 else -1000001
/-! safeGain -/
def wq0 (v : SV) (g : Int32) : SV := sPut (sZer v) 4 (sDel (sZer v) 4) g
def wqI (v : SV) (g : Int32) : Nat → SV
  | 0 => sFeed (wq0 v g) 20000
  | n + 1 => sFeed (wqI v g n) 0
theorem vLe_sPut (v : SV) (r d g : Int32) : vLe (sPut v r d g) = vLe v := by unfold sPut; split <;> rfl
theorem vLe_wqI (v : SV) (g : Int32) : ∀ n, vLe (wqI v g n) = vLe v
  | 0 => vLe_sPut _ _ _ _
  | n + 1 => vLe_wqI v g n
def wqB (v : SV) (l : Nat) (g : Int32) (n : Nat) (a : Int32) : Bool := decide (cntAb (fun j => rAt (vW (wqI v g n)) (vFi (wqI v g n)) (vLe (wqI v g n)) (nI j)) a l = 0)
def sgRun (l : Nat) (n : Nat) (a : Int32) : Nat → Int32 → Int32 → SV → Int32 × SV
  | 0, lo, _, v => (lo, v)
  | d + 1, lo, hi, v => if hi ≤ lo then (lo, v) else if wqB v l ((lo + hi + 1) / 2) n a = true then sgRun l n a d ((lo + hi + 1) / 2) hi (wqI v ((lo + hi + 1) / 2) n) else sgRun l n a d lo ((lo + hi + 1) / 2 - 1) (wqI v ((lo + hi + 1) / 2) n)
def sgAll (u : QV) (l : Nat) (m a : Int32) : Int32 × SV := sgRun l m.toNatClampNeg a 951 0 950 (sCpy (qTr u) (qNow u))
def qSaf (u : QV) (l : Nat) (m a : Int32) : QV := if inR m 1 200 = true then if inR a 0 20000 = true then qST u (sgAll u l m a).2 else u else u
def rSaf (u : QV) (l : Nat) (m a : Int32) : Int32 := if inR m 1 200 = true then if inR a 0 20000 = true then (sgAll u l m a).1 else -1000001 else -1000001
theorem sg951 {i : Nat} (h : i = 951) : ¬ ¬ (950 : Int32) < nI i := not_not_intro (by subst h; decide)
theorem sg951b {i : Nat} (h : i < 951) : ¬ (950 : Int32) < nI i := nI_nlt (a := 950) (by omega) (by omega)
set_option maxRecDepth 100000 in
set_option maxHeartbeats 4000000 in
theorem c_X8_tapsOn (E : XE) (N ob : Nat) (G : GW) (u : QV) (hb_ob : xB E ≤ ob) (hn_ob : ob + 56 ≤ N) : MF E yX8_tapsOn cX8_tapsOn 3 (some .int) 3 62 0 0 [.ref ob] N (ov ob (xC E ob (qNow u) (qTr u) (qH0 u) (qH1 u) (qH2 u) (qH3 u) (qOl u) (qKe u) (qCh u) (qTl u) (qNu u) (qKi u) (qEn u) (qWh u) (qFt u) (qFp u) (qFr u) (qFc u)) G) (some (.int (tapS (tOn (qNow u)) 4))) (ov ob (xC E ob (qNow u) (qTr u) (qH0 u) (qH1 u) (qH2 u) (qH3 u) (qOl u) (qKe u) (qCh u) (qTl u) (qNu u) (qKi u) (qEn u) (qWh u) (qFt u) (qFp u) (qFr u) (qFc u)) G) := by
  refine MF.mk RX8 rfl (by decide +kernel) rfl (fun K C Z hin hN => ?_)
  show XW E K 3 N 0 0 _ 0 [(0, .ref ob)] []
  refine x_iconst C 0 dX8_tapsOn_0 rfl ?_
  refine x_istore_n (L' := [(1, .int 0), (0, .ref ob)]) C dX8_tapsOn_1 rfl rfl ?_
  refine x_iconst C 0 dX8_tapsOn_2 rfl ?_
  refine x_istore_n (L' := [(2, .int 0), (1, .int 0), (0, .ref ob)]) C dX8_tapsOn_3 rfl rfl ?_
  refine x_perm (L' := [(0, .ref ob), (1, .int 0), (2, .int 0)]) [2, 1, 0] rfl ?_
  have lp4 : ∀ (d i : Nat), i + d = 4 → XW E K 3 N 0 0 (ov ob (xC E ob (qNow u) (qTr u) (qH0 u) (qH1 u) (qH2 u) (qH3 u) (qOl u) (qKe u) (qCh u) (qTl u) (qNu u) (qKi u) (qEn u) (qWh u) (qFt u) (qFp u) (qFr u) (qFc u)) G) 4 [(0, .ref ob), (1, .int (tapS (tOn (qNow u)) i)), (2, .int (nI i))] [] := by
    intro d
    induction d with
    | zero =>
      intro i hd
      have q9i : 4 = i := by omega
      subst q9i
      refine x_iload_n C dX8_tapsOn_4 2 rfl ?_
      refine x_iconst C 4 dX8_tapsOn_5 rfl ?_
      refine x_icmp_ge C 34 dX8_tapsOn_6 rfl (fun _ => ?_) (fun c => absurd c (not_not_intro (nI_le (a := 4) (by omega) (by omega))))
      refine x_iload_n C dX8_tapsOn_34 1 rfl ?_
      exact x_iret C Z rfl rfl rfl rfl dX8_tapsOn_35
    | succ d ih =>
      intro i hd
      have hi : i < 4 := by omega
      refine x_iload_n C dX8_tapsOn_4 2 rfl ?_
      refine x_iconst C 4 dX8_tapsOn_5 rfl ?_
      refine x_icmp_ge C 34 dX8_tapsOn_6 rfl (fun c => absurd c (nI_ge (b := 4) (by omega) (by omega))) (fun _ => ?_)
      refine x_iload_n C dX8_tapsOn_9 1 rfl ?_
      refine x_aload_n C dX8_tapsOn_10 0 rfl ?_
      refine x_get C (xlo (i := 0) hb_ob) (xhi (i := 0) hn_ob rfl) (ov_at (i := 0) rfl) f_X8_10 rfl dX8_tapsOn_11 ?_
      refine x_iload_n C dX8_tapsOn_14 2 rfl ?_
      refine x_cV1 C (MF.sliceR (i := 1) (n := 8) rfl (c_X6_isOn E N (ob + 1) _ (qNow u) (nI i) (xlo (i := 1) hb_ob) (xhn (i := 1) (n := 8) hn_ob rfl))) v_X8_80 hN (xlo (i := 1) hb_ob) (xhi (i := 1) hn_ob rfl) (ov_at (i := 1) rfl) rfl rfl rfl rfl rfl dX8_tapsOn_15 ?_
      refine x_tb_eq C 25 26 dX8_tapsOn_18 rfl dX8_tapsOn_21 dX8_tapsOn_22 rfl dX8_tapsOn_25 rfl ?_
      refine x_iadd C dX8_tapsOn_26 ?_
      refine x_topi (fun z1 ez1 => ?_)
      refine x_istore_n (L' := [(1, .int z1), (0, .ref ob), (2, .int (nI i))]) C dX8_tapsOn_27 rfl rfl ?_
      refine x_iinc (L' := [(2, .int ((nI i) + 1)), (1, .int z1), (0, .ref ob)]) C ((nI i) + 1) dX8_tapsOn_28 2 rfl rfl rfl rfl ?_
      refine x_goto C 4 dX8_tapsOn_31 rfl ?_
      refine x_perm (L' := [(0, .ref ob), (1, .int z1), (2, .int ((nI i) + 1))]) [2, 1, 0] rfl ?_
      subst ez1
      refine x_to (L' := [(0, .ref ob), (1, .int (tapS (tOn (qNow u)) (i + 1))), (2, .int (nI (i + 1)))]) (G' := ov ob (xC E ob (qNow u) (qTr u) (qH0 u) (qH1 u) (qH2 u) (qH3 u) (qOl u) (qKe u) (qCh u) (qTl u) (qNu u) (qKi u) (qEn u) (qWh u) (qFt u) (qFp u) (qFr u) (qFc u)) G) (by simp only [nI_succ, tapS, tOn]; first | done | rfl | (simp [bI]; done) | (simp [bI]; rfl)) rfl rfl ?_
      exact ih (i + 1) (by omega)
  refine x_to (L' := [(0, .ref ob), (1, .int (tapS (tOn (qNow u)) 0)), (2, .int (nI 0))]) (G' := ov ob (xC E ob (qNow u) (qTr u) (qH0 u) (qH1 u) (qH2 u) (qH3 u) (qOl u) (qKe u) (qCh u) (qTl u) (qNu u) (qKi u) (qEn u) (qWh u) (qFt u) (qFp u) (qFr u) (qFc u)) G) rfl rfl rfl ?_
  exact lp4 _ 0 (Nat.add_sub_cancel' (by omega))

set_option maxRecDepth 100000 in
set_option maxHeartbeats 4000000 in
theorem c_X8_tapsLost (E : XE) (N ob : Nat) (G : GW) (u : QV) (hb_ob : xB E ≤ ob) (hn_ob : ob + 56 ≤ N) : MF E yX8_tapsLost cX8_tapsLost 3 (some .int) 3 62 0 0 [.ref ob] N (ov ob (xC E ob (qNow u) (qTr u) (qH0 u) (qH1 u) (qH2 u) (qH3 u) (qOl u) (qKe u) (qCh u) (qTl u) (qNu u) (qKi u) (qEn u) (qWh u) (qFt u) (qFp u) (qFr u) (qFc u)) G) (some (.int (tapS (tLo (qNow u)) 4))) (ov ob (xC E ob (qNow u) (qTr u) (qH0 u) (qH1 u) (qH2 u) (qH3 u) (qOl u) (qKe u) (qCh u) (qTl u) (qNu u) (qKi u) (qEn u) (qWh u) (qFt u) (qFp u) (qFr u) (qFc u)) G) := by
  refine MF.mk RX8 rfl (by decide +kernel) rfl (fun K C Z hin hN => ?_)
  show XW E K 3 N 0 0 _ 0 [(0, .ref ob)] []
  refine x_iconst C 0 dX8_tapsLost_0 rfl ?_
  refine x_istore_n (L' := [(1, .int 0), (0, .ref ob)]) C dX8_tapsLost_1 rfl rfl ?_
  refine x_iconst C 0 dX8_tapsLost_2 rfl ?_
  refine x_istore_n (L' := [(2, .int 0), (1, .int 0), (0, .ref ob)]) C dX8_tapsLost_3 rfl rfl ?_
  refine x_perm (L' := [(0, .ref ob), (1, .int 0), (2, .int 0)]) [2, 1, 0] rfl ?_
  have lp4 : ∀ (d i : Nat), i + d = 4 → XW E K 3 N 0 0 (ov ob (xC E ob (qNow u) (qTr u) (qH0 u) (qH1 u) (qH2 u) (qH3 u) (qOl u) (qKe u) (qCh u) (qTl u) (qNu u) (qKi u) (qEn u) (qWh u) (qFt u) (qFp u) (qFr u) (qFc u)) G) 4 [(0, .ref ob), (1, .int (tapS (tLo (qNow u)) i)), (2, .int (nI i))] [] := by
    intro d
    induction d with
    | zero =>
      intro i hd
      have q9i : 4 = i := by omega
      subst q9i
      refine x_iload_n C dX8_tapsLost_4 2 rfl ?_
      refine x_iconst C 4 dX8_tapsLost_5 rfl ?_
      refine x_icmp_ge C 45 dX8_tapsLost_6 rfl (fun _ => ?_) (fun c => absurd c (not_not_intro (nI_le (a := 4) (by omega) (by omega))))
      refine x_iload_n C dX8_tapsLost_45 1 rfl ?_
      exact x_iret C Z rfl rfl rfl rfl dX8_tapsLost_46
    | succ d ih =>
      intro i hd
      have hi : i < 4 := by omega
      refine x_iload_n C dX8_tapsLost_4 2 rfl ?_
      refine x_iconst C 4 dX8_tapsLost_5 rfl ?_
      refine x_icmp_ge C 45 dX8_tapsLost_6 rfl (fun c => absurd c (nI_ge (b := 4) (by omega) (by omega))) (fun _ => ?_)
      refine x_iload_n C dX8_tapsLost_9 1 rfl ?_
      refine x_aload_n C dX8_tapsLost_10 0 rfl ?_
      refine x_get C (xlo (i := 0) hb_ob) (xhi (i := 0) hn_ob rfl) (ov_at (i := 0) rfl) f_X8_10 rfl dX8_tapsLost_11 ?_
      refine x_iload_n C dX8_tapsLost_14 2 rfl ?_
      refine x_cV1 C (MF.sliceR (i := 1) (n := 8) rfl (c_X6_isOn E N (ob + 1) _ (qNow u) (nI i) (xlo (i := 1) hb_ob) (xhn (i := 1) (n := 8) hn_ob rfl))) v_X8_80 hN (xlo (i := 1) hb_ob) (xhi (i := 1) hn_ob rfl) (ov_at (i := 1) rfl) rfl rfl rfl rfl rfl dX8_tapsLost_15 ?_
      refine x_ifb_eq C 36 dX8_tapsLost_18 rfl (fun c18 => ?_) (fun c18 => ?_)
      · refine x_iconst C 0 dX8_tapsLost_36 rfl ?_
        refine x_iadd C dX8_tapsLost_37 ?_
        refine x_topi (fun z1 ez1 => ?_)
        refine x_istore_n (L' := [(1, .int z1), (0, .ref ob), (2, .int (nI i))]) C dX8_tapsLost_38 rfl rfl ?_
        refine x_iinc (L' := [(2, .int ((nI i) + 1)), (1, .int z1), (0, .ref ob)]) C ((nI i) + 1) dX8_tapsLost_39 2 rfl rfl rfl rfl ?_
        refine x_goto C 4 dX8_tapsLost_42 rfl ?_
        refine x_perm (L' := [(0, .ref ob), (1, .int z1), (2, .int ((nI i) + 1))]) [2, 1, 0] rfl ?_
        subst ez1
        refine x_to (L' := [(0, .ref ob), (1, .int (tapS (tLo (qNow u)) (i + 1))), (2, .int (nI (i + 1)))]) (G' := ov ob (xC E ob (qNow u) (qTr u) (qH0 u) (qH1 u) (qH2 u) (qH3 u) (qOl u) (qKe u) (qCh u) (qTl u) (qNu u) (qKi u) (qEn u) (qWh u) (qFt u) (qFp u) (qFr u) (qFc u)) G) (by simp only [nI_succ, tapS, tLo]; first | done | rfl | (simp [bI, c18]; done) | (simp [bI, c18]; rfl)) rfl rfl ?_
        exact ih (i + 1) (by omega)
      · refine x_aload_n C dX8_tapsLost_21 0 rfl ?_
        refine x_get C (xlo (i := 0) hb_ob) (xhi (i := 0) hn_ob rfl) (ov_at (i := 0) rfl) f_X8_10 rfl dX8_tapsLost_22 ?_
        refine x_iload_n C dX8_tapsLost_25 2 rfl ?_
        refine x_cV1 C (MF.sliceR (i := 1) (n := 8) rfl (c_X6_isLost E N (ob + 1) _ (qNow u) (nI i) (xlo (i := 1) hb_ob) (xhn (i := 1) (n := 8) hn_ob rfl))) v_X8_72 hN (xlo (i := 1) hb_ob) (xhi (i := 1) hn_ob rfl) (ov_at (i := 1) rfl) rfl rfl rfl rfl rfl dX8_tapsLost_26 ?_
        refine x_ifb_eq C 36 dX8_tapsLost_29 rfl (fun c29 => ?_) (fun c29 => ?_)
        · refine x_iconst C 0 dX8_tapsLost_36 rfl ?_
          refine x_iadd C dX8_tapsLost_37 ?_
          refine x_topi (fun z2 ez2 => ?_)
          refine x_istore_n (L' := [(1, .int z2), (0, .ref ob), (2, .int (nI i))]) C dX8_tapsLost_38 rfl rfl ?_
          refine x_iinc (L' := [(2, .int ((nI i) + 1)), (1, .int z2), (0, .ref ob)]) C ((nI i) + 1) dX8_tapsLost_39 2 rfl rfl rfl rfl ?_
          refine x_goto C 4 dX8_tapsLost_42 rfl ?_
          refine x_perm (L' := [(0, .ref ob), (1, .int z2), (2, .int ((nI i) + 1))]) [2, 1, 0] rfl ?_
          subst ez2
          refine x_to (L' := [(0, .ref ob), (1, .int (tapS (tLo (qNow u)) (i + 1))), (2, .int (nI (i + 1)))]) (G' := ov ob (xC E ob (qNow u) (qTr u) (qH0 u) (qH1 u) (qH2 u) (qH3 u) (qOl u) (qKe u) (qCh u) (qTl u) (qNu u) (qKi u) (qEn u) (qWh u) (qFt u) (qFp u) (qFr u) (qFc u)) G) (by simp only [nI_succ, tapS, tLo]; first | done | rfl | (simp [bI, c18, c29]; done) | (simp [bI, c18, c29]; rfl)) rfl rfl ?_
          exact ih (i + 1) (by omega)
        · refine x_iconst C 1 dX8_tapsLost_32 rfl ?_
          refine x_goto C 37 dX8_tapsLost_33 rfl ?_
          refine x_iadd C dX8_tapsLost_37 ?_
          refine x_topi (fun z3 ez3 => ?_)
          refine x_istore_n (L' := [(1, .int z3), (0, .ref ob), (2, .int (nI i))]) C dX8_tapsLost_38 rfl rfl ?_
          refine x_iinc (L' := [(2, .int ((nI i) + 1)), (1, .int z3), (0, .ref ob)]) C ((nI i) + 1) dX8_tapsLost_39 2 rfl rfl rfl rfl ?_
          refine x_goto C 4 dX8_tapsLost_42 rfl ?_
          refine x_perm (L' := [(0, .ref ob), (1, .int z3), (2, .int ((nI i) + 1))]) [2, 1, 0] rfl ?_
          subst ez3
          refine x_to (L' := [(0, .ref ob), (1, .int (tapS (tLo (qNow u)) (i + 1))), (2, .int (nI (i + 1)))]) (G' := ov ob (xC E ob (qNow u) (qTr u) (qH0 u) (qH1 u) (qH2 u) (qH3 u) (qOl u) (qKe u) (qCh u) (qTl u) (qNu u) (qKi u) (qEn u) (qWh u) (qFt u) (qFp u) (qFr u) (qFc u)) G) (by simp only [nI_succ, tapS, tLo]; first | done | rfl | (simp [bI, c18, c29]; done) | (simp [bI, c18, c29]; rfl)) rfl rfl ?_
          exact ih (i + 1) (by omega)
  refine x_to (L' := [(0, .ref ob), (1, .int (tapS (tLo (qNow u)) 0)), (2, .int (nI 0))]) (G' := ov ob (xC E ob (qNow u) (qTr u) (qH0 u) (qH1 u) (qH2 u) (qH3 u) (qOl u) (qKe u) (qCh u) (qTl u) (qNu u) (qKi u) (qEn u) (qWh u) (qFt u) (qFp u) (qFr u) (qFc u)) G) rfl rfl rfl ?_
  exact lp4 _ 0 (Nat.add_sub_cancel' (by omega))

set_option maxRecDepth 100000 in
set_option maxHeartbeats 4000000 in
theorem c_X8_loudest (E : XE) (N ob : Nat) (G : GW) (u : QV) (hb_ob : xB E ≤ ob) (hn_ob : ob + 56 ≤ N) : MF E yX8_loudest cX8_loudest 3 (some .int) 3 62 0 0 [.ref ob] N (ov ob (xC E ob (qNow u) (qTr u) (qH0 u) (qH1 u) (qH2 u) (qH3 u) (qOl u) (qKe u) (qCh u) (qTl u) (qNu u) (qKi u) (qEn u) (qWh u) (qFt u) (qFp u) (qFr u) (qFc u)) G) (some (.int (tapS (tLd (qNow u)) 4))) (ov ob (xC E ob (qNow u) (qTr u) (qH0 u) (qH1 u) (qH2 u) (qH3 u) (qOl u) (qKe u) (qCh u) (qTl u) (qNu u) (qKi u) (qEn u) (qWh u) (qFt u) (qFp u) (qFr u) (qFc u)) G) := by
  refine MF.mk RX8 rfl (by decide +kernel) rfl (fun K C Z hin hN => ?_)
  show XW E K 3 N 0 0 _ 0 [(0, .ref ob)] []
  refine x_iconst C 0 dX8_loudest_0 rfl ?_
  refine x_istore_n (L' := [(1, .int 0), (0, .ref ob)]) C dX8_loudest_1 rfl rfl ?_
  refine x_iconst C 0 dX8_loudest_2 rfl ?_
  refine x_istore_n (L' := [(2, .int 0), (1, .int 0), (0, .ref ob)]) C dX8_loudest_3 rfl rfl ?_
  refine x_perm (L' := [(0, .ref ob), (1, .int 0), (2, .int 0)]) [2, 1, 0] rfl ?_
  have lp4 : ∀ (d i : Nat), i + d = 4 → XW E K 3 N 0 0 (ov ob (xC E ob (qNow u) (qTr u) (qH0 u) (qH1 u) (qH2 u) (qH3 u) (qOl u) (qKe u) (qCh u) (qTl u) (qNu u) (qKi u) (qEn u) (qWh u) (qFt u) (qFp u) (qFr u) (qFc u)) G) 4 [(0, .ref ob), (1, .int (tapS (tLd (qNow u)) i)), (2, .int (nI i))] [] := by
    intro d
    induction d with
    | zero =>
      intro i hd
      have q9i : 4 = i := by omega
      subst q9i
      refine x_iload_n C dX8_loudest_4 2 rfl ?_
      refine x_iconst C 4 dX8_loudest_5 rfl ?_
      refine x_icmp_ge C 61 dX8_loudest_6 rfl (fun _ => ?_) (fun c => absurd c (not_not_intro (nI_le (a := 4) (by omega) (by omega))))
      refine x_iload_n C dX8_loudest_61 1 rfl ?_
      exact x_iret C Z rfl rfl rfl rfl dX8_loudest_62
    | succ d ih =>
      intro i hd
      have hi : i < 4 := by omega
      refine x_iload_n C dX8_loudest_4 2 rfl ?_
      refine x_iconst C 4 dX8_loudest_5 rfl ?_
      refine x_icmp_ge C 61 dX8_loudest_6 rfl (fun c => absurd c (nI_ge (b := 4) (by omega) (by omega))) (fun _ => ?_)
      refine x_aload_n C dX8_loudest_9 0 rfl ?_
      refine x_get C (xlo (i := 0) hb_ob) (xhi (i := 0) hn_ob rfl) (ov_at (i := 0) rfl) f_X8_10 rfl dX8_loudest_10 ?_
      refine x_iload_n C dX8_loudest_13 2 rfl ?_
      refine x_cV1 C (MF.sliceR (i := 1) (n := 8) rfl (c_X6_isOn E N (ob + 1) _ (qNow u) (nI i) (xlo (i := 1) hb_ob) (xhn (i := 1) (n := 8) hn_ob rfl))) v_X8_80 hN (xlo (i := 1) hb_ob) (xhi (i := 1) hn_ob rfl) (ov_at (i := 1) rfl) rfl rfl rfl rfl rfl dX8_loudest_14 ?_
      refine x_ifb_eq C 55 dX8_loudest_17 rfl (fun c17 => ?_) (fun c17 => ?_)
      · refine x_iinc (L' := [(2, .int ((nI i) + 1)), (0, .ref ob), (1, .int (tapS (tLd (qNow u)) i))]) C ((nI i) + 1) dX8_loudest_55 2 rfl rfl rfl rfl ?_
        refine x_goto C 4 dX8_loudest_58 rfl ?_
        refine x_perm (L' := [(0, .ref ob), (1, .int (tapS (tLd (qNow u)) i)), (2, .int ((nI i) + 1))]) [1, 2, 0] rfl ?_
        refine x_to (L' := [(0, .ref ob), (1, .int (tapS (tLd (qNow u)) (i + 1))), (2, .int (nI (i + 1)))]) (G' := ov ob (xC E ob (qNow u) (qTr u) (qH0 u) (qH1 u) (qH2 u) (qH3 u) (qOl u) (qKe u) (qCh u) (qTl u) (qNu u) (qKi u) (qEn u) (qWh u) (qFt u) (qFp u) (qFr u) (qFc u)) G) (by simp only [nI_succ, tapS, tLd]; first | done | rfl | (simp [bI, c17]; done) | (simp [bI, c17]; rfl)) rfl rfl ?_
        exact ih (i + 1) (by omega)
      · refine x_aload_n C dX8_loudest_20 0 rfl ?_
        refine x_get C (xlo (i := 0) hb_ob) (xhi (i := 0) hn_ob rfl) (ov_at (i := 0) rfl) f_X8_10 rfl dX8_loudest_21 ?_
        refine x_iload_n C dX8_loudest_24 2 rfl ?_
        refine x_cV1 C (MF.sliceR (i := 1) (n := 8) rfl (c_X6_isLost E N (ob + 1) _ (qNow u) (nI i) (xlo (i := 1) hb_ob) (xhn (i := 1) (n := 8) hn_ob rfl))) v_X8_72 hN (xlo (i := 1) hb_ob) (xhi (i := 1) hn_ob rfl) (ov_at (i := 1) rfl) rfl rfl rfl rfl rfl dX8_loudest_25 ?_
        refine x_ifb_ne C 55 dX8_loudest_28 rfl (fun c28 => ?_) (fun c28 => ?_)
        · refine x_iinc (L' := [(2, .int ((nI i) + 1)), (0, .ref ob), (1, .int (tapS (tLd (qNow u)) i))]) C ((nI i) + 1) dX8_loudest_55 2 rfl rfl rfl rfl ?_
          refine x_goto C 4 dX8_loudest_58 rfl ?_
          refine x_perm (L' := [(0, .ref ob), (1, .int (tapS (tLd (qNow u)) i)), (2, .int ((nI i) + 1))]) [1, 2, 0] rfl ?_
          refine x_to (L' := [(0, .ref ob), (1, .int (tapS (tLd (qNow u)) (i + 1))), (2, .int (nI (i + 1)))]) (G' := ov ob (xC E ob (qNow u) (qTr u) (qH0 u) (qH1 u) (qH2 u) (qH3 u) (qOl u) (qKe u) (qCh u) (qTl u) (qNu u) (qKi u) (qEn u) (qWh u) (qFt u) (qFp u) (qFr u) (qFc u)) G) (by simp only [nI_succ, tapS, tLd]; first | done | rfl | (simp [bI, c17, c28]; done) | (simp [bI, c17, c28]; rfl)) rfl rfl ?_
          exact ih (i + 1) (by omega)
        · refine x_iload_n C dX8_loudest_31 1 rfl ?_
          refine x_aload_n C dX8_loudest_32 0 rfl ?_
          refine x_get C (xlo (i := 0) hb_ob) (xhi (i := 0) hn_ob rfl) (ov_at (i := 0) rfl) f_X8_10 rfl dX8_loudest_33 ?_
          refine x_iload_n C dX8_loudest_36 2 rfl ?_
          refine x_cV1 C (MF.sliceR (i := 1) (n := 8) rfl (c_X6_gainOf E N (ob + 1) _ (qNow u) (nI i) (xlo (i := 1) hb_ob) (xhn (i := 1) (n := 8) hn_ob rfl))) v_X8_91 hN (xlo (i := 1) hb_ob) (xhi (i := 1) hn_ob rfl) (ov_at (i := 1) rfl) rfl rfl rfl rfl rfl dX8_loudest_37 ?_
          refine x_aload_n C dX8_loudest_40 0 rfl ?_
          refine x_get C (xlo (i := 0) hb_ob) (xhi (i := 0) hn_ob rfl) (ov_at (i := 0) rfl) f_X8_10 rfl dX8_loudest_41 ?_
          refine x_get C (xlo (i := 1) hb_ob) (xhi (i := 1) hn_ob rfl) (ov_at (i := 1) rfl) f_X8_198 rfl dX8_loudest_44 ?_
          refine x_cS1 C (c_X8_thousandths E N _ (sGai (qNow u) (nI i)) (vLi (qNow u))) v_X8_201 hN rfl rfl rfl rfl dX8_loudest_47 ?_
          refine x_mabs C m_235 rfl rfl rfl rfl dX8_loudest_50 ?_
          refine x_iadd C dX8_loudest_53 ?_
          refine x_topi (fun z1 ez1 => ?_)
          refine x_istore_n (L' := [(1, .int z1), (0, .ref ob), (2, .int (nI i))]) C dX8_loudest_54 rfl rfl ?_
          refine x_iinc (L' := [(2, .int ((nI i) + 1)), (1, .int z1), (0, .ref ob)]) C ((nI i) + 1) dX8_loudest_55 2 rfl rfl rfl rfl ?_
          refine x_goto C 4 dX8_loudest_58 rfl ?_
          refine x_perm (L' := [(0, .ref ob), (1, .int z1), (2, .int ((nI i) + 1))]) [2, 1, 0] rfl ?_
          subst ez1
          refine x_to (L' := [(0, .ref ob), (1, .int (tapS (tLd (qNow u)) (i + 1))), (2, .int (nI (i + 1)))]) (G' := ov ob (xC E ob (qNow u) (qTr u) (qH0 u) (qH1 u) (qH2 u) (qH3 u) (qOl u) (qKe u) (qCh u) (qTl u) (qNu u) (qKi u) (qEn u) (qWh u) (qFt u) (qFp u) (qFr u) (qFc u)) G) (by simp only [nI_succ, tapS, tLd]; first | done | rfl | (simp [bI, c17, c28]; done) | (simp [bI, c17, c28]; rfl)) rfl rfl ?_
          exact ih (i + 1) (by omega)
  refine x_to (L' := [(0, .ref ob), (1, .int (tapS (tLd (qNow u)) 0)), (2, .int (nI 0))]) (G' := ov ob (xC E ob (qNow u) (qTr u) (qH0 u) (qH1 u) (qH2 u) (qH3 u) (qOl u) (qKe u) (qCh u) (qTl u) (qNu u) (qKi u) (qEn u) (qWh u) (qFt u) (qFp u) (qFr u) (qFc u)) G) rfl rfl rfl ?_
  exact lp4 _ 0 (Nat.add_sub_cancel' (by omega))

set_option maxRecDepth 100000 in
set_option maxHeartbeats 4000000 in
theorem c_X8_count (E : XE) (N ob : Nat) (G : GW) (u : QV) (w : Int32) (l : Nat) (hle : vLe (qNow u) = nI l) (hl : l ≤ 64) (hb_ob : xB E ≤ ob) (hn_ob : ob + 56 ≤ N) : MF E yX8_count cX8_count 2 (some .int) 4 84 0 0 [.ref ob, .int w] N (ov ob (xC E ob (qNow u) (qTr u) (qH0 u) (qH1 u) (qH2 u) (qH3 u) (qOl u) (qKe u) (qCh u) (qTl u) (qNu u) (qKi u) (qEn u) (qWh u) (qFt u) (qFp u) (qFr u) (qFc u)) G) (some (.int (rCnt u l w))) (ov ob (xC E ob (qNow u) (qTr u) (qH0 u) (qH1 u) (qH2 u) (qH3 u) (qOl u) (qKe u) (qCh u) (qTl u) (qNu u) (qKi u) (qEn u) (qWh u) (qFt u) (qFp u) (qFr u) (qFc u)) G) := by
  refine MF.mk RX8 rfl (by decide +kernel) rfl (fun K C Z hin hN => ?_)
  show XW E K 2 N 0 0 _ 0 [(0, .ref ob), (1, .int w)] []
  refine x_iload_n C dX8_count_0 1 rfl ?_
  rcases Decidable.em (w = 0) with s1_0 | s1_0
  · refine x_v (w := .int 0) (by rw [s1_0]) ?_
    refine x_tableIn C 104 dX8_count_1 (by decide) (by decide) rfl rfl ?_
    refine x_aload_n C dX8_count_104 0 rfl ?_
    refine x_get C (xlo (i := 0) hb_ob) (xhi (i := 0) hn_ob rfl) (ov_at (i := 0) rfl) f_X8_10 rfl dX8_count_105 ?_
    refine x_get C (xlo (i := 1) hb_ob) (xhi (i := 1) hn_ob rfl) (ov_at (i := 1) rfl) f_X8_105 rfl dX8_count_108 ?_
    refine x_get C (xlo (i := 2) hb_ob) (xhi (i := 2) hn_ob rfl) (ov_at (i := 2) rfl) f_X8_109 rfl dX8_count_111 ?_
    exact x_iret C Z rfl rfl (by first | (simp only [rCnt, if_pos s1_0, eq_self, Bool.false_eq_true, if_true, if_false]; done) | ((simp only [rCnt, if_pos s1_0, eq_self, Bool.false_eq_true, if_true, if_false]); rfl) | (simp [rCnt, s1_0]; done) | (simp [rCnt, s1_0]; rfl)) (by first | (simp only [rCnt, if_pos s1_0, eq_self, Bool.false_eq_true, if_true, if_false]; done) | ((simp only [rCnt, if_pos s1_0, eq_self, Bool.false_eq_true, if_true, if_false]); rfl) | (simp [rCnt, s1_0]; done) | (simp [rCnt, s1_0]; rfl)) dX8_count_114
  rcases Decidable.em (w = 1) with s1_1 | s1_1
  · refine x_v (w := .int 1) (by rw [s1_1]) ?_
    refine x_tableIn C 115 dX8_count_1 (by decide) (by decide) rfl rfl ?_
    refine x_aload_n C dX8_count_115 0 rfl ?_
    refine x_get C (xlo (i := 0) hb_ob) (xhi (i := 0) hn_ob rfl) (ov_at (i := 0) rfl) f_X8_10 rfl dX8_count_116 ?_
    refine x_cV1 C (MF.sliceR (i := 1) (n := 8) rfl (c_X6_wordsOfProgram E N (ob + 1) _ (qNow u) (xlo (i := 1) hb_ob) (xhn (i := 1) (n := 8) hn_ob rfl))) v_X8_94 hN (xlo (i := 1) hb_ob) (xhi (i := 1) hn_ob rfl) (ov_at (i := 1) rfl) rfl rfl rfl rfl rfl dX8_count_119 ?_
    exact x_iret C Z rfl rfl (by first | (simp only [rCnt, if_neg s1_0, if_pos s1_1, eq_self, Bool.false_eq_true, if_true, if_false]; done) | ((simp only [rCnt, if_neg s1_0, if_pos s1_1, eq_self, Bool.false_eq_true, if_true, if_false]); rfl) | (simp [rCnt, s1_0, s1_1]; done) | (simp [rCnt, s1_0, s1_1]; rfl)) (by first | (simp only [rCnt, if_neg s1_0, if_pos s1_1, eq_self, Bool.false_eq_true, if_true, if_false]; done) | ((simp only [rCnt, if_neg s1_0, if_pos s1_1, eq_self, Bool.false_eq_true, if_true, if_false]); rfl) | (simp [rCnt, s1_0, s1_1]; done) | (simp [rCnt, s1_0, s1_1]; rfl)) dX8_count_122
  rcases Decidable.em (w = 2) with s1_2 | s1_2
  · refine x_v (w := .int 2) (by rw [s1_2]) ?_
    refine x_tableIn C 123 dX8_count_1 (by decide) (by decide) rfl rfl ?_
    refine x_aload_n C dX8_count_123 0 rfl ?_
    refine x_cV1 C (c_X8_tapsOn E N ob _ (mkQ (qNow u) (qTr u) (qH0 u) (qH1 u) (qH2 u) (qH3 u) (qOl u) (qKe u) (qCh u) (qTl u) (qNu u) (qKi u) (qEn u) (qWh u) (qFt u) (qFp u) (qFr u) (qFc u)) hb_ob hn_ob) v_X8_207 hN (xlo (i := 0) hb_ob) (xhi (i := 0) hn_ob rfl) (ov_at (i := 0) rfl) rfl rfl rfl rfl rfl dX8_count_124 ?_
    exact x_iret C Z rfl rfl (by first | (simp only [rCnt, if_neg s1_0, if_neg s1_1, if_pos s1_2, eq_self, Bool.false_eq_true, if_true, if_false]; done) | ((simp only [rCnt, if_neg s1_0, if_neg s1_1, if_pos s1_2, eq_self, Bool.false_eq_true, if_true, if_false]); rfl) | (simp [rCnt, s1_0, s1_1, s1_2]; done) | (simp [rCnt, s1_0, s1_1, s1_2]; rfl)) (by first | (simp only [rCnt, if_neg s1_0, if_neg s1_1, if_pos s1_2, eq_self, Bool.false_eq_true, if_true, if_false]; done) | ((simp only [rCnt, if_neg s1_0, if_neg s1_1, if_pos s1_2, eq_self, Bool.false_eq_true, if_true, if_false]); rfl) | (simp [rCnt, s1_0, s1_1, s1_2]; done) | (simp [rCnt, s1_0, s1_1, s1_2]; rfl)) dX8_count_127
  rcases Decidable.em (w = 3) with s1_3 | s1_3
  · refine x_v (w := .int 3) (by rw [s1_3]) ?_
    refine x_tableIn C 128 dX8_count_1 (by decide) (by decide) rfl rfl ?_
    refine x_aload_n C dX8_count_128 0 rfl ?_
    refine x_cV1 C (c_X8_tapsLost E N ob _ (mkQ (qNow u) (qTr u) (qH0 u) (qH1 u) (qH2 u) (qH3 u) (qOl u) (qKe u) (qCh u) (qTl u) (qNu u) (qKi u) (qEn u) (qWh u) (qFt u) (qFp u) (qFr u) (qFc u)) hb_ob hn_ob) v_X8_210 hN (xlo (i := 0) hb_ob) (xhi (i := 0) hn_ob rfl) (ov_at (i := 0) rfl) rfl rfl rfl rfl rfl dX8_count_129 ?_
    exact x_iret C Z rfl rfl (by first | (simp only [rCnt, if_neg s1_0, if_neg s1_1, if_neg s1_2, if_pos s1_3, eq_self, Bool.false_eq_true, if_true, if_false]; done) | ((simp only [rCnt, if_neg s1_0, if_neg s1_1, if_neg s1_2, if_pos s1_3, eq_self, Bool.false_eq_true, if_true, if_false]); rfl) | (simp [rCnt, s1_0, s1_1, s1_2, s1_3]; done) | (simp [rCnt, s1_0, s1_1, s1_2, s1_3]; rfl)) (by first | (simp only [rCnt, if_neg s1_0, if_neg s1_1, if_neg s1_2, if_pos s1_3, eq_self, Bool.false_eq_true, if_true, if_false]; done) | ((simp only [rCnt, if_neg s1_0, if_neg s1_1, if_neg s1_2, if_pos s1_3, eq_self, Bool.false_eq_true, if_true, if_false]); rfl) | (simp [rCnt, s1_0, s1_1, s1_2, s1_3]; done) | (simp [rCnt, s1_0, s1_1, s1_2, s1_3]; rfl)) dX8_count_132
  rcases Decidable.em (w = 4) with s1_4 | s1_4
  · refine x_v (w := .int 4) (by rw [s1_4]) ?_
    refine x_tableIn C 133 dX8_count_1 (by decide) (by decide) rfl rfl ?_
    refine x_aload_n C dX8_count_133 0 rfl ?_
    refine x_get C (xlo (i := 0) hb_ob) (xhi (i := 0) hn_ob rfl) (ov_at (i := 0) rfl) f_X8_10 rfl dX8_count_134 ?_
    refine x_get C (xlo (i := 1) hb_ob) (xhi (i := 1) hn_ob rfl) (ov_at (i := 1) rfl) f_X8_105 rfl dX8_count_137 ?_
    refine x_cV1 C (MF.sliceR (i := 2) (n := 2) rfl (c2_X5_sumOfAmounts E N (ob + 2) _ (vW (qNow u)) (vFi (qNow u)) (vLe (qNow u)) l hle hl (xlo (i := 2) hb_ob) (xhn (i := 2) (n := 2) hn_ob rfl))) v_X8_213 hN (xlo (i := 2) hb_ob) (xhi (i := 2) hn_ob rfl) (ov_at (i := 2) rfl) rfl rfl rfl rfl rfl dX8_count_140 ?_
    exact x_iret C Z rfl rfl (by first | (simp only [rCnt, if_neg s1_0, if_neg s1_1, if_neg s1_2, if_neg s1_3, if_pos s1_4, eq_self, Bool.false_eq_true, if_true, if_false]; done) | ((simp only [rCnt, if_neg s1_0, if_neg s1_1, if_neg s1_2, if_neg s1_3, if_pos s1_4, eq_self, Bool.false_eq_true, if_true, if_false]); rfl) | (simp [rCnt, s1_0, s1_1, s1_2, s1_3, s1_4]; done) | (simp [rCnt, s1_0, s1_1, s1_2, s1_3, s1_4]; rfl)) (by first | (simp only [rCnt, if_neg s1_0, if_neg s1_1, if_neg s1_2, if_neg s1_3, if_pos s1_4, eq_self, Bool.false_eq_true, if_true, if_false]; done) | ((simp only [rCnt, if_neg s1_0, if_neg s1_1, if_neg s1_2, if_neg s1_3, if_pos s1_4, eq_self, Bool.false_eq_true, if_true, if_false]); rfl) | (simp [rCnt, s1_0, s1_1, s1_2, s1_3, s1_4]; done) | (simp [rCnt, s1_0, s1_1, s1_2, s1_3, s1_4]; rfl)) dX8_count_143
  rcases Decidable.em (w = 5) with s1_5 | s1_5
  · refine x_v (w := .int 5) (by rw [s1_5]) ?_
    refine x_tableIn C 144 dX8_count_1 (by decide) (by decide) rfl rfl ?_
    refine x_aload_n C dX8_count_144 0 rfl ?_
    refine x_get C (xlo (i := 0) hb_ob) (xhi (i := 0) hn_ob rfl) (ov_at (i := 0) rfl) f_X8_10 rfl dX8_count_145 ?_
    refine x_get C (xlo (i := 1) hb_ob) (xhi (i := 1) hn_ob rfl) (ov_at (i := 1) rfl) f_X8_105 rfl dX8_count_148 ?_
    refine x_iconst C 0 dX8_count_151 rfl ?_
    refine x_cV1 C (MF.sliceR (i := 2) (n := 2) rfl (c2_X5_wordsAbove E N (ob + 2) _ (vW (qNow u)) (vFi (qNow u)) (vLe (qNow u)) 0 l hle hl (xlo (i := 2) hb_ob) (xhn (i := 2) (n := 2) hn_ob rfl))) v_X8_187 hN (xlo (i := 2) hb_ob) (xhi (i := 2) hn_ob rfl) (ov_at (i := 2) rfl) rfl rfl rfl rfl rfl dX8_count_152 ?_
    exact x_iret C Z rfl rfl (by first | (simp only [rCnt, if_neg s1_0, if_neg s1_1, if_neg s1_2, if_neg s1_3, if_neg s1_4, if_pos s1_5, eq_self, Bool.false_eq_true, if_true, if_false]; done) | ((simp only [rCnt, if_neg s1_0, if_neg s1_1, if_neg s1_2, if_neg s1_3, if_neg s1_4, if_pos s1_5, eq_self, Bool.false_eq_true, if_true, if_false]); rfl) | (simp [rCnt, s1_0, s1_1, s1_2, s1_3, s1_4, s1_5]; done) | (simp [rCnt, s1_0, s1_1, s1_2, s1_3, s1_4, s1_5]; rfl)) (by first | (simp only [rCnt, if_neg s1_0, if_neg s1_1, if_neg s1_2, if_neg s1_3, if_neg s1_4, if_pos s1_5, eq_self, Bool.false_eq_true, if_true, if_false]; done) | ((simp only [rCnt, if_neg s1_0, if_neg s1_1, if_neg s1_2, if_neg s1_3, if_neg s1_4, if_pos s1_5, eq_self, Bool.false_eq_true, if_true, if_false]); rfl) | (simp [rCnt, s1_0, s1_1, s1_2, s1_3, s1_4, s1_5]; done) | (simp [rCnt, s1_0, s1_1, s1_2, s1_3, s1_4, s1_5]; rfl)) dX8_count_155
  rcases Decidable.em (w = 6) with s1_6 | s1_6
  · refine x_v (w := .int 6) (by rw [s1_6]) ?_
    refine x_tableIn C 156 dX8_count_1 (by decide) (by decide) rfl rfl ?_
    refine x_aload_n C dX8_count_156 0 rfl ?_
    refine x_get C (xlo (i := 0) hb_ob) (xhi (i := 0) hn_ob rfl) (ov_at (i := 0) rfl) f_X8_10 rfl dX8_count_157 ?_
    refine x_get C (xlo (i := 1) hb_ob) (xhi (i := 1) hn_ob rfl) (ov_at (i := 1) rfl) f_X8_216 rfl dX8_count_160 ?_
    exact x_iret C Z rfl rfl (by first | (simp only [rCnt, if_neg s1_0, if_neg s1_1, if_neg s1_2, if_neg s1_3, if_neg s1_4, if_neg s1_5, if_pos s1_6, eq_self, Bool.false_eq_true, if_true, if_false]; done) | ((simp only [rCnt, if_neg s1_0, if_neg s1_1, if_neg s1_2, if_neg s1_3, if_neg s1_4, if_neg s1_5, if_pos s1_6, eq_self, Bool.false_eq_true, if_true, if_false]); rfl) | (simp [rCnt, s1_0, s1_1, s1_2, s1_3, s1_4, s1_5, s1_6]; done) | (simp [rCnt, s1_0, s1_1, s1_2, s1_3, s1_4, s1_5, s1_6]; rfl)) (by first | (simp only [rCnt, if_neg s1_0, if_neg s1_1, if_neg s1_2, if_neg s1_3, if_neg s1_4, if_neg s1_5, if_pos s1_6, eq_self, Bool.false_eq_true, if_true, if_false]; done) | ((simp only [rCnt, if_neg s1_0, if_neg s1_1, if_neg s1_2, if_neg s1_3, if_neg s1_4, if_neg s1_5, if_pos s1_6, eq_self, Bool.false_eq_true, if_true, if_false]); rfl) | (simp [rCnt, s1_0, s1_1, s1_2, s1_3, s1_4, s1_5, s1_6]; done) | (simp [rCnt, s1_0, s1_1, s1_2, s1_3, s1_4, s1_5, s1_6]; rfl)) dX8_count_163
  rcases Decidable.em (w = 7) with s1_7 | s1_7
  · refine x_v (w := .int 7) (by rw [s1_7]) ?_
    refine x_tableIn C 164 dX8_count_1 (by decide) (by decide) rfl rfl ?_
    refine x_aload_n C dX8_count_164 0 rfl ?_
    refine x_get C (xlo (i := 0) hb_ob) (xhi (i := 0) hn_ob rfl) (ov_at (i := 0) rfl) f_X8_22 rfl dX8_count_165 ?_
    refine x_get C (xlo (i := 17) hb_ob) (xhi (i := 17) hn_ob rfl) (ov_at (i := 17) rfl) f_X8_219 rfl dX8_count_168 ?_
    exact x_iret C Z rfl rfl (by first | (simp only [rCnt, if_neg s1_0, if_neg s1_1, if_neg s1_2, if_neg s1_3, if_neg s1_4, if_neg s1_5, if_neg s1_6, if_pos s1_7, eq_self, Bool.false_eq_true, if_true, if_false]; done) | ((simp only [rCnt, if_neg s1_0, if_neg s1_1, if_neg s1_2, if_neg s1_3, if_neg s1_4, if_neg s1_5, if_neg s1_6, if_pos s1_7, eq_self, Bool.false_eq_true, if_true, if_false]); rfl) | (simp [rCnt, s1_0, s1_1, s1_2, s1_3, s1_4, s1_5, s1_6, s1_7]; done) | (simp [rCnt, s1_0, s1_1, s1_2, s1_3, s1_4, s1_5, s1_6, s1_7]; rfl)) (by first | (simp only [rCnt, if_neg s1_0, if_neg s1_1, if_neg s1_2, if_neg s1_3, if_neg s1_4, if_neg s1_5, if_neg s1_6, if_pos s1_7, eq_self, Bool.false_eq_true, if_true, if_false]; done) | ((simp only [rCnt, if_neg s1_0, if_neg s1_1, if_neg s1_2, if_neg s1_3, if_neg s1_4, if_neg s1_5, if_neg s1_6, if_pos s1_7, eq_self, Bool.false_eq_true, if_true, if_false]); rfl) | (simp [rCnt, s1_0, s1_1, s1_2, s1_3, s1_4, s1_5, s1_6, s1_7]; done) | (simp [rCnt, s1_0, s1_1, s1_2, s1_3, s1_4, s1_5, s1_6, s1_7]; rfl)) dX8_count_171
  rcases Decidable.em (w = 8) with s1_8 | s1_8
  · refine x_v (w := .int 8) (by rw [s1_8]) ?_
    refine x_tableIn C 172 dX8_count_1 (by decide) (by decide) rfl rfl ?_
    refine x_aload_n C dX8_count_172 0 rfl ?_
    refine x_get C (xlo (i := 0) hb_ob) (xhi (i := 0) hn_ob rfl) (ov_at (i := 0) rfl) f_X8_29 rfl dX8_count_173 ?_
    refine x_get C (xlo (i := 51) hb_ob) (xhi (i := 51) hn_ob rfl) (ov_at (i := 51) rfl) f_X8_220 rfl dX8_count_176 ?_
    exact x_iret C Z rfl rfl (by first | (simp only [rCnt, if_neg s1_0, if_neg s1_1, if_neg s1_2, if_neg s1_3, if_neg s1_4, if_neg s1_5, if_neg s1_6, if_neg s1_7, if_pos s1_8, eq_self, Bool.false_eq_true, if_true, if_false]; done) | ((simp only [rCnt, if_neg s1_0, if_neg s1_1, if_neg s1_2, if_neg s1_3, if_neg s1_4, if_neg s1_5, if_neg s1_6, if_neg s1_7, if_pos s1_8, eq_self, Bool.false_eq_true, if_true, if_false]); rfl) | (simp [rCnt, s1_0, s1_1, s1_2, s1_3, s1_4, s1_5, s1_6, s1_7, s1_8]; done) | (simp [rCnt, s1_0, s1_1, s1_2, s1_3, s1_4, s1_5, s1_6, s1_7, s1_8]; rfl)) (by first | (simp only [rCnt, if_neg s1_0, if_neg s1_1, if_neg s1_2, if_neg s1_3, if_neg s1_4, if_neg s1_5, if_neg s1_6, if_neg s1_7, if_pos s1_8, eq_self, Bool.false_eq_true, if_true, if_false]; done) | ((simp only [rCnt, if_neg s1_0, if_neg s1_1, if_neg s1_2, if_neg s1_3, if_neg s1_4, if_neg s1_5, if_neg s1_6, if_neg s1_7, if_pos s1_8, eq_self, Bool.false_eq_true, if_true, if_false]); rfl) | (simp [rCnt, s1_0, s1_1, s1_2, s1_3, s1_4, s1_5, s1_6, s1_7, s1_8]; done) | (simp [rCnt, s1_0, s1_1, s1_2, s1_3, s1_4, s1_5, s1_6, s1_7, s1_8]; rfl)) dX8_count_179
  rcases Decidable.em (w = 9) with s1_9 | s1_9
  · refine x_v (w := .int 9) (by rw [s1_9]) ?_
    refine x_tableIn C 196 dX8_count_1 (by decide) (by decide) rfl rfl ?_
    refine x_ldc C (-1000001) m_180 dX8_count_196 ?_
    exact x_iret C Z rfl rfl (by first | (simp only [rCnt, if_neg s1_0, if_neg s1_1, if_neg s1_2, if_neg s1_3, if_neg s1_4, if_neg s1_5, if_neg s1_6, if_neg s1_7, if_neg s1_8, if_pos s1_9, eq_self, Bool.false_eq_true, if_true, if_false]; done) | ((simp only [rCnt, if_neg s1_0, if_neg s1_1, if_neg s1_2, if_neg s1_3, if_neg s1_4, if_neg s1_5, if_neg s1_6, if_neg s1_7, if_neg s1_8, if_pos s1_9, eq_self, Bool.false_eq_true, if_true, if_false]); rfl) | (simp [rCnt, s1_0, s1_1, s1_2, s1_3, s1_4, s1_5, s1_6, s1_7, s1_8, s1_9]; done) | (simp [rCnt, s1_0, s1_1, s1_2, s1_3, s1_4, s1_5, s1_6, s1_7, s1_8, s1_9]; rfl)) (by first | (simp only [rCnt, if_neg s1_0, if_neg s1_1, if_neg s1_2, if_neg s1_3, if_neg s1_4, if_neg s1_5, if_neg s1_6, if_neg s1_7, if_neg s1_8, if_pos s1_9, eq_self, Bool.false_eq_true, if_true, if_false]; done) | ((simp only [rCnt, if_neg s1_0, if_neg s1_1, if_neg s1_2, if_neg s1_3, if_neg s1_4, if_neg s1_5, if_neg s1_6, if_neg s1_7, if_neg s1_8, if_pos s1_9, eq_self, Bool.false_eq_true, if_true, if_false]); rfl) | (simp [rCnt, s1_0, s1_1, s1_2, s1_3, s1_4, s1_5, s1_6, s1_7, s1_8, s1_9]; done) | (simp [rCnt, s1_0, s1_1, s1_2, s1_3, s1_4, s1_5, s1_6, s1_7, s1_8, s1_9]; rfl)) dX8_count_198
  rcases Decidable.em (w = 10) with s1_10 | s1_10
  · refine x_v (w := .int 10) (by rw [s1_10]) ?_
    refine x_tableIn C 196 dX8_count_1 (by decide) (by decide) rfl rfl ?_
    refine x_ldc C (-1000001) m_180 dX8_count_196 ?_
    exact x_iret C Z rfl rfl (by first | (simp only [rCnt, if_neg s1_0, if_neg s1_1, if_neg s1_2, if_neg s1_3, if_neg s1_4, if_neg s1_5, if_neg s1_6, if_neg s1_7, if_neg s1_8, if_neg s1_9, if_pos s1_10, eq_self, Bool.false_eq_true, if_true, if_false]; done) | ((simp only [rCnt, if_neg s1_0, if_neg s1_1, if_neg s1_2, if_neg s1_3, if_neg s1_4, if_neg s1_5, if_neg s1_6, if_neg s1_7, if_neg s1_8, if_neg s1_9, if_pos s1_10, eq_self, Bool.false_eq_true, if_true, if_false]); rfl) | (simp [rCnt, s1_0, s1_1, s1_2, s1_3, s1_4, s1_5, s1_6, s1_7, s1_8, s1_9, s1_10]; done) | (simp [rCnt, s1_0, s1_1, s1_2, s1_3, s1_4, s1_5, s1_6, s1_7, s1_8, s1_9, s1_10]; rfl)) (by first | (simp only [rCnt, if_neg s1_0, if_neg s1_1, if_neg s1_2, if_neg s1_3, if_neg s1_4, if_neg s1_5, if_neg s1_6, if_neg s1_7, if_neg s1_8, if_neg s1_9, if_pos s1_10, eq_self, Bool.false_eq_true, if_true, if_false]; done) | ((simp only [rCnt, if_neg s1_0, if_neg s1_1, if_neg s1_2, if_neg s1_3, if_neg s1_4, if_neg s1_5, if_neg s1_6, if_neg s1_7, if_neg s1_8, if_neg s1_9, if_pos s1_10, eq_self, Bool.false_eq_true, if_true, if_false]); rfl) | (simp [rCnt, s1_0, s1_1, s1_2, s1_3, s1_4, s1_5, s1_6, s1_7, s1_8, s1_9, s1_10]; done) | (simp [rCnt, s1_0, s1_1, s1_2, s1_3, s1_4, s1_5, s1_6, s1_7, s1_8, s1_9, s1_10]; rfl)) dX8_count_198
  rcases Decidable.em (w = 11) with s1_11 | s1_11
  · refine x_v (w := .int 11) (by rw [s1_11]) ?_
    refine x_tableIn C 196 dX8_count_1 (by decide) (by decide) rfl rfl ?_
    refine x_ldc C (-1000001) m_180 dX8_count_196 ?_
    exact x_iret C Z rfl rfl (by first | (simp only [rCnt, if_neg s1_0, if_neg s1_1, if_neg s1_2, if_neg s1_3, if_neg s1_4, if_neg s1_5, if_neg s1_6, if_neg s1_7, if_neg s1_8, if_neg s1_9, if_neg s1_10, if_pos s1_11, eq_self, Bool.false_eq_true, if_true, if_false]; done) | ((simp only [rCnt, if_neg s1_0, if_neg s1_1, if_neg s1_2, if_neg s1_3, if_neg s1_4, if_neg s1_5, if_neg s1_6, if_neg s1_7, if_neg s1_8, if_neg s1_9, if_neg s1_10, if_pos s1_11, eq_self, Bool.false_eq_true, if_true, if_false]); rfl) | (simp [rCnt, s1_0, s1_1, s1_2, s1_3, s1_4, s1_5, s1_6, s1_7, s1_8, s1_9, s1_10, s1_11]; done) | (simp [rCnt, s1_0, s1_1, s1_2, s1_3, s1_4, s1_5, s1_6, s1_7, s1_8, s1_9, s1_10, s1_11]; rfl)) (by first | (simp only [rCnt, if_neg s1_0, if_neg s1_1, if_neg s1_2, if_neg s1_3, if_neg s1_4, if_neg s1_5, if_neg s1_6, if_neg s1_7, if_neg s1_8, if_neg s1_9, if_neg s1_10, if_pos s1_11, eq_self, Bool.false_eq_true, if_true, if_false]; done) | ((simp only [rCnt, if_neg s1_0, if_neg s1_1, if_neg s1_2, if_neg s1_3, if_neg s1_4, if_neg s1_5, if_neg s1_6, if_neg s1_7, if_neg s1_8, if_neg s1_9, if_neg s1_10, if_pos s1_11, eq_self, Bool.false_eq_true, if_true, if_false]); rfl) | (simp [rCnt, s1_0, s1_1, s1_2, s1_3, s1_4, s1_5, s1_6, s1_7, s1_8, s1_9, s1_10, s1_11]; done) | (simp [rCnt, s1_0, s1_1, s1_2, s1_3, s1_4, s1_5, s1_6, s1_7, s1_8, s1_9, s1_10, s1_11]; rfl)) dX8_count_198
  rcases Decidable.em (w = 12) with s1_12 | s1_12
  · refine x_v (w := .int 12) (by rw [s1_12]) ?_
    refine x_tableIn C 196 dX8_count_1 (by decide) (by decide) rfl rfl ?_
    refine x_ldc C (-1000001) m_180 dX8_count_196 ?_
    exact x_iret C Z rfl rfl (by first | (simp only [rCnt, if_neg s1_0, if_neg s1_1, if_neg s1_2, if_neg s1_3, if_neg s1_4, if_neg s1_5, if_neg s1_6, if_neg s1_7, if_neg s1_8, if_neg s1_9, if_neg s1_10, if_neg s1_11, if_pos s1_12, eq_self, Bool.false_eq_true, if_true, if_false]; done) | ((simp only [rCnt, if_neg s1_0, if_neg s1_1, if_neg s1_2, if_neg s1_3, if_neg s1_4, if_neg s1_5, if_neg s1_6, if_neg s1_7, if_neg s1_8, if_neg s1_9, if_neg s1_10, if_neg s1_11, if_pos s1_12, eq_self, Bool.false_eq_true, if_true, if_false]); rfl) | (simp [rCnt, s1_0, s1_1, s1_2, s1_3, s1_4, s1_5, s1_6, s1_7, s1_8, s1_9, s1_10, s1_11, s1_12]; done) | (simp [rCnt, s1_0, s1_1, s1_2, s1_3, s1_4, s1_5, s1_6, s1_7, s1_8, s1_9, s1_10, s1_11, s1_12]; rfl)) (by first | (simp only [rCnt, if_neg s1_0, if_neg s1_1, if_neg s1_2, if_neg s1_3, if_neg s1_4, if_neg s1_5, if_neg s1_6, if_neg s1_7, if_neg s1_8, if_neg s1_9, if_neg s1_10, if_neg s1_11, if_pos s1_12, eq_self, Bool.false_eq_true, if_true, if_false]; done) | ((simp only [rCnt, if_neg s1_0, if_neg s1_1, if_neg s1_2, if_neg s1_3, if_neg s1_4, if_neg s1_5, if_neg s1_6, if_neg s1_7, if_neg s1_8, if_neg s1_9, if_neg s1_10, if_neg s1_11, if_pos s1_12, eq_self, Bool.false_eq_true, if_true, if_false]); rfl) | (simp [rCnt, s1_0, s1_1, s1_2, s1_3, s1_4, s1_5, s1_6, s1_7, s1_8, s1_9, s1_10, s1_11, s1_12]; done) | (simp [rCnt, s1_0, s1_1, s1_2, s1_3, s1_4, s1_5, s1_6, s1_7, s1_8, s1_9, s1_10, s1_11, s1_12]; rfl)) dX8_count_198
  rcases Decidable.em (w = 13) with s1_13 | s1_13
  · refine x_v (w := .int 13) (by rw [s1_13]) ?_
    refine x_tableIn C 196 dX8_count_1 (by decide) (by decide) rfl rfl ?_
    refine x_ldc C (-1000001) m_180 dX8_count_196 ?_
    exact x_iret C Z rfl rfl (by first | (simp only [rCnt, if_neg s1_0, if_neg s1_1, if_neg s1_2, if_neg s1_3, if_neg s1_4, if_neg s1_5, if_neg s1_6, if_neg s1_7, if_neg s1_8, if_neg s1_9, if_neg s1_10, if_neg s1_11, if_neg s1_12, if_pos s1_13, eq_self, Bool.false_eq_true, if_true, if_false]; done) | ((simp only [rCnt, if_neg s1_0, if_neg s1_1, if_neg s1_2, if_neg s1_3, if_neg s1_4, if_neg s1_5, if_neg s1_6, if_neg s1_7, if_neg s1_8, if_neg s1_9, if_neg s1_10, if_neg s1_11, if_neg s1_12, if_pos s1_13, eq_self, Bool.false_eq_true, if_true, if_false]); rfl) | (simp [rCnt, s1_0, s1_1, s1_2, s1_3, s1_4, s1_5, s1_6, s1_7, s1_8, s1_9, s1_10, s1_11, s1_12, s1_13]; done) | (simp [rCnt, s1_0, s1_1, s1_2, s1_3, s1_4, s1_5, s1_6, s1_7, s1_8, s1_9, s1_10, s1_11, s1_12, s1_13]; rfl)) (by first | (simp only [rCnt, if_neg s1_0, if_neg s1_1, if_neg s1_2, if_neg s1_3, if_neg s1_4, if_neg s1_5, if_neg s1_6, if_neg s1_7, if_neg s1_8, if_neg s1_9, if_neg s1_10, if_neg s1_11, if_neg s1_12, if_pos s1_13, eq_self, Bool.false_eq_true, if_true, if_false]; done) | ((simp only [rCnt, if_neg s1_0, if_neg s1_1, if_neg s1_2, if_neg s1_3, if_neg s1_4, if_neg s1_5, if_neg s1_6, if_neg s1_7, if_neg s1_8, if_neg s1_9, if_neg s1_10, if_neg s1_11, if_neg s1_12, if_pos s1_13, eq_self, Bool.false_eq_true, if_true, if_false]); rfl) | (simp [rCnt, s1_0, s1_1, s1_2, s1_3, s1_4, s1_5, s1_6, s1_7, s1_8, s1_9, s1_10, s1_11, s1_12, s1_13]; done) | (simp [rCnt, s1_0, s1_1, s1_2, s1_3, s1_4, s1_5, s1_6, s1_7, s1_8, s1_9, s1_10, s1_11, s1_12, s1_13]; rfl)) dX8_count_198
  rcases Decidable.em (w = 14) with s1_14 | s1_14
  · refine x_v (w := .int 14) (by rw [s1_14]) ?_
    refine x_tableIn C 196 dX8_count_1 (by decide) (by decide) rfl rfl ?_
    refine x_ldc C (-1000001) m_180 dX8_count_196 ?_
    exact x_iret C Z rfl rfl (by first | (simp only [rCnt, if_neg s1_0, if_neg s1_1, if_neg s1_2, if_neg s1_3, if_neg s1_4, if_neg s1_5, if_neg s1_6, if_neg s1_7, if_neg s1_8, if_neg s1_9, if_neg s1_10, if_neg s1_11, if_neg s1_12, if_neg s1_13, if_pos s1_14, eq_self, Bool.false_eq_true, if_true, if_false]; done) | ((simp only [rCnt, if_neg s1_0, if_neg s1_1, if_neg s1_2, if_neg s1_3, if_neg s1_4, if_neg s1_5, if_neg s1_6, if_neg s1_7, if_neg s1_8, if_neg s1_9, if_neg s1_10, if_neg s1_11, if_neg s1_12, if_neg s1_13, if_pos s1_14, eq_self, Bool.false_eq_true, if_true, if_false]); rfl) | (simp [rCnt, s1_0, s1_1, s1_2, s1_3, s1_4, s1_5, s1_6, s1_7, s1_8, s1_9, s1_10, s1_11, s1_12, s1_13, s1_14]; done) | (simp [rCnt, s1_0, s1_1, s1_2, s1_3, s1_4, s1_5, s1_6, s1_7, s1_8, s1_9, s1_10, s1_11, s1_12, s1_13, s1_14]; rfl)) (by first | (simp only [rCnt, if_neg s1_0, if_neg s1_1, if_neg s1_2, if_neg s1_3, if_neg s1_4, if_neg s1_5, if_neg s1_6, if_neg s1_7, if_neg s1_8, if_neg s1_9, if_neg s1_10, if_neg s1_11, if_neg s1_12, if_neg s1_13, if_pos s1_14, eq_self, Bool.false_eq_true, if_true, if_false]; done) | ((simp only [rCnt, if_neg s1_0, if_neg s1_1, if_neg s1_2, if_neg s1_3, if_neg s1_4, if_neg s1_5, if_neg s1_6, if_neg s1_7, if_neg s1_8, if_neg s1_9, if_neg s1_10, if_neg s1_11, if_neg s1_12, if_neg s1_13, if_pos s1_14, eq_self, Bool.false_eq_true, if_true, if_false]); rfl) | (simp [rCnt, s1_0, s1_1, s1_2, s1_3, s1_4, s1_5, s1_6, s1_7, s1_8, s1_9, s1_10, s1_11, s1_12, s1_13, s1_14]; done) | (simp [rCnt, s1_0, s1_1, s1_2, s1_3, s1_4, s1_5, s1_6, s1_7, s1_8, s1_9, s1_10, s1_11, s1_12, s1_13, s1_14]; rfl)) dX8_count_198
  rcases Decidable.em (w = 15) with s1_15 | s1_15
  · refine x_v (w := .int 15) (by rw [s1_15]) ?_
    refine x_tableIn C 196 dX8_count_1 (by decide) (by decide) rfl rfl ?_
    refine x_ldc C (-1000001) m_180 dX8_count_196 ?_
    exact x_iret C Z rfl rfl (by first | (simp only [rCnt, if_neg s1_0, if_neg s1_1, if_neg s1_2, if_neg s1_3, if_neg s1_4, if_neg s1_5, if_neg s1_6, if_neg s1_7, if_neg s1_8, if_neg s1_9, if_neg s1_10, if_neg s1_11, if_neg s1_12, if_neg s1_13, if_neg s1_14, if_pos s1_15, eq_self, Bool.false_eq_true, if_true, if_false]; done) | ((simp only [rCnt, if_neg s1_0, if_neg s1_1, if_neg s1_2, if_neg s1_3, if_neg s1_4, if_neg s1_5, if_neg s1_6, if_neg s1_7, if_neg s1_8, if_neg s1_9, if_neg s1_10, if_neg s1_11, if_neg s1_12, if_neg s1_13, if_neg s1_14, if_pos s1_15, eq_self, Bool.false_eq_true, if_true, if_false]); rfl) | (simp [rCnt, s1_0, s1_1, s1_2, s1_3, s1_4, s1_5, s1_6, s1_7, s1_8, s1_9, s1_10, s1_11, s1_12, s1_13, s1_14, s1_15]; done) | (simp [rCnt, s1_0, s1_1, s1_2, s1_3, s1_4, s1_5, s1_6, s1_7, s1_8, s1_9, s1_10, s1_11, s1_12, s1_13, s1_14, s1_15]; rfl)) (by first | (simp only [rCnt, if_neg s1_0, if_neg s1_1, if_neg s1_2, if_neg s1_3, if_neg s1_4, if_neg s1_5, if_neg s1_6, if_neg s1_7, if_neg s1_8, if_neg s1_9, if_neg s1_10, if_neg s1_11, if_neg s1_12, if_neg s1_13, if_neg s1_14, if_pos s1_15, eq_self, Bool.false_eq_true, if_true, if_false]; done) | ((simp only [rCnt, if_neg s1_0, if_neg s1_1, if_neg s1_2, if_neg s1_3, if_neg s1_4, if_neg s1_5, if_neg s1_6, if_neg s1_7, if_neg s1_8, if_neg s1_9, if_neg s1_10, if_neg s1_11, if_neg s1_12, if_neg s1_13, if_neg s1_14, if_pos s1_15, eq_self, Bool.false_eq_true, if_true, if_false]); rfl) | (simp [rCnt, s1_0, s1_1, s1_2, s1_3, s1_4, s1_5, s1_6, s1_7, s1_8, s1_9, s1_10, s1_11, s1_12, s1_13, s1_14, s1_15]; done) | (simp [rCnt, s1_0, s1_1, s1_2, s1_3, s1_4, s1_5, s1_6, s1_7, s1_8, s1_9, s1_10, s1_11, s1_12, s1_13, s1_14, s1_15]; rfl)) dX8_count_198
  rcases Decidable.em (w = 16) with s1_16 | s1_16
  · refine x_v (w := .int 16) (by rw [s1_16]) ?_
    refine x_tableIn C 196 dX8_count_1 (by decide) (by decide) rfl rfl ?_
    refine x_ldc C (-1000001) m_180 dX8_count_196 ?_
    exact x_iret C Z rfl rfl (by first | (simp only [rCnt, if_neg s1_0, if_neg s1_1, if_neg s1_2, if_neg s1_3, if_neg s1_4, if_neg s1_5, if_neg s1_6, if_neg s1_7, if_neg s1_8, if_neg s1_9, if_neg s1_10, if_neg s1_11, if_neg s1_12, if_neg s1_13, if_neg s1_14, if_neg s1_15, if_pos s1_16, eq_self, Bool.false_eq_true, if_true, if_false]; done) | ((simp only [rCnt, if_neg s1_0, if_neg s1_1, if_neg s1_2, if_neg s1_3, if_neg s1_4, if_neg s1_5, if_neg s1_6, if_neg s1_7, if_neg s1_8, if_neg s1_9, if_neg s1_10, if_neg s1_11, if_neg s1_12, if_neg s1_13, if_neg s1_14, if_neg s1_15, if_pos s1_16, eq_self, Bool.false_eq_true, if_true, if_false]); rfl) | (simp [rCnt, s1_0, s1_1, s1_2, s1_3, s1_4, s1_5, s1_6, s1_7, s1_8, s1_9, s1_10, s1_11, s1_12, s1_13, s1_14, s1_15, s1_16]; done) | (simp [rCnt, s1_0, s1_1, s1_2, s1_3, s1_4, s1_5, s1_6, s1_7, s1_8, s1_9, s1_10, s1_11, s1_12, s1_13, s1_14, s1_15, s1_16]; rfl)) (by first | (simp only [rCnt, if_neg s1_0, if_neg s1_1, if_neg s1_2, if_neg s1_3, if_neg s1_4, if_neg s1_5, if_neg s1_6, if_neg s1_7, if_neg s1_8, if_neg s1_9, if_neg s1_10, if_neg s1_11, if_neg s1_12, if_neg s1_13, if_neg s1_14, if_neg s1_15, if_pos s1_16, eq_self, Bool.false_eq_true, if_true, if_false]; done) | ((simp only [rCnt, if_neg s1_0, if_neg s1_1, if_neg s1_2, if_neg s1_3, if_neg s1_4, if_neg s1_5, if_neg s1_6, if_neg s1_7, if_neg s1_8, if_neg s1_9, if_neg s1_10, if_neg s1_11, if_neg s1_12, if_neg s1_13, if_neg s1_14, if_neg s1_15, if_pos s1_16, eq_self, Bool.false_eq_true, if_true, if_false]); rfl) | (simp [rCnt, s1_0, s1_1, s1_2, s1_3, s1_4, s1_5, s1_6, s1_7, s1_8, s1_9, s1_10, s1_11, s1_12, s1_13, s1_14, s1_15, s1_16]; done) | (simp [rCnt, s1_0, s1_1, s1_2, s1_3, s1_4, s1_5, s1_6, s1_7, s1_8, s1_9, s1_10, s1_11, s1_12, s1_13, s1_14, s1_15, s1_16]; rfl)) dX8_count_198
  rcases Decidable.em (w = 17) with s1_17 | s1_17
  · refine x_v (w := .int 17) (by rw [s1_17]) ?_
    refine x_tableIn C 196 dX8_count_1 (by decide) (by decide) rfl rfl ?_
    refine x_ldc C (-1000001) m_180 dX8_count_196 ?_
    exact x_iret C Z rfl rfl (by first | (simp only [rCnt, if_neg s1_0, if_neg s1_1, if_neg s1_2, if_neg s1_3, if_neg s1_4, if_neg s1_5, if_neg s1_6, if_neg s1_7, if_neg s1_8, if_neg s1_9, if_neg s1_10, if_neg s1_11, if_neg s1_12, if_neg s1_13, if_neg s1_14, if_neg s1_15, if_neg s1_16, if_pos s1_17, eq_self, Bool.false_eq_true, if_true, if_false]; done) | ((simp only [rCnt, if_neg s1_0, if_neg s1_1, if_neg s1_2, if_neg s1_3, if_neg s1_4, if_neg s1_5, if_neg s1_6, if_neg s1_7, if_neg s1_8, if_neg s1_9, if_neg s1_10, if_neg s1_11, if_neg s1_12, if_neg s1_13, if_neg s1_14, if_neg s1_15, if_neg s1_16, if_pos s1_17, eq_self, Bool.false_eq_true, if_true, if_false]); rfl) | (simp [rCnt, s1_0, s1_1, s1_2, s1_3, s1_4, s1_5, s1_6, s1_7, s1_8, s1_9, s1_10, s1_11, s1_12, s1_13, s1_14, s1_15, s1_16, s1_17]; done) | (simp [rCnt, s1_0, s1_1, s1_2, s1_3, s1_4, s1_5, s1_6, s1_7, s1_8, s1_9, s1_10, s1_11, s1_12, s1_13, s1_14, s1_15, s1_16, s1_17]; rfl)) (by first | (simp only [rCnt, if_neg s1_0, if_neg s1_1, if_neg s1_2, if_neg s1_3, if_neg s1_4, if_neg s1_5, if_neg s1_6, if_neg s1_7, if_neg s1_8, if_neg s1_9, if_neg s1_10, if_neg s1_11, if_neg s1_12, if_neg s1_13, if_neg s1_14, if_neg s1_15, if_neg s1_16, if_pos s1_17, eq_self, Bool.false_eq_true, if_true, if_false]; done) | ((simp only [rCnt, if_neg s1_0, if_neg s1_1, if_neg s1_2, if_neg s1_3, if_neg s1_4, if_neg s1_5, if_neg s1_6, if_neg s1_7, if_neg s1_8, if_neg s1_9, if_neg s1_10, if_neg s1_11, if_neg s1_12, if_neg s1_13, if_neg s1_14, if_neg s1_15, if_neg s1_16, if_pos s1_17, eq_self, Bool.false_eq_true, if_true, if_false]); rfl) | (simp [rCnt, s1_0, s1_1, s1_2, s1_3, s1_4, s1_5, s1_6, s1_7, s1_8, s1_9, s1_10, s1_11, s1_12, s1_13, s1_14, s1_15, s1_16, s1_17]; done) | (simp [rCnt, s1_0, s1_1, s1_2, s1_3, s1_4, s1_5, s1_6, s1_7, s1_8, s1_9, s1_10, s1_11, s1_12, s1_13, s1_14, s1_15, s1_16, s1_17]; rfl)) dX8_count_198
  rcases Decidable.em (w = 18) with s1_18 | s1_18
  · refine x_v (w := .int 18) (by rw [s1_18]) ?_
    refine x_tableIn C 196 dX8_count_1 (by decide) (by decide) rfl rfl ?_
    refine x_ldc C (-1000001) m_180 dX8_count_196 ?_
    exact x_iret C Z rfl rfl (by first | (simp only [rCnt, if_neg s1_0, if_neg s1_1, if_neg s1_2, if_neg s1_3, if_neg s1_4, if_neg s1_5, if_neg s1_6, if_neg s1_7, if_neg s1_8, if_neg s1_9, if_neg s1_10, if_neg s1_11, if_neg s1_12, if_neg s1_13, if_neg s1_14, if_neg s1_15, if_neg s1_16, if_neg s1_17, if_pos s1_18, eq_self, Bool.false_eq_true, if_true, if_false]; done) | ((simp only [rCnt, if_neg s1_0, if_neg s1_1, if_neg s1_2, if_neg s1_3, if_neg s1_4, if_neg s1_5, if_neg s1_6, if_neg s1_7, if_neg s1_8, if_neg s1_9, if_neg s1_10, if_neg s1_11, if_neg s1_12, if_neg s1_13, if_neg s1_14, if_neg s1_15, if_neg s1_16, if_neg s1_17, if_pos s1_18, eq_self, Bool.false_eq_true, if_true, if_false]); rfl) | (simp [rCnt, s1_0, s1_1, s1_2, s1_3, s1_4, s1_5, s1_6, s1_7, s1_8, s1_9, s1_10, s1_11, s1_12, s1_13, s1_14, s1_15, s1_16, s1_17, s1_18]; done) | (simp [rCnt, s1_0, s1_1, s1_2, s1_3, s1_4, s1_5, s1_6, s1_7, s1_8, s1_9, s1_10, s1_11, s1_12, s1_13, s1_14, s1_15, s1_16, s1_17, s1_18]; rfl)) (by first | (simp only [rCnt, if_neg s1_0, if_neg s1_1, if_neg s1_2, if_neg s1_3, if_neg s1_4, if_neg s1_5, if_neg s1_6, if_neg s1_7, if_neg s1_8, if_neg s1_9, if_neg s1_10, if_neg s1_11, if_neg s1_12, if_neg s1_13, if_neg s1_14, if_neg s1_15, if_neg s1_16, if_neg s1_17, if_pos s1_18, eq_self, Bool.false_eq_true, if_true, if_false]; done) | ((simp only [rCnt, if_neg s1_0, if_neg s1_1, if_neg s1_2, if_neg s1_3, if_neg s1_4, if_neg s1_5, if_neg s1_6, if_neg s1_7, if_neg s1_8, if_neg s1_9, if_neg s1_10, if_neg s1_11, if_neg s1_12, if_neg s1_13, if_neg s1_14, if_neg s1_15, if_neg s1_16, if_neg s1_17, if_pos s1_18, eq_self, Bool.false_eq_true, if_true, if_false]); rfl) | (simp [rCnt, s1_0, s1_1, s1_2, s1_3, s1_4, s1_5, s1_6, s1_7, s1_8, s1_9, s1_10, s1_11, s1_12, s1_13, s1_14, s1_15, s1_16, s1_17, s1_18]; done) | (simp [rCnt, s1_0, s1_1, s1_2, s1_3, s1_4, s1_5, s1_6, s1_7, s1_8, s1_9, s1_10, s1_11, s1_12, s1_13, s1_14, s1_15, s1_16, s1_17, s1_18]; rfl)) dX8_count_198
  rcases Decidable.em (w = 19) with s1_19 | s1_19
  · refine x_v (w := .int 19) (by rw [s1_19]) ?_
    refine x_tableIn C 196 dX8_count_1 (by decide) (by decide) rfl rfl ?_
    refine x_ldc C (-1000001) m_180 dX8_count_196 ?_
    exact x_iret C Z rfl rfl (by first | (simp only [rCnt, if_neg s1_0, if_neg s1_1, if_neg s1_2, if_neg s1_3, if_neg s1_4, if_neg s1_5, if_neg s1_6, if_neg s1_7, if_neg s1_8, if_neg s1_9, if_neg s1_10, if_neg s1_11, if_neg s1_12, if_neg s1_13, if_neg s1_14, if_neg s1_15, if_neg s1_16, if_neg s1_17, if_neg s1_18, if_pos s1_19, eq_self, Bool.false_eq_true, if_true, if_false]; done) | ((simp only [rCnt, if_neg s1_0, if_neg s1_1, if_neg s1_2, if_neg s1_3, if_neg s1_4, if_neg s1_5, if_neg s1_6, if_neg s1_7, if_neg s1_8, if_neg s1_9, if_neg s1_10, if_neg s1_11, if_neg s1_12, if_neg s1_13, if_neg s1_14, if_neg s1_15, if_neg s1_16, if_neg s1_17, if_neg s1_18, if_pos s1_19, eq_self, Bool.false_eq_true, if_true, if_false]); rfl) | (simp [rCnt, s1_0, s1_1, s1_2, s1_3, s1_4, s1_5, s1_6, s1_7, s1_8, s1_9, s1_10, s1_11, s1_12, s1_13, s1_14, s1_15, s1_16, s1_17, s1_18, s1_19]; done) | (simp [rCnt, s1_0, s1_1, s1_2, s1_3, s1_4, s1_5, s1_6, s1_7, s1_8, s1_9, s1_10, s1_11, s1_12, s1_13, s1_14, s1_15, s1_16, s1_17, s1_18, s1_19]; rfl)) (by first | (simp only [rCnt, if_neg s1_0, if_neg s1_1, if_neg s1_2, if_neg s1_3, if_neg s1_4, if_neg s1_5, if_neg s1_6, if_neg s1_7, if_neg s1_8, if_neg s1_9, if_neg s1_10, if_neg s1_11, if_neg s1_12, if_neg s1_13, if_neg s1_14, if_neg s1_15, if_neg s1_16, if_neg s1_17, if_neg s1_18, if_pos s1_19, eq_self, Bool.false_eq_true, if_true, if_false]; done) | ((simp only [rCnt, if_neg s1_0, if_neg s1_1, if_neg s1_2, if_neg s1_3, if_neg s1_4, if_neg s1_5, if_neg s1_6, if_neg s1_7, if_neg s1_8, if_neg s1_9, if_neg s1_10, if_neg s1_11, if_neg s1_12, if_neg s1_13, if_neg s1_14, if_neg s1_15, if_neg s1_16, if_neg s1_17, if_neg s1_18, if_pos s1_19, eq_self, Bool.false_eq_true, if_true, if_false]); rfl) | (simp [rCnt, s1_0, s1_1, s1_2, s1_3, s1_4, s1_5, s1_6, s1_7, s1_8, s1_9, s1_10, s1_11, s1_12, s1_13, s1_14, s1_15, s1_16, s1_17, s1_18, s1_19]; done) | (simp [rCnt, s1_0, s1_1, s1_2, s1_3, s1_4, s1_5, s1_6, s1_7, s1_8, s1_9, s1_10, s1_11, s1_12, s1_13, s1_14, s1_15, s1_16, s1_17, s1_18, s1_19]; rfl)) dX8_count_198
  rcases Decidable.em (w = 20) with s1_20 | s1_20
  · refine x_v (w := .int 20) (by rw [s1_20]) ?_
    refine x_tableIn C 180 dX8_count_1 (by decide) (by decide) rfl rfl ?_
    refine x_aload_n C dX8_count_180 0 rfl ?_
    refine x_get C (xlo (i := 0) hb_ob) (xhi (i := 0) hn_ob rfl) (ov_at (i := 0) rfl) f_X8_10 rfl dX8_count_181 ?_
    refine x_get C (xlo (i := 1) hb_ob) (xhi (i := 1) hn_ob rfl) (ov_at (i := 1) rfl) f_X8_198 rfl dX8_count_184 ?_
    exact x_iret C Z rfl rfl (by first | (simp only [rCnt, if_neg s1_0, if_neg s1_1, if_neg s1_2, if_neg s1_3, if_neg s1_4, if_neg s1_5, if_neg s1_6, if_neg s1_7, if_neg s1_8, if_neg s1_9, if_neg s1_10, if_neg s1_11, if_neg s1_12, if_neg s1_13, if_neg s1_14, if_neg s1_15, if_neg s1_16, if_neg s1_17, if_neg s1_18, if_neg s1_19, if_pos s1_20, eq_self, Bool.false_eq_true, if_true, if_false]; done) | ((simp only [rCnt, if_neg s1_0, if_neg s1_1, if_neg s1_2, if_neg s1_3, if_neg s1_4, if_neg s1_5, if_neg s1_6, if_neg s1_7, if_neg s1_8, if_neg s1_9, if_neg s1_10, if_neg s1_11, if_neg s1_12, if_neg s1_13, if_neg s1_14, if_neg s1_15, if_neg s1_16, if_neg s1_17, if_neg s1_18, if_neg s1_19, if_pos s1_20, eq_self, Bool.false_eq_true, if_true, if_false]); rfl) | (simp [rCnt, s1_0, s1_1, s1_2, s1_3, s1_4, s1_5, s1_6, s1_7, s1_8, s1_9, s1_10, s1_11, s1_12, s1_13, s1_14, s1_15, s1_16, s1_17, s1_18, s1_19, s1_20]; done) | (simp [rCnt, s1_0, s1_1, s1_2, s1_3, s1_4, s1_5, s1_6, s1_7, s1_8, s1_9, s1_10, s1_11, s1_12, s1_13, s1_14, s1_15, s1_16, s1_17, s1_18, s1_19, s1_20]; rfl)) (by first | (simp only [rCnt, if_neg s1_0, if_neg s1_1, if_neg s1_2, if_neg s1_3, if_neg s1_4, if_neg s1_5, if_neg s1_6, if_neg s1_7, if_neg s1_8, if_neg s1_9, if_neg s1_10, if_neg s1_11, if_neg s1_12, if_neg s1_13, if_neg s1_14, if_neg s1_15, if_neg s1_16, if_neg s1_17, if_neg s1_18, if_neg s1_19, if_pos s1_20, eq_self, Bool.false_eq_true, if_true, if_false]; done) | ((simp only [rCnt, if_neg s1_0, if_neg s1_1, if_neg s1_2, if_neg s1_3, if_neg s1_4, if_neg s1_5, if_neg s1_6, if_neg s1_7, if_neg s1_8, if_neg s1_9, if_neg s1_10, if_neg s1_11, if_neg s1_12, if_neg s1_13, if_neg s1_14, if_neg s1_15, if_neg s1_16, if_neg s1_17, if_neg s1_18, if_neg s1_19, if_pos s1_20, eq_self, Bool.false_eq_true, if_true, if_false]); rfl) | (simp [rCnt, s1_0, s1_1, s1_2, s1_3, s1_4, s1_5, s1_6, s1_7, s1_8, s1_9, s1_10, s1_11, s1_12, s1_13, s1_14, s1_15, s1_16, s1_17, s1_18, s1_19, s1_20]; done) | (simp [rCnt, s1_0, s1_1, s1_2, s1_3, s1_4, s1_5, s1_6, s1_7, s1_8, s1_9, s1_10, s1_11, s1_12, s1_13, s1_14, s1_15, s1_16, s1_17, s1_18, s1_19, s1_20]; rfl)) dX8_count_187
  rcases Decidable.em (w = 21) with s1_21 | s1_21
  · refine x_v (w := .int 21) (by rw [s1_21]) ?_
    refine x_tableIn C 188 dX8_count_1 (by decide) (by decide) rfl rfl ?_
    refine x_aload_n C dX8_count_188 0 rfl ?_
    refine x_get C (xlo (i := 0) hb_ob) (xhi (i := 0) hn_ob rfl) (ov_at (i := 0) rfl) f_X8_10 rfl dX8_count_189 ?_
    refine x_get C (xlo (i := 1) hb_ob) (xhi (i := 1) hn_ob rfl) (ov_at (i := 1) rfl) f_X8_221 rfl dX8_count_192 ?_
    exact x_iret C Z rfl rfl (by first | (simp only [rCnt, if_neg s1_0, if_neg s1_1, if_neg s1_2, if_neg s1_3, if_neg s1_4, if_neg s1_5, if_neg s1_6, if_neg s1_7, if_neg s1_8, if_neg s1_9, if_neg s1_10, if_neg s1_11, if_neg s1_12, if_neg s1_13, if_neg s1_14, if_neg s1_15, if_neg s1_16, if_neg s1_17, if_neg s1_18, if_neg s1_19, if_neg s1_20, if_pos s1_21, eq_self, Bool.false_eq_true, if_true, if_false]; done) | ((simp only [rCnt, if_neg s1_0, if_neg s1_1, if_neg s1_2, if_neg s1_3, if_neg s1_4, if_neg s1_5, if_neg s1_6, if_neg s1_7, if_neg s1_8, if_neg s1_9, if_neg s1_10, if_neg s1_11, if_neg s1_12, if_neg s1_13, if_neg s1_14, if_neg s1_15, if_neg s1_16, if_neg s1_17, if_neg s1_18, if_neg s1_19, if_neg s1_20, if_pos s1_21, eq_self, Bool.false_eq_true, if_true, if_false]); rfl) | (simp [rCnt, s1_0, s1_1, s1_2, s1_3, s1_4, s1_5, s1_6, s1_7, s1_8, s1_9, s1_10, s1_11, s1_12, s1_13, s1_14, s1_15, s1_16, s1_17, s1_18, s1_19, s1_20, s1_21]; done) | (simp [rCnt, s1_0, s1_1, s1_2, s1_3, s1_4, s1_5, s1_6, s1_7, s1_8, s1_9, s1_10, s1_11, s1_12, s1_13, s1_14, s1_15, s1_16, s1_17, s1_18, s1_19, s1_20, s1_21]; rfl)) (by first | (simp only [rCnt, if_neg s1_0, if_neg s1_1, if_neg s1_2, if_neg s1_3, if_neg s1_4, if_neg s1_5, if_neg s1_6, if_neg s1_7, if_neg s1_8, if_neg s1_9, if_neg s1_10, if_neg s1_11, if_neg s1_12, if_neg s1_13, if_neg s1_14, if_neg s1_15, if_neg s1_16, if_neg s1_17, if_neg s1_18, if_neg s1_19, if_neg s1_20, if_pos s1_21, eq_self, Bool.false_eq_true, if_true, if_false]; done) | ((simp only [rCnt, if_neg s1_0, if_neg s1_1, if_neg s1_2, if_neg s1_3, if_neg s1_4, if_neg s1_5, if_neg s1_6, if_neg s1_7, if_neg s1_8, if_neg s1_9, if_neg s1_10, if_neg s1_11, if_neg s1_12, if_neg s1_13, if_neg s1_14, if_neg s1_15, if_neg s1_16, if_neg s1_17, if_neg s1_18, if_neg s1_19, if_neg s1_20, if_pos s1_21, eq_self, Bool.false_eq_true, if_true, if_false]); rfl) | (simp [rCnt, s1_0, s1_1, s1_2, s1_3, s1_4, s1_5, s1_6, s1_7, s1_8, s1_9, s1_10, s1_11, s1_12, s1_13, s1_14, s1_15, s1_16, s1_17, s1_18, s1_19, s1_20, s1_21]; done) | (simp [rCnt, s1_0, s1_1, s1_2, s1_3, s1_4, s1_5, s1_6, s1_7, s1_8, s1_9, s1_10, s1_11, s1_12, s1_13, s1_14, s1_15, s1_16, s1_17, s1_18, s1_19, s1_20, s1_21]; rfl)) dX8_count_195
  refine x_tableOut C 196 dX8_count_1 (by have q0 := lv_neT (a := 0) s1_0 rfl; have q1 := lv_neT (a := 1) s1_1 rfl; have q2 := lv_neT (a := 2) s1_2 rfl; have q3 := lv_neT (a := 3) s1_3 rfl; have q4 := lv_neT (a := 4) s1_4 rfl; have q5 := lv_neT (a := 5) s1_5 rfl; have q6 := lv_neT (a := 6) s1_6 rfl; have q7 := lv_neT (a := 7) s1_7 rfl; have q8 := lv_neT (a := 8) s1_8 rfl; have q9 := lv_neT (a := 9) s1_9 rfl; have q10 := lv_neT (a := 10) s1_10 rfl; have q11 := lv_neT (a := 11) s1_11 rfl; have q12 := lv_neT (a := 12) s1_12 rfl; have q13 := lv_neT (a := 13) s1_13 rfl; have q14 := lv_neT (a := 14) s1_14 rfl; have q15 := lv_neT (a := 15) s1_15 rfl; have q16 := lv_neT (a := 16) s1_16 rfl; have q17 := lv_neT (a := 17) s1_17 rfl; have q18 := lv_neT (a := 18) s1_18 rfl; have q19 := lv_neT (a := 19) s1_19 rfl; have q20 := lv_neT (a := 20) s1_20 rfl; have q21 := lv_neT (a := 21) s1_21 rfl; omega) rfl ?_
  refine x_ldc C (-1000001) m_180 dX8_count_196 ?_
  exact x_iret C Z rfl rfl (by first | (simp only [rCnt, if_neg s1_0, if_neg s1_1, if_neg s1_2, if_neg s1_3, if_neg s1_4, if_neg s1_5, if_neg s1_6, if_neg s1_7, if_neg s1_8, if_neg s1_9, if_neg s1_10, if_neg s1_11, if_neg s1_12, if_neg s1_13, if_neg s1_14, if_neg s1_15, if_neg s1_16, if_neg s1_17, if_neg s1_18, if_neg s1_19, if_neg s1_20, if_neg s1_21, eq_self, Bool.false_eq_true, if_true, if_false]; done) | ((simp only [rCnt, if_neg s1_0, if_neg s1_1, if_neg s1_2, if_neg s1_3, if_neg s1_4, if_neg s1_5, if_neg s1_6, if_neg s1_7, if_neg s1_8, if_neg s1_9, if_neg s1_10, if_neg s1_11, if_neg s1_12, if_neg s1_13, if_neg s1_14, if_neg s1_15, if_neg s1_16, if_neg s1_17, if_neg s1_18, if_neg s1_19, if_neg s1_20, if_neg s1_21, eq_self, Bool.false_eq_true, if_true, if_false]); rfl) | (simp [rCnt, s1_0, s1_1, s1_2, s1_3, s1_4, s1_5, s1_6, s1_7, s1_8, s1_9, s1_10, s1_11, s1_12, s1_13, s1_14, s1_15, s1_16, s1_17, s1_18, s1_19, s1_20, s1_21]; done) | (simp [rCnt, s1_0, s1_1, s1_2, s1_3, s1_4, s1_5, s1_6, s1_7, s1_8, s1_9, s1_10, s1_11, s1_12, s1_13, s1_14, s1_15, s1_16, s1_17, s1_18, s1_19, s1_20, s1_21]; rfl)) (by first | (simp only [rCnt, if_neg s1_0, if_neg s1_1, if_neg s1_2, if_neg s1_3, if_neg s1_4, if_neg s1_5, if_neg s1_6, if_neg s1_7, if_neg s1_8, if_neg s1_9, if_neg s1_10, if_neg s1_11, if_neg s1_12, if_neg s1_13, if_neg s1_14, if_neg s1_15, if_neg s1_16, if_neg s1_17, if_neg s1_18, if_neg s1_19, if_neg s1_20, if_neg s1_21, eq_self, Bool.false_eq_true, if_true, if_false]; done) | ((simp only [rCnt, if_neg s1_0, if_neg s1_1, if_neg s1_2, if_neg s1_3, if_neg s1_4, if_neg s1_5, if_neg s1_6, if_neg s1_7, if_neg s1_8, if_neg s1_9, if_neg s1_10, if_neg s1_11, if_neg s1_12, if_neg s1_13, if_neg s1_14, if_neg s1_15, if_neg s1_16, if_neg s1_17, if_neg s1_18, if_neg s1_19, if_neg s1_20, if_neg s1_21, eq_self, Bool.false_eq_true, if_true, if_false]); rfl) | (simp [rCnt, s1_0, s1_1, s1_2, s1_3, s1_4, s1_5, s1_6, s1_7, s1_8, s1_9, s1_10, s1_11, s1_12, s1_13, s1_14, s1_15, s1_16, s1_17, s1_18, s1_19, s1_20, s1_21]; done) | (simp [rCnt, s1_0, s1_1, s1_2, s1_3, s1_4, s1_5, s1_6, s1_7, s1_8, s1_9, s1_10, s1_11, s1_12, s1_13, s1_14, s1_15, s1_16, s1_17, s1_18, s1_19, s1_20, s1_21]; rfl)) dX8_count_198

set_option maxRecDepth 100000 in
set_option maxHeartbeats 4000000 in
theorem c_X8_undo (E : XE) (N ob : Nat) (G : GW) (u : QV) (hke : ¬ qKe u < 0) (hb_ob : xB E ≤ ob) (hn_ob : ob + 56 ≤ N) : MF E yX8_undo cX8_undo 1 (some .int) 4 124 0 0 [.ref ob] N (ov ob (xC E ob (qNow u) (qTr u) (qH0 u) (qH1 u) (qH2 u) (qH3 u) (qOl u) (qKe u) (qCh u) (qTl u) (qNu u) (qKi u) (qEn u) (qWh u) (qFt u) (qFp u) (qFr u) (qFc u)) G) (some (.int (rUnd u))) (ov ob (xC E ob (qNow (qUnd u)) (qTr (qUnd u)) (qH0 (qUnd u)) (qH1 (qUnd u)) (qH2 (qUnd u)) (qH3 (qUnd u)) (qOl (qUnd u)) (qKe (qUnd u)) (qCh (qUnd u)) (qTl (qUnd u)) (qNu (qUnd u)) (qKi (qUnd u)) (qEn (qUnd u)) (qWh (qUnd u)) (qFt (qUnd u)) (qFp (qUnd u)) (qFr (qUnd u)) (qFc (qUnd u))) G) := by
  refine MF.mk RX8 rfl (by decide +kernel) rfl (fun K C Z hin hN => ?_)
  show XW E K 1 N 0 0 _ 0 [(0, .ref ob)] []
  refine x_aload_n C dX8_undo_0 0 rfl ?_
  refine x_get C (xlo (i := 0) hb_ob) (xhi (i := 0) hn_ob rfl) (ov_at (i := 0) rfl) f_X8_22 rfl dX8_undo_1 ?_
  refine x_get C (xlo (i := 17) hb_ob) (xhi (i := 17) hn_ob rfl) (ov_at (i := 17) rfl) f_X8_219 rfl dX8_undo_4 ?_
  refine x_if_ne C 13 dX8_undo_7 rfl (fun c7 => ?_) (fun c7 => ?_)
  · refine x_aload_n C dX8_undo_13 0 rfl ?_
    refine x_get C (xlo (i := 0) hb_ob) (xhi (i := 0) hn_ob rfl) (ov_at (i := 0) rfl) f_X8_22 rfl dX8_undo_14 ?_
    refine x_aload_n C dX8_undo_17 0 rfl ?_
    refine x_get C (xlo (i := 0) hb_ob) (xhi (i := 0) hn_ob rfl) (ov_at (i := 0) rfl) f_X8_10 rfl dX8_undo_18 ?_
    refine x_cV0 C (c_X1_restoreInto E N ob _ (mkQ (qNow u) (qTr u) (qH0 u) (qH1 u) (qH2 u) (qH3 u) (qOl u) (qKe u) (qCh u) (qTl u) (qNu u) (qKi u) (qEn u) (qWh u) (qFt u) (qFp u) (qFr u) (qFc u)) (pos_of hke c7) hb_ob hn_ob) v_X8_224 hN (xlo (i := 17) hb_ob) (xhi (i := 17) hn_ob rfl) (ov_at (i := 17) rfl) rfl rfl rfl rfl rfl dX8_undo_21 ?_
    refine x_aload_n C dX8_undo_24 0 rfl ?_
    refine x_get C (xlo (i := 0) hb_ob) (xhi (i := 0) hn_ob rfl) (ov_at (i := 0) rfl) f_X8_22 rfl dX8_undo_25 ?_
    refine x_get C (xlo (i := 17) hb_ob) (xhi (i := 17) hn_ob rfl) (ov_at (i := 17) rfl) f_X8_219 rfl dX8_undo_28 ?_
    exact x_iret C Z rfl rfl (by first | (simp only [qUnd, rUnd, if_neg c7, eq_self, Bool.false_eq_true, if_true, if_false]; done) | ((simp only [qUnd, rUnd, if_neg c7, eq_self, Bool.false_eq_true, if_true, if_false]); rfl) | (simp [qUnd, rUnd, c7]; done) | (simp [qUnd, rUnd, c7]; rfl)) (by first | (simp only [qUnd, rUnd, if_neg c7, eq_self, Bool.false_eq_true, if_true, if_false]; done) | ((simp only [qUnd, rUnd, if_neg c7, eq_self, Bool.false_eq_true, if_true, if_false]); rfl) | (simp [qUnd, rUnd, c7]; done) | (simp [qUnd, rUnd, c7]; rfl)) dX8_undo_31
  · refine x_ldc C (-1000002) m_302 dX8_undo_10 ?_
    exact x_iret C Z rfl rfl (by first | (simp only [qUnd, rUnd, if_pos c7, eq_self, Bool.false_eq_true, if_true, if_false]; done) | ((simp only [qUnd, rUnd, if_pos c7, eq_self, Bool.false_eq_true, if_true, if_false]); rfl) | (simp [qUnd, rUnd, c7]; done) | (simp [qUnd, rUnd, c7]; rfl)) (by first | (simp only [qUnd, rUnd, if_pos c7, eq_self, Bool.false_eq_true, if_true, if_false]; done) | ((simp only [qUnd, rUnd, if_pos c7, eq_self, Bool.false_eq_true, if_true, if_false]); rfl) | (simp [qUnd, rUnd, c7]; done) | (simp [qUnd, rUnd, c7]; rfl)) dX8_undo_12

set_option maxRecDepth 100000 in
set_option maxHeartbeats 4000000 in
theorem c_X8_type (E : XE) (N ob : Nat) (G : GW) (u : QV) (x : Int32) (htl : ¬ qTl u < 0) (hb_ob : xB E ≤ ob) (hn_ob : ob + 56 ≤ N) : MF E yX8_type cX8_type 2 (some .int) 1 22 0 0 [.ref ob, .int x] N (ov ob (xC E ob (qNow u) (qTr u) (qH0 u) (qH1 u) (qH2 u) (qH3 u) (qOl u) (qKe u) (qCh u) (qTl u) (qNu u) (qKi u) (qEn u) (qWh u) (qFt u) (qFp u) (qFr u) (qFc u)) G) (some (.int (rTyp u x))) (ov ob (xC E ob (qNow (qTyp u x)) (qTr (qTyp u x)) (qH0 (qTyp u x)) (qH1 (qTyp u x)) (qH2 (qTyp u x)) (qH3 (qTyp u x)) (qOl (qTyp u x)) (qKe (qTyp u x)) (qCh (qTyp u x)) (qTl (qTyp u x)) (qNu (qTyp u x)) (qKi (qTyp u x)) (qEn (qTyp u x)) (qWh (qTyp u x)) (qFt (qTyp u x)) (qFp (qTyp u x)) (qFr (qTyp u x)) (qFc (qTyp u x))) G) := by
  refine MF.mk RX8 rfl (by decide +kernel) rfl (fun K C Z hin hN => ?_)
  show XW E K 2 N 0 0 _ 0 [(0, .ref ob), (1, .int x)] []
  refine x_iload_n C dX8_type_0 1 rfl ?_
  refine x_bipush C 32 dX8_type_1 rfl ?_
  refine x_bipush C 126 dX8_type_3 rfl ?_
  refine x_cS1 C (c_X8_isWithin E N _ x 32 126) v_X8_140 hN rfl rfl rfl rfl dX8_type_5 ?_
  refine x_ifb_ne C 14 dX8_type_8 rfl (fun c8 => ?_) (fun c8 => ?_)
  · refine x_aload_n C dX8_type_14 0 rfl ?_
    refine x_get C (xlo (i := 0) hb_ob) (xhi (i := 0) hn_ob rfl) (ov_at (i := 0) rfl) f_X8_29 rfl dX8_type_15 ?_
    refine x_get C (xlo (i := 51) hb_ob) (xhi (i := 51) hn_ob rfl) (ov_at (i := 51) rfl) f_X8_220 rfl dX8_type_18 ?_
    refine x_bipush C 60 dX8_type_21 rfl ?_
    refine x_icmp_lt C 29 dX8_type_23 rfl (fun c23 => ?_) (fun c23 => ?_)
    · refine x_aload_n C dX8_type_29 0 rfl ?_
      refine x_get C (xlo (i := 0) hb_ob) (xhi (i := 0) hn_ob rfl) (ov_at (i := 0) rfl) f_X8_29 rfl dX8_type_30 ?_
      refine x_iload_n C dX8_type_33 1 rfl ?_
      refine x_cV0 C (MF.slice (i := 51) (n := 2) (cs' := xC E ob (qNow u) (qTr u) (qH0 u) (qH1 u) (qH2 u) (qH3 u) (qOl u) (qKe u) (upd (qCh u) (qTl u).toNatClampNeg x) ((qTl u) + 1) (qNu u) (qKi u) (qEn u) (qWh u) (qFt u) (qFp u) (qFr u) (qFc u)) rfl rfl (Nat.le_of_ble_eq_true rfl) rfl (c_X7_append E N (ob + 51) _ (qCh u) (qTl u) x htl c23 (xlo (i := 51) hb_ob) (xhn (i := 51) (n := 2) hn_ob rfl))) v_X8_228 hN (xlo (i := 51) hb_ob) (xhi (i := 51) hn_ob rfl) (ov_at (i := 51) rfl) rfl rfl rfl rfl rfl dX8_type_34 ?_
      refine x_aload_n C dX8_type_37 0 rfl ?_
      refine x_get C (xlo (i := 0) hb_ob) (xhi (i := 0) hn_ob rfl) (ov_at (i := 0) rfl) f_X8_29 rfl dX8_type_38 ?_
      refine x_get C (xlo (i := 51) hb_ob) (xhi (i := 51) hn_ob rfl) (ov_at (i := 51) rfl) f_X8_220 rfl dX8_type_41 ?_
      exact x_iret C Z rfl rfl (by first | (simp only [qTyp, rTyp, c8, if_pos c23, eq_self, Bool.false_eq_true, if_true, if_false]; done) | ((simp only [qTyp, rTyp, c8, if_pos c23, eq_self, Bool.false_eq_true, if_true, if_false]); rfl) | (simp [qTyp, rTyp, c8, c23]; done) | (simp [qTyp, rTyp, c8, c23]; rfl)) (by first | (simp only [qTyp, rTyp, c8, if_pos c23, eq_self, Bool.false_eq_true, if_true, if_false]; done) | ((simp only [qTyp, rTyp, c8, if_pos c23, eq_self, Bool.false_eq_true, if_true, if_false]); rfl) | (simp [qTyp, rTyp, c8, c23]; done) | (simp [qTyp, rTyp, c8, c23]; rfl)) dX8_type_44
    · refine x_ldc C (-1000003) m_326 dX8_type_26 ?_
      exact x_iret C Z rfl rfl (by first | (simp only [qTyp, rTyp, c8, if_neg c23, eq_self, Bool.false_eq_true, if_true, if_false]; done) | ((simp only [qTyp, rTyp, c8, if_neg c23, eq_self, Bool.false_eq_true, if_true, if_false]); rfl) | (simp [qTyp, rTyp, c8, c23]; done) | (simp [qTyp, rTyp, c8, c23]; rfl)) (by first | (simp only [qTyp, rTyp, c8, if_neg c23, eq_self, Bool.false_eq_true, if_true, if_false]; done) | ((simp only [qTyp, rTyp, c8, if_neg c23, eq_self, Bool.false_eq_true, if_true, if_false]); rfl) | (simp [qTyp, rTyp, c8, c23]; done) | (simp [qTyp, rTyp, c8, c23]; rfl)) dX8_type_28
  · refine x_ldc C (-1000001) m_180 dX8_type_11 ?_
    exact x_iret C Z rfl rfl (by first | (simp only [qTyp, rTyp, c8, eq_self, Bool.false_eq_true, if_true, if_false]; done) | ((simp only [qTyp, rTyp, c8, eq_self, Bool.false_eq_true, if_true, if_false]); rfl) | (simp [qTyp, rTyp, c8]; done) | (simp [qTyp, rTyp, c8]; rfl)) (by first | (simp only [qTyp, rTyp, c8, eq_self, Bool.false_eq_true, if_true, if_false]; done) | ((simp only [qTyp, rTyp, c8, eq_self, Bool.false_eq_true, if_true, if_false]); rfl) | (simp [qTyp, rTyp, c8]; done) | (simp [qTyp, rTyp, c8]; rfl)) dX8_type_13

set_option maxRecDepth 100000 in
set_option maxHeartbeats 4000000 in
theorem c_X8_clearText (E : XE) (N ob : Nat) (G : GW) (u : QV) (hb_ob : xB E ≤ ob) (hn_ob : ob + 56 ≤ N) : MF E yX8_clearText cX8_clearText 2 (some .int) 0 0 0 0 [.ref ob] N (ov ob (xC E ob (qNow u) (qTr u) (qH0 u) (qH1 u) (qH2 u) (qH3 u) (qOl u) (qKe u) (qCh u) (qTl u) (qNu u) (qKi u) (qEn u) (qWh u) (qFt u) (qFp u) (qFr u) (qFc u)) G) (some (.int (qTl u))) (ov ob (xC E ob (qNow (qTxt u (qCh u) 0)) (qTr (qTxt u (qCh u) 0)) (qH0 (qTxt u (qCh u) 0)) (qH1 (qTxt u (qCh u) 0)) (qH2 (qTxt u (qCh u) 0)) (qH3 (qTxt u (qCh u) 0)) (qOl (qTxt u (qCh u) 0)) (qKe (qTxt u (qCh u) 0)) (qCh (qTxt u (qCh u) 0)) (qTl (qTxt u (qCh u) 0)) (qNu (qTxt u (qCh u) 0)) (qKi (qTxt u (qCh u) 0)) (qEn (qTxt u (qCh u) 0)) (qWh (qTxt u (qCh u) 0)) (qFt (qTxt u (qCh u) 0)) (qFp (qTxt u (qCh u) 0)) (qFr (qTxt u (qCh u) 0)) (qFc (qTxt u (qCh u) 0))) G) := by
  refine MF.mk RX8 rfl (by decide +kernel) rfl (fun K C Z hin hN => ?_)
  show XW E K 2 N 0 0 _ 0 [(0, .ref ob)] []
  refine x_aload_n C dX8_clearText_0 0 rfl ?_
  refine x_get C (xlo (i := 0) hb_ob) (xhi (i := 0) hn_ob rfl) (ov_at (i := 0) rfl) f_X8_29 rfl dX8_clearText_1 ?_
  refine x_get C (xlo (i := 51) hb_ob) (xhi (i := 51) hn_ob rfl) (ov_at (i := 51) rfl) f_X8_220 rfl dX8_clearText_4 ?_
  refine x_istore_n (L' := [(1, .int (qTl u)), (0, .ref ob)]) C dX8_clearText_7 rfl rfl ?_
  refine x_aload_n C dX8_clearText_8 1 rfl ?_
  refine x_get C (xlo (i := 0) hb_ob) (xhi (i := 0) hn_ob rfl) (ov_at (i := 0) rfl) f_X8_29 rfl dX8_clearText_9 ?_
  refine x_iconst C 0 dX8_clearText_12 rfl ?_
  refine x_put (G' := ov ob (xC E ob (qNow u) (qTr u) (qH0 u) (qH1 u) (qH2 u) (qH3 u) (qOl u) (qKe u) (qCh u) 0 (qNu u) (qKi u) (qEn u) (qWh u) (qFt u) (qFp u) (qFr u) (qFc u)) G) C (xlo (i := 51) hb_ob) (xhi (i := 51) hn_ob rfl) (ov_at (i := 51) rfl) f_X8_220 xt_X7 rfl rfl rfl rfl (ov_set (i := 51) rfl rfl) dX8_clearText_13 ?_
  refine x_iload_n C dX8_clearText_16 0 rfl ?_
  exact x_iret C Z rfl rfl rfl rfl dX8_clearText_17

set_option maxRecDepth 100000 in
set_option maxHeartbeats 4000000 in
theorem c_X8_echo (E : XE) (N ob : Nat) (G : GW) (u : QV) (x a : Int32) (hb_ob : xB E ≤ ob) (hn_ob : ob + 56 ≤ N) : MF E yX8_echo cX8_echo 5 (some .int) 4 102 0 0 [.ref ob, .int x, .int a] N (ov ob (xC E ob (qNow u) (qTr u) (qH0 u) (qH1 u) (qH2 u) (qH3 u) (qOl u) (qKe u) (qCh u) (qTl u) (qNu u) (qKi u) (qEn u) (qWh u) (qFt u) (qFp u) (qFr u) (qFc u)) G) (some (.int (rEch u x a))) (ov ob (xC E ob (qNow (qEch u x a)) (qTr (qEch u x a)) (qH0 (qEch u x a)) (qH1 (qEch u x a)) (qH2 (qEch u x a)) (qH3 (qEch u x a)) (qOl (qEch u x a)) (qKe (qEch u x a)) (qCh (qEch u x a)) (qTl (qEch u x a)) (qNu (qEch u x a)) (qKi (qEch u x a)) (qEn (qEch u x a)) (qWh (qEch u x a)) (qFt (qEch u x a)) (qFp (qEch u x a)) (qFr (qEch u x a)) (qFc (qEch u x a))) G) := by
  refine MF.mk RX8 rfl (by decide +kernel) rfl (fun K C Z hin hN => ?_)
  show XW E K 5 N 0 0 _ 0 [(0, .ref ob), (1, .int x), (2, .int a)] []
  refine x_iload_n C dX8_echo_0 1 rfl ?_
  refine x_cS1 C (c_X8_isSample E N _ x) v_X8_178 hN rfl rfl rfl rfl dX8_echo_1 ?_
  refine x_ifb_eq C 18 dX8_echo_4 rfl (fun c4 => ?_) (fun c4 => ?_)
  · refine x_ldc C (-1000001) m_180 dX8_echo_18 ?_
    exact x_iret C Z rfl rfl (by first | (simp only [qEch, rEch, c4, eq_self, Bool.false_eq_true, if_true, if_false]; done) | ((simp only [qEch, rEch, c4, eq_self, Bool.false_eq_true, if_true, if_false]); rfl) | (simp [qEch, rEch, c4]; done) | (simp [qEch, rEch, c4]; rfl)) (by first | (simp only [qEch, rEch, c4, eq_self, Bool.false_eq_true, if_true, if_false]; done) | ((simp only [qEch, rEch, c4, eq_self, Bool.false_eq_true, if_true, if_false]); rfl) | (simp [qEch, rEch, c4]; done) | (simp [qEch, rEch, c4]; rfl)) dX8_echo_20
  · refine x_iload_n C dX8_echo_7 2 rfl ?_
    refine x_iconst C 0 dX8_echo_8 rfl ?_
    refine x_sipush C 200 dX8_echo_9 rfl ?_
    refine x_cS1 C (c_X8_isWithin E N _ a 0 200) v_X8_140 hN rfl rfl rfl rfl dX8_echo_12 ?_
    refine x_ifb_ne C 21 dX8_echo_15 rfl (fun c15 => ?_) (fun c15 => ?_)
    · obtain ⟨k, hk, rfl⟩ : ∃ k : Nat, k ≤ 200 ∧ a = nI k := ⟨_, (inR_k (by decide) (by decide) c15).2, (inR_k (n := 200) (by decide) (by decide) c15).1⟩
      have q9kc : (nI k).toNatClampNeg = k := nI_clamp (by omega)
      refine x_aload_n C dX8_echo_21 0 rfl ?_
      refine x_get C (xlo (i := 0) hb_ob) (xhi (i := 0) hn_ob rfl) (ov_at (i := 0) rfl) f_X8_16 rfl dX8_echo_22 ?_
      refine x_aload_n C dX8_echo_25 0 rfl ?_
      refine x_get C (xlo (i := 0) hb_ob) (xhi (i := 0) hn_ob rfl) (ov_at (i := 0) rfl) f_X8_10 rfl dX8_echo_26 ?_
      refine x_cV0 C (MF.slice2s (i := 9) (j := 1) (n := 8) (k := 8) (cs' := xC E ob (qNow u) (sCpy (qTr u) (qNow u)) (qH0 u) (qH1 u) (qH2 u) (qH3 u) (qOl u) (qKe u) (qCh u) (qTl u) (qNu u) (qKi u) (qEn u) (qWh u) (qFt u) (qFp u) (qFr u) (qFc u)) rfl rfl rfl (Nat.le_of_ble_eq_true rfl) rfl (c_X6_takeOver E N (ob + 9) (ob + 1) _ (qTr u) (qNow u) (xlo (i := 9) hb_ob) (xhn (i := 9) (n := 8) hn_ob rfl) (xlo (i := 1) hb_ob) (xhn (i := 1) (n := 8) hn_ob rfl) (by omega))) v_X8_181 hN (xlo (i := 9) hb_ob) (xhi (i := 9) hn_ob rfl) (ov_at (i := 9) rfl) rfl rfl rfl rfl rfl dX8_echo_29 ?_
      refine x_aload_n C dX8_echo_32 0 rfl ?_
      refine x_get C (xlo (i := 0) hb_ob) (xhi (i := 0) hn_ob rfl) (ov_at (i := 0) rfl) f_X8_16 rfl dX8_echo_33 ?_
      refine x_get C (xlo (i := 9) hb_ob) (xhi (i := 9) hn_ob rfl) (ov_at (i := 9) rfl) f_X8_105 rfl dX8_echo_36 ?_
      refine x_cV0 C (MF.slice (i := 10) (n := 2) (cs' := xC E ob (qNow u) (mkS (fillI (vW (sCpy (qTr u) (qNow u))) 0 64) (vFi (sCpy (qTr u) (qNow u))) (vLe (sCpy (qTr u) (qNow u))) (vRo (sCpy (qTr u) (qNow u))) (vNe (sCpy (qTr u) (qNow u))) (vKe (sCpy (qTr u) (qNow u))) (vSa (sCpy (qTr u) (qNow u))) (vGr (sCpy (qTr u) (qNow u))) (vHo (sCpy (qTr u) (qNow u))) (vHw (sCpy (qTr u) (qNow u))) (vSu (sCpy (qTr u) (qNow u))) (vDe (sCpy (qTr u) (qNow u))) (vGa (sCpy (qTr u) (qNow u))) (vLi (sCpy (qTr u) (qNow u))) (vSh (sCpy (qTr u) (qNow u))) (vSl (sCpy (qTr u) (qNow u)))) (qH0 u) (qH1 u) (qH2 u) (qH3 u) (qOl u) (qKe u) (qCh u) (qTl u) (qNu u) (qKi u) (qEn u) (qWh u) (qFt u) (qFp u) (qFr u) (qFc u)) rfl rfl (Nat.le_of_ble_eq_true rfl) rfl (c_X5_fillWithZeros E N (ob + 10) _ (vW (sCpy (qTr u) (qNow u))) (vFi (sCpy (qTr u) (qNow u))) (vLe (sCpy (qTr u) (qNow u))) (xlo (i := 10) hb_ob) (xhn (i := 10) (n := 2) hn_ob rfl))) v_X8_184 hN (xlo (i := 10) hb_ob) (xhi (i := 10) hn_ob rfl) (ov_at (i := 10) rfl) rfl rfl rfl rfl rfl dX8_echo_39 ?_
      refine x_aload_n C dX8_echo_42 0 rfl ?_
      refine x_get C (xlo (i := 0) hb_ob) (xhi (i := 0) hn_ob rfl) (ov_at (i := 0) rfl) f_X8_16 rfl dX8_echo_43 ?_
      refine x_iload_n C dX8_echo_46 1 rfl ?_
      refine x_cV1 C (MF.slice (i := 9) (n := 8) (cs' := xC E ob (qNow u) (sLet (mkS (fillI (vW (sCpy (qTr u) (qNow u))) 0 64) (vFi (sCpy (qTr u) (qNow u))) (vLe (sCpy (qTr u) (qNow u))) (vRo (sCpy (qTr u) (qNow u))) (vNe (sCpy (qTr u) (qNow u))) (vKe (sCpy (qTr u) (qNow u))) (vSa (sCpy (qTr u) (qNow u))) (vGr (sCpy (qTr u) (qNow u))) (vHo (sCpy (qTr u) (qNow u))) (vHw (sCpy (qTr u) (qNow u))) (vSu (sCpy (qTr u) (qNow u))) (vDe (sCpy (qTr u) (qNow u))) (vGa (sCpy (qTr u) (qNow u))) (vLi (sCpy (qTr u) (qNow u))) (vSh (sCpy (qTr u) (qNow u))) (vSl (sCpy (qTr u) (qNow u)))) x) (qH0 u) (qH1 u) (qH2 u) (qH3 u) (qOl u) (qKe u) (qCh u) (qTl u) (qNu u) (qKi u) (qEn u) (qWh u) (qFt u) (qFp u) (qFr u) (qFc u)) rfl rfl (Nat.le_of_ble_eq_true rfl) rfl (c_X6_letThrough E N (ob + 9) _ (mkS (fillI (vW (sCpy (qTr u) (qNow u))) 0 64) (vFi (sCpy (qTr u) (qNow u))) (vLe (sCpy (qTr u) (qNow u))) (vRo (sCpy (qTr u) (qNow u))) (vNe (sCpy (qTr u) (qNow u))) (vKe (sCpy (qTr u) (qNow u))) (vSa (sCpy (qTr u) (qNow u))) (vGr (sCpy (qTr u) (qNow u))) (vHo (sCpy (qTr u) (qNow u))) (vHw (sCpy (qTr u) (qNow u))) (vSu (sCpy (qTr u) (qNow u))) (vDe (sCpy (qTr u) (qNow u))) (vGa (sCpy (qTr u) (qNow u))) (vLi (sCpy (qTr u) (qNow u))) (vSh (sCpy (qTr u) (qNow u))) (vSl (sCpy (qTr u) (qNow u)))) x (xlo (i := 9) hb_ob) (xhn (i := 9) (n := 8) hn_ob rfl))) v_X8_55 hN (xlo (i := 9) hb_ob) (xhi (i := 9) hn_ob rfl) (ov_at (i := 9) rfl) rfl rfl rfl rfl rfl dX8_echo_47 ?_
      refine x_istore_n (L' := [(3, .int (sOut (mkS (fillI (vW (sCpy (qTr u) (qNow u))) 0 64) (vFi (sCpy (qTr u) (qNow u))) (vLe (sCpy (qTr u) (qNow u))) (vRo (sCpy (qTr u) (qNow u))) (vNe (sCpy (qTr u) (qNow u))) (vKe (sCpy (qTr u) (qNow u))) (vSa (sCpy (qTr u) (qNow u))) (vGr (sCpy (qTr u) (qNow u))) (vHo (sCpy (qTr u) (qNow u))) (vHw (sCpy (qTr u) (qNow u))) (vSu (sCpy (qTr u) (qNow u))) (vDe (sCpy (qTr u) (qNow u))) (vGa (sCpy (qTr u) (qNow u))) (vLi (sCpy (qTr u) (qNow u))) (vSh (sCpy (qTr u) (qNow u))) (vSl (sCpy (qTr u) (qNow u)))) x)), (0, .ref ob), (1, .int x), (2, .int (nI k))]) C dX8_echo_50 rfl rfl ?_
      refine x_iconst C 0 dX8_echo_51 rfl ?_
      refine x_istore (L' := [(4, .int 0), (3, .int (sOut (mkS (fillI (vW (sCpy (qTr u) (qNow u))) 0 64) (vFi (sCpy (qTr u) (qNow u))) (vLe (sCpy (qTr u) (qNow u))) (vRo (sCpy (qTr u) (qNow u))) (vNe (sCpy (qTr u) (qNow u))) (vKe (sCpy (qTr u) (qNow u))) (vSa (sCpy (qTr u) (qNow u))) (vGr (sCpy (qTr u) (qNow u))) (vHo (sCpy (qTr u) (qNow u))) (vHw (sCpy (qTr u) (qNow u))) (vSu (sCpy (qTr u) (qNow u))) (vDe (sCpy (qTr u) (qNow u))) (vGa (sCpy (qTr u) (qNow u))) (vLi (sCpy (qTr u) (qNow u))) (vSh (sCpy (qTr u) (qNow u))) (vSl (sCpy (qTr u) (qNow u)))) x)), (0, .ref ob), (1, .int x), (2, .int (nI k))]) C dX8_echo_52 rfl rfl ?_
      refine x_perm (L' := [(0, .ref ob), (2, .int (nI k)), (3, .int (sOut (mkS (fillI (vW (sCpy (qTr u) (qNow u))) 0 64) (vFi (sCpy (qTr u) (qNow u))) (vLe (sCpy (qTr u) (qNow u))) (vRo (sCpy (qTr u) (qNow u))) (vNe (sCpy (qTr u) (qNow u))) (vKe (sCpy (qTr u) (qNow u))) (vSa (sCpy (qTr u) (qNow u))) (vGr (sCpy (qTr u) (qNow u))) (vHo (sCpy (qTr u) (qNow u))) (vHw (sCpy (qTr u) (qNow u))) (vSu (sCpy (qTr u) (qNow u))) (vDe (sCpy (qTr u) (qNow u))) (vGa (sCpy (qTr u) (qNow u))) (vLi (sCpy (qTr u) (qNow u))) (vSh (sCpy (qTr u) (qNow u))) (vSl (sCpy (qTr u) (qNow u)))) x)), (4, .int 0)]) [2, 4, 1, 0] rfl ?_
      have lp54 : ∀ (d i : Nat), i + d = k → XW E K 5 N 0 0 (ov ob (xC E ob (qNow u) (eIt (qZer u) x i) (qH0 u) (qH1 u) (qH2 u) (qH3 u) (qOl u) (qKe u) (qCh u) (qTl u) (qNu u) (qKi u) (qEn u) (qWh u) (qFt u) (qFp u) (qFr u) (qFc u)) G) 54 [(0, .ref ob), (2, .int (nI k)), (3, .int (eOu (qZer u) x i)), (4, .int (nI i))] [] := by
        intro d
        induction d with
        | zero =>
          intro i hd
          have q9i : k = i := by omega
          subst q9i
          refine x_iload C dX8_echo_54 3 rfl ?_
          refine x_iload_n C dX8_echo_56 1 rfl ?_
          refine x_icmp_ge C 75 dX8_echo_57 rfl (fun _ => ?_) (fun c => absurd c (not_not_intro (nI_le (by omega) (by omega))))
          refine x_iload_n C dX8_echo_75 2 rfl ?_
          exact x_iret C Z rfl rfl (by first | (simp only [qEch, rEch, q9kc, c4, c15, eq_self, Bool.false_eq_true, if_true, if_false]; done) | ((simp only [qEch, rEch, q9kc, c4, c15, eq_self, Bool.false_eq_true, if_true, if_false]); rfl) | (simp [qEch, rEch, q9kc, c4, c15]; done) | (simp [qEch, rEch, q9kc, c4, c15]; rfl)) (by first | (simp only [qEch, rEch, q9kc, c4, c15, eq_self, Bool.false_eq_true, if_true, if_false]; done) | ((simp only [qEch, rEch, q9kc, c4, c15, eq_self, Bool.false_eq_true, if_true, if_false]); rfl) | (simp [qEch, rEch, q9kc, c4, c15]; done) | (simp [qEch, rEch, q9kc, c4, c15]; rfl)) dX8_echo_76
        | succ d ih =>
          intro i hd
          have hi : i < k := by omega
          refine x_iload C dX8_echo_54 3 rfl ?_
          refine x_iload_n C dX8_echo_56 1 rfl ?_
          refine x_icmp_ge C 75 dX8_echo_57 rfl (fun c => absurd c (nI_ge (by omega) (by omega))) (fun _ => ?_)
          refine x_aload_n C dX8_echo_60 0 rfl ?_
          refine x_get C (xlo (i := 0) hb_ob) (xhi (i := 0) hn_ob rfl) (ov_at (i := 0) rfl) f_X8_16 rfl dX8_echo_61 ?_
          refine x_iconst C 0 dX8_echo_64 rfl ?_
          refine x_cV1 C (MF.slice (i := 9) (n := 8) (cs' := xC E ob (qNow u) (sLet (eIt (qZer u) x i) 0) (qH0 u) (qH1 u) (qH2 u) (qH3 u) (qOl u) (qKe u) (qCh u) (qTl u) (qNu u) (qKi u) (qEn u) (qWh u) (qFt u) (qFp u) (qFr u) (qFc u)) rfl rfl (Nat.le_of_ble_eq_true rfl) rfl (c_X6_letThrough E N (ob + 9) _ (eIt (qZer u) x i) 0 (xlo (i := 9) hb_ob) (xhn (i := 9) (n := 8) hn_ob rfl))) v_X8_55 hN (xlo (i := 9) hb_ob) (xhi (i := 9) hn_ob rfl) (ov_at (i := 9) rfl) rfl rfl rfl rfl rfl dX8_echo_65 ?_
          refine x_istore_n (L' := [(3, .int (sOut (eIt (qZer u) x i) 0)), (0, .ref ob), (2, .int (nI k)), (4, .int (nI i))]) C dX8_echo_68 rfl rfl ?_
          refine x_iinc (L' := [(4, .int ((nI i) + 1)), (3, .int (sOut (eIt (qZer u) x i) 0)), (0, .ref ob), (2, .int (nI k))]) C ((nI i) + 1) dX8_echo_69 3 rfl rfl rfl rfl ?_
          refine x_goto C 54 dX8_echo_72 rfl ?_
          refine x_perm (L' := [(0, .ref ob), (2, .int (nI k)), (3, .int (sOut (eIt (qZer u) x i) 0)), (4, .int ((nI i) + 1))]) [2, 3, 1, 0] rfl ?_
          refine x_to (L' := [(0, .ref ob), (2, .int (nI k)), (3, .int (eOu (qZer u) x (i + 1))), (4, .int (nI (i + 1)))]) (G' := ov ob (xC E ob (qNow u) (eIt (qZer u) x (i + 1)) (qH0 u) (qH1 u) (qH2 u) (qH3 u) (qOl u) (qKe u) (qCh u) (qTl u) (qNu u) (qKi u) (qEn u) (qWh u) (qFt u) (qFp u) (qFr u) (qFc u)) G) (by simp only [nI_succ, eOu]; first | done | rfl) rfl rfl ?_
          exact ih (i + 1) (by omega)
      refine x_to (L' := [(0, .ref ob), (2, .int (nI k)), (3, .int (eOu (qZer u) x 0)), (4, .int (nI 0))]) (G' := ov ob (xC E ob (qNow u) (eIt (qZer u) x 0) (qH0 u) (qH1 u) (qH2 u) (qH3 u) (qOl u) (qKe u) (qCh u) (qTl u) (qNu u) (qKi u) (qEn u) (qWh u) (qFt u) (qFp u) (qFr u) (qFc u)) G) rfl rfl rfl ?_
      exact lp54 _ 0 (Nat.add_sub_cancel' (by omega))
    · refine x_ldc C (-1000001) m_180 dX8_echo_18 ?_
      exact x_iret C Z rfl rfl (by first | (simp only [qEch, rEch, c4, c15, eq_self, Bool.false_eq_true, if_true, if_false]; done) | ((simp only [qEch, rEch, c4, c15, eq_self, Bool.false_eq_true, if_true, if_false]); rfl) | (simp [qEch, rEch, c4, c15]; done) | (simp [qEch, rEch, c4, c15]; rfl)) (by first | (simp only [qEch, rEch, c4, c15, eq_self, Bool.false_eq_true, if_true, if_false]; done) | ((simp only [qEch, rEch, c4, c15, eq_self, Bool.false_eq_true, if_true, if_false]); rfl) | (simp [qEch, rEch, c4, c15]; done) | (simp [qEch, rEch, c4, c15]; rfl)) dX8_echo_20

set_option maxRecDepth 100000 in
set_option maxHeartbeats 4000000 in
theorem c_X8_quietAfter (E : XE) (N ob : Nat) (G : GW) (u : QV) (a : Int32) (l : Nat) (hle : vLe (qNow u) = nI l) (hl : l ≤ 64) (hb_ob : xB E ≤ ob) (hn_ob : ob + 56 ≤ N) : MF E yX8_quietAfter cX8_quietAfter 6 (some .int) 4 102 0 0 [.ref ob, .int a] N (ov ob (xC E ob (qNow u) (qTr u) (qH0 u) (qH1 u) (qH2 u) (qH3 u) (qOl u) (qKe u) (qCh u) (qTl u) (qNu u) (qKi u) (qEn u) (qWh u) (qFt u) (qFp u) (qFr u) (qFc u)) G) (some (.int (rQua u l a))) (ov ob (xC E ob (qNow (qQua u l a)) (qTr (qQua u l a)) (qH0 (qQua u l a)) (qH1 (qQua u l a)) (qH2 (qQua u l a)) (qH3 (qQua u l a)) (qOl (qQua u l a)) (qKe (qQua u l a)) (qCh (qQua u l a)) (qTl (qQua u l a)) (qNu (qQua u l a)) (qKi (qQua u l a)) (qEn (qQua u l a)) (qWh (qQua u l a)) (qFt (qQua u l a)) (qFp (qQua u l a)) (qFr (qQua u l a)) (qFc (qQua u l a))) G) := by
  refine MF.mk RX8 rfl (by decide +kernel) rfl (fun K C Z hin hN => ?_)
  show XW E K 6 N 0 0 _ 0 [(0, .ref ob), (1, .int a)] []
  refine x_iload_n C dX8_quietAfter_0 1 rfl ?_
  refine x_iconst C 0 dX8_quietAfter_1 rfl ?_
  refine x_sipush C 20000 dX8_quietAfter_2 rfl ?_
  refine x_cS1 C (c_X8_isWithin E N _ a 0 20000) v_X8_140 hN rfl rfl rfl rfl dX8_quietAfter_5 ?_
  refine x_ifb_ne C 14 dX8_quietAfter_8 rfl (fun c8 => ?_) (fun c8 => ?_)
  · refine x_aload_n C dX8_quietAfter_14 0 rfl ?_
    refine x_get C (xlo (i := 0) hb_ob) (xhi (i := 0) hn_ob rfl) (ov_at (i := 0) rfl) f_X8_16 rfl dX8_quietAfter_15 ?_
    refine x_aload_n C dX8_quietAfter_18 0 rfl ?_
    refine x_get C (xlo (i := 0) hb_ob) (xhi (i := 0) hn_ob rfl) (ov_at (i := 0) rfl) f_X8_10 rfl dX8_quietAfter_19 ?_
    refine x_cV0 C (MF.slice2s (i := 9) (j := 1) (n := 8) (k := 8) (cs' := xC E ob (qNow u) (sCpy (qTr u) (qNow u)) (qH0 u) (qH1 u) (qH2 u) (qH3 u) (qOl u) (qKe u) (qCh u) (qTl u) (qNu u) (qKi u) (qEn u) (qWh u) (qFt u) (qFp u) (qFr u) (qFc u)) rfl rfl rfl (Nat.le_of_ble_eq_true rfl) rfl (c_X6_takeOver E N (ob + 9) (ob + 1) _ (qTr u) (qNow u) (xlo (i := 9) hb_ob) (xhn (i := 9) (n := 8) hn_ob rfl) (xlo (i := 1) hb_ob) (xhn (i := 1) (n := 8) hn_ob rfl) (by omega))) v_X8_181 hN (xlo (i := 9) hb_ob) (xhi (i := 9) hn_ob rfl) (ov_at (i := 9) rfl) rfl rfl rfl rfl rfl dX8_quietAfter_22 ?_
    refine x_aload_n C dX8_quietAfter_25 0 rfl ?_
    refine x_get C (xlo (i := 0) hb_ob) (xhi (i := 0) hn_ob rfl) (ov_at (i := 0) rfl) f_X8_16 rfl dX8_quietAfter_26 ?_
    refine x_get C (xlo (i := 9) hb_ob) (xhi (i := 9) hn_ob rfl) (ov_at (i := 9) rfl) f_X8_105 rfl dX8_quietAfter_29 ?_
    refine x_iload_n C dX8_quietAfter_32 1 rfl ?_
    refine x_cV1 C (MF.sliceR (i := 10) (n := 2) rfl (c2_X5_wordsAbove E N (ob + 10) _ (vW (sCpy (qTr u) (qNow u))) (vFi (sCpy (qTr u) (qNow u))) (vLe (sCpy (qTr u) (qNow u))) a l hle hl (xlo (i := 10) hb_ob) (xhn (i := 10) (n := 2) hn_ob rfl))) v_X8_187 hN (xlo (i := 10) hb_ob) (xhi (i := 10) hn_ob rfl) (ov_at (i := 10) rfl) rfl rfl rfl rfl rfl dX8_quietAfter_33 ?_
    refine x_istore_n (L' := [(2, .int (cntAb (fun j => rAt (vW (sCpy (qTr u) (qNow u))) (vFi (sCpy (qTr u) (qNow u))) (vLe (sCpy (qTr u) (qNow u))) (nI j)) a l)), (0, .ref ob), (1, .int a)]) C dX8_quietAfter_36 rfl rfl ?_
    refine x_iconst C 0 dX8_quietAfter_37 rfl ?_
    refine x_istore_n (L' := [(3, .int 0), (2, .int (cntAb (fun j => rAt (vW (sCpy (qTr u) (qNow u))) (vFi (sCpy (qTr u) (qNow u))) (vLe (sCpy (qTr u) (qNow u))) (nI j)) a l)), (0, .ref ob), (1, .int a)]) C dX8_quietAfter_38 rfl rfl ?_
    refine x_perm (L' := [(0, .ref ob), (1, .int a), (2, .int (cntAb (fun j => rAt (vW (sCpy (qTr u) (qNow u))) (vFi (sCpy (qTr u) (qNow u))) (vLe (sCpy (qTr u) (qNow u))) (nI j)) a l)), (3, .int 0)]) [2, 3, 1, 0] rfl ?_
    have lp39_1 : ∀ (d i : Nat) (lo1 : Int32) (v1 : SV), i + d = 500 → qaRun a d i lo1 v1 = qaAll u l a → XW E K 6 N 0 0 (ov ob (xC E ob (qNow u) v1 (qH0 u) (qH1 u) (qH2 u) (qH3 u) (qOl u) (qKe u) (qCh u) (qTl u) (qNu u) (qKi u) (qEn u) (qWh u) (qFt u) (qFp u) (qFr u) (qFc u)) G) 39 [(0, .ref ob), (1, .int a), (2, .int lo1), (3, .int (nI i))] [] := by
      intro d
      induction d with
      | zero =>
        intro i lo1 v1 hd hq
        have hi : i = 500 := by omega
        refine x_iload_n C dX8_quietAfter_39 2 rfl ?_
        refine x_if_le C 124 dX8_quietAfter_40 rfl (fun c40 => ?_) (fun c40 => ?_)
        · have q9f : qaAll u l a = (nI i, v1) := by rw [← hq]; first | (simp only [qaRun, c8, if_pos c40]; done) | simp [qaRun, c8, c40]
          refine x_iload_n C dX8_quietAfter_124 2 rfl ?_
          refine x_if_le C 133 dX8_quietAfter_125 rfl (fun _ => ?_) (fun c => absurd c (not_not_intro c40))
          refine x_iload_n C dX8_quietAfter_133 3 rfl ?_
          exact x_iret C Z rfl rfl (by first | (simp only [qQua, rQua, q9f, c8, if_pos c40, eq_self, Bool.false_eq_true, if_true, if_false]; done) | ((simp only [qQua, rQua, q9f, c8, if_pos c40, eq_self, Bool.false_eq_true, if_true, if_false]); rfl) | (simp [qQua, rQua, q9f, c8, c40]; done) | (simp [qQua, rQua, q9f, c8, c40]; rfl)) (by first | (simp only [qQua, rQua, q9f, c8, if_pos c40, eq_self, Bool.false_eq_true, if_true, if_false]; done) | ((simp only [qQua, rQua, q9f, c8, if_pos c40, eq_self, Bool.false_eq_true, if_true, if_false]); rfl) | (simp [qQua, rQua, q9f, c8, c40]; done) | (simp [qQua, rQua, q9f, c8, c40]; rfl)) dX8_quietAfter_134
        · refine x_iload_n C dX8_quietAfter_43 3 rfl ?_
          refine x_sipush C 500 dX8_quietAfter_44 rfl ?_
          refine x_icmp_ge C 124 dX8_quietAfter_47 rfl (fun _ => ?_) (fun c => absurd c (not_not_intro (nI_le (a := 500) (by omega) (by omega))))
          have q9f : qaAll u l a = (-1000004, v1) := by rw [← hq]; first | (simp only [qaRun, c8, if_neg c40]; done) | simp [qaRun, c8, c40]
          refine x_iload_n C dX8_quietAfter_124 2 rfl ?_
          refine x_if_le C 133 dX8_quietAfter_125 rfl (fun c => absurd c c40) (fun _ => ?_)
          refine x_ldc C (-1000004) m_371 dX8_quietAfter_128 ?_
          refine x_goto C 134 dX8_quietAfter_130 rfl ?_
          exact x_iret C Z rfl rfl (by first | (simp only [qQua, rQua, q9f, c8, if_neg c40, eq_self, Bool.false_eq_true, if_true, if_false]; done) | ((simp only [qQua, rQua, q9f, c8, if_neg c40, eq_self, Bool.false_eq_true, if_true, if_false]); rfl) | (simp [qQua, rQua, q9f, c8, c40]; done) | (simp [qQua, rQua, q9f, c8, c40]; rfl)) (by first | (simp only [qQua, rQua, q9f, c8, if_neg c40, eq_self, Bool.false_eq_true, if_true, if_false]; done) | ((simp only [qQua, rQua, q9f, c8, if_neg c40, eq_self, Bool.false_eq_true, if_true, if_false]); rfl) | (simp [qQua, rQua, q9f, c8, c40]; done) | (simp [qQua, rQua, q9f, c8, c40]; rfl)) dX8_quietAfter_134
      | succ d ih =>
        intro i lo1 v1 hd hq
        have hi : i < 500 := by omega
        refine x_iload_n C dX8_quietAfter_39 2 rfl ?_
        refine x_if_le C 124 dX8_quietAfter_40 rfl (fun c40 => ?_) (fun c40 => ?_)
        · have q9f : qaAll u l a = (nI i, v1) := by rw [← hq]; first | (simp only [qaRun, c8, if_pos c40]; done) | simp [qaRun, c8, c40]
          refine x_iload_n C dX8_quietAfter_124 2 rfl ?_
          refine x_if_le C 133 dX8_quietAfter_125 rfl (fun _ => ?_) (fun c => absurd c (not_not_intro c40))
          refine x_iload_n C dX8_quietAfter_133 3 rfl ?_
          exact x_iret C Z rfl rfl (by first | (simp only [qQua, rQua, q9f, c8, if_pos c40, eq_self, Bool.false_eq_true, if_true, if_false]; done) | ((simp only [qQua, rQua, q9f, c8, if_pos c40, eq_self, Bool.false_eq_true, if_true, if_false]); rfl) | (simp [qQua, rQua, q9f, c8, c40]; done) | (simp [qQua, rQua, q9f, c8, c40]; rfl)) (by first | (simp only [qQua, rQua, q9f, c8, if_pos c40, eq_self, Bool.false_eq_true, if_true, if_false]; done) | ((simp only [qQua, rQua, q9f, c8, if_pos c40, eq_self, Bool.false_eq_true, if_true, if_false]); rfl) | (simp [qQua, rQua, q9f, c8, c40]; done) | (simp [qQua, rQua, q9f, c8, c40]; rfl)) dX8_quietAfter_134
        · refine x_iload_n C dX8_quietAfter_43 3 rfl ?_
          refine x_sipush C 500 dX8_quietAfter_44 rfl ?_
          refine x_icmp_ge C 124 dX8_quietAfter_47 rfl (fun c => absurd c (nI_ge (b := 500) (by omega) (by omega))) (fun _ => ?_)
          refine x_aload_n C dX8_quietAfter_50 0 rfl ?_
          refine x_get C (xlo (i := 0) hb_ob) (xhi (i := 0) hn_ob rfl) (ov_at (i := 0) rfl) f_X8_16 rfl dX8_quietAfter_51 ?_
          refine x_get C (xlo (i := 9) hb_ob) (xhi (i := 9) hn_ob rfl) (ov_at (i := 9) rfl) f_X8_105 rfl dX8_quietAfter_54 ?_
          refine x_aload_n C dX8_quietAfter_57 0 rfl ?_
          refine x_get C (xlo (i := 0) hb_ob) (xhi (i := 0) hn_ob rfl) (ov_at (i := 0) rfl) f_X8_16 rfl dX8_quietAfter_58 ?_
          refine x_get C (xlo (i := 9) hb_ob) (xhi (i := 9) hn_ob rfl) (ov_at (i := 9) rfl) f_X8_105 rfl dX8_quietAfter_61 ?_
          refine x_get C (xlo (i := 10) hb_ob) (xhi (i := 10) hn_ob rfl) (ov_at (i := 10) rfl) f_X8_109 rfl dX8_quietAfter_64 ?_
          refine x_iconst C 1 dX8_quietAfter_67 rfl ?_
          refine x_isub C dX8_quietAfter_68 ?_
          refine x_cV1 C (MF.sliceR (i := 10) (n := 2) rfl (c_X5_wordAt E N (ob + 10) _ (vW v1) (vFi v1) (vLe v1) ((vLe v1) - 1) (xlo (i := 10) hb_ob) (xhn (i := 10) (n := 2) hn_ob rfl))) v_X8_151 hN (xlo (i := 10) hb_ob) (xhi (i := 10) hn_ob rfl) (ov_at (i := 10) rfl) rfl rfl rfl rfl rfl dX8_quietAfter_69 ?_
          refine x_istore (L' := [(4, .int (rAt (vW v1) (vFi v1) (vLe v1) ((vLe v1) - 1))), (0, .ref ob), (1, .int a), (2, .int lo1), (3, .int (nI i))]) C dX8_quietAfter_72 rfl rfl ?_
          refine x_aload_n C dX8_quietAfter_74 1 rfl ?_
          refine x_get C (xlo (i := 0) hb_ob) (xhi (i := 0) hn_ob rfl) (ov_at (i := 0) rfl) f_X8_16 rfl dX8_quietAfter_75 ?_
          refine x_iconst C 0 dX8_quietAfter_78 rfl ?_
          refine x_cV1 C (MF.slice (i := 9) (n := 8) (cs' := xC E ob (qNow u) (sFeed v1 0) (qH0 u) (qH1 u) (qH2 u) (qH3 u) (qOl u) (qKe u) (qCh u) (qTl u) (qNu u) (qKi u) (qEn u) (qWh u) (qFt u) (qFp u) (qFr u) (qFc u)) rfl rfl (Nat.le_of_ble_eq_true rfl) rfl (c_X6_feedRing E N (ob + 9) _ v1 0 (xlo (i := 9) hb_ob) (xhn (i := 9) (n := 8) hn_ob rfl))) v_X8_190 hN (xlo (i := 9) hb_ob) (xhi (i := 9) hn_ob rfl) (ov_at (i := 9) rfl) rfl rfl rfl rfl rfl dX8_quietAfter_79 ?_
          refine x_istore (L' := [(5, .int (sWrd v1 0)), (4, .int (rAt (vW v1) (vFi v1) (vLe v1) ((vLe v1) - 1))), (0, .ref ob), (1, .int a), (2, .int lo1), (3, .int (nI i))]) C dX8_quietAfter_82 rfl rfl ?_
          refine x_iload_n C dX8_quietAfter_84 4 rfl ?_
          refine x_iload C dX8_quietAfter_85 1 rfl ?_
          refine x_mabs C m_235 rfl rfl rfl rfl dX8_quietAfter_87 ?_
          refine x_iload_n C dX8_quietAfter_90 3 rfl ?_
          refine x_t_icmp_le C 98 99 1 0 dX8_quietAfter_91 rfl dX8_quietAfter_94 rfl dX8_quietAfter_95 rfl dX8_quietAfter_98 rfl rfl ?_
          refine x_isub C dX8_quietAfter_99 ?_
          refine x_istore_n (L' := [(2, .int (lo1 - (if (iabs (rAt (vW v1) (vFi v1) (vLe v1) ((vLe v1) - 1))) ≤ a then 0 else 1))), (5, .int (sWrd v1 0)), (4, .int (rAt (vW v1) (vFi v1) (vLe v1) ((vLe v1) - 1))), (0, .ref ob), (1, .int a), (3, .int (nI i))]) C dX8_quietAfter_100 rfl rfl ?_
          refine x_iload_n C dX8_quietAfter_101 0 rfl ?_
          refine x_iload C dX8_quietAfter_102 1 rfl ?_
          refine x_mabs C m_235 rfl rfl rfl rfl dX8_quietAfter_104 ?_
          refine x_iload_n C dX8_quietAfter_107 4 rfl ?_
          refine x_t_icmp_le C 115 116 1 0 dX8_quietAfter_108 rfl dX8_quietAfter_111 rfl dX8_quietAfter_112 rfl dX8_quietAfter_115 rfl rfl ?_
          refine x_iadd C dX8_quietAfter_116 ?_
          refine x_istore_n (L' := [(2, .int ((lo1 - (if (iabs (rAt (vW v1) (vFi v1) (vLe v1) ((vLe v1) - 1))) ≤ a then 0 else 1)) + (if (iabs (sWrd v1 0)) ≤ a then 0 else 1))), (5, .int (sWrd v1 0)), (4, .int (rAt (vW v1) (vFi v1) (vLe v1) ((vLe v1) - 1))), (0, .ref ob), (1, .int a), (3, .int (nI i))]) C dX8_quietAfter_117 rfl rfl ?_
          refine x_iinc (L' := [(3, .int ((nI i) + 1)), (2, .int ((lo1 - (if (iabs (rAt (vW v1) (vFi v1) (vLe v1) ((vLe v1) - 1))) ≤ a then 0 else 1)) + (if (iabs (sWrd v1 0)) ≤ a then 0 else 1))), (5, .int (sWrd v1 0)), (4, .int (rAt (vW v1) (vFi v1) (vLe v1) ((vLe v1) - 1))), (0, .ref ob), (1, .int a)]) C ((nI i) + 1) dX8_quietAfter_118 5 rfl rfl rfl rfl ?_
          refine x_goto C 39 dX8_quietAfter_121 rfl ?_
          refine x_perm (L' := [(0, .ref ob), (1, .int a), (2, .int ((lo1 - (if (iabs (rAt (vW v1) (vFi v1) (vLe v1) ((vLe v1) - 1))) ≤ a then 0 else 1)) + (if (iabs (sWrd v1 0)) ≤ a then 0 else 1))), (3, .int ((nI i) + 1))]) [4, 5, 1, 0] rfl ?_
          refine x_to (L' := [(0, .ref ob), (1, .int a), (2, .int ((lo1 - (if (iabs (rAt (vW v1) (vFi v1) (vLe v1) ((vLe v1) - 1))) ≤ a then 0 else 1)) + (if (iabs (sWrd v1 0)) ≤ a then 0 else 1))), (3, .int (nI (i + 1)))]) (G' := ov ob (xC E ob (qNow u) (sFeed v1 0) (qH0 u) (qH1 u) (qH2 u) (qH3 u) (qOl u) (qKe u) (qCh u) (qTl u) (qNu u) (qKi u) (qEn u) (qWh u) (qFt u) (qFp u) (qFr u) (qFc u)) G) (by simp only [nI_succ]) rfl rfl ?_
          exact ih (i + 1) ((lo1 - (if (iabs (rAt (vW v1) (vFi v1) (vLe v1) ((vLe v1) - 1))) ≤ a then 0 else 1)) + (if (iabs (sWrd v1 0)) ≤ a then 0 else 1)) (sFeed v1 0) (by omega) (by rw [← hq]; simp only [qaRun, if_neg c40]; first | done | rfl)
    refine x_to (L' := [(0, .ref ob), (1, .int a), (2, .int (cntAb (fun j => rAt (vW (sCpy (qTr u) (qNow u))) (vFi (sCpy (qTr u) (qNow u))) (vLe (sCpy (qTr u) (qNow u))) (nI j)) a l)), (3, .int (nI 0))]) (G' := ov ob (xC E ob (qNow u) (sCpy (qTr u) (qNow u)) (qH0 u) (qH1 u) (qH2 u) (qH3 u) (qOl u) (qKe u) (qCh u) (qTl u) (qNu u) (qKi u) (qEn u) (qWh u) (qFt u) (qFp u) (qFr u) (qFc u)) G) rfl rfl rfl ?_
    exact lp39_1 _ 0 (cntAb (fun j => rAt (vW (sCpy (qTr u) (qNow u))) (vFi (sCpy (qTr u) (qNow u))) (vLe (sCpy (qTr u) (qNow u))) (nI j)) a l) (sCpy (qTr u) (qNow u)) (Nat.add_sub_cancel' (by omega)) rfl
  · refine x_ldc C (-1000001) m_180 dX8_quietAfter_11 ?_
    exact x_iret C Z rfl rfl (by first | (simp only [qQua, rQua, c8, eq_self, Bool.false_eq_true, if_true, if_false]; done) | ((simp only [qQua, rQua, c8, eq_self, Bool.false_eq_true, if_true, if_false]); rfl) | (simp [qQua, rQua, c8]; done) | (simp [qQua, rQua, c8]; rfl)) (by first | (simp only [qQua, rQua, c8, eq_self, Bool.false_eq_true, if_true, if_false]; done) | ((simp only [qQua, rQua, c8, eq_self, Bool.false_eq_true, if_true, if_false]); rfl) | (simp [qQua, rQua, c8]; done) | (simp [qQua, rQua, c8]; rfl)) dX8_quietAfter_13

set_option maxRecDepth 100000 in
set_option maxHeartbeats 4000000 in
theorem c_X8_wouldBeQuiet (E : XE) (N ob : Nat) (G : GW) (u : QV) (gn : Int32) (n : Nat) (a : Int32) (l : Nat) (hle : vLe (qTr u) = nI l) (hl : l ≤ 64) (hn : n ≤ 1000) (hb_ob : xB E ≤ ob) (hn_ob : ob + 56 ≤ N) : MF E yX8_wouldBeQuiet cX8_wouldBeQuiet 5 (some .boolean) 4 85 0 0 [.ref ob, .int gn, .int (nI n), .int a] N (ov ob (xC E ob (qNow u) (qTr u) (qH0 u) (qH1 u) (qH2 u) (qH3 u) (qOl u) (qKe u) (qCh u) (qTl u) (qNu u) (qKi u) (qEn u) (qWh u) (qFt u) (qFp u) (qFr u) (qFc u)) G) (some (.int (bI (wqB (qTr u) l gn n a)))) (ov ob (xC E ob (qNow (qST u (wqI (qTr u) gn n))) (qTr (qST u (wqI (qTr u) gn n))) (qH0 (qST u (wqI (qTr u) gn n))) (qH1 (qST u (wqI (qTr u) gn n))) (qH2 (qST u (wqI (qTr u) gn n))) (qH3 (qST u (wqI (qTr u) gn n))) (qOl (qST u (wqI (qTr u) gn n))) (qKe (qST u (wqI (qTr u) gn n))) (qCh (qST u (wqI (qTr u) gn n))) (qTl (qST u (wqI (qTr u) gn n))) (qNu (qST u (wqI (qTr u) gn n))) (qKi (qST u (wqI (qTr u) gn n))) (qEn (qST u (wqI (qTr u) gn n))) (qWh (qST u (wqI (qTr u) gn n))) (qFt (qST u (wqI (qTr u) gn n))) (qFp (qST u (wqI (qTr u) gn n))) (qFr (qST u (wqI (qTr u) gn n))) (qFc (qST u (wqI (qTr u) gn n)))) G) := by
  refine MF.mk RX8 rfl (by decide +kernel) rfl (fun K C Z hin hN => ?_)
  show XW E K 5 N 0 0 _ 0 [(0, .ref ob), (1, .int gn), (2, .int (nI n)), (3, .int a)] []
  refine x_aload_n C dX8_wouldBeQuiet_0 0 rfl ?_
  refine x_get C (xlo (i := 0) hb_ob) (xhi (i := 0) hn_ob rfl) (ov_at (i := 0) rfl) f_X8_16 rfl dX8_wouldBeQuiet_1 ?_
  refine x_get C (xlo (i := 9) hb_ob) (xhi (i := 9) hn_ob rfl) (ov_at (i := 9) rfl) f_X8_105 rfl dX8_wouldBeQuiet_4 ?_
  refine x_cV0 C (MF.slice (i := 10) (n := 2) (cs' := xC E ob (qNow u) (mkS (fillI (vW (qTr u)) 0 64) (vFi (qTr u)) (vLe (qTr u)) (vRo (qTr u)) (vNe (qTr u)) (vKe (qTr u)) (vSa (qTr u)) (vGr (qTr u)) (vHo (qTr u)) (vHw (qTr u)) (vSu (qTr u)) (vDe (qTr u)) (vGa (qTr u)) (vLi (qTr u)) (vSh (qTr u)) (vSl (qTr u))) (qH0 u) (qH1 u) (qH2 u) (qH3 u) (qOl u) (qKe u) (qCh u) (qTl u) (qNu u) (qKi u) (qEn u) (qWh u) (qFt u) (qFp u) (qFr u) (qFc u)) rfl rfl (Nat.le_of_ble_eq_true rfl) rfl (c_X5_fillWithZeros E N (ob + 10) _ (vW (qTr u)) (vFi (qTr u)) (vLe (qTr u)) (xlo (i := 10) hb_ob) (xhn (i := 10) (n := 2) hn_ob rfl))) v_X8_184 hN (xlo (i := 10) hb_ob) (xhi (i := 10) hn_ob rfl) (ov_at (i := 10) rfl) rfl rfl rfl rfl rfl dX8_wouldBeQuiet_7 ?_
  refine x_aload_n C dX8_wouldBeQuiet_10 0 rfl ?_
  refine x_get C (xlo (i := 0) hb_ob) (xhi (i := 0) hn_ob rfl) (ov_at (i := 0) rfl) f_X8_16 rfl dX8_wouldBeQuiet_11 ?_
  refine x_iconst C 4 dX8_wouldBeQuiet_14 rfl ?_
  refine x_aload_n C dX8_wouldBeQuiet_15 0 rfl ?_
  refine x_get C (xlo (i := 0) hb_ob) (xhi (i := 0) hn_ob rfl) (ov_at (i := 0) rfl) f_X8_16 rfl dX8_wouldBeQuiet_16 ?_
  refine x_iconst C 4 dX8_wouldBeQuiet_19 rfl ?_
  refine x_cV1 C (MF.sliceR (i := 9) (n := 8) rfl (c_X6_delayOf E N (ob + 9) _ (mkS (fillI (vW (qTr u)) 0 64) (vFi (qTr u)) (vLe (qTr u)) (vRo (qTr u)) (vNe (qTr u)) (vKe (qTr u)) (vSa (qTr u)) (vGr (qTr u)) (vHo (qTr u)) (vHw (qTr u)) (vSu (qTr u)) (vDe (qTr u)) (vGa (qTr u)) (vLi (qTr u)) (vSh (qTr u)) (vSl (qTr u))) 4 (xlo (i := 9) hb_ob) (xhn (i := 9) (n := 8) hn_ob rfl))) v_X8_84 hN (xlo (i := 9) hb_ob) (xhi (i := 9) hn_ob rfl) (ov_at (i := 9) rfl) rfl rfl rfl rfl rfl dX8_wouldBeQuiet_20 ?_
  refine x_iload_n C dX8_wouldBeQuiet_23 1 rfl ?_
  refine x_cV0 C (MF.slice (i := 9) (n := 8) (cs' := xC E ob (qNow u) (sPut (mkS (fillI (vW (qTr u)) 0 64) (vFi (qTr u)) (vLe (qTr u)) (vRo (qTr u)) (vNe (qTr u)) (vKe (qTr u)) (vSa (qTr u)) (vGr (qTr u)) (vHo (qTr u)) (vHw (qTr u)) (vSu (qTr u)) (vDe (qTr u)) (vGa (qTr u)) (vLi (qTr u)) (vSh (qTr u)) (vSl (qTr u))) 4 (sDel (mkS (fillI (vW (qTr u)) 0 64) (vFi (qTr u)) (vLe (qTr u)) (vRo (qTr u)) (vNe (qTr u)) (vKe (qTr u)) (vSa (qTr u)) (vGr (qTr u)) (vHo (qTr u)) (vHw (qTr u)) (vSu (qTr u)) (vDe (qTr u)) (vGa (qTr u)) (vLi (qTr u)) (vSh (qTr u)) (vSl (qTr u))) 4) gn) (qH0 u) (qH1 u) (qH2 u) (qH3 u) (qOl u) (qKe u) (qCh u) (qTl u) (qNu u) (qKi u) (qEn u) (qWh u) (qFt u) (qFp u) (qFr u) (qFc u)) rfl rfl (Nat.le_of_ble_eq_true rfl) rfl (c_X6_putRow E N (ob + 9) _ (mkS (fillI (vW (qTr u)) 0 64) (vFi (qTr u)) (vLe (qTr u)) (vRo (qTr u)) (vNe (qTr u)) (vKe (qTr u)) (vSa (qTr u)) (vGr (qTr u)) (vHo (qTr u)) (vHw (qTr u)) (vSu (qTr u)) (vDe (qTr u)) (vGa (qTr u)) (vLi (qTr u)) (vSh (qTr u)) (vSl (qTr u))) 4 (sDel (mkS (fillI (vW (qTr u)) 0 64) (vFi (qTr u)) (vLe (qTr u)) (vRo (qTr u)) (vNe (qTr u)) (vKe (qTr u)) (vSa (qTr u)) (vGr (qTr u)) (vHo (qTr u)) (vHw (qTr u)) (vSu (qTr u)) (vDe (qTr u)) (vGa (qTr u)) (vLi (qTr u)) (vSh (qTr u)) (vSl (qTr u))) 4) gn (xlo (i := 9) hb_ob) (xhn (i := 9) (n := 8) hn_ob rfl))) v_X8_68 hN (xlo (i := 9) hb_ob) (xhi (i := 9) hn_ob rfl) (ov_at (i := 9) rfl) rfl rfl rfl rfl rfl dX8_wouldBeQuiet_24 ?_
  refine x_aload_n C dX8_wouldBeQuiet_27 0 rfl ?_
  refine x_get C (xlo (i := 0) hb_ob) (xhi (i := 0) hn_ob rfl) (ov_at (i := 0) rfl) f_X8_16 rfl dX8_wouldBeQuiet_28 ?_
  refine x_sipush C 20000 dX8_wouldBeQuiet_31 rfl ?_
  refine x_cV1 C (MF.slice (i := 9) (n := 8) (cs' := xC E ob (qNow u) (sFeed (sPut (mkS (fillI (vW (qTr u)) 0 64) (vFi (qTr u)) (vLe (qTr u)) (vRo (qTr u)) (vNe (qTr u)) (vKe (qTr u)) (vSa (qTr u)) (vGr (qTr u)) (vHo (qTr u)) (vHw (qTr u)) (vSu (qTr u)) (vDe (qTr u)) (vGa (qTr u)) (vLi (qTr u)) (vSh (qTr u)) (vSl (qTr u))) 4 (sDel (mkS (fillI (vW (qTr u)) 0 64) (vFi (qTr u)) (vLe (qTr u)) (vRo (qTr u)) (vNe (qTr u)) (vKe (qTr u)) (vSa (qTr u)) (vGr (qTr u)) (vHo (qTr u)) (vHw (qTr u)) (vSu (qTr u)) (vDe (qTr u)) (vGa (qTr u)) (vLi (qTr u)) (vSh (qTr u)) (vSl (qTr u))) 4) gn) 20000) (qH0 u) (qH1 u) (qH2 u) (qH3 u) (qOl u) (qKe u) (qCh u) (qTl u) (qNu u) (qKi u) (qEn u) (qWh u) (qFt u) (qFp u) (qFr u) (qFc u)) rfl rfl (Nat.le_of_ble_eq_true rfl) rfl (c_X6_feedRing E N (ob + 9) _ (sPut (mkS (fillI (vW (qTr u)) 0 64) (vFi (qTr u)) (vLe (qTr u)) (vRo (qTr u)) (vNe (qTr u)) (vKe (qTr u)) (vSa (qTr u)) (vGr (qTr u)) (vHo (qTr u)) (vHw (qTr u)) (vSu (qTr u)) (vDe (qTr u)) (vGa (qTr u)) (vLi (qTr u)) (vSh (qTr u)) (vSl (qTr u))) 4 (sDel (mkS (fillI (vW (qTr u)) 0 64) (vFi (qTr u)) (vLe (qTr u)) (vRo (qTr u)) (vNe (qTr u)) (vKe (qTr u)) (vSa (qTr u)) (vGr (qTr u)) (vHo (qTr u)) (vHw (qTr u)) (vSu (qTr u)) (vDe (qTr u)) (vGa (qTr u)) (vLi (qTr u)) (vSh (qTr u)) (vSl (qTr u))) 4) gn) 20000 (xlo (i := 9) hb_ob) (xhn (i := 9) (n := 8) hn_ob rfl))) v_X8_190 hN (xlo (i := 9) hb_ob) (xhi (i := 9) hn_ob rfl) (ov_at (i := 9) rfl) rfl rfl rfl rfl rfl dX8_wouldBeQuiet_34 ?_
  refine x_pop C dX8_wouldBeQuiet_37 rfl ?_
  refine x_iconst C 0 dX8_wouldBeQuiet_38 rfl ?_
  refine x_istore (L' := [(4, .int 0), (0, .ref ob), (1, .int gn), (2, .int (nI n)), (3, .int a)]) C dX8_wouldBeQuiet_39 rfl rfl ?_
  refine x_perm (L' := [(0, .ref ob), (1, .int gn), (2, .int (nI n)), (3, .int a), (4, .int 0)]) [1, 2, 3, 4, 0] rfl ?_
  have lp41 : ∀ (d i : Nat), i + d = n → XW E K 5 N 0 0 (ov ob (xC E ob (qNow u) (wqI (qTr u) gn i) (qH0 u) (qH1 u) (qH2 u) (qH3 u) (qOl u) (qKe u) (qCh u) (qTl u) (qNu u) (qKi u) (qEn u) (qWh u) (qFt u) (qFp u) (qFr u) (qFc u)) G) 41 [(0, .ref ob), (1, .int gn), (2, .int (nI n)), (3, .int a), (4, .int (nI i))] [] := by
    intro d
    induction d with
    | zero =>
      intro i hd
      have q9i : n = i := by omega
      subst q9i
      refine x_iload C dX8_wouldBeQuiet_41 4 rfl ?_
      refine x_iload_n C dX8_wouldBeQuiet_43 2 rfl ?_
      refine x_icmp_ge C 62 dX8_wouldBeQuiet_44 rfl (fun _ => ?_) (fun c => absurd c (not_not_intro (nI_le (by omega) (by omega))))
      refine x_aload_n C dX8_wouldBeQuiet_62 0 rfl ?_
      refine x_get C (xlo (i := 0) hb_ob) (xhi (i := 0) hn_ob rfl) (ov_at (i := 0) rfl) f_X8_16 rfl dX8_wouldBeQuiet_63 ?_
      refine x_get C (xlo (i := 9) hb_ob) (xhi (i := 9) hn_ob rfl) (ov_at (i := 9) rfl) f_X8_105 rfl dX8_wouldBeQuiet_66 ?_
      refine x_iload_n C dX8_wouldBeQuiet_69 3 rfl ?_
      refine x_cV1 C (MF.sliceR (i := 10) (n := 2) rfl (c2_X5_wordsAbove E N (ob + 10) _ (vW (wqI (qTr u) gn n)) (vFi (wqI (qTr u) gn n)) (vLe (wqI (qTr u) gn n)) a l (by rw [vLe_wqI]; exact hle) hl (xlo (i := 10) hb_ob) (xhn (i := 10) (n := 2) hn_ob rfl))) v_X8_187 hN (xlo (i := 10) hb_ob) (xhi (i := 10) hn_ob rfl) (ov_at (i := 10) rfl) rfl rfl rfl rfl rfl dX8_wouldBeQuiet_70 ?_
      refine x_if_ne C 80 dX8_wouldBeQuiet_73 rfl (fun c73 => ?_) (fun c73 => ?_)
      · refine x_iconst C 0 dX8_wouldBeQuiet_80 rfl ?_
        exact x_iret C Z rfl rfl (by simp [wqB, bI, c73]) rfl dX8_wouldBeQuiet_81
      · refine x_iconst C 1 dX8_wouldBeQuiet_76 rfl ?_
        refine x_goto C 81 dX8_wouldBeQuiet_77 rfl ?_
        exact x_iret C Z rfl rfl (by simp [wqB, bI, c73]) rfl dX8_wouldBeQuiet_81
    | succ d ih =>
      intro i hd
      have hi : i < n := by omega
      refine x_iload C dX8_wouldBeQuiet_41 4 rfl ?_
      refine x_iload_n C dX8_wouldBeQuiet_43 2 rfl ?_
      refine x_icmp_ge C 62 dX8_wouldBeQuiet_44 rfl (fun c => absurd c (nI_ge (by omega) (by omega))) (fun _ => ?_)
      refine x_aload_n C dX8_wouldBeQuiet_47 0 rfl ?_
      refine x_get C (xlo (i := 0) hb_ob) (xhi (i := 0) hn_ob rfl) (ov_at (i := 0) rfl) f_X8_16 rfl dX8_wouldBeQuiet_48 ?_
      refine x_iconst C 0 dX8_wouldBeQuiet_51 rfl ?_
      refine x_cV1 C (MF.slice (i := 9) (n := 8) (cs' := xC E ob (qNow u) (sFeed (wqI (qTr u) gn i) 0) (qH0 u) (qH1 u) (qH2 u) (qH3 u) (qOl u) (qKe u) (qCh u) (qTl u) (qNu u) (qKi u) (qEn u) (qWh u) (qFt u) (qFp u) (qFr u) (qFc u)) rfl rfl (Nat.le_of_ble_eq_true rfl) rfl (c_X6_feedRing E N (ob + 9) _ (wqI (qTr u) gn i) 0 (xlo (i := 9) hb_ob) (xhn (i := 9) (n := 8) hn_ob rfl))) v_X8_190 hN (xlo (i := 9) hb_ob) (xhi (i := 9) hn_ob rfl) (ov_at (i := 9) rfl) rfl rfl rfl rfl rfl dX8_wouldBeQuiet_52 ?_
      refine x_pop C dX8_wouldBeQuiet_55 rfl ?_
      refine x_iinc (L' := [(4, .int ((nI i) + 1)), (0, .ref ob), (1, .int gn), (2, .int (nI n)), (3, .int a)]) C ((nI i) + 1) dX8_wouldBeQuiet_56 4 rfl rfl rfl rfl ?_
      refine x_goto C 41 dX8_wouldBeQuiet_59 rfl ?_
      refine x_perm (L' := [(0, .ref ob), (1, .int gn), (2, .int (nI n)), (3, .int a), (4, .int ((nI i) + 1))]) [1, 2, 3, 4, 0] rfl ?_
      refine x_to (L' := [(0, .ref ob), (1, .int gn), (2, .int (nI n)), (3, .int a), (4, .int (nI (i + 1)))]) (G' := ov ob (xC E ob (qNow u) (wqI (qTr u) gn (i + 1)) (qH0 u) (qH1 u) (qH2 u) (qH3 u) (qOl u) (qKe u) (qCh u) (qTl u) (qNu u) (qKi u) (qEn u) (qWh u) (qFt u) (qFp u) (qFr u) (qFc u)) G) (by simp only [nI_succ]; first | done | rfl) rfl rfl ?_
      exact ih (i + 1) (by omega)
  refine x_to (L' := [(0, .ref ob), (1, .int gn), (2, .int (nI n)), (3, .int a), (4, .int (nI 0))]) (G' := ov ob (xC E ob (qNow u) (wqI (qTr u) gn 0) (qH0 u) (qH1 u) (qH2 u) (qH3 u) (qOl u) (qKe u) (qCh u) (qTl u) (qNu u) (qKi u) (qEn u) (qWh u) (qFt u) (qFp u) (qFr u) (qFc u)) G) rfl rfl rfl ?_
  exact lp41 _ 0 (Nat.add_sub_cancel' (by omega))

set_option maxRecDepth 100000 in
set_option maxHeartbeats 4000000 in
theorem c_X8_safeGain (E : XE) (N ob : Nat) (G : GW) (u : QV) (m a : Int32) (l : Nat) (hle : vLe (qNow u) = nI l) (hl : l ≤ 64) (hb_ob : xB E ≤ ob) (hn_ob : ob + 56 ≤ N) : MF E yX8_safeGain cX8_safeGain 7 (some .int) 5 109 0 0 [.ref ob, .int m, .int a] N (ov ob (xC E ob (qNow u) (qTr u) (qH0 u) (qH1 u) (qH2 u) (qH3 u) (qOl u) (qKe u) (qCh u) (qTl u) (qNu u) (qKi u) (qEn u) (qWh u) (qFt u) (qFp u) (qFr u) (qFc u)) G) (some (.int (rSaf u l m a))) (ov ob (xC E ob (qNow (qSaf u l m a)) (qTr (qSaf u l m a)) (qH0 (qSaf u l m a)) (qH1 (qSaf u l m a)) (qH2 (qSaf u l m a)) (qH3 (qSaf u l m a)) (qOl (qSaf u l m a)) (qKe (qSaf u l m a)) (qCh (qSaf u l m a)) (qTl (qSaf u l m a)) (qNu (qSaf u l m a)) (qKi (qSaf u l m a)) (qEn (qSaf u l m a)) (qWh (qSaf u l m a)) (qFt (qSaf u l m a)) (qFp (qSaf u l m a)) (qFr (qSaf u l m a)) (qFc (qSaf u l m a))) G) := by
  refine MF.mk RX8 rfl (by decide +kernel) rfl (fun K C Z hin hN => ?_)
  show XW E K 7 N 0 0 _ 0 [(0, .ref ob), (1, .int m), (2, .int a)] []
  refine x_iload_n C dX8_safeGain_0 1 rfl ?_
  refine x_iconst C 1 dX8_safeGain_1 rfl ?_
  refine x_sipush C 200 dX8_safeGain_2 rfl ?_
  refine x_cS1 C (c_X8_isWithin E N _ m 1 200) v_X8_140 hN rfl rfl rfl rfl dX8_safeGain_5 ?_
  refine x_ifb_eq C 22 dX8_safeGain_8 rfl (fun c8 => ?_) (fun c8 => ?_)
  · refine x_ldc C (-1000001) m_180 dX8_safeGain_22 ?_
    exact x_iret C Z rfl rfl (by first | (simp only [qSaf, rSaf, c8, eq_self, Bool.false_eq_true, if_true, if_false]; done) | ((simp only [qSaf, rSaf, c8, eq_self, Bool.false_eq_true, if_true, if_false]); rfl) | (simp [qSaf, rSaf, c8]; done) | (simp [qSaf, rSaf, c8]; rfl)) (by first | (simp only [qSaf, rSaf, c8, eq_self, Bool.false_eq_true, if_true, if_false]; done) | ((simp only [qSaf, rSaf, c8, eq_self, Bool.false_eq_true, if_true, if_false]); rfl) | (simp [qSaf, rSaf, c8]; done) | (simp [qSaf, rSaf, c8]; rfl)) dX8_safeGain_24
  · refine x_iload_n C dX8_safeGain_11 2 rfl ?_
    refine x_iconst C 0 dX8_safeGain_12 rfl ?_
    refine x_sipush C 20000 dX8_safeGain_13 rfl ?_
    refine x_cS1 C (c_X8_isWithin E N _ a 0 20000) v_X8_140 hN rfl rfl rfl rfl dX8_safeGain_16 ?_
    refine x_ifb_ne C 25 dX8_safeGain_19 rfl (fun c19 => ?_) (fun c19 => ?_)
    · obtain ⟨k, hk, rfl⟩ : ∃ k : Nat, k ≤ 200 ∧ m = nI k := ⟨_, (inR_k (by decide) (by decide) c8).2, (inR_k (n := 200) (by decide) (by decide) c8).1⟩
      have q9kc : (nI k).toNatClampNeg = k := nI_clamp (by omega)
      refine x_aload_n C dX8_safeGain_25 0 rfl ?_
      refine x_get C (xlo (i := 0) hb_ob) (xhi (i := 0) hn_ob rfl) (ov_at (i := 0) rfl) f_X8_16 rfl dX8_safeGain_26 ?_
      refine x_aload_n C dX8_safeGain_29 0 rfl ?_
      refine x_get C (xlo (i := 0) hb_ob) (xhi (i := 0) hn_ob rfl) (ov_at (i := 0) rfl) f_X8_10 rfl dX8_safeGain_30 ?_
      refine x_cV0 C (MF.slice2s (i := 9) (j := 1) (n := 8) (k := 8) (cs' := xC E ob (qNow u) (sCpy (qTr u) (qNow u)) (qH0 u) (qH1 u) (qH2 u) (qH3 u) (qOl u) (qKe u) (qCh u) (qTl u) (qNu u) (qKi u) (qEn u) (qWh u) (qFt u) (qFp u) (qFr u) (qFc u)) rfl rfl rfl (Nat.le_of_ble_eq_true rfl) rfl (c_X6_takeOver E N (ob + 9) (ob + 1) _ (qTr u) (qNow u) (xlo (i := 9) hb_ob) (xhn (i := 9) (n := 8) hn_ob rfl) (xlo (i := 1) hb_ob) (xhn (i := 1) (n := 8) hn_ob rfl) (by omega))) v_X8_181 hN (xlo (i := 9) hb_ob) (xhi (i := 9) hn_ob rfl) (ov_at (i := 9) rfl) rfl rfl rfl rfl rfl dX8_safeGain_33 ?_
      refine x_iconst C 0 dX8_safeGain_36 rfl ?_
      refine x_istore_n (L' := [(3, .int 0), (0, .ref ob), (1, .int (nI k)), (2, .int a)]) C dX8_safeGain_37 rfl rfl ?_
      refine x_sipush C 950 dX8_safeGain_38 rfl ?_
      refine x_istore (L' := [(4, .int 950), (3, .int 0), (0, .ref ob), (1, .int (nI k)), (2, .int a)]) C dX8_safeGain_41 rfl rfl ?_
      refine x_iconst C 0 dX8_safeGain_43 rfl ?_
      refine x_istore (L' := [(5, .int 0), (4, .int 950), (3, .int 0), (0, .ref ob), (1, .int (nI k)), (2, .int a)]) C dX8_safeGain_44 rfl rfl ?_
      refine x_perm (L' := [(0, .ref ob), (1, .int (nI k)), (2, .int a), (3, .int 0), (4, .int 950), (5, .int 0)]) [3, 4, 5, 2, 1, 0] rfl ?_
      have lp46_1 : ∀ (d i : Nat) (lo1 : Int32) (hi1 : Int32) (v1 : SV), i + d = 951 → vLe v1 = nI l ∧ sgRun l k a d lo1 hi1 v1 = sgAll u l (nI k) a → XW E K 7 N 0 0 (ov ob (xC E ob (qNow u) v1 (qH0 u) (qH1 u) (qH2 u) (qH3 u) (qOl u) (qKe u) (qCh u) (qTl u) (qNu u) (qKi u) (qEn u) (qWh u) (qFt u) (qFp u) (qFr u) (qFc u)) G) 46 [(0, .ref ob), (1, .int (nI k)), (2, .int a), (3, .int lo1), (4, .int hi1), (5, .int (nI i))] [] := by
        intro d
        induction d with
        | zero =>
          intro i lo1 hi1 v1 hd hq
          have hi : i = 951 := by omega
          refine x_iload C dX8_safeGain_46 5 rfl ?_
          refine x_sipush C 950 dX8_safeGain_48 rfl ?_
          refine x_icmp_gt C 99 dX8_safeGain_51 rfl (fun _ => ?_) (fun c => absurd c (sg951 (by omega)))
          have q9f : sgAll u l (nI k) a = (lo1, v1) := by rw [← hq.2]; simp [sgRun, c8, c19]
          refine x_iload_n C dX8_safeGain_99 3 rfl ?_
          exact x_iret C Z rfl rfl (by first | (simp only [qSaf, rSaf, q9kc, q9f, c8, c19, eq_self, Bool.false_eq_true, if_true, if_false]; done) | ((simp only [qSaf, rSaf, q9kc, q9f, c8, c19, eq_self, Bool.false_eq_true, if_true, if_false]); rfl) | (simp [qSaf, rSaf, q9kc, q9f, c8, c19]; done) | (simp [qSaf, rSaf, q9kc, q9f, c8, c19]; rfl)) (by first | (simp only [qSaf, rSaf, q9kc, q9f, c8, c19, eq_self, Bool.false_eq_true, if_true, if_false]; done) | ((simp only [qSaf, rSaf, q9kc, q9f, c8, c19, eq_self, Bool.false_eq_true, if_true, if_false]); rfl) | (simp [qSaf, rSaf, q9kc, q9f, c8, c19]; done) | (simp [qSaf, rSaf, q9kc, q9f, c8, c19]; rfl)) dX8_safeGain_100
        | succ d ih =>
          intro i lo1 hi1 v1 hd hq
          have hi : i < 951 := by omega
          refine x_iload C dX8_safeGain_46 5 rfl ?_
          refine x_sipush C 950 dX8_safeGain_48 rfl ?_
          refine x_icmp_gt C 99 dX8_safeGain_51 rfl (fun c => absurd c (sg951b (by omega))) (fun _ => ?_)
          refine x_iload_n C dX8_safeGain_54 3 rfl ?_
          refine x_iload C dX8_safeGain_55 4 rfl ?_
          refine x_icmp_ge C 99 dX8_safeGain_57 rfl (fun c57 => ?_) (fun c57 => ?_)
          · have q9f : sgAll u l (nI k) a = (lo1, v1) := by rw [← hq.2]; simp [sgRun, c8, c19, c57]
            refine x_iload_n C dX8_safeGain_99 3 rfl ?_
            exact x_iret C Z rfl rfl (by first | (simp only [qSaf, rSaf, q9kc, q9f, c8, c19, if_pos c57, eq_self, Bool.false_eq_true, if_true, if_false]; done) | ((simp only [qSaf, rSaf, q9kc, q9f, c8, c19, if_pos c57, eq_self, Bool.false_eq_true, if_true, if_false]); rfl) | (simp [qSaf, rSaf, q9kc, q9f, c8, c19, c57]; done) | (simp [qSaf, rSaf, q9kc, q9f, c8, c19, c57]; rfl)) (by first | (simp only [qSaf, rSaf, q9kc, q9f, c8, c19, if_pos c57, eq_self, Bool.false_eq_true, if_true, if_false]; done) | ((simp only [qSaf, rSaf, q9kc, q9f, c8, c19, if_pos c57, eq_self, Bool.false_eq_true, if_true, if_false]); rfl) | (simp [qSaf, rSaf, q9kc, q9f, c8, c19, c57]; done) | (simp [qSaf, rSaf, q9kc, q9f, c8, c19, c57]; rfl)) dX8_safeGain_100
          · refine x_iload_n C dX8_safeGain_60 3 rfl ?_
            refine x_iload C dX8_safeGain_61 4 rfl ?_
            refine x_iadd C dX8_safeGain_63 ?_
            refine x_iconst C 1 dX8_safeGain_64 rfl ?_
            refine x_iadd C dX8_safeGain_65 ?_
            refine x_iconst C 2 dX8_safeGain_66 rfl ?_
            refine x_idiv C dX8_safeGain_67 (by decide) ?_
            refine x_istore (L' := [(6, .int (((lo1 + hi1) + 1) / 2)), (0, .ref ob), (1, .int (nI k)), (2, .int a), (3, .int lo1), (4, .int hi1), (5, .int (nI i))]) C dX8_safeGain_68 rfl rfl ?_
            refine x_aload_n C dX8_safeGain_70 1 rfl ?_
            refine x_iload C dX8_safeGain_71 0 rfl ?_
            refine x_iload_n C dX8_safeGain_73 2 rfl ?_
            refine x_iload_n C dX8_safeGain_74 3 rfl ?_
            refine x_cV1 C (c_X8_wouldBeQuiet E N ob _ (mkQ (qNow u) v1 (qH0 u) (qH1 u) (qH2 u) (qH3 u) (qOl u) (qKe u) (qCh u) (qTl u) (qNu u) (qKi u) (qEn u) (qWh u) (qFt u) (qFp u) (qFr u) (qFc u)) (((lo1 + hi1) + 1) / 2) k a l hq.1 hl (by omega) hb_ob hn_ob) v_X8_204 hN (xlo (i := 0) hb_ob) (xhi (i := 0) hn_ob rfl) (ov_at (i := 0) rfl) rfl rfl rfl rfl rfl dX8_safeGain_75 ?_
            refine x_ifb_eq C 87 dX8_safeGain_78 rfl (fun c78 => ?_) (fun c78 => ?_)
            · refine x_iload C dX8_safeGain_87 0 rfl ?_
              refine x_iconst C 1 dX8_safeGain_89 rfl ?_
              refine x_isub C dX8_safeGain_90 ?_
              refine x_istore (L' := [(4, .int ((((lo1 + hi1) + 1) / 2) - 1)), (6, .int (((lo1 + hi1) + 1) / 2)), (0, .ref ob), (1, .int (nI k)), (2, .int a), (3, .int lo1), (5, .int (nI i))]) C dX8_safeGain_91 rfl rfl ?_
              refine x_iinc (L' := [(5, .int ((nI i) + 1)), (4, .int ((((lo1 + hi1) + 1) / 2) - 1)), (6, .int (((lo1 + hi1) + 1) / 2)), (0, .ref ob), (1, .int (nI k)), (2, .int a), (3, .int lo1)]) C ((nI i) + 1) dX8_safeGain_93 6 rfl rfl rfl rfl ?_
              refine x_goto C 46 dX8_safeGain_96 rfl ?_
              refine x_perm (L' := [(0, .ref ob), (1, .int (nI k)), (2, .int a), (3, .int lo1), (4, .int ((((lo1 + hi1) + 1) / 2) - 1)), (5, .int ((nI i) + 1))]) [3, 4, 5, 6, 1, 0] rfl ?_
              refine x_to (L' := [(0, .ref ob), (1, .int (nI k)), (2, .int a), (3, .int lo1), (4, .int ((((lo1 + hi1) + 1) / 2) - 1)), (5, .int (nI (i + 1)))]) (G' := ov ob (xC E ob (qNow u) (qTr (qST (mkQ (qNow u) v1 (qH0 u) (qH1 u) (qH2 u) (qH3 u) (qOl u) (qKe u) (qCh u) (qTl u) (qNu u) (qKi u) (qEn u) (qWh u) (qFt u) (qFp u) (qFr u) (qFc u)) (wqI (qTr (mkQ (qNow u) v1 (qH0 u) (qH1 u) (qH2 u) (qH3 u) (qOl u) (qKe u) (qCh u) (qTl u) (qNu u) (qKi u) (qEn u) (qWh u) (qFt u) (qFp u) (qFr u) (qFc u))) (((lo1 + hi1) + 1) / 2) k))) (qH0 u) (qH1 u) (qH2 u) (qH3 u) (qOl u) (qKe u) (qCh u) (qTl u) (qNu u) (qKi u) (qEn u) (qWh u) (qFt u) (qFp u) (qFr u) (qFc u)) G) (by simp only [nI_succ]) rfl rfl ?_
              exact ih (i + 1) lo1 ((((lo1 + hi1) + 1) / 2) - 1) (qTr (qST (mkQ (qNow u) v1 (qH0 u) (qH1 u) (qH2 u) (qH3 u) (qOl u) (qKe u) (qCh u) (qTl u) (qNu u) (qKi u) (qEn u) (qWh u) (qFt u) (qFp u) (qFr u) (qFc u)) (wqI (qTr (mkQ (qNow u) v1 (qH0 u) (qH1 u) (qH2 u) (qH3 u) (qOl u) (qKe u) (qCh u) (qTl u) (qNu u) (qKi u) (qEn u) (qWh u) (qFt u) (qFp u) (qFr u) (qFc u))) (((lo1 + hi1) + 1) / 2) k))) (by omega) ⟨(vLe_wqI _ _ _).trans hq.1, by rw [← hq.2]; simp only [sgRun, qST, c8, c19, if_neg c57, c78, eq_self, Bool.false_eq_true, if_true, if_false]; first | done | rfl⟩
            · refine x_iload C dX8_safeGain_81 0 rfl ?_
              refine x_istore_n (L' := [(3, .int (((lo1 + hi1) + 1) / 2)), (6, .int (((lo1 + hi1) + 1) / 2)), (0, .ref ob), (1, .int (nI k)), (2, .int a), (4, .int hi1), (5, .int (nI i))]) C dX8_safeGain_83 rfl rfl ?_
              refine x_goto C 93 dX8_safeGain_84 rfl ?_
              refine x_iinc (L' := [(5, .int ((nI i) + 1)), (3, .int (((lo1 + hi1) + 1) / 2)), (6, .int (((lo1 + hi1) + 1) / 2)), (0, .ref ob), (1, .int (nI k)), (2, .int a), (4, .int hi1)]) C ((nI i) + 1) dX8_safeGain_93 6 rfl rfl rfl rfl ?_
              refine x_goto C 46 dX8_safeGain_96 rfl ?_
              refine x_perm (L' := [(0, .ref ob), (1, .int (nI k)), (2, .int a), (3, .int (((lo1 + hi1) + 1) / 2)), (4, .int hi1), (5, .int ((nI i) + 1))]) [3, 4, 5, 1, 6, 0] rfl ?_
              refine x_to (L' := [(0, .ref ob), (1, .int (nI k)), (2, .int a), (3, .int (((lo1 + hi1) + 1) / 2)), (4, .int hi1), (5, .int (nI (i + 1)))]) (G' := ov ob (xC E ob (qNow u) (qTr (qST (mkQ (qNow u) v1 (qH0 u) (qH1 u) (qH2 u) (qH3 u) (qOl u) (qKe u) (qCh u) (qTl u) (qNu u) (qKi u) (qEn u) (qWh u) (qFt u) (qFp u) (qFr u) (qFc u)) (wqI (qTr (mkQ (qNow u) v1 (qH0 u) (qH1 u) (qH2 u) (qH3 u) (qOl u) (qKe u) (qCh u) (qTl u) (qNu u) (qKi u) (qEn u) (qWh u) (qFt u) (qFp u) (qFr u) (qFc u))) (((lo1 + hi1) + 1) / 2) k))) (qH0 u) (qH1 u) (qH2 u) (qH3 u) (qOl u) (qKe u) (qCh u) (qTl u) (qNu u) (qKi u) (qEn u) (qWh u) (qFt u) (qFp u) (qFr u) (qFc u)) G) (by simp only [nI_succ]) rfl rfl ?_
              exact ih (i + 1) (((lo1 + hi1) + 1) / 2) hi1 (qTr (qST (mkQ (qNow u) v1 (qH0 u) (qH1 u) (qH2 u) (qH3 u) (qOl u) (qKe u) (qCh u) (qTl u) (qNu u) (qKi u) (qEn u) (qWh u) (qFt u) (qFp u) (qFr u) (qFc u)) (wqI (qTr (mkQ (qNow u) v1 (qH0 u) (qH1 u) (qH2 u) (qH3 u) (qOl u) (qKe u) (qCh u) (qTl u) (qNu u) (qKi u) (qEn u) (qWh u) (qFt u) (qFp u) (qFr u) (qFc u))) (((lo1 + hi1) + 1) / 2) k))) (by omega) ⟨(vLe_wqI _ _ _).trans hq.1, by rw [← hq.2]; simp only [sgRun, qST, c8, c19, if_neg c57, c78, eq_self, Bool.false_eq_true, if_true, if_false]; first | done | rfl⟩
      refine x_to (L' := [(0, .ref ob), (1, .int (nI k)), (2, .int a), (3, .int 0), (4, .int 950), (5, .int (nI 0))]) (G' := ov ob (xC E ob (qNow u) (sCpy (qTr u) (qNow u)) (qH0 u) (qH1 u) (qH2 u) (qH3 u) (qOl u) (qKe u) (qCh u) (qTl u) (qNu u) (qKi u) (qEn u) (qWh u) (qFt u) (qFp u) (qFr u) (qFc u)) G) rfl rfl rfl ?_
      exact lp46_1 _ 0 0 950 (sCpy (qTr u) (qNow u)) (Nat.add_sub_cancel' (by omega)) ⟨hle, by unfold sgAll; rw [q9kc]⟩
    · refine x_ldc C (-1000001) m_180 dX8_safeGain_22 ?_
      exact x_iret C Z rfl rfl (by first | (simp only [qSaf, rSaf, c8, c19, eq_self, Bool.false_eq_true, if_true, if_false]; done) | ((simp only [qSaf, rSaf, c8, c19, eq_self, Bool.false_eq_true, if_true, if_false]); rfl) | (simp [qSaf, rSaf, c8, c19]; done) | (simp [qSaf, rSaf, c8, c19]; rfl)) (by first | (simp only [qSaf, rSaf, c8, c19, eq_self, Bool.false_eq_true, if_true, if_false]; done) | ((simp only [qSaf, rSaf, c8, c19, eq_self, Bool.false_eq_true, if_true, if_false]); rfl) | (simp [qSaf, rSaf, c8, c19]; done) | (simp [qSaf, rSaf, c8, c19]; rfl)) dX8_safeGain_24

