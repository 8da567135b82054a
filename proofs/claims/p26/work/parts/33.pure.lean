/-! ===== the law's own numbers ===== -/
theorem n_dec (m : Nat) : nI (m + 1) + Int32.ofInt (-1) = nI m := by
  have e : Int32.ofInt (-1) = -(1 : Int32) := by decide
  rw [e, ← Int32.sub_eq_add_neg]
  exact nI_pred m
def shD (w : Nat → Int32) (l m : Nat) : Nat → Int32 := fun q => if m < q ∧ q < l then w (q - 1) else w q
theorem shD_top (w : Nat → Int32) (l : Nat) : shD w l (l - 1) = w := by
  funext q
  exact if_neg (by omega)
theorem shD_at {w : Nat → Int32} {l m : Nat} : shD w l (m + 1) m = w m := if_neg (by omega)
theorem shD_step {w : Nat → Int32} {l m : Nat} (h : m + 1 < l) : upd (shD w l (m + 1)) (m + 1) (w m) = shD w l m := by
  funext q
  by_cases e : q = m + 1
  · subst e
    rw [pk_us]
    unfold shD
    rw [if_pos (by omega), Nat.add_sub_cancel]
  · rw [pk_un e]
    unfold shD
    by_cases c : m + 1 < q ∧ q < l
    · rw [if_pos c, if_pos (by omega)]
    · rw [if_neg c, if_neg (by omega)]
theorem shD_end (w : Nat → Int32) (l : Nat) (r : Int32) : upd (shD w l 0) 0 r = wsT w l r := by
  funext q
  by_cases e : q = 0
  · subst e
    rw [pk_us]
    rfl
  · rw [pk_un e]
    unfold shD wsT
    rw [if_neg e]
    by_cases c : q < l
    · rw [if_pos c, if_pos (by omega)]
    · rw [if_neg c, if_neg (by omega)]
theorem zrT_top (w : Nat → Int32) (a : Nat) : zrT w a a = w := by
  funext q
  exact if_neg (by omega)
theorem zrT_step {w : Nat → Int32} {a m : Nat} (h : a ≤ m) : upd (zrT w a m) m 0 = zrT w a (m + 1) := by
  funext q
  by_cases e : q = m
  · subst e
    rw [pk_us]
    exact (if_pos (by omega)).symm
  · rw [pk_un e]
    unfold zrT
    by_cases c : a ≤ q ∧ q < m
    · rw [if_pos c, if_pos (by omega)]
    · rw [if_neg c, if_neg (by omega)]
theorem ta_cg {v : SV} {w w2 : Nat → Int32} {l : Nat} (h : TA v w l) (e : ∀ j, j < 64 → w2 j = w j) : TA v w2 l := by
  obtain ⟨h1, h2, h3, ⟨fi, h4, h5, h6⟩, h7, h8⟩ := h
  refine ⟨h1, h2, h3, ⟨fi, h4, h5, fun j hj => (e j (by omega)).trans (h6 j hj)⟩, fun j a b => (e j b).trans (h7 j a b), fun j hj => ?_⟩
  rw [e j hj]
  exact h8 j hj
theorem ta_zr {v : SV} {w : Nat → Int32} {l : Nat} (h : TA v w l) : TA v (zrT w l 64) l := by
  have h7 := h.2.2.2.2.1
  refine ta_cg h (fun j hj => ?_)
  unfold zrT
  by_cases c : l ≤ j ∧ j < 64
  · rw [if_pos c]
    exact (h7 j c.1 c.2).symm
  · rw [if_neg c]
theorem tq_zr {P : TP} {k : Nat} {u : QV} {w : Nat → Int32} {l sa dn : Nat} (h : TQ P k u w l sa dn) : TQ P k u (zrT w l 64) l sa dn := ⟨ta_zr h.1, h.2⟩
theorem met_0 {P : TP} {k : Nat} {u : QV} {w : Nat → Int32} {l sa dn : Nat} (h : TQ P k u w l sa dn) (hs : sa ≤ 1000) : rMet u 0 = nI sa ∧ (¬ vSa (qNow u) = 0 → 0 ≤ (vSu (qNow u)).toInt ∧ 0 < (vSa (qNow u)).toInt) := by
  obtain ⟨c1, c2, c3, c4⟩ := h.2.2.1
  refine ⟨c1, fun hn => ⟨c2, ?_⟩⟩
  rw [c1] at hn ⊢
  rw [nI_toInt (by omega)]
  have h0 : sa ≠ 0 := fun z => hn (by rw [z]; rfl)
  omega
theorem num_x (z : Nat) : ∃ x : Int32, x = nI (z % 40001) - 20000 ∧ -20000 ≤ x.toInt ∧ x.toInt ≤ 20000 := by
  refine ⟨_, rfl, ?_⟩
  have e : (20000 : Int32).toInt = 20000 := rfl
  rw [Int32.toInt_sub, nI_toInt (by omega), e, toInt_small (by omega) (by omega)]
  omega
/-! ===== what a sample that is undone leaves; what is refused ===== -/
theorem ta_cpy {v u : SV} {w : Nat → Int32} {l : Nat} (h : TA u w l) : TA (sCpy v u) w l := by
  obtain ⟨h1, h2, h3, ⟨fi, h4, h5, h6⟩, h7⟩ := h
  refine ⟨h1, h2, h3, ⟨fi, h4, h5, fun j hj => ?_⟩, h7⟩
  show _ = va_cpy (vW u) (vW v) 0 0 64 ((fi + j) % 64)
  rw [cpy_at _ _ (by omega)]
  exact h6 j hj
theorem tb_cpy {P : TP} {k : Nat} {v u : SV} (hk : k ≤ 4) (h : TB P k u) : TB P k (sCpy v u) := by
  obtain ⟨b1, b2, b3, b4, b5⟩ := h
  have d : ∀ t, t < 5 → vDe (sCpy v u) t = vDe u t := fun t ht => cpy_at (vDe u) (vDe v) ht
  have g : ∀ t, t < 5 → vGa (sCpy v u) t = vGa u t := fun t ht => cpy_at (vGa u) (vGa v) ht
  refine ⟨fun t ht => ?_, fun t x y => ?_, (d 4 (by omega)).trans b3, (g 4 (by omega)).trans b4, b5⟩
  · rw [d t (by omega), g t (by omega)]
    exact b1 t ht
  · rw [d t (by omega)]
    exact b2 t x y
theorem und_sam {u : QV} {v : SV} {dn : Nat} (h : TH u (min dn 4)) (hd : 5 ≤ dn) : ¬ qKe (qSN (qKeep u) v) < 0 ∧ rUnd (qSN (qKeep u) v) = 3 ∧ ∃ a b : SV, qNow (qUnd (qSN (qKeep u) v)) = sCpy a (sCpy b (qNow u)) := by
  obtain ⟨h1, h2, o, h3, h4⟩ := h
  rw [show min dn 4 = 4 by omega] at h2
  obtain ⟨k1, k2, k3⟩ := keep_4 h3
  have e1 : qKe (qSN (qKeep u) v) = nI 4 := by
    show kKe (qKe u) + 1 = _
    rw [h2, k2]
    rfl
  have e2 : qOl (qSN (qKeep u) v) = nI ((o + 1) % 4) := by
    show kOl (qOl u) (qKe u) = _
    rw [h2, h4, k1]
  have e3 : rIxH (qOl (qSN (qKeep u) v)) (qKe (qSN (qKeep u) v)) = nI o := by
    unfold rIxH
    rw [e1, e2, show nI 4 - 1 = nI 3 from rfl, nI_add, jfm_nI4 _ (by omega)]
    congr 1
    omega
  have hn : ¬ nI 4 = 0 := by decide
  refine ⟨?_, ?_, qNow (qSN (qKeep u) v), hAt u o, ?_⟩
  · rw [e1]
    decide
  · unfold rUnd
    rw [e1, if_neg hn]
    rfl
  · have e4 : qUnd (qSN (qKeep u) v) = qRest (qSN (qKeep u) v) := by
      unfold qUnd
      rw [e1, if_neg hn]
    rw [e4]
    show rsN _ _ _ _ _ _ _ = _
    rw [rsN_eq e3 h3]
    have e5 : hAt (qSN (qKeep u) v) o = hAt (qKeep u) o := rfl
    rw [e5, hAt_keep (m := o) (by rw [h2, h4, k3]) h3 h3, if_pos rfl]
theorem ref_1 (u : QV) : rSam u 20001 = -1000001 ∧ qSam u 20001 = u := ⟨rfl, rfl⟩
theorem ref_2 (u : QV) : rSte u 0 = -1000001 ∧ qSte u 0 = u := by
  have e : ∀ y, eSte 0 y = -1000001 := fun y => rfl
  unfold rSte qSte
  rw [e]
  exact ⟨if_neg (by decide), if_neg (by decide)⟩
theorem ref_3 (u : QV) : rTap u 4 1 1 = -1000001 ∧ qTap u 4 1 1 = u := ⟨rfl, rfl⟩
theorem ref_4 {u : QV} (h : vDe (qNow u) 3 = 0) : rOff u 3 = -1000002 ∧ qOff u 3 = u := by
  have e : sOn (qNow u) 3 = false := on_no (t := 3) (by omega) h
  unfold rOff qOff
  rw [e]
  exact ⟨rfl, rfl⟩
theorem off_0 {u : QV} {d : Nat} (h : vDe (qNow u) 0 = nI d) (h1 : 1 ≤ d) (h2 : d ≤ 64) : rOff u 0 = nI d ∧ qOff u 0 = qSN (qKeep u) (sPut (qNow u) (nI 0) 0 0) := by
  have e : sOn (qNow u) 0 = true := on_yes (t := 0) (by omega) h h1 h2
  unfold rOff qOff
  rw [e]
  refine ⟨?_, rfl⟩
  show sDel (qNow u) (nI 0) = _
  rw [del_eq (by omega), h]
theorem tof_no {u : QV} {t : Nat} {x : Int32} (ht : t < 5) (h : vDe (qNow u) t = 0) (hx : inR x 0 4 = true) : rTof u (nI t) x = -1000004 := by
  have i1 : inR (nI t) 0 4 = true := nI_inR (a := 0) (b := 4) rfl rfl (by omega) (by omega) (by omega)
  unfold rTof
  rw [i1, hx, on_no ht h, if_pos rfl, if_pos rfl]
  rfl
theorem tof_5 (u : QV) : rTof u 5 0 = -1000001 := rfl
/-- the end of the law: the sample, its undoing, what is refused, a tap that is turned off -/
theorem e_all {P : TP} {u : QV} {w : Nat → Int32} {l sa dn : Nat} (hP : POK P) (h : TQ P 3 u w l sa dn) (hd : 5 ≤ dn) (hs : sa ≤ 1000) : ∃ u2 u3 r7, rSam u 7 = r7 ∧ ¬ r7 ≤ -1000001 ∧ ¬ qKe (qSam u 7) < 0 ∧ rUnd (qSam u 7) = 3 ∧ qUnd (qSam u 7) = u2 ∧ rWof u2 (nI 0) = w 0 ∧ rOff u2 3 = -1000002 ∧ qOff u2 3 = u2 ∧ rOff u2 0 = nI (pD P 0) ∧ qOff u2 0 = u3 ∧ rTof u3 0 0 = -1000004 ∧ rTof u3 3 1 = -1000004 := by
  have hx : -20000 ≤ (7 : Int32).toInt ∧ (7 : Int32).toInt ≤ 20000 := by decide
  obtain ⟨s1, s2, s3, s4⟩ := q_sam hP h hx hs
  obtain ⟨n1, n2, a, b, n3⟩ := und_sam (v := sLet (qNow u) 7) h.2.2.2 hd
  rw [← s4] at n1 n2 n3
  have ha : TA (qNow (qUnd (qSam u 7))) w l := by
    rw [n3]
    exact ta_cpy (ta_cpy h.1)
  have hb : TB P 3 (qNow (qUnd (qSam u 7))) := by
    rw [n3]
    exact tb_cpy (by omega) (tb_cpy (by omega) h.2.1)
  have hp := (hP.2.2.2 0 (by omega)).1
  have h3 := hb.2.1 3 (by omega) (by omega)
  obtain ⟨f1, f2⟩ := ref_4 h3
  obtain ⟨o1, o2⟩ := off_0 (hb.1 0 (by omega)).1 hp.1 hp.2
  have hbd := cl_bd (x := ouT P w l 7 3) hP.1.1 hP.1.2
  have z : (-1000001 : Int32).toInt = -1000001 := by decide
  have w0 : rWof (qUnd (qSam u 7)) (nI 0) = w 0 := by
    rw [q_wof ha (by omega), if_pos (by have := ha.1; omega)]
  refine ⟨qUnd (qSam u 7), qOff (qUnd (qSam u 7)) 0, _, s1, ?_, n1, n2, rfl, w0, f1, f2, o1, rfl, ?_, ?_⟩
  · rw [i_le, z]
    omega
  · rw [o2]
    refine tof_no (t := 0) (by omega) ?_ (by decide)
    show vDe (sPut (qNow (qUnd (qSam u 7))) (nI 0) 0 0) 0 = 0
    rw [put_eq (by omega)]
    show upd (vDe (qNow (qUnd (qSam u 7)))) 0 0 0 = 0
    exact pk_us
  · rw [o2]
    refine tof_no (t := 3) (by omega) ?_ (by decide)
    show vDe (sPut (qNow (qUnd (qSam u 7))) (nI 0) 0 0) 3 = 0
    rw [put_eq (by omega)]
    show upd (vDe (qNow (qUnd (qSam u 7)))) 0 0 3 = 0
    rw [pk_un (by omega)]
    exact h3
/-! ===== what the script sets ===== -/
def PX (xs : Nat → Int32) (Ln : Nat) : TP := (nI (100 + cV xs Ln 0 % 20000), nI (cV xs Ln 1 % 951), 1 + cV xs Ln 2 % 64, fun t => 1 + cV xs Ln (3 + t) % 64, fun t => nI (cV xs Ln (3 + t) / 64 % 1801) - 900)
theorem px_ok (xs : Nat → Int32) (Ln : Nat) : POK (PX xs Ln) := by
  have e : (900 : Int32).toInt = 900 := rfl
  have l : (pL (PX xs Ln)).toInt = ((100 + cV xs Ln 0 % 20000 : Nat) : Int) := nI_toInt (by omega)
  have b : (pB (PX xs Ln)).toInt = ((cV xs Ln 1 % 951 : Nat) : Int) := nI_toInt (by omega)
  refine ⟨by rw [l]; omega, by rw [b]; omega, ?_, fun t ht => ⟨?_, ?_⟩⟩
  · show 1 ≤ 1 + cV xs Ln 2 % 64 ∧ 1 + cV xs Ln 2 % 64 ≤ 64
    omega
  · show 1 ≤ 1 + cV xs Ln (3 + t) % 64 ∧ 1 + cV xs Ln (3 + t) % 64 ≤ 64
    omega
  · show -900 ≤ (nI (cV xs Ln (3 + t) / 64 % 1801) - 900).toInt ∧ (nI (cV xs Ln (3 + t) / 64 % 1801) - 900).toInt ≤ 900
    rw [Int32.toInt_sub, nI_toInt (by omega), e, toInt_small (by omega) (by omega)]
    omega
