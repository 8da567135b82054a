/-! ===== each call, by the law's numbers ===== -/
theorem ta_of {v v2 : SV} {w : Nat → Int32} {l : Nat} (h : TA v w l) (e1 : vW v2 = vW v) (e2 : vFi v2 = vFi v) (e3 : vLe v2 = vLe v) : TA v2 w l := by
  obtain ⟨h1, h2, h3, ⟨fi, h4, h5, h6⟩, h7⟩ := h
  refine ⟨h1, h2, e3.trans h3, ⟨fi, e2.trans h4, h5, fun j hj => ?_⟩, h7⟩
  rw [e1]
  exact h6 j hj
theorem put_eq {v : SV} {t : Nat} {d g : Int32} (ht : t < 5) : sPut v (nI t) d g = mkS (vW v) (vFi v) (vLe v) (vRo v) (vNe v) (vKe v) (vSa v) (vGr v) (vHo v) (vHw v) (vSu v) (upd (vDe v) t d) (upd (vGa v) t g) (vLi v) (vSh v) (vSl v) := by
  unfold sPut
  rw [rowOk_nI ht, if_pos rfl, nI_clamp (by omega)]
theorem del_eq {v : SV} {t : Nat} (ht : t < 5) : sDel v (nI t) = vDe v t := by
  unfold sDel
  rw [rowOk_nI ht, if_pos rfl, nI_clamp (by omega)]
theorem gai_eq {v : SV} {t : Nat} (ht : t < 5) : sGai v (nI t) = vGa v t := by
  unfold sGai
  rw [rowOk_nI ht, if_pos rfl, nI_clamp (by omega)]
theorem on_no {v : SV} {t : Nat} (ht : t < 5) (h : vDe v t = 0) : sOn v (nI t) = false := by
  unfold sOn
  rw [del_eq ht, h]
  rfl
theorem on_yes {v : SV} {t d : Nat} (ht : t < 5) (h : vDe v t = nI d) (h1 : 1 ≤ d) (h2 : d ≤ 64) : sOn v (nI t) = true := by
  unfold sOn
  rw [del_eq ht, h, decide_eq_false (nI_ne0 (by omega) (by omega))]
  rfl
theorem lost_if {v : SV} {w : Nat → Int32} {l t d : Nat} (ha : TA v w l) (ht : t < 5) (h : vDe v t = nI d) (h2 : d ≤ 64) : bI (sLost v (nI t)) = if d ≤ l then 0 else 1 := by
  have hl := ha.2.1
  unfold sLost
  rw [del_eq ht, h, ha.2.2.1]
  by_cases c : d ≤ l
  · rw [if_pos c, decide_eq_true ((nI_leI (by omega) (by omega)).mpr c)]
    rfl
  · rw [if_neg c, decide_eq_false (fun z => c ((nI_leI (by omega) (by omega)).mp z))]
    rfl
theorem tb_tap {P : TP} {v : SV} {k : Nat} (hk : k < 3) (h : TB P k v) : TB P (k + 1) (sPut v (nI k) (nI (pD P k)) (pG P k)) := by
  rw [put_eq (by omega)]
  obtain ⟨b1, b2, b3, b4, b5, b6⟩ := h
  refine ⟨fun t ht => ?_, fun t a b => ?_, ?_, ?_, b5, b6⟩
  · show upd (vDe v) k (nI (pD P k)) t = nI (pD P t) ∧ upd (vGa v) k (pG P k) t = pG P t
    by_cases e : t = k
    · subst e
      rw [pk_us, pk_us]
      exact ⟨rfl, rfl⟩
    · rw [pk_un e, pk_un e]
      exact b1 t (by omega)
  · show upd (vDe v) k (nI (pD P k)) t = 0
    rw [pk_un (by omega)]
    exact b2 t (by omega) b
  · show upd (vDe v) k (nI (pD P k)) 4 = _
    rw [pk_un (by omega)]
    exact b3
  · show upd (vGa v) k (pG P k) 4 = _
    rw [pk_un (by omega)]
    exact b4
theorem ta_put {v : SV} {w : Nat → Int32} {l t : Nat} {d g : Int32} (ht : t < 5) (h : TA v w l) : TA (sPut v (nI t) d g) w l := by
  rw [put_eq ht]
  exact ta_of h rfl rfl rfl
theorem tc_put {v : SV} {sa t : Nat} {d g : Int32} (ht : t < 5) (h : TC v sa) : TC (sPut v (nI t) d g) sa := by
  rw [put_eq ht]
  exact h
theorem th_ch {u : QV} {dn : Nat} (v : SV) (h : TH u (min dn 4)) : TH (qSN (qKeep u) v) (min (dn + 1) 4) := by
  obtain ⟨h1, h2, o, h3, h4⟩ := h
  by_cases c : dn < 4
  · obtain ⟨k1, k2, k3⟩ := keep_lt h3 c
    refine ⟨by omega, ?_, o, h3, ?_⟩
    · show kKe (qKe u) + 1 = _
      rw [h2, show min dn 4 = dn by omega, k2, show min (dn + 1) 4 = dn + 1 by omega, nI_succ]
    · show kOl (qOl u) (qKe u) = _
      rw [h2, show min dn 4 = dn by omega, h4, k1]
  · obtain ⟨k1, k2, k3⟩ := keep_4 h3
    refine ⟨by omega, ?_, (o + 1) % 4, by omega, ?_⟩
    · show kKe (qKe u) + 1 = _
      rw [h2, show min dn 4 = 4 by omega, k2, show min (dn + 1) 4 = 4 by omega]
      rfl
    · show kOl (qOl u) (qKe u) = _
      rw [h2, show min dn 4 = 4 by omega, h4, k1]
/-- a state of the object: the first k taps set, the ring's words w, l of them; samples; changes -/
def TQ (P : TP) (k : Nat) (u : QV) (w : Nat → Int32) (l sa dn : Nat) : Prop := TA (qNow u) w l ∧ TB P k (qNow u) ∧ TC (qNow u) sa ∧ TH u (min dn 4)
theorem nI_inR {n a b : Nat} {lo hi : Int32} (hl : lo.toInt = (a : Int)) (hh : hi.toInt = (b : Int)) (h1 : a ≤ n) (h2 : n ≤ b) (h3 : n < 2 ^ 31) : inR (nI n) lo hi = true := by
  rw [inR_iff, hl, hh, nI_toInt h3]
  omega
theorem q_tap {P : TP} {u : QV} {w : Nat → Int32} {k sa dn : Nat} (hP : POK P) (hk : k < 3) (h : TQ P k u w 64 sa dn) : rTap u (nI k) (nI (pD P k)) (pG P k) = 0 ∧ TQ P (k + 1) (qTap u (nI k) (nI (pD P k)) (pG P k)) w 64 sa (dn + 1) := by
  obtain ⟨ha, hb, hc, hh⟩ := h
  have hp := hP.2.2.2 k hk
  have i1 : inR (nI k) 0 3 = true := nI_inR (a := 0) (b := 3) rfl rfl (by omega) (by omega) (by omega)
  have i2 : inR (nI (pD P k)) 1 64 = true := nI_inR (a := 1) (b := 64) rfl rfl (by omega) (by omega) (by omega)
  have i3 : inR (pG P k) (-900) 900 = true := inR_iff.mpr hp.2
  have he : eTap (nI k) (nI (pD P k)) (pG P k) = 0 := by
    unfold eTap
    rw [i1, i2, i3, if_pos rfl, if_pos rfl, if_pos rfl]
  have hd : vDe (sPut (qNow u) (nI k) (nI (pD P k)) (pG P k)) k = nI (pD P k) := ((tb_tap hk hb).1 k (by omega)).1
  unfold rTap qTap
  rw [if_pos he, if_pos he]
  refine ⟨?_, ta_put (by omega) ha, tb_tap hk hb, tc_put (by omega) hc, th_ch _ hh⟩
  rw [lost_if (ta_put (by omega) ha) (by omega) hd hp.1.2, if_pos hp.1.2]
abbrev u00 : QV := mkQ zS zS zS zS zS zS 0 0 (fun _ => 0) 0 (fun _ => 0) 0 0 0 0 0 0 0
theorem q_set {P : TP} (hP : POK P) : rSet u00 0 (pL P) = 16000 ∧ qSet u00 0 (pL P) = qSN (qKeep u00) (sSet zS 0 (pL P)) := by
  have i : okSet 0 (pL P) = true := inR_iff.mpr hP.1
  unfold rSet qSet
  rw [if_pos i, if_pos i]
  exact ⟨rfl, rfl⟩
theorem th_00 : TH u00 (min 0 4) := ⟨by omega, rfl, 0, by omega, rfl⟩
theorem q_fee {P : TP} (hP : POK P) : rFee (qSet u00 0 (pL P)) (nI (pF P)) (pB P) = 0 ∧ TQ P 0 (qFee (qSet u00 0 (pL P)) (nI (pF P)) (pB P)) zF 64 0 2 := by
  have hp := hP.2.2.1
  have i1 : inR (nI (pF P)) 1 64 = true := nI_inR (a := 1) (b := 64) rfl rfl (by omega) (by omega) (by omega)
  have i2 : inR (pB P) 0 950 = true := inR_iff.mpr hP.2.1
  have he : eFee (nI (pF P)) (pB P) = 0 := by
    unfold eFee
    rw [i1, i2, if_pos rfl, if_pos rfl]
  have z : (0 : Int32).toInt = 0 := rfl
  have z6 : (0 : Int64).toInt = 0 := rfl
  rw [(q_set hP).2]
  unfold rFee qFee
  rw [if_pos he, if_pos he]
  have e4 : sPut (qNow (qSN (qKeep u00) (sSet zS 0 (pL P)))) 4 (nI (pF P)) (pB P) = mkS zF 0 64 zF 0 0 0 0 0 0 0 (upd (upd zF 4 16) 4 (nI (pF P))) (upd zF 4 (pB P)) (pL P) 0 0 := put_eq (t := 4) (by omega)
  rw [e4]
  refine ⟨rfl, ⟨by omega, by omega, rfl, ⟨0, rfl, by omega, fun j hj => rfl⟩, fun j a b => rfl, fun j hj => ?_⟩, ⟨fun t ht => absurd ht (by omega), fun t a b => ?_, ?_, ?_, rfl, rfl⟩, ⟨rfl, ?_, ?_, 0, 0, rfl, by omega, rfl, by omega⟩, th_ch _ (th_ch (dn := 0) _ th_00)⟩
  · show -30000 ≤ (0 : Int32).toInt ∧ (0 : Int32).toInt ≤ 30000
    rw [z]
    omega
  · show upd (upd zF 4 16) 4 (nI (pF P)) t = 0
    rw [pk_un (by omega), pk_un (by omega)]
  · show upd (upd zF 4 16) 4 (nI (pF P)) 4 = _
    rw [pk_us]
  · show upd zF 4 (pB P) 4 = _
    rw [pk_us]
  · show 0 ≤ (0 : Int64).toInt
    rw [z6]
    omega
  · show (0 : Int64).toInt ≤ 30000 * ((0 : Nat) : Int)
    rw [z6]
    omega
theorem tap_z {f : Nat → Int32} : ∀ n, (∀ t, t < n → f t = 0) → tapS f n = 0
  | 0, _ => rfl
  | n + 1, h => by
    show tapS f n + f n = 0
    rw [tap_z n (fun t ht => h t (by omega)), h n (by omega)]
    rfl
theorem q_loud {P : TP} {u : QV} {w : Nat → Int32} {l sa dn : Nat} (h : TQ P 0 u w l sa dn) : tapS (tLd (qNow u)) 4 = 0 := by
  have h2 := h.2.1.2.1
  refine tap_z 4 (fun t ht => ?_)
  unfold tLd
  rw [on_no (by omega) (h2 t (by omega) ht), if_neg (by decide)]
theorem q_sam {P : TP} {u : QV} {w : Nat → Int32} {l sa dn : Nat} {x : Int32} (hP : POK P) (h : TQ P 3 u w l sa dn) (hx : -20000 ≤ x.toInt ∧ x.toInt ≤ 20000) (hs : sa ≤ 1000) : rSam u x = cl (ouT P w l x 3) (pL P) ∧ TQ P 3 (qSam u x) (wsT w l (cl (rgT P w l x) (pL P))) l (sa + 1) (dn + 1) ∧ rOof (qSam u x) 0 = cl (ouT P w l x 3) (pL P) ∧ qSam u x = qSN (qKeep u) (sLet (qNow u) x) := by
  obtain ⟨ha, hb, hc, hh⟩ := h
  have hi : inR x (-20000) 20000 = true := inR_iff.mpr hx
  have he : eSam x = 0 := if_pos hi
  have ho := tq_out hP ha hb hx
  have hw := tq_wrd hP ha hb hx
  have hob : -30000 ≤ (sOut (qNow u) x).toInt ∧ (sOut (qNow u) x).toInt ≤ 30000 := by
    rw [ho]
    exact cl_bd hP.1.1 hP.1.2
  have hwb : -30000 ≤ (sWrd (qNow u) x).toInt ∧ (sWrd (qNow u) x).toInt ≤ 30000 := by
    rw [hw]
    exact cl_bd hP.1.1 hP.1.2
  obtain ⟨l1, l2, l3⟩ := tq_letc hc hs hob
  have e1 : rSam u x = sOut (qNow u) x := if_pos he
  have e2 : qSam u x = qSN (qKeep u) (sLet (qNow u) x) := if_pos he
  have e3 : rOof (qSN (qKeep u) (sLet (qNow u) x)) 0 = oAt (vRo (sLet (qNow u) x)) (vNe (sLet (qNow u) x)) (vKe (sLet (qNow u) x)) 0 := (if_pos (by decide)).trans (if_pos l3)
  have ha2 := tq_leta ha hwb
  rw [hw] at ha2
  rw [e2, e3, l2, e1]
  exact ⟨ho, ⟨ha2, hb, l1, th_ch _ hh⟩, ho, rfl⟩
theorem q_ste1 {P : TP} {u : QV} {w : Nat → Int32} {l sa dn k n : Nat} (h : TQ P n u w l sa dn) (h1 : 1 ≤ k) (h2 : k ≤ 20) (hk : 48 < 64 - l + k) : rSte u (nI k) = -1000003 ∧ qSte u (nI k) = u := by
  have hl := h.1.2.1
  have e : eSte (nI k) (64 - vLe (qNow u)) = -1000003 := by
    unfold eSte
    rw [nI_inR (a := 1) (b := 48) rfl rfl h1 (by omega) (by omega), if_pos rfl, h.1.2.2.1, show (64 : Int32) - nI l = nI (64 - l) from natSub (a := 64) (by omega), nI_add, if_neg]
    intro c
    have c2 := (nI_leI (b := 48) (by omega) (by omega)).mp c
    omega
  unfold rSte qSte
  rw [e]
  exact ⟨if_neg (by decide), if_neg (by decide)⟩
theorem ta_tak {v : SV} {w : Nat → Int32} {l k : Nat} (h : TA v w l) (hk : k + 16 ≤ l) : vLe (sTak v (nI k)) = nI (l - k) ∧ TA (sTak v (nI k)) (zrT w (l - k) 64) (l - k) := by
  obtain ⟨h1, h2, h3, ⟨fi, h4, h5, h6⟩, h7, h8⟩ := h
  have z : (0 : Int32).toInt = 0 := rfl
  have el : vLe (sTak v (nI k)) = nI (l - k) := by
    show imax (vLe v - nI k) 0 = _
    rw [h3, n_sub (by omega), imax_if, if_pos]
    rw [i_le, nI_toInt (by omega)]
    omega
  refine ⟨el, by omega, by omega, el, ⟨fi, h4, h5, fun j hj => ?_⟩, fun j a b => if_pos ⟨a, b⟩, fun j hj => ?_⟩
  · have e : zrT w (l - k) 64 j = w j := if_neg (by omega)
    rw [e]
    exact h6 j (by omega)
  · unfold zrT
    split
    · rw [z]
      omega
    · exact h8 j hj
theorem q_ste2 {P : TP} {u : QV} {w : Nat → Int32} {l sa dn k n : Nat} (h : TQ P n u w l sa dn) (h1 : 1 ≤ k) (hk : 64 - l + k ≤ 48) : rSte u (nI k) = nI (l - k) ∧ TQ P n (qSte u (nI k)) (zrT w (l - k) 64) (l - k) sa (dn + 1) := by
  obtain ⟨ha, hb, hc, hh⟩ := h
  have hl := ha.2.1
  have e : eSte (nI k) (64 - vLe (qNow u)) = 0 := by
    unfold eSte
    rw [nI_inR (a := 1) (b := 48) rfl rfl h1 (by omega) (by omega), if_pos rfl, ha.2.2.1, show (64 : Int32) - nI l = nI (64 - l) from natSub (a := 64) (by omega), nI_add, if_pos]
    exact (nI_leI (b := 48) (by omega) (by omega)).mpr hk
  obtain ⟨t1, t2⟩ := ta_tak (k := k) ha (by omega)
  have e1 : rSte u (nI k) = imax (vLe (qNow u) - nI k) 0 := if_pos e
  have e2 : qSte u (nI k) = qSN (qKeep u) (sTak (qNow u) (nI k)) := if_pos e
  rw [e1, e2]
  exact ⟨t1, t2, hb, hc, th_ch _ hh⟩
theorem q_giv1 {P : TP} {u : QV} {w : Nat → Int32} {l sa dn k n : Nat} (h : TQ P n u w l sa dn) (h1 : 1 ≤ k) (h2 : k ≤ 20) (hk : 64 - l < k) : rGiv u l (nI k) = -1000002 ∧ qGiv u l (nI k) = u := by
  have hl := h.1.2.1
  have e : eGiv (nI k) (64 - vLe (qNow u)) = -1000002 := by
    unfold eGiv
    rw [nI_inR (a := 1) (b := 48) rfl rfl h1 (by omega) (by omega), if_pos rfl, h.1.2.2.1, show (64 : Int32) - nI l = nI (64 - l) from natSub (a := 64) (by omega), if_neg]
    intro c
    have c2 := (nI_leI (by omega) (by omega)).mp c
    omega
  unfold rGiv qGiv
  rw [e]
  exact ⟨if_neg (by decide), if_neg (by decide)⟩
theorem q_giv2 {P : TP} {u : QV} {w : Nat → Int32} {l sa dn k n : Nat} (h : TQ P n u w l sa dn) (h1 : 1 ≤ k) (h2 : k ≤ 20) (hk : k ≤ 64 - l) : rGiv u l (nI k) = nI (l + k) ∧ TQ P n (qGiv u l (nI k)) w (l + k) sa (dn + 1) := by
  obtain ⟨ha, hb, hc, hh⟩ := h
  have hl := ha.2.1
  have e : eGiv (nI k) (64 - vLe (qNow u)) = 0 := by
    unfold eGiv
    rw [nI_inR (a := 1) (b := 48) rfl rfl h1 (by omega) (by omega), if_pos rfl, ha.2.2.1, show (64 : Int32) - nI l = nI (64 - l) from natSub (a := 64) (by omega), if_pos]
    exact (nI_leI (by omega) (by omega)).mpr hk
  have e1 : rGiv u l (nI k) = nI (l + (nI k).toNatClampNeg) := if_pos e
  have e2 : qGiv u l (nI k) = qSN (qKeep u) (sGiv (qNow u) l (nI k).toNatClampNeg) := if_pos e
  rw [e1, e2, nI_clamp (by omega)]
  refine ⟨rfl, ?_, hb, hc, th_ch _ hh⟩
  obtain ⟨h1, h2, h3, ⟨fi, h4, h5, h6⟩, h7, h8⟩ := ha
  refine ⟨by omega, by omega, rfl, ⟨fi, h4, h5, fun j hj => ?_⟩, fun j a b => h7 j (by omega) b, h8⟩
  show _ = rZf (vW (qNow u)) (vFi (qNow u)) l k ((fi + j) % 64)
  rw [h4, rZf_at _ _ _ h5 k (by omega) j (by omega)]
  by_cases c : j < l
  · rw [if_neg (by omega)]
    exact h6 j c
  · rw [if_pos (by omega)]
    exact h7 j (by omega) (by omega)
theorem q_tof {P : TP} {u : QV} {w : Nat → Int32} {l sa dn t : Nat} (hP : POK P) (h : TQ P 3 u w l sa dn) (ht : t < 3) : rTof u (nI t) 0 = nI (pD P t) ∧ rTof u (nI t) 1 = pG P t ∧ rTof u (nI t) 2 = (if pD P t ≤ l then 0 else 1) ∧ rTof u (nI t) 3 = rdT P w l t ∧ rTof u (nI t) 4 = shT P w l t := by
  obtain ⟨ha, hb, hc, hh⟩ := h
  have hp := hP.2.2.2 t ht
  have hd := (hb.1 t ht).1
  have i1 : inR (nI t) 0 4 = true := nI_inR (a := 0) (b := 4) rfl rfl (by omega) (by omega) (by omega)
  have io := on_yes (v := qNow u) (show t < 5 by omega) hd hp.1.1 hp.1.2
  have key : ∀ x : Int32, inR x 0 4 = true → rTof u (nI t) x = (if x = 0 then sDel (qNow u) (nI t) else if x = 1 then sGai (qNow u) (nI t) else if x = 2 then bI (sLost (qNow u) (nI t)) else if x = 3 then sRead (qNow u) (nI t) else sShare (qNow u) (nI t)) := fun x hx => by
    unfold rTof
    rw [i1, hx, io, if_pos rfl, if_pos rfl, if_pos rfl]
  refine ⟨?_, ?_, ?_, ?_, ?_⟩
  · rw [key 0 (by decide), if_pos rfl, del_eq (by omega), hd]
  · rw [key 1 (by decide), if_neg (by decide), if_pos rfl, gai_eq (by omega), (hb.1 t ht).2]
  · rw [key 2 (by decide), if_neg (by decide), if_neg (by decide), if_pos rfl, lost_if ha (by omega) hd hp.1.2]
  · rw [key 3 (by decide), if_neg (by decide), if_neg (by decide), if_neg (by decide), if_pos rfl, tq_read hP ha hb ht (by omega)]
  · rw [key 4 (by decide), if_neg (by decide), if_neg (by decide), if_neg (by decide), if_neg (by decide), tq_share hP ha hb ht (by omega)]
theorem q_wof {v : QV} {w : Nat → Int32} {l j : Nat} (h : TA (qNow v) w l) (hj : j < 64) : rWof v (nI j) = if j < l then w j else -1000004 := by
  have hl := h.2.1
  unfold rWof
  rw [nI_inR (a := 0) (b := 63) rfl rfl (by omega) (by omega) (by omega), if_pos rfl, h.2.2.1]
  have e := tq_at h hj
  rw [h.2.2.1] at e
  by_cases c : j < l
  · rw [if_pos c, if_pos ((nI_ltI (by omega) (by omega)).mpr c), e]
  · rw [if_neg c, if_neg (fun z => c ((nI_ltI (by omega) (by omega)).mp z))]
