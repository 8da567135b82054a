/-! ===== class and reference: what is done to a state ===== -/
theorem vp_updL_at (su : Nat → Int64) (k : Nat) (y : Int64) : vp_updL su k y k = y := by
  unfold vp_updL
  rw [if_pos rfl]
theorem sr_congr {v : SV} {f g : Nat → Int32} {S : Int64} {tk fi a : Nat} (h : SR v f S tk fi a) (e : ∀ j, j < 100 → g j = f j) : SR v g S tk fi a := by
  obtain ⟨⟨a1, a2, a3, a4, a5, a6, a7, a8⟩, ⟨b1, b2, b3, b4, b5⟩, ⟨c1, c2, c3⟩, ⟨d1, d2, d3, d4, d5, d6⟩, ⟨ne, ko, e1, e2, e3, e4, e5, e6⟩, g1⟩ := h
  refine ⟨⟨(e _ (by decide)).trans a1, a2, a3, a4, a5, fun j hj => (e _ (by omega)).trans (a6 j hj), fun j p q => (e _ (by omega)).trans (a7 j p q), fun j hj => by rw [e _ (by omega)]; exact a8 j hj⟩, ⟨fun t ht => ?_, (e _ (by decide)).trans b2, (e _ (by decide)).trans b3, b4, b5⟩, ⟨(e _ (by decide)).trans c1, (e _ (by decide)).trans c2, c3⟩, ⟨(e _ (by decide)).trans d1, d2, (e _ (by decide)).trans d3, (e _ (by decide)).trans d4, (e _ (by decide)).trans d5, d6⟩, ⟨ne, ko, e1, e2, e3, e4, (e _ (by decide)).trans e5, fun j hj => (e _ (by omega)).trans (e6 j hj)⟩, (e _ (by decide)).trans g1⟩
  rw [e (65 + t) (by omega), e (69 + t) (by omega), e (74 + t) (by omega)]
  exact b1 t ht
theorem go_ok {v : SV} {s : Nat → Int32} {su : Nat → Int64} {k tk fi a : Nat} {x : Int32} (h : SR v (sl s k) (su k) tk fi a) (ha : a ≤ 2000000000) (hx : -30000 ≤ x.toInt ∧ x.toInt ≤ 30000) : SR (sLet v x) (sl (gS s k x) k) (gSu su s k x k) tk ((fi + 63) % 64) (a + 1) := by
  have h1 := let_ok h ha hx
  unfold gSu
  rw [vp_updL_at]
  exact sr_congr h1 (fun j hj => sl_slP _ _ _ hj)
theorem go_out {v : SV} {s : Nat → Int32} {S : Int64} {k tk fi a : Nat} (x : Int32) (h : SR v (sl s k) S tk fi a) : gOut (sl s k) x = sOut v x := out_eq h.1 h.2.1 h.2.2.1 x
theorem z30 : -30000 ≤ (0 : Int32).toInt ∧ (0 : Int32).toInt ≤ 30000 := by decide
theorem sil_ok {v : SV} {s : Nat → Int32} {su : Nat → Int64} {tk fi a : Nat} (h : SR v (sl s 0) (su 0) tk fi a) : ∀ n, a + n ≤ 2000000000 → (∃ fi', SR (sSil v n).1 (sl (mSil (s, su) n).1.1 0) ((mSil (s, su) n).1.2 0) tk fi' (a + n)) ∧ (mSil (s, su) n).2 = (sSil v n).2
  | 0, _ => ⟨⟨fi, h⟩, rfl⟩
  | n + 1, hn => by
    obtain ⟨⟨fi', h1⟩, h2⟩ := sil_ok h n (by omega)
    refine ⟨⟨(fi' + 63) % 64, go_ok h1 (show a + n ≤ 2000000000 by omega) z30⟩, ?_⟩
    show (if amt (gOut (sl (mSil (s, su) n).1.1 0) 0) ≤ (mSil (s, su) n).2 then (mSil (s, su) n).2 else amt (gOut (sl (mSil (s, su) n).1.1 0) 0)) = imax (sSil v n).2 (iabs (sOut (sSil v n).1 0))
    rw [go_out 0 h1, h2, amt_abs, imax_if]
theorem sil_bd {v : SV} {s : Nat → Int32} {su : Nat → Int64} {tk fi a : Nat} (h : SR v (sl s 0) (su 0) tk fi a) : ∀ n, a + n ≤ 2000000000 → 0 ≤ (sSil v n).2.toInt ∧ (sSil v n).2.toInt ≤ 30000
  | 0, _ => by
    have z : (0 : Int32).toInt = 0 := rfl
    show 0 ≤ (0 : Int32).toInt ∧ (0 : Int32).toInt ≤ 30000
    omega
  | n + 1, hn => by
    obtain ⟨⟨fi', h1⟩, h2⟩ := sil_ok h n (by omega)
    have h3 := sil_bd h n (by omega)
    have hb := out_bd h1.1 h1.2.1 h1.2.2.1 z30
    have hi := iabs_toInt (x := sOut (sSil v n).1 0) (by omega)
    show 0 ≤ (imax (sSil v n).2 (iabs (sOut (sSil v n).1 0))).toInt ∧ (imax (sSil v n).2 (iabs (sOut (sSil v n).1 0))).toInt ≤ 30000
    rw [imax_if]
    split <;> omega
theorem tap_ok {v : SV} {s : Nat → Int32} {S : Int64} {tk fi a t dn : Nat} {g : Int32} (h : SR v (sl s 0) S tk fi a) (ht : t < 4) (h1 : 1 ≤ dn) (h2 : dn ≤ 64) (hg : -950 ≤ g.toInt ∧ g.toInt ≤ 950) : SR (sPut v (nI t) (nI dn) g) (sl (mTap s t (nI dn) g) 0) S tk fi a := by
  have hp : sPut v (nI t) (nI dn) g = mkS (vW v) (vFi v) (vLe v) (vRo v) (vNe v) (vKe v) (vSa v) (vGr v) (vHo v) (vHw v) (vSu v) (upd (vDe v) t (nI dn)) (upd (vGa v) t g) (vLi v) (vSh v) (vSl v) := by
    unfold sPut
    rw [rowOk_nI (by omega), if_pos rfl, nI_clamp (by omega)]
  have e : ∀ j, j ≠ 65 + t → j ≠ 69 + t → j ≠ 74 + t → sl (mTap s t (nI dn) g) 0 j = sl s 0 j := fun j p q r => by
    rw [sl0, sl0]
    unfold mTap
    rw [pk_un r, pk_un q, pk_un p]
  have e65 : sl (mTap s t (nI dn) g) 0 (65 + t) = 1 := by
    rw [sl0]
    unfold mTap
    rw [pk_un (by omega), pk_un (by omega), pk_us]
  have e69 : sl (mTap s t (nI dn) g) 0 (69 + t) = nI dn := by
    rw [sl0]
    unfold mTap
    rw [pk_un (by omega), pk_us]
  have e74 : sl (mTap s t (nI dn) g) 0 (74 + t) = g := by
    rw [sl0]
    unfold mTap
    rw [pk_us]
  obtain ⟨⟨a1, a2, a3, a4, a5, a6, a7, a8⟩, ⟨b1, b2, b3, b4, b5⟩, ⟨c1, c2, c3⟩, ⟨d1, d2, d3, d4, d5, d6⟩, ⟨ne, ko, e1, e2, e3, e4, e5, e6⟩, g1⟩ := h
  rw [hp]
  refine ⟨⟨(e _ (by omega) (by omega) (by omega)).trans a1, a2, a3, a4, a5, fun j hj => (e _ (by omega) (by omega) (by omega)).trans (a6 j hj), fun j p q => (e _ (by omega) (by omega) (by omega)).trans (a7 j p q), fun j hj => by rw [e _ (by omega) (by omega) (by omega)]; exact a8 j hj⟩, ⟨fun i hi => ?_, ?_, ?_, ?_, ?_⟩, ⟨(e _ (by omega) (by omega) (by omega)).trans c1, (e _ (by omega) (by omega) (by omega)).trans c2, c3⟩, ⟨(e _ (by omega) (by omega) (by omega)).trans d1, d2, (e _ (by omega) (by omega) (by omega)).trans d3, (e _ (by omega) (by omega) (by omega)).trans d4, (e _ (by omega) (by omega) (by omega)).trans d5, d6⟩, ⟨ne, ko, e1, e2, e3, e4, (e _ (by omega) (by omega) (by omega)).trans e5, fun j hj => (e _ (by omega) (by omega) (by omega)).trans (e6 j hj)⟩, (e _ (by omega) (by omega) (by omega)).trans g1⟩
  · by_cases hi2 : i = t
    · subst hi2
      refine Or.inr ⟨e65, e69.trans pk_us.symm, e74.trans pk_us.symm, ?_, dn, pk_us, h1, h2⟩
      show -950 ≤ (upd (vGa v) i g i).toInt ∧ (upd (vGa v) i g i).toInt ≤ 950
      rw [pk_us]
      exact hg
    · have q1 : upd (vDe v) t (nI dn) i = vDe v i := pk_un hi2
      have q2 : upd (vGa v) t g i = vGa v i := pk_un hi2
      show (_ ∧ upd (vDe v) t (nI dn) i = 0) ∨ (_ ∧ _ = upd (vDe v) t (nI dn) i ∧ _ = upd (vGa v) t g i ∧ (-950 ≤ (upd (vGa v) t g i).toInt ∧ (upd (vGa v) t g i).toInt ≤ 950) ∧ ∃ d, upd (vDe v) t (nI dn) i = nI d ∧ 1 ≤ d ∧ d ≤ 64)
      rw [q1, q2, e (65 + i) (by omega) (by omega) (by omega), e (69 + i) (by omega) (by omega) (by omega), e (74 + i) (by omega) (by omega) (by omega)]
      exact b1 i hi
  · show _ = upd (vDe v) t (nI dn) 4
    rw [pk_un (by omega), e _ (by omega) (by omega) (by omega)]
    exact b2
  · show _ = upd (vGa v) t g 4
    rw [pk_un (by omega), e _ (by omega) (by omega) (by omega)]
    exact b3
  · show -950 ≤ (upd (vGa v) t g 4).toInt ∧ (upd (vGa v) t g 4).toInt ≤ 950
    rw [pk_un (by omega)]
    exact b4
  · show ∃ d, upd (vDe v) t (nI dn) 4 = nI d ∧ 1 ≤ d ∧ d ≤ 64
    rw [pk_un (by omega)]
    exact b5
theorem off_ok {v : SV} {s : Nat → Int32} {S : Int64} {tk fi a t : Nat} (h : SR v (sl s 0) S tk fi a) (ht : t < 4) : SR (sPut v (nI t) 0 0) (sl (upd s (65 + t) 0) 0) S tk fi a := by
  have hp : sPut v (nI t) 0 0 = mkS (vW v) (vFi v) (vLe v) (vRo v) (vNe v) (vKe v) (vSa v) (vGr v) (vHo v) (vHw v) (vSu v) (upd (vDe v) t 0) (upd (vGa v) t 0) (vLi v) (vSh v) (vSl v) := by
    unfold sPut
    rw [rowOk_nI (by omega), if_pos rfl, nI_clamp (by omega)]
  have e : ∀ j, j ≠ 65 + t → sl (upd s (65 + t) 0) 0 j = sl s 0 j := fun j p => by
    rw [sl0, sl0, pk_un p]
  have e65 : sl (upd s (65 + t) 0) 0 (65 + t) = 0 := by
    rw [sl0, pk_us]
  obtain ⟨⟨a1, a2, a3, a4, a5, a6, a7, a8⟩, ⟨b1, b2, b3, b4, b5⟩, ⟨c1, c2, c3⟩, ⟨d1, d2, d3, d4, d5, d6⟩, ⟨ne, ko, e1, e2, e3, e4, e5, e6⟩, g1⟩ := h
  rw [hp]
  refine ⟨⟨(e _ (by omega)).trans a1, a2, a3, a4, a5, fun j hj => (e _ (by omega)).trans (a6 j hj), fun j p q => (e _ (by omega)).trans (a7 j p q), fun j hj => by rw [e _ (by omega)]; exact a8 j hj⟩, ⟨fun i hi => ?_, ?_, ?_, ?_, ?_⟩, ⟨(e _ (by omega)).trans c1, (e _ (by omega)).trans c2, c3⟩, ⟨(e _ (by omega)).trans d1, d2, (e _ (by omega)).trans d3, (e _ (by omega)).trans d4, (e _ (by omega)).trans d5, d6⟩, ⟨ne, ko, e1, e2, e3, e4, (e _ (by omega)).trans e5, fun j hj => (e _ (by omega)).trans (e6 j hj)⟩, (e _ (by omega)).trans g1⟩
  · by_cases hi2 : i = t
    · subst hi2
      exact Or.inl ⟨e65, pk_us⟩
    · have q1 : upd (vDe v) t 0 i = vDe v i := pk_un hi2
      have q2 : upd (vGa v) t 0 i = vGa v i := pk_un hi2
      show (_ ∧ upd (vDe v) t 0 i = 0) ∨ (_ ∧ _ = upd (vDe v) t 0 i ∧ _ = upd (vGa v) t 0 i ∧ (-950 ≤ (upd (vGa v) t 0 i).toInt ∧ (upd (vGa v) t 0 i).toInt ≤ 950) ∧ ∃ d, upd (vDe v) t 0 i = nI d ∧ 1 ≤ d ∧ d ≤ 64)
      rw [q1, q2, e (65 + i) (by omega), e (69 + i) (by omega), e (74 + i) (by omega)]
      exact b1 i hi
  · show _ = upd (vDe v) t 0 4
    rw [pk_un (by omega), e _ (by omega)]
    exact b2
  · show _ = upd (vGa v) t 0 4
    rw [pk_un (by omega), e _ (by omega)]
    exact b3
  · show -950 ≤ (upd (vGa v) t 0 4).toInt ∧ (upd (vGa v) t 0 4).toInt ≤ 950
    rw [pk_un (by omega)]
    exact b4
  · show ∃ d, upd (vDe v) t 0 4 = nI d ∧ 1 ≤ d ∧ d ≤ 64
    rw [pk_un (by omega)]
    exact b5
theorem fee_ok {v : SV} {s : Nat → Int32} {S : Int64} {tk fi a dn : Nat} {g : Int32} (h : SR v (sl s 0) S tk fi a) (h1 : 1 ≤ dn) (h2 : dn ≤ 64) (hg : -950 ≤ g.toInt ∧ g.toInt ≤ 950) : SR (sPut v 4 (nI dn) g) (sl (upd (upd s 73 (nI dn)) 78 g) 0) S tk fi a := by
  have hp : sPut v 4 (nI dn) g = mkS (vW v) (vFi v) (vLe v) (vRo v) (vNe v) (vKe v) (vSa v) (vGr v) (vHo v) (vHw v) (vSu v) (upd (vDe v) 4 (nI dn)) (upd (vGa v) 4 g) (vLi v) (vSh v) (vSl v) := rfl
  have e : ∀ j, j ≠ 73 → j ≠ 78 → sl (upd (upd s 73 (nI dn)) 78 g) 0 j = sl s 0 j := fun j p q => by
    rw [sl0, sl0, pk_un q, pk_un p]
  have e73 : sl (upd (upd s 73 (nI dn)) 78 g) 0 73 = nI dn := by
    rw [sl0, pk_un (by omega), pk_us]
  have e78 : sl (upd (upd s 73 (nI dn)) 78 g) 0 78 = g := by
    rw [sl0, pk_us]
  obtain ⟨⟨a1, a2, a3, a4, a5, a6, a7, a8⟩, ⟨b1, b2, b3, b4, b5⟩, ⟨c1, c2, c3⟩, ⟨d1, d2, d3, d4, d5, d6⟩, ⟨ne, ko, e1, e2, e3, e4, e5, e6⟩, g1⟩ := h
  rw [hp]
  refine ⟨⟨(e _ (by omega) (by omega)).trans a1, a2, a3, a4, a5, fun j hj => (e _ (by omega) (by omega)).trans (a6 j hj), fun j p q => (e _ (by omega) (by omega)).trans (a7 j p q), fun j hj => by rw [e _ (by omega) (by omega)]; exact a8 j hj⟩, ⟨fun i hi => ?_, ?_, ?_, ?_, ?_⟩, ⟨(e _ (by omega) (by omega)).trans c1, (e _ (by omega) (by omega)).trans c2, c3⟩, ⟨(e _ (by omega) (by omega)).trans d1, d2, (e _ (by omega) (by omega)).trans d3, (e _ (by omega) (by omega)).trans d4, (e _ (by omega) (by omega)).trans d5, d6⟩, ⟨ne, ko, e1, e2, e3, e4, (e _ (by omega) (by omega)).trans e5, fun j hj => (e _ (by omega) (by omega)).trans (e6 j hj)⟩, (e _ (by omega) (by omega)).trans g1⟩
  · have q1 : upd (vDe v) 4 (nI dn) i = vDe v i := pk_un (by omega)
    have q2 : upd (vGa v) 4 g i = vGa v i := pk_un (by omega)
    show (_ ∧ upd (vDe v) 4 (nI dn) i = 0) ∨ (_ ∧ _ = upd (vDe v) 4 (nI dn) i ∧ _ = upd (vGa v) 4 g i ∧ (-950 ≤ (upd (vGa v) 4 g i).toInt ∧ (upd (vGa v) 4 g i).toInt ≤ 950) ∧ ∃ d, upd (vDe v) 4 (nI dn) i = nI d ∧ 1 ≤ d ∧ d ≤ 64)
    rw [q1, q2, e (65 + i) (by omega) (by omega), e (69 + i) (by omega) (by omega), e (74 + i) (by omega) (by omega)]
    exact b1 i hi
  · show _ = upd (vDe v) 4 (nI dn) 4
    rw [pk_us, e73]
  · show _ = upd (vGa v) 4 g 4
    rw [pk_us, e78]
  · show -950 ≤ (upd (vGa v) 4 g 4).toInt ∧ (upd (vGa v) 4 g 4).toInt ≤ 950
    rw [pk_us]
    exact hg
  · refine ⟨dn, ?_, h1, h2⟩
    show upd (vDe v) 4 (nI dn) 4 = nI dn
    rw [pk_us]
theorem lim_ok {v : SV} {s : Nat → Int32} {S : Int64} {tk fi a : Nat} {x : Int32} (h : SR v (sl s 0) S tk fi a) (h1 : 100 ≤ x.toInt) (h2 : x.toInt ≤ 30000) : SR (sSet v 0 x) (sl (upd s 79 x) 0) S tk fi a := by
  have hp : sSet v 0 x = mkS (vW v) (vFi v) (vLe v) (vRo v) (vNe v) (vKe v) (vSa v) (vGr v) (vHo v) (vHw v) (vSu v) (vDe v) (vGa v) x (vSh v) (vSl v) := rfl
  have e : ∀ j, j ≠ 79 → sl (upd s 79 x) 0 j = sl s 0 j := fun j p => by
    rw [sl0, sl0, pk_un p]
  have e79 : sl (upd s 79 x) 0 79 = x := by
    rw [sl0, pk_us]
  obtain ⟨⟨a1, a2, a3, a4, a5, a6, a7, a8⟩, ⟨b1, b2, b3, b4, b5⟩, ⟨c1, c2, c3⟩, ⟨d1, d2, d3, d4, d5, d6⟩, ⟨ne, ko, e1, e2, e3, e4, e5, e6⟩, g1⟩ := h
  rw [hp]
  refine ⟨⟨(e _ (by omega)).trans a1, a2, a3, a4, a5, fun j hj => (e _ (by omega)).trans (a6 j hj), fun j p q => (e _ (by omega)).trans (a7 j p q), fun j hj => by rw [e _ (by omega)]; exact a8 j hj⟩, ⟨fun i hi => ?_, (e _ (by omega)).trans b2, (e _ (by omega)).trans b3, b4, b5⟩, ⟨e79, (e _ (by omega)).trans c2, h1, h2, c3.2.2⟩, ⟨(e _ (by omega)).trans d1, d2, (e _ (by omega)).trans d3, (e _ (by omega)).trans d4, (e _ (by omega)).trans d5, d6⟩, ⟨ne, ko, e1, e2, e3, e4, (e _ (by omega)).trans e5, fun j hj => (e _ (by omega)).trans (e6 j hj)⟩, (e _ (by omega)).trans g1⟩
  rw [e (65 + i) (by omega), e (69 + i) (by omega), e (74 + i) (by omega)]
  exact b1 i hi
theorem shape_ok {v : SV} {s : Nat → Int32} {S : Int64} {tk fi a : Nat} {x : Int32} (h : SR v (sl s 0) S tk fi a) (h1 : x = 0 ∨ x = 1 ∨ x = 2) : SR (sSet v 1 x) (sl (upd s 80 x) 0) S tk fi a := by
  have hp : sSet v 1 x = mkS (vW v) (vFi v) (vLe v) (vRo v) (vNe v) (vKe v) (vSa v) (vGr v) (vHo v) (vHw v) (vSu v) (vDe v) (vGa v) (vLi v) x (vSl v) := rfl
  have e : ∀ j, j ≠ 80 → sl (upd s 80 x) 0 j = sl s 0 j := fun j p => by
    rw [sl0, sl0, pk_un p]
  have e80 : sl (upd s 80 x) 0 80 = x := by
    rw [sl0, pk_us]
  obtain ⟨⟨a1, a2, a3, a4, a5, a6, a7, a8⟩, ⟨b1, b2, b3, b4, b5⟩, ⟨c1, c2, c3⟩, ⟨d1, d2, d3, d4, d5, d6⟩, ⟨ne, ko, e1, e2, e3, e4, e5, e6⟩, g1⟩ := h
  rw [hp]
  refine ⟨⟨(e _ (by omega)).trans a1, a2, a3, a4, a5, fun j hj => (e _ (by omega)).trans (a6 j hj), fun j p q => (e _ (by omega)).trans (a7 j p q), fun j hj => by rw [e _ (by omega)]; exact a8 j hj⟩, ⟨fun i hi => ?_, (e _ (by omega)).trans b2, (e _ (by omega)).trans b3, b4, b5⟩, ⟨(e _ (by omega)).trans c1, e80, c3.1, c3.2.1, h1⟩, ⟨(e _ (by omega)).trans d1, d2, (e _ (by omega)).trans d3, (e _ (by omega)).trans d4, (e _ (by omega)).trans d5, d6⟩, ⟨ne, ko, e1, e2, e3, e4, (e _ (by omega)).trans e5, fun j hj => (e _ (by omega)).trans (e6 j hj)⟩, (e _ (by omega)).trans g1⟩
  rw [e (65 + i) (by omega), e (69 + i) (by omega), e (74 + i) (by omega)]
  exact b1 i hi
theorem rst_ok {v : SV} {s : Nat → Int32} {S : Int64} {tk fi a : Nat} (h : SR v (sl s 0) S tk fi a) : SR (sRst v) (sl (upd (upd (upd (upd s 81 0) 82 0) 83 0) 84 0) 0) 0 tk fi 0 := by
  have e : ∀ j, j ≠ 81 → j ≠ 82 → j ≠ 83 → j ≠ 84 → sl (upd (upd (upd (upd s 81 0) 82 0) 83 0) 84 0) 0 j = sl s 0 j := fun j p q r t => by
    rw [sl0, sl0, pk_un t, pk_un r, pk_un q, pk_un p]
  have f1 : sl (upd (upd (upd (upd s 81 0) 82 0) 83 0) 84 0) 0 81 = 0 := by
    rw [sl0, pk_un (by omega), pk_un (by omega), pk_un (by omega), pk_us]
  have f2 : sl (upd (upd (upd (upd s 81 0) 82 0) 83 0) 84 0) 0 82 = 0 := by
    rw [sl0, pk_un (by omega), pk_un (by omega), pk_us]
  have f3 : sl (upd (upd (upd (upd s 81 0) 82 0) 83 0) 84 0) 0 83 = 0 := by
    rw [sl0, pk_un (by omega), pk_us]
  have f4 : sl (upd (upd (upd (upd s 81 0) 82 0) 83 0) 84 0) 0 84 = 0 := by
    rw [sl0, pk_us]
  have g : ∀ j, j < 81 ∨ 84 < j → sl (upd (upd (upd (upd s 81 0) 82 0) 83 0) 84 0) 0 j = sl s 0 j := fun j z => e j (by omega) (by omega) (by omega) (by omega)
  obtain ⟨⟨a1, a2, a3, a4, a5, a6, a7, a8⟩, ⟨b1, b2, b3, b4, b5⟩, ⟨c1, c2, c3⟩, ⟨d1, d2, d3, d4, d5, d6⟩, ⟨ne, ko, e1, e2, e3, e4, e5, e6⟩, g1⟩ := h
  have z : (0 : Int64).toInt = 0 := rfl
  refine ⟨⟨(g _ (by omega)).trans a1, a2, a3, a4, a5, fun j hj => (g _ (by omega)).trans (a6 j hj), fun j p q => (g _ (by omega)).trans (a7 j p q), fun j hj => by rw [g _ (by omega)]; exact a8 j hj⟩, ⟨fun i hi => ?_, (g _ (by omega)).trans b2, (g _ (by omega)).trans b3, b4, b5⟩, ⟨(g _ (by omega)).trans c1, (g _ (by omega)).trans c2, c3⟩, ⟨f1, rfl, f2, f3, f4, rfl, by rw [z]; omega, by rw [z]; omega⟩, ⟨ne, ko, e1, e2, e3, e4, (g _ (by omega)).trans e5, fun j hj => (g _ (by omega)).trans (e6 j hj)⟩, (g _ (by omega)).trans g1⟩
  rw [g (65 + i) (by omega), g (69 + i) (by omega), g (74 + i) (by omega)]
  exact b1 i hi
theorem ste_ok {v : SV} {s : Nat → Int32} {S : Int64} {tk fi a w : Nat} (h : SR v (sl s 0) S tk fi a) (hw : tk + w ≤ 48) : SR (sTak v (nI w)) (sl (mSt3 s tk w) 0) S (tk + w) fi a := by
  obtain ⟨⟨a1, a2, a3, a4, a5, a6, a7, a8⟩, ⟨b1, b2, b3, b4, b5⟩, ⟨c1, c2, c3⟩, ⟨d1, d2, d3, d4, d5, d6⟩, ⟨ne, ko, e1, e2, e3, e4, e5, e6⟩, g1⟩ := h
  have i64 : sl (mSt3 s tk w) 0 64 = nI (tk + w) := by
    rw [sl0]
    unfold mSt3 zfA
    rw [if_neg (by omega)]
    unfold mSt2 mSt1
    rw [pk_un (by omega), pk_us]
  have i98 : sl (mSt3 s tk w) 0 98 = vSl v + nI w := by
    rw [sl0] at g1
    rw [sl0]
    unfold mSt3 zfA
    rw [if_neg (by omega)]
    unfold mSt2 mSt1
    rw [pk_us, pk_un (by omega), g1]
  have iz : ∀ j, 64 - (tk + w) ≤ j → j < 64 → sl (mSt3 s tk w) 0 j = 0 := fun j p q => by
    rw [sl0]
    unfold mSt3 zfA
    rw [if_pos (by omega)]
  have g : ∀ j, j < 64 - (tk + w) ∨ (64 < j ∧ j ≠ 98) → sl (mSt3 s tk w) 0 j = sl s 0 j := fun j z => by
    rw [sl0, sl0]
    unfold mSt3 zfA
    rw [if_neg (by omega)]
    unfold mSt2 mSt1
    rw [pk_un (by omega), pk_un (by omega)]
  have el : vLe (sTak v (nI w)) = nI (64 - (tk + w)) := by
    show imax (vLe v - nI w) 0 = _
    rw [a3, show nI (64 - tk) - nI w = nI (64 - (tk + w)) from natSub (a := 64 - tk) (b := w) (by omega), imax_if, if_pos]
    rw [i_le, nI_toInt (by omega)]
    have z : (0 : Int32).toInt = 0 := rfl
    omega
  have z : (0 : Int32).toInt = 0 := rfl
  refine ⟨⟨i64, hw, el, a4, a5, fun j hj => (g _ (by omega)).trans (a6 j (by omega)), fun j p q => iz j p q, fun j hj => ?_⟩, ⟨fun i hi => ?_, (g _ (by omega)).trans b2, (g _ (by omega)).trans b3, b4, b5⟩, ⟨(g _ (by omega)).trans c1, (g _ (by omega)).trans c2, c3⟩, ⟨(g _ (by omega)).trans d1, d2, (g _ (by omega)).trans d3, (g _ (by omega)).trans d4, (g _ (by omega)).trans d5, d6⟩, ⟨ne, ko, e1, e2, e3, e4, (g _ (by omega)).trans e5, fun j hj => (g _ (by omega)).trans (e6 j hj)⟩, i98⟩
  · by_cases hl : j < 64 - (tk + w)
    · rw [g _ (by omega)]
      exact a8 j hj
    · rw [iz j (by omega) hj]
      omega
  · rw [g (65 + i) (by omega), g (69 + i) (by omega), g (74 + i) (by omega)]
    exact b1 i hi
theorem rZf_at (w : Nat → Int32) (fi l : Nat) (h : fi < 64) : ∀ k, l + k ≤ 64 → ∀ j, j < 64 → rZf w (nI fi) l k ((fi + j) % 64) = if l ≤ j ∧ j < l + k then 0 else w ((fi + j) % 64)
  | 0, _, j, _ => by
    rw [if_neg (by omega)]
    rfl
  | k + 1, hk, j, hj => by
    have ih := rZf_at w fi l h k (by omega) j hj
    show upd (rZf w (nI fi) l k) ((nI fi + nI (l + k)) &&& 63).toNatClampNeg 0 ((fi + j) % 64) = _
    rw [nI_add, nI_and63, nI_clamp (by omega)]
    by_cases e : j = l + k
    · subst e
      rw [show (fi + (l + k)) % 64 = (fi + (l + k)) % 64 from rfl, pk_us, if_pos (by omega)]
    · rw [pk_un (by omega), ih]
      by_cases e2 : l ≤ j ∧ j < l + k
      · rw [if_pos e2, if_pos (by omega)]
      · rw [if_neg e2, if_neg (by omega)]
theorem giv_ok {v : SV} {s : Nat → Int32} {S : Int64} {tk fi a w : Nat} (h : SR v (sl s 0) S tk fi a) (hw : w ≤ tk) : SR (sGiv v (64 - tk) w) (sl (upd s 64 (nI (tk - w))) 0) S (tk - w) fi a := by
  obtain ⟨⟨a1, a2, a3, a4, a5, a6, a7, a8⟩, ⟨b1, b2, b3, b4, b5⟩, ⟨c1, c2, c3⟩, ⟨d1, d2, d3, d4, d5, d6⟩, ⟨ne, ko, e1, e2, e3, e4, e5, e6⟩, g1⟩ := h
  have g : ∀ j, j ≠ 64 → sl (upd s 64 (nI (tk - w))) 0 j = sl s 0 j := fun j z => by
    rw [sl0, sl0, pk_un z]
  have i64 : sl (upd s 64 (nI (tk - w))) 0 64 = nI (tk - w) := by
    rw [sl0, pk_us]
  refine ⟨⟨i64, by omega, ?_, a4, a5, fun j hj => ?_, fun j p q => (g _ (by omega)).trans (a7 j (by omega) q), fun j hj => by rw [g _ (by omega)]; exact a8 j hj⟩, ⟨fun i hi => ?_, (g _ (by omega)).trans b2, (g _ (by omega)).trans b3, b4, b5⟩, ⟨(g _ (by omega)).trans c1, (g _ (by omega)).trans c2, c3⟩, ⟨(g _ (by omega)).trans d1, d2, (g _ (by omega)).trans d3, (g _ (by omega)).trans d4, (g _ (by omega)).trans d5, d6⟩, ⟨ne, ko, e1, e2, e3, e4, (g _ (by omega)).trans e5, fun j hj => (g _ (by omega)).trans (e6 j hj)⟩, (g _ (by omega)).trans g1⟩
  · show nI (64 - tk + w) = nI (64 - (tk - w))
    congr 1
    omega
  · show _ = rZf (vW v) (vFi v) (64 - tk) w ((fi + j) % 64)
    rw [a4, rZf_at _ _ _ a5 w (by omega) j (by omega), g _ (by omega)]
    by_cases hl : j < 64 - tk
    · rw [if_neg (by omega)]
      exact a6 j hl
    · rw [if_pos (by omega)]
      exact a7 j (by omega) (by omega)
  · rw [g (65 + i) (by omega), g (69 + i) (by omega), g (74 + i) (by omega)]
    exact b1 i hi
theorem mcp_ok {v : SV} {s : Nat → Int32} {su : Nat → Int64} {p q tk fi a : Nat} (h : SR v (sl s p) (su p) tk fi a) : SR v (sl (mCp s p q) q) (mCu su p q q) tk fi a := by
  unfold mCu
  rw [vp_updL_at]
  exact sr_congr h (fun j hj => sl_slP _ _ _ hj)
theorem mcp_ne {v : SV} {s : Nat → Int32} {su : Nat → Int64} {p q r tk fi a : Nat} (hr : q ≠ r) (h : SR v (sl s r) (su r) tk fi a) : SR v (sl (mCp s p q) r) (mCu su p q r) tk fi a := by
  have e : mCu su p q r = su r := by
    unfold mCu vp_updL
    exact if_neg (fun z => hr z.symm)
  rw [e]
  exact sr_congr h (fun j hj => sl_slP_ne _ _ _ _ hr hj)
theorem cpy_at (f g : Nat → Int32) {n k : Nat} (h : k < n) : va_cpy f g 0 0 n k = f k := by
  unfold va_cpy
  rw [if_pos (by omega)]
  congr 1
  omega
theorem cpy_ok {v u : SV} {f : Nat → Int32} {S : Int64} {tk fi a : Nat} (h : SR u f S tk fi a) : SR (sCpy v u) f S tk fi a := by
  obtain ⟨⟨a1, a2, a3, a4, a5, a6, a7, a8⟩, ⟨b1, b2, b3, b4, b5⟩, ⟨c1, c2, c3⟩, ⟨d1, d2, d3, d4, d5, d6⟩, ⟨ne, ko, e1, e2, e3, e4, e5, e6⟩, g1⟩ := h
  refine ⟨⟨a1, a2, a3, a4, a5, fun j hj => ?_, a7, a8⟩, ⟨fun t ht => ?_, ?_, ?_, ?_, ?_⟩, ⟨c1, c2, c3⟩, ⟨d1, d2, d3, d4, d5, d6⟩, ⟨ne, ko, e1, e2, e3, e4, e5, fun j hj => ?_⟩, g1⟩
  · show _ = va_cpy (vW u) (vW v) 0 0 64 ((fi + j) % 64)
    rw [cpy_at _ _ (by omega)]
    exact a6 j hj
  · have q1 : va_cpy (vDe u) (vDe v) 0 0 5 t = vDe u t := cpy_at _ _ (by omega)
    have q2 : va_cpy (vGa u) (vGa v) 0 0 5 t = vGa u t := cpy_at _ _ (by omega)
    show (_ ∧ va_cpy (vDe u) (vDe v) 0 0 5 t = 0) ∨ (_ ∧ _ = va_cpy (vDe u) (vDe v) 0 0 5 t ∧ _ = va_cpy (vGa u) (vGa v) 0 0 5 t ∧ (-950 ≤ (va_cpy (vGa u) (vGa v) 0 0 5 t).toInt ∧ (va_cpy (vGa u) (vGa v) 0 0 5 t).toInt ≤ 950) ∧ ∃ d, va_cpy (vDe u) (vDe v) 0 0 5 t = nI d ∧ 1 ≤ d ∧ d ≤ 64)
    rw [q1, q2]
    exact b1 t ht
  · show _ = va_cpy (vDe u) (vDe v) 0 0 5 4
    rw [cpy_at _ _ (by omega)]
    exact b2
  · show _ = va_cpy (vGa u) (vGa v) 0 0 5 4
    rw [cpy_at _ _ (by omega)]
    exact b3
  · show -950 ≤ (va_cpy (vGa u) (vGa v) 0 0 5 4).toInt ∧ (va_cpy (vGa u) (vGa v) 0 0 5 4).toInt ≤ 950
    rw [cpy_at _ _ (by omega)]
    exact b4
  · show ∃ d, va_cpy (vDe u) (vDe v) 0 0 5 4 = nI d ∧ 1 ≤ d ∧ d ≤ 64
    rw [cpy_at _ _ (by omega)]
    exact b5
  · show _ = va_cpy (vRo u) (vRo v) 0 0 12 ((ne + 11 - j) % 12)
    rw [cpy_at _ _ (by omega)]
    exact e6 j hj
theorem fillI_at (w : Nat → Int32) (x : Int32) : ∀ n j, fillI w x n j = if j < n then x else w j
  | 0, j => by
    rw [if_neg (by omega)]
    rfl
  | n + 1, j => by
    show upd (fillI w x n) n x j = _
    by_cases e : j = n
    · subst e
      rw [pk_us, if_pos (by omega)]
    · rw [pk_un e, fillI_at w x n j]
      by_cases h : j < n
      · rw [if_pos h, if_pos (by omega)]
      · rw [if_neg h, if_neg (by omega)]
theorem zer_ok {v : SV} {s : Nat → Int32} {su : Nat → Int64} {tk fi a : Nat} (h : SR v (sl s 0) (su 0) tk fi a) : SR (sZer v) (sl (mZer s) 5) (mZu su 5) tk fi a := by
  have e : ∀ j, j < 100 → sl (mZer s) 5 j = if j < 64 then 0 else sl s 0 j := fun j hj => by
    show mZer s (100 * 5 + j) = _
    unfold mZer zfA
    by_cases hl : j < 64
    · rw [if_pos (by omega), if_pos hl]
    · rw [if_neg (by omega), if_neg hl]
      exact sl_slP s 5 (sl s 0) hj
  have es : mZu su 5 = su 0 := by
    unfold mZu mCu
    exact vp_updL_at su 5 (su 0)
  have g : ∀ j, 64 ≤ j → j < 100 → sl (mZer s) 5 j = sl s 0 j := fun j p q => by
    rw [e j q, if_neg (by omega)]
  have gz : ∀ j, j < 64 → sl (mZer s) 5 j = 0 := fun j p => by
    rw [e j (by omega), if_pos p]
  have z : (0 : Int32).toInt = 0 := rfl
  obtain ⟨⟨a1, a2, a3, a4, a5, a6, a7, a8⟩, ⟨b1, b2, b3, b4, b5⟩, ⟨c1, c2, c3⟩, ⟨d1, d2, d3, d4, d5, d6⟩, ⟨ne, ko, e1, e2, e3, e4, e5, e6⟩, g1⟩ := h
  rw [es]
  refine ⟨⟨(g _ (by omega) (by omega)).trans a1, a2, a3, a4, a5, fun j hj => ?_, fun j p q => gz j q, fun j hj => by rw [gz j hj]; omega⟩, ⟨fun i hi => ?_, (g _ (by omega) (by omega)).trans b2, (g _ (by omega) (by omega)).trans b3, b4, b5⟩, ⟨(g _ (by omega) (by omega)).trans c1, (g _ (by omega) (by omega)).trans c2, c3⟩, ⟨(g _ (by omega) (by omega)).trans d1, d2, (g _ (by omega) (by omega)).trans d3, (g _ (by omega) (by omega)).trans d4, (g _ (by omega) (by omega)).trans d5, d6⟩, ⟨ne, ko, e1, e2, e3, e4, (g _ (by omega) (by omega)).trans e5, fun j hj => (g _ (by omega) (by omega)).trans (e6 j hj)⟩, (g _ (by omega) (by omega)).trans g1⟩
  · show _ = fillI (vW v) 0 64 ((fi + j) % 64)
    rw [gz j (by omega), fillI_at, if_pos (by omega)]
  · rw [g (65 + i) (by omega) (by omega), g (69 + i) (by omega) (by omega), g (74 + i) (by omega) (by omega)]
    exact b1 i hi
theorem echo_ok {v : SV} {p : PV} {x : Int32} {tk fi a : Nat} (h : SR v (sl p.1 5) (p.2 5) tk fi a) (hx : -30000 ≤ x.toInt ∧ x.toInt ≤ 30000) : ∀ n, a + n + 1 ≤ 2000000000 → (∃ fi', SR (eIt v x n) (sl (mEc p x n).1 5) ((mEc p x n).2 5) tk fi' (a + n + 1)) ∧ mEo p x n = eOu v x n
  | 0, hn => ⟨⟨(fi + 63) % 64, go_ok h (by omega) hx⟩, go_out x h⟩
  | n + 1, hn => by
    obtain ⟨⟨fi', h1⟩, h2⟩ := echo_ok h hx n (by omega)
    exact ⟨⟨(fi' + 63) % 64, go_ok h1 (show a + n + 1 ≤ 2000000000 by omega) z30⟩, go_out 0 h1⟩
