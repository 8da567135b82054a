/-! ===== the law's numbers and one state of the class ===== -/
/-- what the law has set: limit, feedback's gain, its delay, the taps' delays, their gains -/
abbrev TP : Type := Int32 × Int32 × Nat × (Nat → Nat) × (Nat → Int32)
abbrev pL (P : TP) : Int32 := P.1
abbrev pB (P : TP) : Int32 := P.2.1
abbrev pF (P : TP) : Nat := P.2.2.1
abbrev pD (P : TP) : Nat → Nat := P.2.2.2.1
abbrev pG (P : TP) : Nat → Int32 := P.2.2.2.2
def POK (P : TP) : Prop := (100 ≤ (pL P).toInt ∧ (pL P).toInt ≤ 30000) ∧ (0 ≤ (pB P).toInt ∧ (pB P).toInt ≤ 950) ∧ (1 ≤ pF P ∧ pF P ≤ 64) ∧ ∀ t, t < 3 → (1 ≤ pD P t ∧ pD P t ≤ 64) ∧ -900 ≤ (pG P t).toInt ∧ (pG P t).toInt ≤ 900
/-- the ring holds the l words of w -/
def TA (v : SV) (w : Nat → Int32) (l : Nat) : Prop := 16 ≤ l ∧ l ≤ 64 ∧ vLe v = nI l ∧ (∃ fi, vFi v = nI fi ∧ fi < 64 ∧ ∀ j, j < l → w j = vW v ((fi + j) % 64)) ∧ (∀ j, l ≤ j → j < 64 → w j = 0) ∧ ∀ j, j < 64 → -30000 ≤ (w j).toInt ∧ (w j).toInt ≤ 30000
/-- the first k taps are set, the others off -/
def TB (P : TP) (k : Nat) (v : SV) : Prop := (∀ t, t < k → vDe v t = nI (pD P t) ∧ vGa v t = pG P t) ∧ (∀ t, k ≤ t → t < 4 → vDe v t = 0) ∧ vDe v 4 = nI (pF P) ∧ vGa v 4 = pB P ∧ vLi v = pL P ∧ vSh v = 0
def TC (v : SV) (sa : Nat) : Prop := vSa v = nI sa ∧ 0 ≤ (vSu v).toInt ∧ (vSu v).toInt ≤ 30000 * sa ∧ ∃ ne ko, vNe v = nI ne ∧ ne ≤ 12 ∧ vKe v = nI ko ∧ ko ≤ 12
def TH (u : QV) (n : Nat) : Prop := n ≤ 4 ∧ qKe u = nI n ∧ ∃ o, o < 4 ∧ qOl u = nI o
def rdT (P : TP) (w : Nat → Int32) (l t : Nat) : Int32 := if pD P t ≤ l then w (pD P t - 1) else 0
def shT (P : TP) (w : Nat → Int32) (l t : Nat) : Int32 := pG P t * rdT P w l t / 1000
def ouT (P : TP) (w : Nat → Int32) (l : Nat) (x : Int32) : Nat → Int32
  | 0 => x
  | t + 1 => ouT P w l x t + shT P w l t
def rgT (P : TP) (w : Nat → Int32) (l : Nat) (x : Int32) : Int32 := x + (if pF P ≤ l then pB P * w (pF P - 1) / 1000 else 0)
def cl (x li : Int32) : Int32 := if x ≤ li then (if -li ≤ x then x else -li) else li
def wsT (w : Nat → Int32) (l : Nat) (r : Int32) : Nat → Int32 := fun j => if j = 0 then r else if j < l then w (j - 1) else w j
def zrT (w : Nat → Int32) (a m : Nat) : Nat → Int32 := fun j => if a ≤ j ∧ j < m then 0 else w j
theorem tq_at {v : SV} {w : Nat → Int32} {l j : Nat} (h : TA v w l) (hj : j < 64) : rAt (vW v) (vFi v) (vLe v) (nI j) = w j := by
  obtain ⟨h1, h2, h3, ⟨fi, h4, h5, h6⟩, h7, -⟩ := h
  have z : (0 : Int32).toInt = 0 := rfl
  unfold rAt
  rw [h3, h4, rIx_eq, if_neg (by rw [i_lt, nI_toInt (by omega)]; omega)]
  by_cases hl : j < l
  · rw [if_pos (by rw [i_lt, nI_toInt (by omega), nI_toInt (by omega)]; omega), h6 j hl]
  · rw [if_neg (by rw [i_lt, nI_toInt (by omega), nI_toInt (by omega)]; omega), h7 j (by omega) hj]
theorem tq_rd {v : SV} {w : Nat → Int32} {l r d : Nat} (h : TA v w l) (hr : r < 5) (hd : vDe v r = nI d) (h1 : 1 ≤ d) (h2 : d ≤ 64) : sRead v (nI r) = if d ≤ l then w (d - 1) else 0 := by
  unfold sRead
  rw [rowOk_nI hr, if_pos rfl, nI_clamp (by omega), hd, show nI d - 1 = nI (d - 1) from natSub (a := d) (b := 1) (by omega), tq_at h (by omega)]
  by_cases hl : d ≤ l
  · rw [if_pos hl]
  · rw [if_neg hl]
    exact h.2.2.2.2.1 (d - 1) (by omega) (by omega)
theorem tq_shr {v : SV} {r : Nat} (hr : r < 5) : sShare v (nI r) = vGa v r * sRead v (nI r) / 1000 := by
  unfold sShare jth
  rw [rowOk_nI hr, if_pos rfl, nI_clamp (by omega)]
theorem tq_off {v : SV} {t : Nat} (ht : t < 5) (hd : vDe v t = 0) : sShare v (nI t) = 0 := by
  have e : sRead v (nI t) = 0 := by
    unfold sRead
    rw [rowOk_nI ht, if_pos rfl, nI_clamp (by omega), hd]
    unfold rAt
    rw [if_pos (by decide)]
  rw [tq_shr ht, e, Int32.mul_zero]
  rfl
theorem tq_read {P : TP} {v : SV} {w : Nat → Int32} {l t k : Nat} (hP : POK P) (h : TA v w l) (hb : TB P k v) (ht : t < k) (hk : k ≤ 3) : sRead v (nI t) = rdT P w l t := by
  have hp := hP.2.2.2 t (by omega)
  exact tq_rd h (by omega) (hb.1 t ht).1 hp.1.1 hp.1.2
theorem tq_share {P : TP} {v : SV} {w : Nat → Int32} {l t k : Nat} (hP : POK P) (h : TA v w l) (hb : TB P k v) (ht : t < k) (hk : k ≤ 3) : sShare v (nI t) = shT P w l t := by
  rw [tq_shr (by omega), tq_read hP h hb ht hk, (hb.1 t ht).2]
  rfl
theorem rd_bd {P : TP} {w : Nat → Int32} {l t : Nat} (hP : POK P) (hw : ∀ j, j < 64 → -30000 ≤ (w j).toInt ∧ (w j).toInt ≤ 30000) (ht : t < 3) : -30000 ≤ (rdT P w l t).toInt ∧ (rdT P w l t).toInt ≤ 30000 := by
  have hp := hP.2.2.2 t ht
  have z : (0 : Int32).toInt = 0 := rfl
  unfold rdT
  split
  · exact hw _ (by omega)
  · rw [z]
    omega
theorem sh_bd {P : TP} {w : Nat → Int32} {l t : Nat} (hP : POK P) (hw : ∀ j, j < 64 → -30000 ≤ (w j).toInt ∧ (w j).toInt ≤ 30000) (ht : t < 3) : -28500 ≤ (shT P w l t).toInt ∧ (shT P w l t).toInt ≤ 28500 := by
  have hp := (hP.2.2.2 t ht).2
  exact jth_bd (g := pG P t) (x := rdT P w l t) ⟨by omega, by omega⟩ (rd_bd hP hw ht)
theorem ou_bd {P : TP} {w : Nat → Int32} {l : Nat} {x : Int32} (hP : POK P) (hw : ∀ j, j < 64 → -30000 ≤ (w j).toInt ∧ (w j).toInt ≤ 30000) (hx : -20000 ≤ x.toInt ∧ x.toInt ≤ 20000) : ∀ t : Nat, t ≤ 3 → -20000 - 28500 * (t : Int) ≤ (ouT P w l x t).toInt ∧ (ouT P w l x t).toInt ≤ 20000 + 28500 * (t : Int)
  | 0, _ => by
    show -20000 - 28500 * ((0 : Nat) : Int) ≤ x.toInt ∧ x.toInt ≤ 20000 + 28500 * ((0 : Nat) : Int)
    omega
  | t + 1, ht => by
    have ih := ou_bd (l := l) hP hw hx t (by omega)
    have hs := sh_bd (l := l) hP hw (show t < 3 by omega)
    show -20000 - 28500 * ((t + 1 : Nat) : Int) ≤ (ouT P w l x t + shT P w l t).toInt ∧ (ouT P w l x t + shT P w l t).toInt ≤ 20000 + 28500 * ((t + 1 : Nat) : Int)
    rw [Int32.toInt_add, toInt_small (by omega) (by omega)]
    omega
theorem rg_bd {P : TP} {w : Nat → Int32} {l : Nat} {x : Int32} (hP : POK P) (hw : ∀ j, j < 64 → -30000 ≤ (w j).toInt ∧ (w j).toInt ≤ 30000) (hx : -20000 ≤ x.toInt ∧ x.toInt ≤ 20000) : -48500 ≤ (rgT P w l x).toInt ∧ (rgT P w l x).toInt ≤ 48500 := by
  have z : (0 : Int32).toInt = 0 := rfl
  have hp := hP.2.1
  have hf := hP.2.2.1
  unfold rgT
  by_cases hl : pF P ≤ l
  · have hb := jth_bd (g := pB P) (x := w (pF P - 1)) ⟨by omega, by omega⟩ (hw _ (by omega))
    unfold jth at hb
    rw [if_pos hl, Int32.toInt_add, toInt_small (by omega) (by omega)]
    omega
  · rw [if_neg hl, Int32.toInt_add, z, toInt_small (by omega) (by omega)]
    omega
theorem shp0 {x li : Int32} (hx : -2147483648 < x.toInt) (h1 : 100 ≤ li.toInt) (h2 : li.toInt ≤ 30000) : shp x 0 li = cl x li := by
  have ha := iabs_toInt hx
  have hm := Int32.toInt_lt x
  have z : (0 : Int32).toInt = 0 := rfl
  have hn := neg_toInt (x := li) (by omega)
  unfold shp cl
  simp only [if_neg (show ¬ (0 : Int32) = 1 by decide), if_neg (show ¬ (0 : Int32) = 2 by decide)]
  by_cases h0 : 0 ≤ x
  · have e : iabs x = x := if_pos h0
    rw [if_pos h0, e]
    by_cases hl : x ≤ li
    · rw [if_pos hl, if_pos hl, if_pos (by rw [i_le] at h0 ⊢; omega)]
    · rw [if_neg hl, if_neg hl]
  · have e : iabs x = 0 - x := if_neg h0
    have h0' := h0
    rw [i_le] at h0'
    have es : (0 - x).toInt = -x.toInt := by
      rw [Int32.toInt_sub, z, toInt_small (by omega) (by omega)]
      omega
    rw [if_neg h0, e, if_pos (show x ≤ li by rw [i_le]; omega)]
    by_cases hl : 0 - x ≤ li
    · rw [if_pos hl, if_pos (by rw [i_le] at hl ⊢; omega)]
      apply Int32.toInt_inj.mp
      rw [neg_toInt (by omega), es]
      omega
    · rw [if_neg hl, if_neg (by rw [i_le] at hl ⊢; omega)]
theorem cl_bd {x li : Int32} (h1 : 100 ≤ li.toInt) (h2 : li.toInt ≤ 30000) : -30000 ≤ (cl x li).toInt ∧ (cl x li).toInt ≤ 30000 := by
  have hn := neg_toInt (x := li) (by omega)
  unfold cl
  split
  · rename_i c
    rw [i_le] at c
    split
    · rename_i d
      rw [i_le] at d
      omega
    · omega
  · omega
theorem tq_sum {P : TP} {v : SV} {w : Nat → Int32} {l : Nat} (hP : POK P) (h : TA v w l) (hb : TB P 3 v) (x : Int32) : sSum v x = ouT P w l x 3 := by
  have s0 : sShare v 0 = shT P w l 0 := tq_share hP h hb (t := 0) (by omega) (by omega)
  have s1 : sShare v 1 = shT P w l 1 := tq_share hP h hb (t := 1) (by omega) (by omega)
  have s2 : sShare v 2 = shT P w l 2 := tq_share hP h hb (t := 2) (by omega) (by omega)
  have s3 : sShare v 3 = 0 := tq_off (t := 3) (by omega) (hb.2.1 3 (by omega) (by omega))
  unfold sSum
  rw [s0, s1, s2, s3, Int32.add_zero]
  rfl
theorem tq_fed {P : TP} {v : SV} {w : Nat → Int32} {l : Nat} (hP : POK P) (h : TA v w l) (hb : TB P 3 v) (x : Int32) : sFed v x = rgT P w l x := by
  have s4 : sShare v 4 = vGa v 4 * sRead v 4 / 1000 := tq_shr (r := 4) (by omega)
  have r4 : sRead v 4 = if pF P ≤ l then w (pF P - 1) else 0 := tq_rd h (r := 4) (by omega) hb.2.2.1 hP.2.2.1.1 hP.2.2.1.2
  unfold sFed rgT
  rw [s4, r4, hb.2.2.2.1]
  by_cases hl : pF P ≤ l
  · rw [if_pos hl, if_pos hl]
  · rw [if_neg hl, if_neg hl, Int32.mul_zero]
    rfl
theorem tq_out {P : TP} {v : SV} {w : Nat → Int32} {l : Nat} {x : Int32} (hP : POK P) (h : TA v w l) (hb : TB P 3 v) (hx : -20000 ≤ x.toInt ∧ x.toInt ≤ 20000) : sOut v x = cl (ouT P w l x 3) (pL P) := by
  have hbd := ou_bd (l := l) hP h.2.2.2.2.2 hx 3 (by omega)
  unfold sOut
  rw [tq_sum hP h hb, hb.2.2.2.2.1, hb.2.2.2.2.2]
  exact shp0 (by omega) hP.1.1 hP.1.2
theorem tq_wrd {P : TP} {v : SV} {w : Nat → Int32} {l : Nat} {x : Int32} (hP : POK P) (h : TA v w l) (hb : TB P 3 v) (hx : -20000 ≤ x.toInt ∧ x.toInt ≤ 20000) : sWrd v x = cl (rgT P w l x) (pL P) := by
  have hbd := rg_bd (l := l) hP h.2.2.2.2.2 hx
  unfold sWrd
  rw [tq_fed hP h hb, hb.2.2.2.2.1, hb.2.2.2.2.2]
  exact shp0 (by omega) hP.1.1 hP.1.2
theorem tq_leta {v : SV} {w : Nat → Int32} {l : Nat} {x : Int32} (h : TA v w l) (hr : -30000 ≤ (sWrd v x).toInt ∧ (sWrd v x).toInt ≤ 30000) : TA (sLet v x) (wsT w l (sWrd v x)) l := by
  obtain ⟨h1, h2, h3, ⟨fi, h4, h5, h6⟩, h7, h8⟩ := h
  have ew : vW (sLet v x) = upd (vW v) ((fi + 63) % 64) (sWrd v x) := by
    show upd (vW v) (rFi (vFi v) &&& 63).toNatClampNeg (sWrd v x) = _
    rw [h4, rFi_eq h5, nI_and63, nI_clamp (by omega)]
    congr 1
    omega
  refine ⟨h1, h2, h3, ⟨(fi + 63) % 64, ?_, by omega, fun j hj => ?_⟩, fun j a b => ?_, fun j hj => ?_⟩
  · show rFi (vFi v) = _
    rw [h4, rFi_eq h5]
  · rw [ew]
    by_cases h0 : j = 0
    · subst h0
      rw [show ((fi + 63) % 64 + 0) % 64 = (fi + 63) % 64 by omega, pk_us]
      rfl
    · have e : wsT w l (sWrd v x) j = w (j - 1) := (if_neg h0).trans (if_pos hj)
      rw [e, pk_un (by omega), h6 (j - 1) (by omega)]
      congr 1
      omega
  · have e : wsT w l (sWrd v x) j = w j := (if_neg (show ¬ j = 0 by omega)).trans (if_neg (by omega))
    rw [e]
    exact h7 j a b
  · unfold wsT
    split
    · exact hr
    · split
      · exact h8 _ (by omega)
      · exact h8 _ hj
theorem tq_letc {v : SV} {x : Int32} {sa : Nat} (h : TC v sa) (hs : sa ≤ 1000) (hr : -30000 ≤ (sOut v x).toInt ∧ (sOut v x).toInt ≤ 30000) : TC (sLet v x) (sa + 1) ∧ oAt (vRo (sLet v x)) (vNe (sLet v x)) (vKe (sLet v x)) 0 = sOut v x ∧ 0 < vKe (sLet v x) := by
  obtain ⟨c1, c2, c3, ne, ko, e1, e2, e3, e4⟩ := h
  have hi := iabs_toInt (x := sOut v x) (by omega)
  have hj : (iabs (sOut v x)).toInt64.toInt = (iabs (sOut v x)).toInt := Int32.toInt_toInt64 _
  have hs2 : (vSu v + (iabs (sOut v x)).toInt64).toInt = (vSu v).toInt + (iabs (sOut v x)).toInt := by
    rw [Int64.toInt_add, hj]
    exact Int.bmod_eq_of_le (by omega) (by omega)
  have z : (0 : Int32).toInt = 0 := rfl
  have z2 : (12 : Int32).toInt = 12 := rfl
  have hn : ∃ n0, n0 < 12 ∧ oNx (nI ne) = nI n0 := by
    unfold oNx
    rw [if_neg (by rw [i_lt, nI_toInt (by omega)]; omega)]
    by_cases hl : ne < 12
    · exact ⟨ne, hl, by rw [if_pos (by rw [i_lt, nI_toInt (by omega)]; omega)]⟩
    · exact ⟨0, by omega, by rw [if_neg (by rw [i_lt, nI_toInt (by omega)]; omega)]; rfl⟩
  obtain ⟨n0, g1, g2⟩ := hn
  have er : vRo (sLet v x) = upd (vRo v) n0 (sOut v x) := by
    show upd (vRo v) (oNx (vNe v)).toNatClampNeg (sOut v x) = _
    rw [e1, g2, nI_clamp (by omega)]
  have en : vNe (sLet v x) = nI (n0 + 1) := by
    show oNx (vNe v) + 1 = _
    rw [e1, g2, nI_succ]
  have ek : vKe (sLet v x) = nI (if ko < 12 then ko + 1 else 12) := by
    have e7 : vKe (sLet v x) = imin (vKe v + 1) 12 := rfl
    rw [e7, e3, imin_if, ← nI_succ]
    by_cases hl : ko < 12
    · rw [if_pos hl, if_pos (by rw [i_le, nI_toInt (by omega)]; omega)]
    · rw [if_neg hl, if_neg (by rw [i_le, nI_toInt (by omega)]; omega)]
      rfl
  have hk : 0 < vKe (sLet v x) := by
    rw [ek, i_lt, nI_toInt (by split <;> omega), z]
    split <;> omega
  refine ⟨⟨?_, ?_, ?_, n0 + 1, _, en, by omega, ek, by split <;> omega⟩, ?_, hk⟩
  · show vSa v + 1 = _
    rw [c1, nI_succ]
  · show 0 ≤ (vSu v + (iabs (sOut v x)).toInt64).toInt
    rw [hs2]
    omega
  · show (vSu v + (iabs (sOut v x)).toInt64).toInt ≤ 30000 * ((sa + 1 : Nat) : Int)
    rw [hs2]
    omega
  · unfold oAt
    rw [if_neg (by decide), if_pos hk, er, en]
    have ei : (jfm (nI (n0 + 1) - 1 - 0) 12).toNatClampNeg = n0 := by
      have q : nI (n0 + 1) - 1 - 0 = nI n0 := by
        rw [Int32.sub_zero]
        exact nI_pred n0
      have q2 : jfm (nI n0) 12 = nI n0 := by
        apply Int32.toInt_inj.mp
        rw [jfm_toInt (by decide) (by decide), nI_toInt (by omega), z2]
        omega
      rw [q, q2, nI_clamp (by omega)]
    rw [ei, pk_us]
