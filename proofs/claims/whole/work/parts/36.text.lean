/-! ===== class and reference: the text ===== -/
def TT (ch tx : Nat → Int32) (ny : Nat) : Prop := ny ≤ 60 ∧ ∀ j, j < ny → ch j = tx j ∧ 32 ≤ (tx j).toInt ∧ (tx j).toInt ≤ 126
theorem tt_cases {ch tx : Nat → Int32} {ny q : Nat} (h : TT ch tx ny) (hq : q ≤ 1000) : (q < ny ∧ tAt ch (nI ny) (nI q) = tx q ∧ mT tx ny q = tx q) ∨ (ny ≤ q ∧ tAt ch (nI ny) (nI q) = -1 ∧ mT tx ny q = 0) := by
  have hny := h.1
  have n0 : ¬ nI q < 0 := fun z => by
    have := (nI_ltI (b := 0) (by omega) (by omega)).mp z
    omega
  unfold tAt mT
  rw [if_neg n0]
  by_cases c : q < ny
  · have c1 : ¬ nI ny ≤ nI q := fun z => by
      have := (nI_leI (by omega) (by omega)).mp z
      omega
    have c2 : nI q < 60 := (nI_ltI (b := 60) (by omega) (by omega)).mpr (by omega)
    refine Or.inl ⟨c, ?_, if_neg c1⟩
    rw [if_neg c1, if_pos c2, nI_clamp (by omega)]
    exact (h.2 q c).1
  · have c1 : nI ny ≤ nI q := (nI_leI (by omega) (by omega)).mpr (by omega)
    exact Or.inr ⟨by omega, if_pos c1, if_pos c1⟩
theorem tt_eq {ch tx : Nat → Int32} {ny q : Nat} (h : TT ch tx ny) (hq : q ≤ 1000) {x : Int32} (h0 : ¬ x = 0) (h1 : ¬ x = -1) : tAt ch (nI ny) (nI q) = x ↔ mT tx ny q = x := by
  rcases tt_cases h hq with ⟨-, a, b⟩ | ⟨-, a, b⟩
  · rw [a, b]
  · rw [a, b]
    exact ⟨fun z => absurd z.symm h1, fun z => absurd z.symm h0⟩
theorem tt_dig {ch tx : Nat → Int32} {ny q : Nat} (h : TT ch tx ny) (hq : q ≤ 1000) : isDg (tAt ch (nI ny) (nI q)) = inR (mT tx ny q) 48 57 := by
  rcases tt_cases h hq with ⟨-, a, b⟩ | ⟨-, a, b⟩
  · rw [a, b]
    rfl
  · rw [a, b]
    decide
theorem tt_val {ch tx : Nat → Int32} {ny q : Nat} (h : TT ch tx ny) (hq : q ≤ 1000) (hd : inR (mT tx ny q) 48 57 = true) : tAt ch (nI ny) (nI q) = mT tx ny q := by
  rcases tt_cases h hq with ⟨-, a, b⟩ | ⟨-, a, b⟩
  · rw [a, b]
  · rw [b] at hd
    exact absurd hd (by decide)
theorem dg_ok {ch tx : Nat → Int32} {ny : Nat} (h : TT ch tx ny) : ∀ (n q : Nat), q + n ≤ 1000 → dgC (tAt ch (nI ny)) (nI q) n = dcM (mT tx ny) q n
  | 0, _, _ => rfl
  | n + 1, q, hq => by
    show (if isDg (tAt ch (nI ny) (nI q)) = true then dgC (tAt ch (nI ny)) (nI q + 1) n + 1 else 0) = if inR (mT tx ny q) 48 57 = true then dcM (mT tx ny) (q + 1) n + 1 else 0
    rw [tt_dig h (by omega), ← nI_succ, dg_ok h n (q + 1) (by omega)]
theorem dc_dig {t : Nat → Int32} : ∀ (n q i : Nat), i < dcM t q n → inR (t (q + i)) 48 57 = true
  | 0, _, i, h => absurd h (Nat.not_lt_zero i)
  | n + 1, q, i, h => by
    have e : dcM t q (n + 1) = if inR (t q) 48 57 = true then dcM t (q + 1) n + 1 else 0 := rfl
    rw [e] at h
    by_cases c : inR (t q) 48 57 = true
    · rw [if_pos c] at h
      by_cases e2 : i = 0
      · subst e2
        exact c
      · have ih := dc_dig (t := t) n (q + 1) (i - 1) (by omega)
        rw [show q + 1 + (i - 1) = q + i by omega] at ih
        exact ih
    · rw [if_neg c] at h
      exact absurd h (Nat.not_lt_zero i)
theorem dv_ok {ch tx : Nat → Int32} {ny : Nat} (h : TT ch tx ny) (q : Nat) : ∀ n, (∀ i, i < n → inR (mT tx ny (q + i)) 48 57 = true) → q + n ≤ 1000 → dgV (tAt ch (nI ny)) (nI q) n = mV (mT tx ny) q n
  | 0, _, _ => rfl
  | n + 1, hd, hq => by
    show dgV (tAt ch (nI ny)) (nI q) n * 10 + tAt ch (nI ny) (nI q + nI n) - 48 = 10 * mV (mT tx ny) q n + mT tx ny (q + n) - 48
    rw [nI_add, tt_val h (by omega) (hd n (by omega)), dv_ok h q n (fun i hi => hd i (by omega)) (by omega), Int32.mul_comm]
theorem rn_e {ch tx : Nat → Int32} {ny q : Nat} (h : TT ch tx ny) (hq : q ≤ 900) (mf : Int32) : rnE1 ch (nI ny) (nI q) mf = nI (nE tx ny q mf) := by
  unfold rnE1 nE
  by_cases c : mf = 0
  · rw [if_pos c, if_pos c]
  · rw [if_neg c, if_neg c]
    have e := tt_eq h (show q ≤ 1000 by omega) (x := 45) (by decide) (by decide)
    by_cases d : mT tx ny q = 45
    · rw [if_pos d, if_pos (e.mpr d), nI_succ]
    · rw [if_neg d, if_neg (fun z => d (e.mp z))]
theorem nE_le (tx : Nat → Int32) (ny q : Nat) (mf : Int32) : nE tx ny q mf ≤ q + 1 := by
  unfold nE
  split
  · omega
  · split <;> omega
theorem rn_k {ch tx : Nat → Int32} {ny q : Nat} (h : TT ch tx ny) (hq : q ≤ 900) (mf : Int32) : rnK ch (nI ny) (nI q) mf = nK tx ny q mf := by
  have := nE_le tx ny q mf
  unfold rnK nK
  rw [rn_e h hq, dg_ok h 5 _ (by omega)]
theorem rn_en {ch tx : Nat → Int32} {ny q : Nat} (h : TT ch tx ny) (hq : q ≤ 900) (mf : Int32) : rnEn ch (nI ny) (nI q) mf = nI (nP tx ny q mf) := by
  unfold rnEn nP
  rw [rn_e h hq, rn_k h hq, nI_add]
theorem nK_le (tx : Nat → Int32) (ny q : Nat) (mf : Int32) : nK tx ny q mf ≤ 5 := dcM_le _ _ _
theorem rn_wh {ch tx : Nat → Int32} {ny q : Nat} (h : TT ch tx ny) (hq : q ≤ 900) (mf : Int32) : rnWh ch (nI ny) (nI q) mf = bI (nB tx ny q mf) := by
  have h1 := nE_le tx ny q mf
  have h2 := nK_le tx ny q mf
  unfold rnWh nB nP
  rw [rn_k h hq]
  by_cases c : nK tx ny q mf = 0
  · rw [c, if_pos (by decide), Nat.add_zero, decide_eq_true ((nI_leI (by omega) (by omega)).mpr (Nat.le_refl _))]
    rfl
  · rw [if_neg (fun z => c (by have := (nI_leI (b := 0) (by omega) (by omega)).mp z; omega)), decide_eq_false (fun z => c (by have := (nI_leI (by omega) (by omega)).mp z; omega))]
    rfl
theorem rn_v {ch tx : Nat → Int32} {ny q : Nat} (h : TT ch tx ny) (hq : q ≤ 900) (mf : Int32) : rnV ch (nI ny) (nI q) mf = nV tx ny q mf := by
  have h1 := nE_le tx ny q mf
  have h2 := nK_le tx ny q mf
  have e := tt_eq h (show q ≤ 1000 by omega) (x := 45) (by decide) (by decide)
  have ev : dgV (tAt ch (nI ny)) (nI (nE tx ny q mf)) (nK tx ny q mf) = mV (mT tx ny) (nE tx ny q mf) (nK tx ny q mf) := dv_ok h _ _ (fun i hi => dc_dig 5 _ i hi) (by omega)
  unfold rnV nV
  rw [rn_e h hq, rn_k h hq, ev]
  by_cases c : mf = 0
  · rw [if_pos c, if_pos c]
  · rw [if_neg c, if_neg c]
    by_cases d : mT tx ny q = 45
    · rw [if_pos d, if_pos (e.mpr d)]
    · rw [if_neg d, if_neg (fun z => d (e.mp z))]
theorem rn_nu {ch tx : Nat → Int32} {ny q i : Nat} (h : TT ch tx ny) (hq : q ≤ 900) (hi : i < 3) (nu : Nat → Int32) (mf : Int32) : rnNu nu ch (nI ny) (nI q) (nI i) mf = upd nu i (nV tx ny q mf) := by
  unfold rnNu
  rw [if_neg (fun z => by have := (nI_ltI (b := 0) (by omega) (by omega)).mp z; omega), if_neg (fun z => by have := (nI_leI (a := 3) (by omega) (by omega)).mp z; omega), nI_clamp (by omega), rn_v h hq]
theorem sg_w {ch tx : Nat → Int32} {ny q : Nat} (h : TT ch tx ny) (hq : q ≤ 1000) {x : Int32} (h0 : ¬ x = 0) (h1 : ¬ x = -1) : sgW ch (nI ny) (nI q) x = bI (decide (mT tx ny q = x)) ∧ sgE ch (nI ny) (nI q) x = nI (mTkP tx ny q x) := by
  have e := tt_eq h hq h0 h1
  unfold sgW sgE mTkP
  by_cases d : mT tx ny q = x
  · rw [if_pos (e.mpr d), if_pos (e.mpr d), if_pos d, decide_eq_true d, nI_succ]
    exact ⟨rfl, rfl⟩
  · rw [if_neg (fun z => d (e.mp z)), if_neg (fun z => d (e.mp z)), if_neg d, decide_eq_false d]
    exact ⟨rfl, rfl⟩
/-- the class's reading at a point, and the reference's -/
def OR (k : Nat) (x : (Nat → Int32) × Int32 × Int32) (o : OV) : Prop := x.2.2 = bI o.1 ∧ x.2.1 = nI o.2.1 ∧ o.2.1 ≤ 100 + 7 * k ∧ (o.1 = true → ∀ j, j < k → x.1 j = o.2.2 j)
def stp (tx : Nat → Int32) (ny : Nat) (ki : Int32) (n i : Nat) (o : OV) : OV := stK tx ny (oSign n i) (stN tx ny i (oFlag ki n i) o)
def stpN (tx : Nat → Int32) (ny : Nat) (ki : Int32) (n : Nat) : Nat → Nat → OV → OV
  | 0, _, o => o
  | d + 1, i, o => stpN tx ny ki n d (i + 1) (stp tx ny ki n i o)
theorem oSign_ne (n i : Nat) : ¬ oSign n i = 0 ∧ ¬ oSign n i = -1 := by
  unfold oSign
  split <;> decide
theorem bI_0 (b : Bool) : bI b = 0 ↔ b = false := by
  cases b <;> decide
theorem stN_t (tx : Nat → Int32) (ny j : Nat) (mf : Int32) (q : Nat) (to : Nat → Int32) : stN tx ny j mf (true, q, to) = (nB tx ny q mf, nP tx ny q mf, upd to j (nV tx ny q mf)) := if_pos rfl
theorem stK_t (tx : Nat → Int32) (ny : Nat) (x : Int32) (q : Nat) (to : Nat → Int32) : stK tx ny x (true, q, to) = (decide (mT tx ny q = x), mTkP tx ny q x, to) := if_pos rfl
theorem stN_f (tx : Nat → Int32) (ny j : Nat) (mf : Int32) (q : Nat) (to : Nat → Int32) : stN tx ny j mf (false, q, to) = (false, q, to) := if_neg Bool.false_ne_true
theorem stK_f (tx : Nat → Int32) (ny : Nat) (x : Int32) (q : Nat) (to : Nat → Int32) : stK tx ny x (false, q, to) = (false, q, to) := if_neg Bool.false_ne_true
theorem or_step {ch tx : Nat → Int32} {ny i : Nat} (h : TT ch tx ny) (hi : i < 3) {ki : Int32} {n : Nat} {x : (Nat → Int32) × Int32 × Int32} {o : OV} (hr : OR i x o) : OR (i + 1) (if x.2.2 = 0 then x else oStep ch (nI ny) ki n i x) (stp tx ny ki n i o) := by
  obtain ⟨nu, en, wh⟩ := x
  obtain ⟨b, q, to⟩ := o
  obtain ⟨r1, r2, r3, r4⟩ := hr
  have r1 : wh = bI b := r1
  have r2 : en = nI q := r2
  have r3 : q ≤ 100 + 7 * i := r3
  subst r1
  subst r2
  cases b with
  | false =>
    unfold stp
    rw [stN_f, stK_f]
    exact ⟨rfl, rfl, show q ≤ 100 + 7 * (i + 1) by omega, fun z => absurd (show false = true from z) (by decide)⟩
  | true =>
    have r4 : ∀ j, j < i → nu j = to j := r4 rfl
    have hn := nP_ge tx ny q (oFlag ki n i)
    have hs := oSign_ne n i
    rw [if_neg (show ¬ bI true = 0 by decide)]
    unfold oStep stp
    rw [stN_t]
    show OR (i + 1) (if rnWh ch (nI ny) (nI q) (oFlag ki n i) = 0 then (rnNu nu ch (nI ny) (nI q) (nI i) (oFlag ki n i), rnEn ch (nI ny) (nI q) (oFlag ki n i), rnWh ch (nI ny) (nI q) (oFlag ki n i)) else (rnNu nu ch (nI ny) (nI q) (nI i) (oFlag ki n i), sgE ch (nI ny) (rnEn ch (nI ny) (nI q) (oFlag ki n i)) (oSign n i), sgW ch (nI ny) (rnEn ch (nI ny) (nI q) (oFlag ki n i)) (oSign n i))) (stK tx ny (oSign n i) (nB tx ny q (oFlag ki n i), nP tx ny q (oFlag ki n i), upd to i (nV tx ny q (oFlag ki n i))))
    rw [rn_nu h (by omega) hi, rn_en h (by omega), rn_wh h (by omega), (sg_w h (show nP tx ny q (oFlag ki n i) ≤ 1000 by omega) hs.1 hs.2).1, (sg_w h (show nP tx ny q (oFlag ki n i) ≤ 1000 by omega) hs.1 hs.2).2]
    cases hb : nB tx ny q (oFlag ki n i) with
    | false =>
      rw [stK_f, if_pos (show bI false = 0 by decide)]
      exact ⟨rfl, rfl, show nP tx ny q (oFlag ki n i) ≤ 100 + 7 * (i + 1) by omega, fun z => absurd (show false = true from z) (by decide)⟩
    | true =>
      have ht := mTkP_ge tx ny (nP tx ny q (oFlag ki n i)) (oSign n i)
      rw [stK_t, if_neg (show ¬ bI true = 0 by decide)]
      have hle : mTkP tx ny (nP tx ny q (oFlag ki n i)) (oSign n i) ≤ 100 + 7 * (i + 1) := by omega
      clear ht hb hn
      generalize decide (mT tx ny (nP tx ny q (oFlag ki n i)) = oSign n i) = bb
      generalize mTkP tx ny (nP tx ny q (oFlag ki n i)) (oSign n i) = pp at hle ⊢
      generalize nV tx ny q (oFlag ki n i) = vv
      refine ⟨rfl, rfl, hle, fun _ j hj => ?_⟩
      show upd nu i vv j = upd to i vv j
      by_cases e : j = i
      · subst e
        rw [pk_us, pk_us]
      · rw [pk_un e, pk_un e]
        exact r4 j (by omega)
theorem stpN_false {tx : Nat → Int32} {ny : Nat} {ki : Int32} {n : Nat} : ∀ (d i : Nat) (o : OV), o.1 = false → (stpN tx ny ki n d i o).1 = false ∧ (stpN tx ny ki n d i o).2.1 = o.2.1
  | 0, _, o, h => ⟨h, rfl⟩
  | d + 1, i, o, h => by
    obtain ⟨b, q, to⟩ := o
    have h : b = false := h
    subst h
    have e : stp tx ny ki n i (false, q, to) = (false, q, to) := by
      unfold stp
      rw [stN_f, stK_f]
    show (stpN tx ny ki n d (i + 1) (stp tx ny ki n i (false, q, to))).1 = false ∧ (stpN tx ny ki n d (i + 1) (stp tx ny ki n i (false, q, to))).2.1 = q
    rw [e]
    exact stpN_false d (i + 1) (false, q, to) rfl
theorem or_run {ch tx : Nat → Int32} {ny : Nat} (h : TT ch tx ny) {ki : Int32} {n : Nat} : ∀ (d i : Nat) (x : (Nat → Int32) × Int32 × Int32) (o : OV), i + d ≤ 3 → OR i x o → OR (i + d) (oRun ch (nI ny) ki n d i x) (stpN tx ny ki n d i o)
  | 0, _, _, _, _, hr => hr
  | d + 1, i, x, o, hi, hr => by
    have hs := or_step (ki := ki) (n := n) h (show i < 3 by omega) hr
    show OR (i + (d + 1)) (if x.2.2 = 0 then x else oRun ch (nI ny) ki n d (i + 1) (oStep ch (nI ny) ki n i x)) (stpN tx ny ki n d (i + 1) (stp tx ny ki n i o))
    by_cases c : x.2.2 = 0
    · rw [if_pos c] at hs ⊢
      obtain ⟨b, q, to⟩ := o
      obtain ⟨r1, r2, r3, r4⟩ := hr
      have hb : b = false := (bI_0 b).mp (r1.symm.trans c)
      subst hb
      have hf := stpN_false (tx := tx) (ny := ny) (ki := ki) (n := n) (d + 1) i (false, q, to) rfl
      have hf1 : (stpN tx ny ki n d (i + 1) (stp tx ny ki n i (false, q, to))).1 = false := hf.1
      have hf2 : (stpN tx ny ki n d (i + 1) (stp tx ny ki n i (false, q, to))).2.1 = q := hf.2
      have r3 : q ≤ 100 + 7 * i := r3
      refine ⟨?_, ?_, ?_, fun z => absurd (hf1.symm.trans z) (by decide)⟩
      · rw [hf1]
        exact r1
      · rw [hf2]
        exact r2
      · rw [hf2]
        show q ≤ 100 + 7 * (i + (d + 1))
        omega
    · rw [if_neg c] at hs ⊢
      have ih := or_run h (ki := ki) (n := n) d (i + 1) _ _ (by omega) hs
      rw [show i + (d + 1) = i + 1 + d by omega]
      exact ih
theorem ord_115 (tx : Nat → Int32) (ny p : Nat) (to : Nat → Int32) : mOrd tx ny 115 p to = stpN tx ny 115 1 1 0 (true, p + 1, to) := by
  rw [mOrd_115]
  show _ = stK tx ny (oSign 1 0) (stN tx ny 0 (oFlag 115 1 0) (true, p + 1, to))
  rw [show oSign 1 0 = 59 by decide, show oFlag 115 1 0 = 1 by decide]
theorem ord_122 (tx : Nat → Int32) (ny p : Nat) (to : Nat → Int32) : mOrd tx ny 122 p to = stpN tx ny 122 1 1 0 (true, p + 1, to) := by
  rw [mOrd_122]
  show _ = stK tx ny (oSign 1 0) (stN tx ny 0 (oFlag 122 1 0) (true, p + 1, to))
  rw [show oSign 1 0 = 59 by decide, show oFlag 122 1 0 = 0 by decide]
theorem ord_107 (tx : Nat → Int32) (ny p : Nat) (to : Nat → Int32) : mOrd tx ny 107 p to = stpN tx ny 107 1 1 0 (true, p + 1, to) := by
  rw [mOrd_107]
  show _ = stK tx ny (oSign 1 0) (stN tx ny 0 (oFlag 107 1 0) (true, p + 1, to))
  rw [show oSign 1 0 = 59 by decide, show oFlag 107 1 0 = 0 by decide]
theorem ord_103 (tx : Nat → Int32) (ny p : Nat) (to : Nat → Int32) : mOrd tx ny 103 p to = stpN tx ny 103 1 1 0 (true, p + 1, to) := by
  rw [mOrd_103]
  show _ = stK tx ny (oSign 1 0) (stN tx ny 0 (oFlag 103 1 0) (true, p + 1, to))
  rw [show oSign 1 0 = 59 by decide, show oFlag 103 1 0 = 0 by decide]
theorem ord_102 (tx : Nat → Int32) (ny p : Nat) (to : Nat → Int32) : mOrd tx ny 102 p to = stpN tx ny 102 2 2 0 (true, p + 1, to) := by
  rw [mOrd_102]
  show _ = stK tx ny (oSign 2 1) (stN tx ny 1 (oFlag 102 2 1) (stK tx ny (oSign 2 0) (stN tx ny 0 (oFlag 102 2 0) (true, p + 1, to))))
  rw [show oSign 2 0 = 44 by decide, show oSign 2 1 = 59 by decide, show oFlag 102 2 0 = 0 by decide, show oFlag 102 2 1 = 0 by decide]
theorem ord_116 (tx : Nat → Int32) (ny p : Nat) (to : Nat → Int32) : mOrd tx ny 116 p to = stpN tx ny 116 3 3 0 (true, p + 1, to) := by
  rw [mOrd_116]
  show _ = stK tx ny (oSign 3 2) (stN tx ny 2 (oFlag 116 3 2) (stK tx ny (oSign 3 1) (stN tx ny 1 (oFlag 116 3 1) (stK tx ny (oSign 3 0) (stN tx ny 0 (oFlag 116 3 0) (true, p + 1, to))))))
  rw [show oSign 3 0 = 44 by decide, show oSign 3 1 = 44 by decide, show oSign 3 2 = 59 by decide, show oFlag 116 3 0 = 0 by decide, show oFlag 116 3 1 = 0 by decide, show oFlag 116 3 2 = 1 by decide]
theorem ord_run {ch tx : Nat → Int32} {ny p n : Nat} {L : Int32} (h : TT ch tx ny) (hp : p ≤ 60) (hn : n ≤ 3) (hn1 : 1 ≤ n) (hk : kN L = n) (hL : tAt ch (nI ny) (nI p) = L) (nu to : Nat → Int32) (hm : mOrd tx ny L p to = stpN tx ny L n n 0 (true, p + 1, to)) : OR n (oFin ch (nI ny) nu (nI p)) (mOrd tx ny L p to) := by
  have hc : ¬ nI n ≤ 0 := fun z => by
    have := (nI_leI (b := 0) (by omega) (by omega)).mp z
    omega
  unfold oFin
  rw [hL, hk, if_neg hc, if_neg hc, hm]
  have hr := or_run h (ki := L) (n := n) n 0 (nu, nI p + 1, 1) (true, p + 1, to) (by omega) ⟨rfl, (nI_succ p).symm, show p + 1 ≤ 100 + 7 * 0 by omega, fun _ j hj => absurd hj (Nat.not_lt_zero j)⟩
  rw [Nat.zero_add] at hr
  exact hr
theorem ord_kind {tx : Nat → Int32} {ny p : Nat} {L : Int32} {to : Nat → Int32} : (L = 115 ∨ L = 122 ∨ L = 116 ∨ L = 102 ∨ L = 107 ∨ L = 103) ∨ (kN L = 0 ∧ mOrd tx ny L p to = (false, p, to)) := by
  by_cases h1 : L = 115
  · exact Or.inl (Or.inl h1)
  by_cases h2 : L = 122
  · exact Or.inl (Or.inr (Or.inl h2))
  by_cases h3 : L = 116
  · exact Or.inl (Or.inr (Or.inr (Or.inl h3)))
  by_cases h4 : L = 102
  · exact Or.inl (Or.inr (Or.inr (Or.inr (Or.inl h4))))
  by_cases h5 : L = 107
  · exact Or.inl (Or.inr (Or.inr (Or.inr (Or.inr (Or.inl h5)))))
  by_cases h6 : L = 103
  · exact Or.inl (Or.inr (Or.inr (Or.inr (Or.inr (Or.inr h6)))))
  · refine Or.inr ⟨?_, ?_⟩
    · unfold kN
      rw [if_neg h4, if_neg h6, if_neg h5, if_neg h1, if_neg h3, if_neg h2]
    · unfold mOrd
      rw [if_neg h1, if_neg h2, if_neg h3, if_neg h4, if_neg h5, if_neg h6]
theorem ord_ok {ch tx : Nat → Int32} {ny p : Nat} (h : TT ch tx ny) (hp : p < ny) (nu to : Nat → Int32) : tAt ch (nI ny) (nI p) = mT tx ny p ∧ OR (kN (mT tx ny p)) (oFin ch (nI ny) nu (nI p)) (mOrd tx ny (mT tx ny p) p to) := by
  have hny := h.1
  have hL : tAt ch (nI ny) (nI p) = mT tx ny p := by
    rcases tt_cases h (show p ≤ 1000 by omega) with ⟨-, a, b⟩ | ⟨a, -, -⟩
    · rw [a, b]
    · omega
  refine ⟨hL, ?_⟩
  rcases ord_kind (tx := tx) (ny := ny) (p := p) (L := mT tx ny p) (to := to) with (e | e | e | e | e | e) | ⟨e1, e2⟩
  · rw [e] at hL ⊢
    exact ord_run h (by omega) (by decide) (by decide) rfl hL nu to (ord_115 tx ny p to)
  · rw [e] at hL ⊢
    exact ord_run h (by omega) (by decide) (by decide) rfl hL nu to (ord_122 tx ny p to)
  · rw [e] at hL ⊢
    exact ord_run h (by omega) (by decide) (by decide) rfl hL nu to (ord_116 tx ny p to)
  · rw [e] at hL ⊢
    exact ord_run h (by omega) (by decide) (by decide) rfl hL nu to (ord_102 tx ny p to)
  · rw [e] at hL ⊢
    exact ord_run h (by omega) (by decide) (by decide) rfl hL nu to (ord_107 tx ny p to)
  · rw [e] at hL ⊢
    exact ord_run h (by omega) (by decide) (by decide) rfl hL nu to (ord_103 tx ny p to)
  · rw [e1, e2]
    unfold oFin
    rw [hL, e1, if_pos (show nI 0 ≤ 0 by decide), if_pos (show nI 0 ≤ 0 by decide)]
    exact ⟨rfl, rfl, show p ≤ 100 + 7 * 0 by omega, fun z => absurd (show false = true from z) (by decide)⟩
