/-! ===== the law's world ===== -/
abbrev LG (E : XE) (u : QV) (w : Nat → Int32) (G0 : GW) : GW := ov (xB E) (qT E (xB E) u) (ov (xB E + 56) [ia E 64 w] G0)
theorem lg_w {E : XE} {u : QV} {w : Nat → Int32} {G0 : GW} : LG E u w G0 (xB E + 56) = .inl (xI E, 64, .inl w) := by
  have h : ov (xB E) (qT E (xB E) u) (ov (xB E + 56) [ia E 64 w] G0) (xB E + 56) = ov (xB E + 56) [ia E 64 w] G0 (xB E + 56) := ov_out (n := 56) rfl (Or.inr (Nat.le_refl _))
  exact h.trans (ov_at (i := 0) rfl)
theorem lg_up {E : XE} {u : QV} {w : Nat → Int32} {G0 : GW} {j : Nat} {v : Int32} : gup (LG E u w G0) (xB E + 56) (.inl (xI E, 64, .inl (upd w j v))) = LG E u (upd w j v) G0 := by
  have h : gup (ov (xB E) (qT E (xB E) u) (ov (xB E + 56) [ia E 64 w] G0)) (xB E + 56) (.inl (xI E, 64, .inl (upd w j v))) = ov (xB E) (qT E (xB E) u) (gup (ov (xB E + 56) [ia E 64 w] G0) (xB E + 56) (.inl (xI E, 64, .inl (upd w j v)))) := gup_ov (n := 56) rfl (Or.inr (Nat.le_refl _))
  have h2 : gup (ov (xB E + 56) [ia E 64 w] G0) (xB E + 56) (.inl (xI E, 64, .inl (upd w j v))) = ov (xB E + 56) [ia E 64 (upd w j v)] G0 := ov_set (i := 0) rfl rfl
  exact h.trans (congrArg _ h2)
theorem k_sample {E : XE} {u u2 : QV} {wr : Nat → Int32} {G0 : GW} {rs : Int32} (x : Int32) (hr : rSam u x = rs) (hu : qSam u x = u2) : MF E yX8_sample cX8_sample 3 (some .int) 4 124 0 0 [.ref (xB E), .int x] (xB E + 57) (LG E u wr G0) (some (.int rs)) (LG E u2 wr G0) := by
  subst hr
  subst hu
  exact c_X8_sample E _ (xB E) _ u x (Nat.le_refl _) (by omega)
theorem k_tap {E : XE} {u u2 : QV} {wr : Nat → Int32} {G0 : GW} {rs : Int32} (t d g : Int32) (hr : rTap u t d g = rs) (hu : qTap u t d g = u2) : MF E yX8_tap cX8_tap 5 (some .int) 4 124 0 0 [.ref (xB E), .int t, .int d, .int g] (xB E + 57) (LG E u wr G0) (some (.int rs)) (LG E u2 wr G0) := by
  subst hr
  subst hu
  exact c_X8_tap E _ (xB E) _ u t d g (Nat.le_refl _) (by omega)
theorem k_off {E : XE} {u u2 : QV} {wr : Nat → Int32} {G0 : GW} {rs : Int32} (t : Int32) (hr : rOff u t = rs) (hu : qOff u t = u2) : MF E yX8_off cX8_off 3 (some .int) 4 124 0 0 [.ref (xB E), .int t] (xB E + 57) (LG E u wr G0) (some (.int rs)) (LG E u2 wr G0) := by
  subst hr
  subst hu
  exact c_X8_off E _ (xB E) _ u t (Nat.le_refl _) (by omega)
theorem k_feedback {E : XE} {u u2 : QV} {wr : Nat → Int32} {G0 : GW} {rs : Int32} (d g : Int32) (hr : rFee u d g = rs) (hu : qFee u d g = u2) : MF E yX8_feedback cX8_feedback 5 (some .int) 4 124 0 0 [.ref (xB E), .int d, .int g] (xB E + 57) (LG E u wr G0) (some (.int rs)) (LG E u2 wr G0) := by
  subst hr
  subst hu
  exact c_X8_feedback E _ (xB E) _ u d g (Nat.le_refl _) (by omega)
theorem k_steal {E : XE} {u u2 : QV} {wr : Nat → Int32} {G0 : GW} {rs : Int32} (x : Int32) (hr : rSte u x = rs) (hu : qSte u x = u2) : MF E yX8_steal cX8_steal 3 (some .int) 4 124 0 0 [.ref (xB E), .int x] (xB E + 57) (LG E u wr G0) (some (.int rs)) (LG E u2 wr G0) := by
  subst hr
  subst hu
  exact c_X8_steal E _ (xB E) _ u x (Nat.le_refl _) (by omega)
theorem k_giveBack {E : XE} {u u2 : QV} {wr : Nat → Int32} {G0 : GW} {rs : Int32} (x : Int32) (l : Nat) (hle : vLe (qNow u) = nI l) (hl : l ≤ 64) (hr : rGiv u l x = rs) (hu : qGiv u l x = u2) : MF E yX8_giveBack cX8_giveBack 3 (some .int) 4 124 0 0 [.ref (xB E), .int x] (xB E + 57) (LG E u wr G0) (some (.int rs)) (LG E u2 wr G0) := by
  subst hr
  subst hu
  exact c_X8_giveBack E _ (xB E) _ u x l hle hl (Nat.le_refl _) (by omega)
theorem k_set {E : XE} {u u2 : QV} {wr : Nat → Int32} {G0 : GW} {rs : Int32} (wh x : Int32) (hr : rSet u wh x = rs) (hu : qSet u wh x = u2) : MF E yX8_set cX8_set 3 (some .int) 4 124 0 0 [.ref (xB E), .int wh, .int x] (xB E + 57) (LG E u wr G0) (some (.int rs)) (LG E u2 wr G0) := by
  subst hr
  subst hu
  exact c_X8_set E _ (xB E) _ u wh x (Nat.le_refl _) (by omega)
theorem k_tapOf {E : XE} {u : QV} {wr : Nat → Int32} {G0 : GW} {rs : Int32} (t wh : Int32) (hr : rTof u t wh = rs) : MF E yX8_tapOf cX8_tapOf 3 (some .int) 3 63 0 0 [.ref (xB E), .int t, .int wh] (xB E + 57) (LG E u wr G0) (some (.int rs)) (LG E u wr G0) := by
  subst hr
  exact c_X8_tapOf E _ (xB E) _ u t wh (Nat.le_refl _) (by omega)
theorem k_wordOf {E : XE} {u : QV} {wr : Nat → Int32} {G0 : GW} {rs : Int32} (wh : Int32) (hr : rWof u wh = rs) : MF E yX8_wordOf cX8_wordOf 2 (some .int) 1 22 0 0 [.ref (xB E), .int wh] (xB E + 57) (LG E u wr G0) (some (.int rs)) (LG E u wr G0) := by
  subst hr
  exact c_X8_wordOf E _ (xB E) _ u wh (Nat.le_refl _) (by omega)
theorem k_outputOf {E : XE} {u : QV} {wr : Nat → Int32} {G0 : GW} {rs : Int32} (wh : Int32) (hr : rOof u wh = rs) : MF E yX8_outputOf cX8_outputOf 2 (some .int) 2 43 0 0 [.ref (xB E), .int wh] (xB E + 57) (LG E u wr G0) (some (.int rs)) (LG E u wr G0) := by
  subst hr
  exact c_X8_outputOf E _ (xB E) _ u wh (Nat.le_refl _) (by omega)
theorem k_meter {E : XE} {u : QV} {wr : Nat → Int32} {G0 : GW} {rs : Int32} (wh : Int32) (hM : ¬ vSa (qNow u) = 0 → 0 ≤ (vSu (qNow u)).toInt ∧ 0 < (vSa (qNow u)).toInt) (hr : rMet u wh = rs) : MF E yX8_meter cX8_meter 2 (some .int) 2 43 0 0 [.ref (xB E), .int wh] (xB E + 57) (LG E u wr G0) (some (.int rs)) (LG E u wr G0) := by
  subst hr
  exact c_X8_meter E _ (xB E) _ u wh hM (Nat.le_refl _) (by omega)
theorem k_loudest {E : XE} {u : QV} {wr : Nat → Int32} {G0 : GW} {rs : Int32} (hr : tapS (tLd (qNow u)) 4 = rs) : MF E yX8_loudest cX8_loudest 3 (some .int) 3 62 0 0 [.ref (xB E)] (xB E + 57) (LG E u wr G0) (some (.int rs)) (LG E u wr G0) := by
  subst hr
  exact c_X8_loudest E _ (xB E) _ u  (Nat.le_refl _) (by omega)
theorem k_count {E : XE} {u : QV} {wr : Nat → Int32} {G0 : GW} {rs : Int32} (wh : Int32) (l : Nat) (hle : vLe (qNow u) = nI l) (hl : l ≤ 64) (hr : rCnt u l wh = rs) : MF E yX8_count cX8_count 2 (some .int) 4 84 0 0 [.ref (xB E), .int wh] (xB E + 57) (LG E u wr G0) (some (.int rs)) (LG E u wr G0) := by
  subst hr
  exact c_X8_count E _ (xB E) _ u wh l hle hl (Nat.le_refl _) (by omega)
theorem k_undo {E : XE} {u u2 : QV} {wr : Nat → Int32} {G0 : GW} {rs : Int32} (hke : ¬ qKe u < 0) (hr : rUnd u = rs) (hu : qUnd u = u2) : MF E yX8_undo cX8_undo 1 (some .int) 4 124 0 0 [.ref (xB E)] (xB E + 57) (LG E u wr G0) (some (.int rs)) (LG E u2 wr G0) := by
  subst hr
  subst hu
  exact c_X8_undo E _ (xB E) _ u hke (Nat.le_refl _) (by omega)
