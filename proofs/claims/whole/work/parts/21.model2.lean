/-! ===== the reference: what is done ===== -/
def gOk (f : Nat → Int32) (tk : Nat) : Prop := f 64 = nI tk ∧ tk ≤ 48 ∧ ∀ t, t < 5 → (t = 4 ∨ f (65 + t) = 1) → ∃ d, f (69 + t) = nI d ∧ 1 ≤ d ∧ d ≤ 64
abbrev gS (s : Nat → Int32) (k : Nat) (x : Int32) : Nat → Int32 := slP s k (gNx (sl s k) x)
theorem sl_slP (s : Nat → Int32) (k : Nat) (f : Nat → Int32) {j : Nat} (hj : j < 100) : sl (slP s k f) k j = f j := by
  unfold sl slP
  rw [if_pos (by omega), Nat.add_sub_cancel_left]
theorem sl_slP_ne (s : Nat → Int32) (k k2 : Nat) (f : Nat → Int32) (h : k ≠ k2) {j : Nat} (hj : j < 100) : sl (slP s k f) k2 j = sl s k2 j := by
  unfold sl slP
  rw [if_neg (by omega)]
theorem gNx_mid (f : Nat → Int32) (x : Int32) {j : Nat} (h1 : 64 ≤ j) (h2 : j < 81) : gNx f x j = f j := by
  unfold gNx
  rw [if_neg (by omega), if_neg (by omega), if_neg (by omega), if_neg (by omega), if_neg (by omega), if_neg (by omega), if_neg (by omega), if_neg (by omega), if_neg (by omega)]
theorem gOk_eq {f g : Nat → Int32} {tk : Nat} (h : gOk f tk) (e : ∀ j, 64 ≤ j → j < 74 → g j = f j) : gOk g tk := by
  refine ⟨by rw [e 64 (by omega) (by omega)]; exact h.1, h.2.1, fun t ht q => ?_⟩
  rw [e (69 + t) (by omega) (by omega)]
  exact h.2.2 t ht (q.imp id (fun z => by rw [← e (65 + t) (by omega) (by omega)]; exact z))
theorem gOk_gS {s : Nat → Int32} {k tk : Nat} (x : Int32) (h : gOk (sl s k) tk) : gOk (sl (gS s k x) k) tk :=
  gOk_eq h (fun j h1 h2 => by rw [sl_slP _ _ _ (by omega), gNx_mid _ _ h1 (by omega)])
theorem c2_X9_goes (E : XE) (N m : Nat) (G : GW) (s : Nat → Int32) (su : Nat → Int64) (st : Int32) (tx : Nat → Int32) (ty re ca at_ : Int32) (to : Nat → Int32) (k : Nat) (x : Int32) (tk : Nat) (hk : k < 7) (hg : gOk (sl s k) tk) (hb_m : xB E ≤ m) (hn_m : m + 5 ≤ N) : MF E yX9_goes cX9_goes 10 (some .int) 4 87 0 0 [.ref m, .int (nI k), .int x] N (ov m (mC E m s su st tx ty re ca at_ to) G) (some (.int (gOut (sl s k) x))) (ov m (mC E m (gS s k x) (gSu su s k x) st tx ty re ca at_ to) G) :=
  c_X9_goes E N m G s su st tx ty re ca at_ to k x tk hk hg.1 hg.2.1 hg.2.2 hb_m hn_m
def gMost (f : Nat → Int32) : Nat → Int32
  | 0 => 0
  | n + 1 => if amt (f n) ≤ gMost f n then gMost f n else amt (f n)
abbrev PV : Type := (Nat → Int32) × (Nat → Int64)
def goP (p : PV) (k : Nat) (x : Int32) : PV := (gS p.1 k x, gSu p.2 p.1 k x)
def mSil (p : PV) : Nat → PV × Int32
  | 0 => (p, 0)
  | n + 1 => (goP (mSil p n).1 0 0, if amt (gOut (sl (mSil p n).1.1 0) 0) ≤ (mSil p n).2 then (mSil p n).2 else amt (gOut (sl (mSil p n).1.1 0) 0))
theorem mSil_ok {p : PV} {tk : Nat} (h : gOk (sl p.1 0) tk) : ∀ n, gOk (sl (mSil p n).1.1 0) tk
  | 0 => h
  | n + 1 => gOk_gS 0 (mSil_ok h n)
def mSamR (s : Nat → Int32) (x : Int32) : Int32 := if inR x (-20000) 20000 = true then gOut (sl s 0) x else -1000001
def mSamS (s : Nat → Int32) (x : Int32) : Nat → Int32 := if inR x (-20000) 20000 = true then gS s 0 x else s
def mSamU (s : Nat → Int32) (su : Nat → Int64) (x : Int32) : Nat → Int64 := if inR x (-20000) 20000 = true then gSu su s 0 x else su
def mSilR (s : Nat → Int32) (su : Nat → Int64) (x : Int32) : Int32 := if inR x 1 200 = true then (mSil (s, su) x.toNatClampNeg).2 else -1000001
def mSilS (s : Nat → Int32) (su : Nat → Int64) (x : Int32) : Nat → Int32 := if inR x 1 200 = true then (mSil (s, su) x.toNatClampNeg).1.1 else s
def mSilU (s : Nat → Int32) (su : Nat → Int64) (x : Int32) : Nat → Int64 := if inR x 1 200 = true then (mSil (s, su) x.toNatClampNeg).1.2 else su
def mTap (s : Nat → Int32) (t : Nat) (d g : Int32) : Nat → Int32 := upd (upd (upd s (65 + t) 1) (69 + t) d) (74 + t) g
def mTapR (s : Nat → Int32) (t d g : Int32) : Int32 := if inR t 0 3 = true then if inR d 1 64 = true then if inR g (-900) 900 = true then bI (gLost (sl (mTap s t.toNatClampNeg d g) 0) t.toNatClampNeg) else -1000001 else -1000001 else -1000001
def mTapS (s : Nat → Int32) (t d g : Int32) : Nat → Int32 := if inR t 0 3 = true then if inR d 1 64 = true then if inR g (-900) 900 = true then mTap s t.toNatClampNeg d g else s else s else s
def mFeeR (s : Nat → Int32) (d g : Int32) : Int32 := if inR d 1 64 = true then if inR g 0 950 = true then s 78 else -1000001 else -1000001
def mFeeS (s : Nat → Int32) (d g : Int32) : Nat → Int32 := if inR d 1 64 = true then if inR g 0 950 = true then upd (upd s 73 d) 78 g else s else s
def zfA (s : Nat → Int32) (lo n : Nat) : Nat → Int32 := fun q => if lo ≤ q ∧ q < lo + n then 0 else s q
theorem zfA_0 (s : Nat → Int32) (lo : Nat) : zfA s lo 0 = s := by
  funext q
  unfold zfA
  rw [if_neg (by omega)]
theorem zfA_step (s : Nat → Int32) (lo i : Nat) : upd (zfA s lo i) (lo + i) 0 = zfA s lo (i + 1) := by
  funext q
  unfold upd zfA
  by_cases h : q = lo + i
  · subst h
    rw [if_pos rfl, if_pos (by omega)]
  · rw [if_neg h]
    by_cases h2 : lo ≤ q ∧ q < lo + i
    · rw [if_pos h2, if_pos (by omega)]
    · rw [if_neg h2, if_neg (by omega)]
def mSt1 (s : Nat → Int32) (tk w : Nat) : Nat → Int32 := upd s 64 (nI (tk + w))
def mSt2 (s : Nat → Int32) (tk w : Nat) : Nat → Int32 := upd (mSt1 s tk w) 98 (mSt1 s tk w 98 + nI w)
def mSt3 (s : Nat → Int32) (tk w : Nat) : Nat → Int32 := zfA (mSt2 s tk w) (64 - (tk + w)) (tk + w)
def mSteR (tk : Nat) (x : Int32) : Int32 := if inR x 1 48 = true then if nI (tk + x.toNatClampNeg) ≤ 48 then nI (64 - (tk + x.toNatClampNeg)) else -1000003 else -1000001
def mSteS (s : Nat → Int32) (tk : Nat) (x : Int32) : Nat → Int32 := if inR x 1 48 = true then if nI (tk + x.toNatClampNeg) ≤ 48 then mSt3 s tk x.toNatClampNeg else s else s
def mGivR (tk : Nat) (x : Int32) : Int32 := if inR x 1 48 = true then if x ≤ nI tk then nI (64 - (tk - x.toNatClampNeg)) else -1000002 else -1000001
def mGivS (s : Nat → Int32) (tk : Nat) (x : Int32) : Nat → Int32 := if inR x 1 48 = true then if x ≤ nI tk then upd s 64 (nI (tk - x.toNatClampNeg)) else s else s
def mActN (r : Int32) (n : Nat) : Nat := if r ≤ -1000001 then n else if nI n = 4 then 4 else n + 1
def mActS (r : Int32) (n : Nat) (s : Nat → Int32) : Nat → Int32 := if r ≤ -1000001 then s else if nI n = 4 then mCp (mCp (mCp (mCp s 2 1) 3 2) 4 3) 6 4 else mCp s 6 (n + 1)
def mActU (r : Int32) (n : Nat) (su : Nat → Int64) : Nat → Int64 := if r ≤ -1000001 then su else if nI n = 4 then mCu (mCu (mCu (mCu su 2 1) 3 2) 4 3) 6 4 else mCu su 6 (n + 1)
set_option maxRecDepth 100000 in
set_option maxHeartbeats 4000000 in
theorem c_X9_acted (E : XE) (N m : Nat) (G : GW) (s : Nat → Int32) (su : Nat → Int64) (tx : Nat → Int32) (ty re ca at_ : Int32) (to : Nat → Int32) (r : Int32) (n : Nat) (hn : n ≤ 4) (hb_m : xB E ≤ m) (hn_m : m + 5 ≤ N) : MF E yX9_acted cX9_acted 3 (some .int) 1 23 0 0 [.ref m, .int r] N (ov m (mC E m s su (nI n) tx ty re ca at_ to) G) (some (.int r)) (ov m (mC E m (mActS r n s) (mActU r n su) (nI (mActN r n)) tx ty re ca at_ to) G) := by
  refine MF.mk RX9 rfl (by decide +kernel) rfl (fun K C Z hin hN => ?_)
  show XW E K 3 N 0 0 _ 0 [(0, .ref m), (1, .int r)] []
  refine x_iload_n C dX9_acted_0 1 rfl ?_
  refine x_ldc C (-1000001) m_584 dX9_acted_1 ?_
  refine x_icmp_le C 60 dX9_acted_3 rfl (fun c3 => ?_) (fun c3 => ?_)
  · refine x_iload_n C dX9_acted_60 1 rfl ?_
    exact x_iret C Z rfl rfl (by first | (simp only [mActN, mActS, mActU, if_pos c3, eq_self, Bool.false_eq_true, if_true, if_false]; done) | ((simp only [mActN, mActS, mActU, if_pos c3, eq_self, Bool.false_eq_true, if_true, if_false]); rfl) | (simp [mActN, mActS, mActU, c3]; done) | (simp [mActN, mActS, mActU, c3]; rfl)) (by first | (simp only [mActN, mActS, mActU, if_pos c3, eq_self, Bool.false_eq_true, if_true, if_false]; done) | ((simp only [mActN, mActS, mActU, if_pos c3, eq_self, Bool.false_eq_true, if_true, if_false]); rfl) | (simp [mActN, mActS, mActU, c3]; done) | (simp [mActN, mActS, mActU, c3]; rfl)) dX9_acted_61
  · refine x_aload_n C dX9_acted_6 0 rfl ?_
    refine x_get C (xlo (i := 0) hb_m) (xhi (i := 0) hn_m rfl) (ov_at (i := 0) rfl) f_X9_29 rfl dX9_acted_7 ?_
    refine x_iconst C 4 dX9_acted_10 rfl ?_
    refine x_icmp_ne C 40 dX9_acted_11 rfl (fun c11 => ?_) (fun c11 => ?_)
    · refine x_aload_n C dX9_acted_40 0 rfl ?_
      refine x_dup C dX9_acted_41 rfl ?_
      refine x_get C (xlo (i := 0) hb_m) (xhi (i := 0) hn_m rfl) (ov_at (i := 0) rfl) f_X9_29 rfl dX9_acted_42 ?_
      refine x_iconst C 1 dX9_acted_45 rfl ?_
      refine x_iadd C dX9_acted_46 ?_
      refine x_v (w := .int (nI (n + 1))) (congrArg Value.int (natAdd (a := n) (b := 1) (by omega))) ?_
      refine x_put (G' := ov m (mC E m s su (nI (n + 1)) tx ty re ca at_ to) G) C (xlo (i := 0) hb_m) (xhi (i := 0) hn_m rfl) (ov_at (i := 0) rfl) f_X9_29 xt_X9 rfl rfl rfl rfl (ov_set (i := 0) rfl rfl) dX9_acted_47 ?_
      refine x_aload_n C dX9_acted_50 0 rfl ?_
      refine x_bipush C 6 dX9_acted_51 rfl ?_
      refine x_aload_n C dX9_acted_53 0 rfl ?_
      refine x_get C (xlo (i := 0) hb_m) (xhi (i := 0) hn_m rfl) (ov_at (i := 0) rfl) f_X9_29 rfl dX9_acted_54 ?_
      refine x_cV0 C (c_X9_copies E N m _ s su (nI (n + 1)) tx ty re ca at_ to 6 (n + 1) (by first | assumption | omega | decide) (by first | assumption | omega | decide) hb_m hn_m) v_X9_24 hN (xlo (i := 0) hb_m) (xhi (i := 0) hn_m rfl) (ov_at (i := 0) rfl) rfl rfl rfl rfl rfl dX9_acted_57 ?_
      refine x_iload_n C dX9_acted_60 1 rfl ?_
      exact x_iret C Z rfl rfl (by first | (simp only [mActN, mActS, mActU, if_neg c3, if_neg c11, eq_self, Bool.false_eq_true, if_true, if_false]; done) | ((simp only [mActN, mActS, mActU, if_neg c3, if_neg c11, eq_self, Bool.false_eq_true, if_true, if_false]); rfl) | (simp [mActN, mActS, mActU, c3, c11]; done) | (simp [mActN, mActS, mActU, c3, c11]; rfl)) (by first | (simp only [mActN, mActS, mActU, if_neg c3, if_neg c11, eq_self, Bool.false_eq_true, if_true, if_false]; done) | ((simp only [mActN, mActS, mActU, if_neg c3, if_neg c11, eq_self, Bool.false_eq_true, if_true, if_false]); rfl) | (simp [mActN, mActS, mActU, c3, c11]; done) | (simp [mActN, mActS, mActU, c3, c11]; rfl)) dX9_acted_61
    · refine x_iconst C 1 dX9_acted_14 rfl ?_
      refine x_istore_n (L' := [(2, .int 1), (0, .ref m), (1, .int r)]) C dX9_acted_15 rfl rfl ?_
      refine x_iload_n C dX9_acted_16 0 rfl ?_
      refine x_iconst C 4 dX9_acted_17 rfl ?_
      refine x_icmp_ge C 35 dX9_acted_18 rfl (fun c => absurd c (by decide)) (fun _ => ?_)
      refine x_aload_n C dX9_acted_21 1 rfl ?_
      refine x_iload_n C dX9_acted_22 0 rfl ?_
      refine x_iconst C 1 dX9_acted_23 rfl ?_
      refine x_iadd C dX9_acted_24 ?_
      refine x_v (w := .int 2) rfl ?_
      refine x_iload_n C dX9_acted_25 0 rfl ?_
      refine x_cV0 C (c_X9_copies E N m _ s su (nI n) tx ty re ca at_ to 2 1 (by first | assumption | omega | decide) (by first | assumption | omega | decide) hb_m hn_m) v_X9_24 hN (xlo (i := 0) hb_m) (xhi (i := 0) hn_m rfl) (ov_at (i := 0) rfl) rfl rfl rfl rfl rfl dX9_acted_26 ?_
      refine x_iinc (L' := [(2, .int 2), (0, .ref m), (1, .int r)]) C 2 dX9_acted_29 0 rfl rfl rfl rfl ?_
      refine x_goto C 16 dX9_acted_32 rfl ?_
      refine x_iload_n C dX9_acted_16 0 rfl ?_
      refine x_iconst C 4 dX9_acted_17 rfl ?_
      refine x_icmp_ge C 35 dX9_acted_18 rfl (fun c => absurd c (by decide)) (fun _ => ?_)
      refine x_aload_n C dX9_acted_21 1 rfl ?_
      refine x_iload_n C dX9_acted_22 0 rfl ?_
      refine x_iconst C 1 dX9_acted_23 rfl ?_
      refine x_iadd C dX9_acted_24 ?_
      refine x_v (w := .int 3) rfl ?_
      refine x_iload_n C dX9_acted_25 0 rfl ?_
      refine x_cV0 C (c_X9_copies E N m _ (mCp s 2 1) (mCu su 2 1) (nI n) tx ty re ca at_ to 3 2 (by first | assumption | omega | decide) (by first | assumption | omega | decide) hb_m hn_m) v_X9_24 hN (xlo (i := 0) hb_m) (xhi (i := 0) hn_m rfl) (ov_at (i := 0) rfl) rfl rfl rfl rfl rfl dX9_acted_26 ?_
      refine x_iinc (L' := [(2, .int 3), (0, .ref m), (1, .int r)]) C 3 dX9_acted_29 0 rfl rfl rfl rfl ?_
      refine x_goto C 16 dX9_acted_32 rfl ?_
      refine x_iload_n C dX9_acted_16 0 rfl ?_
      refine x_iconst C 4 dX9_acted_17 rfl ?_
      refine x_icmp_ge C 35 dX9_acted_18 rfl (fun c => absurd c (by decide)) (fun _ => ?_)
      refine x_aload_n C dX9_acted_21 1 rfl ?_
      refine x_iload_n C dX9_acted_22 0 rfl ?_
      refine x_iconst C 1 dX9_acted_23 rfl ?_
      refine x_iadd C dX9_acted_24 ?_
      refine x_v (w := .int 4) rfl ?_
      refine x_iload_n C dX9_acted_25 0 rfl ?_
      refine x_cV0 C (c_X9_copies E N m _ (mCp (mCp s 2 1) 3 2) (mCu (mCu su 2 1) 3 2) (nI n) tx ty re ca at_ to 4 3 (by first | assumption | omega | decide) (by first | assumption | omega | decide) hb_m hn_m) v_X9_24 hN (xlo (i := 0) hb_m) (xhi (i := 0) hn_m rfl) (ov_at (i := 0) rfl) rfl rfl rfl rfl rfl dX9_acted_26 ?_
      refine x_iinc (L' := [(2, .int 4), (0, .ref m), (1, .int r)]) C 4 dX9_acted_29 0 rfl rfl rfl rfl ?_
      refine x_goto C 16 dX9_acted_32 rfl ?_
      refine x_iload_n C dX9_acted_16 0 rfl ?_
      refine x_iconst C 4 dX9_acted_17 rfl ?_
      refine x_icmp_ge C 35 dX9_acted_18 rfl (fun _ => ?_) (fun c => absurd c (by decide))
      refine x_aload_n C dX9_acted_35 1 rfl ?_
      refine x_iconst C 3 dX9_acted_36 rfl ?_
      refine x_put (G' := ov m (mC E m (mCp (mCp (mCp s 2 1) 3 2) 4 3) (mCu (mCu (mCu su 2 1) 3 2) 4 3) 3 tx ty re ca at_ to) G) C (xlo (i := 0) hb_m) (xhi (i := 0) hn_m rfl) (ov_at (i := 0) rfl) f_X9_29 xt_X9 rfl rfl rfl rfl (ov_set (i := 0) rfl rfl) dX9_acted_37 ?_
      refine x_aload_n C dX9_acted_40 1 rfl ?_
      refine x_dup C dX9_acted_41 rfl ?_
      refine x_get C (xlo (i := 0) hb_m) (xhi (i := 0) hn_m rfl) (ov_at (i := 0) rfl) f_X9_29 rfl dX9_acted_42 ?_
      refine x_iconst C 1 dX9_acted_45 rfl ?_
      refine x_iadd C dX9_acted_46 ?_
      refine x_v (w := .int 4) rfl ?_
      refine x_put (G' := ov m (mC E m (mCp (mCp (mCp s 2 1) 3 2) 4 3) (mCu (mCu (mCu su 2 1) 3 2) 4 3) 4 tx ty re ca at_ to) G) C (xlo (i := 0) hb_m) (xhi (i := 0) hn_m rfl) (ov_at (i := 0) rfl) f_X9_29 xt_X9 rfl rfl rfl rfl (ov_set (i := 0) rfl rfl) dX9_acted_47 ?_
      refine x_aload_n C dX9_acted_50 1 rfl ?_
      refine x_bipush C 6 dX9_acted_51 rfl ?_
      refine x_aload_n C dX9_acted_53 1 rfl ?_
      refine x_get C (xlo (i := 0) hb_m) (xhi (i := 0) hn_m rfl) (ov_at (i := 0) rfl) f_X9_29 rfl dX9_acted_54 ?_
      refine x_cV0 C (c_X9_copies E N m _ (mCp (mCp (mCp s 2 1) 3 2) 4 3) (mCu (mCu (mCu su 2 1) 3 2) 4 3) 4 tx ty re ca at_ to 6 4 (by first | assumption | omega | decide) (by first | assumption | omega | decide) hb_m hn_m) v_X9_24 hN (xlo (i := 0) hb_m) (xhi (i := 0) hn_m rfl) (ov_at (i := 0) rfl) rfl rfl rfl rfl rfl dX9_acted_57 ?_
      refine x_iload_n C dX9_acted_60 2 rfl ?_
      exact x_iret C Z rfl rfl (by first | (simp only [mActN, mActS, mActU, if_neg c3, if_pos c11, eq_self, Bool.false_eq_true, if_true, if_false]; done) | ((simp only [mActN, mActS, mActU, if_neg c3, if_pos c11, eq_self, Bool.false_eq_true, if_true, if_false]); rfl) | (simp [mActN, mActS, mActU, c3, c11]; done) | (simp [mActN, mActS, mActU, c3, c11]; rfl)) (by first | (simp only [mActN, mActS, mActU, if_neg c3, if_pos c11, eq_self, Bool.false_eq_true, if_true, if_false]; done) | ((simp only [mActN, mActS, mActU, if_neg c3, if_pos c11, eq_self, Bool.false_eq_true, if_true, if_false]); rfl) | (simp [mActN, mActS, mActU, c3, c11]; done) | (simp [mActN, mActS, mActU, c3, c11]; rfl)) dX9_acted_61

set_option maxRecDepth 100000 in
set_option maxHeartbeats 4000000 in
theorem c_X9_greatestWord (E : XE) (N m : Nat) (G : GW) (s : Nat → Int32) (su : Nat → Int64) (st : Int32) (tx : Nat → Int32) (ty re ca at_ : Int32) (to : Nat → Int32) (k tk : Nat) (hk : k < 7) (htk : sl s k 64 = nI tk) (htk2 : tk ≤ 48) (hb_m : xB E ≤ m) (hn_m : m + 5 ≤ N) : MF E yX9_greatestWord cX9_greatestWord 5 (some .int) 1 21 0 0 [.ref m, .int (nI k)] N (ov m (mC E m s su st tx ty re ca at_ to) G) (some (.int (gMost (sl s k) (64 - tk)))) (ov m (mC E m s su st tx ty re ca at_ to) G) := by
  refine MF.mk RX9 rfl (by decide +kernel) rfl (fun K C Z hin hN => ?_)
  show XW E K 5 N 0 0 _ 0 [(0, .ref m), (1, .int (nI k))] []
  refine x_iconst C 0 dX9_greatestWord_0 rfl ?_
  refine x_istore_n (L' := [(2, .int 0), (0, .ref m), (1, .int (nI k))]) C dX9_greatestWord_1 rfl rfl ?_
  refine x_iconst C 0 dX9_greatestWord_2 rfl ?_
  refine x_istore_n (L' := [(3, .int 0), (2, .int 0), (0, .ref m), (1, .int (nI k))]) C dX9_greatestWord_3 rfl rfl ?_
  refine x_perm (L' := [(0, .ref m), (1, .int (nI k)), (2, .int 0), (3, .int 0)]) [2, 3, 1, 0] rfl ?_
  have lp4 : ∀ (d i : Nat), i + d = 64 - tk → XW E K 5 N 0 0 (ov m (mC E m s su st tx ty re ca at_ to) G) 4 [(0, .ref m), (1, .int (nI k)), (2, .int (gMost (sl s k) i)), (3, .int (nI i))] [] := by
    intro d
    induction d with
    | zero =>
      intro i hd
      have q9i : 64 - tk = i := by omega
      subst q9i
      refine x_iload_n C dX9_greatestWord_4 3 rfl ?_
      refine x_aload_n C dX9_greatestWord_5 0 rfl ?_
      refine x_iload_n C dX9_greatestWord_6 1 rfl ?_
      refine x_cV1 C (c_X9_length E N m _ s su st tx ty re ca at_ to k (by first | assumption | omega | decide) hb_m hn_m) v_X9_33 hN (xlo (i := 0) hb_m) (xhi (i := 0) hn_m rfl) (ov_at (i := 0) rfl) rfl rfl rfl rfl rfl dX9_greatestWord_7 ?_
      refine x_v (w := .int (nI (64 - tk))) (by show Value.int (64 - sl s k 64) = _; rw [htk]; exact congrArg Value.int (natSub (a := 64) (b := tk) (by omega))) ?_
      refine x_icmp_ge C 48 dX9_greatestWord_10 rfl (fun _ => ?_) (fun c => absurd c (not_not_intro (nI_le (by omega) (by omega))))
      refine x_iload_n C dX9_greatestWord_48 2 rfl ?_
      exact x_iret C Z rfl rfl rfl rfl dX9_greatestWord_49
    | succ d ih =>
      intro i hd
      have hi : i < 64 - tk := by omega
      refine x_iload_n C dX9_greatestWord_4 3 rfl ?_
      refine x_aload_n C dX9_greatestWord_5 0 rfl ?_
      refine x_iload_n C dX9_greatestWord_6 1 rfl ?_
      refine x_cV1 C (c_X9_length E N m _ s su st tx ty re ca at_ to k (by first | assumption | omega | decide) hb_m hn_m) v_X9_33 hN (xlo (i := 0) hb_m) (xhi (i := 0) hn_m rfl) (ov_at (i := 0) rfl) rfl rfl rfl rfl rfl dX9_greatestWord_7 ?_
      refine x_v (w := .int (nI (64 - tk))) (by show Value.int (64 - sl s k 64) = _; rw [htk]; exact congrArg Value.int (natSub (a := 64) (b := tk) (by omega))) ?_
      refine x_icmp_ge C 48 dX9_greatestWord_10 rfl (fun c => absurd c (nI_ge (by omega) (by omega))) (fun _ => ?_)
      refine x_aload_n C dX9_greatestWord_13 0 rfl ?_
      refine x_get C (xlo (i := 0) hb_m) (xhi (i := 0) hn_m rfl) (ov_at (i := 0) rfl) f_X9_7 rfl dX9_greatestWord_14 ?_
      refine x_bipush C 100 dX9_greatestWord_17 rfl ?_
      refine x_iload_n C dX9_greatestWord_19 1 rfl ?_
      refine x_imul C dX9_greatestWord_20 ?_
      refine x_v (w := .int (nI (100 * k))) (congrArg Value.int (natMul (a := 100) (b := k) (by omega))) ?_
      refine x_iload_n C dX9_greatestWord_21 3 rfl ?_
      refine x_iadd C dX9_greatestWord_22 ?_
      refine x_v (w := .int (nI (100 * k + i))) (congrArg Value.int (natAdd (a := 100 * k) (b := i) (by omega))) ?_
      refine x_iald C (s (100 * k + i)) (xlo (i := 1) hb_m) (xhi (i := 1) hn_m rfl) (ov_at (i := 1) rfl) (vp_in_nI (by omega) (by decide)) (by rw [nI_clamp (by omega)]) dX9_greatestWord_23 ?_
      refine x_cS1 C (c_X9_amount E N _ (s (100 * k + i))) v_X9_45 hN rfl rfl rfl rfl dX9_greatestWord_24 ?_
      refine x_istore (L' := [(4, .int (amt (s (100 * k + i)))), (0, .ref m), (1, .int (nI k)), (2, .int (gMost (sl s k) i)), (3, .int (nI i))]) C dX9_greatestWord_27 rfl rfl ?_
      refine x_iload C dX9_greatestWord_29 0 rfl ?_
      refine x_iload_n C dX9_greatestWord_31 3 rfl ?_
      refine x_icmp_le C 40 dX9_greatestWord_32 rfl (fun c32 => ?_) (fun c32 => ?_)
      · refine x_iload_n C dX9_greatestWord_40 3 rfl ?_
        refine x_istore_n (L' := [(2, .int (gMost (sl s k) i)), (4, .int (amt (s (100 * k + i)))), (0, .ref m), (1, .int (nI k)), (3, .int (nI i))]) C dX9_greatestWord_41 rfl rfl ?_
        refine x_iinc (L' := [(3, .int ((nI i) + 1)), (2, .int (gMost (sl s k) i)), (4, .int (amt (s (100 * k + i)))), (0, .ref m), (1, .int (nI k))]) C ((nI i) + 1) dX9_greatestWord_42 4 rfl rfl rfl rfl ?_
        refine x_goto C 4 dX9_greatestWord_45 rfl ?_
        refine x_perm (L' := [(0, .ref m), (1, .int (nI k)), (2, .int (gMost (sl s k) i)), (3, .int ((nI i) + 1))]) [3, 4, 1, 0] rfl ?_
        refine x_to (L' := [(0, .ref m), (1, .int (nI k)), (2, .int (gMost (sl s k) (i + 1))), (3, .int (nI (i + 1)))]) (G' := ov m (mC E m s su st tx ty re ca at_ to) G) (by simp only [nI_succ, gMost, if_pos c32]; first | done | rfl) rfl rfl ?_
        exact ih (i + 1) (by omega)
      · refine x_iload C dX9_greatestWord_35 0 rfl ?_
        refine x_goto C 41 dX9_greatestWord_37 rfl ?_
        refine x_istore_n (L' := [(2, .int (amt (s (100 * k + i)))), (4, .int (amt (s (100 * k + i)))), (0, .ref m), (1, .int (nI k)), (3, .int (nI i))]) C dX9_greatestWord_41 rfl rfl ?_
        refine x_iinc (L' := [(3, .int ((nI i) + 1)), (2, .int (amt (s (100 * k + i)))), (4, .int (amt (s (100 * k + i)))), (0, .ref m), (1, .int (nI k))]) C ((nI i) + 1) dX9_greatestWord_42 4 rfl rfl rfl rfl ?_
        refine x_goto C 4 dX9_greatestWord_45 rfl ?_
        refine x_perm (L' := [(0, .ref m), (1, .int (nI k)), (2, .int (amt (s (100 * k + i)))), (3, .int ((nI i) + 1))]) [3, 4, 1, 0] rfl ?_
        refine x_to (L' := [(0, .ref m), (1, .int (nI k)), (2, .int (gMost (sl s k) (i + 1))), (3, .int (nI (i + 1)))]) (G' := ov m (mC E m s su st tx ty re ca at_ to) G) (by simp only [nI_succ, gMost, if_neg c32]; first | done | rfl) rfl rfl ?_
        exact ih (i + 1) (by omega)
  refine x_to (L' := [(0, .ref m), (1, .int (nI k)), (2, .int (gMost (sl s k) 0)), (3, .int (nI 0))]) (G' := ov m (mC E m s su st tx ty re ca at_ to) G) rfl rfl rfl ?_
  exact lp4 _ 0 (Nat.add_sub_cancel' (by omega))

set_option maxRecDepth 100000 in
set_option maxHeartbeats 4000000 in
theorem c_X9_doSample (E : XE) (N m : Nat) (G : GW) (s : Nat → Int32) (su : Nat → Int64) (st : Int32) (tx : Nat → Int32) (ty re ca at_ : Int32) (to : Nat → Int32) (x : Int32) (tk : Nat) (hg : gOk (sl s 0) tk) (hb_m : xB E ≤ m) (hn_m : m + 5 ≤ N) : MF E yX9_doSample cX9_doSample 2 (some .int) 5 116 0 0 [.ref m, .int x] N (ov m (mC E m s su st tx ty re ca at_ to) G) (some (.int (mSamR s x))) (ov m (mC E m (mSamS s x) (mSamU s su x) st tx ty re ca at_ to) G) := by
  refine MF.mk RX9 rfl (by decide +kernel) rfl (fun K C Z hin hN => ?_)
  show XW E K 2 N 0 0 _ 0 [(0, .ref m), (1, .int x)] []
  refine x_iload_n C dX9_doSample_0 1 rfl ?_
  refine x_sipush C (-20000) dX9_doSample_1 rfl ?_
  refine x_sipush C 20000 dX9_doSample_4 rfl ?_
  refine x_cS1 C (c_X9_in E N _ x (-20000) 20000) v_X9_54 hN rfl rfl rfl rfl dX9_doSample_7 ?_
  refine x_ifb_eq C 22 dX9_doSample_10 rfl (fun c10 => ?_) (fun c10 => ?_)
  · refine x_ldc C (-1000001) m_584 dX9_doSample_22 ?_
    exact x_iret C Z rfl rfl (by first | (simp only [mSamR, mSamS, mSamU, c10, eq_self, Bool.false_eq_true, if_true, if_false]; done) | ((simp only [mSamR, mSamS, mSamU, c10, eq_self, Bool.false_eq_true, if_true, if_false]); rfl) | (simp [mSamR, mSamS, mSamU, c10]; done) | (simp [mSamR, mSamS, mSamU, c10]; rfl)) (by first | (simp only [mSamR, mSamS, mSamU, c10, eq_self, Bool.false_eq_true, if_true, if_false]; done) | ((simp only [mSamR, mSamS, mSamU, c10, eq_self, Bool.false_eq_true, if_true, if_false]); rfl) | (simp [mSamR, mSamS, mSamU, c10]; done) | (simp [mSamR, mSamS, mSamU, c10]; rfl)) dX9_doSample_24
  · refine x_aload_n C dX9_doSample_13 0 rfl ?_
    refine x_iconst C 0 dX9_doSample_14 rfl ?_
    refine x_iload_n C dX9_doSample_15 1 rfl ?_
    refine x_cV1 C (c2_X9_goes E N m _ s su st tx ty re ca at_ to 0 x tk (by first | assumption | omega | decide) hg hb_m hn_m) v_X9_58 hN (xlo (i := 0) hb_m) (xhi (i := 0) hn_m rfl) (ov_at (i := 0) rfl) rfl rfl rfl rfl rfl dX9_doSample_16 ?_
    refine x_goto C 24 dX9_doSample_19 rfl ?_
    exact x_iret C Z rfl rfl (by first | (simp only [mSamR, mSamS, mSamU, c10, eq_self, Bool.false_eq_true, if_true, if_false]; done) | ((simp only [mSamR, mSamS, mSamU, c10, eq_self, Bool.false_eq_true, if_true, if_false]); rfl) | (simp [mSamR, mSamS, mSamU, c10]; done) | (simp [mSamR, mSamS, mSamU, c10]; rfl)) (by first | (simp only [mSamR, mSamS, mSamU, c10, eq_self, Bool.false_eq_true, if_true, if_false]; done) | ((simp only [mSamR, mSamS, mSamU, c10, eq_self, Bool.false_eq_true, if_true, if_false]); rfl) | (simp [mSamR, mSamS, mSamU, c10]; done) | (simp [mSamR, mSamS, mSamU, c10]; rfl)) dX9_doSample_24

set_option maxRecDepth 100000 in
set_option maxHeartbeats 4000000 in
theorem c_X9_doSilence (E : XE) (N m : Nat) (G : GW) (s : Nat → Int32) (su : Nat → Int64) (st : Int32) (tx : Nat → Int32) (ty re ca at_ : Int32) (to : Nat → Int32) (x : Int32) (tk : Nat) (hg : gOk (sl s 0) tk) (hb_m : xB E ≤ m) (hn_m : m + 5 ≤ N) : MF E yX9_doSilence cX9_doSilence 5 (some .int) 5 116 0 0 [.ref m, .int x] N (ov m (mC E m s su st tx ty re ca at_ to) G) (some (.int (mSilR s su x))) (ov m (mC E m (mSilS s su x) (mSilU s su x) st tx ty re ca at_ to) G) := by
  refine MF.mk RX9 rfl (by decide +kernel) rfl (fun K C Z hin hN => ?_)
  show XW E K 5 N 0 0 _ 0 [(0, .ref m), (1, .int x)] []
  refine x_iload_n C dX9_doSilence_0 1 rfl ?_
  refine x_iconst C 1 dX9_doSilence_1 rfl ?_
  refine x_sipush C 200 dX9_doSilence_2 rfl ?_
  refine x_cS1 C (c_X9_in E N _ x 1 200) v_X9_54 hN rfl rfl rfl rfl dX9_doSilence_5 ?_
  refine x_ifb_ne C 14 dX9_doSilence_8 rfl (fun c8 => ?_) (fun c8 => ?_)
  · obtain ⟨k, hk, rfl⟩ : ∃ k : Nat, k ≤ 200 ∧ x = nI k := ⟨_, (inR_k (by decide) (by decide) c8).2, (inR_k (n := 200) (by decide) (by decide) c8).1⟩
    have q9kc : (nI k).toNatClampNeg = k := nI_clamp (by omega)
    refine x_iconst C 0 dX9_doSilence_14 rfl ?_
    refine x_istore_n (L' := [(2, .int 0), (0, .ref m), (1, .int (nI k))]) C dX9_doSilence_15 rfl rfl ?_
    refine x_iconst C 0 dX9_doSilence_16 rfl ?_
    refine x_istore_n (L' := [(3, .int 0), (2, .int 0), (0, .ref m), (1, .int (nI k))]) C dX9_doSilence_17 rfl rfl ?_
    refine x_perm (L' := [(0, .ref m), (1, .int (nI k)), (2, .int 0), (3, .int 0)]) [2, 3, 1, 0] rfl ?_
    have lp18 : ∀ (d i : Nat), i + d = k → XW E K 5 N 0 0 (ov m (mC E m ((mSil (s, su) i).1.1) ((mSil (s, su) i).1.2) st tx ty re ca at_ to) G) 18 [(0, .ref m), (1, .int (nI k)), (2, .int ((mSil (s, su) i).2)), (3, .int (nI i))] [] := by
      intro d
      induction d with
      | zero =>
        intro i hd
        have q9i : k = i := by omega
        subst q9i
        refine x_iload_n C dX9_doSilence_18 3 rfl ?_
        refine x_iload_n C dX9_doSilence_19 1 rfl ?_
        refine x_icmp_ge C 53 dX9_doSilence_20 rfl (fun _ => ?_) (fun c => absurd c (not_not_intro (nI_le (by omega) (by omega))))
        refine x_iload_n C dX9_doSilence_53 2 rfl ?_
        exact x_iret C Z rfl rfl (by first | (simp only [mSilR, mSilS, mSilU, q9kc, c8, eq_self, Bool.false_eq_true, if_true, if_false]; done) | ((simp only [mSilR, mSilS, mSilU, q9kc, c8, eq_self, Bool.false_eq_true, if_true, if_false]); rfl) | (simp [mSilR, mSilS, mSilU, q9kc, c8]; done) | (simp [mSilR, mSilS, mSilU, q9kc, c8]; rfl)) (by first | (simp only [mSilR, mSilS, mSilU, q9kc, c8, eq_self, Bool.false_eq_true, if_true, if_false]; done) | ((simp only [mSilR, mSilS, mSilU, q9kc, c8, eq_self, Bool.false_eq_true, if_true, if_false]); rfl) | (simp [mSilR, mSilS, mSilU, q9kc, c8]; done) | (simp [mSilR, mSilS, mSilU, q9kc, c8]; rfl)) dX9_doSilence_54
      | succ d ih =>
        intro i hd
        have hi : i < k := by omega
        refine x_iload_n C dX9_doSilence_18 3 rfl ?_
        refine x_iload_n C dX9_doSilence_19 1 rfl ?_
        refine x_icmp_ge C 53 dX9_doSilence_20 rfl (fun c => absurd c (nI_ge (by omega) (by omega))) (fun _ => ?_)
        refine x_aload_n C dX9_doSilence_23 0 rfl ?_
        refine x_iconst C 0 dX9_doSilence_24 rfl ?_
        refine x_iconst C 0 dX9_doSilence_25 rfl ?_
        refine x_cV1 C (c2_X9_goes E N m _ ((mSil (s, su) i).1.1) ((mSil (s, su) i).1.2) st tx ty re ca at_ to 0 0 tk (by first | assumption | omega | decide) (mSil_ok (p := (s, su)) hg i) hb_m hn_m) v_X9_58 hN (xlo (i := 0) hb_m) (xhi (i := 0) hn_m rfl) (ov_at (i := 0) rfl) rfl rfl rfl rfl rfl dX9_doSilence_26 ?_
        refine x_cS1 C (c_X9_amount E N _ (gOut (sl ((mSil (s, su) i).1.1) 0) 0)) v_X9_45 hN rfl rfl rfl rfl dX9_doSilence_29 ?_
        refine x_istore (L' := [(4, .int (amt (gOut (sl ((mSil (s, su) i).1.1) 0) 0))), (0, .ref m), (1, .int (nI k)), (2, .int ((mSil (s, su) i).2)), (3, .int (nI i))]) C dX9_doSilence_32 rfl rfl ?_
        refine x_iload C dX9_doSilence_34 0 rfl ?_
        refine x_iload_n C dX9_doSilence_36 3 rfl ?_
        refine x_icmp_le C 45 dX9_doSilence_37 rfl (fun c37 => ?_) (fun c37 => ?_)
        · refine x_iload_n C dX9_doSilence_45 3 rfl ?_
          refine x_istore_n (L' := [(2, .int ((mSil (s, su) i).2)), (4, .int (amt (gOut (sl ((mSil (s, su) i).1.1) 0) 0))), (0, .ref m), (1, .int (nI k)), (3, .int (nI i))]) C dX9_doSilence_46 rfl rfl ?_
          refine x_iinc (L' := [(3, .int ((nI i) + 1)), (2, .int ((mSil (s, su) i).2)), (4, .int (amt (gOut (sl ((mSil (s, su) i).1.1) 0) 0))), (0, .ref m), (1, .int (nI k))]) C ((nI i) + 1) dX9_doSilence_47 4 rfl rfl rfl rfl ?_
          refine x_goto C 18 dX9_doSilence_50 rfl ?_
          refine x_perm (L' := [(0, .ref m), (1, .int (nI k)), (2, .int ((mSil (s, su) i).2)), (3, .int ((nI i) + 1))]) [3, 4, 1, 0] rfl ?_
          refine x_to (L' := [(0, .ref m), (1, .int (nI k)), (2, .int ((mSil (s, su) (i + 1)).2)), (3, .int (nI (i + 1)))]) (G' := ov m (mC E m ((mSil (s, su) (i + 1)).1.1) ((mSil (s, su) (i + 1)).1.2) st tx ty re ca at_ to) G) (by simp only [nI_succ, mSil, c8, if_pos c37]; first | done | rfl) rfl rfl ?_
          exact ih (i + 1) (by omega)
        · refine x_iload C dX9_doSilence_40 0 rfl ?_
          refine x_goto C 46 dX9_doSilence_42 rfl ?_
          refine x_topi (fun z1 ez1 => ?_)
          refine x_istore_n (L' := [(2, .int z1), (4, .int (amt (gOut (sl ((mSil (s, su) i).1.1) 0) 0))), (0, .ref m), (1, .int (nI k)), (3, .int (nI i))]) C dX9_doSilence_46 rfl rfl ?_
          refine x_iinc (L' := [(3, .int ((nI i) + 1)), (2, .int z1), (4, .int (amt (gOut (sl ((mSil (s, su) i).1.1) 0) 0))), (0, .ref m), (1, .int (nI k))]) C ((nI i) + 1) dX9_doSilence_47 4 rfl rfl rfl rfl ?_
          refine x_goto C 18 dX9_doSilence_50 rfl ?_
          refine x_perm (L' := [(0, .ref m), (1, .int (nI k)), (2, .int z1), (3, .int ((nI i) + 1))]) [3, 4, 1, 0] rfl ?_
          subst ez1
          refine x_to (L' := [(0, .ref m), (1, .int (nI k)), (2, .int ((mSil (s, su) (i + 1)).2)), (3, .int (nI (i + 1)))]) (G' := ov m (mC E m ((mSil (s, su) (i + 1)).1.1) ((mSil (s, su) (i + 1)).1.2) st tx ty re ca at_ to) G) (by simp only [nI_succ, mSil, c8, if_neg c37]; first | done | rfl) rfl rfl ?_
          exact ih (i + 1) (by omega)
    refine x_to (L' := [(0, .ref m), (1, .int (nI k)), (2, .int ((mSil (s, su) 0).2)), (3, .int (nI 0))]) (G' := ov m (mC E m ((mSil (s, su) 0).1.1) ((mSil (s, su) 0).1.2) st tx ty re ca at_ to) G) rfl rfl rfl ?_
    exact lp18 _ 0 (Nat.add_sub_cancel' (by omega))
  · refine x_ldc C (-1000001) m_584 dX9_doSilence_11 ?_
    exact x_iret C Z rfl rfl (by first | (simp only [mSilR, mSilS, mSilU, c8, eq_self, Bool.false_eq_true, if_true, if_false]; done) | ((simp only [mSilR, mSilS, mSilU, c8, eq_self, Bool.false_eq_true, if_true, if_false]); rfl) | (simp [mSilR, mSilS, mSilU, c8]; done) | (simp [mSilR, mSilS, mSilU, c8]; rfl)) (by first | (simp only [mSilR, mSilS, mSilU, c8, eq_self, Bool.false_eq_true, if_true, if_false]; done) | ((simp only [mSilR, mSilS, mSilU, c8, eq_self, Bool.false_eq_true, if_true, if_false]); rfl) | (simp [mSilR, mSilS, mSilU, c8]; done) | (simp [mSilR, mSilS, mSilU, c8]; rfl)) dX9_doSilence_13

set_option maxRecDepth 100000 in
set_option maxHeartbeats 4000000 in
theorem c_X9_doTap (E : XE) (N m : Nat) (G : GW) (s : Nat → Int32) (su : Nat → Int64) (st : Int32) (tx : Nat → Int32) (ty re ca at_ : Int32) (to : Nat → Int32) (t d g : Int32) (hb_m : xB E ≤ m) (hn_m : m + 5 ≤ N) : MF E yX9_doTap cX9_doTap 4 (some .int) 2 43 0 0 [.ref m, .int t, .int d, .int g] N (ov m (mC E m s su st tx ty re ca at_ to) G) (some (.int (mTapR s t d g))) (ov m (mC E m (mTapS s t d g) su st tx ty re ca at_ to) G) := by
  refine MF.mk RX9 rfl (by decide +kernel) rfl (fun K C Z hin hN => ?_)
  show XW E K 4 N 0 0 _ 0 [(0, .ref m), (1, .int t), (2, .int d), (3, .int g)] []
  refine x_iload_n C dX9_doTap_0 1 rfl ?_
  refine x_iconst C 0 dX9_doTap_1 rfl ?_
  refine x_iconst C 3 dX9_doTap_2 rfl ?_
  refine x_cS1 C (c_X9_in E N _ t 0 3) v_X9_54 hN rfl rfl rfl rfl dX9_doTap_3 ?_
  refine x_ifb_eq C 32 dX9_doTap_6 rfl (fun c6 => ?_) (fun c6 => ?_)
  · refine x_ldc C (-1000001) m_584 dX9_doTap_32 ?_
    exact x_iret C Z rfl rfl (by first | (simp only [mTapR, mTapS, c6, eq_self, Bool.false_eq_true, if_true, if_false]; done) | ((simp only [mTapR, mTapS, c6, eq_self, Bool.false_eq_true, if_true, if_false]); rfl) | (simp [mTapR, mTapS, c6]; done) | (simp [mTapR, mTapS, c6]; rfl)) (by first | (simp only [mTapR, mTapS, c6, eq_self, Bool.false_eq_true, if_true, if_false]; done) | ((simp only [mTapR, mTapS, c6, eq_self, Bool.false_eq_true, if_true, if_false]); rfl) | (simp [mTapR, mTapS, c6]; done) | (simp [mTapR, mTapS, c6]; rfl)) dX9_doTap_34
  · refine x_iload_n C dX9_doTap_9 2 rfl ?_
    refine x_iconst C 1 dX9_doTap_10 rfl ?_
    refine x_bipush C 64 dX9_doTap_11 rfl ?_
    refine x_cS1 C (c_X9_in E N _ d 1 64) v_X9_54 hN rfl rfl rfl rfl dX9_doTap_13 ?_
    refine x_ifb_eq C 32 dX9_doTap_16 rfl (fun c16 => ?_) (fun c16 => ?_)
    · refine x_ldc C (-1000001) m_584 dX9_doTap_32 ?_
      exact x_iret C Z rfl rfl (by first | (simp only [mTapR, mTapS, c6, c16, eq_self, Bool.false_eq_true, if_true, if_false]; done) | ((simp only [mTapR, mTapS, c6, c16, eq_self, Bool.false_eq_true, if_true, if_false]); rfl) | (simp [mTapR, mTapS, c6, c16]; done) | (simp [mTapR, mTapS, c6, c16]; rfl)) (by first | (simp only [mTapR, mTapS, c6, c16, eq_self, Bool.false_eq_true, if_true, if_false]; done) | ((simp only [mTapR, mTapS, c6, c16, eq_self, Bool.false_eq_true, if_true, if_false]); rfl) | (simp [mTapR, mTapS, c6, c16]; done) | (simp [mTapR, mTapS, c6, c16]; rfl)) dX9_doTap_34
    · refine x_iload_n C dX9_doTap_19 3 rfl ?_
      refine x_sipush C (-900) dX9_doTap_20 rfl ?_
      refine x_sipush C 900 dX9_doTap_23 rfl ?_
      refine x_cS1 C (c_X9_in E N _ g (-900) 900) v_X9_54 hN rfl rfl rfl rfl dX9_doTap_26 ?_
      refine x_ifb_ne C 35 dX9_doTap_29 rfl (fun c29 => ?_) (fun c29 => ?_)
      · obtain ⟨q, hk, rfl⟩ : ∃ q : Nat, q ≤ 3 ∧ t = nI q := ⟨_, (inR_k (by decide) (by decide) c6).2, (inR_k (n := 3) (by decide) (by decide) c6).1⟩
        have q9kc : (nI q).toNatClampNeg = q := nI_clamp (by omega)
        refine x_aload_n C dX9_doTap_35 0 rfl ?_
        refine x_get C (xlo (i := 0) hb_m) (xhi (i := 0) hn_m rfl) (ov_at (i := 0) rfl) f_X9_7 rfl dX9_doTap_36 ?_
        refine x_bipush C 65 dX9_doTap_39 rfl ?_
        refine x_iload_n C dX9_doTap_41 1 rfl ?_
        refine x_iadd C dX9_doTap_42 ?_
        refine x_v (w := .int (nI (65 + q))) (congrArg Value.int (natAdd (a := 65) (b := q) (by omega))) ?_
        refine x_iconst C 1 dX9_doTap_43 rfl ?_
        refine x_iast (G' := ov m (mC E m (upd s (65 + q) 1) su st tx ty re ca at_ to) G) C (65 + q) (xlo (i := 1) hb_m) (xhi (i := 1) hn_m rfl) (ov_at (i := 1) rfl) (vp_in_nI (by omega) (by decide)) (nI_clamp (by omega)) (ov_set (i := 1) rfl rfl) dX9_doTap_44 ?_
        refine x_aload_n C dX9_doTap_45 0 rfl ?_
        refine x_get C (xlo (i := 0) hb_m) (xhi (i := 0) hn_m rfl) (ov_at (i := 0) rfl) f_X9_7 rfl dX9_doTap_46 ?_
        refine x_bipush C 69 dX9_doTap_49 rfl ?_
        refine x_iload_n C dX9_doTap_51 1 rfl ?_
        refine x_iadd C dX9_doTap_52 ?_
        refine x_v (w := .int (nI (69 + q))) (congrArg Value.int (natAdd (a := 69) (b := q) (by omega))) ?_
        refine x_iload_n C dX9_doTap_53 2 rfl ?_
        refine x_iast (G' := ov m (mC E m (upd (upd s (65 + q) 1) (69 + q) d) su st tx ty re ca at_ to) G) C (69 + q) (xlo (i := 1) hb_m) (xhi (i := 1) hn_m rfl) (ov_at (i := 1) rfl) (vp_in_nI (by omega) (by decide)) (nI_clamp (by omega)) (ov_set (i := 1) rfl rfl) dX9_doTap_54 ?_
        refine x_aload_n C dX9_doTap_55 0 rfl ?_
        refine x_get C (xlo (i := 0) hb_m) (xhi (i := 0) hn_m rfl) (ov_at (i := 0) rfl) f_X9_7 rfl dX9_doTap_56 ?_
        refine x_bipush C 74 dX9_doTap_59 rfl ?_
        refine x_iload_n C dX9_doTap_61 1 rfl ?_
        refine x_iadd C dX9_doTap_62 ?_
        refine x_v (w := .int (nI (74 + q))) (congrArg Value.int (natAdd (a := 74) (b := q) (by omega))) ?_
        refine x_iload_n C dX9_doTap_63 3 rfl ?_
        refine x_iast (G' := ov m (mC E m (upd (upd (upd s (65 + q) 1) (69 + q) d) (74 + q) g) su st tx ty re ca at_ to) G) C (74 + q) (xlo (i := 1) hb_m) (xhi (i := 1) hn_m rfl) (ov_at (i := 1) rfl) (vp_in_nI (by omega) (by decide)) (nI_clamp (by omega)) (ov_set (i := 1) rfl rfl) dX9_doTap_64 ?_
        refine x_aload_n C dX9_doTap_65 0 rfl ?_
        refine x_iconst C 0 dX9_doTap_66 rfl ?_
        refine x_iload_n C dX9_doTap_67 1 rfl ?_
        refine x_cV1 C (c_X9_isLost E N m _ (upd (upd (upd s (65 + q) 1) (69 + q) d) (74 + q) g) su st tx ty re ca at_ to 0 q (by first | assumption | omega | decide) (by first | assumption | omega | decide) hb_m hn_m) v_X9_37 hN (xlo (i := 0) hb_m) (xhi (i := 0) hn_m rfl) (ov_at (i := 0) rfl) rfl rfl rfl rfl rfl dX9_doTap_68 ?_
        refine x_tb_eq C 78 79 dX9_doTap_71 rfl dX9_doTap_74 dX9_doTap_75 rfl dX9_doTap_78 rfl ?_
        exact x_iret C Z rfl rfl (by first | (simp only [mTapR, mTapS, q9kc, c6, c16, c29, eq_self, Bool.false_eq_true, if_true, if_false]; done) | ((simp only [mTapR, mTapS, q9kc, c6, c16, c29, eq_self, Bool.false_eq_true, if_true, if_false]); rfl) | (simp [mTapR, mTapS, q9kc, c6, c16, c29]; done) | (simp [mTapR, mTapS, q9kc, c6, c16, c29]; rfl)) (by first | (simp only [mTapR, mTapS, q9kc, c6, c16, c29, eq_self, Bool.false_eq_true, if_true, if_false]; done) | ((simp only [mTapR, mTapS, q9kc, c6, c16, c29, eq_self, Bool.false_eq_true, if_true, if_false]); rfl) | (simp [mTapR, mTapS, q9kc, c6, c16, c29]; done) | (simp [mTapR, mTapS, q9kc, c6, c16, c29]; rfl)) dX9_doTap_79
      · refine x_ldc C (-1000001) m_584 dX9_doTap_32 ?_
        exact x_iret C Z rfl rfl (by first | (simp only [mTapR, mTapS, c6, c16, c29, eq_self, Bool.false_eq_true, if_true, if_false]; done) | ((simp only [mTapR, mTapS, c6, c16, c29, eq_self, Bool.false_eq_true, if_true, if_false]); rfl) | (simp [mTapR, mTapS, c6, c16, c29]; done) | (simp [mTapR, mTapS, c6, c16, c29]; rfl)) (by first | (simp only [mTapR, mTapS, c6, c16, c29, eq_self, Bool.false_eq_true, if_true, if_false]; done) | ((simp only [mTapR, mTapS, c6, c16, c29, eq_self, Bool.false_eq_true, if_true, if_false]); rfl) | (simp [mTapR, mTapS, c6, c16, c29]; done) | (simp [mTapR, mTapS, c6, c16, c29]; rfl)) dX9_doTap_34

set_option maxRecDepth 100000 in
set_option maxHeartbeats 4000000 in
theorem c_X9_doFeedback (E : XE) (N m : Nat) (G : GW) (s : Nat → Int32) (su : Nat → Int64) (st : Int32) (tx : Nat → Int32) (ty re ca at_ : Int32) (to : Nat → Int32) (d g : Int32) (hb_m : xB E ≤ m) (hn_m : m + 5 ≤ N) : MF E yX9_doFeedback cX9_doFeedback 4 (some .int) 1 22 0 0 [.ref m, .int d, .int g] N (ov m (mC E m s su st tx ty re ca at_ to) G) (some (.int (mFeeR s d g))) (ov m (mC E m (mFeeS s d g) su st tx ty re ca at_ to) G) := by
  refine MF.mk RX9 rfl (by decide +kernel) rfl (fun K C Z hin hN => ?_)
  show XW E K 4 N 0 0 _ 0 [(0, .ref m), (1, .int d), (2, .int g)] []
  refine x_iload_n C dX9_doFeedback_0 1 rfl ?_
  refine x_iconst C 1 dX9_doFeedback_1 rfl ?_
  refine x_bipush C 64 dX9_doFeedback_2 rfl ?_
  refine x_cS1 C (c_X9_in E N _ d 1 64) v_X9_54 hN rfl rfl rfl rfl dX9_doFeedback_4 ?_
  refine x_ifb_eq C 21 dX9_doFeedback_7 rfl (fun c7 => ?_) (fun c7 => ?_)
  · refine x_ldc C (-1000001) m_584 dX9_doFeedback_21 ?_
    exact x_iret C Z rfl rfl (by first | (simp only [mFeeR, mFeeS, c7, eq_self, Bool.false_eq_true, if_true, if_false]; done) | ((simp only [mFeeR, mFeeS, c7, eq_self, Bool.false_eq_true, if_true, if_false]); rfl) | (simp [mFeeR, mFeeS, c7]; done) | (simp [mFeeR, mFeeS, c7]; rfl)) (by first | (simp only [mFeeR, mFeeS, c7, eq_self, Bool.false_eq_true, if_true, if_false]; done) | ((simp only [mFeeR, mFeeS, c7, eq_self, Bool.false_eq_true, if_true, if_false]); rfl) | (simp [mFeeR, mFeeS, c7]; done) | (simp [mFeeR, mFeeS, c7]; rfl)) dX9_doFeedback_23
  · refine x_iload_n C dX9_doFeedback_10 2 rfl ?_
    refine x_iconst C 0 dX9_doFeedback_11 rfl ?_
    refine x_sipush C 950 dX9_doFeedback_12 rfl ?_
    refine x_cS1 C (c_X9_in E N _ g 0 950) v_X9_54 hN rfl rfl rfl rfl dX9_doFeedback_15 ?_
    refine x_ifb_ne C 24 dX9_doFeedback_18 rfl (fun c18 => ?_) (fun c18 => ?_)
    · refine x_aload_n C dX9_doFeedback_24 0 rfl ?_
      refine x_get C (xlo (i := 0) hb_m) (xhi (i := 0) hn_m rfl) (ov_at (i := 0) rfl) f_X9_7 rfl dX9_doFeedback_25 ?_
      refine x_bipush C 78 dX9_doFeedback_28 rfl ?_
      refine x_iald C (s 78) (xlo (i := 1) hb_m) (xhi (i := 1) hn_m rfl) (ov_at (i := 1) rfl) (vp_in_d rfl) rfl dX9_doFeedback_30 ?_
      refine x_istore_n (L' := [(3, .int (s 78)), (0, .ref m), (1, .int d), (2, .int g)]) C dX9_doFeedback_31 rfl rfl ?_
      refine x_aload_n C dX9_doFeedback_32 1 rfl ?_
      refine x_get C (xlo (i := 0) hb_m) (xhi (i := 0) hn_m rfl) (ov_at (i := 0) rfl) f_X9_7 rfl dX9_doFeedback_33 ?_
      refine x_bipush C 73 dX9_doFeedback_36 rfl ?_
      refine x_iload_n C dX9_doFeedback_38 2 rfl ?_
      refine x_iast (G' := ov m (mC E m (upd s 73 d) su st tx ty re ca at_ to) G) C 73 (xlo (i := 1) hb_m) (xhi (i := 1) hn_m rfl) (ov_at (i := 1) rfl) (vp_in_d rfl) rfl (ov_set (i := 1) rfl rfl) dX9_doFeedback_39 ?_
      refine x_aload_n C dX9_doFeedback_40 1 rfl ?_
      refine x_get C (xlo (i := 0) hb_m) (xhi (i := 0) hn_m rfl) (ov_at (i := 0) rfl) f_X9_7 rfl dX9_doFeedback_41 ?_
      refine x_bipush C 78 dX9_doFeedback_44 rfl ?_
      refine x_iload_n C dX9_doFeedback_46 3 rfl ?_
      refine x_iast (G' := ov m (mC E m (upd (upd s 73 d) 78 g) su st tx ty re ca at_ to) G) C 78 (xlo (i := 1) hb_m) (xhi (i := 1) hn_m rfl) (ov_at (i := 1) rfl) (vp_in_d rfl) rfl (ov_set (i := 1) rfl rfl) dX9_doFeedback_47 ?_
      refine x_iload_n C dX9_doFeedback_48 0 rfl ?_
      exact x_iret C Z rfl rfl (by first | (simp only [mFeeR, mFeeS, c7, c18, eq_self, Bool.false_eq_true, if_true, if_false]; done) | ((simp only [mFeeR, mFeeS, c7, c18, eq_self, Bool.false_eq_true, if_true, if_false]); rfl) | (simp [mFeeR, mFeeS, c7, c18]; done) | (simp [mFeeR, mFeeS, c7, c18]; rfl)) (by first | (simp only [mFeeR, mFeeS, c7, c18, eq_self, Bool.false_eq_true, if_true, if_false]; done) | ((simp only [mFeeR, mFeeS, c7, c18, eq_self, Bool.false_eq_true, if_true, if_false]); rfl) | (simp [mFeeR, mFeeS, c7, c18]; done) | (simp [mFeeR, mFeeS, c7, c18]; rfl)) dX9_doFeedback_49
    · refine x_ldc C (-1000001) m_584 dX9_doFeedback_21 ?_
      exact x_iret C Z rfl rfl (by first | (simp only [mFeeR, mFeeS, c7, c18, eq_self, Bool.false_eq_true, if_true, if_false]; done) | ((simp only [mFeeR, mFeeS, c7, c18, eq_self, Bool.false_eq_true, if_true, if_false]); rfl) | (simp [mFeeR, mFeeS, c7, c18]; done) | (simp [mFeeR, mFeeS, c7, c18]; rfl)) (by first | (simp only [mFeeR, mFeeS, c7, c18, eq_self, Bool.false_eq_true, if_true, if_false]; done) | ((simp only [mFeeR, mFeeS, c7, c18, eq_self, Bool.false_eq_true, if_true, if_false]); rfl) | (simp [mFeeR, mFeeS, c7, c18]; done) | (simp [mFeeR, mFeeS, c7, c18]; rfl)) dX9_doFeedback_23

set_option maxRecDepth 100000 in
set_option maxHeartbeats 4000000 in
theorem c_X9_doSteal (E : XE) (N m : Nat) (G : GW) (s : Nat → Int32) (su : Nat → Int64) (st : Int32) (tx : Nat → Int32) (ty re ca at_ : Int32) (to : Nat → Int32) (x : Int32) (tk : Nat) (htk : s 64 = nI tk) (htk2 : tk ≤ 48) (hb_m : xB E ≤ m) (hn_m : m + 5 ≤ N) : MF E yX9_doSteal cX9_doSteal 3 (some .int) 1 22 0 0 [.ref m, .int x] N (ov m (mC E m s su st tx ty re ca at_ to) G) (some (.int (mSteR tk x))) (ov m (mC E m (mSteS s tk x) su st tx ty re ca at_ to) G) := by
  refine MF.mk RX9 rfl (by decide +kernel) rfl (fun K C Z hin hN => ?_)
  show XW E K 3 N 0 0 _ 0 [(0, .ref m), (1, .int x)] []
  refine x_iload_n C dX9_doSteal_0 1 rfl ?_
  refine x_iconst C 1 dX9_doSteal_1 rfl ?_
  refine x_bipush C 48 dX9_doSteal_2 rfl ?_
  refine x_cS1 C (c_X9_in E N _ x 1 48) v_X9_54 hN rfl rfl rfl rfl dX9_doSteal_4 ?_
  refine x_ifb_ne C 13 dX9_doSteal_7 rfl (fun c7 => ?_) (fun c7 => ?_)
  · obtain ⟨w, hk, rfl⟩ : ∃ w : Nat, w ≤ 48 ∧ x = nI w := ⟨_, (inR_k (by decide) (by decide) c7).2, (inR_k (n := 48) (by decide) (by decide) c7).1⟩
    have q9kc : (nI w).toNatClampNeg = w := nI_clamp (by omega)
    refine x_aload_n C dX9_doSteal_13 0 rfl ?_
    refine x_get C (xlo (i := 0) hb_m) (xhi (i := 0) hn_m rfl) (ov_at (i := 0) rfl) f_X9_7 rfl dX9_doSteal_14 ?_
    refine x_bipush C 64 dX9_doSteal_17 rfl ?_
    refine x_iald C (s 64) (xlo (i := 1) hb_m) (xhi (i := 1) hn_m rfl) (ov_at (i := 1) rfl) (vp_in_d rfl) rfl dX9_doSteal_19 ?_
    refine x_v (w := .int (nI tk)) (by rw [htk]) ?_
    refine x_iload_n C dX9_doSteal_20 1 rfl ?_
    refine x_iadd C dX9_doSteal_21 ?_
    refine x_v (w := .int (nI (tk + w))) (congrArg Value.int (natAdd (a := tk) (b := w) (by omega))) ?_
    refine x_bipush C 48 dX9_doSteal_22 rfl ?_
    refine x_icmp_le C 30 dX9_doSteal_24 rfl (fun c24 => ?_) (fun c24 => ?_)
    · have q9w : tk + w ≤ 48 := (nI_leI (a := tk + w) (b := 48) (by omega) (by omega)).mp c24
      refine x_aload_n C dX9_doSteal_30 0 rfl ?_
      refine x_get C (xlo (i := 0) hb_m) (xhi (i := 0) hn_m rfl) (ov_at (i := 0) rfl) f_X9_7 rfl dX9_doSteal_31 ?_
      refine x_bipush C 64 dX9_doSteal_34 rfl ?_
      refine x_dup2_11 C dX9_doSteal_36 rfl rfl ?_
      refine x_iald C (s 64) (xlo (i := 1) hb_m) (xhi (i := 1) hn_m rfl) (ov_at (i := 1) rfl) (vp_in_d rfl) rfl dX9_doSteal_37 ?_
      refine x_v (w := .int (nI tk)) (by rw [htk]) ?_
      refine x_iload_n C dX9_doSteal_38 1 rfl ?_
      refine x_iadd C dX9_doSteal_39 ?_
      refine x_v (w := .int (nI (tk + w))) (congrArg Value.int (natAdd (a := tk) (b := w) (by omega))) ?_
      refine x_iast (G' := ov m (mC E m (upd s 64 (nI (tk + w))) su st tx ty re ca at_ to) G) C 64 (xlo (i := 1) hb_m) (xhi (i := 1) hn_m rfl) (ov_at (i := 1) rfl) (vp_in_d rfl) rfl (ov_set (i := 1) rfl rfl) dX9_doSteal_40 ?_
      refine x_G (G' := ov m (mC E m (mSt1 s tk w) su st tx ty re ca at_ to) G) rfl ?_
      refine x_aload_n C dX9_doSteal_41 0 rfl ?_
      refine x_get C (xlo (i := 0) hb_m) (xhi (i := 0) hn_m rfl) (ov_at (i := 0) rfl) f_X9_7 rfl dX9_doSteal_42 ?_
      refine x_bipush C 98 dX9_doSteal_45 rfl ?_
      refine x_dup2_11 C dX9_doSteal_47 rfl rfl ?_
      refine x_iald C ((mSt1 s tk w) 98) (xlo (i := 1) hb_m) (xhi (i := 1) hn_m rfl) (ov_at (i := 1) rfl) (vp_in_d rfl) rfl dX9_doSteal_48 ?_
      refine x_iload_n C dX9_doSteal_49 1 rfl ?_
      refine x_iadd C dX9_doSteal_50 ?_
      refine x_iast (G' := ov m (mC E m (upd (mSt1 s tk w) 98 (((mSt1 s tk w) 98) + (nI w))) su st tx ty re ca at_ to) G) C 98 (xlo (i := 1) hb_m) (xhi (i := 1) hn_m rfl) (ov_at (i := 1) rfl) (vp_in_d rfl) rfl (ov_set (i := 1) rfl rfl) dX9_doSteal_51 ?_
      refine x_G (G' := ov m (mC E m (mSt2 s tk w) su st tx ty re ca at_ to) G) rfl ?_
      refine x_aload_n C dX9_doSteal_52 0 rfl ?_
      refine x_iconst C 0 dX9_doSteal_53 rfl ?_
      refine x_cV1 C (c_X9_length E N m _ (mSt2 s tk w) su st tx ty re ca at_ to 0 (by first | assumption | omega | decide) hb_m hn_m) v_X9_33 hN (xlo (i := 0) hb_m) (xhi (i := 0) hn_m rfl) (ov_at (i := 0) rfl) rfl rfl rfl rfl rfl dX9_doSteal_54 ?_
      refine x_v (w := .int (nI (64 - (tk + w)))) (by show Value.int (64 - mSt2 s tk w 64) = _; unfold mSt2 mSt1; rw [pk_un (by omega), pk_us]; exact congrArg Value.int (natSub (a := 64) (b := tk + w) (by omega))) ?_
      refine x_istore_n (L' := [(2, .int (nI (64 - (tk + w)))), (0, .ref m), (1, .int (nI w))]) C dX9_doSteal_57 rfl rfl ?_
      refine x_perm (L' := [(0, .ref m), (2, .int (nI (64 - (tk + w))))]) [1, 0] rfl ?_
      have lp58 : ∀ (d i : Nat), i + d = tk + w → XW E K 3 N 0 0 (ov m (mC E m (zfA (mSt2 s tk w) (64 - (tk + w)) i) su st tx ty re ca at_ to) G) 58 [(0, .ref m), (2, .int (nI (64 - (tk + w) + i)))] [] := by
        intro d
        induction d with
        | zero =>
          intro i hd
          have q9i : tk + w = i := by omega
          subst q9i
          refine x_iload_n C dX9_doSteal_58 1 rfl ?_
          refine x_bipush C 64 dX9_doSteal_59 rfl ?_
          refine x_icmp_ge C 77 dX9_doSteal_61 rfl (fun _ => ?_) (fun c => absurd c (not_not_intro (nI_le (a := 64) (by omega) (by omega))))
          refine x_G (G' := ov m (mC E m (mSt3 s tk w) su st tx ty re ca at_ to) G) rfl ?_
          refine x_aload_n C dX9_doSteal_77 0 rfl ?_
          refine x_iconst C 0 dX9_doSteal_78 rfl ?_
          refine x_cV1 C (c_X9_length E N m _ (mSt3 s tk w) su st tx ty re ca at_ to 0 (by first | assumption | omega | decide) hb_m hn_m) v_X9_33 hN (xlo (i := 0) hb_m) (xhi (i := 0) hn_m rfl) (ov_at (i := 0) rfl) rfl rfl rfl rfl rfl dX9_doSteal_79 ?_
          refine x_v (w := .int (nI (64 - (tk + w)))) (by show Value.int (64 - mSt3 s tk w 64) = _; unfold mSt3 zfA; rw [if_neg (by omega)]; unfold mSt2 mSt1; rw [pk_un (by omega), pk_us]; exact congrArg Value.int (natSub (a := 64) (b := tk + w) (by omega))) ?_
          exact x_iret C Z rfl rfl (by first | (simp only [mSteR, mSteS, q9kc, c7, if_pos c24, eq_self, Bool.false_eq_true, if_true, if_false]; done) | ((simp only [mSteR, mSteS, q9kc, c7, if_pos c24, eq_self, Bool.false_eq_true, if_true, if_false]); rfl) | (simp [mSteR, mSteS, q9kc, c7, c24]; done) | (simp [mSteR, mSteS, q9kc, c7, c24]; rfl)) (by first | (simp only [mSteR, mSteS, q9kc, c7, if_pos c24, eq_self, Bool.false_eq_true, if_true, if_false]; done) | ((simp only [mSteR, mSteS, q9kc, c7, if_pos c24, eq_self, Bool.false_eq_true, if_true, if_false]); rfl) | (simp [mSteR, mSteS, q9kc, c7, c24]; done) | (simp [mSteR, mSteS, q9kc, c7, c24]; rfl)) dX9_doSteal_82
        | succ d ih =>
          intro i hd
          have hi : i < tk + w := by omega
          refine x_iload_n C dX9_doSteal_58 1 rfl ?_
          refine x_bipush C 64 dX9_doSteal_59 rfl ?_
          refine x_icmp_ge C 77 dX9_doSteal_61 rfl (fun c => absurd c (nI_ge (b := 64) (by omega) (by omega))) (fun _ => ?_)
          refine x_aload_n C dX9_doSteal_64 0 rfl ?_
          refine x_get C (xlo (i := 0) hb_m) (xhi (i := 0) hn_m rfl) (ov_at (i := 0) rfl) f_X9_7 rfl dX9_doSteal_65 ?_
          refine x_iload_n C dX9_doSteal_68 1 rfl ?_
          refine x_iconst C 0 dX9_doSteal_69 rfl ?_
          refine x_iast (G' := ov m (mC E m (upd (zfA (mSt2 s tk w) (64 - (tk + w)) i) (64 - (tk + w) + i) 0) su st tx ty re ca at_ to) G) C (64 - (tk + w) + i) (xlo (i := 1) hb_m) (xhi (i := 1) hn_m rfl) (ov_at (i := 1) rfl) (vp_in_nI (by omega) (by decide)) (nI_clamp (by omega)) (ov_set (i := 1) rfl rfl) dX9_doSteal_70 ?_
          refine x_iinc (L' := [(2, .int ((nI (64 - (tk + w) + i)) + 1)), (0, .ref m)]) C ((nI (64 - (tk + w) + i)) + 1) dX9_doSteal_71 1 rfl rfl rfl rfl ?_
          refine x_goto C 58 dX9_doSteal_74 rfl ?_
          refine x_perm (L' := [(0, .ref m), (2, .int ((nI (64 - (tk + w) + i)) + 1))]) [1, 0] rfl ?_
          refine x_to (L' := [(0, .ref m), (2, .int (nI (64 - (tk + w) + (i + 1))))]) (G' := ov m (mC E m (zfA (mSt2 s tk w) (64 - (tk + w)) (i + 1)) su st tx ty re ca at_ to) G) (by rw [← Nat.add_assoc, nI_succ]) (by rw [zfA_step]) rfl ?_
          exact ih (i + 1) (by omega)
      refine x_to (L' := [(0, .ref m), (2, .int (nI (64 - (tk + w) + 0)))]) (G' := ov m (mC E m (zfA (mSt2 s tk w) (64 - (tk + w)) 0) su st tx ty re ca at_ to) G) rfl (by rw [zfA_0]) rfl ?_
      exact lp58 _ 0 (Nat.add_sub_cancel' (by omega))
    · refine x_ldc C (-1000003) m_621 dX9_doSteal_27 ?_
      exact x_iret C Z rfl rfl (by first | (simp only [mSteR, mSteS, q9kc, c7, if_neg c24, eq_self, Bool.false_eq_true, if_true, if_false]; done) | ((simp only [mSteR, mSteS, q9kc, c7, if_neg c24, eq_self, Bool.false_eq_true, if_true, if_false]); rfl) | (simp [mSteR, mSteS, q9kc, c7, c24]; done) | (simp [mSteR, mSteS, q9kc, c7, c24]; rfl)) (by first | (simp only [mSteR, mSteS, q9kc, c7, if_neg c24, eq_self, Bool.false_eq_true, if_true, if_false]; done) | ((simp only [mSteR, mSteS, q9kc, c7, if_neg c24, eq_self, Bool.false_eq_true, if_true, if_false]); rfl) | (simp [mSteR, mSteS, q9kc, c7, c24]; done) | (simp [mSteR, mSteS, q9kc, c7, c24]; rfl)) dX9_doSteal_29
  · refine x_ldc C (-1000001) m_584 dX9_doSteal_10 ?_
    exact x_iret C Z rfl rfl (by first | (simp only [mSteR, mSteS, c7, eq_self, Bool.false_eq_true, if_true, if_false]; done) | ((simp only [mSteR, mSteS, c7, eq_self, Bool.false_eq_true, if_true, if_false]); rfl) | (simp [mSteR, mSteS, c7]; done) | (simp [mSteR, mSteS, c7]; rfl)) (by first | (simp only [mSteR, mSteS, c7, eq_self, Bool.false_eq_true, if_true, if_false]; done) | ((simp only [mSteR, mSteS, c7, eq_self, Bool.false_eq_true, if_true, if_false]); rfl) | (simp [mSteR, mSteS, c7]; done) | (simp [mSteR, mSteS, c7]; rfl)) dX9_doSteal_12

set_option maxRecDepth 100000 in
set_option maxHeartbeats 4000000 in
theorem c_X9_doGive (E : XE) (N m : Nat) (G : GW) (s : Nat → Int32) (su : Nat → Int64) (st : Int32) (tx : Nat → Int32) (ty re ca at_ : Int32) (to : Nat → Int32) (x : Int32) (tk : Nat) (htk : s 64 = nI tk) (htk2 : tk ≤ 48) (hb_m : xB E ≤ m) (hn_m : m + 5 ≤ N) : MF E yX9_doGive cX9_doGive 2 (some .int) 1 22 0 0 [.ref m, .int x] N (ov m (mC E m s su st tx ty re ca at_ to) G) (some (.int (mGivR tk x))) (ov m (mC E m (mGivS s tk x) su st tx ty re ca at_ to) G) := by
  refine MF.mk RX9 rfl (by decide +kernel) rfl (fun K C Z hin hN => ?_)
  show XW E K 2 N 0 0 _ 0 [(0, .ref m), (1, .int x)] []
  refine x_iload_n C dX9_doGive_0 1 rfl ?_
  refine x_iconst C 1 dX9_doGive_1 rfl ?_
  refine x_bipush C 48 dX9_doGive_2 rfl ?_
  refine x_cS1 C (c_X9_in E N _ x 1 48) v_X9_54 hN rfl rfl rfl rfl dX9_doGive_4 ?_
  refine x_ifb_ne C 13 dX9_doGive_7 rfl (fun c7 => ?_) (fun c7 => ?_)
  · obtain ⟨w, hk, rfl⟩ : ∃ w : Nat, w ≤ 48 ∧ x = nI w := ⟨_, (inR_k (by decide) (by decide) c7).2, (inR_k (n := 48) (by decide) (by decide) c7).1⟩
    have q9kc : (nI w).toNatClampNeg = w := nI_clamp (by omega)
    refine x_aload_n C dX9_doGive_13 0 rfl ?_
    refine x_get C (xlo (i := 0) hb_m) (xhi (i := 0) hn_m rfl) (ov_at (i := 0) rfl) f_X9_7 rfl dX9_doGive_14 ?_
    refine x_bipush C 64 dX9_doGive_17 rfl ?_
    refine x_iald C (s 64) (xlo (i := 1) hb_m) (xhi (i := 1) hn_m rfl) (ov_at (i := 1) rfl) (vp_in_d rfl) rfl dX9_doGive_19 ?_
    refine x_v (w := .int (nI tk)) (by rw [htk]) ?_
    refine x_iload_n C dX9_doGive_20 1 rfl ?_
    refine x_icmp_ge C 27 dX9_doGive_21 rfl (fun c21 => ?_) (fun c21 => ?_)
    · have q9w : w ≤ tk := (nI_leI (a := w) (b := tk) (by omega) (by omega)).mp c21
      refine x_aload_n C dX9_doGive_27 0 rfl ?_
      refine x_get C (xlo (i := 0) hb_m) (xhi (i := 0) hn_m rfl) (ov_at (i := 0) rfl) f_X9_7 rfl dX9_doGive_28 ?_
      refine x_bipush C 64 dX9_doGive_31 rfl ?_
      refine x_dup2_11 C dX9_doGive_33 rfl rfl ?_
      refine x_iald C (s 64) (xlo (i := 1) hb_m) (xhi (i := 1) hn_m rfl) (ov_at (i := 1) rfl) (vp_in_d rfl) rfl dX9_doGive_34 ?_
      refine x_v (w := .int (nI tk)) (by rw [htk]) ?_
      refine x_iload_n C dX9_doGive_35 1 rfl ?_
      refine x_isub C dX9_doGive_36 ?_
      refine x_v (w := .int (nI (tk - w))) (congrArg Value.int (natSub (a := tk) (b := w) (by omega))) ?_
      refine x_iast (G' := ov m (mC E m (upd s 64 (nI (tk - w))) su st tx ty re ca at_ to) G) C 64 (xlo (i := 1) hb_m) (xhi (i := 1) hn_m rfl) (ov_at (i := 1) rfl) (vp_in_d rfl) rfl (ov_set (i := 1) rfl rfl) dX9_doGive_37 ?_
      refine x_aload_n C dX9_doGive_38 0 rfl ?_
      refine x_iconst C 0 dX9_doGive_39 rfl ?_
      refine x_cV1 C (c_X9_length E N m _ (upd s 64 (nI (tk - w))) su st tx ty re ca at_ to 0 (by first | assumption | omega | decide) hb_m hn_m) v_X9_33 hN (xlo (i := 0) hb_m) (xhi (i := 0) hn_m rfl) (ov_at (i := 0) rfl) rfl rfl rfl rfl rfl dX9_doGive_40 ?_
      refine x_v (w := .int (nI (64 - (tk - w)))) (by show Value.int (64 - upd s 64 (nI (tk - w)) 64) = _; rw [pk_us]; exact congrArg Value.int (natSub (a := 64) (b := tk - w) (by omega))) ?_
      exact x_iret C Z rfl rfl (by first | (simp only [mGivR, mGivS, q9kc, c7, if_pos c21, eq_self, Bool.false_eq_true, if_true, if_false]; done) | ((simp only [mGivR, mGivS, q9kc, c7, if_pos c21, eq_self, Bool.false_eq_true, if_true, if_false]); rfl) | (simp [mGivR, mGivS, q9kc, c7, c21]; done) | (simp [mGivR, mGivS, q9kc, c7, c21]; rfl)) (by first | (simp only [mGivR, mGivS, q9kc, c7, if_pos c21, eq_self, Bool.false_eq_true, if_true, if_false]; done) | ((simp only [mGivR, mGivS, q9kc, c7, if_pos c21, eq_self, Bool.false_eq_true, if_true, if_false]); rfl) | (simp [mGivR, mGivS, q9kc, c7, c21]; done) | (simp [mGivR, mGivS, q9kc, c7, c21]; rfl)) dX9_doGive_43
    · refine x_ldc C (-1000002) m_606 dX9_doGive_24 ?_
      exact x_iret C Z rfl rfl (by first | (simp only [mGivR, mGivS, q9kc, c7, if_neg c21, eq_self, Bool.false_eq_true, if_true, if_false]; done) | ((simp only [mGivR, mGivS, q9kc, c7, if_neg c21, eq_self, Bool.false_eq_true, if_true, if_false]); rfl) | (simp [mGivR, mGivS, q9kc, c7, c21]; done) | (simp [mGivR, mGivS, q9kc, c7, c21]; rfl)) (by first | (simp only [mGivR, mGivS, q9kc, c7, if_neg c21, eq_self, Bool.false_eq_true, if_true, if_false]; done) | ((simp only [mGivR, mGivS, q9kc, c7, if_neg c21, eq_self, Bool.false_eq_true, if_true, if_false]); rfl) | (simp [mGivR, mGivS, q9kc, c7, c21]; done) | (simp [mGivR, mGivS, q9kc, c7, c21]; rfl)) dX9_doGive_26
  · refine x_ldc C (-1000001) m_584 dX9_doGive_10 ?_
    exact x_iret C Z rfl rfl (by first | (simp only [mGivR, mGivS, c7, eq_self, Bool.false_eq_true, if_true, if_false]; done) | ((simp only [mGivR, mGivS, c7, eq_self, Bool.false_eq_true, if_true, if_false]); rfl) | (simp [mGivR, mGivS, c7]; done) | (simp [mGivR, mGivS, c7]; rfl)) (by first | (simp only [mGivR, mGivS, c7, eq_self, Bool.false_eq_true, if_true, if_false]; done) | ((simp only [mGivR, mGivS, c7, eq_self, Bool.false_eq_true, if_true, if_false]); rfl) | (simp [mGivR, mGivS, c7]; done) | (simp [mGivR, mGivS, c7]; rfl)) dX9_doGive_12

