/-! ===== the reference: calls ===== -/
abbrev kS (s : Nat → Int32) : Nat → Int32 := mCp s 0 6
abbrev kU (su : Nat → Int64) : Nat → Int64 := mCu su 0 6
theorem gOk_kS {s : Nat → Int32} {tk : Nat} (h : gOk (sl s 0) tk) : gOk (sl (kS s) 0) tk :=
  gOk_eq h (fun j _ h2 => sl_slP_ne _ _ _ _ (by decide) (by omega))
theorem kS_at (s : Nat → Int32) {j : Nat} (h : j < 600) : kS s j = s j := by
  show slP s 6 (sl s 0) j = s j
  unfold slP
  rw [if_neg (by omega)]
theorem gOk_0 {s : Nat → Int32} {tk : Nat} (h : gOk (sl s 0) tk) : s 64 = nI tk := by
  have h1 := h.1
  unfold sl at h1
  rw [Nat.mul_zero, Nat.zero_add] at h1
  exact h1
theorem sl0 (s : Nat → Int32) (j : Nat) : sl s 0 j = s j := by
  unfold sl
  rw [Nat.mul_zero, Nat.zero_add]
def mOffS (s : Nat → Int32) (t : Nat) : Nat → Int32 := upd (kS s) (65 + t) 0
def mOffR (s : Nat → Int32) (t : Int32) : Int32 := if inR t 0 3 = true then if s (65 + t.toNatClampNeg) = 0 then -1000002 else mOffS s t.toNatClampNeg (69 + t.toNatClampNeg) else -1000001
def mOffs (s : Nat → Int32) (n : Nat) (t : Int32) : Nat → Int32 := if inR t 0 3 = true then if s (65 + t.toNatClampNeg) = 0 then s else mActS (mOffS s t.toNatClampNeg (69 + t.toNatClampNeg)) n (mOffS s t.toNatClampNeg) else s
def mOffu (s : Nat → Int32) (su : Nat → Int64) (n : Nat) (t : Int32) : Nat → Int64 := if inR t 0 3 = true then if s (65 + t.toNatClampNeg) = 0 then su else mActU (mOffS s t.toNatClampNeg (69 + t.toNatClampNeg)) n (kU su) else su
def mOffn (s : Nat → Int32) (n : Nat) (t : Int32) : Nat := if inR t 0 3 = true then if s (65 + t.toNatClampNeg) = 0 then n else mActN (mOffS s t.toNatClampNeg (69 + t.toNatClampNeg)) n else n
def okM (w x : Int32) : Bool := if w = 0 then inR x 100 30000 else inR x 0 2
def mSetS (s : Nat → Int32) (t : Nat) (x : Int32) : Nat → Int32 := upd (kS s) (79 + t) x
def mSetR (s : Nat → Int32) (w x : Int32) : Int32 := if inR w 0 1 = true then if okM w x = true then kS s (79 + w.toNatClampNeg) else -1000001 else -1000001
def mSets (s : Nat → Int32) (n : Nat) (w x : Int32) : Nat → Int32 := if inR w 0 1 = true then if okM w x = true then mActS (kS s (79 + w.toNatClampNeg)) n (mSetS s w.toNatClampNeg x) else s else s
def mSetu (s : Nat → Int32) (su : Nat → Int64) (n : Nat) (w x : Int32) : Nat → Int64 := if inR w 0 1 = true then if okM w x = true then mActU (kS s (79 + w.toNatClampNeg)) n (kU su) else su else su
def mSetn (s : Nat → Int32) (n : Nat) (w x : Int32) : Nat := if inR w 0 1 = true then if okM w x = true then mActN (kS s (79 + w.toNatClampNeg)) n else n else n
def mRstS (s : Nat → Int32) : Nat → Int32 := upd (upd (upd (upd (kS s) 81 0) 82 0) 83 0) 84 0
def mTofR (s : Nat → Int32) (t w : Int32) : Int32 := if inR t 0 4 = true then if inR w 0 4 = true then
    (let r := (if w = 0 then s (69 + t.toNatClampNeg) else if w = 1 then s (74 + t.toNatClampNeg) else if w = 2 then bI (gLost (sl s 0) t.toNatClampNeg) else if w = 3 then gRead (sl s 0) t.toNatClampNeg else gShare (sl s 0) t.toNatClampNeg)
     if 4 ≤ t then r else if s (65 + t.toNatClampNeg) = 0 then -1000004 else r) else -1000001 else -1000001
def mWofR (s : Nat → Int32) (w : Int32) : Int32 := if inR w 0 63 = true then if 64 - sl s 0 64 ≤ w then -1000004 else s w.toNatClampNeg else -1000001
def mOofR (s : Nat → Int32) (w : Int32) : Int32 := if 0 ≤ w then if s 97 ≤ w then -1000004 else s (85 + w.toNatClampNeg) else -1000001
/-! what would be -/
def mZer (s : Nat → Int32) : Nat → Int32 := zfA (mCp s 0 5) 500 64
abbrev mZu (su : Nat → Int64) : Nat → Int64 := mCu su 0 5
theorem gOk_zer {s : Nat → Int32} {tk : Nat} (h : gOk (sl s 0) tk) : gOk (sl (mZer s) 5) tk :=
  gOk_eq h (fun j h1 h2 => by
    unfold mZer zfA mCp
    show (if _ then _ else _) = _
    rw [if_neg (by omega)]
    exact sl_slP s 5 _ (by omega))
theorem gOk_c5 {s : Nat → Int32} {tk : Nat} (h : gOk (sl s 0) tk) : gOk (sl (mCp s 0 5) 5) tk :=
  gOk_eq h (fun j h1 h2 => sl_slP s 5 _ (by omega))
def mEc (p : PV) (x : Int32) : Nat → PV
  | 0 => goP p 5 x
  | i + 1 => goP (mEc p x i) 5 0
theorem mEc_ok {p : PV} {tk : Nat} (h : gOk (sl p.1 5) tk) (x : Int32) : ∀ i, gOk (sl (mEc p x i).1 5) tk
  | 0 => gOk_gS x h
  | i + 1 => gOk_gS 0 (mEc_ok h x i)
def mEo (p : PV) (x : Int32) : Nat → Int32
  | 0 => gOut (sl p.1 5) x
  | i + 1 => gOut (sl (mEc p x i).1 5) 0
def mEchR (s : Nat → Int32) (su : Nat → Int64) (x a : Int32) : Int32 := if inR x (-20000) 20000 = true then if inR a 0 200 = true then mEo (mZer s, mZu su) x a.toNatClampNeg else -1000001 else -1000001
def mEchP (s : Nat → Int32) (su : Nat → Int64) (x a : Int32) : PV := if inR x (-20000) 20000 = true then if inR a 0 200 = true then mEc (mZer s, mZu su) x a.toNatClampNeg else (s, su) else (s, su)
def mqRun (a : Int32) (m : Nat) : Nat → Nat → PV → Int32 × PV
  | 0, _, p => (-1000004, p)
  | d + 1, i, p => if gMost (sl p.1 5) m ≤ a then (nI i, p) else mqRun a m d (i + 1) (goP p 5 0)
def mqAll (s : Nat → Int32) (su : Nat → Int64) (tk : Nat) (a : Int32) : Int32 × PV := mqRun a (64 - tk) 501 0 (mCp s 0 5, mCu su 0 5)
def mQuaR (s : Nat → Int32) (su : Nat → Int64) (tk : Nat) (a : Int32) : Int32 := if inR a 0 20000 = true then (mqAll s su tk a).1 else -1000001
def mQuaP (s : Nat → Int32) (su : Nat → Int64) (tk : Nat) (a : Int32) : PV := if inR a 0 20000 = true then (mqAll s su tk a).2 else (s, su)
def mLd (s : Nat → Int32) (j : Nat) : Int32 := if s (65 + j) = 1 then if gLost (sl s 0) j = true then 0 else amt (s (74 + j)) * s 79 / 1000 else 0
def mTa (s : Nat → Int32) (z : Int32) (j : Nat) : Int32 := if s (65 + j) = 1 then if z = 0 then 1 else bI (gLost (sl s 0) j) else 0
def mWd (s : Nat → Int32) (z : Int32) (j : Nat) : Int32 := if z = 0 then (if s j = 0 then 0 else 1) else amt (s j)
def mi0 (p : PV) (g : Int32) : PV := (upd (mZer p.1) 578 g, mZu p.2)
def miI (p : PV) (g : Int32) : Nat → PV := mEc (mi0 p g) 20000
theorem gOk_mi0 {p : PV} {tk : Nat} (g : Int32) (h : gOk (sl p.1 0) tk) : gOk (sl (mi0 p g).1 5) tk :=
  gOk_eq (gOk_zer h) (fun j h1 h2 => pk_un (by show 100 * 5 + j ≠ 578; omega))
def miB (p : PV) (m : Nat) (g : Int32) (k : Nat) (a : Int32) : Bool := !decide (a < gMost (sl (miI p g k).1 5) m)
theorem slot0_zer (s : Nat → Int32) {j : Nat} (h : j < 500) : mZer s j = s j := by
  unfold mZer zfA mCp slP
  rw [if_neg (by omega), if_neg (by omega)]
theorem slot0_gS5 (s : Nat → Int32) (x : Int32) {j : Nat} (h : j < 500) : gS s 5 x j = s j := by
  unfold gS slP
  rw [if_neg (by omega)]
theorem slot0_mEc (p : PV) (x : Int32) {j : Nat} (h : j < 500) : ∀ i, (mEc p x i).1 j = p.1 j
  | 0 => slot0_gS5 _ _ h
  | i + 1 => (slot0_gS5 _ _ h).trans (slot0_mEc p x h i)
theorem slot0_miI (p : PV) (g : Int32) (i : Nat) {j : Nat} (h : j < 500) : (miI p g i).1 j = p.1 j := by
  unfold miI
  rw [slot0_mEc _ _ h]
  show upd (mZer p.1) 578 g j = p.1 j
  rw [pk_un (by omega), slot0_zer _ h]
theorem gOk_slot0 {s s' : Nat → Int32} {tk : Nat} (h : gOk (sl s 0) tk) (e : ∀ j, j < 500 → s' j = s j) : gOk (sl s' 0) tk :=
  gOk_eq h (fun j _ h2 => e _ (by omega))
def mgRun (m k : Nat) (a : Int32) : Nat → Nat → Nat → PV → Int32 × PV
  | 0, lo, _, p => (nI lo, p)
  | d + 1, lo, hi, p => if nI hi ≤ nI lo then (nI lo, p) else if miB p m (nI ((lo + hi + 1) / 2)) k a = true then mgRun m k a d ((lo + hi + 1) / 2) hi (miI p (nI ((lo + hi + 1) / 2)) k) else mgRun m k a d lo ((lo + hi + 1) / 2 - 1) (miI p (nI ((lo + hi + 1) / 2)) k)
def mgAll (s : Nat → Int32) (su : Nat → Int64) (tk : Nat) (m a : Int32) : Int32 × PV := mgRun (64 - tk) m.toNatClampNeg a 951 0 950 (s, su)
def mSafR (s : Nat → Int32) (su : Nat → Int64) (tk : Nat) (m a : Int32) : Int32 := if inR m 1 200 = true then if inR a 0 20000 = true then (mgAll s su tk m a).1 else -1000001 else -1000001
def mSafP (s : Nat → Int32) (su : Nat → Int64) (tk : Nat) (m a : Int32) : PV := if inR m 1 200 = true then if inR a 0 20000 = true then (mgAll s su tk m a).2 else (s, su) else (s, su)
def mCntR (s : Nat → Int32) (n tk : Nat) (ty w : Int32) : Int32 := if w = 0 then 64 - sl s 0 64 else if w = 1 then s 64 else if w = 2 then tapS (mTa s 0) 4 else if w = 3 then tapS (mTa s 1) 4 else if w = 4 then tapS (mWd s 1) (64 - tk) else if w = 5 then tapS (mWd s 0) (64 - tk) else if w = 6 then s 98 else if w = 7 then nI n else if w = 8 then ty else if w = 20 then s 79 else if w = 21 then s 80 else -1000001
def mUndS (s : Nat → Int32) (n : Nat) : Nat → Int32 := if nI n = 0 then s else mCp s n 0
def mUndU (su : Nat → Int64) (n : Nat) : Nat → Int64 := if nI n = 0 then su else mCu su n 0
def mUndN (n : Nat) : Nat := if nI n = 0 then n else n - 1
def mUndR (n : Nat) : Int32 := if nI n = 0 then -1000002 else nI (n - 1)
def mTypT (tx : Nat → Int32) (ny : Nat) (x : Int32) : Nat → Int32 := if inR x 32 126 = true then if nI ny = 60 then tx else upd tx ny (vp_nar .char (x.toUInt32 % 65536).toInt32) else tx
def mTypN (ny : Nat) (x : Int32) : Nat := if inR x 32 126 = true then if nI ny = 60 then ny else ny + 1 else ny
def mTypR (ny : Nat) (x : Int32) : Int32 := if inR x 32 126 = true then if nI ny = 60 then -1000003 else nI (ny + 1) else -1000001
theorem sg501 {i : Nat} (h : i = 501) : ¬ ¬ (500 : Int32) < nI i := not_not_intro (by subst h; decide)
set_option maxRecDepth 100000 in
set_option maxHeartbeats 4000000 in
theorem c_X9_sample (E : XE) (N m : Nat) (G : GW) (s : Nat → Int32) (su : Nat → Int64) (n : Nat) (tx : Nat → Int32) (ty re ca at_ : Int32) (to : Nat → Int32) (x : Int32) (tk : Nat) (hg : gOk (sl s 0) tk) (hn : n ≤ 4) (hb_m : xB E ≤ m) (hn_m : m + 5 ≤ N) : MF E yX9_sample cX9_sample 2 (some .int) 6 137 0 0 [.ref m, .int x] N (ov m (mC E m s su (nI n) tx ty re ca at_ to) G) (some (.int (mSamR (kS s) x))) (ov m (mC E m (mActS (mSamR (kS s) x) n (mSamS (kS s) x)) (mActU (mSamR (kS s) x) n (mSamU (kS s) (kU su) x)) (nI (mActN (mSamR (kS s) x) n)) tx ty re ca at_ to) G) := by
  refine MF.mk RX9 rfl (by decide +kernel) rfl (fun K C Z hin hN => ?_)
  show XW E K 2 N 0 0 _ 0 [(0, .ref m), (1, .int x)] []
  refine x_aload_n C dX9_sample_0 0 rfl ?_
  refine x_cV0 C (c_X9_keeps E N m _ s su (nI n) tx ty re ca at_ to hb_m hn_m) v_X9_63 hN (xlo (i := 0) hb_m) (xhi (i := 0) hn_m rfl) (ov_at (i := 0) rfl) rfl rfl rfl rfl rfl dX9_sample_1 ?_
  refine x_aload_n C dX9_sample_4 0 rfl ?_
  refine x_aload_n C dX9_sample_5 0 rfl ?_
  refine x_iload_n C dX9_sample_6 1 rfl ?_
  refine x_cV1 C (c_X9_doSample E N m _ (mCp s 0 6) (mCu su 0 6) (nI n) tx ty re ca at_ to x tk (gOk_kS hg) hb_m hn_m) v_X9_66 hN (xlo (i := 0) hb_m) (xhi (i := 0) hn_m rfl) (ov_at (i := 0) rfl) rfl rfl rfl rfl rfl dX9_sample_7 ?_
  refine x_cV1 C (c_X9_acted E N m _ (mSamS (mCp s 0 6) x) (mSamU (mCp s 0 6) (mCu su 0 6) x) tx ty re ca at_ to (mSamR (mCp s 0 6) x) n (by first | assumption | omega | decide) hb_m hn_m) v_X9_69 hN (xlo (i := 0) hb_m) (xhi (i := 0) hn_m rfl) (ov_at (i := 0) rfl) rfl rfl rfl rfl rfl dX9_sample_10 ?_
  exact x_iret C Z rfl rfl rfl rfl dX9_sample_13

set_option maxRecDepth 100000 in
set_option maxHeartbeats 4000000 in
theorem c_X9_silence (E : XE) (N m : Nat) (G : GW) (s : Nat → Int32) (su : Nat → Int64) (n : Nat) (tx : Nat → Int32) (ty re ca at_ : Int32) (to : Nat → Int32) (x : Int32) (tk : Nat) (hg : gOk (sl s 0) tk) (hn : n ≤ 4) (hb_m : xB E ≤ m) (hn_m : m + 5 ≤ N) : MF E yX9_silence cX9_silence 2 (some .int) 6 140 0 0 [.ref m, .int x] N (ov m (mC E m s su (nI n) tx ty re ca at_ to) G) (some (.int (mSilR (kS s) (kU su) x))) (ov m (mC E m (mActS (mSilR (kS s) (kU su) x) n (mSilS (kS s) (kU su) x)) (mActU (mSilR (kS s) (kU su) x) n (mSilU (kS s) (kU su) x)) (nI (mActN (mSilR (kS s) (kU su) x) n)) tx ty re ca at_ to) G) := by
  refine MF.mk RX9 rfl (by decide +kernel) rfl (fun K C Z hin hN => ?_)
  show XW E K 2 N 0 0 _ 0 [(0, .ref m), (1, .int x)] []
  refine x_aload_n C dX9_silence_0 0 rfl ?_
  refine x_cV0 C (c_X9_keeps E N m _ s su (nI n) tx ty re ca at_ to hb_m hn_m) v_X9_63 hN (xlo (i := 0) hb_m) (xhi (i := 0) hn_m rfl) (ov_at (i := 0) rfl) rfl rfl rfl rfl rfl dX9_silence_1 ?_
  refine x_aload_n C dX9_silence_4 0 rfl ?_
  refine x_aload_n C dX9_silence_5 0 rfl ?_
  refine x_iload_n C dX9_silence_6 1 rfl ?_
  refine x_cV1 C (c_X9_doSilence E N m _ (mCp s 0 6) (mCu su 0 6) (nI n) tx ty re ca at_ to x tk (gOk_kS hg) hb_m hn_m) v_X9_72 hN (xlo (i := 0) hb_m) (xhi (i := 0) hn_m rfl) (ov_at (i := 0) rfl) rfl rfl rfl rfl rfl dX9_silence_7 ?_
  refine x_cV1 C (c_X9_acted E N m _ (mSilS (mCp s 0 6) (mCu su 0 6) x) (mSilU (mCp s 0 6) (mCu su 0 6) x) tx ty re ca at_ to (mSilR (mCp s 0 6) (mCu su 0 6) x) n (by first | assumption | omega | decide) hb_m hn_m) v_X9_69 hN (xlo (i := 0) hb_m) (xhi (i := 0) hn_m rfl) (ov_at (i := 0) rfl) rfl rfl rfl rfl rfl dX9_silence_10 ?_
  exact x_iret C Z rfl rfl rfl rfl dX9_silence_13

set_option maxRecDepth 100000 in
set_option maxHeartbeats 4000000 in
theorem c_X9_tap (E : XE) (N m : Nat) (G : GW) (s : Nat → Int32) (su : Nat → Int64) (n : Nat) (tx : Nat → Int32) (ty re ca at_ : Int32) (to : Nat → Int32) (t d g : Int32) (hn : n ≤ 4) (hb_m : xB E ≤ m) (hn_m : m + 5 ≤ N) : MF E yX9_tap cX9_tap 4 (some .int) 3 66 0 0 [.ref m, .int t, .int d, .int g] N (ov m (mC E m s su (nI n) tx ty re ca at_ to) G) (some (.int (mTapR (kS s) t d g))) (ov m (mC E m (mActS (mTapR (kS s) t d g) n (mTapS (kS s) t d g)) (mActU (mTapR (kS s) t d g) n (kU su)) (nI (mActN (mTapR (kS s) t d g) n)) tx ty re ca at_ to) G) := by
  refine MF.mk RX9 rfl (by decide +kernel) rfl (fun K C Z hin hN => ?_)
  show XW E K 4 N 0 0 _ 0 [(0, .ref m), (1, .int t), (2, .int d), (3, .int g)] []
  refine x_aload_n C dX9_tap_0 0 rfl ?_
  refine x_cV0 C (c_X9_keeps E N m _ s su (nI n) tx ty re ca at_ to hb_m hn_m) v_X9_63 hN (xlo (i := 0) hb_m) (xhi (i := 0) hn_m rfl) (ov_at (i := 0) rfl) rfl rfl rfl rfl rfl dX9_tap_1 ?_
  refine x_aload_n C dX9_tap_4 0 rfl ?_
  refine x_aload_n C dX9_tap_5 0 rfl ?_
  refine x_iload_n C dX9_tap_6 1 rfl ?_
  refine x_iload_n C dX9_tap_7 2 rfl ?_
  refine x_iload_n C dX9_tap_8 3 rfl ?_
  refine x_cV1 C (c_X9_doTap E N m _ (mCp s 0 6) (mCu su 0 6) (nI n) tx ty re ca at_ to t d g hb_m hn_m) v_X9_75 hN (xlo (i := 0) hb_m) (xhi (i := 0) hn_m rfl) (ov_at (i := 0) rfl) rfl rfl rfl rfl rfl dX9_tap_9 ?_
  refine x_cV1 C (c_X9_acted E N m _ (mTapS (mCp s 0 6) t d g) (mCu su 0 6) tx ty re ca at_ to (mTapR (mCp s 0 6) t d g) n (by first | assumption | omega | decide) hb_m hn_m) v_X9_69 hN (xlo (i := 0) hb_m) (xhi (i := 0) hn_m rfl) (ov_at (i := 0) rfl) rfl rfl rfl rfl rfl dX9_tap_12 ?_
  exact x_iret C Z rfl rfl rfl rfl dX9_tap_15

set_option maxRecDepth 100000 in
set_option maxHeartbeats 4000000 in
theorem c_X9_off (E : XE) (N m : Nat) (G : GW) (s : Nat → Int32) (su : Nat → Int64) (n : Nat) (tx : Nat → Int32) (ty re ca at_ : Int32) (to : Nat → Int32) (t : Int32) (hn : n ≤ 4) (hb_m : xB E ≤ m) (hn_m : m + 5 ≤ N) : MF E yX9_off cX9_off 2 (some .int) 2 45 0 0 [.ref m, .int t] N (ov m (mC E m s su (nI n) tx ty re ca at_ to) G) (some (.int (mOffR s t))) (ov m (mC E m (mOffs s n t) (mOffu s su n t) (nI (mOffn s n t)) tx ty re ca at_ to) G) := by
  refine MF.mk RX9 rfl (by decide +kernel) rfl (fun K C Z hin hN => ?_)
  show XW E K 2 N 0 0 _ 0 [(0, .ref m), (1, .int t)] []
  refine x_iload_n C dX9_off_0 1 rfl ?_
  refine x_iconst C 0 dX9_off_1 rfl ?_
  refine x_iconst C 3 dX9_off_2 rfl ?_
  refine x_cS1 C (c_X9_in E N _ t 0 3) v_X9_54 hN rfl rfl rfl rfl dX9_off_3 ?_
  refine x_ifb_ne C 12 dX9_off_6 rfl (fun c6 => ?_) (fun c6 => ?_)
  · obtain ⟨q, hk, rfl⟩ : ∃ q : Nat, q ≤ 3 ∧ t = nI q := ⟨_, (inR_k (by decide) (by decide) c6).2, (inR_k (n := 3) (by decide) (by decide) c6).1⟩
    have q9kc : (nI q).toNatClampNeg = q := nI_clamp (by omega)
    refine x_aload_n C dX9_off_12 0 rfl ?_
    refine x_get C (xlo (i := 0) hb_m) (xhi (i := 0) hn_m rfl) (ov_at (i := 0) rfl) f_X9_7 rfl dX9_off_13 ?_
    refine x_bipush C 65 dX9_off_16 rfl ?_
    refine x_iload_n C dX9_off_18 1 rfl ?_
    refine x_iadd C dX9_off_19 ?_
    refine x_v (w := .int (nI (65 + q))) (congrArg Value.int (natAdd (a := 65) (b := q) (by omega))) ?_
    refine x_iald C (s (65 + q)) (xlo (i := 1) hb_m) (xhi (i := 1) hn_m rfl) (ov_at (i := 1) rfl) (vp_in_nI (by omega) (by decide)) (by rw [nI_clamp (by omega)]) dX9_off_20 ?_
    refine x_if_ne C 27 dX9_off_21 rfl (fun c21 => ?_) (fun c21 => ?_)
    · refine x_aload_n C dX9_off_27 0 rfl ?_
      refine x_cV0 C (c_X9_keeps E N m _ s su (nI n) tx ty re ca at_ to hb_m hn_m) v_X9_63 hN (xlo (i := 0) hb_m) (xhi (i := 0) hn_m rfl) (ov_at (i := 0) rfl) rfl rfl rfl rfl rfl dX9_off_28 ?_
      refine x_aload_n C dX9_off_31 0 rfl ?_
      refine x_get C (xlo (i := 0) hb_m) (xhi (i := 0) hn_m rfl) (ov_at (i := 0) rfl) f_X9_7 rfl dX9_off_32 ?_
      refine x_bipush C 65 dX9_off_35 rfl ?_
      refine x_iload_n C dX9_off_37 1 rfl ?_
      refine x_iadd C dX9_off_38 ?_
      refine x_v (w := .int (nI (65 + q))) (congrArg Value.int (natAdd (a := 65) (b := q) (by omega))) ?_
      refine x_iconst C 0 dX9_off_39 rfl ?_
      refine x_iast (G' := ov m (mC E m (upd (mCp s 0 6) (65 + q) 0) (mCu su 0 6) (nI n) tx ty re ca at_ to) G) C (65 + q) (xlo (i := 1) hb_m) (xhi (i := 1) hn_m rfl) (ov_at (i := 1) rfl) (vp_in_nI (by omega) (by decide)) (nI_clamp (by omega)) (ov_set (i := 1) rfl rfl) dX9_off_40 ?_
      refine x_G (G' := ov m (mC E m (mOffS s q) (mCu su 0 6) (nI n) tx ty re ca at_ to) G) rfl ?_
      refine x_aload_n C dX9_off_41 0 rfl ?_
      refine x_aload_n C dX9_off_42 0 rfl ?_
      refine x_get C (xlo (i := 0) hb_m) (xhi (i := 0) hn_m rfl) (ov_at (i := 0) rfl) f_X9_7 rfl dX9_off_43 ?_
      refine x_bipush C 69 dX9_off_46 rfl ?_
      refine x_iload_n C dX9_off_48 1 rfl ?_
      refine x_iadd C dX9_off_49 ?_
      refine x_v (w := .int (nI (69 + q))) (congrArg Value.int (natAdd (a := 69) (b := q) (by omega))) ?_
      refine x_iald C ((mOffS s q) (69 + q)) (xlo (i := 1) hb_m) (xhi (i := 1) hn_m rfl) (ov_at (i := 1) rfl) (vp_in_nI (by omega) (by decide)) (by rw [nI_clamp (by omega)]) dX9_off_50 ?_
      refine x_cV1 C (c_X9_acted E N m _ (mOffS s q) (mCu su 0 6) tx ty re ca at_ to ((mOffS s q) (69 + q)) n (by first | assumption | omega | decide) hb_m hn_m) v_X9_69 hN (xlo (i := 0) hb_m) (xhi (i := 0) hn_m rfl) (ov_at (i := 0) rfl) rfl rfl rfl rfl rfl dX9_off_51 ?_
      exact x_iret C Z rfl rfl (by first | (simp only [mOffR, mOffs, mOffu, mOffn, q9kc, c6, if_neg c21, eq_self, Bool.false_eq_true, if_true, if_false]; done) | ((simp only [mOffR, mOffs, mOffu, mOffn, q9kc, c6, if_neg c21, eq_self, Bool.false_eq_true, if_true, if_false]); rfl) | (simp [mOffR, mOffs, mOffu, mOffn, q9kc, c6, c21]; done) | (simp [mOffR, mOffs, mOffu, mOffn, q9kc, c6, c21]; rfl)) (by first | (simp only [mOffR, mOffs, mOffu, mOffn, q9kc, c6, if_neg c21, eq_self, Bool.false_eq_true, if_true, if_false]; done) | ((simp only [mOffR, mOffs, mOffu, mOffn, q9kc, c6, if_neg c21, eq_self, Bool.false_eq_true, if_true, if_false]); rfl) | (simp [mOffR, mOffs, mOffu, mOffn, q9kc, c6, c21]; done) | (simp [mOffR, mOffs, mOffu, mOffn, q9kc, c6, c21]; rfl)) dX9_off_54
    · refine x_ldc C (-1000002) m_606 dX9_off_24 ?_
      exact x_iret C Z rfl rfl (by first | (simp only [mOffR, mOffs, mOffu, mOffn, q9kc, c6, if_pos c21, eq_self, Bool.false_eq_true, if_true, if_false]; done) | ((simp only [mOffR, mOffs, mOffu, mOffn, q9kc, c6, if_pos c21, eq_self, Bool.false_eq_true, if_true, if_false]); rfl) | (simp [mOffR, mOffs, mOffu, mOffn, q9kc, c6, c21]; done) | (simp [mOffR, mOffs, mOffu, mOffn, q9kc, c6, c21]; rfl)) (by first | (simp only [mOffR, mOffs, mOffu, mOffn, q9kc, c6, if_pos c21, eq_self, Bool.false_eq_true, if_true, if_false]; done) | ((simp only [mOffR, mOffs, mOffu, mOffn, q9kc, c6, if_pos c21, eq_self, Bool.false_eq_true, if_true, if_false]); rfl) | (simp [mOffR, mOffs, mOffu, mOffn, q9kc, c6, c21]; done) | (simp [mOffR, mOffs, mOffu, mOffn, q9kc, c6, c21]; rfl)) dX9_off_26
  · refine x_ldc C (-1000001) m_584 dX9_off_9 ?_
    exact x_iret C Z rfl rfl (by first | (simp only [mOffR, mOffs, mOffu, mOffn, c6, eq_self, Bool.false_eq_true, if_true, if_false]; done) | ((simp only [mOffR, mOffs, mOffu, mOffn, c6, eq_self, Bool.false_eq_true, if_true, if_false]); rfl) | (simp [mOffR, mOffs, mOffu, mOffn, c6]; done) | (simp [mOffR, mOffs, mOffu, mOffn, c6]; rfl)) (by first | (simp only [mOffR, mOffs, mOffu, mOffn, c6, eq_self, Bool.false_eq_true, if_true, if_false]; done) | ((simp only [mOffR, mOffs, mOffu, mOffn, c6, eq_self, Bool.false_eq_true, if_true, if_false]); rfl) | (simp [mOffR, mOffs, mOffu, mOffn, c6]; done) | (simp [mOffR, mOffs, mOffu, mOffn, c6]; rfl)) dX9_off_11

set_option maxRecDepth 100000 in
set_option maxHeartbeats 4000000 in
theorem c_X9_feedback (E : XE) (N m : Nat) (G : GW) (s : Nat → Int32) (su : Nat → Int64) (n : Nat) (tx : Nat → Int32) (ty re ca at_ : Int32) (to : Nat → Int32) (d g : Int32) (hn : n ≤ 4) (hb_m : xB E ≤ m) (hn_m : m + 5 ≤ N) : MF E yX9_feedback cX9_feedback 3 (some .int) 2 45 0 0 [.ref m, .int d, .int g] N (ov m (mC E m s su (nI n) tx ty re ca at_ to) G) (some (.int (mFeeR (kS s) d g))) (ov m (mC E m (mActS (mFeeR (kS s) d g) n (mFeeS (kS s) d g)) (mActU (mFeeR (kS s) d g) n (kU su)) (nI (mActN (mFeeR (kS s) d g) n)) tx ty re ca at_ to) G) := by
  refine MF.mk RX9 rfl (by decide +kernel) rfl (fun K C Z hin hN => ?_)
  show XW E K 3 N 0 0 _ 0 [(0, .ref m), (1, .int d), (2, .int g)] []
  refine x_aload_n C dX9_feedback_0 0 rfl ?_
  refine x_cV0 C (c_X9_keeps E N m _ s su (nI n) tx ty re ca at_ to hb_m hn_m) v_X9_63 hN (xlo (i := 0) hb_m) (xhi (i := 0) hn_m rfl) (ov_at (i := 0) rfl) rfl rfl rfl rfl rfl dX9_feedback_1 ?_
  refine x_aload_n C dX9_feedback_4 0 rfl ?_
  refine x_aload_n C dX9_feedback_5 0 rfl ?_
  refine x_iload_n C dX9_feedback_6 1 rfl ?_
  refine x_iload_n C dX9_feedback_7 2 rfl ?_
  refine x_cV1 C (c_X9_doFeedback E N m _ (mCp s 0 6) (mCu su 0 6) (nI n) tx ty re ca at_ to d g hb_m hn_m) v_X9_79 hN (xlo (i := 0) hb_m) (xhi (i := 0) hn_m rfl) (ov_at (i := 0) rfl) rfl rfl rfl rfl rfl dX9_feedback_8 ?_
  refine x_cV1 C (c_X9_acted E N m _ (mFeeS (mCp s 0 6) d g) (mCu su 0 6) tx ty re ca at_ to (mFeeR (mCp s 0 6) d g) n (by first | assumption | omega | decide) hb_m hn_m) v_X9_69 hN (xlo (i := 0) hb_m) (xhi (i := 0) hn_m rfl) (ov_at (i := 0) rfl) rfl rfl rfl rfl rfl dX9_feedback_11 ?_
  exact x_iret C Z rfl rfl rfl rfl dX9_feedback_14

set_option maxRecDepth 100000 in
set_option maxHeartbeats 4000000 in
theorem c_X9_steal (E : XE) (N m : Nat) (G : GW) (s : Nat → Int32) (su : Nat → Int64) (n : Nat) (tx : Nat → Int32) (ty re ca at_ : Int32) (to : Nat → Int32) (x : Int32) (tk : Nat) (hg : gOk (sl s 0) tk) (hn : n ≤ 4) (hb_m : xB E ≤ m) (hn_m : m + 5 ≤ N) : MF E yX9_steal cX9_steal 2 (some .int) 2 45 0 0 [.ref m, .int x] N (ov m (mC E m s su (nI n) tx ty re ca at_ to) G) (some (.int (mSteR tk x))) (ov m (mC E m (mActS (mSteR tk x) n (mSteS (kS s) tk x)) (mActU (mSteR tk x) n (kU su)) (nI (mActN (mSteR tk x) n)) tx ty re ca at_ to) G) := by
  refine MF.mk RX9 rfl (by decide +kernel) rfl (fun K C Z hin hN => ?_)
  show XW E K 2 N 0 0 _ 0 [(0, .ref m), (1, .int x)] []
  refine x_aload_n C dX9_steal_0 0 rfl ?_
  refine x_cV0 C (c_X9_keeps E N m _ s su (nI n) tx ty re ca at_ to hb_m hn_m) v_X9_63 hN (xlo (i := 0) hb_m) (xhi (i := 0) hn_m rfl) (ov_at (i := 0) rfl) rfl rfl rfl rfl rfl dX9_steal_1 ?_
  refine x_aload_n C dX9_steal_4 0 rfl ?_
  refine x_aload_n C dX9_steal_5 0 rfl ?_
  refine x_iload_n C dX9_steal_6 1 rfl ?_
  refine x_cV1 C (c_X9_doSteal E N m _ (mCp s 0 6) (mCu su 0 6) (nI n) tx ty re ca at_ to x tk ((kS_at s (by decide)).trans (gOk_0 hg)) hg.2.1 hb_m hn_m) v_X9_82 hN (xlo (i := 0) hb_m) (xhi (i := 0) hn_m rfl) (ov_at (i := 0) rfl) rfl rfl rfl rfl rfl dX9_steal_7 ?_
  refine x_cV1 C (c_X9_acted E N m _ (mSteS (mCp s 0 6) tk x) (mCu su 0 6) tx ty re ca at_ to (mSteR tk x) n (by first | assumption | omega | decide) hb_m hn_m) v_X9_69 hN (xlo (i := 0) hb_m) (xhi (i := 0) hn_m rfl) (ov_at (i := 0) rfl) rfl rfl rfl rfl rfl dX9_steal_10 ?_
  exact x_iret C Z rfl rfl rfl rfl dX9_steal_13

set_option maxRecDepth 100000 in
set_option maxHeartbeats 4000000 in
theorem c_X9_giveBack (E : XE) (N m : Nat) (G : GW) (s : Nat → Int32) (su : Nat → Int64) (n : Nat) (tx : Nat → Int32) (ty re ca at_ : Int32) (to : Nat → Int32) (x : Int32) (tk : Nat) (hg : gOk (sl s 0) tk) (hn : n ≤ 4) (hb_m : xB E ≤ m) (hn_m : m + 5 ≤ N) : MF E yX9_giveBack cX9_giveBack 2 (some .int) 2 45 0 0 [.ref m, .int x] N (ov m (mC E m s su (nI n) tx ty re ca at_ to) G) (some (.int (mGivR tk x))) (ov m (mC E m (mActS (mGivR tk x) n (mGivS (kS s) tk x)) (mActU (mGivR tk x) n (kU su)) (nI (mActN (mGivR tk x) n)) tx ty re ca at_ to) G) := by
  refine MF.mk RX9 rfl (by decide +kernel) rfl (fun K C Z hin hN => ?_)
  show XW E K 2 N 0 0 _ 0 [(0, .ref m), (1, .int x)] []
  refine x_aload_n C dX9_giveBack_0 0 rfl ?_
  refine x_cV0 C (c_X9_keeps E N m _ s su (nI n) tx ty re ca at_ to hb_m hn_m) v_X9_63 hN (xlo (i := 0) hb_m) (xhi (i := 0) hn_m rfl) (ov_at (i := 0) rfl) rfl rfl rfl rfl rfl dX9_giveBack_1 ?_
  refine x_aload_n C dX9_giveBack_4 0 rfl ?_
  refine x_aload_n C dX9_giveBack_5 0 rfl ?_
  refine x_iload_n C dX9_giveBack_6 1 rfl ?_
  refine x_cV1 C (c_X9_doGive E N m _ (mCp s 0 6) (mCu su 0 6) (nI n) tx ty re ca at_ to x tk ((kS_at s (by decide)).trans (gOk_0 hg)) hg.2.1 hb_m hn_m) v_X9_85 hN (xlo (i := 0) hb_m) (xhi (i := 0) hn_m rfl) (ov_at (i := 0) rfl) rfl rfl rfl rfl rfl dX9_giveBack_7 ?_
  refine x_cV1 C (c_X9_acted E N m _ (mGivS (mCp s 0 6) tk x) (mCu su 0 6) tx ty re ca at_ to (mGivR tk x) n (by first | assumption | omega | decide) hb_m hn_m) v_X9_69 hN (xlo (i := 0) hb_m) (xhi (i := 0) hn_m rfl) (ov_at (i := 0) rfl) rfl rfl rfl rfl rfl dX9_giveBack_10 ?_
  exact x_iret C Z rfl rfl rfl rfl dX9_giveBack_13

set_option maxRecDepth 100000 in
set_option maxHeartbeats 4000000 in
theorem c_X9_set (E : XE) (N m : Nat) (G : GW) (s : Nat → Int32) (su : Nat → Int64) (n : Nat) (tx : Nat → Int32) (ty re ca at_ : Int32) (to : Nat → Int32) (w x : Int32) (hn : n ≤ 4) (hb_m : xB E ≤ m) (hn_m : m + 5 ≤ N) : MF E yX9_set cX9_set 4 (some .int) 2 45 0 0 [.ref m, .int w, .int x] N (ov m (mC E m s su (nI n) tx ty re ca at_ to) G) (some (.int (mSetR s w x))) (ov m (mC E m (mSets s n w x) (mSetu s su n w x) (nI (mSetn s n w x)) tx ty re ca at_ to) G) := by
  refine MF.mk RX9 rfl (by decide +kernel) rfl (fun K C Z hin hN => ?_)
  show XW E K 4 N 0 0 _ 0 [(0, .ref m), (1, .int w), (2, .int x)] []
  refine x_iload_n C dX9_set_0 1 rfl ?_
  refine x_iconst C 0 dX9_set_1 rfl ?_
  refine x_iconst C 1 dX9_set_2 rfl ?_
  refine x_cS1 C (c_X9_in E N _ w 0 1) v_X9_54 hN rfl rfl rfl rfl dX9_set_3 ?_
  refine x_ifb_eq C 37 dX9_set_6 rfl (fun c6 => ?_) (fun c6 => ?_)
  · refine x_ldc C (-1000001) m_584 dX9_set_37 ?_
    exact x_iret C Z rfl rfl (by first | (simp only [mSetR, mSets, mSetu, mSetn, okM, c6, eq_self, Bool.false_eq_true, if_true, if_false]; done) | ((simp only [mSetR, mSets, mSetu, mSetn, okM, c6, eq_self, Bool.false_eq_true, if_true, if_false]); rfl) | (simp [mSetR, mSets, mSetu, mSetn, okM, c6]; done) | (simp [mSetR, mSets, mSetu, mSetn, okM, c6]; rfl)) (by first | (simp only [mSetR, mSets, mSetu, mSetn, okM, c6, eq_self, Bool.false_eq_true, if_true, if_false]; done) | ((simp only [mSetR, mSets, mSetu, mSetn, okM, c6, eq_self, Bool.false_eq_true, if_true, if_false]); rfl) | (simp [mSetR, mSets, mSetu, mSetn, okM, c6]; done) | (simp [mSetR, mSets, mSetu, mSetn, okM, c6]; rfl)) dX9_set_39
  · refine x_iload_n C dX9_set_9 2 rfl ?_
    refine x_iload_n C dX9_set_10 1 rfl ?_
    refine x_if_ne C 19 dX9_set_11 rfl (fun c11 => ?_) (fun c11 => ?_)
    · refine x_iconst C 0 dX9_set_19 rfl ?_
      refine x_iload_n C dX9_set_20 1 rfl ?_
      refine x_if_ne C 30 dX9_set_21 rfl (fun _ => ?_) (fun c => absurd c c11)
      refine x_iconst C 2 dX9_set_30 rfl ?_
      refine x_cS1 C (c_X9_in E N _ x 0 2) v_X9_54 hN rfl rfl rfl rfl dX9_set_31 ?_
      refine x_ifb_ne C 40 dX9_set_34 rfl (fun c34 => ?_) (fun c34 => ?_)
      · obtain ⟨q, hk, rfl⟩ : ∃ q : Nat, q ≤ 1 ∧ w = nI q := ⟨_, (inR_k (by decide) (by decide) c6).2, (inR_k (n := 1) (by decide) (by decide) c6).1⟩
        have q9kc : (nI q).toNatClampNeg = q := nI_clamp (by omega)
        refine x_aload_n C dX9_set_40 0 rfl ?_
        refine x_cV0 C (c_X9_keeps E N m _ s su (nI n) tx ty re ca at_ to hb_m hn_m) v_X9_63 hN (xlo (i := 0) hb_m) (xhi (i := 0) hn_m rfl) (ov_at (i := 0) rfl) rfl rfl rfl rfl rfl dX9_set_41 ?_
        refine x_aload_n C dX9_set_44 0 rfl ?_
        refine x_get C (xlo (i := 0) hb_m) (xhi (i := 0) hn_m rfl) (ov_at (i := 0) rfl) f_X9_7 rfl dX9_set_45 ?_
        refine x_bipush C 79 dX9_set_48 rfl ?_
        refine x_iload_n C dX9_set_50 1 rfl ?_
        refine x_iadd C dX9_set_51 ?_
        refine x_v (w := .int (nI (79 + q))) (congrArg Value.int (natAdd (a := 79) (b := q) (by omega))) ?_
        refine x_iald C ((mCp s 0 6) (79 + q)) (xlo (i := 1) hb_m) (xhi (i := 1) hn_m rfl) (ov_at (i := 1) rfl) (vp_in_nI (by omega) (by decide)) (by rw [nI_clamp (by omega)]) dX9_set_52 ?_
        refine x_istore_n (L' := [(3, .int ((mCp s 0 6) (79 + q))), (0, .ref m), (1, .int (nI q)), (2, .int x)]) C dX9_set_53 rfl rfl ?_
        refine x_aload_n C dX9_set_54 1 rfl ?_
        refine x_get C (xlo (i := 0) hb_m) (xhi (i := 0) hn_m rfl) (ov_at (i := 0) rfl) f_X9_7 rfl dX9_set_55 ?_
        refine x_bipush C 79 dX9_set_58 rfl ?_
        refine x_iload_n C dX9_set_60 2 rfl ?_
        refine x_iadd C dX9_set_61 ?_
        refine x_v (w := .int (nI (79 + q))) (congrArg Value.int (natAdd (a := 79) (b := q) (by omega))) ?_
        refine x_iload_n C dX9_set_62 3 rfl ?_
        refine x_iast (G' := ov m (mC E m (upd (mCp s 0 6) (79 + q) x) (mCu su 0 6) (nI n) tx ty re ca at_ to) G) C (79 + q) (xlo (i := 1) hb_m) (xhi (i := 1) hn_m rfl) (ov_at (i := 1) rfl) (vp_in_nI (by omega) (by decide)) (nI_clamp (by omega)) (ov_set (i := 1) rfl rfl) dX9_set_63 ?_
        refine x_G (G' := ov m (mC E m (mSetS s q x) (mCu su 0 6) (nI n) tx ty re ca at_ to) G) rfl ?_
        refine x_aload_n C dX9_set_64 1 rfl ?_
        refine x_iload_n C dX9_set_65 0 rfl ?_
        refine x_cV1 C (c_X9_acted E N m _ (mSetS s q x) (mCu su 0 6) tx ty re ca at_ to ((mCp s 0 6) (79 + q)) n (by first | assumption | omega | decide) hb_m hn_m) v_X9_69 hN (xlo (i := 0) hb_m) (xhi (i := 0) hn_m rfl) (ov_at (i := 0) rfl) rfl rfl rfl rfl rfl dX9_set_66 ?_
        exact x_iret C Z rfl rfl (by first | (simp only [mSetR, mSets, mSetu, mSetn, okM, q9kc, c6, if_neg c11, c34, eq_self, Bool.false_eq_true, if_true, if_false]; done) | ((simp only [mSetR, mSets, mSetu, mSetn, okM, q9kc, c6, if_neg c11, c34, eq_self, Bool.false_eq_true, if_true, if_false]); rfl) | (simp [mSetR, mSets, mSetu, mSetn, okM, q9kc, c6, c11, c34]; done) | (simp [mSetR, mSets, mSetu, mSetn, okM, q9kc, c6, c11, c34]; rfl)) (by first | (simp only [mSetR, mSets, mSetu, mSetn, okM, q9kc, c6, if_neg c11, c34, eq_self, Bool.false_eq_true, if_true, if_false]; done) | ((simp only [mSetR, mSets, mSetu, mSetn, okM, q9kc, c6, if_neg c11, c34, eq_self, Bool.false_eq_true, if_true, if_false]); rfl) | (simp [mSetR, mSets, mSetu, mSetn, okM, q9kc, c6, c11, c34]; done) | (simp [mSetR, mSets, mSetu, mSetn, okM, q9kc, c6, c11, c34]; rfl)) dX9_set_69
      · refine x_ldc C (-1000001) m_584 dX9_set_37 ?_
        exact x_iret C Z rfl rfl (by first | (simp only [mSetR, mSets, mSetu, mSetn, okM, c6, if_neg c11, c34, eq_self, Bool.false_eq_true, if_true, if_false]; done) | ((simp only [mSetR, mSets, mSetu, mSetn, okM, c6, if_neg c11, c34, eq_self, Bool.false_eq_true, if_true, if_false]); rfl) | (simp [mSetR, mSets, mSetu, mSetn, okM, c6, c11, c34]; done) | (simp [mSetR, mSets, mSetu, mSetn, okM, c6, c11, c34]; rfl)) (by first | (simp only [mSetR, mSets, mSetu, mSetn, okM, c6, if_neg c11, c34, eq_self, Bool.false_eq_true, if_true, if_false]; done) | ((simp only [mSetR, mSets, mSetu, mSetn, okM, c6, if_neg c11, c34, eq_self, Bool.false_eq_true, if_true, if_false]); rfl) | (simp [mSetR, mSets, mSetu, mSetn, okM, c6, c11, c34]; done) | (simp [mSetR, mSets, mSetu, mSetn, okM, c6, c11, c34]; rfl)) dX9_set_39
    · refine x_bipush C 100 dX9_set_14 rfl ?_
      refine x_goto C 20 dX9_set_16 rfl ?_
      refine x_iload_n C dX9_set_20 1 rfl ?_
      refine x_if_ne C 30 dX9_set_21 rfl (fun c => absurd c (not_not_intro c11)) (fun _ => ?_)
      refine x_sipush C 30000 dX9_set_24 rfl ?_
      refine x_goto C 31 dX9_set_27 rfl ?_
      refine x_cS1 C (c_X9_in E N _ x 100 30000) v_X9_54 hN rfl rfl rfl rfl dX9_set_31 ?_
      refine x_ifb_ne C 40 dX9_set_34 rfl (fun c34 => ?_) (fun c34 => ?_)
      · obtain ⟨q, hk, rfl⟩ : ∃ q : Nat, q ≤ 1 ∧ w = nI q := ⟨_, (inR_k (by decide) (by decide) c6).2, (inR_k (n := 1) (by decide) (by decide) c6).1⟩
        have q9kc : (nI q).toNatClampNeg = q := nI_clamp (by omega)
        refine x_aload_n C dX9_set_40 0 rfl ?_
        refine x_cV0 C (c_X9_keeps E N m _ s su (nI n) tx ty re ca at_ to hb_m hn_m) v_X9_63 hN (xlo (i := 0) hb_m) (xhi (i := 0) hn_m rfl) (ov_at (i := 0) rfl) rfl rfl rfl rfl rfl dX9_set_41 ?_
        refine x_aload_n C dX9_set_44 0 rfl ?_
        refine x_get C (xlo (i := 0) hb_m) (xhi (i := 0) hn_m rfl) (ov_at (i := 0) rfl) f_X9_7 rfl dX9_set_45 ?_
        refine x_bipush C 79 dX9_set_48 rfl ?_
        refine x_iload_n C dX9_set_50 1 rfl ?_
        refine x_iadd C dX9_set_51 ?_
        refine x_v (w := .int (nI (79 + q))) (congrArg Value.int (natAdd (a := 79) (b := q) (by omega))) ?_
        refine x_iald C ((mCp s 0 6) (79 + q)) (xlo (i := 1) hb_m) (xhi (i := 1) hn_m rfl) (ov_at (i := 1) rfl) (vp_in_nI (by omega) (by decide)) (by rw [nI_clamp (by omega)]) dX9_set_52 ?_
        refine x_istore_n (L' := [(3, .int ((mCp s 0 6) (79 + q))), (0, .ref m), (1, .int (nI q)), (2, .int x)]) C dX9_set_53 rfl rfl ?_
        refine x_aload_n C dX9_set_54 1 rfl ?_
        refine x_get C (xlo (i := 0) hb_m) (xhi (i := 0) hn_m rfl) (ov_at (i := 0) rfl) f_X9_7 rfl dX9_set_55 ?_
        refine x_bipush C 79 dX9_set_58 rfl ?_
        refine x_iload_n C dX9_set_60 2 rfl ?_
        refine x_iadd C dX9_set_61 ?_
        refine x_v (w := .int (nI (79 + q))) (congrArg Value.int (natAdd (a := 79) (b := q) (by omega))) ?_
        refine x_iload_n C dX9_set_62 3 rfl ?_
        refine x_iast (G' := ov m (mC E m (upd (mCp s 0 6) (79 + q) x) (mCu su 0 6) (nI n) tx ty re ca at_ to) G) C (79 + q) (xlo (i := 1) hb_m) (xhi (i := 1) hn_m rfl) (ov_at (i := 1) rfl) (vp_in_nI (by omega) (by decide)) (nI_clamp (by omega)) (ov_set (i := 1) rfl rfl) dX9_set_63 ?_
        refine x_G (G' := ov m (mC E m (mSetS s q x) (mCu su 0 6) (nI n) tx ty re ca at_ to) G) rfl ?_
        refine x_aload_n C dX9_set_64 1 rfl ?_
        refine x_iload_n C dX9_set_65 0 rfl ?_
        refine x_cV1 C (c_X9_acted E N m _ (mSetS s q x) (mCu su 0 6) tx ty re ca at_ to ((mCp s 0 6) (79 + q)) n (by first | assumption | omega | decide) hb_m hn_m) v_X9_69 hN (xlo (i := 0) hb_m) (xhi (i := 0) hn_m rfl) (ov_at (i := 0) rfl) rfl rfl rfl rfl rfl dX9_set_66 ?_
        exact x_iret C Z rfl rfl (by first | (simp only [mSetR, mSets, mSetu, mSetn, okM, q9kc, c6, if_pos c11, c34, eq_self, Bool.false_eq_true, if_true, if_false]; done) | ((simp only [mSetR, mSets, mSetu, mSetn, okM, q9kc, c6, if_pos c11, c34, eq_self, Bool.false_eq_true, if_true, if_false]); rfl) | (simp [mSetR, mSets, mSetu, mSetn, okM, q9kc, c6, c11, c34]; done) | (simp [mSetR, mSets, mSetu, mSetn, okM, q9kc, c6, c11, c34]; rfl)) (by first | (simp only [mSetR, mSets, mSetu, mSetn, okM, q9kc, c6, if_pos c11, c34, eq_self, Bool.false_eq_true, if_true, if_false]; done) | ((simp only [mSetR, mSets, mSetu, mSetn, okM, q9kc, c6, if_pos c11, c34, eq_self, Bool.false_eq_true, if_true, if_false]); rfl) | (simp [mSetR, mSets, mSetu, mSetn, okM, q9kc, c6, c11, c34]; done) | (simp [mSetR, mSets, mSetu, mSetn, okM, q9kc, c6, c11, c34]; rfl)) dX9_set_69
      · refine x_ldc C (-1000001) m_584 dX9_set_37 ?_
        exact x_iret C Z rfl rfl (by first | (simp only [mSetR, mSets, mSetu, mSetn, okM, c6, if_pos c11, c34, eq_self, Bool.false_eq_true, if_true, if_false]; done) | ((simp only [mSetR, mSets, mSetu, mSetn, okM, c6, if_pos c11, c34, eq_self, Bool.false_eq_true, if_true, if_false]); rfl) | (simp [mSetR, mSets, mSetu, mSetn, okM, c6, c11, c34]; done) | (simp [mSetR, mSets, mSetu, mSetn, okM, c6, c11, c34]; rfl)) (by first | (simp only [mSetR, mSets, mSetu, mSetn, okM, c6, if_pos c11, c34, eq_self, Bool.false_eq_true, if_true, if_false]; done) | ((simp only [mSetR, mSets, mSetu, mSetn, okM, c6, if_pos c11, c34, eq_self, Bool.false_eq_true, if_true, if_false]); rfl) | (simp [mSetR, mSets, mSetu, mSetn, okM, c6, c11, c34]; done) | (simp [mSetR, mSets, mSetu, mSetn, okM, c6, c11, c34]; rfl)) dX9_set_39

set_option maxRecDepth 100000 in
set_option maxHeartbeats 4000000 in
theorem c_X9_reset (E : XE) (N m : Nat) (G : GW) (s : Nat → Int32) (su : Nat → Int64) (n : Nat) (tx : Nat → Int32) (ty re ca at_ : Int32) (to : Nat → Int32) (hn : n ≤ 4) (hb_m : xB E ≤ m) (hn_m : m + 5 ≤ N) : MF E yX9_reset cX9_reset 2 (some .int) 2 45 0 0 [.ref m] N (ov m (mC E m s su (nI n) tx ty re ca at_ to) G) (some (.int (kS s 81))) (ov m (mC E m (mActS (kS s 81) n (mRstS s)) (mActU (kS s 81) n (vp_updL (kU su) 0 0)) (nI (mActN (kS s 81) n)) tx ty re ca at_ to) G) := by
  refine MF.mk RX9 rfl (by decide +kernel) rfl (fun K C Z hin hN => ?_)
  show XW E K 2 N 0 0 _ 0 [(0, .ref m)] []
  refine x_aload_n C dX9_reset_0 0 rfl ?_
  refine x_cV0 C (c_X9_keeps E N m _ s su (nI n) tx ty re ca at_ to hb_m hn_m) v_X9_63 hN (xlo (i := 0) hb_m) (xhi (i := 0) hn_m rfl) (ov_at (i := 0) rfl) rfl rfl rfl rfl rfl dX9_reset_1 ?_
  refine x_aload_n C dX9_reset_4 0 rfl ?_
  refine x_get C (xlo (i := 0) hb_m) (xhi (i := 0) hn_m rfl) (ov_at (i := 0) rfl) f_X9_7 rfl dX9_reset_5 ?_
  refine x_bipush C 81 dX9_reset_8 rfl ?_
  refine x_iald C ((mCp s 0 6) 81) (xlo (i := 1) hb_m) (xhi (i := 1) hn_m rfl) (ov_at (i := 1) rfl) (vp_in_d rfl) rfl dX9_reset_10 ?_
  refine x_istore_n (L' := [(1, .int ((mCp s 0 6) 81)), (0, .ref m)]) C dX9_reset_11 rfl rfl ?_
  refine x_aload_n C dX9_reset_12 1 rfl ?_
  refine x_get C (xlo (i := 0) hb_m) (xhi (i := 0) hn_m rfl) (ov_at (i := 0) rfl) f_X9_7 rfl dX9_reset_13 ?_
  refine x_bipush C 81 dX9_reset_16 rfl ?_
  refine x_iconst C 0 dX9_reset_18 rfl ?_
  refine x_iast (G' := ov m (mC E m (upd (mCp s 0 6) 81 0) (mCu su 0 6) (nI n) tx ty re ca at_ to) G) C 81 (xlo (i := 1) hb_m) (xhi (i := 1) hn_m rfl) (ov_at (i := 1) rfl) (vp_in_d rfl) rfl (ov_set (i := 1) rfl rfl) dX9_reset_19 ?_
  refine x_aload_n C dX9_reset_20 1 rfl ?_
  refine x_get C (xlo (i := 0) hb_m) (xhi (i := 0) hn_m rfl) (ov_at (i := 0) rfl) f_X9_7 rfl dX9_reset_21 ?_
  refine x_bipush C 82 dX9_reset_24 rfl ?_
  refine x_iconst C 0 dX9_reset_26 rfl ?_
  refine x_iast (G' := ov m (mC E m (upd (upd (mCp s 0 6) 81 0) 82 0) (mCu su 0 6) (nI n) tx ty re ca at_ to) G) C 82 (xlo (i := 1) hb_m) (xhi (i := 1) hn_m rfl) (ov_at (i := 1) rfl) (vp_in_d rfl) rfl (ov_set (i := 1) rfl rfl) dX9_reset_27 ?_
  refine x_aload_n C dX9_reset_28 1 rfl ?_
  refine x_get C (xlo (i := 0) hb_m) (xhi (i := 0) hn_m rfl) (ov_at (i := 0) rfl) f_X9_7 rfl dX9_reset_29 ?_
  refine x_bipush C 83 dX9_reset_32 rfl ?_
  refine x_iconst C 0 dX9_reset_34 rfl ?_
  refine x_iast (G' := ov m (mC E m (upd (upd (upd (mCp s 0 6) 81 0) 82 0) 83 0) (mCu su 0 6) (nI n) tx ty re ca at_ to) G) C 83 (xlo (i := 1) hb_m) (xhi (i := 1) hn_m rfl) (ov_at (i := 1) rfl) (vp_in_d rfl) rfl (ov_set (i := 1) rfl rfl) dX9_reset_35 ?_
  refine x_aload_n C dX9_reset_36 1 rfl ?_
  refine x_get C (xlo (i := 0) hb_m) (xhi (i := 0) hn_m rfl) (ov_at (i := 0) rfl) f_X9_7 rfl dX9_reset_37 ?_
  refine x_bipush C 84 dX9_reset_40 rfl ?_
  refine x_iconst C 0 dX9_reset_42 rfl ?_
  refine x_iast (G' := ov m (mC E m (upd (upd (upd (upd (mCp s 0 6) 81 0) 82 0) 83 0) 84 0) (mCu su 0 6) (nI n) tx ty re ca at_ to) G) C 84 (xlo (i := 1) hb_m) (xhi (i := 1) hn_m rfl) (ov_at (i := 1) rfl) (vp_in_d rfl) rfl (ov_set (i := 1) rfl rfl) dX9_reset_43 ?_
  refine x_aload_n C dX9_reset_44 1 rfl ?_
  refine x_get C (xlo (i := 0) hb_m) (xhi (i := 0) hn_m rfl) (ov_at (i := 0) rfl) f_X9_13 rfl dX9_reset_45 ?_
  refine x_iconst C 0 dX9_reset_48 rfl ?_
  refine x_lconst C 0 dX9_reset_49 rfl ?_
  refine x_last (G' := ov m (mC E m (upd (upd (upd (upd (mCp s 0 6) 81 0) 82 0) 83 0) 84 0) (vp_updL (mCu su 0 6) 0 0) (nI n) tx ty re ca at_ to) G) C 0 (xlo (i := 2) hb_m) (xhi (i := 2) hn_m rfl) (ov_at (i := 2) rfl) (vp_in_d rfl) rfl (ov_set (i := 2) rfl rfl) dX9_reset_50 ?_
  refine x_aload_n C dX9_reset_51 1 rfl ?_
  refine x_iload_n C dX9_reset_52 0 rfl ?_
  refine x_cV1 C (c_X9_acted E N m _ (upd (upd (upd (upd (mCp s 0 6) 81 0) 82 0) 83 0) 84 0) (vp_updL (mCu su 0 6) 0 0) tx ty re ca at_ to ((mCp s 0 6) 81) n (by first | assumption | omega | decide) hb_m hn_m) v_X9_69 hN (xlo (i := 0) hb_m) (xhi (i := 0) hn_m rfl) (ov_at (i := 0) rfl) rfl rfl rfl rfl rfl dX9_reset_53 ?_
  exact x_iret C Z rfl rfl rfl rfl dX9_reset_56

set_option maxRecDepth 100000 in
set_option maxHeartbeats 4000000 in
theorem c_X9_tapOf (E : XE) (N m : Nat) (G : GW) (s : Nat → Int32) (su : Nat → Int64) (n : Nat) (tx : Nat → Int32) (ty re ca at_ : Int32) (to : Nat → Int32) (t w : Int32) (tk : Nat) (hg : gOk (sl s 0) tk) (hB : ∀ t, t < 4 → s (65 + t) = 0 ∨ s (65 + t) = 1) (hb_m : xB E ≤ m) (hn_m : m + 5 ≤ N) : MF E yX9_tapOf cX9_tapOf 3 (some .int) 4 87 0 0 [.ref m, .int t, .int w] N (ov m (mC E m s su (nI n) tx ty re ca at_ to) G) (some (.int (mTofR s t w))) (ov m (mC E m s su (nI n) tx ty re ca at_ to) G) := by
  refine MF.mk RX9 rfl (by decide +kernel) rfl (fun K C Z hin hN => ?_)
  show XW E K 3 N 0 0 _ 0 [(0, .ref m), (1, .int t), (2, .int w)] []
  refine x_iload_n C dX9_tapOf_0 1 rfl ?_
  refine x_iconst C 0 dX9_tapOf_1 rfl ?_
  refine x_iconst C 4 dX9_tapOf_2 rfl ?_
  refine x_cS1 C (c_X9_in E N _ t 0 4) v_X9_54 hN rfl rfl rfl rfl dX9_tapOf_3 ?_
  refine x_ifb_eq C 18 dX9_tapOf_6 rfl (fun c6 => ?_) (fun c6 => ?_)
  · refine x_ldc C (-1000001) m_584 dX9_tapOf_18 ?_
    exact x_iret C Z rfl rfl (by first | (simp only [mTofR, c6, eq_self, Bool.false_eq_true, if_true, if_false]; done) | ((simp only [mTofR, c6, eq_self, Bool.false_eq_true, if_true, if_false]); rfl) | (simp [mTofR, c6]; done) | (simp [mTofR, c6]; rfl)) (by first | (simp only [mTofR, c6, eq_self, Bool.false_eq_true, if_true, if_false]; done) | ((simp only [mTofR, c6, eq_self, Bool.false_eq_true, if_true, if_false]); rfl) | (simp [mTofR, c6]; done) | (simp [mTofR, c6]; rfl)) dX9_tapOf_20
  · refine x_iload_n C dX9_tapOf_9 2 rfl ?_
    refine x_iconst C 0 dX9_tapOf_10 rfl ?_
    refine x_iconst C 4 dX9_tapOf_11 rfl ?_
    refine x_cS1 C (c_X9_in E N _ w 0 4) v_X9_54 hN rfl rfl rfl rfl dX9_tapOf_12 ?_
    refine x_ifb_ne C 21 dX9_tapOf_15 rfl (fun c15 => ?_) (fun c15 => ?_)
    · obtain ⟨q, hk, rfl⟩ : ∃ q : Nat, q ≤ 4 ∧ t = nI q := ⟨_, (inR_k (by decide) (by decide) c6).2, (inR_k (n := 4) (by decide) (by decide) c6).1⟩
      have q9kc : (nI q).toNatClampNeg = q := nI_clamp (by omega)
      refine x_iload_n C dX9_tapOf_21 1 rfl ?_
      refine x_iconst C 4 dX9_tapOf_22 rfl ?_
      refine x_icmp_ge C 41 dX9_tapOf_23 rfl (fun c23 => ?_) (fun c23 => ?_)
      · refine x_iload_n C dX9_tapOf_41 2 rfl ?_
        rcases Decidable.em (w = 0) with s1_0 | s1_0
        · refine x_v (w := .int 0) (by rw [s1_0]) ?_
          refine x_tableIn C 72 dX9_tapOf_42 (by decide) (by decide) rfl rfl ?_
          refine x_aload_n C dX9_tapOf_72 0 rfl ?_
          refine x_get C (xlo (i := 0) hb_m) (xhi (i := 0) hn_m rfl) (ov_at (i := 0) rfl) f_X9_7 rfl dX9_tapOf_73 ?_
          refine x_bipush C 69 dX9_tapOf_76 rfl ?_
          refine x_iload_n C dX9_tapOf_78 1 rfl ?_
          refine x_iadd C dX9_tapOf_79 ?_
          refine x_v (w := .int (nI (69 + q))) (congrArg Value.int (natAdd (a := 69) (b := q) (by omega))) ?_
          refine x_iald C (s (69 + q)) (xlo (i := 1) hb_m) (xhi (i := 1) hn_m rfl) (ov_at (i := 1) rfl) (vp_in_nI (by omega) (by decide)) (by rw [nI_clamp (by omega)]) dX9_tapOf_80 ?_
          exact x_iret C Z rfl rfl (by first | (simp only [mTofR, q9kc, c6, c15, if_pos c23, if_pos s1_0, eq_self, Bool.false_eq_true, if_true, if_false]; done) | ((simp only [mTofR, q9kc, c6, c15, if_pos c23, if_pos s1_0, eq_self, Bool.false_eq_true, if_true, if_false]); rfl) | (simp [mTofR, q9kc, c6, c15, c23, s1_0]; done) | (simp [mTofR, q9kc, c6, c15, c23, s1_0]; rfl)) (by first | (simp only [mTofR, q9kc, c6, c15, if_pos c23, if_pos s1_0, eq_self, Bool.false_eq_true, if_true, if_false]; done) | ((simp only [mTofR, q9kc, c6, c15, if_pos c23, if_pos s1_0, eq_self, Bool.false_eq_true, if_true, if_false]); rfl) | (simp [mTofR, q9kc, c6, c15, c23, s1_0]; done) | (simp [mTofR, q9kc, c6, c15, c23, s1_0]; rfl)) dX9_tapOf_81
        rcases Decidable.em (w = 1) with s1_1 | s1_1
        · refine x_v (w := .int 1) (by rw [s1_1]) ?_
          refine x_tableIn C 82 dX9_tapOf_42 (by decide) (by decide) rfl rfl ?_
          refine x_aload_n C dX9_tapOf_82 0 rfl ?_
          refine x_get C (xlo (i := 0) hb_m) (xhi (i := 0) hn_m rfl) (ov_at (i := 0) rfl) f_X9_7 rfl dX9_tapOf_83 ?_
          refine x_bipush C 74 dX9_tapOf_86 rfl ?_
          refine x_iload_n C dX9_tapOf_88 1 rfl ?_
          refine x_iadd C dX9_tapOf_89 ?_
          refine x_v (w := .int (nI (74 + q))) (congrArg Value.int (natAdd (a := 74) (b := q) (by omega))) ?_
          refine x_iald C (s (74 + q)) (xlo (i := 1) hb_m) (xhi (i := 1) hn_m rfl) (ov_at (i := 1) rfl) (vp_in_nI (by omega) (by decide)) (by rw [nI_clamp (by omega)]) dX9_tapOf_90 ?_
          exact x_iret C Z rfl rfl (by first | (simp only [mTofR, q9kc, c6, c15, if_pos c23, if_neg s1_0, if_pos s1_1, eq_self, Bool.false_eq_true, if_true, if_false]; done) | ((simp only [mTofR, q9kc, c6, c15, if_pos c23, if_neg s1_0, if_pos s1_1, eq_self, Bool.false_eq_true, if_true, if_false]); rfl) | (simp [mTofR, q9kc, c6, c15, c23, s1_0, s1_1]; done) | (simp [mTofR, q9kc, c6, c15, c23, s1_0, s1_1]; rfl)) (by first | (simp only [mTofR, q9kc, c6, c15, if_pos c23, if_neg s1_0, if_pos s1_1, eq_self, Bool.false_eq_true, if_true, if_false]; done) | ((simp only [mTofR, q9kc, c6, c15, if_pos c23, if_neg s1_0, if_pos s1_1, eq_self, Bool.false_eq_true, if_true, if_false]); rfl) | (simp [mTofR, q9kc, c6, c15, c23, s1_0, s1_1]; done) | (simp [mTofR, q9kc, c6, c15, c23, s1_0, s1_1]; rfl)) dX9_tapOf_91
        rcases Decidable.em (w = 2) with s1_2 | s1_2
        · refine x_v (w := .int 2) (by rw [s1_2]) ?_
          refine x_tableIn C 92 dX9_tapOf_42 (by decide) (by decide) rfl rfl ?_
          refine x_aload_n C dX9_tapOf_92 0 rfl ?_
          refine x_iconst C 0 dX9_tapOf_93 rfl ?_
          refine x_iload_n C dX9_tapOf_94 1 rfl ?_
          refine x_cV1 C (c_X9_isLost E N m _ s su (nI n) tx ty re ca at_ to 0 q (by first | assumption | omega | decide) (by first | assumption | omega | decide) hb_m hn_m) v_X9_37 hN (xlo (i := 0) hb_m) (xhi (i := 0) hn_m rfl) (ov_at (i := 0) rfl) rfl rfl rfl rfl rfl dX9_tapOf_95 ?_
          refine x_tb_eq C 105 106 dX9_tapOf_98 rfl dX9_tapOf_101 dX9_tapOf_102 rfl dX9_tapOf_105 rfl ?_
          exact x_iret C Z rfl rfl (by first | (simp only [mTofR, q9kc, c6, c15, if_pos c23, if_neg s1_0, if_neg s1_1, if_pos s1_2, eq_self, Bool.false_eq_true, if_true, if_false]; done) | ((simp only [mTofR, q9kc, c6, c15, if_pos c23, if_neg s1_0, if_neg s1_1, if_pos s1_2, eq_self, Bool.false_eq_true, if_true, if_false]); rfl) | (simp [mTofR, q9kc, c6, c15, c23, s1_0, s1_1, s1_2]; done) | (simp [mTofR, q9kc, c6, c15, c23, s1_0, s1_1, s1_2]; rfl)) (by first | (simp only [mTofR, q9kc, c6, c15, if_pos c23, if_neg s1_0, if_neg s1_1, if_pos s1_2, eq_self, Bool.false_eq_true, if_true, if_false]; done) | ((simp only [mTofR, q9kc, c6, c15, if_pos c23, if_neg s1_0, if_neg s1_1, if_pos s1_2, eq_self, Bool.false_eq_true, if_true, if_false]); rfl) | (simp [mTofR, q9kc, c6, c15, c23, s1_0, s1_1, s1_2]; done) | (simp [mTofR, q9kc, c6, c15, c23, s1_0, s1_1, s1_2]; rfl)) dX9_tapOf_106
        rcases Decidable.em (w = 3) with s1_3 | s1_3
        · refine x_v (w := .int 3) (by rw [s1_3]) ?_
          refine x_tableIn C 107 dX9_tapOf_42 (by decide) (by decide) rfl rfl ?_
          obtain ⟨d, hd, hd1, hd2⟩ := hg.2.2 q (by omega) (Or.inl (by have := (nI_leI (a := 4) (b := q) (by omega) (by omega)).mp c23; omega))
          refine x_aload_n C dX9_tapOf_107 0 rfl ?_
          refine x_iconst C 0 dX9_tapOf_108 rfl ?_
          refine x_iload_n C dX9_tapOf_109 1 rfl ?_
          refine x_cV1 C (c_X9_reads E N m _ s su (nI n) tx ty re ca at_ to 0 q d (by first | assumption | omega | decide) (by first | assumption | omega | decide) hd hd1 hd2 hb_m hn_m) v_X9_41 hN (xlo (i := 0) hb_m) (xhi (i := 0) hn_m rfl) (ov_at (i := 0) rfl) rfl rfl rfl rfl rfl dX9_tapOf_110 ?_
          exact x_iret C Z rfl rfl (by first | (simp only [mTofR, q9kc, c6, c15, if_pos c23, if_neg s1_0, if_neg s1_1, if_neg s1_2, if_pos s1_3, eq_self, Bool.false_eq_true, if_true, if_false]; done) | ((simp only [mTofR, q9kc, c6, c15, if_pos c23, if_neg s1_0, if_neg s1_1, if_neg s1_2, if_pos s1_3, eq_self, Bool.false_eq_true, if_true, if_false]); rfl) | (simp [mTofR, q9kc, c6, c15, c23, s1_0, s1_1, s1_2, s1_3]; done) | (simp [mTofR, q9kc, c6, c15, c23, s1_0, s1_1, s1_2, s1_3]; rfl)) (by first | (simp only [mTofR, q9kc, c6, c15, if_pos c23, if_neg s1_0, if_neg s1_1, if_neg s1_2, if_pos s1_3, eq_self, Bool.false_eq_true, if_true, if_false]; done) | ((simp only [mTofR, q9kc, c6, c15, if_pos c23, if_neg s1_0, if_neg s1_1, if_neg s1_2, if_pos s1_3, eq_self, Bool.false_eq_true, if_true, if_false]); rfl) | (simp [mTofR, q9kc, c6, c15, c23, s1_0, s1_1, s1_2, s1_3]; done) | (simp [mTofR, q9kc, c6, c15, c23, s1_0, s1_1, s1_2, s1_3]; rfl)) dX9_tapOf_113
        refine x_tableOut C 114 dX9_tapOf_42 (by have q0 := lv_neT (a := 0) s1_0 rfl; have q1 := lv_neT (a := 1) s1_1 rfl; have q2 := lv_neT (a := 2) s1_2 rfl; have q3 := lv_neT (a := 3) s1_3 rfl; omega) rfl ?_
        obtain ⟨d, hd, hd1, hd2⟩ := hg.2.2 q (by omega) (Or.inl (by have := (nI_leI (a := 4) (b := q) (by omega) (by omega)).mp c23; omega))
        refine x_aload_n C dX9_tapOf_114 0 rfl ?_
        refine x_iconst C 0 dX9_tapOf_115 rfl ?_
        refine x_iload_n C dX9_tapOf_116 1 rfl ?_
        refine x_cV1 C (c_X9_share E N m _ s su (nI n) tx ty re ca at_ to 0 q d (by first | assumption | omega | decide) (by first | assumption | omega | decide) hd hd1 hd2 hb_m hn_m) v_X9_48 hN (xlo (i := 0) hb_m) (xhi (i := 0) hn_m rfl) (ov_at (i := 0) rfl) rfl rfl rfl rfl rfl dX9_tapOf_117 ?_
        exact x_iret C Z rfl rfl (by first | (simp only [mTofR, q9kc, c6, c15, if_pos c23, if_neg s1_0, if_neg s1_1, if_neg s1_2, if_neg s1_3, eq_self, Bool.false_eq_true, if_true, if_false]; done) | ((simp only [mTofR, q9kc, c6, c15, if_pos c23, if_neg s1_0, if_neg s1_1, if_neg s1_2, if_neg s1_3, eq_self, Bool.false_eq_true, if_true, if_false]); rfl) | (simp [mTofR, q9kc, c6, c15, c23, s1_0, s1_1, s1_2, s1_3]; done) | (simp [mTofR, q9kc, c6, c15, c23, s1_0, s1_1, s1_2, s1_3]; rfl)) (by first | (simp only [mTofR, q9kc, c6, c15, if_pos c23, if_neg s1_0, if_neg s1_1, if_neg s1_2, if_neg s1_3, eq_self, Bool.false_eq_true, if_true, if_false]; done) | ((simp only [mTofR, q9kc, c6, c15, if_pos c23, if_neg s1_0, if_neg s1_1, if_neg s1_2, if_neg s1_3, eq_self, Bool.false_eq_true, if_true, if_false]); rfl) | (simp [mTofR, q9kc, c6, c15, c23, s1_0, s1_1, s1_2, s1_3]; done) | (simp [mTofR, q9kc, c6, c15, c23, s1_0, s1_1, s1_2, s1_3]; rfl)) dX9_tapOf_120
      · refine x_aload_n C dX9_tapOf_26 0 rfl ?_
        refine x_get C (xlo (i := 0) hb_m) (xhi (i := 0) hn_m rfl) (ov_at (i := 0) rfl) f_X9_7 rfl dX9_tapOf_27 ?_
        refine x_bipush C 65 dX9_tapOf_30 rfl ?_
        refine x_iload_n C dX9_tapOf_32 1 rfl ?_
        refine x_iadd C dX9_tapOf_33 ?_
        refine x_v (w := .int (nI (65 + q))) (congrArg Value.int (natAdd (a := 65) (b := q) (by omega))) ?_
        refine x_iald C (s (65 + q)) (xlo (i := 1) hb_m) (xhi (i := 1) hn_m rfl) (ov_at (i := 1) rfl) (vp_in_nI (by omega) (by decide)) (by rw [nI_clamp (by omega)]) dX9_tapOf_34 ?_
        refine x_if_ne C 41 dX9_tapOf_35 rfl (fun c35 => ?_) (fun c35 => ?_)
        · refine x_iload_n C dX9_tapOf_41 2 rfl ?_
          rcases Decidable.em (w = 0) with s2_0 | s2_0
          · refine x_v (w := .int 0) (by rw [s2_0]) ?_
            refine x_tableIn C 72 dX9_tapOf_42 (by decide) (by decide) rfl rfl ?_
            refine x_aload_n C dX9_tapOf_72 0 rfl ?_
            refine x_get C (xlo (i := 0) hb_m) (xhi (i := 0) hn_m rfl) (ov_at (i := 0) rfl) f_X9_7 rfl dX9_tapOf_73 ?_
            refine x_bipush C 69 dX9_tapOf_76 rfl ?_
            refine x_iload_n C dX9_tapOf_78 1 rfl ?_
            refine x_iadd C dX9_tapOf_79 ?_
            refine x_v (w := .int (nI (69 + q))) (congrArg Value.int (natAdd (a := 69) (b := q) (by omega))) ?_
            refine x_iald C (s (69 + q)) (xlo (i := 1) hb_m) (xhi (i := 1) hn_m rfl) (ov_at (i := 1) rfl) (vp_in_nI (by omega) (by decide)) (by rw [nI_clamp (by omega)]) dX9_tapOf_80 ?_
            exact x_iret C Z rfl rfl (by first | (simp only [mTofR, q9kc, c6, c15, if_neg c23, if_neg c35, if_pos s2_0, eq_self, Bool.false_eq_true, if_true, if_false]; done) | ((simp only [mTofR, q9kc, c6, c15, if_neg c23, if_neg c35, if_pos s2_0, eq_self, Bool.false_eq_true, if_true, if_false]); rfl) | (simp [mTofR, q9kc, c6, c15, c23, c35, s2_0]; done) | (simp [mTofR, q9kc, c6, c15, c23, c35, s2_0]; rfl)) (by first | (simp only [mTofR, q9kc, c6, c15, if_neg c23, if_neg c35, if_pos s2_0, eq_self, Bool.false_eq_true, if_true, if_false]; done) | ((simp only [mTofR, q9kc, c6, c15, if_neg c23, if_neg c35, if_pos s2_0, eq_self, Bool.false_eq_true, if_true, if_false]); rfl) | (simp [mTofR, q9kc, c6, c15, c23, c35, s2_0]; done) | (simp [mTofR, q9kc, c6, c15, c23, c35, s2_0]; rfl)) dX9_tapOf_81
          rcases Decidable.em (w = 1) with s2_1 | s2_1
          · refine x_v (w := .int 1) (by rw [s2_1]) ?_
            refine x_tableIn C 82 dX9_tapOf_42 (by decide) (by decide) rfl rfl ?_
            refine x_aload_n C dX9_tapOf_82 0 rfl ?_
            refine x_get C (xlo (i := 0) hb_m) (xhi (i := 0) hn_m rfl) (ov_at (i := 0) rfl) f_X9_7 rfl dX9_tapOf_83 ?_
            refine x_bipush C 74 dX9_tapOf_86 rfl ?_
            refine x_iload_n C dX9_tapOf_88 1 rfl ?_
            refine x_iadd C dX9_tapOf_89 ?_
            refine x_v (w := .int (nI (74 + q))) (congrArg Value.int (natAdd (a := 74) (b := q) (by omega))) ?_
            refine x_iald C (s (74 + q)) (xlo (i := 1) hb_m) (xhi (i := 1) hn_m rfl) (ov_at (i := 1) rfl) (vp_in_nI (by omega) (by decide)) (by rw [nI_clamp (by omega)]) dX9_tapOf_90 ?_
            exact x_iret C Z rfl rfl (by first | (simp only [mTofR, q9kc, c6, c15, if_neg c23, if_neg c35, if_neg s2_0, if_pos s2_1, eq_self, Bool.false_eq_true, if_true, if_false]; done) | ((simp only [mTofR, q9kc, c6, c15, if_neg c23, if_neg c35, if_neg s2_0, if_pos s2_1, eq_self, Bool.false_eq_true, if_true, if_false]); rfl) | (simp [mTofR, q9kc, c6, c15, c23, c35, s2_0, s2_1]; done) | (simp [mTofR, q9kc, c6, c15, c23, c35, s2_0, s2_1]; rfl)) (by first | (simp only [mTofR, q9kc, c6, c15, if_neg c23, if_neg c35, if_neg s2_0, if_pos s2_1, eq_self, Bool.false_eq_true, if_true, if_false]; done) | ((simp only [mTofR, q9kc, c6, c15, if_neg c23, if_neg c35, if_neg s2_0, if_pos s2_1, eq_self, Bool.false_eq_true, if_true, if_false]); rfl) | (simp [mTofR, q9kc, c6, c15, c23, c35, s2_0, s2_1]; done) | (simp [mTofR, q9kc, c6, c15, c23, c35, s2_0, s2_1]; rfl)) dX9_tapOf_91
          rcases Decidable.em (w = 2) with s2_2 | s2_2
          · refine x_v (w := .int 2) (by rw [s2_2]) ?_
            refine x_tableIn C 92 dX9_tapOf_42 (by decide) (by decide) rfl rfl ?_
            refine x_aload_n C dX9_tapOf_92 0 rfl ?_
            refine x_iconst C 0 dX9_tapOf_93 rfl ?_
            refine x_iload_n C dX9_tapOf_94 1 rfl ?_
            refine x_cV1 C (c_X9_isLost E N m _ s su (nI n) tx ty re ca at_ to 0 q (by first | assumption | omega | decide) (by first | assumption | omega | decide) hb_m hn_m) v_X9_37 hN (xlo (i := 0) hb_m) (xhi (i := 0) hn_m rfl) (ov_at (i := 0) rfl) rfl rfl rfl rfl rfl dX9_tapOf_95 ?_
            refine x_tb_eq C 105 106 dX9_tapOf_98 rfl dX9_tapOf_101 dX9_tapOf_102 rfl dX9_tapOf_105 rfl ?_
            exact x_iret C Z rfl rfl (by first | (simp only [mTofR, q9kc, c6, c15, if_neg c23, if_neg c35, if_neg s2_0, if_neg s2_1, if_pos s2_2, eq_self, Bool.false_eq_true, if_true, if_false]; done) | ((simp only [mTofR, q9kc, c6, c15, if_neg c23, if_neg c35, if_neg s2_0, if_neg s2_1, if_pos s2_2, eq_self, Bool.false_eq_true, if_true, if_false]); rfl) | (simp [mTofR, q9kc, c6, c15, c23, c35, s2_0, s2_1, s2_2]; done) | (simp [mTofR, q9kc, c6, c15, c23, c35, s2_0, s2_1, s2_2]; rfl)) (by first | (simp only [mTofR, q9kc, c6, c15, if_neg c23, if_neg c35, if_neg s2_0, if_neg s2_1, if_pos s2_2, eq_self, Bool.false_eq_true, if_true, if_false]; done) | ((simp only [mTofR, q9kc, c6, c15, if_neg c23, if_neg c35, if_neg s2_0, if_neg s2_1, if_pos s2_2, eq_self, Bool.false_eq_true, if_true, if_false]); rfl) | (simp [mTofR, q9kc, c6, c15, c23, c35, s2_0, s2_1, s2_2]; done) | (simp [mTofR, q9kc, c6, c15, c23, c35, s2_0, s2_1, s2_2]; rfl)) dX9_tapOf_106
          rcases Decidable.em (w = 3) with s2_3 | s2_3
          · refine x_v (w := .int 3) (by rw [s2_3]) ?_
            refine x_tableIn C 107 dX9_tapOf_42 (by decide) (by decide) rfl rfl ?_
            obtain ⟨d, hd, hd1, hd2⟩ := hg.2.2 q (by omega) (Or.inr (by rw [sl0]; exact (hB q (Nat.not_le.mp (fun h => c23 ((nI_leI (a := 4) (b := q) (by omega) (by omega)).mpr h)))).resolve_left c35))
            refine x_aload_n C dX9_tapOf_107 0 rfl ?_
            refine x_iconst C 0 dX9_tapOf_108 rfl ?_
            refine x_iload_n C dX9_tapOf_109 1 rfl ?_
            refine x_cV1 C (c_X9_reads E N m _ s su (nI n) tx ty re ca at_ to 0 q d (by first | assumption | omega | decide) (by first | assumption | omega | decide) hd hd1 hd2 hb_m hn_m) v_X9_41 hN (xlo (i := 0) hb_m) (xhi (i := 0) hn_m rfl) (ov_at (i := 0) rfl) rfl rfl rfl rfl rfl dX9_tapOf_110 ?_
            exact x_iret C Z rfl rfl (by first | (simp only [mTofR, q9kc, c6, c15, if_neg c23, if_neg c35, if_neg s2_0, if_neg s2_1, if_neg s2_2, if_pos s2_3, eq_self, Bool.false_eq_true, if_true, if_false]; done) | ((simp only [mTofR, q9kc, c6, c15, if_neg c23, if_neg c35, if_neg s2_0, if_neg s2_1, if_neg s2_2, if_pos s2_3, eq_self, Bool.false_eq_true, if_true, if_false]); rfl) | (simp [mTofR, q9kc, c6, c15, c23, c35, s2_0, s2_1, s2_2, s2_3]; done) | (simp [mTofR, q9kc, c6, c15, c23, c35, s2_0, s2_1, s2_2, s2_3]; rfl)) (by first | (simp only [mTofR, q9kc, c6, c15, if_neg c23, if_neg c35, if_neg s2_0, if_neg s2_1, if_neg s2_2, if_pos s2_3, eq_self, Bool.false_eq_true, if_true, if_false]; done) | ((simp only [mTofR, q9kc, c6, c15, if_neg c23, if_neg c35, if_neg s2_0, if_neg s2_1, if_neg s2_2, if_pos s2_3, eq_self, Bool.false_eq_true, if_true, if_false]); rfl) | (simp [mTofR, q9kc, c6, c15, c23, c35, s2_0, s2_1, s2_2, s2_3]; done) | (simp [mTofR, q9kc, c6, c15, c23, c35, s2_0, s2_1, s2_2, s2_3]; rfl)) dX9_tapOf_113
          refine x_tableOut C 114 dX9_tapOf_42 (by have q0 := lv_neT (a := 0) s2_0 rfl; have q1 := lv_neT (a := 1) s2_1 rfl; have q2 := lv_neT (a := 2) s2_2 rfl; have q3 := lv_neT (a := 3) s2_3 rfl; omega) rfl ?_
          obtain ⟨d, hd, hd1, hd2⟩ := hg.2.2 q (by omega) (Or.inr (by rw [sl0]; exact (hB q (Nat.not_le.mp (fun h => c23 ((nI_leI (a := 4) (b := q) (by omega) (by omega)).mpr h)))).resolve_left c35))
          refine x_aload_n C dX9_tapOf_114 0 rfl ?_
          refine x_iconst C 0 dX9_tapOf_115 rfl ?_
          refine x_iload_n C dX9_tapOf_116 1 rfl ?_
          refine x_cV1 C (c_X9_share E N m _ s su (nI n) tx ty re ca at_ to 0 q d (by first | assumption | omega | decide) (by first | assumption | omega | decide) hd hd1 hd2 hb_m hn_m) v_X9_48 hN (xlo (i := 0) hb_m) (xhi (i := 0) hn_m rfl) (ov_at (i := 0) rfl) rfl rfl rfl rfl rfl dX9_tapOf_117 ?_
          exact x_iret C Z rfl rfl (by first | (simp only [mTofR, q9kc, c6, c15, if_neg c23, if_neg c35, if_neg s2_0, if_neg s2_1, if_neg s2_2, if_neg s2_3, eq_self, Bool.false_eq_true, if_true, if_false]; done) | ((simp only [mTofR, q9kc, c6, c15, if_neg c23, if_neg c35, if_neg s2_0, if_neg s2_1, if_neg s2_2, if_neg s2_3, eq_self, Bool.false_eq_true, if_true, if_false]); rfl) | (simp [mTofR, q9kc, c6, c15, c23, c35, s2_0, s2_1, s2_2, s2_3]; done) | (simp [mTofR, q9kc, c6, c15, c23, c35, s2_0, s2_1, s2_2, s2_3]; rfl)) (by first | (simp only [mTofR, q9kc, c6, c15, if_neg c23, if_neg c35, if_neg s2_0, if_neg s2_1, if_neg s2_2, if_neg s2_3, eq_self, Bool.false_eq_true, if_true, if_false]; done) | ((simp only [mTofR, q9kc, c6, c15, if_neg c23, if_neg c35, if_neg s2_0, if_neg s2_1, if_neg s2_2, if_neg s2_3, eq_self, Bool.false_eq_true, if_true, if_false]); rfl) | (simp [mTofR, q9kc, c6, c15, c23, c35, s2_0, s2_1, s2_2, s2_3]; done) | (simp [mTofR, q9kc, c6, c15, c23, c35, s2_0, s2_1, s2_2, s2_3]; rfl)) dX9_tapOf_120
        · refine x_ldc C (-1000004) m_641 dX9_tapOf_38 ?_
          exact x_iret C Z rfl rfl (by first | (simp only [mTofR, q9kc, c6, c15, if_neg c23, if_pos c35, eq_self, Bool.false_eq_true, if_true, if_false]; done) | ((simp only [mTofR, q9kc, c6, c15, if_neg c23, if_pos c35, eq_self, Bool.false_eq_true, if_true, if_false]); rfl) | (simp [mTofR, q9kc, c6, c15, c23, c35]; done) | (simp [mTofR, q9kc, c6, c15, c23, c35]; rfl)) (by first | (simp only [mTofR, q9kc, c6, c15, if_neg c23, if_pos c35, eq_self, Bool.false_eq_true, if_true, if_false]; done) | ((simp only [mTofR, q9kc, c6, c15, if_neg c23, if_pos c35, eq_self, Bool.false_eq_true, if_true, if_false]); rfl) | (simp [mTofR, q9kc, c6, c15, c23, c35]; done) | (simp [mTofR, q9kc, c6, c15, c23, c35]; rfl)) dX9_tapOf_40
    · refine x_ldc C (-1000001) m_584 dX9_tapOf_18 ?_
      exact x_iret C Z rfl rfl (by first | (simp only [mTofR, c6, c15, eq_self, Bool.false_eq_true, if_true, if_false]; done) | ((simp only [mTofR, c6, c15, eq_self, Bool.false_eq_true, if_true, if_false]); rfl) | (simp [mTofR, c6, c15]; done) | (simp [mTofR, c6, c15]; rfl)) (by first | (simp only [mTofR, c6, c15, eq_self, Bool.false_eq_true, if_true, if_false]; done) | ((simp only [mTofR, c6, c15, eq_self, Bool.false_eq_true, if_true, if_false]); rfl) | (simp [mTofR, c6, c15]; done) | (simp [mTofR, c6, c15]; rfl)) dX9_tapOf_20

set_option maxRecDepth 100000 in
set_option maxHeartbeats 4000000 in
theorem c_X9_wordOf (E : XE) (N m : Nat) (G : GW) (s : Nat → Int32) (su : Nat → Int64) (n : Nat) (tx : Nat → Int32) (ty re ca at_ : Int32) (to : Nat → Int32) (w : Int32) (hb_m : xB E ≤ m) (hn_m : m + 5 ≤ N) : MF E yX9_wordOf cX9_wordOf 2 (some .int) 1 22 0 0 [.ref m, .int w] N (ov m (mC E m s su (nI n) tx ty re ca at_ to) G) (some (.int (mWofR s w))) (ov m (mC E m s su (nI n) tx ty re ca at_ to) G) := by
  refine MF.mk RX9 rfl (by decide +kernel) rfl (fun K C Z hin hN => ?_)
  show XW E K 2 N 0 0 _ 0 [(0, .ref m), (1, .int w)] []
  refine x_iload_n C dX9_wordOf_0 1 rfl ?_
  refine x_iconst C 0 dX9_wordOf_1 rfl ?_
  refine x_bipush C 63 dX9_wordOf_2 rfl ?_
  refine x_cS1 C (c_X9_in E N _ w 0 63) v_X9_54 hN rfl rfl rfl rfl dX9_wordOf_4 ?_
  refine x_ifb_ne C 13 dX9_wordOf_7 rfl (fun c7 => ?_) (fun c7 => ?_)
  · obtain ⟨q, hk, rfl⟩ : ∃ q : Nat, q ≤ 63 ∧ w = nI q := ⟨_, (inR_k (by decide) (by decide) c7).2, (inR_k (n := 63) (by decide) (by decide) c7).1⟩
    have q9kc : (nI q).toNatClampNeg = q := nI_clamp (by omega)
    refine x_iload_n C dX9_wordOf_13 1 rfl ?_
    refine x_aload_n C dX9_wordOf_14 0 rfl ?_
    refine x_iconst C 0 dX9_wordOf_15 rfl ?_
    refine x_cV1 C (c_X9_length E N m _ s su (nI n) tx ty re ca at_ to 0 (by first | assumption | omega | decide) hb_m hn_m) v_X9_33 hN (xlo (i := 0) hb_m) (xhi (i := 0) hn_m rfl) (ov_at (i := 0) rfl) rfl rfl rfl rfl rfl dX9_wordOf_16 ?_
    refine x_icmp_ge C 31 dX9_wordOf_19 rfl (fun c19 => ?_) (fun c19 => ?_)
    · refine x_ldc C (-1000004) m_641 dX9_wordOf_31 ?_
      exact x_iret C Z rfl rfl (by first | (simp only [mWofR, q9kc, c7, if_pos c19, eq_self, Bool.false_eq_true, if_true, if_false]; done) | ((simp only [mWofR, q9kc, c7, if_pos c19, eq_self, Bool.false_eq_true, if_true, if_false]); rfl) | (simp [mWofR, q9kc, c7, c19]; done) | (simp [mWofR, q9kc, c7, c19]; rfl)) (by first | (simp only [mWofR, q9kc, c7, if_pos c19, eq_self, Bool.false_eq_true, if_true, if_false]; done) | ((simp only [mWofR, q9kc, c7, if_pos c19, eq_self, Bool.false_eq_true, if_true, if_false]); rfl) | (simp [mWofR, q9kc, c7, c19]; done) | (simp [mWofR, q9kc, c7, c19]; rfl)) dX9_wordOf_33
    · refine x_aload_n C dX9_wordOf_22 0 rfl ?_
      refine x_get C (xlo (i := 0) hb_m) (xhi (i := 0) hn_m rfl) (ov_at (i := 0) rfl) f_X9_7 rfl dX9_wordOf_23 ?_
      refine x_iload_n C dX9_wordOf_26 1 rfl ?_
      refine x_iald C (s (q)) (xlo (i := 1) hb_m) (xhi (i := 1) hn_m rfl) (ov_at (i := 1) rfl) (vp_in_nI (by omega) (by decide)) (by rw [nI_clamp (by omega)]) dX9_wordOf_27 ?_
      refine x_goto C 33 dX9_wordOf_28 rfl ?_
      exact x_iret C Z rfl rfl (by first | (simp only [mWofR, q9kc, c7, if_neg c19, eq_self, Bool.false_eq_true, if_true, if_false]; done) | ((simp only [mWofR, q9kc, c7, if_neg c19, eq_self, Bool.false_eq_true, if_true, if_false]); rfl) | (simp [mWofR, q9kc, c7, c19]; done) | (simp [mWofR, q9kc, c7, c19]; rfl)) (by first | (simp only [mWofR, q9kc, c7, if_neg c19, eq_self, Bool.false_eq_true, if_true, if_false]; done) | ((simp only [mWofR, q9kc, c7, if_neg c19, eq_self, Bool.false_eq_true, if_true, if_false]); rfl) | (simp [mWofR, q9kc, c7, c19]; done) | (simp [mWofR, q9kc, c7, c19]; rfl)) dX9_wordOf_33
  · refine x_ldc C (-1000001) m_584 dX9_wordOf_10 ?_
    exact x_iret C Z rfl rfl (by first | (simp only [mWofR, c7, eq_self, Bool.false_eq_true, if_true, if_false]; done) | ((simp only [mWofR, c7, eq_self, Bool.false_eq_true, if_true, if_false]); rfl) | (simp [mWofR, c7]; done) | (simp [mWofR, c7]; rfl)) (by first | (simp only [mWofR, c7, eq_self, Bool.false_eq_true, if_true, if_false]; done) | ((simp only [mWofR, c7, eq_self, Bool.false_eq_true, if_true, if_false]); rfl) | (simp [mWofR, c7]; done) | (simp [mWofR, c7]; rfl)) dX9_wordOf_12

set_option maxRecDepth 100000 in
set_option maxHeartbeats 4000000 in
theorem c_X9_outputOf (E : XE) (N m : Nat) (G : GW) (s : Nat → Int32) (su : Nat → Int64) (n : Nat) (tx : Nat → Int32) (ty re ca at_ : Int32) (to : Nat → Int32) (w : Int32) (no : Nat) (hno : s 97 = nI no) (hno2 : no ≤ 12) (hb_m : xB E ≤ m) (hn_m : m + 5 ≤ N) : MF E yX9_outputOf cX9_outputOf 2 (some .int) 0 0 0 0 [.ref m, .int w] N (ov m (mC E m s su (nI n) tx ty re ca at_ to) G) (some (.int (mOofR s w))) (ov m (mC E m s su (nI n) tx ty re ca at_ to) G) := by
  refine MF.mk RX9 rfl (by decide +kernel) rfl (fun K C Z hin hN => ?_)
  show XW E K 2 N 0 0 _ 0 [(0, .ref m), (1, .int w)] []
  refine x_iload_n C dX9_outputOf_0 1 rfl ?_
  refine x_if_ge C 9 dX9_outputOf_1 rfl (fun c1 => ?_) (fun c1 => ?_)
  · refine x_iload_n C dX9_outputOf_9 1 rfl ?_
    refine x_aload_n C dX9_outputOf_10 0 rfl ?_
    refine x_get C (xlo (i := 0) hb_m) (xhi (i := 0) hn_m rfl) (ov_at (i := 0) rfl) f_X9_7 rfl dX9_outputOf_11 ?_
    refine x_bipush C 97 dX9_outputOf_14 rfl ?_
    refine x_iald C (s 97) (xlo (i := 1) hb_m) (xhi (i := 1) hn_m rfl) (ov_at (i := 1) rfl) (vp_in_d rfl) rfl dX9_outputOf_16 ?_
    refine x_icmp_ge C 32 dX9_outputOf_17 rfl (fun c17 => ?_) (fun c17 => ?_)
    · refine x_ldc C (-1000004) m_641 dX9_outputOf_32 ?_
      exact x_iret C Z rfl rfl (by first | (simp only [mOofR, if_pos c1, if_pos c17, eq_self, Bool.false_eq_true, if_true, if_false]; done) | ((simp only [mOofR, if_pos c1, if_pos c17, eq_self, Bool.false_eq_true, if_true, if_false]); rfl) | (simp [mOofR, c1, c17]; done) | (simp [mOofR, c1, c17]; rfl)) (by first | (simp only [mOofR, if_pos c1, if_pos c17, eq_self, Bool.false_eq_true, if_true, if_false]; done) | ((simp only [mOofR, if_pos c1, if_pos c17, eq_self, Bool.false_eq_true, if_true, if_false]); rfl) | (simp [mOofR, c1, c17]; done) | (simp [mOofR, c1, c17]; rfl)) dX9_outputOf_34
    · obtain ⟨q, hq, rfl⟩ := nI_of (x := w) (fun z => by have h1 := Int32.lt_iff_toInt_lt.mp z; have h2 := Int32.le_iff_toInt_le.mp c1; omega)
      have hq2 : q < no := Nat.not_le.mp (fun h => c17 (by rw [hno]; exact (nI_leI (a := no) (b := q) (by omega) (by omega)).mpr h))
      have q9kc : (nI q).toNatClampNeg = q := nI_clamp (by omega)
      refine x_aload_n C dX9_outputOf_20 0 rfl ?_
      refine x_get C (xlo (i := 0) hb_m) (xhi (i := 0) hn_m rfl) (ov_at (i := 0) rfl) f_X9_7 rfl dX9_outputOf_21 ?_
      refine x_bipush C 85 dX9_outputOf_24 rfl ?_
      refine x_iload_n C dX9_outputOf_26 1 rfl ?_
      refine x_iadd C dX9_outputOf_27 ?_
      refine x_v (w := .int (nI (85 + q))) (congrArg Value.int (natAdd (a := 85) (b := q) (by omega))) ?_
      refine x_iald C (s (85 + q)) (xlo (i := 1) hb_m) (xhi (i := 1) hn_m rfl) (ov_at (i := 1) rfl) (vp_in_nI (by omega) (by decide)) (by rw [nI_clamp (by omega)]) dX9_outputOf_28 ?_
      refine x_goto C 34 dX9_outputOf_29 rfl ?_
      exact x_iret C Z rfl rfl (by first | (simp only [mOofR, q9kc, if_pos c1, if_neg c17, eq_self, Bool.false_eq_true, if_true, if_false]; done) | ((simp only [mOofR, q9kc, if_pos c1, if_neg c17, eq_self, Bool.false_eq_true, if_true, if_false]); rfl) | (simp [mOofR, q9kc, c1, c17]; done) | (simp [mOofR, q9kc, c1, c17]; rfl)) (by first | (simp only [mOofR, q9kc, if_pos c1, if_neg c17, eq_self, Bool.false_eq_true, if_true, if_false]; done) | ((simp only [mOofR, q9kc, if_pos c1, if_neg c17, eq_self, Bool.false_eq_true, if_true, if_false]); rfl) | (simp [mOofR, q9kc, c1, c17]; done) | (simp [mOofR, q9kc, c1, c17]; rfl)) dX9_outputOf_34
  · refine x_ldc C (-1000001) m_584 dX9_outputOf_4 ?_
    refine x_goto C 34 dX9_outputOf_6 rfl ?_
    exact x_iret C Z rfl rfl (by first | (simp only [mOofR, if_neg c1, eq_self, Bool.false_eq_true, if_true, if_false]; done) | ((simp only [mOofR, if_neg c1, eq_self, Bool.false_eq_true, if_true, if_false]); rfl) | (simp [mOofR, c1]; done) | (simp [mOofR, c1]; rfl)) (by first | (simp only [mOofR, if_neg c1, eq_self, Bool.false_eq_true, if_true, if_false]; done) | ((simp only [mOofR, if_neg c1, eq_self, Bool.false_eq_true, if_true, if_false]); rfl) | (simp [mOofR, c1]; done) | (simp [mOofR, c1]; rfl)) dX9_outputOf_34

set_option maxRecDepth 100000 in
set_option maxHeartbeats 4000000 in
theorem c_X9_silenced (E : XE) (N m : Nat) (G : GW) (s : Nat → Int32) (su : Nat → Int64) (n : Nat) (tx : Nat → Int32) (ty re ca at_ : Int32) (to : Nat → Int32) (hb_m : xB E ≤ m) (hn_m : m + 5 ≤ N) : MF E yX9_silenced cX9_silenced 2 none 1 23 0 0 [.ref m] N (ov m (mC E m s su (nI n) tx ty re ca at_ to) G) none (ov m (mC E m (mZer s) (mZu su) (nI n) tx ty re ca at_ to) G) := by
  refine MF.mk RX9 rfl (by decide +kernel) rfl (fun K C Z hin hN => ?_)
  show XW E K 2 N 0 0 _ 0 [(0, .ref m)] []
  refine x_aload_n C dX9_silenced_0 0 rfl ?_
  refine x_iconst C 0 dX9_silenced_1 rfl ?_
  refine x_iconst C 5 dX9_silenced_2 rfl ?_
  refine x_cV0 C (c_X9_copies E N m _ s su (nI n) tx ty re ca at_ to 0 5 (by first | assumption | omega | decide) (by first | assumption | omega | decide) hb_m hn_m) v_X9_24 hN (xlo (i := 0) hb_m) (xhi (i := 0) hn_m rfl) (ov_at (i := 0) rfl) rfl rfl rfl rfl rfl dX9_silenced_3 ?_
  refine x_iconst C 0 dX9_silenced_6 rfl ?_
  refine x_istore_n (L' := [(1, .int 0), (0, .ref m)]) C dX9_silenced_7 rfl rfl ?_
  refine x_perm (L' := [(0, .ref m), (1, .int 0)]) [1, 0] rfl ?_
  have lp8 : ∀ (d i : Nat), i + d = 64 → XW E K 2 N 0 0 (ov m (mC E m (zfA (mCp s 0 5) 500 i) (mCu su 0 5) (nI n) tx ty re ca at_ to) G) 8 [(0, .ref m), (1, .int (nI i))] [] := by
    intro d
    induction d with
    | zero =>
      intro i hd
      have q9i : 64 = i := by omega
      subst q9i
      refine x_iload_n C dX9_silenced_8 1 rfl ?_
      refine x_bipush C 64 dX9_silenced_9 rfl ?_
      refine x_icmp_ge C 31 dX9_silenced_11 rfl (fun _ => ?_) (fun c => absurd c (not_not_intro (nI_le (a := 64) (by omega) (by omega))))
      exact x_vret C Z rfl rfl rfl dX9_silenced_31
    | succ d ih =>
      intro i hd
      have hi : i < 64 := by omega
      refine x_iload_n C dX9_silenced_8 1 rfl ?_
      refine x_bipush C 64 dX9_silenced_9 rfl ?_
      refine x_icmp_ge C 31 dX9_silenced_11 rfl (fun c => absurd c (nI_ge (b := 64) (by omega) (by omega))) (fun _ => ?_)
      refine x_aload_n C dX9_silenced_14 0 rfl ?_
      refine x_get C (xlo (i := 0) hb_m) (xhi (i := 0) hn_m rfl) (ov_at (i := 0) rfl) f_X9_7 rfl dX9_silenced_15 ?_
      refine x_sipush C 500 dX9_silenced_18 rfl ?_
      refine x_iload_n C dX9_silenced_21 1 rfl ?_
      refine x_iadd C dX9_silenced_22 ?_
      refine x_v (w := .int (nI (500 + i))) (congrArg Value.int (natAdd (a := 500) (b := i) (by omega))) ?_
      refine x_iconst C 0 dX9_silenced_23 rfl ?_
      refine x_iast (G' := ov m (mC E m (upd (zfA (mCp s 0 5) 500 i) (500 + i) 0) (mCu su 0 5) (nI n) tx ty re ca at_ to) G) C (500 + i) (xlo (i := 1) hb_m) (xhi (i := 1) hn_m rfl) (ov_at (i := 1) rfl) (vp_in_nI (by omega) (by decide)) (nI_clamp (by omega)) (ov_set (i := 1) rfl rfl) dX9_silenced_24 ?_
      refine x_iinc (L' := [(1, .int ((nI i) + 1)), (0, .ref m)]) C ((nI i) + 1) dX9_silenced_25 1 rfl rfl rfl rfl ?_
      refine x_goto C 8 dX9_silenced_28 rfl ?_
      refine x_perm (L' := [(0, .ref m), (1, .int ((nI i) + 1))]) [1, 0] rfl ?_
      refine x_to (L' := [(0, .ref m), (1, .int (nI (i + 1)))]) (G' := ov m (mC E m (zfA (mCp s 0 5) 500 (i + 1)) (mCu su 0 5) (nI n) tx ty re ca at_ to) G) (by simp only [nI_succ]) (by rw [zfA_step]) rfl ?_
      exact ih (i + 1) (by omega)
  refine x_to (L' := [(0, .ref m), (1, .int (nI 0))]) (G' := ov m (mC E m (zfA (mCp s 0 5) 500 0) (mCu su 0 5) (nI n) tx ty re ca at_ to) G) rfl (by rw [zfA_0]) rfl ?_
  exact lp8 _ 0 (Nat.add_sub_cancel' (by omega))

set_option maxRecDepth 100000 in
set_option maxHeartbeats 4000000 in
theorem c_X9_echo (E : XE) (N m : Nat) (G : GW) (s : Nat → Int32) (su : Nat → Int64) (n : Nat) (tx : Nat → Int32) (ty re ca at_ : Int32) (to : Nat → Int32) (x a : Int32) (tk : Nat) (hg : gOk (sl s 0) tk) (hb_m : xB E ≤ m) (hn_m : m + 5 ≤ N) : MF E yX9_echo cX9_echo 5 (some .int) 5 116 0 0 [.ref m, .int x, .int a] N (ov m (mC E m s su (nI n) tx ty re ca at_ to) G) (some (.int (mEchR s su x a))) (ov m (mC E m ((mEchP s su x a).1) ((mEchP s su x a).2) (nI n) tx ty re ca at_ to) G) := by
  refine MF.mk RX9 rfl (by decide +kernel) rfl (fun K C Z hin hN => ?_)
  show XW E K 5 N 0 0 _ 0 [(0, .ref m), (1, .int x), (2, .int a)] []
  refine x_iload_n C dX9_echo_0 1 rfl ?_
  refine x_sipush C (-20000) dX9_echo_1 rfl ?_
  refine x_sipush C 20000 dX9_echo_4 rfl ?_
  refine x_cS1 C (c_X9_in E N _ x (-20000) 20000) v_X9_54 hN rfl rfl rfl rfl dX9_echo_7 ?_
  refine x_ifb_eq C 24 dX9_echo_10 rfl (fun c10 => ?_) (fun c10 => ?_)
  · refine x_ldc C (-1000001) m_584 dX9_echo_24 ?_
    exact x_iret C Z rfl rfl (by first | (simp only [mEchR, mEchP, c10, eq_self, Bool.false_eq_true, if_true, if_false]; done) | ((simp only [mEchR, mEchP, c10, eq_self, Bool.false_eq_true, if_true, if_false]); rfl) | (simp [mEchR, mEchP, c10]; done) | (simp [mEchR, mEchP, c10]; rfl)) (by first | (simp only [mEchR, mEchP, c10, eq_self, Bool.false_eq_true, if_true, if_false]; done) | ((simp only [mEchR, mEchP, c10, eq_self, Bool.false_eq_true, if_true, if_false]); rfl) | (simp [mEchR, mEchP, c10]; done) | (simp [mEchR, mEchP, c10]; rfl)) dX9_echo_26
  · refine x_iload_n C dX9_echo_13 2 rfl ?_
    refine x_iconst C 0 dX9_echo_14 rfl ?_
    refine x_sipush C 200 dX9_echo_15 rfl ?_
    refine x_cS1 C (c_X9_in E N _ a 0 200) v_X9_54 hN rfl rfl rfl rfl dX9_echo_18 ?_
    refine x_ifb_ne C 27 dX9_echo_21 rfl (fun c21 => ?_) (fun c21 => ?_)
    · obtain ⟨k, hk, rfl⟩ : ∃ k : Nat, k ≤ 200 ∧ a = nI k := ⟨_, (inR_k (by decide) (by decide) c21).2, (inR_k (n := 200) (by decide) (by decide) c21).1⟩
      have q9kc : (nI k).toNatClampNeg = k := nI_clamp (by omega)
      refine x_aload_n C dX9_echo_27 0 rfl ?_
      refine x_cV0 C (c_X9_silenced E N m _ s su n tx ty re ca at_ to hb_m hn_m) v_X9_95 hN (xlo (i := 0) hb_m) (xhi (i := 0) hn_m rfl) (ov_at (i := 0) rfl) rfl rfl rfl rfl rfl dX9_echo_28 ?_
      refine x_aload_n C dX9_echo_31 0 rfl ?_
      refine x_iconst C 5 dX9_echo_32 rfl ?_
      refine x_iload_n C dX9_echo_33 1 rfl ?_
      refine x_cV1 C (c2_X9_goes E N m _ (mZer s) (mZu su) (nI n) tx ty re ca at_ to 5 x tk (by first | assumption | omega | decide) (gOk_zer hg) hb_m hn_m) v_X9_58 hN (xlo (i := 0) hb_m) (xhi (i := 0) hn_m rfl) (ov_at (i := 0) rfl) rfl rfl rfl rfl rfl dX9_echo_34 ?_
      refine x_istore_n (L' := [(3, .int (gOut (sl (mZer s) 5) x)), (0, .ref m), (1, .int x), (2, .int (nI k))]) C dX9_echo_37 rfl rfl ?_
      refine x_iconst C 0 dX9_echo_38 rfl ?_
      refine x_istore (L' := [(4, .int 0), (3, .int (gOut (sl (mZer s) 5) x)), (0, .ref m), (1, .int x), (2, .int (nI k))]) C dX9_echo_39 rfl rfl ?_
      refine x_perm (L' := [(0, .ref m), (2, .int (nI k)), (3, .int (gOut (sl (mZer s) 5) x)), (4, .int 0)]) [2, 4, 1, 0] rfl ?_
      have lp41 : ∀ (d i : Nat), i + d = k → XW E K 5 N 0 0 (ov m (mC E m ((mEc (mZer s, mZu su) x i).1) ((mEc (mZer s, mZu su) x i).2) (nI n) tx ty re ca at_ to) G) 41 [(0, .ref m), (2, .int (nI k)), (3, .int (mEo (mZer s, mZu su) x i)), (4, .int (nI i))] [] := by
        intro d
        induction d with
        | zero =>
          intro i hd
          have q9i : k = i := by omega
          subst q9i
          refine x_iload C dX9_echo_41 3 rfl ?_
          refine x_iload_n C dX9_echo_43 1 rfl ?_
          refine x_icmp_ge C 60 dX9_echo_44 rfl (fun _ => ?_) (fun c => absurd c (not_not_intro (nI_le (by omega) (by omega))))
          refine x_iload_n C dX9_echo_60 2 rfl ?_
          exact x_iret C Z rfl rfl (by first | (simp only [mEchR, mEchP, q9kc, c10, c21, eq_self, Bool.false_eq_true, if_true, if_false]; done) | ((simp only [mEchR, mEchP, q9kc, c10, c21, eq_self, Bool.false_eq_true, if_true, if_false]); rfl) | (simp [mEchR, mEchP, q9kc, c10, c21]; done) | (simp [mEchR, mEchP, q9kc, c10, c21]; rfl)) (by first | (simp only [mEchR, mEchP, q9kc, c10, c21, eq_self, Bool.false_eq_true, if_true, if_false]; done) | ((simp only [mEchR, mEchP, q9kc, c10, c21, eq_self, Bool.false_eq_true, if_true, if_false]); rfl) | (simp [mEchR, mEchP, q9kc, c10, c21]; done) | (simp [mEchR, mEchP, q9kc, c10, c21]; rfl)) dX9_echo_61
        | succ d ih =>
          intro i hd
          have hi : i < k := by omega
          refine x_iload C dX9_echo_41 3 rfl ?_
          refine x_iload_n C dX9_echo_43 1 rfl ?_
          refine x_icmp_ge C 60 dX9_echo_44 rfl (fun c => absurd c (nI_ge (by omega) (by omega))) (fun _ => ?_)
          refine x_aload_n C dX9_echo_47 0 rfl ?_
          refine x_iconst C 5 dX9_echo_48 rfl ?_
          refine x_iconst C 0 dX9_echo_49 rfl ?_
          refine x_cV1 C (c2_X9_goes E N m _ ((mEc (mZer s, mZu su) x i).1) ((mEc (mZer s, mZu su) x i).2) (nI n) tx ty re ca at_ to 5 0 tk (by first | assumption | omega | decide) (mEc_ok (p := (mZer s, mZu su)) (gOk_zer hg) x i) hb_m hn_m) v_X9_58 hN (xlo (i := 0) hb_m) (xhi (i := 0) hn_m rfl) (ov_at (i := 0) rfl) rfl rfl rfl rfl rfl dX9_echo_50 ?_
          refine x_istore_n (L' := [(3, .int (gOut (sl ((mEc (mZer s, mZu su) x i).1) 5) 0)), (0, .ref m), (2, .int (nI k)), (4, .int (nI i))]) C dX9_echo_53 rfl rfl ?_
          refine x_iinc (L' := [(4, .int ((nI i) + 1)), (3, .int (gOut (sl ((mEc (mZer s, mZu su) x i).1) 5) 0)), (0, .ref m), (2, .int (nI k))]) C ((nI i) + 1) dX9_echo_54 3 rfl rfl rfl rfl ?_
          refine x_goto C 41 dX9_echo_57 rfl ?_
          refine x_perm (L' := [(0, .ref m), (2, .int (nI k)), (3, .int (gOut (sl ((mEc (mZer s, mZu su) x i).1) 5) 0)), (4, .int ((nI i) + 1))]) [2, 3, 1, 0] rfl ?_
          refine x_to (L' := [(0, .ref m), (2, .int (nI k)), (3, .int (mEo (mZer s, mZu su) x (i + 1))), (4, .int (nI (i + 1)))]) (G' := ov m (mC E m ((mEc (mZer s, mZu su) x (i + 1)).1) ((mEc (mZer s, mZu su) x (i + 1)).2) (nI n) tx ty re ca at_ to) G) (by simp only [nI_succ, mEo]; first | done | rfl) rfl rfl ?_
          exact ih (i + 1) (by omega)
      refine x_to (L' := [(0, .ref m), (2, .int (nI k)), (3, .int (mEo (mZer s, mZu su) x 0)), (4, .int (nI 0))]) (G' := ov m (mC E m ((mEc (mZer s, mZu su) x 0).1) ((mEc (mZer s, mZu su) x 0).2) (nI n) tx ty re ca at_ to) G) rfl rfl rfl ?_
      exact lp41 _ 0 (Nat.add_sub_cancel' (by omega))
    · refine x_ldc C (-1000001) m_584 dX9_echo_24 ?_
      exact x_iret C Z rfl rfl (by first | (simp only [mEchR, mEchP, c10, c21, eq_self, Bool.false_eq_true, if_true, if_false]; done) | ((simp only [mEchR, mEchP, c10, c21, eq_self, Bool.false_eq_true, if_true, if_false]); rfl) | (simp [mEchR, mEchP, c10, c21]; done) | (simp [mEchR, mEchP, c10, c21]; rfl)) (by first | (simp only [mEchR, mEchP, c10, c21, eq_self, Bool.false_eq_true, if_true, if_false]; done) | ((simp only [mEchR, mEchP, c10, c21, eq_self, Bool.false_eq_true, if_true, if_false]); rfl) | (simp [mEchR, mEchP, c10, c21]; done) | (simp [mEchR, mEchP, c10, c21]; rfl)) dX9_echo_26

set_option maxRecDepth 100000 in
set_option maxHeartbeats 4000000 in
theorem c_X9_quietAfter (E : XE) (N m : Nat) (G : GW) (s : Nat → Int32) (su : Nat → Int64) (n : Nat) (tx : Nat → Int32) (ty re ca at_ : Int32) (to : Nat → Int32) (a : Int32) (tk : Nat) (hg : gOk (sl s 0) tk) (hb_m : xB E ≤ m) (hn_m : m + 5 ≤ N) : MF E yX9_quietAfter cX9_quietAfter 3 (some .int) 5 116 0 0 [.ref m, .int a] N (ov m (mC E m s su (nI n) tx ty re ca at_ to) G) (some (.int (mQuaR s su tk a))) (ov m (mC E m ((mQuaP s su tk a).1) ((mQuaP s su tk a).2) (nI n) tx ty re ca at_ to) G) := by
  refine MF.mk RX9 rfl (by decide +kernel) rfl (fun K C Z hin hN => ?_)
  show XW E K 3 N 0 0 _ 0 [(0, .ref m), (1, .int a)] []
  refine x_iload_n C dX9_quietAfter_0 1 rfl ?_
  refine x_iconst C 0 dX9_quietAfter_1 rfl ?_
  refine x_sipush C 20000 dX9_quietAfter_2 rfl ?_
  refine x_cS1 C (c_X9_in E N _ a 0 20000) v_X9_54 hN rfl rfl rfl rfl dX9_quietAfter_5 ?_
  refine x_ifb_ne C 14 dX9_quietAfter_8 rfl (fun c8 => ?_) (fun c8 => ?_)
  · refine x_aload_n C dX9_quietAfter_14 0 rfl ?_
    refine x_iconst C 0 dX9_quietAfter_15 rfl ?_
    refine x_iconst C 5 dX9_quietAfter_16 rfl ?_
    refine x_cV0 C (c_X9_copies E N m _ s su (nI n) tx ty re ca at_ to 0 5 (by first | assumption | omega | decide) (by first | assumption | omega | decide) hb_m hn_m) v_X9_24 hN (xlo (i := 0) hb_m) (xhi (i := 0) hn_m rfl) (ov_at (i := 0) rfl) rfl rfl rfl rfl rfl dX9_quietAfter_17 ?_
    refine x_iconst C 0 dX9_quietAfter_20 rfl ?_
    refine x_istore_n (L' := [(2, .int 0), (0, .ref m), (1, .int a)]) C dX9_quietAfter_21 rfl rfl ?_
    refine x_perm (L' := [(0, .ref m), (1, .int a), (2, .int 0)]) [1, 2, 0] rfl ?_
    have lp22_1 : ∀ (d i : Nat) (s1 : Nat → Int32) (u1 : Nat → Int64), i + d = 501 → mqRun a (64 - tk) d i (s1, u1) = mqAll s su tk a ∧ gOk (sl s1 5) tk → XW E K 3 N 0 0 (ov m (mC E m s1 u1 (nI n) tx ty re ca at_ to) G) 22 [(0, .ref m), (1, .int a), (2, .int (nI i))] [] := by
      intro d
      induction d with
      | zero =>
        intro i s1 u1 hd hq
        have hi : i = 501 := by omega
        refine x_iload_n C dX9_quietAfter_22 2 rfl ?_
        refine x_sipush C 500 dX9_quietAfter_23 rfl ?_
        refine x_icmp_gt C 53 dX9_quietAfter_26 rfl (fun _ => ?_) (fun c => absurd c (sg501 (by omega)))
        have q9f : mqAll s su tk a = (-1000004, (s1, u1)) := by rw [← hq.1]; simp [mqRun, c8]
        refine x_ldc C (-1000004) m_641 dX9_quietAfter_53 ?_
        exact x_iret C Z rfl rfl (by first | (simp only [mQuaR, mQuaP, q9f, c8, eq_self, Bool.false_eq_true, if_true, if_false]; done) | ((simp only [mQuaR, mQuaP, q9f, c8, eq_self, Bool.false_eq_true, if_true, if_false]); rfl) | (simp [mQuaR, mQuaP, q9f, c8]; done) | (simp [mQuaR, mQuaP, q9f, c8]; rfl)) (by first | (simp only [mQuaR, mQuaP, q9f, c8, eq_self, Bool.false_eq_true, if_true, if_false]; done) | ((simp only [mQuaR, mQuaP, q9f, c8, eq_self, Bool.false_eq_true, if_true, if_false]); rfl) | (simp [mQuaR, mQuaP, q9f, c8]; done) | (simp [mQuaR, mQuaP, q9f, c8]; rfl)) dX9_quietAfter_55
      | succ d ih =>
        intro i s1 u1 hd hq
        have hi : i < 501 := by omega
        refine x_iload_n C dX9_quietAfter_22 2 rfl ?_
        refine x_sipush C 500 dX9_quietAfter_23 rfl ?_
        refine x_icmp_gt C 53 dX9_quietAfter_26 rfl (fun c => absurd c (nI_nlt (a := 500) (by omega) (by omega))) (fun _ => ?_)
        refine x_aload_n C dX9_quietAfter_29 0 rfl ?_
        refine x_iconst C 5 dX9_quietAfter_30 rfl ?_
        refine x_cV1 C (c_X9_greatestWord E N m _ s1 u1 (nI n) tx ty re ca at_ to 5 tk (by first | assumption | omega | decide) hq.2.1 hq.2.2.1 hb_m hn_m) v_X9_98 hN (xlo (i := 0) hb_m) (xhi (i := 0) hn_m rfl) (ov_at (i := 0) rfl) rfl rfl rfl rfl rfl dX9_quietAfter_31 ?_
        refine x_iload_n C dX9_quietAfter_34 1 rfl ?_
        refine x_icmp_gt C 40 dX9_quietAfter_35 rfl (fun c35 => ?_) (fun c35 => ?_)
        · refine x_aload_n C dX9_quietAfter_40 0 rfl ?_
          refine x_iconst C 5 dX9_quietAfter_41 rfl ?_
          refine x_iconst C 0 dX9_quietAfter_42 rfl ?_
          refine x_cV1 C (c2_X9_goes E N m _ s1 u1 (nI n) tx ty re ca at_ to 5 0 tk (by first | assumption | omega | decide) hq.2 hb_m hn_m) v_X9_58 hN (xlo (i := 0) hb_m) (xhi (i := 0) hn_m rfl) (ov_at (i := 0) rfl) rfl rfl rfl rfl rfl dX9_quietAfter_43 ?_
          refine x_pop C dX9_quietAfter_46 rfl ?_
          refine x_iinc (L' := [(2, .int ((nI i) + 1)), (0, .ref m), (1, .int a)]) C ((nI i) + 1) dX9_quietAfter_47 2 rfl rfl rfl rfl ?_
          refine x_goto C 22 dX9_quietAfter_50 rfl ?_
          refine x_perm (L' := [(0, .ref m), (1, .int a), (2, .int ((nI i) + 1))]) [1, 2, 0] rfl ?_
          refine x_to (L' := [(0, .ref m), (1, .int a), (2, .int (nI (i + 1)))]) (G' := ov m (mC E m (gS s1 5 0) (gSu u1 s1 5 0) (nI n) tx ty re ca at_ to) G) (by simp only [nI_succ]) rfl rfl ?_
          exact ih (i + 1) (gS s1 5 0) (gSu u1 s1 5 0) (by omega) ⟨by rw [← hq.1]; simp only [mqRun, if_neg (Int32.not_le.mpr c35)]; first | done | rfl, gOk_gS 0 hq.2⟩
        · have q9f : mqAll s su tk a = (nI i, (s1, u1)) := by rw [← hq.1]; simp [mqRun, c8, c35]
          refine x_iload_n C dX9_quietAfter_38 2 rfl ?_
          exact x_iret C Z rfl rfl (by first | (simp only [mQuaR, mQuaP, q9f, c8, if_neg c35, eq_self, Bool.false_eq_true, if_true, if_false]; done) | ((simp only [mQuaR, mQuaP, q9f, c8, if_neg c35, eq_self, Bool.false_eq_true, if_true, if_false]); rfl) | (simp [mQuaR, mQuaP, q9f, c8, c35]; done) | (simp [mQuaR, mQuaP, q9f, c8, c35]; rfl)) (by first | (simp only [mQuaR, mQuaP, q9f, c8, if_neg c35, eq_self, Bool.false_eq_true, if_true, if_false]; done) | ((simp only [mQuaR, mQuaP, q9f, c8, if_neg c35, eq_self, Bool.false_eq_true, if_true, if_false]); rfl) | (simp [mQuaR, mQuaP, q9f, c8, c35]; done) | (simp [mQuaR, mQuaP, q9f, c8, c35]; rfl)) dX9_quietAfter_39
    refine x_to (L' := [(0, .ref m), (1, .int a), (2, .int (nI 0))]) (G' := ov m (mC E m (mCp s 0 5) (mCu su 0 5) (nI n) tx ty re ca at_ to) G) rfl rfl rfl ?_
    exact lp22_1 _ 0 (mCp s 0 5) (mCu su 0 5) (Nat.add_sub_cancel' (by omega)) ⟨rfl, gOk_c5 hg⟩
  · refine x_ldc C (-1000001) m_584 dX9_quietAfter_11 ?_
    exact x_iret C Z rfl rfl (by first | (simp only [mQuaR, mQuaP, c8, eq_self, Bool.false_eq_true, if_true, if_false]; done) | ((simp only [mQuaR, mQuaP, c8, eq_self, Bool.false_eq_true, if_true, if_false]); rfl) | (simp [mQuaR, mQuaP, c8]; done) | (simp [mQuaR, mQuaP, c8]; rfl)) (by first | (simp only [mQuaR, mQuaP, c8, eq_self, Bool.false_eq_true, if_true, if_false]; done) | ((simp only [mQuaR, mQuaP, c8, eq_self, Bool.false_eq_true, if_true, if_false]); rfl) | (simp [mQuaR, mQuaP, c8]; done) | (simp [mQuaR, mQuaP, c8]; rfl)) dX9_quietAfter_13

set_option maxRecDepth 100000 in
set_option maxHeartbeats 4000000 in
theorem c_X9_loudest (E : XE) (N m : Nat) (G : GW) (s : Nat → Int32) (su : Nat → Int64) (n : Nat) (tx : Nat → Int32) (ty re ca at_ : Int32) (to : Nat → Int32) (hb_m : xB E ≤ m) (hn_m : m + 5 ≤ N) : MF E yX9_loudest cX9_loudest 3 (some .int) 2 43 0 0 [.ref m] N (ov m (mC E m s su (nI n) tx ty re ca at_ to) G) (some (.int (tapS (mLd s) 4))) (ov m (mC E m s su (nI n) tx ty re ca at_ to) G) := by
  refine MF.mk RX9 rfl (by decide +kernel) rfl (fun K C Z hin hN => ?_)
  show XW E K 3 N 0 0 _ 0 [(0, .ref m)] []
  refine x_iconst C 0 dX9_loudest_0 rfl ?_
  refine x_istore_n (L' := [(1, .int 0), (0, .ref m)]) C dX9_loudest_1 rfl rfl ?_
  refine x_iconst C 0 dX9_loudest_2 rfl ?_
  refine x_istore_n (L' := [(2, .int 0), (1, .int 0), (0, .ref m)]) C dX9_loudest_3 rfl rfl ?_
  refine x_perm (L' := [(0, .ref m), (1, .int 0), (2, .int 0)]) [2, 1, 0] rfl ?_
  have lp4 : ∀ (d i : Nat), i + d = 4 → XW E K 3 N 0 0 (ov m (mC E m s su (nI n) tx ty re ca at_ to) G) 4 [(0, .ref m), (1, .int (tapS (mLd s) i)), (2, .int (nI i))] [] := by
    intro d
    induction d with
    | zero =>
      intro i hd
      have q9i : 4 = i := by omega
      subst q9i
      refine x_iload_n C dX9_loudest_4 2 rfl ?_
      refine x_iconst C 4 dX9_loudest_5 rfl ?_
      refine x_icmp_ge C 68 dX9_loudest_6 rfl (fun _ => ?_) (fun c => absurd c (not_not_intro (nI_le (a := 4) (by omega) (by omega))))
      refine x_iload_n C dX9_loudest_68 1 rfl ?_
      exact x_iret C Z rfl rfl rfl rfl dX9_loudest_69
    | succ d ih =>
      intro i hd
      have hi : i < 4 := by omega
      refine x_iload_n C dX9_loudest_4 2 rfl ?_
      refine x_iconst C 4 dX9_loudest_5 rfl ?_
      refine x_icmp_ge C 68 dX9_loudest_6 rfl (fun c => absurd c (nI_ge (b := 4) (by omega) (by omega))) (fun _ => ?_)
      refine x_iload_n C dX9_loudest_9 1 rfl ?_
      refine x_aload_n C dX9_loudest_10 0 rfl ?_
      refine x_get C (xlo (i := 0) hb_m) (xhi (i := 0) hn_m rfl) (ov_at (i := 0) rfl) f_X9_7 rfl dX9_loudest_11 ?_
      refine x_bipush C 65 dX9_loudest_14 rfl ?_
      refine x_iload_n C dX9_loudest_16 2 rfl ?_
      refine x_iadd C dX9_loudest_17 ?_
      refine x_v (w := .int (nI (65 + i))) (congrArg Value.int (natAdd (a := 65) (b := i) (by omega))) ?_
      refine x_iald C (s (65 + i)) (xlo (i := 1) hb_m) (xhi (i := 1) hn_m rfl) (ov_at (i := 1) rfl) (vp_in_nI (by omega) (by decide)) (by rw [nI_clamp (by omega)]) dX9_loudest_18 ?_
      refine x_iconst C 1 dX9_loudest_19 rfl ?_
      refine x_icmp_ne C 59 dX9_loudest_20 rfl (fun c20 => ?_) (fun c20 => ?_)
      · refine x_iconst C 0 dX9_loudest_59 rfl ?_
        refine x_iadd C dX9_loudest_60 ?_
        refine x_istore_n (L' := [(1, .int ((tapS (mLd s) i) + 0)), (0, .ref m), (2, .int (nI i))]) C dX9_loudest_61 rfl rfl ?_
        refine x_iinc (L' := [(2, .int ((nI i) + 1)), (1, .int ((tapS (mLd s) i) + 0)), (0, .ref m)]) C ((nI i) + 1) dX9_loudest_62 2 rfl rfl rfl rfl ?_
        refine x_goto C 4 dX9_loudest_65 rfl ?_
        refine x_perm (L' := [(0, .ref m), (1, .int ((tapS (mLd s) i) + 0)), (2, .int ((nI i) + 1))]) [2, 1, 0] rfl ?_
        refine x_to (L' := [(0, .ref m), (1, .int (tapS (mLd s) (i + 1))), (2, .int (nI (i + 1)))]) (G' := ov m (mC E m s su (nI n) tx ty re ca at_ to) G) (by simp only [nI_succ, tapS, mLd, if_neg c20, eq_self, Bool.false_eq_true, if_true, if_false]; first | done | rfl) rfl rfl ?_
        exact ih (i + 1) (by omega)
      · refine x_aload_n C dX9_loudest_23 0 rfl ?_
        refine x_iconst C 0 dX9_loudest_24 rfl ?_
        refine x_iload_n C dX9_loudest_25 2 rfl ?_
        refine x_cV1 C (c_X9_isLost E N m _ s su (nI n) tx ty re ca at_ to 0 i (by first | assumption | omega | decide) (by first | assumption | omega | decide) hb_m hn_m) v_X9_37 hN (xlo (i := 0) hb_m) (xhi (i := 0) hn_m rfl) (ov_at (i := 0) rfl) rfl rfl rfl rfl rfl dX9_loudest_26 ?_
        refine x_ifb_ne C 59 dX9_loudest_29 rfl (fun c29 => ?_) (fun c29 => ?_)
        · refine x_iconst C 0 dX9_loudest_59 rfl ?_
          refine x_iadd C dX9_loudest_60 ?_
          refine x_istore_n (L' := [(1, .int ((tapS (mLd s) i) + 0)), (0, .ref m), (2, .int (nI i))]) C dX9_loudest_61 rfl rfl ?_
          refine x_iinc (L' := [(2, .int ((nI i) + 1)), (1, .int ((tapS (mLd s) i) + 0)), (0, .ref m)]) C ((nI i) + 1) dX9_loudest_62 2 rfl rfl rfl rfl ?_
          refine x_goto C 4 dX9_loudest_65 rfl ?_
          refine x_perm (L' := [(0, .ref m), (1, .int ((tapS (mLd s) i) + 0)), (2, .int ((nI i) + 1))]) [2, 1, 0] rfl ?_
          refine x_to (L' := [(0, .ref m), (1, .int (tapS (mLd s) (i + 1))), (2, .int (nI (i + 1)))]) (G' := ov m (mC E m s su (nI n) tx ty re ca at_ to) G) (by simp only [nI_succ, tapS, mLd, if_pos c20, c29, eq_self, Bool.false_eq_true, if_true, if_false]; first | done | rfl) rfl rfl ?_
          exact ih (i + 1) (by omega)
        · refine x_aload_n C dX9_loudest_32 0 rfl ?_
          refine x_get C (xlo (i := 0) hb_m) (xhi (i := 0) hn_m rfl) (ov_at (i := 0) rfl) f_X9_7 rfl dX9_loudest_33 ?_
          refine x_bipush C 74 dX9_loudest_36 rfl ?_
          refine x_iload_n C dX9_loudest_38 2 rfl ?_
          refine x_iadd C dX9_loudest_39 ?_
          refine x_v (w := .int (nI (74 + i))) (congrArg Value.int (natAdd (a := 74) (b := i) (by omega))) ?_
          refine x_iald C (s (74 + i)) (xlo (i := 1) hb_m) (xhi (i := 1) hn_m rfl) (ov_at (i := 1) rfl) (vp_in_nI (by omega) (by decide)) (by rw [nI_clamp (by omega)]) dX9_loudest_40 ?_
          refine x_cS1 C (c_X9_amount E N _ (s (74 + i))) v_X9_45 hN rfl rfl rfl rfl dX9_loudest_41 ?_
          refine x_aload_n C dX9_loudest_44 0 rfl ?_
          refine x_get C (xlo (i := 0) hb_m) (xhi (i := 0) hn_m rfl) (ov_at (i := 0) rfl) f_X9_7 rfl dX9_loudest_45 ?_
          refine x_bipush C 79 dX9_loudest_48 rfl ?_
          refine x_iald C (s 79) (xlo (i := 1) hb_m) (xhi (i := 1) hn_m rfl) (ov_at (i := 1) rfl) (vp_in_d rfl) rfl dX9_loudest_50 ?_
          refine x_imul C dX9_loudest_51 ?_
          refine x_sipush C 1000 dX9_loudest_52 rfl ?_
          refine x_idiv C dX9_loudest_55 (by decide) ?_
          refine x_goto C 60 dX9_loudest_56 rfl ?_
          refine x_iadd C dX9_loudest_60 ?_
          refine x_topi (fun z1 ez1 => ?_)
          refine x_istore_n (L' := [(1, .int z1), (0, .ref m), (2, .int (nI i))]) C dX9_loudest_61 rfl rfl ?_
          refine x_iinc (L' := [(2, .int ((nI i) + 1)), (1, .int z1), (0, .ref m)]) C ((nI i) + 1) dX9_loudest_62 2 rfl rfl rfl rfl ?_
          refine x_goto C 4 dX9_loudest_65 rfl ?_
          refine x_perm (L' := [(0, .ref m), (1, .int z1), (2, .int ((nI i) + 1))]) [2, 1, 0] rfl ?_
          subst ez1
          refine x_to (L' := [(0, .ref m), (1, .int (tapS (mLd s) (i + 1))), (2, .int (nI (i + 1)))]) (G' := ov m (mC E m s su (nI n) tx ty re ca at_ to) G) (by simp only [nI_succ, tapS, mLd, if_pos c20, c29, eq_self, Bool.false_eq_true, if_true, if_false]; first | done | rfl) rfl rfl ?_
          exact ih (i + 1) (by omega)
  refine x_to (L' := [(0, .ref m), (1, .int (tapS (mLd s) 0)), (2, .int (nI 0))]) (G' := ov m (mC E m s su (nI n) tx ty re ca at_ to) G) rfl rfl rfl ?_
  exact lp4 _ 0 (Nat.add_sub_cancel' (by omega))

set_option maxRecDepth 100000 in
set_option maxHeartbeats 4000000 in
theorem c_X9_taps (E : XE) (N m : Nat) (G : GW) (s : Nat → Int32) (su : Nat → Int64) (n : Nat) (tx : Nat → Int32) (ty re ca at_ : Int32) (to : Nat → Int32) (z : Int32) (hb_m : xB E ≤ m) (hn_m : m + 5 ≤ N) : MF E yX9_taps cX9_taps 4 (some .int) 2 43 0 0 [.ref m, .int z] N (ov m (mC E m s su (nI n) tx ty re ca at_ to) G) (some (.int (tapS (mTa s z) 4))) (ov m (mC E m s su (nI n) tx ty re ca at_ to) G) := by
  refine MF.mk RX9 rfl (by decide +kernel) rfl (fun K C Z hin hN => ?_)
  show XW E K 4 N 0 0 _ 0 [(0, .ref m), (1, .int z)] []
  refine x_iconst C 0 dX9_taps_0 rfl ?_
  refine x_istore_n (L' := [(2, .int 0), (0, .ref m), (1, .int z)]) C dX9_taps_1 rfl rfl ?_
  refine x_iconst C 0 dX9_taps_2 rfl ?_
  refine x_istore_n (L' := [(3, .int 0), (2, .int 0), (0, .ref m), (1, .int z)]) C dX9_taps_3 rfl rfl ?_
  refine x_perm (L' := [(0, .ref m), (1, .int z), (2, .int 0), (3, .int 0)]) [2, 3, 1, 0] rfl ?_
  have lp4 : ∀ (d i : Nat), i + d = 4 → XW E K 4 N 0 0 (ov m (mC E m s su (nI n) tx ty re ca at_ to) G) 4 [(0, .ref m), (1, .int z), (2, .int (tapS (mTa s z) i)), (3, .int (nI i))] [] := by
    intro d
    induction d with
    | zero =>
      intro i hd
      have q9i : 4 = i := by omega
      subst q9i
      refine x_iload_n C dX9_taps_4 3 rfl ?_
      refine x_iconst C 4 dX9_taps_5 rfl ?_
      refine x_icmp_ge C 49 dX9_taps_6 rfl (fun _ => ?_) (fun c => absurd c (not_not_intro (nI_le (a := 4) (by omega) (by omega))))
      refine x_iload_n C dX9_taps_49 2 rfl ?_
      exact x_iret C Z rfl rfl rfl rfl dX9_taps_50
    | succ d ih =>
      intro i hd
      have hi : i < 4 := by omega
      refine x_iload_n C dX9_taps_4 3 rfl ?_
      refine x_iconst C 4 dX9_taps_5 rfl ?_
      refine x_icmp_ge C 49 dX9_taps_6 rfl (fun c => absurd c (nI_ge (b := 4) (by omega) (by omega))) (fun _ => ?_)
      refine x_iload_n C dX9_taps_9 2 rfl ?_
      refine x_aload_n C dX9_taps_10 0 rfl ?_
      refine x_get C (xlo (i := 0) hb_m) (xhi (i := 0) hn_m rfl) (ov_at (i := 0) rfl) f_X9_7 rfl dX9_taps_11 ?_
      refine x_bipush C 65 dX9_taps_14 rfl ?_
      refine x_iload_n C dX9_taps_16 3 rfl ?_
      refine x_iadd C dX9_taps_17 ?_
      refine x_v (w := .int (nI (65 + i))) (congrArg Value.int (natAdd (a := 65) (b := i) (by omega))) ?_
      refine x_iald C (s (65 + i)) (xlo (i := 1) hb_m) (xhi (i := 1) hn_m rfl) (ov_at (i := 1) rfl) (vp_in_nI (by omega) (by decide)) (by rw [nI_clamp (by omega)]) dX9_taps_18 ?_
      refine x_iconst C 1 dX9_taps_19 rfl ?_
      refine x_icmp_ne C 40 dX9_taps_20 rfl (fun c20 => ?_) (fun c20 => ?_)
      · refine x_iconst C 0 dX9_taps_40 rfl ?_
        refine x_iadd C dX9_taps_41 ?_
        refine x_istore_n (L' := [(2, .int ((tapS (mTa s z) i) + 0)), (0, .ref m), (1, .int z), (3, .int (nI i))]) C dX9_taps_42 rfl rfl ?_
        refine x_iinc (L' := [(3, .int ((nI i) + 1)), (2, .int ((tapS (mTa s z) i) + 0)), (0, .ref m), (1, .int z)]) C ((nI i) + 1) dX9_taps_43 3 rfl rfl rfl rfl ?_
        refine x_goto C 4 dX9_taps_46 rfl ?_
        refine x_perm (L' := [(0, .ref m), (1, .int z), (2, .int ((tapS (mTa s z) i) + 0)), (3, .int ((nI i) + 1))]) [2, 3, 1, 0] rfl ?_
        refine x_to (L' := [(0, .ref m), (1, .int z), (2, .int (tapS (mTa s z) (i + 1))), (3, .int (nI (i + 1)))]) (G' := ov m (mC E m s su (nI n) tx ty re ca at_ to) G) (by simp only [nI_succ, tapS, mTa, if_neg c20, eq_self, Bool.false_eq_true, if_true, if_false]; first | done | rfl | simp [bI]) rfl rfl ?_
        exact ih (i + 1) (by omega)
      · refine x_iload_n C dX9_taps_23 1 rfl ?_
        refine x_if_eq C 36 dX9_taps_24 rfl (fun c24 => ?_) (fun c24 => ?_)
        · refine x_iconst C 1 dX9_taps_36 rfl ?_
          refine x_goto C 41 dX9_taps_37 rfl ?_
          refine x_iadd C dX9_taps_41 ?_
          refine x_istore_n (L' := [(2, .int ((tapS (mTa s z) i) + 1)), (0, .ref m), (1, .int z), (3, .int (nI i))]) C dX9_taps_42 rfl rfl ?_
          refine x_iinc (L' := [(3, .int ((nI i) + 1)), (2, .int ((tapS (mTa s z) i) + 1)), (0, .ref m), (1, .int z)]) C ((nI i) + 1) dX9_taps_43 3 rfl rfl rfl rfl ?_
          refine x_goto C 4 dX9_taps_46 rfl ?_
          refine x_perm (L' := [(0, .ref m), (1, .int z), (2, .int ((tapS (mTa s z) i) + 1)), (3, .int ((nI i) + 1))]) [2, 3, 1, 0] rfl ?_
          refine x_to (L' := [(0, .ref m), (1, .int z), (2, .int (tapS (mTa s z) (i + 1))), (3, .int (nI (i + 1)))]) (G' := ov m (mC E m s su (nI n) tx ty re ca at_ to) G) (by simp only [nI_succ, tapS, mTa, if_pos c20, if_pos c24, eq_self, Bool.false_eq_true, if_true, if_false]; first | done | rfl | simp [bI]) rfl rfl ?_
          exact ih (i + 1) (by omega)
        · refine x_aload_n C dX9_taps_27 0 rfl ?_
          refine x_iconst C 0 dX9_taps_28 rfl ?_
          refine x_iload_n C dX9_taps_29 3 rfl ?_
          refine x_cV1 C (c_X9_isLost E N m _ s su (nI n) tx ty re ca at_ to 0 i (by first | assumption | omega | decide) (by first | assumption | omega | decide) hb_m hn_m) v_X9_37 hN (xlo (i := 0) hb_m) (xhi (i := 0) hn_m rfl) (ov_at (i := 0) rfl) rfl rfl rfl rfl rfl dX9_taps_30 ?_
          refine x_tb_eq C 40 41 dX9_taps_33 rfl dX9_taps_36 dX9_taps_37 rfl dX9_taps_40 rfl ?_
          refine x_iadd C dX9_taps_41 ?_
          refine x_topi (fun z1 ez1 => ?_)
          refine x_istore_n (L' := [(2, .int z1), (0, .ref m), (1, .int z), (3, .int (nI i))]) C dX9_taps_42 rfl rfl ?_
          refine x_iinc (L' := [(3, .int ((nI i) + 1)), (2, .int z1), (0, .ref m), (1, .int z)]) C ((nI i) + 1) dX9_taps_43 3 rfl rfl rfl rfl ?_
          refine x_goto C 4 dX9_taps_46 rfl ?_
          refine x_perm (L' := [(0, .ref m), (1, .int z), (2, .int z1), (3, .int ((nI i) + 1))]) [2, 3, 1, 0] rfl ?_
          subst ez1
          refine x_to (L' := [(0, .ref m), (1, .int z), (2, .int (tapS (mTa s z) (i + 1))), (3, .int (nI (i + 1)))]) (G' := ov m (mC E m s su (nI n) tx ty re ca at_ to) G) (by simp only [nI_succ, tapS, mTa, if_pos c20, if_neg c24, eq_self, Bool.false_eq_true, if_true, if_false]; first | done | rfl | simp [bI]) rfl rfl ?_
          exact ih (i + 1) (by omega)
  refine x_to (L' := [(0, .ref m), (1, .int z), (2, .int (tapS (mTa s z) 0)), (3, .int (nI 0))]) (G' := ov m (mC E m s su (nI n) tx ty re ca at_ to) G) rfl rfl rfl ?_
  exact lp4 _ 0 (Nat.add_sub_cancel' (by omega))

set_option maxRecDepth 100000 in
set_option maxHeartbeats 4000000 in
theorem c_X9_words (E : XE) (N m : Nat) (G : GW) (s : Nat → Int32) (su : Nat → Int64) (n : Nat) (tx : Nat → Int32) (ty re ca at_ : Int32) (to : Nat → Int32) (z : Int32) (tk : Nat) (hg : gOk (sl s 0) tk) (hb_m : xB E ≤ m) (hn_m : m + 5 ≤ N) : MF E yX9_words cX9_words 4 (some .int) 1 21 0 0 [.ref m, .int z] N (ov m (mC E m s su (nI n) tx ty re ca at_ to) G) (some (.int (tapS (mWd s z) (64 - tk)))) (ov m (mC E m s su (nI n) tx ty re ca at_ to) G) := by
  refine MF.mk RX9 rfl (by decide +kernel) rfl (fun K C Z hin hN => ?_)
  show XW E K 4 N 0 0 _ 0 [(0, .ref m), (1, .int z)] []
  have q9t := hg.2.1
  refine x_iconst C 0 dX9_words_0 rfl ?_
  refine x_istore_n (L' := [(2, .int 0), (0, .ref m), (1, .int z)]) C dX9_words_1 rfl rfl ?_
  refine x_iconst C 0 dX9_words_2 rfl ?_
  refine x_istore_n (L' := [(3, .int 0), (2, .int 0), (0, .ref m), (1, .int z)]) C dX9_words_3 rfl rfl ?_
  refine x_perm (L' := [(0, .ref m), (1, .int z), (2, .int 0), (3, .int 0)]) [2, 3, 1, 0] rfl ?_
  have lp4 : ∀ (d i : Nat), i + d = 64 - tk → XW E K 4 N 0 0 (ov m (mC E m s su (nI n) tx ty re ca at_ to) G) 4 [(0, .ref m), (1, .int z), (2, .int (tapS (mWd s z) i)), (3, .int (nI i))] [] := by
    intro d
    induction d with
    | zero =>
      intro i hd
      have q9i : 64 - tk = i := by omega
      subst q9i
      refine x_iload_n C dX9_words_4 3 rfl ?_
      refine x_aload_n C dX9_words_5 0 rfl ?_
      refine x_iconst C 0 dX9_words_6 rfl ?_
      refine x_cV1 C (c_X9_length E N m _ s su (nI n) tx ty re ca at_ to 0 (by first | assumption | omega | decide) hb_m hn_m) v_X9_33 hN (xlo (i := 0) hb_m) (xhi (i := 0) hn_m rfl) (ov_at (i := 0) rfl) rfl rfl rfl rfl rfl dX9_words_7 ?_
      refine x_v (w := .int (nI (64 - tk))) (by show Value.int (64 - sl s 0 64) = _; rw [hg.1]; exact congrArg Value.int (natSub (a := 64) (b := tk) (by omega))) ?_
      refine x_icmp_ge C 52 dX9_words_10 rfl (fun _ => ?_) (fun c => absurd c (not_not_intro (nI_le (by omega) (by omega))))
      refine x_iload_n C dX9_words_52 2 rfl ?_
      exact x_iret C Z rfl rfl rfl rfl dX9_words_53
    | succ d ih =>
      intro i hd
      have hi : i < 64 - tk := by omega
      refine x_iload_n C dX9_words_4 3 rfl ?_
      refine x_aload_n C dX9_words_5 0 rfl ?_
      refine x_iconst C 0 dX9_words_6 rfl ?_
      refine x_cV1 C (c_X9_length E N m _ s su (nI n) tx ty re ca at_ to 0 (by first | assumption | omega | decide) hb_m hn_m) v_X9_33 hN (xlo (i := 0) hb_m) (xhi (i := 0) hn_m rfl) (ov_at (i := 0) rfl) rfl rfl rfl rfl rfl dX9_words_7 ?_
      refine x_v (w := .int (nI (64 - tk))) (by show Value.int (64 - sl s 0 64) = _; rw [hg.1]; exact congrArg Value.int (natSub (a := 64) (b := tk) (by omega))) ?_
      refine x_icmp_ge C 52 dX9_words_10 rfl (fun c => absurd c (nI_ge (by omega) (by omega))) (fun _ => ?_)
      refine x_iload_n C dX9_words_13 2 rfl ?_
      refine x_iload_n C dX9_words_14 1 rfl ?_
      refine x_if_eq C 30 dX9_words_15 rfl (fun c15 => ?_) (fun c15 => ?_)
      · refine x_aload_n C dX9_words_30 0 rfl ?_
        refine x_get C (xlo (i := 0) hb_m) (xhi (i := 0) hn_m rfl) (ov_at (i := 0) rfl) f_X9_7 rfl dX9_words_31 ?_
        refine x_iload_n C dX9_words_34 3 rfl ?_
        refine x_iald C (s (i)) (xlo (i := 1) hb_m) (xhi (i := 1) hn_m rfl) (ov_at (i := 1) rfl) (vp_in_nI (by omega) (by decide)) (by rw [nI_clamp (by omega)]) dX9_words_35 ?_
        refine x_if_eq C 43 dX9_words_36 rfl (fun c36 => ?_) (fun c36 => ?_)
        · refine x_iconst C 0 dX9_words_43 rfl ?_
          refine x_iadd C dX9_words_44 ?_
          refine x_istore_n (L' := [(2, .int ((tapS (mWd s z) i) + 0)), (0, .ref m), (1, .int z), (3, .int (nI i))]) C dX9_words_45 rfl rfl ?_
          refine x_iinc (L' := [(3, .int ((nI i) + 1)), (2, .int ((tapS (mWd s z) i) + 0)), (0, .ref m), (1, .int z)]) C ((nI i) + 1) dX9_words_46 3 rfl rfl rfl rfl ?_
          refine x_goto C 4 dX9_words_49 rfl ?_
          refine x_perm (L' := [(0, .ref m), (1, .int z), (2, .int ((tapS (mWd s z) i) + 0)), (3, .int ((nI i) + 1))]) [2, 3, 1, 0] rfl ?_
          refine x_to (L' := [(0, .ref m), (1, .int z), (2, .int (tapS (mWd s z) (i + 1))), (3, .int (nI (i + 1)))]) (G' := ov m (mC E m s su (nI n) tx ty re ca at_ to) G) (by simp only [nI_succ, tapS, mWd, if_pos c15, if_pos c36, eq_self, Bool.false_eq_true, if_true, if_false]; first | done | rfl) rfl rfl ?_
          exact ih (i + 1) (by omega)
        · refine x_iconst C 1 dX9_words_39 rfl ?_
          refine x_goto C 44 dX9_words_40 rfl ?_
          refine x_iadd C dX9_words_44 ?_
          refine x_istore_n (L' := [(2, .int ((tapS (mWd s z) i) + 1)), (0, .ref m), (1, .int z), (3, .int (nI i))]) C dX9_words_45 rfl rfl ?_
          refine x_iinc (L' := [(3, .int ((nI i) + 1)), (2, .int ((tapS (mWd s z) i) + 1)), (0, .ref m), (1, .int z)]) C ((nI i) + 1) dX9_words_46 3 rfl rfl rfl rfl ?_
          refine x_goto C 4 dX9_words_49 rfl ?_
          refine x_perm (L' := [(0, .ref m), (1, .int z), (2, .int ((tapS (mWd s z) i) + 1)), (3, .int ((nI i) + 1))]) [2, 3, 1, 0] rfl ?_
          refine x_to (L' := [(0, .ref m), (1, .int z), (2, .int (tapS (mWd s z) (i + 1))), (3, .int (nI (i + 1)))]) (G' := ov m (mC E m s su (nI n) tx ty re ca at_ to) G) (by simp only [nI_succ, tapS, mWd, if_pos c15, if_neg c36, eq_self, Bool.false_eq_true, if_true, if_false]; first | done | rfl) rfl rfl ?_
          exact ih (i + 1) (by omega)
      · refine x_aload_n C dX9_words_18 0 rfl ?_
        refine x_get C (xlo (i := 0) hb_m) (xhi (i := 0) hn_m rfl) (ov_at (i := 0) rfl) f_X9_7 rfl dX9_words_19 ?_
        refine x_iload_n C dX9_words_22 3 rfl ?_
        refine x_iald C (s (i)) (xlo (i := 1) hb_m) (xhi (i := 1) hn_m rfl) (ov_at (i := 1) rfl) (vp_in_nI (by omega) (by decide)) (by rw [nI_clamp (by omega)]) dX9_words_23 ?_
        refine x_cS1 C (c_X9_amount E N _ (s (i))) v_X9_45 hN rfl rfl rfl rfl dX9_words_24 ?_
        refine x_goto C 44 dX9_words_27 rfl ?_
        refine x_iadd C dX9_words_44 ?_
        refine x_topi (fun z1 ez1 => ?_)
        refine x_istore_n (L' := [(2, .int z1), (0, .ref m), (1, .int z), (3, .int (nI i))]) C dX9_words_45 rfl rfl ?_
        refine x_iinc (L' := [(3, .int ((nI i) + 1)), (2, .int z1), (0, .ref m), (1, .int z)]) C ((nI i) + 1) dX9_words_46 3 rfl rfl rfl rfl ?_
        refine x_goto C 4 dX9_words_49 rfl ?_
        refine x_perm (L' := [(0, .ref m), (1, .int z), (2, .int z1), (3, .int ((nI i) + 1))]) [2, 3, 1, 0] rfl ?_
        subst ez1
        refine x_to (L' := [(0, .ref m), (1, .int z), (2, .int (tapS (mWd s z) (i + 1))), (3, .int (nI (i + 1)))]) (G' := ov m (mC E m s su (nI n) tx ty re ca at_ to) G) (by simp only [nI_succ, tapS, mWd, if_neg c15, eq_self, Bool.false_eq_true, if_true, if_false]; first | done | rfl) rfl rfl ?_
        exact ih (i + 1) (by omega)
  refine x_to (L' := [(0, .ref m), (1, .int z), (2, .int (tapS (mWd s z) 0)), (3, .int (nI 0))]) (G' := ov m (mC E m s su (nI n) tx ty re ca at_ to) G) rfl rfl rfl ?_
  exact lp4 _ 0 (Nat.add_sub_cancel' (by omega))

set_option maxRecDepth 100000 in
set_option maxHeartbeats 4000000 in
theorem c_X9_isQuiet (E : XE) (N m : Nat) (G : GW) (s : Nat → Int32) (su : Nat → Int64) (n : Nat) (tx : Nat → Int32) (ty re ca at_ : Int32) (to : Nat → Int32) (gn : Int32) (k : Nat) (a : Int32) (tk : Nat) (hg : gOk (sl s 0) tk) (hk : k ≤ 1000) (hb_m : xB E ≤ m) (hn_m : m + 5 ≤ N) : MF E yX9_isQuiet cX9_isQuiet 5 (some .boolean) 5 116 0 0 [.ref m, .int gn, .int (nI k), .int a] N (ov m (mC E m s su (nI n) tx ty re ca at_ to) G) (some (.int (bI (miB (s, su) (64 - tk) gn k a)))) (ov m (mC E m ((miI (s, su) gn k).1) ((miI (s, su) gn k).2) (nI n) tx ty re ca at_ to) G) := by
  refine MF.mk RX9 rfl (by decide +kernel) rfl (fun K C Z hin hN => ?_)
  show XW E K 5 N 0 0 _ 0 [(0, .ref m), (1, .int gn), (2, .int (nI k)), (3, .int a)] []
  refine x_aload_n C dX9_isQuiet_0 0 rfl ?_
  refine x_cV0 C (c_X9_silenced E N m _ s su n tx ty re ca at_ to hb_m hn_m) v_X9_95 hN (xlo (i := 0) hb_m) (xhi (i := 0) hn_m rfl) (ov_at (i := 0) rfl) rfl rfl rfl rfl rfl dX9_isQuiet_1 ?_
  refine x_aload_n C dX9_isQuiet_4 0 rfl ?_
  refine x_get C (xlo (i := 0) hb_m) (xhi (i := 0) hn_m rfl) (ov_at (i := 0) rfl) f_X9_7 rfl dX9_isQuiet_5 ?_
  refine x_sipush C 578 dX9_isQuiet_8 rfl ?_
  refine x_iload_n C dX9_isQuiet_11 1 rfl ?_
  refine x_iast (G' := ov m (mC E m (upd (mZer s) 578 gn) (mZu su) (nI n) tx ty re ca at_ to) G) C 578 (xlo (i := 1) hb_m) (xhi (i := 1) hn_m rfl) (ov_at (i := 1) rfl) (vp_in_d rfl) rfl (ov_set (i := 1) rfl rfl) dX9_isQuiet_12 ?_
  refine x_aload_n C dX9_isQuiet_13 0 rfl ?_
  refine x_iconst C 5 dX9_isQuiet_14 rfl ?_
  refine x_sipush C 20000 dX9_isQuiet_15 rfl ?_
  refine x_cV1 C (c2_X9_goes E N m _ (upd (mZer s) 578 gn) (mZu su) (nI n) tx ty re ca at_ to 5 20000 tk (by first | assumption | omega | decide) (gOk_mi0 (p := (s, su)) gn hg) hb_m hn_m) v_X9_58 hN (xlo (i := 0) hb_m) (xhi (i := 0) hn_m rfl) (ov_at (i := 0) rfl) rfl rfl rfl rfl rfl dX9_isQuiet_18 ?_
  refine x_pop C dX9_isQuiet_21 rfl ?_
  refine x_iconst C 0 dX9_isQuiet_22 rfl ?_
  refine x_istore (L' := [(4, .int 0), (0, .ref m), (1, .int gn), (2, .int (nI k)), (3, .int a)]) C dX9_isQuiet_23 rfl rfl ?_
  refine x_perm (L' := [(0, .ref m), (1, .int gn), (2, .int (nI k)), (3, .int a), (4, .int 0)]) [1, 2, 3, 4, 0] rfl ?_
  have lp25 : ∀ (d i : Nat), i + d = k → XW E K 5 N 0 0 (ov m (mC E m ((miI (s, su) gn i).1) ((miI (s, su) gn i).2) (nI n) tx ty re ca at_ to) G) 25 [(0, .ref m), (1, .int gn), (2, .int (nI k)), (3, .int a), (4, .int (nI i))] [] := by
    intro d
    induction d with
    | zero =>
      intro i hd
      have q9i : k = i := by omega
      subst q9i
      refine x_iload C dX9_isQuiet_25 4 rfl ?_
      refine x_iload_n C dX9_isQuiet_27 2 rfl ?_
      refine x_icmp_ge C 44 dX9_isQuiet_28 rfl (fun _ => ?_) (fun c => absurd c (not_not_intro (nI_le (by omega) (by omega))))
      refine x_aload_n C dX9_isQuiet_44 0 rfl ?_
      refine x_iconst C 5 dX9_isQuiet_45 rfl ?_
      refine x_cV1 C (c_X9_greatestWord E N m _ ((miI (s, su) gn k).1) ((miI (s, su) gn k).2) (nI n) tx ty re ca at_ to 5 tk (by first | assumption | omega | decide) ((mEc_ok (gOk_mi0 (p := (s, su)) gn hg) 20000 k).1) hg.2.1 hb_m hn_m) v_X9_98 hN (xlo (i := 0) hb_m) (xhi (i := 0) hn_m rfl) (ov_at (i := 0) rfl) rfl rfl rfl rfl rfl dX9_isQuiet_46 ?_
      refine x_iload_n C dX9_isQuiet_49 3 rfl ?_
      refine x_icmp_gt C 57 dX9_isQuiet_50 rfl (fun c50 => ?_) (fun c50 => ?_)
      · refine x_iconst C 0 dX9_isQuiet_57 rfl ?_
        exact x_iret C Z rfl rfl (by simp [miB, bI, c50]) rfl dX9_isQuiet_58
      · refine x_iconst C 1 dX9_isQuiet_53 rfl ?_
        refine x_goto C 58 dX9_isQuiet_54 rfl ?_
        exact x_iret C Z rfl rfl (by simp [miB, bI, c50]) rfl dX9_isQuiet_58
    | succ d ih =>
      intro i hd
      have hi : i < k := by omega
      refine x_iload C dX9_isQuiet_25 4 rfl ?_
      refine x_iload_n C dX9_isQuiet_27 2 rfl ?_
      refine x_icmp_ge C 44 dX9_isQuiet_28 rfl (fun c => absurd c (nI_ge (by omega) (by omega))) (fun _ => ?_)
      refine x_aload_n C dX9_isQuiet_31 0 rfl ?_
      refine x_iconst C 5 dX9_isQuiet_32 rfl ?_
      refine x_iconst C 0 dX9_isQuiet_33 rfl ?_
      refine x_cV1 C (c2_X9_goes E N m _ ((miI (s, su) gn i).1) ((miI (s, su) gn i).2) (nI n) tx ty re ca at_ to 5 0 tk (by first | assumption | omega | decide) (mEc_ok (gOk_mi0 (p := (s, su)) gn hg) 20000 i) hb_m hn_m) v_X9_58 hN (xlo (i := 0) hb_m) (xhi (i := 0) hn_m rfl) (ov_at (i := 0) rfl) rfl rfl rfl rfl rfl dX9_isQuiet_34 ?_
      refine x_pop C dX9_isQuiet_37 rfl ?_
      refine x_iinc (L' := [(4, .int ((nI i) + 1)), (0, .ref m), (1, .int gn), (2, .int (nI k)), (3, .int a)]) C ((nI i) + 1) dX9_isQuiet_38 4 rfl rfl rfl rfl ?_
      refine x_goto C 25 dX9_isQuiet_41 rfl ?_
      refine x_perm (L' := [(0, .ref m), (1, .int gn), (2, .int (nI k)), (3, .int a), (4, .int ((nI i) + 1))]) [1, 2, 3, 4, 0] rfl ?_
      refine x_to (L' := [(0, .ref m), (1, .int gn), (2, .int (nI k)), (3, .int a), (4, .int (nI (i + 1)))]) (G' := ov m (mC E m ((miI (s, su) gn (i + 1)).1) ((miI (s, su) gn (i + 1)).2) (nI n) tx ty re ca at_ to) G) (by simp only [nI_succ]) rfl rfl ?_
      exact ih (i + 1) (by omega)
  refine x_to (L' := [(0, .ref m), (1, .int gn), (2, .int (nI k)), (3, .int a), (4, .int (nI 0))]) (G' := ov m (mC E m ((miI (s, su) gn 0).1) ((miI (s, su) gn 0).2) (nI n) tx ty re ca at_ to) G) rfl rfl rfl ?_
  exact lp25 _ 0 (Nat.add_sub_cancel' (by omega))

set_option maxRecDepth 100000 in
set_option maxHeartbeats 4000000 in
theorem c_X9_safeGain (E : XE) (N m : Nat) (G : GW) (s : Nat → Int32) (su : Nat → Int64) (n : Nat) (tx : Nat → Int32) (ty re ca at_ : Int32) (to : Nat → Int32) (w a : Int32) (tk : Nat) (hg : gOk (sl s 0) tk) (hb_m : xB E ≤ m) (hn_m : m + 5 ≤ N) : MF E yX9_safeGain cX9_safeGain 6 (some .int) 6 140 0 0 [.ref m, .int w, .int a] N (ov m (mC E m s su (nI n) tx ty re ca at_ to) G) (some (.int (mSafR s su tk w a))) (ov m (mC E m ((mSafP s su tk w a).1) ((mSafP s su tk w a).2) (nI n) tx ty re ca at_ to) G) := by
  refine MF.mk RX9 rfl (by decide +kernel) rfl (fun K C Z hin hN => ?_)
  show XW E K 6 N 0 0 _ 0 [(0, .ref m), (1, .int w), (2, .int a)] []
  refine x_iload_n C dX9_safeGain_0 1 rfl ?_
  refine x_iconst C 1 dX9_safeGain_1 rfl ?_
  refine x_sipush C 200 dX9_safeGain_2 rfl ?_
  refine x_cS1 C (c_X9_in E N _ w 1 200) v_X9_54 hN rfl rfl rfl rfl dX9_safeGain_5 ?_
  refine x_ifb_eq C 22 dX9_safeGain_8 rfl (fun c8 => ?_) (fun c8 => ?_)
  · refine x_ldc C (-1000001) m_584 dX9_safeGain_22 ?_
    exact x_iret C Z rfl rfl (by first | (simp only [mSafR, mSafP, c8, eq_self, Bool.false_eq_true, if_true, if_false]; done) | ((simp only [mSafR, mSafP, c8, eq_self, Bool.false_eq_true, if_true, if_false]); rfl) | (simp [mSafR, mSafP, c8]; done) | (simp [mSafR, mSafP, c8]; rfl)) (by first | (simp only [mSafR, mSafP, c8, eq_self, Bool.false_eq_true, if_true, if_false]; done) | ((simp only [mSafR, mSafP, c8, eq_self, Bool.false_eq_true, if_true, if_false]); rfl) | (simp [mSafR, mSafP, c8]; done) | (simp [mSafR, mSafP, c8]; rfl)) dX9_safeGain_24
  · refine x_iload_n C dX9_safeGain_11 2 rfl ?_
    refine x_iconst C 0 dX9_safeGain_12 rfl ?_
    refine x_sipush C 20000 dX9_safeGain_13 rfl ?_
    refine x_cS1 C (c_X9_in E N _ a 0 20000) v_X9_54 hN rfl rfl rfl rfl dX9_safeGain_16 ?_
    refine x_ifb_ne C 25 dX9_safeGain_19 rfl (fun c19 => ?_) (fun c19 => ?_)
    · obtain ⟨k, hk, rfl⟩ : ∃ k : Nat, k ≤ 200 ∧ w = nI k := ⟨_, (inR_k (by decide) (by decide) c8).2, (inR_k (n := 200) (by decide) (by decide) c8).1⟩
      have q9kc : (nI k).toNatClampNeg = k := nI_clamp (by omega)
      refine x_iconst C 0 dX9_safeGain_25 rfl ?_
      refine x_istore_n (L' := [(3, .int 0), (0, .ref m), (1, .int (nI k)), (2, .int a)]) C dX9_safeGain_26 rfl rfl ?_
      refine x_sipush C 950 dX9_safeGain_27 rfl ?_
      refine x_istore (L' := [(4, .int 950), (3, .int 0), (0, .ref m), (1, .int (nI k)), (2, .int a)]) C dX9_safeGain_30 rfl rfl ?_
      refine x_perm (L' := [(0, .ref m), (1, .int (nI k)), (2, .int a), (3, .int 0), (4, .int 950)]) [2, 3, 4, 1, 0] rfl ?_
      have lp32_1 : ∀ (d i : Nat) (l1 : Nat) (h1 : Nat) (s1 : Nat → Int32) (u1 : Nat → Int64), i + d = 951 → mgRun (64 - tk) k a d l1 h1 (s1, u1) = mgAll s su tk (nI k) a ∧ l1 ≤ h1 ∧ h1 ≤ l1 + d ∧ h1 ≤ 950 ∧ gOk (sl s1 0) tk → XW E K 6 N 0 0 (ov m (mC E m s1 u1 (nI n) tx ty re ca at_ to) G) 32 [(0, .ref m), (1, .int (nI k)), (2, .int a), (3, .int (nI l1)), (4, .int (nI h1))] [] := by
        intro d
        induction d with
        | zero =>
          intro i l1 h1 s1 u1 hd hq
          have hi : i = 951 := by omega
          refine x_iload_n C dX9_safeGain_32 3 rfl ?_
          refine x_iload C dX9_safeGain_33 4 rfl ?_
          refine x_icmp_ge C 74 dX9_safeGain_35 rfl (fun _ => ?_) (fun c => absurd c (not_not_intro (nI_le (by omega) (by omega))))
          have q9f : mgAll s su tk (nI k) a = (nI l1, (s1, u1)) := by rw [← hq.1]; simp [mgRun]
          refine x_iload_n C dX9_safeGain_74 3 rfl ?_
          exact x_iret C Z rfl rfl (by first | (simp only [mSafR, mSafP, q9kc, q9f, c8, c19, eq_self, Bool.false_eq_true, if_true, if_false]; done) | ((simp only [mSafR, mSafP, q9kc, q9f, c8, c19, eq_self, Bool.false_eq_true, if_true, if_false]); rfl) | (simp [mSafR, mSafP, q9kc, q9f, c8, c19]; done) | (simp [mSafR, mSafP, q9kc, q9f, c8, c19]; rfl)) (by first | (simp only [mSafR, mSafP, q9kc, q9f, c8, c19, eq_self, Bool.false_eq_true, if_true, if_false]; done) | ((simp only [mSafR, mSafP, q9kc, q9f, c8, c19, eq_self, Bool.false_eq_true, if_true, if_false]); rfl) | (simp [mSafR, mSafP, q9kc, q9f, c8, c19]; done) | (simp [mSafR, mSafP, q9kc, q9f, c8, c19]; rfl)) dX9_safeGain_75
        | succ d ih =>
          intro i l1 h1 s1 u1 hd hq
          have hi : i < 951 := by omega
          refine x_iload_n C dX9_safeGain_32 3 rfl ?_
          refine x_iload C dX9_safeGain_33 4 rfl ?_
          refine x_icmp_ge C 74 dX9_safeGain_35 rfl (fun c35 => ?_) (fun c35 => ?_)
          · have q9f : mgAll s su tk (nI k) a = (nI l1, (s1, u1)) := by rw [← hq.1]; simp [mgRun, c8, c19, c35]
            refine x_iload_n C dX9_safeGain_74 3 rfl ?_
            exact x_iret C Z rfl rfl (by first | (simp only [mSafR, mSafP, q9kc, q9f, c8, c19, if_pos c35, eq_self, Bool.false_eq_true, if_true, if_false]; done) | ((simp only [mSafR, mSafP, q9kc, q9f, c8, c19, if_pos c35, eq_self, Bool.false_eq_true, if_true, if_false]); rfl) | (simp [mSafR, mSafP, q9kc, q9f, c8, c19, c35]; done) | (simp [mSafR, mSafP, q9kc, q9f, c8, c19, c35]; rfl)) (by first | (simp only [mSafR, mSafP, q9kc, q9f, c8, c19, if_pos c35, eq_self, Bool.false_eq_true, if_true, if_false]; done) | ((simp only [mSafR, mSafP, q9kc, q9f, c8, c19, if_pos c35, eq_self, Bool.false_eq_true, if_true, if_false]); rfl) | (simp [mSafR, mSafP, q9kc, q9f, c8, c19, c35]; done) | (simp [mSafR, mSafP, q9kc, q9f, c8, c19, c35]; rfl)) dX9_safeGain_75
          · have q9c : l1 < h1 := Nat.not_le.mp (fun h => c35 ((nI_leI (a := h1) (b := l1) (by omega) (by omega)).mpr h))
            refine x_iload_n C dX9_safeGain_38 3 rfl ?_
            refine x_iload C dX9_safeGain_39 4 rfl ?_
            refine x_iadd C dX9_safeGain_41 ?_
            refine x_v (w := .int (nI (l1 + h1))) (congrArg Value.int (natAdd (a := l1) (b := h1) (by omega))) ?_
            refine x_iconst C 1 dX9_safeGain_42 rfl ?_
            refine x_iadd C dX9_safeGain_43 ?_
            refine x_v (w := .int (nI (l1 + h1 + 1))) (congrArg Value.int (natAdd (a := l1 + h1) (b := 1) (by omega))) ?_
            refine x_iconst C 2 dX9_safeGain_44 rfl ?_
            refine x_idiv C dX9_safeGain_45 (by decide) ?_
            refine x_v (w := .int (nI ((l1 + h1 + 1) / 2))) (congrArg Value.int (pk_div (d := 2) (by omega) (by decide) (by decide))) ?_
            refine x_istore (L' := [(5, .int (nI ((l1 + h1 + 1) / 2))), (0, .ref m), (1, .int (nI k)), (2, .int a), (3, .int (nI l1)), (4, .int (nI h1))]) C dX9_safeGain_46 rfl rfl ?_
            refine x_aload_n C dX9_safeGain_48 1 rfl ?_
            refine x_iload C dX9_safeGain_49 0 rfl ?_
            refine x_iload_n C dX9_safeGain_51 2 rfl ?_
            refine x_iload_n C dX9_safeGain_52 3 rfl ?_
            refine x_cV1 C (c_X9_isQuiet E N m _ s1 u1 n tx ty re ca at_ to (nI ((l1 + h1 + 1) / 2)) k a tk hq.2.2.2.2 (by omega) hb_m hn_m) v_X9_101 hN (xlo (i := 0) hb_m) (xhi (i := 0) hn_m rfl) (ov_at (i := 0) rfl) rfl rfl rfl rfl rfl dX9_safeGain_53 ?_
            refine x_ifb_eq C 65 dX9_safeGain_56 rfl (fun c56 => ?_) (fun c56 => ?_)
            · refine x_iload C dX9_safeGain_65 0 rfl ?_
              refine x_iconst C 1 dX9_safeGain_67 rfl ?_
              refine x_isub C dX9_safeGain_68 ?_
              refine x_v (w := .int (nI (((l1 + h1 + 1) / 2) - 1))) (congrArg Value.int (natSub (a := (l1 + h1 + 1) / 2) (b := 1) (by omega))) ?_
              refine x_istore (L' := [(4, .int (nI (((l1 + h1 + 1) / 2) - 1))), (5, .int (nI ((l1 + h1 + 1) / 2))), (0, .ref m), (1, .int (nI k)), (2, .int a), (3, .int (nI l1))]) C dX9_safeGain_69 rfl rfl ?_
              refine x_goto C 32 dX9_safeGain_71 rfl ?_
              refine x_perm (L' := [(0, .ref m), (1, .int (nI k)), (2, .int a), (3, .int (nI l1)), (4, .int (nI (((l1 + h1 + 1) / 2) - 1)))]) [2, 3, 4, 5, 0] rfl ?_
              refine x_to (L' := [(0, .ref m), (1, .int (nI k)), (2, .int a), (3, .int (nI l1)), (4, .int (nI (((l1 + h1 + 1) / 2) - 1)))]) (G' := ov m (mC E m ((miI (s1, u1) (nI ((l1 + h1 + 1) / 2)) k).1) ((miI (s1, u1) (nI ((l1 + h1 + 1) / 2)) k).2) (nI n) tx ty re ca at_ to) G) rfl rfl rfl ?_
              exact ih (i + 1) l1 (((l1 + h1 + 1) / 2) - 1) ((miI (s1, u1) (nI ((l1 + h1 + 1) / 2)) k).1) ((miI (s1, u1) (nI ((l1 + h1 + 1) / 2)) k).2) (by omega) ⟨by rw [← hq.1]; simp only [mgRun, c8, c19, if_neg c35, c56, eq_self, Bool.false_eq_true, if_true, if_false]; first | done | rfl, by omega, by omega, by omega, gOk_slot0 hq.2.2.2.2 (fun j hj => slot0_miI (s1, u1) _ k hj)⟩
            · refine x_iload C dX9_safeGain_59 0 rfl ?_
              refine x_istore_n (L' := [(3, .int (nI ((l1 + h1 + 1) / 2))), (5, .int (nI ((l1 + h1 + 1) / 2))), (0, .ref m), (1, .int (nI k)), (2, .int a), (4, .int (nI h1))]) C dX9_safeGain_61 rfl rfl ?_
              refine x_goto C 71 dX9_safeGain_62 rfl ?_
              refine x_goto C 32 dX9_safeGain_71 rfl ?_
              refine x_perm (L' := [(0, .ref m), (1, .int (nI k)), (2, .int a), (3, .int (nI ((l1 + h1 + 1) / 2))), (4, .int (nI h1))]) [2, 3, 4, 0, 5] rfl ?_
              refine x_to (L' := [(0, .ref m), (1, .int (nI k)), (2, .int a), (3, .int (nI ((l1 + h1 + 1) / 2))), (4, .int (nI h1))]) (G' := ov m (mC E m ((miI (s1, u1) (nI ((l1 + h1 + 1) / 2)) k).1) ((miI (s1, u1) (nI ((l1 + h1 + 1) / 2)) k).2) (nI n) tx ty re ca at_ to) G) rfl rfl rfl ?_
              exact ih (i + 1) ((l1 + h1 + 1) / 2) h1 ((miI (s1, u1) (nI ((l1 + h1 + 1) / 2)) k).1) ((miI (s1, u1) (nI ((l1 + h1 + 1) / 2)) k).2) (by omega) ⟨by rw [← hq.1]; simp only [mgRun, c8, c19, if_neg c35, c56, eq_self, Bool.false_eq_true, if_true, if_false]; first | done | rfl, by omega, by omega, by omega, gOk_slot0 hq.2.2.2.2 (fun j hj => slot0_miI (s1, u1) _ k hj)⟩
      refine x_to (L' := [(0, .ref m), (1, .int (nI k)), (2, .int a), (3, .int (nI 0)), (4, .int (nI 950))]) (G' := ov m (mC E m s su (nI n) tx ty re ca at_ to) G) rfl rfl rfl ?_
      exact lp32_1 _ 0 0 950 s su (Nat.add_sub_cancel' (by omega)) ⟨by unfold mgAll; rw [q9kc], by omega, by omega, by omega, hg⟩
    · refine x_ldc C (-1000001) m_584 dX9_safeGain_22 ?_
      exact x_iret C Z rfl rfl (by first | (simp only [mSafR, mSafP, c8, c19, eq_self, Bool.false_eq_true, if_true, if_false]; done) | ((simp only [mSafR, mSafP, c8, c19, eq_self, Bool.false_eq_true, if_true, if_false]); rfl) | (simp [mSafR, mSafP, c8, c19]; done) | (simp [mSafR, mSafP, c8, c19]; rfl)) (by first | (simp only [mSafR, mSafP, c8, c19, eq_self, Bool.false_eq_true, if_true, if_false]; done) | ((simp only [mSafR, mSafP, c8, c19, eq_self, Bool.false_eq_true, if_true, if_false]); rfl) | (simp [mSafR, mSafP, c8, c19]; done) | (simp [mSafR, mSafP, c8, c19]; rfl)) dX9_safeGain_24

set_option maxRecDepth 100000 in
set_option maxHeartbeats 4000000 in
theorem c_X9_count (E : XE) (N m : Nat) (G : GW) (s : Nat → Int32) (su : Nat → Int64) (n : Nat) (tx : Nat → Int32) (ty re ca at_ : Int32) (to : Nat → Int32) (w : Int32) (tk : Nat) (hg : gOk (sl s 0) tk) (hb_m : xB E ≤ m) (hn_m : m + 5 ≤ N) : MF E yX9_count cX9_count 2 (some .int) 3 66 0 0 [.ref m, .int w] N (ov m (mC E m s su (nI n) tx ty re ca at_ to) G) (some (.int (mCntR s n tk ty w))) (ov m (mC E m s su (nI n) tx ty re ca at_ to) G) := by
  refine MF.mk RX9 rfl (by decide +kernel) rfl (fun K C Z hin hN => ?_)
  show XW E K 2 N 0 0 _ 0 [(0, .ref m), (1, .int w)] []
  refine x_iload_n C dX9_count_0 1 rfl ?_
  rcases Decidable.em (w = 0) with s1_0 | s1_0
  · refine x_v (w := .int 0) (by rw [s1_0]) ?_
    refine x_tableIn C 104 dX9_count_1 (by decide) (by decide) rfl rfl ?_
    refine x_aload_n C dX9_count_104 0 rfl ?_
    refine x_iconst C 0 dX9_count_105 rfl ?_
    refine x_cV1 C (c_X9_length E N m _ s su (nI n) tx ty re ca at_ to 0 (by first | assumption | omega | decide) hb_m hn_m) v_X9_33 hN (xlo (i := 0) hb_m) (xhi (i := 0) hn_m rfl) (ov_at (i := 0) rfl) rfl rfl rfl rfl rfl dX9_count_106 ?_
    exact x_iret C Z rfl rfl (by first | (simp only [mCntR, if_pos s1_0, eq_self, Bool.false_eq_true, if_true, if_false]; done) | ((simp only [mCntR, if_pos s1_0, eq_self, Bool.false_eq_true, if_true, if_false]); rfl) | (simp [mCntR, s1_0]; done) | (simp [mCntR, s1_0]; rfl)) (by first | (simp only [mCntR, if_pos s1_0, eq_self, Bool.false_eq_true, if_true, if_false]; done) | ((simp only [mCntR, if_pos s1_0, eq_self, Bool.false_eq_true, if_true, if_false]); rfl) | (simp [mCntR, s1_0]; done) | (simp [mCntR, s1_0]; rfl)) dX9_count_109
  rcases Decidable.em (w = 1) with s1_1 | s1_1
  · refine x_v (w := .int 1) (by rw [s1_1]) ?_
    refine x_tableIn C 110 dX9_count_1 (by decide) (by decide) rfl rfl ?_
    refine x_aload_n C dX9_count_110 0 rfl ?_
    refine x_get C (xlo (i := 0) hb_m) (xhi (i := 0) hn_m rfl) (ov_at (i := 0) rfl) f_X9_7 rfl dX9_count_111 ?_
    refine x_bipush C 64 dX9_count_114 rfl ?_
    refine x_iald C (s 64) (xlo (i := 1) hb_m) (xhi (i := 1) hn_m rfl) (ov_at (i := 1) rfl) (vp_in_d rfl) rfl dX9_count_116 ?_
    exact x_iret C Z rfl rfl (by first | (simp only [mCntR, if_neg s1_0, if_pos s1_1, eq_self, Bool.false_eq_true, if_true, if_false]; done) | ((simp only [mCntR, if_neg s1_0, if_pos s1_1, eq_self, Bool.false_eq_true, if_true, if_false]); rfl) | (simp [mCntR, s1_0, s1_1]; done) | (simp [mCntR, s1_0, s1_1]; rfl)) (by first | (simp only [mCntR, if_neg s1_0, if_pos s1_1, eq_self, Bool.false_eq_true, if_true, if_false]; done) | ((simp only [mCntR, if_neg s1_0, if_pos s1_1, eq_self, Bool.false_eq_true, if_true, if_false]); rfl) | (simp [mCntR, s1_0, s1_1]; done) | (simp [mCntR, s1_0, s1_1]; rfl)) dX9_count_117
  rcases Decidable.em (w = 2) with s1_2 | s1_2
  · refine x_v (w := .int 2) (by rw [s1_2]) ?_
    refine x_tableIn C 118 dX9_count_1 (by decide) (by decide) rfl rfl ?_
    refine x_aload_n C dX9_count_118 0 rfl ?_
    refine x_iconst C 0 dX9_count_119 rfl ?_
    refine x_cV1 C (c_X9_taps E N m _ s su n tx ty re ca at_ to 0 hb_m hn_m) v_X9_104 hN (xlo (i := 0) hb_m) (xhi (i := 0) hn_m rfl) (ov_at (i := 0) rfl) rfl rfl rfl rfl rfl dX9_count_120 ?_
    exact x_iret C Z rfl rfl (by first | (simp only [mCntR, if_neg s1_0, if_neg s1_1, if_pos s1_2, eq_self, Bool.false_eq_true, if_true, if_false]; done) | ((simp only [mCntR, if_neg s1_0, if_neg s1_1, if_pos s1_2, eq_self, Bool.false_eq_true, if_true, if_false]); rfl) | (simp [mCntR, s1_0, s1_1, s1_2]; done) | (simp [mCntR, s1_0, s1_1, s1_2]; rfl)) (by first | (simp only [mCntR, if_neg s1_0, if_neg s1_1, if_pos s1_2, eq_self, Bool.false_eq_true, if_true, if_false]; done) | ((simp only [mCntR, if_neg s1_0, if_neg s1_1, if_pos s1_2, eq_self, Bool.false_eq_true, if_true, if_false]); rfl) | (simp [mCntR, s1_0, s1_1, s1_2]; done) | (simp [mCntR, s1_0, s1_1, s1_2]; rfl)) dX9_count_123
  rcases Decidable.em (w = 3) with s1_3 | s1_3
  · refine x_v (w := .int 3) (by rw [s1_3]) ?_
    refine x_tableIn C 124 dX9_count_1 (by decide) (by decide) rfl rfl ?_
    refine x_aload_n C dX9_count_124 0 rfl ?_
    refine x_iconst C 1 dX9_count_125 rfl ?_
    refine x_cV1 C (c_X9_taps E N m _ s su n tx ty re ca at_ to 1 hb_m hn_m) v_X9_104 hN (xlo (i := 0) hb_m) (xhi (i := 0) hn_m rfl) (ov_at (i := 0) rfl) rfl rfl rfl rfl rfl dX9_count_126 ?_
    exact x_iret C Z rfl rfl (by first | (simp only [mCntR, if_neg s1_0, if_neg s1_1, if_neg s1_2, if_pos s1_3, eq_self, Bool.false_eq_true, if_true, if_false]; done) | ((simp only [mCntR, if_neg s1_0, if_neg s1_1, if_neg s1_2, if_pos s1_3, eq_self, Bool.false_eq_true, if_true, if_false]); rfl) | (simp [mCntR, s1_0, s1_1, s1_2, s1_3]; done) | (simp [mCntR, s1_0, s1_1, s1_2, s1_3]; rfl)) (by first | (simp only [mCntR, if_neg s1_0, if_neg s1_1, if_neg s1_2, if_pos s1_3, eq_self, Bool.false_eq_true, if_true, if_false]; done) | ((simp only [mCntR, if_neg s1_0, if_neg s1_1, if_neg s1_2, if_pos s1_3, eq_self, Bool.false_eq_true, if_true, if_false]); rfl) | (simp [mCntR, s1_0, s1_1, s1_2, s1_3]; done) | (simp [mCntR, s1_0, s1_1, s1_2, s1_3]; rfl)) dX9_count_129
  rcases Decidable.em (w = 4) with s1_4 | s1_4
  · refine x_v (w := .int 4) (by rw [s1_4]) ?_
    refine x_tableIn C 130 dX9_count_1 (by decide) (by decide) rfl rfl ?_
    refine x_aload_n C dX9_count_130 0 rfl ?_
    refine x_iconst C 1 dX9_count_131 rfl ?_
    refine x_cV1 C (c_X9_words E N m _ s su n tx ty re ca at_ to 1 tk hg hb_m hn_m) v_X9_108 hN (xlo (i := 0) hb_m) (xhi (i := 0) hn_m rfl) (ov_at (i := 0) rfl) rfl rfl rfl rfl rfl dX9_count_132 ?_
    exact x_iret C Z rfl rfl (by first | (simp only [mCntR, if_neg s1_0, if_neg s1_1, if_neg s1_2, if_neg s1_3, if_pos s1_4, eq_self, Bool.false_eq_true, if_true, if_false]; done) | ((simp only [mCntR, if_neg s1_0, if_neg s1_1, if_neg s1_2, if_neg s1_3, if_pos s1_4, eq_self, Bool.false_eq_true, if_true, if_false]); rfl) | (simp [mCntR, s1_0, s1_1, s1_2, s1_3, s1_4]; done) | (simp [mCntR, s1_0, s1_1, s1_2, s1_3, s1_4]; rfl)) (by first | (simp only [mCntR, if_neg s1_0, if_neg s1_1, if_neg s1_2, if_neg s1_3, if_pos s1_4, eq_self, Bool.false_eq_true, if_true, if_false]; done) | ((simp only [mCntR, if_neg s1_0, if_neg s1_1, if_neg s1_2, if_neg s1_3, if_pos s1_4, eq_self, Bool.false_eq_true, if_true, if_false]); rfl) | (simp [mCntR, s1_0, s1_1, s1_2, s1_3, s1_4]; done) | (simp [mCntR, s1_0, s1_1, s1_2, s1_3, s1_4]; rfl)) dX9_count_135
  rcases Decidable.em (w = 5) with s1_5 | s1_5
  · refine x_v (w := .int 5) (by rw [s1_5]) ?_
    refine x_tableIn C 136 dX9_count_1 (by decide) (by decide) rfl rfl ?_
    refine x_aload_n C dX9_count_136 0 rfl ?_
    refine x_iconst C 0 dX9_count_137 rfl ?_
    refine x_cV1 C (c_X9_words E N m _ s su n tx ty re ca at_ to 0 tk hg hb_m hn_m) v_X9_108 hN (xlo (i := 0) hb_m) (xhi (i := 0) hn_m rfl) (ov_at (i := 0) rfl) rfl rfl rfl rfl rfl dX9_count_138 ?_
    exact x_iret C Z rfl rfl (by first | (simp only [mCntR, if_neg s1_0, if_neg s1_1, if_neg s1_2, if_neg s1_3, if_neg s1_4, if_pos s1_5, eq_self, Bool.false_eq_true, if_true, if_false]; done) | ((simp only [mCntR, if_neg s1_0, if_neg s1_1, if_neg s1_2, if_neg s1_3, if_neg s1_4, if_pos s1_5, eq_self, Bool.false_eq_true, if_true, if_false]); rfl) | (simp [mCntR, s1_0, s1_1, s1_2, s1_3, s1_4, s1_5]; done) | (simp [mCntR, s1_0, s1_1, s1_2, s1_3, s1_4, s1_5]; rfl)) (by first | (simp only [mCntR, if_neg s1_0, if_neg s1_1, if_neg s1_2, if_neg s1_3, if_neg s1_4, if_pos s1_5, eq_self, Bool.false_eq_true, if_true, if_false]; done) | ((simp only [mCntR, if_neg s1_0, if_neg s1_1, if_neg s1_2, if_neg s1_3, if_neg s1_4, if_pos s1_5, eq_self, Bool.false_eq_true, if_true, if_false]); rfl) | (simp [mCntR, s1_0, s1_1, s1_2, s1_3, s1_4, s1_5]; done) | (simp [mCntR, s1_0, s1_1, s1_2, s1_3, s1_4, s1_5]; rfl)) dX9_count_141
  rcases Decidable.em (w = 6) with s1_6 | s1_6
  · refine x_v (w := .int 6) (by rw [s1_6]) ?_
    refine x_tableIn C 142 dX9_count_1 (by decide) (by decide) rfl rfl ?_
    refine x_aload_n C dX9_count_142 0 rfl ?_
    refine x_get C (xlo (i := 0) hb_m) (xhi (i := 0) hn_m rfl) (ov_at (i := 0) rfl) f_X9_7 rfl dX9_count_143 ?_
    refine x_bipush C 98 dX9_count_146 rfl ?_
    refine x_iald C (s 98) (xlo (i := 1) hb_m) (xhi (i := 1) hn_m rfl) (ov_at (i := 1) rfl) (vp_in_d rfl) rfl dX9_count_148 ?_
    exact x_iret C Z rfl rfl (by first | (simp only [mCntR, if_neg s1_0, if_neg s1_1, if_neg s1_2, if_neg s1_3, if_neg s1_4, if_neg s1_5, if_pos s1_6, eq_self, Bool.false_eq_true, if_true, if_false]; done) | ((simp only [mCntR, if_neg s1_0, if_neg s1_1, if_neg s1_2, if_neg s1_3, if_neg s1_4, if_neg s1_5, if_pos s1_6, eq_self, Bool.false_eq_true, if_true, if_false]); rfl) | (simp [mCntR, s1_0, s1_1, s1_2, s1_3, s1_4, s1_5, s1_6]; done) | (simp [mCntR, s1_0, s1_1, s1_2, s1_3, s1_4, s1_5, s1_6]; rfl)) (by first | (simp only [mCntR, if_neg s1_0, if_neg s1_1, if_neg s1_2, if_neg s1_3, if_neg s1_4, if_neg s1_5, if_pos s1_6, eq_self, Bool.false_eq_true, if_true, if_false]; done) | ((simp only [mCntR, if_neg s1_0, if_neg s1_1, if_neg s1_2, if_neg s1_3, if_neg s1_4, if_neg s1_5, if_pos s1_6, eq_self, Bool.false_eq_true, if_true, if_false]); rfl) | (simp [mCntR, s1_0, s1_1, s1_2, s1_3, s1_4, s1_5, s1_6]; done) | (simp [mCntR, s1_0, s1_1, s1_2, s1_3, s1_4, s1_5, s1_6]; rfl)) dX9_count_149
  rcases Decidable.em (w = 7) with s1_7 | s1_7
  · refine x_v (w := .int 7) (by rw [s1_7]) ?_
    refine x_tableIn C 150 dX9_count_1 (by decide) (by decide) rfl rfl ?_
    refine x_aload_n C dX9_count_150 0 rfl ?_
    refine x_get C (xlo (i := 0) hb_m) (xhi (i := 0) hn_m rfl) (ov_at (i := 0) rfl) f_X9_29 rfl dX9_count_151 ?_
    exact x_iret C Z rfl rfl (by first | (simp only [mCntR, if_neg s1_0, if_neg s1_1, if_neg s1_2, if_neg s1_3, if_neg s1_4, if_neg s1_5, if_neg s1_6, if_pos s1_7, eq_self, Bool.false_eq_true, if_true, if_false]; done) | ((simp only [mCntR, if_neg s1_0, if_neg s1_1, if_neg s1_2, if_neg s1_3, if_neg s1_4, if_neg s1_5, if_neg s1_6, if_pos s1_7, eq_self, Bool.false_eq_true, if_true, if_false]); rfl) | (simp [mCntR, s1_0, s1_1, s1_2, s1_3, s1_4, s1_5, s1_6, s1_7]; done) | (simp [mCntR, s1_0, s1_1, s1_2, s1_3, s1_4, s1_5, s1_6, s1_7]; rfl)) (by first | (simp only [mCntR, if_neg s1_0, if_neg s1_1, if_neg s1_2, if_neg s1_3, if_neg s1_4, if_neg s1_5, if_neg s1_6, if_pos s1_7, eq_self, Bool.false_eq_true, if_true, if_false]; done) | ((simp only [mCntR, if_neg s1_0, if_neg s1_1, if_neg s1_2, if_neg s1_3, if_neg s1_4, if_neg s1_5, if_neg s1_6, if_pos s1_7, eq_self, Bool.false_eq_true, if_true, if_false]); rfl) | (simp [mCntR, s1_0, s1_1, s1_2, s1_3, s1_4, s1_5, s1_6, s1_7]; done) | (simp [mCntR, s1_0, s1_1, s1_2, s1_3, s1_4, s1_5, s1_6, s1_7]; rfl)) dX9_count_154
  rcases Decidable.em (w = 8) with s1_8 | s1_8
  · refine x_v (w := .int 8) (by rw [s1_8]) ?_
    refine x_tableIn C 155 dX9_count_1 (by decide) (by decide) rfl rfl ?_
    refine x_aload_n C dX9_count_155 0 rfl ?_
    refine x_get C (xlo (i := 0) hb_m) (xhi (i := 0) hn_m rfl) (ov_at (i := 0) rfl) f_X9_111 rfl dX9_count_156 ?_
    exact x_iret C Z rfl rfl (by first | (simp only [mCntR, if_neg s1_0, if_neg s1_1, if_neg s1_2, if_neg s1_3, if_neg s1_4, if_neg s1_5, if_neg s1_6, if_neg s1_7, if_pos s1_8, eq_self, Bool.false_eq_true, if_true, if_false]; done) | ((simp only [mCntR, if_neg s1_0, if_neg s1_1, if_neg s1_2, if_neg s1_3, if_neg s1_4, if_neg s1_5, if_neg s1_6, if_neg s1_7, if_pos s1_8, eq_self, Bool.false_eq_true, if_true, if_false]); rfl) | (simp [mCntR, s1_0, s1_1, s1_2, s1_3, s1_4, s1_5, s1_6, s1_7, s1_8]; done) | (simp [mCntR, s1_0, s1_1, s1_2, s1_3, s1_4, s1_5, s1_6, s1_7, s1_8]; rfl)) (by first | (simp only [mCntR, if_neg s1_0, if_neg s1_1, if_neg s1_2, if_neg s1_3, if_neg s1_4, if_neg s1_5, if_neg s1_6, if_neg s1_7, if_pos s1_8, eq_self, Bool.false_eq_true, if_true, if_false]; done) | ((simp only [mCntR, if_neg s1_0, if_neg s1_1, if_neg s1_2, if_neg s1_3, if_neg s1_4, if_neg s1_5, if_neg s1_6, if_neg s1_7, if_pos s1_8, eq_self, Bool.false_eq_true, if_true, if_false]); rfl) | (simp [mCntR, s1_0, s1_1, s1_2, s1_3, s1_4, s1_5, s1_6, s1_7, s1_8]; done) | (simp [mCntR, s1_0, s1_1, s1_2, s1_3, s1_4, s1_5, s1_6, s1_7, s1_8]; rfl)) dX9_count_159
  rcases Decidable.em (w = 9) with s1_9 | s1_9
  · refine x_v (w := .int 9) (by rw [s1_9]) ?_
    refine x_tableIn C 176 dX9_count_1 (by decide) (by decide) rfl rfl ?_
    refine x_ldc C (-1000001) m_584 dX9_count_176 ?_
    exact x_iret C Z rfl rfl (by first | (simp only [mCntR, if_neg s1_0, if_neg s1_1, if_neg s1_2, if_neg s1_3, if_neg s1_4, if_neg s1_5, if_neg s1_6, if_neg s1_7, if_neg s1_8, if_pos s1_9, eq_self, Bool.false_eq_true, if_true, if_false]; done) | ((simp only [mCntR, if_neg s1_0, if_neg s1_1, if_neg s1_2, if_neg s1_3, if_neg s1_4, if_neg s1_5, if_neg s1_6, if_neg s1_7, if_neg s1_8, if_pos s1_9, eq_self, Bool.false_eq_true, if_true, if_false]); rfl) | (simp [mCntR, s1_0, s1_1, s1_2, s1_3, s1_4, s1_5, s1_6, s1_7, s1_8, s1_9]; done) | (simp [mCntR, s1_0, s1_1, s1_2, s1_3, s1_4, s1_5, s1_6, s1_7, s1_8, s1_9]; rfl)) (by first | (simp only [mCntR, if_neg s1_0, if_neg s1_1, if_neg s1_2, if_neg s1_3, if_neg s1_4, if_neg s1_5, if_neg s1_6, if_neg s1_7, if_neg s1_8, if_pos s1_9, eq_self, Bool.false_eq_true, if_true, if_false]; done) | ((simp only [mCntR, if_neg s1_0, if_neg s1_1, if_neg s1_2, if_neg s1_3, if_neg s1_4, if_neg s1_5, if_neg s1_6, if_neg s1_7, if_neg s1_8, if_pos s1_9, eq_self, Bool.false_eq_true, if_true, if_false]); rfl) | (simp [mCntR, s1_0, s1_1, s1_2, s1_3, s1_4, s1_5, s1_6, s1_7, s1_8, s1_9]; done) | (simp [mCntR, s1_0, s1_1, s1_2, s1_3, s1_4, s1_5, s1_6, s1_7, s1_8, s1_9]; rfl)) dX9_count_178
  rcases Decidable.em (w = 10) with s1_10 | s1_10
  · refine x_v (w := .int 10) (by rw [s1_10]) ?_
    refine x_tableIn C 176 dX9_count_1 (by decide) (by decide) rfl rfl ?_
    refine x_ldc C (-1000001) m_584 dX9_count_176 ?_
    exact x_iret C Z rfl rfl (by first | (simp only [mCntR, if_neg s1_0, if_neg s1_1, if_neg s1_2, if_neg s1_3, if_neg s1_4, if_neg s1_5, if_neg s1_6, if_neg s1_7, if_neg s1_8, if_neg s1_9, if_pos s1_10, eq_self, Bool.false_eq_true, if_true, if_false]; done) | ((simp only [mCntR, if_neg s1_0, if_neg s1_1, if_neg s1_2, if_neg s1_3, if_neg s1_4, if_neg s1_5, if_neg s1_6, if_neg s1_7, if_neg s1_8, if_neg s1_9, if_pos s1_10, eq_self, Bool.false_eq_true, if_true, if_false]); rfl) | (simp [mCntR, s1_0, s1_1, s1_2, s1_3, s1_4, s1_5, s1_6, s1_7, s1_8, s1_9, s1_10]; done) | (simp [mCntR, s1_0, s1_1, s1_2, s1_3, s1_4, s1_5, s1_6, s1_7, s1_8, s1_9, s1_10]; rfl)) (by first | (simp only [mCntR, if_neg s1_0, if_neg s1_1, if_neg s1_2, if_neg s1_3, if_neg s1_4, if_neg s1_5, if_neg s1_6, if_neg s1_7, if_neg s1_8, if_neg s1_9, if_pos s1_10, eq_self, Bool.false_eq_true, if_true, if_false]; done) | ((simp only [mCntR, if_neg s1_0, if_neg s1_1, if_neg s1_2, if_neg s1_3, if_neg s1_4, if_neg s1_5, if_neg s1_6, if_neg s1_7, if_neg s1_8, if_neg s1_9, if_pos s1_10, eq_self, Bool.false_eq_true, if_true, if_false]); rfl) | (simp [mCntR, s1_0, s1_1, s1_2, s1_3, s1_4, s1_5, s1_6, s1_7, s1_8, s1_9, s1_10]; done) | (simp [mCntR, s1_0, s1_1, s1_2, s1_3, s1_4, s1_5, s1_6, s1_7, s1_8, s1_9, s1_10]; rfl)) dX9_count_178
  rcases Decidable.em (w = 11) with s1_11 | s1_11
  · refine x_v (w := .int 11) (by rw [s1_11]) ?_
    refine x_tableIn C 176 dX9_count_1 (by decide) (by decide) rfl rfl ?_
    refine x_ldc C (-1000001) m_584 dX9_count_176 ?_
    exact x_iret C Z rfl rfl (by first | (simp only [mCntR, if_neg s1_0, if_neg s1_1, if_neg s1_2, if_neg s1_3, if_neg s1_4, if_neg s1_5, if_neg s1_6, if_neg s1_7, if_neg s1_8, if_neg s1_9, if_neg s1_10, if_pos s1_11, eq_self, Bool.false_eq_true, if_true, if_false]; done) | ((simp only [mCntR, if_neg s1_0, if_neg s1_1, if_neg s1_2, if_neg s1_3, if_neg s1_4, if_neg s1_5, if_neg s1_6, if_neg s1_7, if_neg s1_8, if_neg s1_9, if_neg s1_10, if_pos s1_11, eq_self, Bool.false_eq_true, if_true, if_false]); rfl) | (simp [mCntR, s1_0, s1_1, s1_2, s1_3, s1_4, s1_5, s1_6, s1_7, s1_8, s1_9, s1_10, s1_11]; done) | (simp [mCntR, s1_0, s1_1, s1_2, s1_3, s1_4, s1_5, s1_6, s1_7, s1_8, s1_9, s1_10, s1_11]; rfl)) (by first | (simp only [mCntR, if_neg s1_0, if_neg s1_1, if_neg s1_2, if_neg s1_3, if_neg s1_4, if_neg s1_5, if_neg s1_6, if_neg s1_7, if_neg s1_8, if_neg s1_9, if_neg s1_10, if_pos s1_11, eq_self, Bool.false_eq_true, if_true, if_false]; done) | ((simp only [mCntR, if_neg s1_0, if_neg s1_1, if_neg s1_2, if_neg s1_3, if_neg s1_4, if_neg s1_5, if_neg s1_6, if_neg s1_7, if_neg s1_8, if_neg s1_9, if_neg s1_10, if_pos s1_11, eq_self, Bool.false_eq_true, if_true, if_false]); rfl) | (simp [mCntR, s1_0, s1_1, s1_2, s1_3, s1_4, s1_5, s1_6, s1_7, s1_8, s1_9, s1_10, s1_11]; done) | (simp [mCntR, s1_0, s1_1, s1_2, s1_3, s1_4, s1_5, s1_6, s1_7, s1_8, s1_9, s1_10, s1_11]; rfl)) dX9_count_178
  rcases Decidable.em (w = 12) with s1_12 | s1_12
  · refine x_v (w := .int 12) (by rw [s1_12]) ?_
    refine x_tableIn C 176 dX9_count_1 (by decide) (by decide) rfl rfl ?_
    refine x_ldc C (-1000001) m_584 dX9_count_176 ?_
    exact x_iret C Z rfl rfl (by first | (simp only [mCntR, if_neg s1_0, if_neg s1_1, if_neg s1_2, if_neg s1_3, if_neg s1_4, if_neg s1_5, if_neg s1_6, if_neg s1_7, if_neg s1_8, if_neg s1_9, if_neg s1_10, if_neg s1_11, if_pos s1_12, eq_self, Bool.false_eq_true, if_true, if_false]; done) | ((simp only [mCntR, if_neg s1_0, if_neg s1_1, if_neg s1_2, if_neg s1_3, if_neg s1_4, if_neg s1_5, if_neg s1_6, if_neg s1_7, if_neg s1_8, if_neg s1_9, if_neg s1_10, if_neg s1_11, if_pos s1_12, eq_self, Bool.false_eq_true, if_true, if_false]); rfl) | (simp [mCntR, s1_0, s1_1, s1_2, s1_3, s1_4, s1_5, s1_6, s1_7, s1_8, s1_9, s1_10, s1_11, s1_12]; done) | (simp [mCntR, s1_0, s1_1, s1_2, s1_3, s1_4, s1_5, s1_6, s1_7, s1_8, s1_9, s1_10, s1_11, s1_12]; rfl)) (by first | (simp only [mCntR, if_neg s1_0, if_neg s1_1, if_neg s1_2, if_neg s1_3, if_neg s1_4, if_neg s1_5, if_neg s1_6, if_neg s1_7, if_neg s1_8, if_neg s1_9, if_neg s1_10, if_neg s1_11, if_pos s1_12, eq_self, Bool.false_eq_true, if_true, if_false]; done) | ((simp only [mCntR, if_neg s1_0, if_neg s1_1, if_neg s1_2, if_neg s1_3, if_neg s1_4, if_neg s1_5, if_neg s1_6, if_neg s1_7, if_neg s1_8, if_neg s1_9, if_neg s1_10, if_neg s1_11, if_pos s1_12, eq_self, Bool.false_eq_true, if_true, if_false]); rfl) | (simp [mCntR, s1_0, s1_1, s1_2, s1_3, s1_4, s1_5, s1_6, s1_7, s1_8, s1_9, s1_10, s1_11, s1_12]; done) | (simp [mCntR, s1_0, s1_1, s1_2, s1_3, s1_4, s1_5, s1_6, s1_7, s1_8, s1_9, s1_10, s1_11, s1_12]; rfl)) dX9_count_178
  rcases Decidable.em (w = 13) with s1_13 | s1_13
  · refine x_v (w := .int 13) (by rw [s1_13]) ?_
    refine x_tableIn C 176 dX9_count_1 (by decide) (by decide) rfl rfl ?_
    refine x_ldc C (-1000001) m_584 dX9_count_176 ?_
    exact x_iret C Z rfl rfl (by first | (simp only [mCntR, if_neg s1_0, if_neg s1_1, if_neg s1_2, if_neg s1_3, if_neg s1_4, if_neg s1_5, if_neg s1_6, if_neg s1_7, if_neg s1_8, if_neg s1_9, if_neg s1_10, if_neg s1_11, if_neg s1_12, if_pos s1_13, eq_self, Bool.false_eq_true, if_true, if_false]; done) | ((simp only [mCntR, if_neg s1_0, if_neg s1_1, if_neg s1_2, if_neg s1_3, if_neg s1_4, if_neg s1_5, if_neg s1_6, if_neg s1_7, if_neg s1_8, if_neg s1_9, if_neg s1_10, if_neg s1_11, if_neg s1_12, if_pos s1_13, eq_self, Bool.false_eq_true, if_true, if_false]); rfl) | (simp [mCntR, s1_0, s1_1, s1_2, s1_3, s1_4, s1_5, s1_6, s1_7, s1_8, s1_9, s1_10, s1_11, s1_12, s1_13]; done) | (simp [mCntR, s1_0, s1_1, s1_2, s1_3, s1_4, s1_5, s1_6, s1_7, s1_8, s1_9, s1_10, s1_11, s1_12, s1_13]; rfl)) (by first | (simp only [mCntR, if_neg s1_0, if_neg s1_1, if_neg s1_2, if_neg s1_3, if_neg s1_4, if_neg s1_5, if_neg s1_6, if_neg s1_7, if_neg s1_8, if_neg s1_9, if_neg s1_10, if_neg s1_11, if_neg s1_12, if_pos s1_13, eq_self, Bool.false_eq_true, if_true, if_false]; done) | ((simp only [mCntR, if_neg s1_0, if_neg s1_1, if_neg s1_2, if_neg s1_3, if_neg s1_4, if_neg s1_5, if_neg s1_6, if_neg s1_7, if_neg s1_8, if_neg s1_9, if_neg s1_10, if_neg s1_11, if_neg s1_12, if_pos s1_13, eq_self, Bool.false_eq_true, if_true, if_false]); rfl) | (simp [mCntR, s1_0, s1_1, s1_2, s1_3, s1_4, s1_5, s1_6, s1_7, s1_8, s1_9, s1_10, s1_11, s1_12, s1_13]; done) | (simp [mCntR, s1_0, s1_1, s1_2, s1_3, s1_4, s1_5, s1_6, s1_7, s1_8, s1_9, s1_10, s1_11, s1_12, s1_13]; rfl)) dX9_count_178
  rcases Decidable.em (w = 14) with s1_14 | s1_14
  · refine x_v (w := .int 14) (by rw [s1_14]) ?_
    refine x_tableIn C 176 dX9_count_1 (by decide) (by decide) rfl rfl ?_
    refine x_ldc C (-1000001) m_584 dX9_count_176 ?_
    exact x_iret C Z rfl rfl (by first | (simp only [mCntR, if_neg s1_0, if_neg s1_1, if_neg s1_2, if_neg s1_3, if_neg s1_4, if_neg s1_5, if_neg s1_6, if_neg s1_7, if_neg s1_8, if_neg s1_9, if_neg s1_10, if_neg s1_11, if_neg s1_12, if_neg s1_13, if_pos s1_14, eq_self, Bool.false_eq_true, if_true, if_false]; done) | ((simp only [mCntR, if_neg s1_0, if_neg s1_1, if_neg s1_2, if_neg s1_3, if_neg s1_4, if_neg s1_5, if_neg s1_6, if_neg s1_7, if_neg s1_8, if_neg s1_9, if_neg s1_10, if_neg s1_11, if_neg s1_12, if_neg s1_13, if_pos s1_14, eq_self, Bool.false_eq_true, if_true, if_false]); rfl) | (simp [mCntR, s1_0, s1_1, s1_2, s1_3, s1_4, s1_5, s1_6, s1_7, s1_8, s1_9, s1_10, s1_11, s1_12, s1_13, s1_14]; done) | (simp [mCntR, s1_0, s1_1, s1_2, s1_3, s1_4, s1_5, s1_6, s1_7, s1_8, s1_9, s1_10, s1_11, s1_12, s1_13, s1_14]; rfl)) (by first | (simp only [mCntR, if_neg s1_0, if_neg s1_1, if_neg s1_2, if_neg s1_3, if_neg s1_4, if_neg s1_5, if_neg s1_6, if_neg s1_7, if_neg s1_8, if_neg s1_9, if_neg s1_10, if_neg s1_11, if_neg s1_12, if_neg s1_13, if_pos s1_14, eq_self, Bool.false_eq_true, if_true, if_false]; done) | ((simp only [mCntR, if_neg s1_0, if_neg s1_1, if_neg s1_2, if_neg s1_3, if_neg s1_4, if_neg s1_5, if_neg s1_6, if_neg s1_7, if_neg s1_8, if_neg s1_9, if_neg s1_10, if_neg s1_11, if_neg s1_12, if_neg s1_13, if_pos s1_14, eq_self, Bool.false_eq_true, if_true, if_false]); rfl) | (simp [mCntR, s1_0, s1_1, s1_2, s1_3, s1_4, s1_5, s1_6, s1_7, s1_8, s1_9, s1_10, s1_11, s1_12, s1_13, s1_14]; done) | (simp [mCntR, s1_0, s1_1, s1_2, s1_3, s1_4, s1_5, s1_6, s1_7, s1_8, s1_9, s1_10, s1_11, s1_12, s1_13, s1_14]; rfl)) dX9_count_178
  rcases Decidable.em (w = 15) with s1_15 | s1_15
  · refine x_v (w := .int 15) (by rw [s1_15]) ?_
    refine x_tableIn C 176 dX9_count_1 (by decide) (by decide) rfl rfl ?_
    refine x_ldc C (-1000001) m_584 dX9_count_176 ?_
    exact x_iret C Z rfl rfl (by first | (simp only [mCntR, if_neg s1_0, if_neg s1_1, if_neg s1_2, if_neg s1_3, if_neg s1_4, if_neg s1_5, if_neg s1_6, if_neg s1_7, if_neg s1_8, if_neg s1_9, if_neg s1_10, if_neg s1_11, if_neg s1_12, if_neg s1_13, if_neg s1_14, if_pos s1_15, eq_self, Bool.false_eq_true, if_true, if_false]; done) | ((simp only [mCntR, if_neg s1_0, if_neg s1_1, if_neg s1_2, if_neg s1_3, if_neg s1_4, if_neg s1_5, if_neg s1_6, if_neg s1_7, if_neg s1_8, if_neg s1_9, if_neg s1_10, if_neg s1_11, if_neg s1_12, if_neg s1_13, if_neg s1_14, if_pos s1_15, eq_self, Bool.false_eq_true, if_true, if_false]); rfl) | (simp [mCntR, s1_0, s1_1, s1_2, s1_3, s1_4, s1_5, s1_6, s1_7, s1_8, s1_9, s1_10, s1_11, s1_12, s1_13, s1_14, s1_15]; done) | (simp [mCntR, s1_0, s1_1, s1_2, s1_3, s1_4, s1_5, s1_6, s1_7, s1_8, s1_9, s1_10, s1_11, s1_12, s1_13, s1_14, s1_15]; rfl)) (by first | (simp only [mCntR, if_neg s1_0, if_neg s1_1, if_neg s1_2, if_neg s1_3, if_neg s1_4, if_neg s1_5, if_neg s1_6, if_neg s1_7, if_neg s1_8, if_neg s1_9, if_neg s1_10, if_neg s1_11, if_neg s1_12, if_neg s1_13, if_neg s1_14, if_pos s1_15, eq_self, Bool.false_eq_true, if_true, if_false]; done) | ((simp only [mCntR, if_neg s1_0, if_neg s1_1, if_neg s1_2, if_neg s1_3, if_neg s1_4, if_neg s1_5, if_neg s1_6, if_neg s1_7, if_neg s1_8, if_neg s1_9, if_neg s1_10, if_neg s1_11, if_neg s1_12, if_neg s1_13, if_neg s1_14, if_pos s1_15, eq_self, Bool.false_eq_true, if_true, if_false]); rfl) | (simp [mCntR, s1_0, s1_1, s1_2, s1_3, s1_4, s1_5, s1_6, s1_7, s1_8, s1_9, s1_10, s1_11, s1_12, s1_13, s1_14, s1_15]; done) | (simp [mCntR, s1_0, s1_1, s1_2, s1_3, s1_4, s1_5, s1_6, s1_7, s1_8, s1_9, s1_10, s1_11, s1_12, s1_13, s1_14, s1_15]; rfl)) dX9_count_178
  rcases Decidable.em (w = 16) with s1_16 | s1_16
  · refine x_v (w := .int 16) (by rw [s1_16]) ?_
    refine x_tableIn C 176 dX9_count_1 (by decide) (by decide) rfl rfl ?_
    refine x_ldc C (-1000001) m_584 dX9_count_176 ?_
    exact x_iret C Z rfl rfl (by first | (simp only [mCntR, if_neg s1_0, if_neg s1_1, if_neg s1_2, if_neg s1_3, if_neg s1_4, if_neg s1_5, if_neg s1_6, if_neg s1_7, if_neg s1_8, if_neg s1_9, if_neg s1_10, if_neg s1_11, if_neg s1_12, if_neg s1_13, if_neg s1_14, if_neg s1_15, if_pos s1_16, eq_self, Bool.false_eq_true, if_true, if_false]; done) | ((simp only [mCntR, if_neg s1_0, if_neg s1_1, if_neg s1_2, if_neg s1_3, if_neg s1_4, if_neg s1_5, if_neg s1_6, if_neg s1_7, if_neg s1_8, if_neg s1_9, if_neg s1_10, if_neg s1_11, if_neg s1_12, if_neg s1_13, if_neg s1_14, if_neg s1_15, if_pos s1_16, eq_self, Bool.false_eq_true, if_true, if_false]); rfl) | (simp [mCntR, s1_0, s1_1, s1_2, s1_3, s1_4, s1_5, s1_6, s1_7, s1_8, s1_9, s1_10, s1_11, s1_12, s1_13, s1_14, s1_15, s1_16]; done) | (simp [mCntR, s1_0, s1_1, s1_2, s1_3, s1_4, s1_5, s1_6, s1_7, s1_8, s1_9, s1_10, s1_11, s1_12, s1_13, s1_14, s1_15, s1_16]; rfl)) (by first | (simp only [mCntR, if_neg s1_0, if_neg s1_1, if_neg s1_2, if_neg s1_3, if_neg s1_4, if_neg s1_5, if_neg s1_6, if_neg s1_7, if_neg s1_8, if_neg s1_9, if_neg s1_10, if_neg s1_11, if_neg s1_12, if_neg s1_13, if_neg s1_14, if_neg s1_15, if_pos s1_16, eq_self, Bool.false_eq_true, if_true, if_false]; done) | ((simp only [mCntR, if_neg s1_0, if_neg s1_1, if_neg s1_2, if_neg s1_3, if_neg s1_4, if_neg s1_5, if_neg s1_6, if_neg s1_7, if_neg s1_8, if_neg s1_9, if_neg s1_10, if_neg s1_11, if_neg s1_12, if_neg s1_13, if_neg s1_14, if_neg s1_15, if_pos s1_16, eq_self, Bool.false_eq_true, if_true, if_false]); rfl) | (simp [mCntR, s1_0, s1_1, s1_2, s1_3, s1_4, s1_5, s1_6, s1_7, s1_8, s1_9, s1_10, s1_11, s1_12, s1_13, s1_14, s1_15, s1_16]; done) | (simp [mCntR, s1_0, s1_1, s1_2, s1_3, s1_4, s1_5, s1_6, s1_7, s1_8, s1_9, s1_10, s1_11, s1_12, s1_13, s1_14, s1_15, s1_16]; rfl)) dX9_count_178
  rcases Decidable.em (w = 17) with s1_17 | s1_17
  · refine x_v (w := .int 17) (by rw [s1_17]) ?_
    refine x_tableIn C 176 dX9_count_1 (by decide) (by decide) rfl rfl ?_
    refine x_ldc C (-1000001) m_584 dX9_count_176 ?_
    exact x_iret C Z rfl rfl (by first | (simp only [mCntR, if_neg s1_0, if_neg s1_1, if_neg s1_2, if_neg s1_3, if_neg s1_4, if_neg s1_5, if_neg s1_6, if_neg s1_7, if_neg s1_8, if_neg s1_9, if_neg s1_10, if_neg s1_11, if_neg s1_12, if_neg s1_13, if_neg s1_14, if_neg s1_15, if_neg s1_16, if_pos s1_17, eq_self, Bool.false_eq_true, if_true, if_false]; done) | ((simp only [mCntR, if_neg s1_0, if_neg s1_1, if_neg s1_2, if_neg s1_3, if_neg s1_4, if_neg s1_5, if_neg s1_6, if_neg s1_7, if_neg s1_8, if_neg s1_9, if_neg s1_10, if_neg s1_11, if_neg s1_12, if_neg s1_13, if_neg s1_14, if_neg s1_15, if_neg s1_16, if_pos s1_17, eq_self, Bool.false_eq_true, if_true, if_false]); rfl) | (simp [mCntR, s1_0, s1_1, s1_2, s1_3, s1_4, s1_5, s1_6, s1_7, s1_8, s1_9, s1_10, s1_11, s1_12, s1_13, s1_14, s1_15, s1_16, s1_17]; done) | (simp [mCntR, s1_0, s1_1, s1_2, s1_3, s1_4, s1_5, s1_6, s1_7, s1_8, s1_9, s1_10, s1_11, s1_12, s1_13, s1_14, s1_15, s1_16, s1_17]; rfl)) (by first | (simp only [mCntR, if_neg s1_0, if_neg s1_1, if_neg s1_2, if_neg s1_3, if_neg s1_4, if_neg s1_5, if_neg s1_6, if_neg s1_7, if_neg s1_8, if_neg s1_9, if_neg s1_10, if_neg s1_11, if_neg s1_12, if_neg s1_13, if_neg s1_14, if_neg s1_15, if_neg s1_16, if_pos s1_17, eq_self, Bool.false_eq_true, if_true, if_false]; done) | ((simp only [mCntR, if_neg s1_0, if_neg s1_1, if_neg s1_2, if_neg s1_3, if_neg s1_4, if_neg s1_5, if_neg s1_6, if_neg s1_7, if_neg s1_8, if_neg s1_9, if_neg s1_10, if_neg s1_11, if_neg s1_12, if_neg s1_13, if_neg s1_14, if_neg s1_15, if_neg s1_16, if_pos s1_17, eq_self, Bool.false_eq_true, if_true, if_false]); rfl) | (simp [mCntR, s1_0, s1_1, s1_2, s1_3, s1_4, s1_5, s1_6, s1_7, s1_8, s1_9, s1_10, s1_11, s1_12, s1_13, s1_14, s1_15, s1_16, s1_17]; done) | (simp [mCntR, s1_0, s1_1, s1_2, s1_3, s1_4, s1_5, s1_6, s1_7, s1_8, s1_9, s1_10, s1_11, s1_12, s1_13, s1_14, s1_15, s1_16, s1_17]; rfl)) dX9_count_178
  rcases Decidable.em (w = 18) with s1_18 | s1_18
  · refine x_v (w := .int 18) (by rw [s1_18]) ?_
    refine x_tableIn C 176 dX9_count_1 (by decide) (by decide) rfl rfl ?_
    refine x_ldc C (-1000001) m_584 dX9_count_176 ?_
    exact x_iret C Z rfl rfl (by first | (simp only [mCntR, if_neg s1_0, if_neg s1_1, if_neg s1_2, if_neg s1_3, if_neg s1_4, if_neg s1_5, if_neg s1_6, if_neg s1_7, if_neg s1_8, if_neg s1_9, if_neg s1_10, if_neg s1_11, if_neg s1_12, if_neg s1_13, if_neg s1_14, if_neg s1_15, if_neg s1_16, if_neg s1_17, if_pos s1_18, eq_self, Bool.false_eq_true, if_true, if_false]; done) | ((simp only [mCntR, if_neg s1_0, if_neg s1_1, if_neg s1_2, if_neg s1_3, if_neg s1_4, if_neg s1_5, if_neg s1_6, if_neg s1_7, if_neg s1_8, if_neg s1_9, if_neg s1_10, if_neg s1_11, if_neg s1_12, if_neg s1_13, if_neg s1_14, if_neg s1_15, if_neg s1_16, if_neg s1_17, if_pos s1_18, eq_self, Bool.false_eq_true, if_true, if_false]); rfl) | (simp [mCntR, s1_0, s1_1, s1_2, s1_3, s1_4, s1_5, s1_6, s1_7, s1_8, s1_9, s1_10, s1_11, s1_12, s1_13, s1_14, s1_15, s1_16, s1_17, s1_18]; done) | (simp [mCntR, s1_0, s1_1, s1_2, s1_3, s1_4, s1_5, s1_6, s1_7, s1_8, s1_9, s1_10, s1_11, s1_12, s1_13, s1_14, s1_15, s1_16, s1_17, s1_18]; rfl)) (by first | (simp only [mCntR, if_neg s1_0, if_neg s1_1, if_neg s1_2, if_neg s1_3, if_neg s1_4, if_neg s1_5, if_neg s1_6, if_neg s1_7, if_neg s1_8, if_neg s1_9, if_neg s1_10, if_neg s1_11, if_neg s1_12, if_neg s1_13, if_neg s1_14, if_neg s1_15, if_neg s1_16, if_neg s1_17, if_pos s1_18, eq_self, Bool.false_eq_true, if_true, if_false]; done) | ((simp only [mCntR, if_neg s1_0, if_neg s1_1, if_neg s1_2, if_neg s1_3, if_neg s1_4, if_neg s1_5, if_neg s1_6, if_neg s1_7, if_neg s1_8, if_neg s1_9, if_neg s1_10, if_neg s1_11, if_neg s1_12, if_neg s1_13, if_neg s1_14, if_neg s1_15, if_neg s1_16, if_neg s1_17, if_pos s1_18, eq_self, Bool.false_eq_true, if_true, if_false]); rfl) | (simp [mCntR, s1_0, s1_1, s1_2, s1_3, s1_4, s1_5, s1_6, s1_7, s1_8, s1_9, s1_10, s1_11, s1_12, s1_13, s1_14, s1_15, s1_16, s1_17, s1_18]; done) | (simp [mCntR, s1_0, s1_1, s1_2, s1_3, s1_4, s1_5, s1_6, s1_7, s1_8, s1_9, s1_10, s1_11, s1_12, s1_13, s1_14, s1_15, s1_16, s1_17, s1_18]; rfl)) dX9_count_178
  rcases Decidable.em (w = 19) with s1_19 | s1_19
  · refine x_v (w := .int 19) (by rw [s1_19]) ?_
    refine x_tableIn C 176 dX9_count_1 (by decide) (by decide) rfl rfl ?_
    refine x_ldc C (-1000001) m_584 dX9_count_176 ?_
    exact x_iret C Z rfl rfl (by first | (simp only [mCntR, if_neg s1_0, if_neg s1_1, if_neg s1_2, if_neg s1_3, if_neg s1_4, if_neg s1_5, if_neg s1_6, if_neg s1_7, if_neg s1_8, if_neg s1_9, if_neg s1_10, if_neg s1_11, if_neg s1_12, if_neg s1_13, if_neg s1_14, if_neg s1_15, if_neg s1_16, if_neg s1_17, if_neg s1_18, if_pos s1_19, eq_self, Bool.false_eq_true, if_true, if_false]; done) | ((simp only [mCntR, if_neg s1_0, if_neg s1_1, if_neg s1_2, if_neg s1_3, if_neg s1_4, if_neg s1_5, if_neg s1_6, if_neg s1_7, if_neg s1_8, if_neg s1_9, if_neg s1_10, if_neg s1_11, if_neg s1_12, if_neg s1_13, if_neg s1_14, if_neg s1_15, if_neg s1_16, if_neg s1_17, if_neg s1_18, if_pos s1_19, eq_self, Bool.false_eq_true, if_true, if_false]); rfl) | (simp [mCntR, s1_0, s1_1, s1_2, s1_3, s1_4, s1_5, s1_6, s1_7, s1_8, s1_9, s1_10, s1_11, s1_12, s1_13, s1_14, s1_15, s1_16, s1_17, s1_18, s1_19]; done) | (simp [mCntR, s1_0, s1_1, s1_2, s1_3, s1_4, s1_5, s1_6, s1_7, s1_8, s1_9, s1_10, s1_11, s1_12, s1_13, s1_14, s1_15, s1_16, s1_17, s1_18, s1_19]; rfl)) (by first | (simp only [mCntR, if_neg s1_0, if_neg s1_1, if_neg s1_2, if_neg s1_3, if_neg s1_4, if_neg s1_5, if_neg s1_6, if_neg s1_7, if_neg s1_8, if_neg s1_9, if_neg s1_10, if_neg s1_11, if_neg s1_12, if_neg s1_13, if_neg s1_14, if_neg s1_15, if_neg s1_16, if_neg s1_17, if_neg s1_18, if_pos s1_19, eq_self, Bool.false_eq_true, if_true, if_false]; done) | ((simp only [mCntR, if_neg s1_0, if_neg s1_1, if_neg s1_2, if_neg s1_3, if_neg s1_4, if_neg s1_5, if_neg s1_6, if_neg s1_7, if_neg s1_8, if_neg s1_9, if_neg s1_10, if_neg s1_11, if_neg s1_12, if_neg s1_13, if_neg s1_14, if_neg s1_15, if_neg s1_16, if_neg s1_17, if_neg s1_18, if_pos s1_19, eq_self, Bool.false_eq_true, if_true, if_false]); rfl) | (simp [mCntR, s1_0, s1_1, s1_2, s1_3, s1_4, s1_5, s1_6, s1_7, s1_8, s1_9, s1_10, s1_11, s1_12, s1_13, s1_14, s1_15, s1_16, s1_17, s1_18, s1_19]; done) | (simp [mCntR, s1_0, s1_1, s1_2, s1_3, s1_4, s1_5, s1_6, s1_7, s1_8, s1_9, s1_10, s1_11, s1_12, s1_13, s1_14, s1_15, s1_16, s1_17, s1_18, s1_19]; rfl)) dX9_count_178
  rcases Decidable.em (w = 20) with s1_20 | s1_20
  · refine x_v (w := .int 20) (by rw [s1_20]) ?_
    refine x_tableIn C 160 dX9_count_1 (by decide) (by decide) rfl rfl ?_
    refine x_aload_n C dX9_count_160 0 rfl ?_
    refine x_get C (xlo (i := 0) hb_m) (xhi (i := 0) hn_m rfl) (ov_at (i := 0) rfl) f_X9_7 rfl dX9_count_161 ?_
    refine x_bipush C 79 dX9_count_164 rfl ?_
    refine x_iald C (s 79) (xlo (i := 1) hb_m) (xhi (i := 1) hn_m rfl) (ov_at (i := 1) rfl) (vp_in_d rfl) rfl dX9_count_166 ?_
    exact x_iret C Z rfl rfl (by first | (simp only [mCntR, if_neg s1_0, if_neg s1_1, if_neg s1_2, if_neg s1_3, if_neg s1_4, if_neg s1_5, if_neg s1_6, if_neg s1_7, if_neg s1_8, if_neg s1_9, if_neg s1_10, if_neg s1_11, if_neg s1_12, if_neg s1_13, if_neg s1_14, if_neg s1_15, if_neg s1_16, if_neg s1_17, if_neg s1_18, if_neg s1_19, if_pos s1_20, eq_self, Bool.false_eq_true, if_true, if_false]; done) | ((simp only [mCntR, if_neg s1_0, if_neg s1_1, if_neg s1_2, if_neg s1_3, if_neg s1_4, if_neg s1_5, if_neg s1_6, if_neg s1_7, if_neg s1_8, if_neg s1_9, if_neg s1_10, if_neg s1_11, if_neg s1_12, if_neg s1_13, if_neg s1_14, if_neg s1_15, if_neg s1_16, if_neg s1_17, if_neg s1_18, if_neg s1_19, if_pos s1_20, eq_self, Bool.false_eq_true, if_true, if_false]); rfl) | (simp [mCntR, s1_0, s1_1, s1_2, s1_3, s1_4, s1_5, s1_6, s1_7, s1_8, s1_9, s1_10, s1_11, s1_12, s1_13, s1_14, s1_15, s1_16, s1_17, s1_18, s1_19, s1_20]; done) | (simp [mCntR, s1_0, s1_1, s1_2, s1_3, s1_4, s1_5, s1_6, s1_7, s1_8, s1_9, s1_10, s1_11, s1_12, s1_13, s1_14, s1_15, s1_16, s1_17, s1_18, s1_19, s1_20]; rfl)) (by first | (simp only [mCntR, if_neg s1_0, if_neg s1_1, if_neg s1_2, if_neg s1_3, if_neg s1_4, if_neg s1_5, if_neg s1_6, if_neg s1_7, if_neg s1_8, if_neg s1_9, if_neg s1_10, if_neg s1_11, if_neg s1_12, if_neg s1_13, if_neg s1_14, if_neg s1_15, if_neg s1_16, if_neg s1_17, if_neg s1_18, if_neg s1_19, if_pos s1_20, eq_self, Bool.false_eq_true, if_true, if_false]; done) | ((simp only [mCntR, if_neg s1_0, if_neg s1_1, if_neg s1_2, if_neg s1_3, if_neg s1_4, if_neg s1_5, if_neg s1_6, if_neg s1_7, if_neg s1_8, if_neg s1_9, if_neg s1_10, if_neg s1_11, if_neg s1_12, if_neg s1_13, if_neg s1_14, if_neg s1_15, if_neg s1_16, if_neg s1_17, if_neg s1_18, if_neg s1_19, if_pos s1_20, eq_self, Bool.false_eq_true, if_true, if_false]); rfl) | (simp [mCntR, s1_0, s1_1, s1_2, s1_3, s1_4, s1_5, s1_6, s1_7, s1_8, s1_9, s1_10, s1_11, s1_12, s1_13, s1_14, s1_15, s1_16, s1_17, s1_18, s1_19, s1_20]; done) | (simp [mCntR, s1_0, s1_1, s1_2, s1_3, s1_4, s1_5, s1_6, s1_7, s1_8, s1_9, s1_10, s1_11, s1_12, s1_13, s1_14, s1_15, s1_16, s1_17, s1_18, s1_19, s1_20]; rfl)) dX9_count_167
  rcases Decidable.em (w = 21) with s1_21 | s1_21
  · refine x_v (w := .int 21) (by rw [s1_21]) ?_
    refine x_tableIn C 168 dX9_count_1 (by decide) (by decide) rfl rfl ?_
    refine x_aload_n C dX9_count_168 0 rfl ?_
    refine x_get C (xlo (i := 0) hb_m) (xhi (i := 0) hn_m rfl) (ov_at (i := 0) rfl) f_X9_7 rfl dX9_count_169 ?_
    refine x_bipush C 80 dX9_count_172 rfl ?_
    refine x_iald C (s 80) (xlo (i := 1) hb_m) (xhi (i := 1) hn_m rfl) (ov_at (i := 1) rfl) (vp_in_d rfl) rfl dX9_count_174 ?_
    exact x_iret C Z rfl rfl (by first | (simp only [mCntR, if_neg s1_0, if_neg s1_1, if_neg s1_2, if_neg s1_3, if_neg s1_4, if_neg s1_5, if_neg s1_6, if_neg s1_7, if_neg s1_8, if_neg s1_9, if_neg s1_10, if_neg s1_11, if_neg s1_12, if_neg s1_13, if_neg s1_14, if_neg s1_15, if_neg s1_16, if_neg s1_17, if_neg s1_18, if_neg s1_19, if_neg s1_20, if_pos s1_21, eq_self, Bool.false_eq_true, if_true, if_false]; done) | ((simp only [mCntR, if_neg s1_0, if_neg s1_1, if_neg s1_2, if_neg s1_3, if_neg s1_4, if_neg s1_5, if_neg s1_6, if_neg s1_7, if_neg s1_8, if_neg s1_9, if_neg s1_10, if_neg s1_11, if_neg s1_12, if_neg s1_13, if_neg s1_14, if_neg s1_15, if_neg s1_16, if_neg s1_17, if_neg s1_18, if_neg s1_19, if_neg s1_20, if_pos s1_21, eq_self, Bool.false_eq_true, if_true, if_false]); rfl) | (simp [mCntR, s1_0, s1_1, s1_2, s1_3, s1_4, s1_5, s1_6, s1_7, s1_8, s1_9, s1_10, s1_11, s1_12, s1_13, s1_14, s1_15, s1_16, s1_17, s1_18, s1_19, s1_20, s1_21]; done) | (simp [mCntR, s1_0, s1_1, s1_2, s1_3, s1_4, s1_5, s1_6, s1_7, s1_8, s1_9, s1_10, s1_11, s1_12, s1_13, s1_14, s1_15, s1_16, s1_17, s1_18, s1_19, s1_20, s1_21]; rfl)) (by first | (simp only [mCntR, if_neg s1_0, if_neg s1_1, if_neg s1_2, if_neg s1_3, if_neg s1_4, if_neg s1_5, if_neg s1_6, if_neg s1_7, if_neg s1_8, if_neg s1_9, if_neg s1_10, if_neg s1_11, if_neg s1_12, if_neg s1_13, if_neg s1_14, if_neg s1_15, if_neg s1_16, if_neg s1_17, if_neg s1_18, if_neg s1_19, if_neg s1_20, if_pos s1_21, eq_self, Bool.false_eq_true, if_true, if_false]; done) | ((simp only [mCntR, if_neg s1_0, if_neg s1_1, if_neg s1_2, if_neg s1_3, if_neg s1_4, if_neg s1_5, if_neg s1_6, if_neg s1_7, if_neg s1_8, if_neg s1_9, if_neg s1_10, if_neg s1_11, if_neg s1_12, if_neg s1_13, if_neg s1_14, if_neg s1_15, if_neg s1_16, if_neg s1_17, if_neg s1_18, if_neg s1_19, if_neg s1_20, if_pos s1_21, eq_self, Bool.false_eq_true, if_true, if_false]); rfl) | (simp [mCntR, s1_0, s1_1, s1_2, s1_3, s1_4, s1_5, s1_6, s1_7, s1_8, s1_9, s1_10, s1_11, s1_12, s1_13, s1_14, s1_15, s1_16, s1_17, s1_18, s1_19, s1_20, s1_21]; done) | (simp [mCntR, s1_0, s1_1, s1_2, s1_3, s1_4, s1_5, s1_6, s1_7, s1_8, s1_9, s1_10, s1_11, s1_12, s1_13, s1_14, s1_15, s1_16, s1_17, s1_18, s1_19, s1_20, s1_21]; rfl)) dX9_count_175
  refine x_tableOut C 176 dX9_count_1 (by have q0 := lv_neT (a := 0) s1_0 rfl; have q1 := lv_neT (a := 1) s1_1 rfl; have q2 := lv_neT (a := 2) s1_2 rfl; have q3 := lv_neT (a := 3) s1_3 rfl; have q4 := lv_neT (a := 4) s1_4 rfl; have q5 := lv_neT (a := 5) s1_5 rfl; have q6 := lv_neT (a := 6) s1_6 rfl; have q7 := lv_neT (a := 7) s1_7 rfl; have q8 := lv_neT (a := 8) s1_8 rfl; have q9 := lv_neT (a := 9) s1_9 rfl; have q10 := lv_neT (a := 10) s1_10 rfl; have q11 := lv_neT (a := 11) s1_11 rfl; have q12 := lv_neT (a := 12) s1_12 rfl; have q13 := lv_neT (a := 13) s1_13 rfl; have q14 := lv_neT (a := 14) s1_14 rfl; have q15 := lv_neT (a := 15) s1_15 rfl; have q16 := lv_neT (a := 16) s1_16 rfl; have q17 := lv_neT (a := 17) s1_17 rfl; have q18 := lv_neT (a := 18) s1_18 rfl; have q19 := lv_neT (a := 19) s1_19 rfl; have q20 := lv_neT (a := 20) s1_20 rfl; have q21 := lv_neT (a := 21) s1_21 rfl; omega) rfl ?_
  refine x_ldc C (-1000001) m_584 dX9_count_176 ?_
  exact x_iret C Z rfl rfl (by first | (simp only [mCntR, if_neg s1_0, if_neg s1_1, if_neg s1_2, if_neg s1_3, if_neg s1_4, if_neg s1_5, if_neg s1_6, if_neg s1_7, if_neg s1_8, if_neg s1_9, if_neg s1_10, if_neg s1_11, if_neg s1_12, if_neg s1_13, if_neg s1_14, if_neg s1_15, if_neg s1_16, if_neg s1_17, if_neg s1_18, if_neg s1_19, if_neg s1_20, if_neg s1_21, eq_self, Bool.false_eq_true, if_true, if_false]; done) | ((simp only [mCntR, if_neg s1_0, if_neg s1_1, if_neg s1_2, if_neg s1_3, if_neg s1_4, if_neg s1_5, if_neg s1_6, if_neg s1_7, if_neg s1_8, if_neg s1_9, if_neg s1_10, if_neg s1_11, if_neg s1_12, if_neg s1_13, if_neg s1_14, if_neg s1_15, if_neg s1_16, if_neg s1_17, if_neg s1_18, if_neg s1_19, if_neg s1_20, if_neg s1_21, eq_self, Bool.false_eq_true, if_true, if_false]); rfl) | (simp [mCntR, s1_0, s1_1, s1_2, s1_3, s1_4, s1_5, s1_6, s1_7, s1_8, s1_9, s1_10, s1_11, s1_12, s1_13, s1_14, s1_15, s1_16, s1_17, s1_18, s1_19, s1_20, s1_21]; done) | (simp [mCntR, s1_0, s1_1, s1_2, s1_3, s1_4, s1_5, s1_6, s1_7, s1_8, s1_9, s1_10, s1_11, s1_12, s1_13, s1_14, s1_15, s1_16, s1_17, s1_18, s1_19, s1_20, s1_21]; rfl)) (by first | (simp only [mCntR, if_neg s1_0, if_neg s1_1, if_neg s1_2, if_neg s1_3, if_neg s1_4, if_neg s1_5, if_neg s1_6, if_neg s1_7, if_neg s1_8, if_neg s1_9, if_neg s1_10, if_neg s1_11, if_neg s1_12, if_neg s1_13, if_neg s1_14, if_neg s1_15, if_neg s1_16, if_neg s1_17, if_neg s1_18, if_neg s1_19, if_neg s1_20, if_neg s1_21, eq_self, Bool.false_eq_true, if_true, if_false]; done) | ((simp only [mCntR, if_neg s1_0, if_neg s1_1, if_neg s1_2, if_neg s1_3, if_neg s1_4, if_neg s1_5, if_neg s1_6, if_neg s1_7, if_neg s1_8, if_neg s1_9, if_neg s1_10, if_neg s1_11, if_neg s1_12, if_neg s1_13, if_neg s1_14, if_neg s1_15, if_neg s1_16, if_neg s1_17, if_neg s1_18, if_neg s1_19, if_neg s1_20, if_neg s1_21, eq_self, Bool.false_eq_true, if_true, if_false]); rfl) | (simp [mCntR, s1_0, s1_1, s1_2, s1_3, s1_4, s1_5, s1_6, s1_7, s1_8, s1_9, s1_10, s1_11, s1_12, s1_13, s1_14, s1_15, s1_16, s1_17, s1_18, s1_19, s1_20, s1_21]; done) | (simp [mCntR, s1_0, s1_1, s1_2, s1_3, s1_4, s1_5, s1_6, s1_7, s1_8, s1_9, s1_10, s1_11, s1_12, s1_13, s1_14, s1_15, s1_16, s1_17, s1_18, s1_19, s1_20, s1_21]; rfl)) dX9_count_178

set_option maxRecDepth 100000 in
set_option maxHeartbeats 4000000 in
theorem c_X9_undo (E : XE) (N m : Nat) (G : GW) (s : Nat → Int32) (su : Nat → Int64) (n : Nat) (tx : Nat → Int32) (ty re ca at_ : Int32) (to : Nat → Int32) (hn : n ≤ 4) (hb_m : xB E ≤ m) (hn_m : m + 5 ≤ N) : MF E yX9_undo cX9_undo 1 (some .int) 1 23 0 0 [.ref m] N (ov m (mC E m s su (nI n) tx ty re ca at_ to) G) (some (.int (mUndR n))) (ov m (mC E m (mUndS s n) (mUndU su n) (nI (mUndN n)) tx ty re ca at_ to) G) := by
  refine MF.mk RX9 rfl (by decide +kernel) rfl (fun K C Z hin hN => ?_)
  show XW E K 1 N 0 0 _ 0 [(0, .ref m)] []
  refine x_aload_n C dX9_undo_0 0 rfl ?_
  refine x_get C (xlo (i := 0) hb_m) (xhi (i := 0) hn_m rfl) (ov_at (i := 0) rfl) f_X9_29 rfl dX9_undo_1 ?_
  refine x_if_ne C 10 dX9_undo_4 rfl (fun c4 => ?_) (fun c4 => ?_)
  · have q9n : 1 ≤ n := by rcases Nat.eq_zero_or_pos n with h | h; exact absurd (by rw [h]; rfl) c4; exact h
    refine x_aload_n C dX9_undo_10 0 rfl ?_
    refine x_aload_n C dX9_undo_11 0 rfl ?_
    refine x_get C (xlo (i := 0) hb_m) (xhi (i := 0) hn_m rfl) (ov_at (i := 0) rfl) f_X9_29 rfl dX9_undo_12 ?_
    refine x_iconst C 0 dX9_undo_15 rfl ?_
    refine x_cV0 C (c_X9_copies E N m _ s su (nI n) tx ty re ca at_ to n 0 (by first | assumption | omega | decide) (by first | assumption | omega | decide) hb_m hn_m) v_X9_24 hN (xlo (i := 0) hb_m) (xhi (i := 0) hn_m rfl) (ov_at (i := 0) rfl) rfl rfl rfl rfl rfl dX9_undo_16 ?_
    refine x_aload_n C dX9_undo_19 0 rfl ?_
    refine x_dup C dX9_undo_20 rfl ?_
    refine x_get C (xlo (i := 0) hb_m) (xhi (i := 0) hn_m rfl) (ov_at (i := 0) rfl) f_X9_29 rfl dX9_undo_21 ?_
    refine x_iconst C 1 dX9_undo_24 rfl ?_
    refine x_isub C dX9_undo_25 ?_
    refine x_v (w := .int (nI (n - 1))) (congrArg Value.int (natSub (a := n) (b := 1) (by omega))) ?_
    refine x_put (G' := ov m (mC E m (mCp s n 0) (mCu su n 0) (nI (n - 1)) tx ty re ca at_ to) G) C (xlo (i := 0) hb_m) (xhi (i := 0) hn_m rfl) (ov_at (i := 0) rfl) f_X9_29 xt_X9 rfl rfl rfl rfl (ov_set (i := 0) rfl rfl) dX9_undo_26 ?_
    refine x_aload_n C dX9_undo_29 0 rfl ?_
    refine x_get C (xlo (i := 0) hb_m) (xhi (i := 0) hn_m rfl) (ov_at (i := 0) rfl) f_X9_29 rfl dX9_undo_30 ?_
    exact x_iret C Z rfl rfl (by first | (simp only [mUndR, mUndS, mUndU, mUndN, if_neg c4, eq_self, Bool.false_eq_true, if_true, if_false]; done) | ((simp only [mUndR, mUndS, mUndU, mUndN, if_neg c4, eq_self, Bool.false_eq_true, if_true, if_false]); rfl) | (simp [mUndR, mUndS, mUndU, mUndN, c4]; done) | (simp [mUndR, mUndS, mUndU, mUndN, c4]; rfl)) (by first | (simp only [mUndR, mUndS, mUndU, mUndN, if_neg c4, eq_self, Bool.false_eq_true, if_true, if_false]; done) | ((simp only [mUndR, mUndS, mUndU, mUndN, if_neg c4, eq_self, Bool.false_eq_true, if_true, if_false]); rfl) | (simp [mUndR, mUndS, mUndU, mUndN, c4]; done) | (simp [mUndR, mUndS, mUndU, mUndN, c4]; rfl)) dX9_undo_33
  · refine x_ldc C (-1000002) m_606 dX9_undo_7 ?_
    exact x_iret C Z rfl rfl (by first | (simp only [mUndR, mUndS, mUndU, mUndN, if_pos c4, eq_self, Bool.false_eq_true, if_true, if_false]; done) | ((simp only [mUndR, mUndS, mUndU, mUndN, if_pos c4, eq_self, Bool.false_eq_true, if_true, if_false]); rfl) | (simp [mUndR, mUndS, mUndU, mUndN, c4]; done) | (simp [mUndR, mUndS, mUndU, mUndN, c4]; rfl)) (by first | (simp only [mUndR, mUndS, mUndU, mUndN, if_pos c4, eq_self, Bool.false_eq_true, if_true, if_false]; done) | ((simp only [mUndR, mUndS, mUndU, mUndN, if_pos c4, eq_self, Bool.false_eq_true, if_true, if_false]); rfl) | (simp [mUndR, mUndS, mUndU, mUndN, c4]; done) | (simp [mUndR, mUndS, mUndU, mUndN, c4]; rfl)) dX9_undo_9

set_option maxRecDepth 100000 in
set_option maxHeartbeats 4000000 in
theorem c_X9_type (E : XE) (N m : Nat) (G : GW) (s : Nat → Int32) (su : Nat → Int64) (n : Nat) (tx : Nat → Int32) (ny : Nat) (re ca at_ : Int32) (to : Nat → Int32) (x : Int32) (hny : ny ≤ 60) (hb_m : xB E ≤ m) (hn_m : m + 5 ≤ N) : MF E yX9_type cX9_type 2 (some .int) 1 22 0 0 [.ref m, .int x] N (ov m (mC E m s su (nI n) tx (nI ny) re ca at_ to) G) (some (.int (mTypR ny x))) (ov m (mC E m s su (nI n) (mTypT tx ny x) (nI (mTypN ny x)) re ca at_ to) G) := by
  refine MF.mk RX9 rfl (by decide +kernel) rfl (fun K C Z hin hN => ?_)
  show XW E K 2 N 0 0 _ 0 [(0, .ref m), (1, .int x)] []
  refine x_iload_n C dX9_type_0 1 rfl ?_
  refine x_bipush C 32 dX9_type_1 rfl ?_
  refine x_bipush C 126 dX9_type_3 rfl ?_
  refine x_cS1 C (c_X9_in E N _ x 32 126) v_X9_54 hN rfl rfl rfl rfl dX9_type_5 ?_
  refine x_ifb_ne C 14 dX9_type_8 rfl (fun c8 => ?_) (fun c8 => ?_)
  · refine x_aload_n C dX9_type_14 0 rfl ?_
    refine x_get C (xlo (i := 0) hb_m) (xhi (i := 0) hn_m rfl) (ov_at (i := 0) rfl) f_X9_111 rfl dX9_type_15 ?_
    refine x_bipush C 60 dX9_type_18 rfl ?_
    refine x_icmp_ne C 26 dX9_type_20 rfl (fun c20 => ?_) (fun c20 => ?_)
    · have q9n : ny < 60 := by rcases Nat.lt_or_ge ny 60 with h | h; exact h; exact absurd (by rw [show ny = 60 by omega]; rfl) c20
      refine x_aload_n C dX9_type_26 0 rfl ?_
      refine x_get C (xlo (i := 0) hb_m) (xhi (i := 0) hn_m rfl) (ov_at (i := 0) rfl) f_X9_17 rfl dX9_type_27 ?_
      refine x_aload_n C dX9_type_30 0 rfl ?_
      refine x_get C (xlo (i := 0) hb_m) (xhi (i := 0) hn_m rfl) (ov_at (i := 0) rfl) f_X9_111 rfl dX9_type_31 ?_
      refine x_iload_n C dX9_type_34 1 rfl ?_
      refine x_i2c C dX9_type_35 ?_
      refine x_cast (G' := ov m (mC E m s su (nI n) (upd tx ny (vp_nar .char ((x.toUInt32 % 65536).toInt32))) (nI ny) re ca at_ to) G) C ny (xlo (i := 3) hb_m) (xhi (i := 3) hn_m rfl) (ov_at (i := 3) rfl) (vp_in_nI (by omega) (by decide)) (nI_clamp (by omega)) (ov_set (i := 3) rfl rfl) dX9_type_36 ?_
      refine x_aload_n C dX9_type_37 0 rfl ?_
      refine x_dup C dX9_type_38 rfl ?_
      refine x_get C (xlo (i := 0) hb_m) (xhi (i := 0) hn_m rfl) (ov_at (i := 0) rfl) f_X9_111 rfl dX9_type_39 ?_
      refine x_iconst C 1 dX9_type_42 rfl ?_
      refine x_iadd C dX9_type_43 ?_
      refine x_v (w := .int (nI (ny + 1))) (congrArg Value.int (natAdd (a := ny) (b := 1) (by omega))) ?_
      refine x_put (G' := ov m (mC E m s su (nI n) (upd tx ny (vp_nar .char ((x.toUInt32 % 65536).toInt32))) (nI (ny + 1)) re ca at_ to) G) C (xlo (i := 0) hb_m) (xhi (i := 0) hn_m rfl) (ov_at (i := 0) rfl) f_X9_111 xt_X9 rfl rfl rfl rfl (ov_set (i := 0) rfl rfl) dX9_type_44 ?_
      refine x_aload_n C dX9_type_47 0 rfl ?_
      refine x_get C (xlo (i := 0) hb_m) (xhi (i := 0) hn_m rfl) (ov_at (i := 0) rfl) f_X9_111 rfl dX9_type_48 ?_
      exact x_iret C Z rfl rfl (by first | (simp only [mTypR, mTypT, mTypN, c8, if_neg c20, eq_self, Bool.false_eq_true, if_true, if_false]; done) | ((simp only [mTypR, mTypT, mTypN, c8, if_neg c20, eq_self, Bool.false_eq_true, if_true, if_false]); rfl) | (simp [mTypR, mTypT, mTypN, c8, c20]; done) | (simp [mTypR, mTypT, mTypN, c8, c20]; rfl)) (by first | (simp only [mTypR, mTypT, mTypN, c8, if_neg c20, eq_self, Bool.false_eq_true, if_true, if_false]; done) | ((simp only [mTypR, mTypT, mTypN, c8, if_neg c20, eq_self, Bool.false_eq_true, if_true, if_false]); rfl) | (simp [mTypR, mTypT, mTypN, c8, c20]; done) | (simp [mTypR, mTypT, mTypN, c8, c20]; rfl)) dX9_type_51
    · refine x_ldc C (-1000003) m_621 dX9_type_23 ?_
      exact x_iret C Z rfl rfl (by first | (simp only [mTypR, mTypT, mTypN, c8, if_pos c20, eq_self, Bool.false_eq_true, if_true, if_false]; done) | ((simp only [mTypR, mTypT, mTypN, c8, if_pos c20, eq_self, Bool.false_eq_true, if_true, if_false]); rfl) | (simp [mTypR, mTypT, mTypN, c8, c20]; done) | (simp [mTypR, mTypT, mTypN, c8, c20]; rfl)) (by first | (simp only [mTypR, mTypT, mTypN, c8, if_pos c20, eq_self, Bool.false_eq_true, if_true, if_false]; done) | ((simp only [mTypR, mTypT, mTypN, c8, if_pos c20, eq_self, Bool.false_eq_true, if_true, if_false]); rfl) | (simp [mTypR, mTypT, mTypN, c8, c20]; done) | (simp [mTypR, mTypT, mTypN, c8, c20]; rfl)) dX9_type_25
  · refine x_ldc C (-1000001) m_584 dX9_type_11 ?_
    exact x_iret C Z rfl rfl (by first | (simp only [mTypR, mTypT, mTypN, c8, eq_self, Bool.false_eq_true, if_true, if_false]; done) | ((simp only [mTypR, mTypT, mTypN, c8, eq_self, Bool.false_eq_true, if_true, if_false]); rfl) | (simp [mTypR, mTypT, mTypN, c8]; done) | (simp [mTypR, mTypT, mTypN, c8]; rfl)) (by first | (simp only [mTypR, mTypT, mTypN, c8, eq_self, Bool.false_eq_true, if_true, if_false]; done) | ((simp only [mTypR, mTypT, mTypN, c8, eq_self, Bool.false_eq_true, if_true, if_false]); rfl) | (simp [mTypR, mTypT, mTypN, c8]; done) | (simp [mTypR, mTypT, mTypN, c8]; rfl)) dX9_type_13

set_option maxRecDepth 100000 in
set_option maxHeartbeats 4000000 in
theorem c_X9_clearText (E : XE) (N m : Nat) (G : GW) (s : Nat → Int32) (su : Nat → Int64) (n : Nat) (tx : Nat → Int32) (ty re ca at_ : Int32) (to : Nat → Int32) (hb_m : xB E ≤ m) (hn_m : m + 5 ≤ N) : MF E yX9_clearText cX9_clearText 2 (some .int) 0 0 0 0 [.ref m] N (ov m (mC E m s su (nI n) tx ty re ca at_ to) G) (some (.int ty)) (ov m (mC E m s su (nI n) tx 0 re ca at_ to) G) := by
  refine MF.mk RX9 rfl (by decide +kernel) rfl (fun K C Z hin hN => ?_)
  show XW E K 2 N 0 0 _ 0 [(0, .ref m)] []
  refine x_aload_n C dX9_clearText_0 0 rfl ?_
  refine x_get C (xlo (i := 0) hb_m) (xhi (i := 0) hn_m rfl) (ov_at (i := 0) rfl) f_X9_111 rfl dX9_clearText_1 ?_
  refine x_istore_n (L' := [(1, .int ty), (0, .ref m)]) C dX9_clearText_4 rfl rfl ?_
  refine x_aload_n C dX9_clearText_5 1 rfl ?_
  refine x_iconst C 0 dX9_clearText_6 rfl ?_
  refine x_put (G' := ov m (mC E m s su (nI n) tx 0 re ca at_ to) G) C (xlo (i := 0) hb_m) (xhi (i := 0) hn_m rfl) (ov_at (i := 0) rfl) f_X9_111 xt_X9 rfl rfl rfl rfl (ov_set (i := 0) rfl rfl) dX9_clearText_7 ?_
  refine x_iload_n C dX9_clearText_10 0 rfl ?_
  exact x_iret C Z rfl rfl rfl rfl dX9_clearText_11

