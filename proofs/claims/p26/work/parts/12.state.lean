/-! ===== a state ===== -/
theorem rowOk_in {x : Int32} (h : rowOk x = true) : vp_in x 5 := by
  simp only [rowOk, Bool.and_eq_true, Bool.not_eq_true', decide_eq_false_iff_not] at h
  exact vp_in_lt (M := 5) rfl h.1 h.2
theorem bbI (P : Prop) [Decidable P] : (if (if P then (0 : Int32) else 1) = 0 then (0 : Int32) else 1) = if P then 0 else 1 := by split <;> rfl
def sDel (v : SV) (r : Int32) : Int32 := if rowOk r = true then vDe v r.toNatClampNeg else 0
def sGai (v : SV) (r : Int32) : Int32 := if rowOk r = true then vGa v r.toNatClampNeg else 0
def sPut (v : SV) (r d g : Int32) : SV := if rowOk r = true then mkS (vW v) (vFi v) (vLe v) (vRo v) (vNe v) (vKe v) (vSa v) (vGr v) (vHo v) (vHw v) (vSu v) (upd (vDe v) r.toNatClampNeg d) (upd (vGa v) r.toNatClampNeg g) (vLi v) (vSh v) (vSl v) else v
def sOn (v : SV) (r : Int32) : Bool := !decide (sDel v r = 0)
def sLost (v : SV) (r : Int32) : Bool := !decide (sDel v r ≤ vLe v)
def sRead (v : SV) (r : Int32) : Int32 := if rowOk r = true then rAt (vW v) (vFi v) (vLe v) (vDe v r.toNatClampNeg - 1) else 0
def sShare (v : SV) (r : Int32) : Int32 := if rowOk r = true then jth (vGa v r.toNatClampNeg) (sRead v r) else 0
def sSum (v : SV) (x : Int32) : Int32 := x + sShare v 0 + sShare v 1 + sShare v 2 + sShare v 3
def sFed (v : SV) (x : Int32) : Int32 := x + sShare v 4
def sOut (v : SV) (x : Int32) : Int32 := shp (sSum v x) (vSh v) (vLi v)
def sWrd (v : SV) (x : Int32) : Int32 := shp (sFed v x) (vSh v) (vLi v)
def sLet (v : SV) (x : Int32) : SV := mkS (rWr (vW v) (vFi v) (sWrd v x)) (rFi (vFi v)) (vLe v) (upd (vRo v) (oNx (vNe v)).toNatClampNeg (sOut v x)) (oNx (vNe v) + 1) (imin (vKe v + 1) 12) (vSa v + 1) (imax (vGr v) (iabs (sOut v x))) (vHo v + (if sOut v x = sSum v x then 0 else 1)) (vHw v + (if sWrd v x = sFed v x then 0 else 1)) (vSu v + (iabs (sOut v x)).toInt64) (vDe v) (vGa v) (vLi v) (vSh v) (vSl v)
def sSil (v : SV) : Nat → SV × Int32
  | 0 => (v, 0)
  | n + 1 => (sLet (sSil v n).1 0, imax (sSil v n).2 (iabs (sOut (sSil v n).1 0)))
def sFeed (v : SV) (x : Int32) : SV := mkS (rWr (vW v) (vFi v) (sWrd v x)) (rFi (vFi v)) (vLe v) (vRo v) (vNe v) (vKe v) (vSa v) (vGr v) (vHo v) (vHw v) (vSu v) (vDe v) (vGa v) (vLi v) (vSh v) (vSl v)
def sTak (v : SV) (x : Int32) : SV := mkS (vW v) (vFi v) (imax (vLe v - x) 0) (vRo v) (vNe v) (vKe v) (vSa v) (vGr v) (vHo v) (vHw v) (vSu v) (vDe v) (vGa v) (vLi v) (vSh v) (vSl v + x)
def sSet (v : SV) (w x : Int32) : SV := if w = 0 then mkS (vW v) (vFi v) (vLe v) (vRo v) (vNe v) (vKe v) (vSa v) (vGr v) (vHo v) (vHw v) (vSu v) (vDe v) (vGa v) x (vSh v) (vSl v) else mkS (vW v) (vFi v) (vLe v) (vRo v) (vNe v) (vKe v) (vSa v) (vGr v) (vHo v) (vHw v) (vSu v) (vDe v) (vGa v) (vLi v) x (vSl v)
def sCpy (v u : SV) : SV := mkS (va_cpy (vW u) (vW v) 0 0 64) (vFi u) (vLe u) (va_cpy (vRo u) (vRo v) 0 0 12) (vNe u) (vKe u) (vSa u) (vGr u) (vHo u) (vHw u) (vSu u) (va_cpy (vDe u) (vDe v) 0 0 5) (va_cpy (vGa u) (vGa v) 0 0 5) (vLi u) (vSh u) (vSl u)
def fillI (w : Nat → Int32) (x : Int32) : Nat → (Nat → Int32)
  | 0 => w
  | n + 1 => upd (fillI w x n) n x
def arrC (E : XE) (b : Nat) (w : Nat → Int32) : List va_E := [ia E 64 w]
set_option maxRecDepth 100000 in
set_option maxHeartbeats 4000000 in
theorem c_X6_delayOf (E : XE) (N b : Nat) (G : GW) (v : SV) (r : Int32) (hb_b : xB E ≤ b) (hn_b : b + 8 ≤ N) : MF E yX6_delayOf cX6_delayOf 2 (some .int) 1 20 0 0 [.ref b, .int r] N (ov b (stT E b v) G) (some (.int (sDel v r))) (ov b (stT E b v) G) := by
  refine MF.mk RX6 rfl (by decide +kernel) rfl (fun K C Z hin hN => ?_)
  show XW E K 2 N 0 0 _ 0 [(0, .ref b), (1, .int r)] []
  refine x_iload_n C dX6_delayOf_0 1 rfl ?_
  refine x_cS1 C (c_X6_isRow E N _ r) v_X6_43 hN rfl rfl rfl rfl dX6_delayOf_1 ?_
  refine x_ifb_eq C 16 dX6_delayOf_4 rfl (fun c4 => ?_) (fun c4 => ?_)
  · refine x_iconst C 0 dX6_delayOf_16 rfl ?_
    exact x_iret C Z rfl rfl (by simp [sDel, c4]) rfl dX6_delayOf_17
  · refine x_aload_n C dX6_delayOf_7 0 rfl ?_
    refine x_get C (xlo (i := 0) hb_b) (xhi (i := 0) hn_b rfl) (ov_at (i := 0) rfl) f_X6_32 rfl dX6_delayOf_8 ?_
    refine x_iload_n C dX6_delayOf_11 1 rfl ?_
    refine x_iald C ((vDe v) r.toNatClampNeg) (xlo (i := 6) hb_b) (xhi (i := 6) hn_b rfl) (ov_at (i := 6) rfl) (rowOk_in c4) rfl dX6_delayOf_12 ?_
    refine x_goto C 17 dX6_delayOf_13 rfl ?_
    exact x_iret C Z rfl rfl (by simp [sDel, c4]) rfl dX6_delayOf_17

set_option maxRecDepth 100000 in
set_option maxHeartbeats 4000000 in
theorem c_X6_gainOf (E : XE) (N b : Nat) (G : GW) (v : SV) (r : Int32) (hb_b : xB E ≤ b) (hn_b : b + 8 ≤ N) : MF E yX6_gainOf cX6_gainOf 2 (some .int) 1 20 0 0 [.ref b, .int r] N (ov b (stT E b v) G) (some (.int (sGai v r))) (ov b (stT E b v) G) := by
  refine MF.mk RX6 rfl (by decide +kernel) rfl (fun K C Z hin hN => ?_)
  show XW E K 2 N 0 0 _ 0 [(0, .ref b), (1, .int r)] []
  refine x_iload_n C dX6_gainOf_0 1 rfl ?_
  refine x_cS1 C (c_X6_isRow E N _ r) v_X6_43 hN rfl rfl rfl rfl dX6_gainOf_1 ?_
  refine x_ifb_eq C 16 dX6_gainOf_4 rfl (fun c4 => ?_) (fun c4 => ?_)
  · refine x_iconst C 0 dX6_gainOf_16 rfl ?_
    exact x_iret C Z rfl rfl (by simp [sGai, c4]) rfl dX6_gainOf_17
  · refine x_aload_n C dX6_gainOf_7 0 rfl ?_
    refine x_get C (xlo (i := 0) hb_b) (xhi (i := 0) hn_b rfl) (ov_at (i := 0) rfl) f_X6_36 rfl dX6_gainOf_8 ?_
    refine x_iload_n C dX6_gainOf_11 1 rfl ?_
    refine x_iald C ((vGa v) r.toNatClampNeg) (xlo (i := 7) hb_b) (xhi (i := 7) hn_b rfl) (ov_at (i := 7) rfl) (rowOk_in c4) rfl dX6_gainOf_12 ?_
    refine x_goto C 17 dX6_gainOf_13 rfl ?_
    exact x_iret C Z rfl rfl (by simp [sGai, c4]) rfl dX6_gainOf_17

set_option maxRecDepth 100000 in
set_option maxHeartbeats 4000000 in
theorem c_X6_putRow (E : XE) (N b : Nat) (G : GW) (v : SV) (r d g : Int32) (hb_b : xB E ≤ b) (hn_b : b + 8 ≤ N) : MF E yX6_putRow cX6_putRow 4 none 1 20 0 0 [.ref b, .int r, .int d, .int g] N (ov b (stT E b v) G) none (ov b (stT E b (sPut v r d g)) G) := by
  refine MF.mk RX6 rfl (by decide +kernel) rfl (fun K C Z hin hN => ?_)
  show XW E K 4 N 0 0 _ 0 [(0, .ref b), (1, .int r), (2, .int d), (3, .int g)] []
  refine x_iload_n C dX6_putRow_0 1 rfl ?_
  refine x_cS1 C (c_X6_isRow E N _ r) v_X6_43 hN rfl rfl rfl rfl dX6_putRow_1 ?_
  refine x_ifb_eq C 21 dX6_putRow_4 rfl (fun c4 => ?_) (fun c4 => ?_)
  · exact x_vret C Z rfl rfl (by simp [sPut, c4]) dX6_putRow_21
  · refine x_aload_n C dX6_putRow_7 0 rfl ?_
    refine x_get C (xlo (i := 0) hb_b) (xhi (i := 0) hn_b rfl) (ov_at (i := 0) rfl) f_X6_32 rfl dX6_putRow_8 ?_
    refine x_iload_n C dX6_putRow_11 1 rfl ?_
    refine x_iload_n C dX6_putRow_12 2 rfl ?_
    refine x_iast (G' := ov b (stT E b (mkS (vW v) (vFi v) (vLe v) (vRo v) (vNe v) (vKe v) (vSa v) (vGr v) (vHo v) (vHw v) (vSu v) (upd (vDe v) r.toNatClampNeg d) (vGa v) (vLi v) (vSh v) (vSl v))) G) C r.toNatClampNeg (xlo (i := 6) hb_b) (xhi (i := 6) hn_b rfl) (ov_at (i := 6) rfl) (rowOk_in c4) rfl (ov_set (i := 6) rfl rfl) dX6_putRow_13 ?_
    refine x_aload_n C dX6_putRow_14 0 rfl ?_
    refine x_get C (xlo (i := 0) hb_b) (xhi (i := 0) hn_b rfl) (ov_at (i := 0) rfl) f_X6_36 rfl dX6_putRow_15 ?_
    refine x_iload_n C dX6_putRow_18 1 rfl ?_
    refine x_iload_n C dX6_putRow_19 3 rfl ?_
    refine x_iast (G' := ov b (stT E b (mkS (vW v) (vFi v) (vLe v) (vRo v) (vNe v) (vKe v) (vSa v) (vGr v) (vHo v) (vHw v) (vSu v) (upd (vDe v) r.toNatClampNeg d) (upd (vGa v) r.toNatClampNeg g) (vLi v) (vSh v) (vSl v))) G) C r.toNatClampNeg (xlo (i := 7) hb_b) (xhi (i := 7) hn_b rfl) (ov_at (i := 7) rfl) (rowOk_in c4) rfl (ov_set (i := 7) rfl rfl) dX6_putRow_20 ?_
    exact x_vret C Z rfl rfl (by simp [sPut, c4]) dX6_putRow_21

set_option maxRecDepth 100000 in
set_option maxHeartbeats 4000000 in
theorem c_X6_isOn (E : XE) (N b : Nat) (G : GW) (v : SV) (r : Int32) (hb_b : xB E ≤ b) (hn_b : b + 8 ≤ N) : MF E yX6_isOn cX6_isOn 2 (some .boolean) 2 41 0 0 [.ref b, .int r] N (ov b (stT E b v) G) (some (.int (bI (sOn v r)))) (ov b (stT E b v) G) := by
  refine MF.mk RX6 rfl (by decide +kernel) rfl (fun K C Z hin hN => ?_)
  show XW E K 2 N 0 0 _ 0 [(0, .ref b), (1, .int r)] []
  refine x_aload_n C dX6_isOn_0 0 rfl ?_
  refine x_iload_n C dX6_isOn_1 1 rfl ?_
  refine x_cV1 C (c_X6_delayOf E N b _ v r hb_b hn_b) v_X6_47 hN (xlo (i := 0) hb_b) (xhi (i := 0) hn_b rfl) (ov_at (i := 0) rfl) rfl rfl rfl rfl rfl dX6_isOn_2 ?_
  refine x_if_eq C 12 dX6_isOn_5 rfl (fun c5 => ?_) (fun c5 => ?_)
  · refine x_iconst C 0 dX6_isOn_12 rfl ?_
    exact x_iret C Z rfl rfl (by simp [sOn, bI, c5]) rfl dX6_isOn_13
  · refine x_iconst C 1 dX6_isOn_8 rfl ?_
    refine x_goto C 13 dX6_isOn_9 rfl ?_
    exact x_iret C Z rfl rfl (by simp [sOn, bI, c5]) rfl dX6_isOn_13

set_option maxRecDepth 100000 in
set_option maxHeartbeats 4000000 in
theorem c_X6_isLost (E : XE) (N b : Nat) (G : GW) (v : SV) (r : Int32) (hb_b : xB E ≤ b) (hn_b : b + 8 ≤ N) : MF E yX6_isLost cX6_isLost 2 (some .boolean) 2 41 0 0 [.ref b, .int r] N (ov b (stT E b v) G) (some (.int (bI (sLost v r)))) (ov b (stT E b v) G) := by
  refine MF.mk RX6 rfl (by decide +kernel) rfl (fun K C Z hin hN => ?_)
  show XW E K 2 N 0 0 _ 0 [(0, .ref b), (1, .int r)] []
  refine x_aload_n C dX6_isLost_0 0 rfl ?_
  refine x_iload_n C dX6_isLost_1 1 rfl ?_
  refine x_cV1 C (c_X6_delayOf E N b _ v r hb_b hn_b) v_X6_47 hN (xlo (i := 0) hb_b) (xhi (i := 0) hn_b rfl) (ov_at (i := 0) rfl) rfl rfl rfl rfl rfl dX6_isLost_2 ?_
  refine x_aload_n C dX6_isLost_5 0 rfl ?_
  refine x_get C (xlo (i := 0) hb_b) (xhi (i := 0) hn_b rfl) (ov_at (i := 0) rfl) f_X6_12 rfl dX6_isLost_6 ?_
  refine x_get C (xlo (i := 1) hb_b) (xhi (i := 1) hn_b rfl) (ov_at (i := 1) rfl) f_X6_51 rfl dX6_isLost_9 ?_
  refine x_icmp_le C 19 dX6_isLost_12 rfl (fun c12 => ?_) (fun c12 => ?_)
  · refine x_iconst C 0 dX6_isLost_19 rfl ?_
    exact x_iret C Z rfl rfl (by simp [sLost, bI, c12]) rfl dX6_isLost_20
  · refine x_iconst C 1 dX6_isLost_15 rfl ?_
    refine x_goto C 20 dX6_isLost_16 rfl ?_
    exact x_iret C Z rfl rfl (by simp [sLost, bI, c12]) rfl dX6_isLost_20

set_option maxRecDepth 100000 in
set_option maxHeartbeats 4000000 in
theorem c_X6_readingOf (E : XE) (N b : Nat) (G : GW) (v : SV) (r : Int32) (hb_b : xB E ≤ b) (hn_b : b + 8 ≤ N) : MF E yX6_readingOf cX6_readingOf 2 (some .int) 1 21 0 0 [.ref b, .int r] N (ov b (stT E b v) G) (some (.int (sRead v r))) (ov b (stT E b v) G) := by
  refine MF.mk RX6 rfl (by decide +kernel) rfl (fun K C Z hin hN => ?_)
  show XW E K 2 N 0 0 _ 0 [(0, .ref b), (1, .int r)] []
  refine x_iload_n C dX6_readingOf_0 1 rfl ?_
  refine x_cS1 C (c_X6_isRow E N _ r) v_X6_43 hN rfl rfl rfl rfl dX6_readingOf_1 ?_
  refine x_ifb_eq C 25 dX6_readingOf_4 rfl (fun c4 => ?_) (fun c4 => ?_)
  · refine x_iconst C 0 dX6_readingOf_25 rfl ?_
    exact x_iret C Z rfl rfl (by simp [sRead, c4]) rfl dX6_readingOf_26
  · refine x_aload_n C dX6_readingOf_7 0 rfl ?_
    refine x_get C (xlo (i := 0) hb_b) (xhi (i := 0) hn_b rfl) (ov_at (i := 0) rfl) f_X6_12 rfl dX6_readingOf_8 ?_
    refine x_aload_n C dX6_readingOf_11 0 rfl ?_
    refine x_get C (xlo (i := 0) hb_b) (xhi (i := 0) hn_b rfl) (ov_at (i := 0) rfl) f_X6_32 rfl dX6_readingOf_12 ?_
    refine x_iload_n C dX6_readingOf_15 1 rfl ?_
    refine x_iald C ((vDe v) r.toNatClampNeg) (xlo (i := 6) hb_b) (xhi (i := 6) hn_b rfl) (ov_at (i := 6) rfl) (rowOk_in c4) rfl dX6_readingOf_16 ?_
    refine x_iconst C 1 dX6_readingOf_17 rfl ?_
    refine x_isub C dX6_readingOf_18 ?_
    refine x_cV1 C (MF.sliceR (i := 1) (n := 2) rfl (c_X5_wordAt E N (b + 1) _ (vW v) (vFi v) (vLe v) (((vDe v) r.toNatClampNeg) - 1) (xlo (i := 1) hb_b) (xhn (i := 1) (n := 2) hn_b rfl))) v_X6_54 hN (xlo (i := 1) hb_b) (xhi (i := 1) hn_b rfl) (ov_at (i := 1) rfl) rfl rfl rfl rfl rfl dX6_readingOf_19 ?_
    refine x_goto C 26 dX6_readingOf_22 rfl ?_
    exact x_iret C Z rfl rfl (by simp [sRead, c4]) rfl dX6_readingOf_26

set_option maxRecDepth 100000 in
set_option maxHeartbeats 4000000 in
theorem c_X6_shareOf (E : XE) (N b : Nat) (G : GW) (v : SV) (r : Int32) (hb_b : xB E ≤ b) (hn_b : b + 8 ≤ N) : MF E yX6_shareOf cX6_shareOf 2 (some .int) 2 42 0 0 [.ref b, .int r] N (ov b (stT E b v) G) (some (.int (sShare v r))) (ov b (stT E b v) G) := by
  refine MF.mk RX6 rfl (by decide +kernel) rfl (fun K C Z hin hN => ?_)
  show XW E K 2 N 0 0 _ 0 [(0, .ref b), (1, .int r)] []
  refine x_iload_n C dX6_shareOf_0 1 rfl ?_
  refine x_cS1 C (c_X6_isRow E N _ r) v_X6_43 hN rfl rfl rfl rfl dX6_shareOf_1 ?_
  refine x_ifb_eq C 24 dX6_shareOf_4 rfl (fun c4 => ?_) (fun c4 => ?_)
  · refine x_iconst C 0 dX6_shareOf_24 rfl ?_
    exact x_iret C Z rfl rfl (by simp [sShare, c4]) rfl dX6_shareOf_25
  · refine x_aload_n C dX6_shareOf_7 0 rfl ?_
    refine x_get C (xlo (i := 0) hb_b) (xhi (i := 0) hn_b rfl) (ov_at (i := 0) rfl) f_X6_36 rfl dX6_shareOf_8 ?_
    refine x_iload_n C dX6_shareOf_11 1 rfl ?_
    refine x_iald C ((vGa v) r.toNatClampNeg) (xlo (i := 7) hb_b) (xhi (i := 7) hn_b rfl) (ov_at (i := 7) rfl) (rowOk_in c4) rfl dX6_shareOf_12 ?_
    refine x_aload_n C dX6_shareOf_13 0 rfl ?_
    refine x_iload_n C dX6_shareOf_14 1 rfl ?_
    refine x_cV1 C (c_X6_readingOf E N b _ v r hb_b hn_b) v_X6_57 hN (xlo (i := 0) hb_b) (xhi (i := 0) hn_b rfl) (ov_at (i := 0) rfl) rfl rfl rfl rfl rfl dX6_shareOf_15 ?_
    refine x_cSN1 C (c_X8_thousandths E N _ ((vGa v) r.toNatClampNeg) (sRead v r)) v_X6_60 hN rfl rfl rfl rfl dX6_shareOf_18 ?_
    refine x_goto C 25 dX6_shareOf_21 rfl ?_
    exact x_iret C Z rfl rfl (by simp [sShare, c4]) rfl dX6_shareOf_25

set_option maxRecDepth 100000 in
set_option maxHeartbeats 4000000 in
theorem c_X6_letThrough (E : XE) (N b : Nat) (G : GW) (v : SV) (x : Int32) (hb_b : xB E ≤ b) (hn_b : b + 8 ≤ N) : MF E yX6_letThrough cX6_letThrough 6 (some .int) 3 63 0 0 [.ref b, .int x] N (ov b (stT E b v) G) (some (.int (sOut v x))) (ov b (stT E b (sLet v x)) G) := by
  refine MF.mk RX6 rfl (by decide +kernel) rfl (fun K C Z hin hN => ?_)
  show XW E K 6 N 0 0 _ 0 [(0, .ref b), (1, .int x)] []
  refine x_iload_n C dX6_letThrough_0 1 rfl ?_
  refine x_istore_n (L' := [(2, .int x), (0, .ref b), (1, .int x)]) C dX6_letThrough_1 rfl rfl ?_
  refine x_iconst C 0 dX6_letThrough_2 rfl ?_
  refine x_istore_n (L' := [(3, .int 0), (2, .int x), (0, .ref b), (1, .int x)]) C dX6_letThrough_3 rfl rfl ?_
  refine x_iload_n C dX6_letThrough_4 0 rfl ?_
  refine x_iconst C 4 dX6_letThrough_5 rfl ?_
  refine x_icmp_ge C 23 dX6_letThrough_6 rfl (fun c => absurd c (by decide)) (fun _ => ?_)
  refine x_iload_n C dX6_letThrough_9 1 rfl ?_
  refine x_aload_n C dX6_letThrough_10 2 rfl ?_
  refine x_iload_n C dX6_letThrough_11 0 rfl ?_
  refine x_cV1 C (c_X6_shareOf E N b _ v 0 hb_b hn_b) v_X6_64 hN (xlo (i := 0) hb_b) (xhi (i := 0) hn_b rfl) (ov_at (i := 0) rfl) rfl rfl rfl rfl rfl dX6_letThrough_12 ?_
  refine x_iadd C dX6_letThrough_15 ?_
  refine x_istore_n (L' := [(2, .int (x + (sShare v 0))), (3, .int 0), (0, .ref b), (1, .int x)]) C dX6_letThrough_16 rfl rfl ?_
  refine x_iinc (L' := [(3, .int 1), (2, .int (x + (sShare v 0))), (0, .ref b), (1, .int x)]) C 1 dX6_letThrough_17 1 rfl rfl rfl rfl ?_
  refine x_goto C 4 dX6_letThrough_20 rfl ?_
  refine x_iload_n C dX6_letThrough_4 0 rfl ?_
  refine x_iconst C 4 dX6_letThrough_5 rfl ?_
  refine x_icmp_ge C 23 dX6_letThrough_6 rfl (fun c => absurd c (by decide)) (fun _ => ?_)
  refine x_iload_n C dX6_letThrough_9 1 rfl ?_
  refine x_aload_n C dX6_letThrough_10 2 rfl ?_
  refine x_iload_n C dX6_letThrough_11 0 rfl ?_
  refine x_cV1 C (c_X6_shareOf E N b _ v 1 hb_b hn_b) v_X6_64 hN (xlo (i := 0) hb_b) (xhi (i := 0) hn_b rfl) (ov_at (i := 0) rfl) rfl rfl rfl rfl rfl dX6_letThrough_12 ?_
  refine x_iadd C dX6_letThrough_15 ?_
  refine x_topi (fun z1 ez1 => ?_)
  refine x_istore_n (L' := [(2, .int z1), (3, .int 1), (0, .ref b), (1, .int x)]) C dX6_letThrough_16 rfl rfl ?_
  refine x_iinc (L' := [(3, .int 2), (2, .int z1), (0, .ref b), (1, .int x)]) C 2 dX6_letThrough_17 1 rfl rfl rfl rfl ?_
  refine x_goto C 4 dX6_letThrough_20 rfl ?_
  refine x_iload_n C dX6_letThrough_4 0 rfl ?_
  refine x_iconst C 4 dX6_letThrough_5 rfl ?_
  refine x_icmp_ge C 23 dX6_letThrough_6 rfl (fun c => absurd c (by decide)) (fun _ => ?_)
  refine x_iload_n C dX6_letThrough_9 1 rfl ?_
  refine x_aload_n C dX6_letThrough_10 2 rfl ?_
  refine x_iload_n C dX6_letThrough_11 0 rfl ?_
  refine x_cV1 C (c_X6_shareOf E N b _ v 2 hb_b hn_b) v_X6_64 hN (xlo (i := 0) hb_b) (xhi (i := 0) hn_b rfl) (ov_at (i := 0) rfl) rfl rfl rfl rfl rfl dX6_letThrough_12 ?_
  refine x_iadd C dX6_letThrough_15 ?_
  refine x_istore_n (L' := [(2, .int (z1 + (sShare v 2))), (3, .int 2), (0, .ref b), (1, .int x)]) C dX6_letThrough_16 rfl rfl ?_
  refine x_iinc (L' := [(3, .int 3), (2, .int (z1 + (sShare v 2))), (0, .ref b), (1, .int x)]) C 3 dX6_letThrough_17 1 rfl rfl rfl rfl ?_
  refine x_goto C 4 dX6_letThrough_20 rfl ?_
  refine x_iload_n C dX6_letThrough_4 0 rfl ?_
  refine x_iconst C 4 dX6_letThrough_5 rfl ?_
  refine x_icmp_ge C 23 dX6_letThrough_6 rfl (fun c => absurd c (by decide)) (fun _ => ?_)
  refine x_iload_n C dX6_letThrough_9 1 rfl ?_
  refine x_aload_n C dX6_letThrough_10 2 rfl ?_
  refine x_iload_n C dX6_letThrough_11 0 rfl ?_
  refine x_cV1 C (c_X6_shareOf E N b _ v 3 hb_b hn_b) v_X6_64 hN (xlo (i := 0) hb_b) (xhi (i := 0) hn_b rfl) (ov_at (i := 0) rfl) rfl rfl rfl rfl rfl dX6_letThrough_12 ?_
  refine x_iadd C dX6_letThrough_15 ?_
  refine x_topi (fun z2 ez2 => ?_)
  refine x_istore_n (L' := [(2, .int z2), (3, .int 3), (0, .ref b), (1, .int x)]) C dX6_letThrough_16 rfl rfl ?_
  refine x_iinc (L' := [(3, .int 4), (2, .int z2), (0, .ref b), (1, .int x)]) C 4 dX6_letThrough_17 1 rfl rfl rfl rfl ?_
  refine x_goto C 4 dX6_letThrough_20 rfl ?_
  refine x_iload_n C dX6_letThrough_4 0 rfl ?_
  refine x_iconst C 4 dX6_letThrough_5 rfl ?_
  refine x_icmp_ge C 23 dX6_letThrough_6 rfl (fun _ => ?_) (fun c => absurd c (by decide))
  refine x_iload_n C dX6_letThrough_23 3 rfl ?_
  refine x_aload_n C dX6_letThrough_24 2 rfl ?_
  refine x_iconst C 4 dX6_letThrough_25 rfl ?_
  refine x_cV1 C (c_X6_shareOf E N b _ v 4 hb_b hn_b) v_X6_64 hN (xlo (i := 0) hb_b) (xhi (i := 0) hn_b rfl) (ov_at (i := 0) rfl) rfl rfl rfl rfl rfl dX6_letThrough_26 ?_
  refine x_iadd C dX6_letThrough_29 ?_
  refine x_istore_n (L' := [(3, .int (x + (sShare v 4))), (2, .int z2), (0, .ref b), (1, .int x)]) C dX6_letThrough_30 rfl rfl ?_
  refine x_iload_n C dX6_letThrough_31 1 rfl ?_
  refine x_aload_n C dX6_letThrough_32 2 rfl ?_
  refine x_get C (xlo (i := 0) hb_b) (xhi (i := 0) hn_b rfl) (ov_at (i := 0) rfl) f_X6_67 rfl dX6_letThrough_33 ?_
  refine x_aload_n C dX6_letThrough_36 2 rfl ?_
  refine x_get C (xlo (i := 0) hb_b) (xhi (i := 0) hn_b rfl) (ov_at (i := 0) rfl) f_X6_39 rfl dX6_letThrough_37 ?_
  refine x_cSN1 C (c_X8_shaped E N _ z2 (vSh v) (vLi v)) v_X6_70 hN rfl rfl rfl rfl dX6_letThrough_40 ?_
  refine x_istore (L' := [(4, .int (shp z2 (vSh v) (vLi v))), (3, .int (x + (sShare v 4))), (2, .int z2), (0, .ref b), (1, .int x)]) C dX6_letThrough_43 rfl rfl ?_
  refine x_iload_n C dX6_letThrough_45 1 rfl ?_
  refine x_aload_n C dX6_letThrough_46 3 rfl ?_
  refine x_get C (xlo (i := 0) hb_b) (xhi (i := 0) hn_b rfl) (ov_at (i := 0) rfl) f_X6_67 rfl dX6_letThrough_47 ?_
  refine x_aload_n C dX6_letThrough_50 3 rfl ?_
  refine x_get C (xlo (i := 0) hb_b) (xhi (i := 0) hn_b rfl) (ov_at (i := 0) rfl) f_X6_39 rfl dX6_letThrough_51 ?_
  refine x_cSN1 C (c_X8_shaped E N _ (x + (sShare v 4)) (vSh v) (vLi v)) v_X6_70 hN rfl rfl rfl rfl dX6_letThrough_54 ?_
  refine x_topi (fun z3 ez3 => ?_)
  refine x_istore (L' := [(5, .int z3), (4, .int (shp z2 (vSh v) (vLi v))), (3, .int (x + (sShare v 4))), (2, .int z2), (0, .ref b), (1, .int x)]) C dX6_letThrough_57 rfl rfl ?_
  refine x_aload_n C dX6_letThrough_59 4 rfl ?_
  refine x_get C (xlo (i := 0) hb_b) (xhi (i := 0) hn_b rfl) (ov_at (i := 0) rfl) f_X6_12 rfl dX6_letThrough_60 ?_
  refine x_iload C dX6_letThrough_63 0 rfl ?_
  refine x_cV0 C (MF.slice (i := 1) (n := 2) (cs' := stT E b (mkS (rWr (vW v) (vFi v) z3) (rFi (vFi v)) (vLe v) (vRo v) (vNe v) (vKe v) (vSa v) (vGr v) (vHo v) (vHw v) (vSu v) (vDe v) (vGa v) (vLi v) (vSh v) (vSl v))) rfl rfl (Nat.le_of_ble_eq_true rfl) rfl (c_X5_write E N (b + 1) _ (vW v) (vFi v) (vLe v) z3 (xlo (i := 1) hb_b) (xhn (i := 1) (n := 2) hn_b rfl))) v_X6_74 hN (xlo (i := 1) hb_b) (xhi (i := 1) hn_b rfl) (ov_at (i := 1) rfl) rfl rfl rfl rfl rfl dX6_letThrough_65 ?_
  refine x_aload_n C dX6_letThrough_68 4 rfl ?_
  refine x_get C (xlo (i := 0) hb_b) (xhi (i := 0) hn_b rfl) (ov_at (i := 0) rfl) f_X6_21 rfl dX6_letThrough_69 ?_
  refine x_iload C dX6_letThrough_72 1 rfl ?_
  refine x_cV0 C (MF.slice (i := 3) (n := 2) (cs' := stT E b (mkS (rWr (vW v) (vFi v) z3) (rFi (vFi v)) (vLe v) (upd (vRo v) (oNx (vNe v)).toNatClampNeg (shp z2 (vSh v) (vLi v))) (oNx (vNe v) + 1) (imin ((vKe v) + 1) 12) (vSa v) (vGr v) (vHo v) (vHw v) (vSu v) (vDe v) (vGa v) (vLi v) (vSh v) (vSl v))) rfl rfl (Nat.le_of_ble_eq_true rfl) rfl (c_X4_add E N (b + 3) _ (vRo v) (vNe v) (vKe v) (shp z2 (vSh v) (vLi v)) (xlo (i := 3) hb_b) (xhn (i := 3) (n := 2) hn_b rfl))) v_X6_78 hN (xlo (i := 3) hb_b) (xhi (i := 3) hn_b rfl) (ov_at (i := 3) rfl) rfl rfl rfl rfl rfl dX6_letThrough_74 ?_
  refine x_aload_n C dX6_letThrough_77 4 rfl ?_
  refine x_get C (xlo (i := 0) hb_b) (xhi (i := 0) hn_b rfl) (ov_at (i := 0) rfl) f_X6_28 rfl dX6_letThrough_78 ?_
  refine x_iload C dX6_letThrough_81 1 rfl ?_
  refine x_iload C dX6_letThrough_83 1 rfl ?_
  refine x_iload_n C dX6_letThrough_85 3 rfl ?_
  refine x_t_icmp_eq C 93 94 1 0 dX6_letThrough_86 rfl dX6_letThrough_89 rfl dX6_letThrough_90 rfl dX6_letThrough_93 rfl rfl ?_
  refine x_iload C dX6_letThrough_94 0 rfl ?_
  refine x_iload_n C dX6_letThrough_96 2 rfl ?_
  refine x_t_icmp_eq C 104 105 1 0 dX6_letThrough_97 rfl dX6_letThrough_100 rfl dX6_letThrough_101 rfl dX6_letThrough_104 rfl rfl ?_
  refine x_cV0 C (MF.slice (i := 5) (n := 1) (cs' := stT E b (mkS (rWr (vW v) (vFi v) z3) (rFi (vFi v)) (vLe v) (upd (vRo v) (oNx (vNe v)).toNatClampNeg (shp z2 (vSh v) (vLi v))) (oNx (vNe v) + 1) (imin ((vKe v) + 1) 12) ((vSa v) + 1) (imax (vGr v) (iabs (shp z2 (vSh v) (vLi v)))) ((vHo v) + (if (if (shp z2 (vSh v) (vLi v)) = z2 then 0 else 1) = 0 then 0 else 1)) ((vHw v) + (if (if z3 = (x + (sShare v 4)) then 0 else 1) = 0 then 0 else 1)) ((vSu v) + (iabs (shp z2 (vSh v) (vLi v))).toInt64) (vDe v) (vGa v) (vLi v) (vSh v) (vSl v))) rfl rfl (Nat.le_of_ble_eq_true rfl) rfl (c_X2_add E N (b + 5) _ (vSa v) (vGr v) (vHo v) (vHw v) (vSu v) (shp z2 (vSh v) (vLi v)) (if (shp z2 (vSh v) (vLi v)) = z2 then 0 else 1) (if z3 = (x + (sShare v 4)) then 0 else 1) (xlo (i := 5) hb_b) (xhn (i := 5) (n := 1) hn_b rfl))) v_X6_81 hN (xlo (i := 5) hb_b) (xhi (i := 5) hn_b rfl) (ov_at (i := 5) rfl) rfl rfl rfl rfl rfl dX6_letThrough_105 ?_
  refine x_iload C dX6_letThrough_108 1 rfl ?_
  subst ez3 ez2 ez1
  exact x_iret C Z rfl rfl rfl (by simp only [bbI]; try rfl) dX6_letThrough_110

set_option maxRecDepth 100000 in
set_option maxHeartbeats 4000000 in
theorem c_X6_wordsOfProgram (E : XE) (N b : Nat) (G : GW) (v : SV) (hb_b : xB E ≤ b) (hn_b : b + 8 ≤ N) : MF E yX6_wordsOfProgram cX6_wordsOfProgram 1 (some .int) 0 0 0 0 [.ref b] N (ov b (stT E b v) G) (some (.int (64 - vLe v))) (ov b (stT E b v) G) := by
  refine MF.mk RX6 rfl (by decide +kernel) rfl (fun K C Z hin hN => ?_)
  show XW E K 1 N 0 0 _ 0 [(0, .ref b)] []
  refine x_bipush C 64 dX6_wordsOfProgram_0 rfl ?_
  refine x_aload_n C dX6_wordsOfProgram_2 0 rfl ?_
  refine x_get C (xlo (i := 0) hb_b) (xhi (i := 0) hn_b rfl) (ov_at (i := 0) rfl) f_X6_12 rfl dX6_wordsOfProgram_3 ?_
  refine x_get C (xlo (i := 1) hb_b) (xhi (i := 1) hn_b rfl) (ov_at (i := 1) rfl) f_X6_51 rfl dX6_wordsOfProgram_6 ?_
  refine x_isub C dX6_wordsOfProgram_9 ?_
  exact x_iret C Z rfl rfl rfl rfl dX6_wordsOfProgram_10

set_option maxRecDepth 100000 in
set_option maxHeartbeats 4000000 in
theorem c_X6_takeWords (E : XE) (N b : Nat) (G : GW) (v : SV) (x : Int32) (hb_b : xB E ≤ b) (hn_b : b + 8 ≤ N) : MF E yX6_takeWords cX6_takeWords 2 none 2 42 0 0 [.ref b, .int x] N (ov b (stT E b v) G) none (ov b (stT E b (sTak v x)) G) := by
  refine MF.mk RX6 rfl (by decide +kernel) rfl (fun K C Z hin hN => ?_)
  show XW E K 2 N 0 0 _ 0 [(0, .ref b), (1, .int x)] []
  refine x_aload_n C dX6_takeWords_0 0 rfl ?_
  refine x_get C (xlo (i := 0) hb_b) (xhi (i := 0) hn_b rfl) (ov_at (i := 0) rfl) f_X6_12 rfl dX6_takeWords_1 ?_
  refine x_iload_n C dX6_takeWords_4 1 rfl ?_
  refine x_cV0 C (MF.slice (i := 1) (n := 2) (cs' := stT E b (mkS (vW v) (vFi v) (imax ((vLe v) - x) 0) (vRo v) (vNe v) (vKe v) (vSa v) (vGr v) (vHo v) (vHw v) (vSu v) (vDe v) (vGa v) (vLi v) (vSh v) (vSl v))) rfl rfl (Nat.le_of_ble_eq_true rfl) rfl (c_X5_shorten E N (b + 1) _ (vW v) (vFi v) (vLe v) x (xlo (i := 1) hb_b) (xhn (i := 1) (n := 2) hn_b rfl))) v_X6_95 hN (xlo (i := 1) hb_b) (xhi (i := 1) hn_b rfl) (ov_at (i := 1) rfl) rfl rfl rfl rfl rfl dX6_takeWords_5 ?_
  refine x_aload_n C dX6_takeWords_8 0 rfl ?_
  refine x_dup C dX6_takeWords_9 rfl ?_
  refine x_get C (xlo (i := 0) hb_b) (xhi (i := 0) hn_b rfl) (ov_at (i := 0) rfl) f_X6_98 rfl dX6_takeWords_10 ?_
  refine x_iload_n C dX6_takeWords_13 1 rfl ?_
  refine x_iadd C dX6_takeWords_14 ?_
  refine x_put (G' := ov b (stT E b (mkS (vW v) (vFi v) (imax ((vLe v) - x) 0) (vRo v) (vNe v) (vKe v) (vSa v) (vGr v) (vHo v) (vHw v) (vSu v) (vDe v) (vGa v) (vLi v) (vSh v) ((vSl v) + x))) G) C (xlo (i := 0) hb_b) (xhi (i := 0) hn_b rfl) (ov_at (i := 0) rfl) f_X6_98 xt_X6 rfl rfl rfl rfl (ov_set (i := 0) rfl rfl) dX6_takeWords_15 ?_
  exact x_vret C Z rfl rfl rfl dX6_takeWords_18

set_option maxRecDepth 100000 in
set_option maxHeartbeats 4000000 in
theorem c_X6_putSetting (E : XE) (N b : Nat) (G : GW) (v : SV) (w x : Int32) (hb_b : xB E ≤ b) (hn_b : b + 8 ≤ N) : MF E yX6_putSetting cX6_putSetting 4 (some .int) 0 0 0 0 [.ref b, .int w, .int x] N (ov b (stT E b v) G) (some (.int (if w = 0 then vLi v else vSh v))) (ov b (stT E b (sSet v w x)) G) := by
  refine MF.mk RX6 rfl (by decide +kernel) rfl (fun K C Z hin hN => ?_)
  show XW E K 4 N 0 0 _ 0 [(0, .ref b), (1, .int w), (2, .int x)] []
  refine x_iload_n C dX6_putSetting_0 1 rfl ?_
  refine x_if_ne C 11 dX6_putSetting_1 rfl (fun c1 => ?_) (fun c1 => ?_)
  · refine x_aload_n C dX6_putSetting_11 0 rfl ?_
    refine x_get C (xlo (i := 0) hb_b) (xhi (i := 0) hn_b rfl) (ov_at (i := 0) rfl) f_X6_67 rfl dX6_putSetting_12 ?_
    refine x_istore_n (L' := [(3, .int (vSh v)), (0, .ref b), (1, .int w), (2, .int x)]) C dX6_putSetting_15 rfl rfl ?_
    refine x_iload_n C dX6_putSetting_16 2 rfl ?_
    refine x_if_ne C 28 dX6_putSetting_17 rfl (fun c17 => ?_) (fun c17 => ?_)
    · refine x_aload_n C dX6_putSetting_28 1 rfl ?_
      refine x_iload_n C dX6_putSetting_29 3 rfl ?_
      refine x_put (G' := ov b (stT E b (mkS (vW v) (vFi v) (vLe v) (vRo v) (vNe v) (vKe v) (vSa v) (vGr v) (vHo v) (vHw v) (vSu v) (vDe v) (vGa v) (vLi v) x (vSl v))) G) C (xlo (i := 0) hb_b) (xhi (i := 0) hn_b rfl) (ov_at (i := 0) rfl) f_X6_67 xt_X6 rfl rfl rfl rfl (ov_set (i := 0) rfl rfl) dX6_putSetting_30 ?_
      refine x_iload_n C dX6_putSetting_33 0 rfl ?_
      exact x_iret C Z rfl rfl (by first | (simp [sSet, c1, c17]; done) | exact absurd c17 c1 | exact absurd c1 c17) (by first | (simp [sSet, c1, c17]; done) | exact absurd c17 c1 | exact absurd c1 c17) dX6_putSetting_34
    · refine x_aload_n C dX6_putSetting_20 1 rfl ?_
      refine x_iload_n C dX6_putSetting_21 3 rfl ?_
      refine x_put (G' := ov b (stT E b (mkS (vW v) (vFi v) (vLe v) (vRo v) (vNe v) (vKe v) (vSa v) (vGr v) (vHo v) (vHw v) (vSu v) (vDe v) (vGa v) x (vSh v) (vSl v))) G) C (xlo (i := 0) hb_b) (xhi (i := 0) hn_b rfl) (ov_at (i := 0) rfl) f_X6_39 xt_X6 rfl rfl rfl rfl (ov_set (i := 0) rfl rfl) dX6_putSetting_22 ?_
      refine x_goto C 33 dX6_putSetting_25 rfl ?_
      refine x_iload_n C dX6_putSetting_33 0 rfl ?_
      exact x_iret C Z rfl rfl (by first | (simp [sSet, c1, c17]; done) | exact absurd c17 c1 | exact absurd c1 c17) (by first | (simp [sSet, c1, c17]; done) | exact absurd c17 c1 | exact absurd c1 c17) dX6_putSetting_34
  · refine x_aload_n C dX6_putSetting_4 0 rfl ?_
    refine x_get C (xlo (i := 0) hb_b) (xhi (i := 0) hn_b rfl) (ov_at (i := 0) rfl) f_X6_39 rfl dX6_putSetting_5 ?_
    refine x_goto C 15 dX6_putSetting_8 rfl ?_
    refine x_istore_n (L' := [(3, .int (vLi v)), (0, .ref b), (1, .int w), (2, .int x)]) C dX6_putSetting_15 rfl rfl ?_
    refine x_iload_n C dX6_putSetting_16 2 rfl ?_
    refine x_if_ne C 28 dX6_putSetting_17 rfl (fun c17 => ?_) (fun c17 => ?_)
    · refine x_aload_n C dX6_putSetting_28 1 rfl ?_
      refine x_iload_n C dX6_putSetting_29 3 rfl ?_
      refine x_put (G' := ov b (stT E b (mkS (vW v) (vFi v) (vLe v) (vRo v) (vNe v) (vKe v) (vSa v) (vGr v) (vHo v) (vHw v) (vSu v) (vDe v) (vGa v) (vLi v) x (vSl v))) G) C (xlo (i := 0) hb_b) (xhi (i := 0) hn_b rfl) (ov_at (i := 0) rfl) f_X6_67 xt_X6 rfl rfl rfl rfl (ov_set (i := 0) rfl rfl) dX6_putSetting_30 ?_
      refine x_iload_n C dX6_putSetting_33 0 rfl ?_
      exact x_iret C Z rfl rfl (by first | (simp [sSet, c1, c17]; done) | exact absurd c17 c1 | exact absurd c1 c17) (by first | (simp [sSet, c1, c17]; done) | exact absurd c17 c1 | exact absurd c1 c17) dX6_putSetting_34
    · refine x_aload_n C dX6_putSetting_20 1 rfl ?_
      refine x_iload_n C dX6_putSetting_21 3 rfl ?_
      refine x_put (G' := ov b (stT E b (mkS (vW v) (vFi v) (vLe v) (vRo v) (vNe v) (vKe v) (vSa v) (vGr v) (vHo v) (vHw v) (vSu v) (vDe v) (vGa v) x (vSh v) (vSl v))) G) C (xlo (i := 0) hb_b) (xhi (i := 0) hn_b rfl) (ov_at (i := 0) rfl) f_X6_39 xt_X6 rfl rfl rfl rfl (ov_set (i := 0) rfl rfl) dX6_putSetting_22 ?_
      refine x_goto C 33 dX6_putSetting_25 rfl ?_
      refine x_iload_n C dX6_putSetting_33 0 rfl ?_
      exact x_iret C Z rfl rfl (by first | (simp [sSet, c1, c17]; done) | exact absurd c17 c1 | exact absurd c1 c17) (by first | (simp [sSet, c1, c17]; done) | exact absurd c17 c1 | exact absurd c1 c17) dX6_putSetting_34

set_option maxRecDepth 100000 in
set_option maxHeartbeats 4000000 in
theorem c_X5_takeOver (E : XE) (N b o : Nat) (G : GW) (w : Nat → Int32) (fi le : Int32) (w2 : Nat → Int32) (fi2 le2 : Int32) (hb_b : xB E ≤ b) (hn_b : b + 2 ≤ N) (hb_o : xB E ≤ o) (hn_o : o + 2 ≤ N) (hd_b_o : b + 2 ≤ o ∨ o + 2 ≤ b) : MF E yX5_takeOver cX5_takeOver 2 none 1 60 0 0 [.ref b, .ref o] N (ov b (ringC E b w fi le) (ov o (ringC E o w2 fi2 le2) G)) none (ov b (ringC E b (va_cpy w2 w 0 0 64) fi2 le2) (ov o (ringC E o w2 fi2 le2) G)) := by
  refine MF.mk RX5 rfl (by decide +kernel) rfl (fun K C Z hin hN => ?_)
  show XW E K 2 N 0 0 _ 0 [(0, .ref b), (1, .ref o)] []
  refine x_aload_n C dX5_takeOver_0 1 rfl ?_
  refine x_get C (xlo (i := 0) hb_o) (xhi (i := 0) hn_o rfl) ((ov_out (n := 2) rfl (by have hd := hd_b_o; omega)).trans (ov_at (i := 0) rfl)) f_X5_9 rfl dX5_takeOver_1 ?_
  refine x_iconst C 0 dX5_takeOver_4 rfl ?_
  refine x_aload_n C dX5_takeOver_5 0 rfl ?_
  refine x_get C (xlo (i := 0) hb_b) (xhi (i := 0) hn_b rfl) (ov_at (i := 0) rfl) f_X5_9 rfl dX5_takeOver_6 ?_
  refine x_iconst C 0 dX5_takeOver_9 rfl ?_
  refine x_bipush C 64 dX5_takeOver_10 rfl ?_
  refine x_copyi (G' := ov b (ringC E b (va_cpy w2 w 0 0 64) fi le) (ov o (ringC E o w2 fi2 le2) G)) C 0 0 64 m_180 (xlo (i := 1) hb_o) (xhi (i := 1) hn_o rfl) ((ov_out (n := 2) rfl (by have hd := hd_b_o; omega)).trans (ov_at (i := 1) rfl)) (xlo (i := 1) hb_b) (xhi (i := 1) hn_b rfl) (ov_at (i := 1) rfl) (by decide) (by decide) (by decide) rfl rfl rfl (by decide) (by decide) rfl (by decide +kernel) (ov_set (i := 1) rfl rfl) dX5_takeOver_12 ?_
  refine x_aload_n C dX5_takeOver_15 0 rfl ?_
  refine x_aload_n C dX5_takeOver_16 1 rfl ?_
  refine x_get C (xlo (i := 0) hb_o) (xhi (i := 0) hn_o rfl) ((ov_out (n := 2) rfl (by have hd := hd_b_o; omega)).trans (ov_at (i := 0) rfl)) f_X5_19 rfl dX5_takeOver_17 ?_
  refine x_put (G' := ov b (ringC E b (va_cpy w2 w 0 0 64) fi2 le) (ov o (ringC E o w2 fi2 le2) G)) C (xlo (i := 0) hb_b) (xhi (i := 0) hn_b rfl) (ov_at (i := 0) rfl) f_X5_19 xt_X5 rfl rfl rfl rfl (ov_set (i := 0) rfl rfl) dX5_takeOver_20 ?_
  refine x_aload_n C dX5_takeOver_23 0 rfl ?_
  refine x_aload_n C dX5_takeOver_24 1 rfl ?_
  refine x_get C (xlo (i := 0) hb_o) (xhi (i := 0) hn_o rfl) ((ov_out (n := 2) rfl (by have hd := hd_b_o; omega)).trans (ov_at (i := 0) rfl)) f_X5_15 rfl dX5_takeOver_25 ?_
  refine x_put (G' := ov b (ringC E b (va_cpy w2 w 0 0 64) fi2 le2) (ov o (ringC E o w2 fi2 le2) G)) C (xlo (i := 0) hb_b) (xhi (i := 0) hn_b rfl) (ov_at (i := 0) rfl) f_X5_15 xt_X5 rfl rfl rfl rfl (ov_set (i := 0) rfl rfl) dX5_takeOver_28 ?_
  exact x_vret C Z rfl rfl rfl dX5_takeOver_31

set_option maxRecDepth 100000 in
set_option maxHeartbeats 4000000 in
theorem c_X4_takeOver (E : XE) (N b o : Nat) (G : GW) (ro : Nat → Int32) (ne ke : Int32) (ro2 : Nat → Int32) (ne2 ke2 : Int32) (hb_b : xB E ≤ b) (hn_b : b + 2 ≤ N) (hb_o : xB E ≤ o) (hn_o : o + 2 ≤ N) (hd_b_o : b + 2 ≤ o ∨ o + 2 ≤ b) : MF E yX4_takeOver cX4_takeOver 2 none 1 60 0 0 [.ref b, .ref o] N (ov b (outC E b ro ne ke) (ov o (outC E o ro2 ne2 ke2) G)) none (ov b (outC E b (va_cpy ro2 ro 0 0 12) ne2 ke2) (ov o (outC E o ro2 ne2 ke2) G)) := by
  refine MF.mk RX4 rfl (by decide +kernel) rfl (fun K C Z hin hN => ?_)
  show XW E K 2 N 0 0 _ 0 [(0, .ref b), (1, .ref o)] []
  refine x_aload_n C dX4_takeOver_0 1 rfl ?_
  refine x_get C (xlo (i := 0) hb_o) (xhi (i := 0) hn_o rfl) ((ov_out (n := 2) rfl (by have hd := hd_b_o; omega)).trans (ov_at (i := 0) rfl)) f_X4_9 rfl dX4_takeOver_1 ?_
  refine x_iconst C 0 dX4_takeOver_4 rfl ?_
  refine x_aload_n C dX4_takeOver_5 0 rfl ?_
  refine x_get C (xlo (i := 0) hb_b) (xhi (i := 0) hn_b rfl) (ov_at (i := 0) rfl) f_X4_9 rfl dX4_takeOver_6 ?_
  refine x_iconst C 0 dX4_takeOver_9 rfl ?_
  refine x_bipush C 12 dX4_takeOver_10 rfl ?_
  refine x_copyi (G' := ov b (outC E b (va_cpy ro2 ro 0 0 12) ne ke) (ov o (outC E o ro2 ne2 ke2) G)) C 0 0 12 m_187 (xlo (i := 1) hb_o) (xhi (i := 1) hn_o rfl) ((ov_out (n := 2) rfl (by have hd := hd_b_o; omega)).trans (ov_at (i := 1) rfl)) (xlo (i := 1) hb_b) (xhi (i := 1) hn_b rfl) (ov_at (i := 1) rfl) (by decide) (by decide) (by decide) rfl rfl rfl (by decide) (by decide) rfl (by decide +kernel) (ov_set (i := 1) rfl rfl) dX4_takeOver_12 ?_
  refine x_aload_n C dX4_takeOver_15 0 rfl ?_
  refine x_aload_n C dX4_takeOver_16 1 rfl ?_
  refine x_get C (xlo (i := 0) hb_o) (xhi (i := 0) hn_o rfl) ((ov_out (n := 2) rfl (by have hd := hd_b_o; omega)).trans (ov_at (i := 0) rfl)) f_X4_15 rfl dX4_takeOver_17 ?_
  refine x_put (G' := ov b (outC E b (va_cpy ro2 ro 0 0 12) ne2 ke) (ov o (outC E o ro2 ne2 ke2) G)) C (xlo (i := 0) hb_b) (xhi (i := 0) hn_b rfl) (ov_at (i := 0) rfl) f_X4_15 xt_X4 rfl rfl rfl rfl (ov_set (i := 0) rfl rfl) dX4_takeOver_20 ?_
  refine x_aload_n C dX4_takeOver_23 0 rfl ?_
  refine x_aload_n C dX4_takeOver_24 1 rfl ?_
  refine x_get C (xlo (i := 0) hb_o) (xhi (i := 0) hn_o rfl) ((ov_out (n := 2) rfl (by have hd := hd_b_o; omega)).trans (ov_at (i := 0) rfl)) f_X4_19 rfl dX4_takeOver_25 ?_
  refine x_put (G' := ov b (outC E b (va_cpy ro2 ro 0 0 12) ne2 ke2) (ov o (outC E o ro2 ne2 ke2) G)) C (xlo (i := 0) hb_b) (xhi (i := 0) hn_b rfl) (ov_at (i := 0) rfl) f_X4_19 xt_X4 rfl rfl rfl rfl (ov_set (i := 0) rfl rfl) dX4_takeOver_28 ?_
  exact x_vret C Z rfl rfl rfl dX4_takeOver_31

set_option maxRecDepth 100000 in
set_option maxHeartbeats 4000000 in
theorem c_X2_takeOver (E : XE) (N b o : Nat) (G : GW) (sa gr ho hw : Int32) (su : Int64) (sa2 gr2 ho2 hw2 : Int32) (su2 : Int64) (hb_b : xB E ≤ b) (hn_b : b + 1 ≤ N) (hb_o : xB E ≤ o) (hn_o : o + 1 ≤ N) (hd_b_o : b + 1 ≤ o ∨ o + 1 ≤ b) : MF E yX2_takeOver cX2_takeOver 2 none 0 0 0 0 [.ref b, .ref o] N (ov b (metC E b sa gr ho hw su) (ov o (metC E o sa2 gr2 ho2 hw2 su2) G)) none (ov b (metC E b sa2 gr2 ho2 hw2 su2) (ov o (metC E o sa2 gr2 ho2 hw2 su2) G)) := by
  refine MF.mk RX2 rfl (by decide +kernel) rfl (fun K C Z hin hN => ?_)
  show XW E K 2 N 0 0 _ 0 [(0, .ref b), (1, .ref o)] []
  refine x_aload_n C dX2_takeOver_0 0 rfl ?_
  refine x_aload_n C dX2_takeOver_1 1 rfl ?_
  refine x_get C (xlo (i := 0) hb_o) (xhi (i := 0) hn_o rfl) ((ov_out (n := 1) rfl (by have hd := hd_b_o; omega)).trans (ov_at (i := 0) rfl)) f_X2_13 rfl dX2_takeOver_2 ?_
  refine x_put (G' := ov b (metC E b sa2 gr ho hw su) (ov o (metC E o sa2 gr2 ho2 hw2 su2) G)) C (xlo (i := 0) hb_b) (xhi (i := 0) hn_b rfl) (ov_at (i := 0) rfl) f_X2_13 xt_X2 rfl rfl rfl rfl (ov_set (i := 0) rfl rfl) dX2_takeOver_5 ?_
  refine x_aload_n C dX2_takeOver_8 0 rfl ?_
  refine x_aload_n C dX2_takeOver_9 1 rfl ?_
  refine x_get C (xlo (i := 0) hb_o) (xhi (i := 0) hn_o rfl) ((ov_out (n := 1) rfl (by have hd := hd_b_o; omega)).trans (ov_at (i := 0) rfl)) f_X2_23 rfl dX2_takeOver_10 ?_
  refine x_put (G' := ov b (metC E b sa2 gr2 ho hw su) (ov o (metC E o sa2 gr2 ho2 hw2 su2) G)) C (xlo (i := 0) hb_b) (xhi (i := 0) hn_b rfl) (ov_at (i := 0) rfl) f_X2_23 xt_X2 rfl rfl rfl rfl (ov_set (i := 0) rfl rfl) dX2_takeOver_13 ?_
  refine x_aload_n C dX2_takeOver_16 0 rfl ?_
  refine x_aload_n C dX2_takeOver_17 1 rfl ?_
  refine x_get C (xlo (i := 0) hb_o) (xhi (i := 0) hn_o rfl) ((ov_out (n := 1) rfl (by have hd := hd_b_o; omega)).trans (ov_at (i := 0) rfl)) f_X2_30 rfl dX2_takeOver_18 ?_
  refine x_put (G' := ov b (metC E b sa2 gr2 ho2 hw su) (ov o (metC E o sa2 gr2 ho2 hw2 su2) G)) C (xlo (i := 0) hb_b) (xhi (i := 0) hn_b rfl) (ov_at (i := 0) rfl) f_X2_30 xt_X2 rfl rfl rfl rfl (ov_set (i := 0) rfl rfl) dX2_takeOver_21 ?_
  refine x_aload_n C dX2_takeOver_24 0 rfl ?_
  refine x_aload_n C dX2_takeOver_25 1 rfl ?_
  refine x_get C (xlo (i := 0) hb_o) (xhi (i := 0) hn_o rfl) ((ov_out (n := 1) rfl (by have hd := hd_b_o; omega)).trans (ov_at (i := 0) rfl)) f_X2_33 rfl dX2_takeOver_26 ?_
  refine x_put (G' := ov b (metC E b sa2 gr2 ho2 hw2 su) (ov o (metC E o sa2 gr2 ho2 hw2 su2) G)) C (xlo (i := 0) hb_b) (xhi (i := 0) hn_b rfl) (ov_at (i := 0) rfl) f_X2_33 xt_X2 rfl rfl rfl rfl (ov_set (i := 0) rfl rfl) dX2_takeOver_29 ?_
  refine x_aload_n C dX2_takeOver_32 0 rfl ?_
  refine x_aload_n C dX2_takeOver_33 1 rfl ?_
  refine x_get C (xlo (i := 0) hb_o) (xhi (i := 0) hn_o rfl) ((ov_out (n := 1) rfl (by have hd := hd_b_o; omega)).trans (ov_at (i := 0) rfl)) f_X2_19 rfl dX2_takeOver_34 ?_
  refine x_put (G' := ov b (metC E b sa2 gr2 ho2 hw2 su2) (ov o (metC E o sa2 gr2 ho2 hw2 su2) G)) C (xlo (i := 0) hb_b) (xhi (i := 0) hn_b rfl) (ov_at (i := 0) rfl) f_X2_19 xt_X2 rfl rfl rfl rfl (ov_set (i := 0) rfl rfl) dX2_takeOver_37 ?_
  exact x_vret C Z rfl rfl rfl dX2_takeOver_40

set_option maxRecDepth 100000 in
set_option maxHeartbeats 4000000 in
theorem c_X6_takeOver (E : XE) (N b o : Nat) (G : GW) (v u : SV) (hb_b : xB E ≤ b) (hn_b : b + 8 ≤ N) (hb_o : xB E ≤ o) (hn_o : o + 8 ≤ N) (hd_b_o : b + 8 ≤ o ∨ o + 8 ≤ b) : MF E yX6_takeOver cX6_takeOver 2 none 2 81 0 0 [.ref b, .ref o] N (ov b (stT E b v) (ov o (stT E o u) G)) none (ov b (stT E b (sCpy v u)) (ov o (stT E o u) G)) := by
  refine MF.mk RX6 rfl (by decide +kernel) rfl (fun K C Z hin hN => ?_)
  show XW E K 2 N 0 0 _ 0 [(0, .ref b), (1, .ref o)] []
  refine x_aload_n C dX6_takeOver_0 0 rfl ?_
  refine x_get C (xlo (i := 0) hb_b) (xhi (i := 0) hn_b rfl) (ov_at (i := 0) rfl) f_X6_12 rfl dX6_takeOver_1 ?_
  refine x_aload_n C dX6_takeOver_4 1 rfl ?_
  refine x_get C (xlo (i := 0) hb_o) (xhi (i := 0) hn_o rfl) ((ov_out (n := 8) rfl (by have hd := hd_b_o; omega)).trans (ov_at (i := 0) rfl)) f_X6_12 rfl dX6_takeOver_5 ?_
  refine x_cV0 C (MF.slice2 (p := 8) (i := 1) (j := 1) (n := 2) (k := 2) (cs' := stT E b (mkS (va_cpy (vW u) (vW v) 0 0 64) (vFi u) (vLe u) (vRo v) (vNe v) (vKe v) (vSa v) (vGr v) (vHo v) (vHw v) (vSu v) (vDe v) (vGa v) (vLi v) (vSh v) (vSl v))) rfl rfl rfl rfl rfl (Nat.le_of_ble_eq_true rfl) rfl (by have hd := hd_b_o; omega) (c_X5_takeOver E N (b + 1) (o + 1) _ (vW v) (vFi v) (vLe v) (vW u) (vFi u) (vLe u) (xlo (i := 1) hb_b) (xhn (i := 1) (n := 2) hn_b rfl) (xlo (i := 1) hb_o) (xhn (i := 1) (n := 2) hn_o rfl) (by have hd := hd_b_o; omega))) v_X6_101 hN (xlo (i := 1) hb_b) (xhi (i := 1) hn_b rfl) (ov_at (i := 1) rfl) rfl rfl rfl rfl rfl dX6_takeOver_8 ?_
  refine x_aload_n C dX6_takeOver_11 0 rfl ?_
  refine x_get C (xlo (i := 0) hb_b) (xhi (i := 0) hn_b rfl) (ov_at (i := 0) rfl) f_X6_21 rfl dX6_takeOver_12 ?_
  refine x_aload_n C dX6_takeOver_15 1 rfl ?_
  refine x_get C (xlo (i := 0) hb_o) (xhi (i := 0) hn_o rfl) ((ov_out (n := 8) rfl (by have hd := hd_b_o; omega)).trans (ov_at (i := 0) rfl)) f_X6_21 rfl dX6_takeOver_16 ?_
  refine x_cV0 C (MF.slice2 (p := 8) (i := 3) (j := 3) (n := 2) (k := 2) (cs' := stT E b (mkS (va_cpy (vW u) (vW v) 0 0 64) (vFi u) (vLe u) (va_cpy (vRo u) (vRo v) 0 0 12) (vNe u) (vKe u) (vSa v) (vGr v) (vHo v) (vHw v) (vSu v) (vDe v) (vGa v) (vLi v) (vSh v) (vSl v))) rfl rfl rfl rfl rfl (Nat.le_of_ble_eq_true rfl) rfl (by have hd := hd_b_o; omega) (c_X4_takeOver E N (b + 3) (o + 3) _ (vRo v) (vNe v) (vKe v) (vRo u) (vNe u) (vKe u) (xlo (i := 3) hb_b) (xhn (i := 3) (n := 2) hn_b rfl) (xlo (i := 3) hb_o) (xhn (i := 3) (n := 2) hn_o rfl) (by have hd := hd_b_o; omega))) v_X6_105 hN (xlo (i := 3) hb_b) (xhi (i := 3) hn_b rfl) (ov_at (i := 3) rfl) rfl rfl rfl rfl rfl dX6_takeOver_19 ?_
  refine x_aload_n C dX6_takeOver_22 0 rfl ?_
  refine x_get C (xlo (i := 0) hb_b) (xhi (i := 0) hn_b rfl) (ov_at (i := 0) rfl) f_X6_28 rfl dX6_takeOver_23 ?_
  refine x_aload_n C dX6_takeOver_26 1 rfl ?_
  refine x_get C (xlo (i := 0) hb_o) (xhi (i := 0) hn_o rfl) ((ov_out (n := 8) rfl (by have hd := hd_b_o; omega)).trans (ov_at (i := 0) rfl)) f_X6_28 rfl dX6_takeOver_27 ?_
  refine x_cV0 C (MF.slice2 (p := 8) (i := 5) (j := 5) (n := 1) (k := 1) (cs' := stT E b (mkS (va_cpy (vW u) (vW v) 0 0 64) (vFi u) (vLe u) (va_cpy (vRo u) (vRo v) 0 0 12) (vNe u) (vKe u) (vSa u) (vGr u) (vHo u) (vHw u) (vSu u) (vDe v) (vGa v) (vLi v) (vSh v) (vSl v))) rfl rfl rfl rfl rfl (Nat.le_of_ble_eq_true rfl) rfl (by have hd := hd_b_o; omega) (c_X2_takeOver E N (b + 5) (o + 5) _ (vSa v) (vGr v) (vHo v) (vHw v) (vSu v) (vSa u) (vGr u) (vHo u) (vHw u) (vSu u) (xlo (i := 5) hb_b) (xhn (i := 5) (n := 1) hn_b rfl) (xlo (i := 5) hb_o) (xhn (i := 5) (n := 1) hn_o rfl) (by have hd := hd_b_o; omega))) v_X6_108 hN (xlo (i := 5) hb_b) (xhi (i := 5) hn_b rfl) (ov_at (i := 5) rfl) rfl rfl rfl rfl rfl dX6_takeOver_30 ?_
  refine x_aload_n C dX6_takeOver_33 1 rfl ?_
  refine x_get C (xlo (i := 0) hb_o) (xhi (i := 0) hn_o rfl) ((ov_out (n := 8) rfl (by have hd := hd_b_o; omega)).trans (ov_at (i := 0) rfl)) f_X6_32 rfl dX6_takeOver_34 ?_
  refine x_iconst C 0 dX6_takeOver_37 rfl ?_
  refine x_aload_n C dX6_takeOver_38 0 rfl ?_
  refine x_get C (xlo (i := 0) hb_b) (xhi (i := 0) hn_b rfl) (ov_at (i := 0) rfl) f_X6_32 rfl dX6_takeOver_39 ?_
  refine x_iconst C 0 dX6_takeOver_42 rfl ?_
  refine x_iconst C 5 dX6_takeOver_43 rfl ?_
  refine x_copyi (G' := ov b (stT E b (mkS (va_cpy (vW u) (vW v) 0 0 64) (vFi u) (vLe u) (va_cpy (vRo u) (vRo v) 0 0 12) (vNe u) (vKe u) (vSa u) (vGr u) (vHo u) (vHw u) (vSu u) (va_cpy (vDe u) (vDe v) 0 0 5) (vGa v) (vLi v) (vSh v) (vSl v))) (ov o (stT E o u) G)) C 0 0 5 m_192 (xlo (i := 6) hb_o) (xhi (i := 6) hn_o rfl) ((ov_out (n := 8) rfl (by have hd := hd_b_o; omega)).trans (ov_at (i := 6) rfl)) (xlo (i := 6) hb_b) (xhi (i := 6) hn_b rfl) (ov_at (i := 6) rfl) (by decide) (by decide) (by decide) rfl rfl rfl (by decide) (by decide) rfl (by decide +kernel) (ov_set (i := 6) rfl rfl) dX6_takeOver_44 ?_
  refine x_aload_n C dX6_takeOver_47 1 rfl ?_
  refine x_get C (xlo (i := 0) hb_o) (xhi (i := 0) hn_o rfl) ((ov_out (n := 8) rfl (by have hd := hd_b_o; omega)).trans (ov_at (i := 0) rfl)) f_X6_36 rfl dX6_takeOver_48 ?_
  refine x_iconst C 0 dX6_takeOver_51 rfl ?_
  refine x_aload_n C dX6_takeOver_52 0 rfl ?_
  refine x_get C (xlo (i := 0) hb_b) (xhi (i := 0) hn_b rfl) (ov_at (i := 0) rfl) f_X6_36 rfl dX6_takeOver_53 ?_
  refine x_iconst C 0 dX6_takeOver_56 rfl ?_
  refine x_iconst C 5 dX6_takeOver_57 rfl ?_
  refine x_copyi (G' := ov b (stT E b (mkS (va_cpy (vW u) (vW v) 0 0 64) (vFi u) (vLe u) (va_cpy (vRo u) (vRo v) 0 0 12) (vNe u) (vKe u) (vSa u) (vGr u) (vHo u) (vHw u) (vSu u) (va_cpy (vDe u) (vDe v) 0 0 5) (va_cpy (vGa u) (vGa v) 0 0 5) (vLi v) (vSh v) (vSl v))) (ov o (stT E o u) G)) C 0 0 5 m_192 (xlo (i := 7) hb_o) (xhi (i := 7) hn_o rfl) ((ov_out (n := 8) rfl (by have hd := hd_b_o; omega)).trans (ov_at (i := 7) rfl)) (xlo (i := 7) hb_b) (xhi (i := 7) hn_b rfl) (ov_at (i := 7) rfl) (by decide) (by decide) (by decide) rfl rfl rfl (by decide) (by decide) rfl (by decide +kernel) (ov_set (i := 7) rfl rfl) dX6_takeOver_58 ?_
  refine x_aload_n C dX6_takeOver_61 0 rfl ?_
  refine x_aload_n C dX6_takeOver_62 1 rfl ?_
  refine x_get C (xlo (i := 0) hb_o) (xhi (i := 0) hn_o rfl) ((ov_out (n := 8) rfl (by have hd := hd_b_o; omega)).trans (ov_at (i := 0) rfl)) f_X6_39 rfl dX6_takeOver_63 ?_
  refine x_put (G' := ov b (stT E b (mkS (va_cpy (vW u) (vW v) 0 0 64) (vFi u) (vLe u) (va_cpy (vRo u) (vRo v) 0 0 12) (vNe u) (vKe u) (vSa u) (vGr u) (vHo u) (vHw u) (vSu u) (va_cpy (vDe u) (vDe v) 0 0 5) (va_cpy (vGa u) (vGa v) 0 0 5) (vLi u) (vSh v) (vSl v))) (ov o (stT E o u) G)) C (xlo (i := 0) hb_b) (xhi (i := 0) hn_b rfl) (ov_at (i := 0) rfl) f_X6_39 xt_X6 rfl rfl rfl rfl (ov_set (i := 0) rfl rfl) dX6_takeOver_66 ?_
  refine x_aload_n C dX6_takeOver_69 0 rfl ?_
  refine x_aload_n C dX6_takeOver_70 1 rfl ?_
  refine x_get C (xlo (i := 0) hb_o) (xhi (i := 0) hn_o rfl) ((ov_out (n := 8) rfl (by have hd := hd_b_o; omega)).trans (ov_at (i := 0) rfl)) f_X6_67 rfl dX6_takeOver_71 ?_
  refine x_put (G' := ov b (stT E b (mkS (va_cpy (vW u) (vW v) 0 0 64) (vFi u) (vLe u) (va_cpy (vRo u) (vRo v) 0 0 12) (vNe u) (vKe u) (vSa u) (vGr u) (vHo u) (vHw u) (vSu u) (va_cpy (vDe u) (vDe v) 0 0 5) (va_cpy (vGa u) (vGa v) 0 0 5) (vLi u) (vSh u) (vSl v))) (ov o (stT E o u) G)) C (xlo (i := 0) hb_b) (xhi (i := 0) hn_b rfl) (ov_at (i := 0) rfl) f_X6_67 xt_X6 rfl rfl rfl rfl (ov_set (i := 0) rfl rfl) dX6_takeOver_74 ?_
  refine x_aload_n C dX6_takeOver_77 0 rfl ?_
  refine x_aload_n C dX6_takeOver_78 1 rfl ?_
  refine x_get C (xlo (i := 0) hb_o) (xhi (i := 0) hn_o rfl) ((ov_out (n := 8) rfl (by have hd := hd_b_o; omega)).trans (ov_at (i := 0) rfl)) f_X6_98 rfl dX6_takeOver_79 ?_
  refine x_put (G' := ov b (stT E b (mkS (va_cpy (vW u) (vW v) 0 0 64) (vFi u) (vLe u) (va_cpy (vRo u) (vRo v) 0 0 12) (vNe u) (vKe u) (vSa u) (vGr u) (vHo u) (vHw u) (vSu u) (va_cpy (vDe u) (vDe v) 0 0 5) (va_cpy (vGa u) (vGa v) 0 0 5) (vLi u) (vSh u) (vSl u))) (ov o (stT E o u) G)) C (xlo (i := 0) hb_b) (xhi (i := 0) hn_b rfl) (ov_at (i := 0) rfl) f_X6_98 xt_X6 rfl rfl rfl rfl (ov_set (i := 0) rfl rfl) dX6_takeOver_82 ?_
  exact x_vret C Z rfl rfl rfl dX6_takeOver_85


