/-! ===== Ring, Outputs, Meters, Text ===== -/
set_option maxRecDepth 100000 in
set_option maxHeartbeats 4000000 in
theorem c_X5_write (E : XE) (N b : Nat) (G : GW) (w : Nat → Int32) (fi le x : Int32) (hb_b : xB E ≤ b) (hn_b : b + 2 ≤ N) : MF E yX5_write cX5_write 2 none 0 0 0 0 [.ref b, .int x] N (ov b (ringC E b w fi le) G) none (ov b (ringC E b (rWr w fi x) (rFi fi) le) G) := by
  refine MF.mk RX5 rfl (by decide +kernel) rfl (fun K C Z hin hN => ?_)
  show XW E K 2 N 0 0 _ 0 [(0, .ref b), (1, .int x)] []
  refine x_aload_n C dX5_write_0 0 rfl ?_
  refine x_aload_n C dX5_write_1 0 rfl ?_
  refine x_get C (xlo (i := 0) hb_b) (xhi (i := 0) hn_b rfl) (ov_at (i := 0) rfl) f_X5_19 rfl dX5_write_2 ?_
  refine x_iconst C 1 dX5_write_5 rfl ?_
  refine x_isub C dX5_write_6 ?_
  refine x_bipush C 63 dX5_write_7 rfl ?_
  refine x_iand C dX5_write_9 ?_
  refine x_put (G' := ov b (ringC E b w ((fi - 1) &&& 63) le) G) C (xlo (i := 0) hb_b) (xhi (i := 0) hn_b rfl) (ov_at (i := 0) rfl) f_X5_19 xt_X5 rfl rfl rfl rfl (ov_set (i := 0) rfl rfl) dX5_write_10 ?_
  refine x_aload_n C dX5_write_13 0 rfl ?_
  refine x_get C (xlo (i := 0) hb_b) (xhi (i := 0) hn_b rfl) (ov_at (i := 0) rfl) f_X5_9 rfl dX5_write_14 ?_
  refine x_aload_n C dX5_write_17 0 rfl ?_
  refine x_get C (xlo (i := 0) hb_b) (xhi (i := 0) hn_b rfl) (ov_at (i := 0) rfl) f_X5_19 rfl dX5_write_18 ?_
  refine x_bipush C 63 dX5_write_21 rfl ?_
  refine x_iand C dX5_write_23 ?_
  refine x_iload_n C dX5_write_24 1 rfl ?_
  refine x_iast (G' := ov b (ringC E b (upd w ((((fi - 1) &&& 63) &&& 63).toNatClampNeg) x) ((fi - 1) &&& 63) le) G) C ((((fi - 1) &&& 63) &&& 63).toNatClampNeg) (xlo (i := 1) hb_b) (xhi (i := 1) hn_b rfl) (ov_at (i := 1) rfl) (vp_in_and63 _) rfl (ov_set (i := 1) rfl rfl) dX5_write_25 ?_
  exact x_vret C Z rfl rfl rfl dX5_write_26

set_option maxRecDepth 100000 in
set_option maxHeartbeats 4000000 in
theorem c_X5_shorten (E : XE) (N b : Nat) (G : GW) (w : Nat → Int32) (fi le x : Int32) (hb_b : xB E ≤ b) (hn_b : b + 2 ≤ N) : MF E yX5_shorten cX5_shorten 2 none 1 21 0 0 [.ref b, .int x] N (ov b (ringC E b w fi le) G) none (ov b (ringC E b w fi (imax (le - x) 0)) G) := by
  refine MF.mk RX5 rfl (by decide +kernel) rfl (fun K C Z hin hN => ?_)
  show XW E K 2 N 0 0 _ 0 [(0, .ref b), (1, .int x)] []
  refine x_aload_n C dX5_shorten_0 0 rfl ?_
  refine x_aload_n C dX5_shorten_1 0 rfl ?_
  refine x_get C (xlo (i := 0) hb_b) (xhi (i := 0) hn_b rfl) (ov_at (i := 0) rfl) f_X5_15 rfl dX5_shorten_2 ?_
  refine x_iload_n C dX5_shorten_5 1 rfl ?_
  refine x_isub C dX5_shorten_6 ?_
  refine x_iconst C 0 dX5_shorten_7 rfl ?_
  refine x_mmax C m_302 rfl rfl rfl rfl dX5_shorten_8 ?_
  refine x_put (G' := ov b (ringC E b w fi (imax (le - x) 0)) G) C (xlo (i := 0) hb_b) (xhi (i := 0) hn_b rfl) (ov_at (i := 0) rfl) f_X5_15 xt_X5 rfl rfl rfl rfl (ov_set (i := 0) rfl rfl) dX5_shorten_11 ?_
  exact x_vret C Z rfl rfl rfl dX5_shorten_14

set_option maxRecDepth 100000 in
set_option maxHeartbeats 4000000 in
theorem c_X5_lengthen (E : XE) (N b : Nat) (G : GW) (w : Nat → Int32) (fi : Int32) (l k : Nat) (hl : l + k ≤ 64) (hb_b : xB E ≤ b) (hn_b : b + 2 ≤ N) : MF E yX5_lengthen cX5_lengthen 4 none 1 21 0 0 [.ref b, .int (nI k)] N (ov b (ringC E b w fi (nI l)) G) none (ov b (ringC E b (rZf w fi l k) fi (nI (l + k))) G) := by
  refine MF.mk RX5 rfl (by decide +kernel) rfl (fun K C Z hin hN => ?_)
  show XW E K 4 N 0 0 _ 0 [(0, .ref b), (1, .int (nI k))] []
  refine x_aload_n C dX5_lengthen_0 0 rfl ?_
  refine x_get C (xlo (i := 0) hb_b) (xhi (i := 0) hn_b rfl) (ov_at (i := 0) rfl) f_X5_15 rfl dX5_lengthen_1 ?_
  refine x_iload_n C dX5_lengthen_4 1 rfl ?_
  refine x_iadd C dX5_lengthen_5 ?_
  refine x_bipush C 64 dX5_lengthen_6 rfl ?_
  refine x_mmin C m_314 rfl rfl rfl rfl dX5_lengthen_8 ?_
  refine x_v (w := .int (nI (l + k))) (by rw [imin64 hl]) ?_
  refine x_istore_n (L' := [(2, .int (nI (l + k))), (0, .ref b), (1, .int (nI k))]) C dX5_lengthen_11 rfl rfl ?_
  refine x_aload_n C dX5_lengthen_12 1 rfl ?_
  refine x_get C (xlo (i := 0) hb_b) (xhi (i := 0) hn_b rfl) (ov_at (i := 0) rfl) f_X5_15 rfl dX5_lengthen_13 ?_
  refine x_istore_n (L' := [(3, .int (nI l)), (2, .int (nI (l + k))), (0, .ref b), (1, .int (nI k))]) C dX5_lengthen_16 rfl rfl ?_
  refine x_perm (L' := [(0, .ref b), (2, .int (nI (l + k))), (3, .int (nI l))]) [2, 1, 0] rfl ?_
  have lp17 : ∀ (d i : Nat), i + d = k → XW E K 4 N 0 0 (ov b (ringC E b (rZf w fi l i) fi (nI l)) G) 17 [(0, .ref b), (2, .int (nI (l + k))), (3, .int (nI (l + i)))] [] := by
    intro d
    induction d with
    | zero =>
      intro i hd
      have hi : i = k := by omega
      refine x_iload_n C dX5_lengthen_17 2 rfl ?_
      refine x_iload_n C dX5_lengthen_18 1 rfl ?_
      refine x_icmp_ge C 43 dX5_lengthen_19 rfl (fun _ => ?_) (fun c => absurd c (not_not_intro (nI_le (by omega) (by omega))))
      refine x_aload_n C dX5_lengthen_43 0 rfl ?_
      refine x_iload_n C dX5_lengthen_44 1 rfl ?_
      refine x_put (G' := ov b (ringC E b (rZf w fi l i) fi (nI (l + k))) G) C (xlo (i := 0) hb_b) (xhi (i := 0) hn_b rfl) (ov_at (i := 0) rfl) f_X5_15 xt_X5 rfl rfl rfl rfl (ov_set (i := 0) rfl rfl) dX5_lengthen_45 ?_
      exact x_vret C Z rfl rfl (by rw [hi]) dX5_lengthen_48
    | succ d ih =>
      intro i hd
      have hi : i < k := by omega
      refine x_iload_n C dX5_lengthen_17 2 rfl ?_
      refine x_iload_n C dX5_lengthen_18 1 rfl ?_
      refine x_icmp_ge C 43 dX5_lengthen_19 rfl (fun c => absurd c (nI_ge (by omega) (by omega))) (fun _ => ?_)
      refine x_aload_n C dX5_lengthen_22 0 rfl ?_
      refine x_get C (xlo (i := 0) hb_b) (xhi (i := 0) hn_b rfl) (ov_at (i := 0) rfl) f_X5_9 rfl dX5_lengthen_23 ?_
      refine x_aload_n C dX5_lengthen_26 0 rfl ?_
      refine x_get C (xlo (i := 0) hb_b) (xhi (i := 0) hn_b rfl) (ov_at (i := 0) rfl) f_X5_19 rfl dX5_lengthen_27 ?_
      refine x_iload_n C dX5_lengthen_30 2 rfl ?_
      refine x_iadd C dX5_lengthen_31 ?_
      refine x_bipush C 63 dX5_lengthen_32 rfl ?_
      refine x_iand C dX5_lengthen_34 ?_
      refine x_iconst C 0 dX5_lengthen_35 rfl ?_
      refine x_iast (G' := ov b (ringC E b (upd (rZf w fi l i) (((fi + (nI (l + i))) &&& 63).toNatClampNeg) 0) fi (nI l)) G) C (((fi + (nI (l + i))) &&& 63).toNatClampNeg) (xlo (i := 1) hb_b) (xhi (i := 1) hn_b rfl) (ov_at (i := 1) rfl) (vp_in_and63 _) rfl (ov_set (i := 1) rfl rfl) dX5_lengthen_36 ?_
      refine x_iinc (L' := [(3, .int ((nI (l + i)) + 1)), (0, .ref b), (2, .int (nI (l + k)))]) C ((nI (l + i)) + 1) dX5_lengthen_37 2 rfl rfl rfl rfl ?_
      refine x_goto C 17 dX5_lengthen_40 rfl ?_
      refine x_perm (L' := [(0, .ref b), (2, .int (nI (l + k))), (3, .int ((nI (l + i)) + 1))]) [1, 2, 0] rfl ?_
      refine x_to (L' := [(0, .ref b), (2, .int (nI (l + k))), (3, .int (nI (l + (i + 1))))]) (G' := ov b (ringC E b (rZf w fi l (i + 1)) fi (nI l)) G) (by simp only [← Nat.add_assoc, nI_succ]) rfl rfl ?_
      exact ih (i + 1) (by omega)
  refine x_to (L' := [(0, .ref b), (2, .int (nI (l + k))), (3, .int (nI (l + 0)))]) (G' := ov b (ringC E b (rZf w fi l 0) fi (nI l)) G) rfl rfl rfl ?_
  exact lp17 _ 0 (Nat.add_sub_cancel' (by omega))

set_option maxRecDepth 100000 in
set_option maxHeartbeats 4000000 in
theorem c_X5_wordsAbove (E : XE) (N b : Nat) (G : GW) (w : Nat → Int32) (fi : Int32) (l : Nat) (x : Int32) (hl : l ≤ 64) (hb_b : xB E ≤ b) (hn_b : b + 2 ≤ N) : MF E yX5_wordsAbove cX5_wordsAbove 4 (some .int) 1 21 0 0 [.ref b, .int x] N (ov b (ringC E b w fi (nI l)) G) (some (.int (cntAb (fun j => rAt w fi (nI l) (nI j)) x l))) (ov b (ringC E b w fi (nI l)) G) := by
  refine MF.mk RX5 rfl (by decide +kernel) rfl (fun K C Z hin hN => ?_)
  show XW E K 4 N 0 0 _ 0 [(0, .ref b), (1, .int x)] []
  refine x_iconst C 0 dX5_wordsAbove_0 rfl ?_
  refine x_istore_n (L' := [(2, .int 0), (0, .ref b), (1, .int x)]) C dX5_wordsAbove_1 rfl rfl ?_
  refine x_iconst C 0 dX5_wordsAbove_2 rfl ?_
  refine x_istore_n (L' := [(3, .int 0), (2, .int 0), (0, .ref b), (1, .int x)]) C dX5_wordsAbove_3 rfl rfl ?_
  refine x_perm (L' := [(0, .ref b), (1, .int x), (2, .int 0), (3, .int 0)]) [2, 3, 1, 0] rfl ?_
  have lp4 : ∀ (d i : Nat), i + d = l → XW E K 4 N 0 0 (ov b (ringC E b w fi (nI l)) G) 4 [(0, .ref b), (1, .int x), (2, .int (cntAb (fun j => rAt w fi (nI l) (nI j)) x i)), (3, .int (nI i))] [] := by
    intro d
    induction d with
    | zero =>
      intro i hd
      have hi : i = l := by omega
      refine x_iload_n C dX5_wordsAbove_4 3 rfl ?_
      refine x_aload_n C dX5_wordsAbove_5 0 rfl ?_
      refine x_get C (xlo (i := 0) hb_b) (xhi (i := 0) hn_b rfl) (ov_at (i := 0) rfl) f_X5_15 rfl dX5_wordsAbove_6 ?_
      refine x_icmp_ge C 38 dX5_wordsAbove_9 rfl (fun _ => ?_) (fun c => absurd c (not_not_intro (nI_le (by omega) (by omega))))
      refine x_iload_n C dX5_wordsAbove_38 2 rfl ?_
      exact x_iret C Z rfl rfl (by rw [hi]) rfl dX5_wordsAbove_39
    | succ d ih =>
      intro i hd
      have hi : i < l := by omega
      refine x_iload_n C dX5_wordsAbove_4 3 rfl ?_
      refine x_aload_n C dX5_wordsAbove_5 0 rfl ?_
      refine x_get C (xlo (i := 0) hb_b) (xhi (i := 0) hn_b rfl) (ov_at (i := 0) rfl) f_X5_15 rfl dX5_wordsAbove_6 ?_
      refine x_icmp_ge C 38 dX5_wordsAbove_9 rfl (fun c => absurd c (nI_ge (by omega) (by omega))) (fun _ => ?_)
      refine x_iload_n C dX5_wordsAbove_12 2 rfl ?_
      refine x_aload_n C dX5_wordsAbove_13 0 rfl ?_
      refine x_iload_n C dX5_wordsAbove_14 3 rfl ?_
      refine x_cV1 C (c_X5_wordAt E N b _ w fi (nI l) (nI i) hb_b hn_b) v_X5_37 hN (xlo (i := 0) hb_b) (xhi (i := 0) hn_b rfl) (ov_at (i := 0) rfl) rfl rfl rfl rfl rfl dX5_wordsAbove_15 ?_
      refine x_mabs C m_380 rfl rfl rfl rfl dX5_wordsAbove_18 ?_
      refine x_iload_n C dX5_wordsAbove_21 1 rfl ?_
      refine x_t_icmp_le C 29 30 1 0 dX5_wordsAbove_22 rfl dX5_wordsAbove_25 rfl dX5_wordsAbove_26 rfl dX5_wordsAbove_29 rfl rfl ?_
      refine x_iadd C dX5_wordsAbove_30 ?_
      refine x_topi (fun z1 ez1 => ?_)
      refine x_istore_n (L' := [(2, .int z1), (0, .ref b), (1, .int x), (3, .int (nI i))]) C dX5_wordsAbove_31 rfl rfl ?_
      refine x_iinc (L' := [(3, .int ((nI i) + 1)), (2, .int z1), (0, .ref b), (1, .int x)]) C ((nI i) + 1) dX5_wordsAbove_32 3 rfl rfl rfl rfl ?_
      refine x_goto C 4 dX5_wordsAbove_35 rfl ?_
      refine x_perm (L' := [(0, .ref b), (1, .int x), (2, .int z1), (3, .int ((nI i) + 1))]) [2, 3, 1, 0] rfl ?_
      subst ez1
      refine x_to (L' := [(0, .ref b), (1, .int x), (2, .int (cntAb (fun j => rAt w fi (nI l) (nI j)) x (i + 1))), (3, .int (nI (i + 1)))]) (G' := ov b (ringC E b w fi (nI l)) G) (by simp only [nI_succ, cntAb]; try rfl) rfl rfl ?_
      exact ih (i + 1) (by omega)
  refine x_to (L' := [(0, .ref b), (1, .int x), (2, .int (cntAb (fun j => rAt w fi (nI l) (nI j)) x 0)), (3, .int (nI 0))]) (G' := ov b (ringC E b w fi (nI l)) G) rfl rfl rfl ?_
  exact lp4 _ 0 (Nat.add_sub_cancel' (by omega))

set_option maxRecDepth 100000 in
set_option maxHeartbeats 4000000 in
theorem c_X5_sumOfAmounts (E : XE) (N b : Nat) (G : GW) (w : Nat → Int32) (fi : Int32) (l : Nat) (hl : l ≤ 64) (hb_b : xB E ≤ b) (hn_b : b + 2 ≤ N) : MF E yX5_sumOfAmounts cX5_sumOfAmounts 3 (some .int) 1 21 0 0 [.ref b] N (ov b (ringC E b w fi (nI l)) G) (some (.int (sumAb (fun j => rAt w fi (nI l) (nI j)) l))) (ov b (ringC E b w fi (nI l)) G) := by
  refine MF.mk RX5 rfl (by decide +kernel) rfl (fun K C Z hin hN => ?_)
  show XW E K 3 N 0 0 _ 0 [(0, .ref b)] []
  refine x_iconst C 0 dX5_sumOfAmounts_0 rfl ?_
  refine x_istore_n (L' := [(1, .int 0), (0, .ref b)]) C dX5_sumOfAmounts_1 rfl rfl ?_
  refine x_iconst C 0 dX5_sumOfAmounts_2 rfl ?_
  refine x_istore_n (L' := [(2, .int 0), (1, .int 0), (0, .ref b)]) C dX5_sumOfAmounts_3 rfl rfl ?_
  refine x_perm (L' := [(0, .ref b), (1, .int 0), (2, .int 0)]) [2, 1, 0] rfl ?_
  have lp4 : ∀ (d i : Nat), i + d = l → XW E K 3 N 0 0 (ov b (ringC E b w fi (nI l)) G) 4 [(0, .ref b), (1, .int (sumAb (fun j => rAt w fi (nI l) (nI j)) i)), (2, .int (nI i))] [] := by
    intro d
    induction d with
    | zero =>
      intro i hd
      have hi : i = l := by omega
      refine x_iload_n C dX5_sumOfAmounts_4 2 rfl ?_
      refine x_aload_n C dX5_sumOfAmounts_5 0 rfl ?_
      refine x_get C (xlo (i := 0) hb_b) (xhi (i := 0) hn_b rfl) (ov_at (i := 0) rfl) f_X5_15 rfl dX5_sumOfAmounts_6 ?_
      refine x_icmp_ge C 29 dX5_sumOfAmounts_9 rfl (fun _ => ?_) (fun c => absurd c (not_not_intro (nI_le (by omega) (by omega))))
      refine x_iload_n C dX5_sumOfAmounts_29 1 rfl ?_
      exact x_iret C Z rfl rfl (by rw [hi]) rfl dX5_sumOfAmounts_30
    | succ d ih =>
      intro i hd
      have hi : i < l := by omega
      refine x_iload_n C dX5_sumOfAmounts_4 2 rfl ?_
      refine x_aload_n C dX5_sumOfAmounts_5 0 rfl ?_
      refine x_get C (xlo (i := 0) hb_b) (xhi (i := 0) hn_b rfl) (ov_at (i := 0) rfl) f_X5_15 rfl dX5_sumOfAmounts_6 ?_
      refine x_icmp_ge C 29 dX5_sumOfAmounts_9 rfl (fun c => absurd c (nI_ge (by omega) (by omega))) (fun _ => ?_)
      refine x_iload_n C dX5_sumOfAmounts_12 1 rfl ?_
      refine x_aload_n C dX5_sumOfAmounts_13 0 rfl ?_
      refine x_iload_n C dX5_sumOfAmounts_14 2 rfl ?_
      refine x_cV1 C (c_X5_wordAt E N b _ w fi (nI l) (nI i) hb_b hn_b) v_X5_37 hN (xlo (i := 0) hb_b) (xhi (i := 0) hn_b rfl) (ov_at (i := 0) rfl) rfl rfl rfl rfl rfl dX5_sumOfAmounts_15 ?_
      refine x_mabs C m_380 rfl rfl rfl rfl dX5_sumOfAmounts_18 ?_
      refine x_iadd C dX5_sumOfAmounts_21 ?_
      refine x_topi (fun z1 ez1 => ?_)
      refine x_istore_n (L' := [(1, .int z1), (0, .ref b), (2, .int (nI i))]) C dX5_sumOfAmounts_22 rfl rfl ?_
      refine x_iinc (L' := [(2, .int ((nI i) + 1)), (1, .int z1), (0, .ref b)]) C ((nI i) + 1) dX5_sumOfAmounts_23 2 rfl rfl rfl rfl ?_
      refine x_goto C 4 dX5_sumOfAmounts_26 rfl ?_
      refine x_perm (L' := [(0, .ref b), (1, .int z1), (2, .int ((nI i) + 1))]) [2, 1, 0] rfl ?_
      subst ez1
      refine x_to (L' := [(0, .ref b), (1, .int (sumAb (fun j => rAt w fi (nI l) (nI j)) (i + 1))), (2, .int (nI (i + 1)))]) (G' := ov b (ringC E b w fi (nI l)) G) (by simp only [nI_succ, sumAb]; try rfl) rfl rfl ?_
      exact ih (i + 1) (by omega)
  refine x_to (L' := [(0, .ref b), (1, .int (sumAb (fun j => rAt w fi (nI l) (nI j)) 0)), (2, .int (nI 0))]) (G' := ov b (ringC E b w fi (nI l)) G) rfl rfl rfl ?_
  exact lp4 _ 0 (Nat.add_sub_cancel' (by omega))

set_option maxRecDepth 100000 in
set_option maxHeartbeats 4000000 in
theorem c_X4_add (E : XE) (N b : Nat) (G : GW) (ro : Nat → Int32) (ne ke x : Int32) (hb_b : xB E ≤ b) (hn_b : b + 2 ≤ N) : MF E yX4_add cX4_add 2 none 1 21 0 0 [.ref b, .int x] N (ov b (outC E b ro ne ke) G) none (ov b (outC E b (upd ro (oNx ne).toNatClampNeg x) (oNx ne + 1) (imin (ke + 1) 12)) G) := by
  refine MF.mk RX4 rfl (by decide +kernel) rfl (fun K C Z hin hN => ?_)
  show XW E K 2 N 0 0 _ 0 [(0, .ref b), (1, .int x)] []
  refine x_aload_n C dX4_add_0 0 rfl ?_
  refine x_get C (xlo (i := 0) hb_b) (xhi (i := 0) hn_b rfl) (ov_at (i := 0) rfl) f_X4_15 rfl dX4_add_1 ?_
  refine x_if_lt C 16 dX4_add_4 rfl (fun c4 => ?_) (fun c4 => ?_)
  · refine x_aload_n C dX4_add_16 0 rfl ?_
    refine x_iconst C 0 dX4_add_17 rfl ?_
    refine x_put (G' := ov b (outC E b ro 0 ke) G) C (xlo (i := 0) hb_b) (xhi (i := 0) hn_b rfl) (ov_at (i := 0) rfl) f_X4_15 xt_X4 rfl rfl rfl rfl (ov_set (i := 0) rfl rfl) dX4_add_18 ?_
    refine x_aload_n C dX4_add_21 0 rfl ?_
    refine x_get C (xlo (i := 0) hb_b) (xhi (i := 0) hn_b rfl) (ov_at (i := 0) rfl) f_X4_9 rfl dX4_add_22 ?_
    refine x_aload_n C dX4_add_25 0 rfl ?_
    refine x_get C (xlo (i := 0) hb_b) (xhi (i := 0) hn_b rfl) (ov_at (i := 0) rfl) f_X4_15 rfl dX4_add_26 ?_
    refine x_iload_n C dX4_add_29 1 rfl ?_
    refine x_iast (G' := ov b (outC E b (upd ro ((0 : Int32).toNatClampNeg) x) 0 ke) G) C ((0 : Int32).toNatClampNeg) (xlo (i := 1) hb_b) (xhi (i := 1) hn_b rfl) (ov_at (i := 1) rfl) (vp_in_d rfl) rfl (ov_set (i := 1) rfl rfl) dX4_add_30 ?_
    refine x_aload_n C dX4_add_31 0 rfl ?_
    refine x_dup C dX4_add_32 rfl ?_
    refine x_get C (xlo (i := 0) hb_b) (xhi (i := 0) hn_b rfl) (ov_at (i := 0) rfl) f_X4_15 rfl dX4_add_33 ?_
    refine x_iconst C 1 dX4_add_36 rfl ?_
    refine x_iadd C dX4_add_37 ?_
    refine x_v (w := .int 1) rfl ?_
    refine x_put (G' := ov b (outC E b (upd ro ((0 : Int32).toNatClampNeg) x) 1 ke) G) C (xlo (i := 0) hb_b) (xhi (i := 0) hn_b rfl) (ov_at (i := 0) rfl) f_X4_15 xt_X4 rfl rfl rfl rfl (ov_set (i := 0) rfl rfl) dX4_add_38 ?_
    refine x_aload_n C dX4_add_41 0 rfl ?_
    refine x_aload_n C dX4_add_42 0 rfl ?_
    refine x_get C (xlo (i := 0) hb_b) (xhi (i := 0) hn_b rfl) (ov_at (i := 0) rfl) f_X4_19 rfl dX4_add_43 ?_
    refine x_iconst C 1 dX4_add_46 rfl ?_
    refine x_iadd C dX4_add_47 ?_
    refine x_bipush C 12 dX4_add_48 rfl ?_
    refine x_mmin C m_230 rfl rfl rfl rfl dX4_add_50 ?_
    refine x_put (G' := ov b (outC E b (upd ro ((0 : Int32).toNatClampNeg) x) 1 (imin (ke + 1) 12)) G) C (xlo (i := 0) hb_b) (xhi (i := 0) hn_b rfl) (ov_at (i := 0) rfl) f_X4_19 xt_X4 rfl rfl rfl rfl (ov_set (i := 0) rfl rfl) dX4_add_53 ?_
    exact x_vret C Z rfl (by simp [oNx, imin, c4]) (by simp [oNx, imin, c4]) dX4_add_56
  · refine x_aload_n C dX4_add_7 0 rfl ?_
    refine x_get C (xlo (i := 0) hb_b) (xhi (i := 0) hn_b rfl) (ov_at (i := 0) rfl) f_X4_15 rfl dX4_add_8 ?_
    refine x_bipush C 12 dX4_add_11 rfl ?_
    refine x_icmp_lt C 21 dX4_add_13 rfl (fun c13 => ?_) (fun c13 => ?_)
    · refine x_aload_n C dX4_add_21 0 rfl ?_
      refine x_get C (xlo (i := 0) hb_b) (xhi (i := 0) hn_b rfl) (ov_at (i := 0) rfl) f_X4_9 rfl dX4_add_22 ?_
      refine x_aload_n C dX4_add_25 0 rfl ?_
      refine x_get C (xlo (i := 0) hb_b) (xhi (i := 0) hn_b rfl) (ov_at (i := 0) rfl) f_X4_15 rfl dX4_add_26 ?_
      refine x_iload_n C dX4_add_29 1 rfl ?_
      refine x_iast (G' := ov b (outC E b (upd ro ((ne : Int32).toNatClampNeg) x) ne ke) G) C ((ne : Int32).toNatClampNeg) (xlo (i := 1) hb_b) (xhi (i := 1) hn_b rfl) (ov_at (i := 1) rfl) (vp_in_lt2 (M := 12) rfl c4 c13) rfl (ov_set (i := 1) rfl rfl) dX4_add_30 ?_
      refine x_aload_n C dX4_add_31 0 rfl ?_
      refine x_dup C dX4_add_32 rfl ?_
      refine x_get C (xlo (i := 0) hb_b) (xhi (i := 0) hn_b rfl) (ov_at (i := 0) rfl) f_X4_15 rfl dX4_add_33 ?_
      refine x_iconst C 1 dX4_add_36 rfl ?_
      refine x_iadd C dX4_add_37 ?_
      refine x_put (G' := ov b (outC E b (upd ro ((ne : Int32).toNatClampNeg) x) (ne + 1) ke) G) C (xlo (i := 0) hb_b) (xhi (i := 0) hn_b rfl) (ov_at (i := 0) rfl) f_X4_15 xt_X4 rfl rfl rfl rfl (ov_set (i := 0) rfl rfl) dX4_add_38 ?_
      refine x_aload_n C dX4_add_41 0 rfl ?_
      refine x_aload_n C dX4_add_42 0 rfl ?_
      refine x_get C (xlo (i := 0) hb_b) (xhi (i := 0) hn_b rfl) (ov_at (i := 0) rfl) f_X4_19 rfl dX4_add_43 ?_
      refine x_iconst C 1 dX4_add_46 rfl ?_
      refine x_iadd C dX4_add_47 ?_
      refine x_bipush C 12 dX4_add_48 rfl ?_
      refine x_mmin C m_230 rfl rfl rfl rfl dX4_add_50 ?_
      refine x_put (G' := ov b (outC E b (upd ro ((ne : Int32).toNatClampNeg) x) (ne + 1) (imin (ke + 1) 12)) G) C (xlo (i := 0) hb_b) (xhi (i := 0) hn_b rfl) (ov_at (i := 0) rfl) f_X4_19 xt_X4 rfl rfl rfl rfl (ov_set (i := 0) rfl rfl) dX4_add_53 ?_
      exact x_vret C Z rfl (by simp [oNx, imin, c4, c13]) (by simp [oNx, imin, c4, c13]) dX4_add_56
    · refine x_aload_n C dX4_add_16 0 rfl ?_
      refine x_iconst C 0 dX4_add_17 rfl ?_
      refine x_put (G' := ov b (outC E b ro 0 ke) G) C (xlo (i := 0) hb_b) (xhi (i := 0) hn_b rfl) (ov_at (i := 0) rfl) f_X4_15 xt_X4 rfl rfl rfl rfl (ov_set (i := 0) rfl rfl) dX4_add_18 ?_
      refine x_aload_n C dX4_add_21 0 rfl ?_
      refine x_get C (xlo (i := 0) hb_b) (xhi (i := 0) hn_b rfl) (ov_at (i := 0) rfl) f_X4_9 rfl dX4_add_22 ?_
      refine x_aload_n C dX4_add_25 0 rfl ?_
      refine x_get C (xlo (i := 0) hb_b) (xhi (i := 0) hn_b rfl) (ov_at (i := 0) rfl) f_X4_15 rfl dX4_add_26 ?_
      refine x_iload_n C dX4_add_29 1 rfl ?_
      refine x_iast (G' := ov b (outC E b (upd ro ((0 : Int32).toNatClampNeg) x) 0 ke) G) C ((0 : Int32).toNatClampNeg) (xlo (i := 1) hb_b) (xhi (i := 1) hn_b rfl) (ov_at (i := 1) rfl) (vp_in_d rfl) rfl (ov_set (i := 1) rfl rfl) dX4_add_30 ?_
      refine x_aload_n C dX4_add_31 0 rfl ?_
      refine x_dup C dX4_add_32 rfl ?_
      refine x_get C (xlo (i := 0) hb_b) (xhi (i := 0) hn_b rfl) (ov_at (i := 0) rfl) f_X4_15 rfl dX4_add_33 ?_
      refine x_iconst C 1 dX4_add_36 rfl ?_
      refine x_iadd C dX4_add_37 ?_
      refine x_v (w := .int 1) rfl ?_
      refine x_put (G' := ov b (outC E b (upd ro ((0 : Int32).toNatClampNeg) x) 1 ke) G) C (xlo (i := 0) hb_b) (xhi (i := 0) hn_b rfl) (ov_at (i := 0) rfl) f_X4_15 xt_X4 rfl rfl rfl rfl (ov_set (i := 0) rfl rfl) dX4_add_38 ?_
      refine x_aload_n C dX4_add_41 0 rfl ?_
      refine x_aload_n C dX4_add_42 0 rfl ?_
      refine x_get C (xlo (i := 0) hb_b) (xhi (i := 0) hn_b rfl) (ov_at (i := 0) rfl) f_X4_19 rfl dX4_add_43 ?_
      refine x_iconst C 1 dX4_add_46 rfl ?_
      refine x_iadd C dX4_add_47 ?_
      refine x_bipush C 12 dX4_add_48 rfl ?_
      refine x_mmin C m_230 rfl rfl rfl rfl dX4_add_50 ?_
      refine x_put (G' := ov b (outC E b (upd ro ((0 : Int32).toNatClampNeg) x) 1 (imin (ke + 1) 12)) G) C (xlo (i := 0) hb_b) (xhi (i := 0) hn_b rfl) (ov_at (i := 0) rfl) f_X4_19 xt_X4 rfl rfl rfl rfl (ov_set (i := 0) rfl rfl) dX4_add_53 ?_
      exact x_vret C Z rfl (by simp [oNx, imin, c4, c13]) (by simp [oNx, imin, c4, c13]) dX4_add_56

set_option maxRecDepth 100000 in
set_option maxHeartbeats 4000000 in
theorem c_X4_latest (E : XE) (N b : Nat) (G : GW) (ro : Nat → Int32) (ne ke x : Int32) (hb_b : xB E ≤ b) (hn_b : b + 2 ≤ N) : MF E yX4_latest cX4_latest 2 (some .int) 1 22 0 0 [.ref b, .int x] N (ov b (outC E b ro ne ke) G) (some (.int (oAt ro ne ke x))) (ov b (outC E b ro ne ke) G) := by
  refine MF.mk RX4 rfl (by decide +kernel) rfl (fun K C Z hin hN => ?_)
  show XW E K 2 N 0 0 _ 0 [(0, .ref b), (1, .int x)] []
  refine x_iload_n C dX4_latest_0 1 rfl ?_
  refine x_if_lt C 12 dX4_latest_1 rfl (fun c1 => ?_) (fun c1 => ?_)
  · refine x_iconst C 0 dX4_latest_12 rfl ?_
    exact x_iret C Z rfl rfl (by simp [oAt, c1]) rfl dX4_latest_13
  · refine x_iload_n C dX4_latest_4 1 rfl ?_
    refine x_aload_n C dX4_latest_5 0 rfl ?_
    refine x_get C (xlo (i := 0) hb_b) (xhi (i := 0) hn_b rfl) (ov_at (i := 0) rfl) f_X4_19 rfl dX4_latest_6 ?_
    refine x_icmp_lt C 14 dX4_latest_9 rfl (fun c9 => ?_) (fun c9 => ?_)
    · refine x_aload_n C dX4_latest_14 0 rfl ?_
      refine x_get C (xlo (i := 0) hb_b) (xhi (i := 0) hn_b rfl) (ov_at (i := 0) rfl) f_X4_9 rfl dX4_latest_15 ?_
      refine x_aload_n C dX4_latest_18 0 rfl ?_
      refine x_get C (xlo (i := 0) hb_b) (xhi (i := 0) hn_b rfl) (ov_at (i := 0) rfl) f_X4_15 rfl dX4_latest_19 ?_
      refine x_iconst C 1 dX4_latest_22 rfl ?_
      refine x_isub C dX4_latest_23 ?_
      refine x_iload_n C dX4_latest_24 1 rfl ?_
      refine x_isub C dX4_latest_25 ?_
      refine x_bipush C 12 dX4_latest_26 rfl ?_
      refine x_cS1 C (c_J9_floorMod_7cf53 E N _ ((ne - 1) - x) 12 (by first | assumption | omega | decide)) v_X4_28 hN rfl rfl rfl rfl dX4_latest_28 ?_
      refine x_iald C (ro (jfm ((ne - 1) - x) 12).toNatClampNeg) (xlo (i := 1) hb_b) (xhi (i := 1) hn_b rfl) (ov_at (i := 1) rfl) (jfm_in12 _) rfl dX4_latest_31 ?_
      exact x_iret C Z rfl rfl (by simp [oAt, c1, c9]) rfl dX4_latest_32
    · refine x_iconst C 0 dX4_latest_12 rfl ?_
      exact x_iret C Z rfl rfl (by simp [oAt, c1, c9]) rfl dX4_latest_13

set_option maxRecDepth 100000 in
set_option maxHeartbeats 4000000 in
theorem c_X2_add (E : XE) (N b : Nat) (G : GW) (sa gr ho hw : Int32) (su : Int64) (x oh wh : Int32) (hb_b : xB E ≤ b) (hn_b : b + 1 ≤ N) : MF E yX2_add cX2_add 5 none 1 21 0 0 [.ref b, .int x, .int oh, .int wh] N (ov b (metC E b sa gr ho hw su) G) none (ov b (metC E b (sa + 1) (imax gr (iabs x)) (ho + (if oh = 0 then 0 else 1)) (hw + (if wh = 0 then 0 else 1)) (su + (iabs x).toInt64)) G) := by
  refine MF.mk RX2 rfl (by decide +kernel) rfl (fun K C Z hin hN => ?_)
  show XW E K 5 N 0 0 _ 0 [(0, .ref b), (1, .int x), (2, .int oh), (3, .int wh)] []
  refine x_iload_n C dX2_add_0 1 rfl ?_
  refine x_mabs C m_235 rfl rfl rfl rfl dX2_add_1 ?_
  refine x_istore (L' := [(4, .int (iabs x)), (0, .ref b), (1, .int x), (2, .int oh), (3, .int wh)]) C dX2_add_4 rfl rfl ?_
  refine x_aload_n C dX2_add_6 1 rfl ?_
  refine x_dup C dX2_add_7 rfl ?_
  refine x_get C (xlo (i := 0) hb_b) (xhi (i := 0) hn_b rfl) (ov_at (i := 0) rfl) f_X2_13 rfl dX2_add_8 ?_
  refine x_iconst C 1 dX2_add_11 rfl ?_
  refine x_iadd C dX2_add_12 ?_
  refine x_put (G' := ov b (metC E b (sa + 1) gr ho hw su) G) C (xlo (i := 0) hb_b) (xhi (i := 0) hn_b rfl) (ov_at (i := 0) rfl) f_X2_13 xt_X2 rfl rfl rfl rfl (ov_set (i := 0) rfl rfl) dX2_add_13 ?_
  refine x_aload_n C dX2_add_16 1 rfl ?_
  refine x_dup C dX2_add_17 rfl ?_
  refine x_get C (xlo (i := 0) hb_b) (xhi (i := 0) hn_b rfl) (ov_at (i := 0) rfl) f_X2_19 rfl dX2_add_18 ?_
  refine x_iload C dX2_add_21 0 rfl ?_
  refine x_i2l C dX2_add_23 ?_
  refine x_ladd C dX2_add_24 ?_
  refine x_put (G' := ov b (metC E b (sa + 1) gr ho hw (su + ((iabs x).toInt64))) G) C (xlo (i := 0) hb_b) (xhi (i := 0) hn_b rfl) (ov_at (i := 0) rfl) f_X2_19 xt_X2 rfl rfl rfl rfl (ov_set (i := 0) rfl rfl) dX2_add_25 ?_
  refine x_aload_n C dX2_add_28 1 rfl ?_
  refine x_aload_n C dX2_add_29 1 rfl ?_
  refine x_get C (xlo (i := 0) hb_b) (xhi (i := 0) hn_b rfl) (ov_at (i := 0) rfl) f_X2_23 rfl dX2_add_30 ?_
  refine x_iload C dX2_add_33 0 rfl ?_
  refine x_mmax C m_236 rfl rfl rfl rfl dX2_add_35 ?_
  refine x_put (G' := ov b (metC E b (sa + 1) (imax gr (iabs x)) ho hw (su + ((iabs x).toInt64))) G) C (xlo (i := 0) hb_b) (xhi (i := 0) hn_b rfl) (ov_at (i := 0) rfl) f_X2_23 xt_X2 rfl rfl rfl rfl (ov_set (i := 0) rfl rfl) dX2_add_38 ?_
  refine x_aload_n C dX2_add_41 1 rfl ?_
  refine x_dup C dX2_add_42 rfl ?_
  refine x_get C (xlo (i := 0) hb_b) (xhi (i := 0) hn_b rfl) (ov_at (i := 0) rfl) f_X2_30 rfl dX2_add_43 ?_
  refine x_iload_n C dX2_add_46 3 rfl ?_
  refine x_t_if_eq C 54 55 1 0 dX2_add_47 rfl dX2_add_50 rfl dX2_add_51 rfl dX2_add_54 rfl rfl ?_
  refine x_iadd C dX2_add_55 ?_
  refine x_put (G' := ov b (metC E b (sa + 1) (imax gr (iabs x)) (ho + (if oh = 0 then 0 else 1)) hw (su + ((iabs x).toInt64))) G) C (xlo (i := 0) hb_b) (xhi (i := 0) hn_b rfl) (ov_at (i := 0) rfl) f_X2_30 xt_X2 rfl rfl rfl rfl (ov_set (i := 0) rfl rfl) dX2_add_56 ?_
  refine x_aload_n C dX2_add_59 1 rfl ?_
  refine x_dup C dX2_add_60 rfl ?_
  refine x_get C (xlo (i := 0) hb_b) (xhi (i := 0) hn_b rfl) (ov_at (i := 0) rfl) f_X2_33 rfl dX2_add_61 ?_
  refine x_iload_n C dX2_add_64 4 rfl ?_
  refine x_t_if_eq C 72 73 1 0 dX2_add_65 rfl dX2_add_68 rfl dX2_add_69 rfl dX2_add_72 rfl rfl ?_
  refine x_iadd C dX2_add_73 ?_
  refine x_put (G' := ov b (metC E b (sa + 1) (imax gr (iabs x)) (ho + (if oh = 0 then 0 else 1)) (hw + (if wh = 0 then 0 else 1)) (su + ((iabs x).toInt64))) G) C (xlo (i := 0) hb_b) (xhi (i := 0) hn_b rfl) (ov_at (i := 0) rfl) f_X2_33 xt_X2 rfl rfl rfl rfl (ov_set (i := 0) rfl rfl) dX2_add_74 ?_
  exact x_vret C Z rfl rfl rfl dX2_add_77

