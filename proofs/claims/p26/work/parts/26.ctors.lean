/-! ===== constructors ===== -/
theorem ov_end {b n : Nat} {cs ds c1 : List va_E} {G : GW} (hn : cs.length = n) (h : cs ++ ds = c1) : ov (b + n) ds (ov b cs G) = ov b c1 G := by
  subst hn
  subst h
  funext q
  unfold ov
  by_cases h1 : b + cs.length ≤ q
  · rw [if_pos h1, if_pos (by omega), List.getElem?_append_right (by omega), show q - (b + cs.length) = q - b - cs.length by omega]
    rw [List.getElem?_eq_none (l := cs) (by omega), if_pos (show b ≤ q by omega)]
  · rw [if_neg h1]
    by_cases h2 : b ≤ q
    · rw [if_pos h2, if_pos h2, List.getElem?_append_left (by omega)]
    · rw [if_neg h2, if_neg h2]
theorem MF.grow {E : XE} {y : MethodName} {cc : ByteArray} {maxL : Nat} {ret : Option FieldType} {fr lo mc ms : Nat} {As : List Value} {N b n : Nat} {cs sub sub' c0 c1 : List va_E} {G : GW} {res : Option Value} (hn : cs.length = n) (h0 : cs ++ sub = c0) (h1 : cs ++ sub' = c1) (hM : MF E y cc maxL ret fr lo mc ms As N (ov (b + n) sub (ov b cs G)) res (ov (b + n) sub' (ov b cs G))) : MF E y cc maxL ret fr lo mc ms As N (ov b c0 G) res (ov b c1 G) := by
  rw [ov_end hn h0, ov_end hn h1] at hM
  exact hM
theorem hArr_eq (b : Nat) : va_up (va_up (va_up (va_up (fun _ => none) 0 (some (b + 2))) 1 (some (b + 10))) 2 (some (b + 18))) 3 (some (b + 26)) = hArr (b + 2) := by
  funext i
  unfold va_up hArr
  by_cases h0 : i = 0
  · subst h0
    rfl
  · by_cases h1 : i = 1
    · subst h1
      rfl
    · by_cases h2 : i = 2
      · subst h2
        rfl
      · by_cases h3 : i = 3
        · subst h3
          rfl
        · simp [h0, h1, h2, h3]
abbrev zF : Nat → Int32 := fun _ => 0
def zS : SV := mkS zF 0 64 zF 0 0 0 0 0 0 0 (upd zF 4 16) zF 16000 0 0
set_option maxRecDepth 100000 in
set_option maxHeartbeats 4000000 in
theorem c_X5_init (E : XE) (b : Nat) (G : GW) (hb : xB E ≤ b) : MF E yX5_init cX5_init 1 none 1 20 1 64 [.ref b] (b + 1) (ov b ([.inr (5, [.null, .int 0, .int 0])]) G) none (ov b (ringC E b (fun _ => 0) 0 64) G) := by
  refine MF.mk RX5 rfl (by decide +kernel) rfl (fun K C Z hin hN => ?_)
  show XW E K 1 (b + 1) 0 0 _ 0 [(0, .ref b)] []
  refine x_aload_n C dX5_init_0 0 rfl ?_
  refine x_objInit C m_30 rfl rfl dX5_init_1 ?_
  refine x_aload_n C dX5_init_4 0 rfl ?_
  refine x_bipush C 64 dX5_init_5 rfl ?_
  refine x_newi (G' := ov b ([.inr (5, [.null, .int 0, .int 0])] ++ ([ia E 64 (fun _ => 0)])) G) C 64 (by decide) rfl (by decide) rfl rfl (ov_push rfl rfl) dX5_init_7 ?_
  refine x_putF (G' := ov b ([.inr (5, [.ref (b + 1), .int 0, .int 0])] ++ ([ia E 64 (fun _ => 0)])) G) C (xlo (i := 0) hb) (by omega) (ov_at (i := 0) rfl) f_X5_9 xt_X5 rfl hin rfl rfl rfl rfl (ov_set (i := 0) rfl rfl) dX5_init_9 ?_
  refine x_aload_n C dX5_init_12 0 rfl ?_
  refine x_bipush C 64 dX5_init_13 rfl ?_
  refine x_put (G' := ov b ([.inr (5, [.ref (b + 1), .int 0, .int 64])] ++ ([ia E 64 (fun _ => 0)])) G) C (xlo (i := 0) hb) (by omega) (ov_at (i := 0) rfl) f_X5_15 xt_X5 rfl rfl rfl rfl (ov_set (i := 0) rfl rfl) dX5_init_15 ?_
  exact x_vret C Z rfl rfl rfl dX5_init_18
set_option maxRecDepth 100000 in
set_option maxHeartbeats 4000000 in
theorem c_X4_init (E : XE) (b : Nat) (G : GW) (hb : xB E ≤ b) : MF E yX4_init cX4_init 1 none 1 20 1 12 [.ref b] (b + 1) (ov b ([.inr (4, [.null, .int 0, .int 0])]) G) none (ov b (outC E b (fun _ => 0) 0 0) G) := by
  refine MF.mk RX4 rfl (by decide +kernel) rfl (fun K C Z hin hN => ?_)
  show XW E K 1 (b + 1) 0 0 _ 0 [(0, .ref b)] []
  refine x_aload_n C dX4_init_0 0 rfl ?_
  refine x_objInit C m_44 rfl rfl dX4_init_1 ?_
  refine x_aload_n C dX4_init_4 0 rfl ?_
  refine x_bipush C 12 dX4_init_5 rfl ?_
  refine x_newi (G' := ov b ([.inr (4, [.null, .int 0, .int 0])] ++ ([ia E 12 (fun _ => 0)])) G) C 12 (by decide) rfl (by decide) rfl rfl (ov_push rfl rfl) dX4_init_7 ?_
  refine x_putF (G' := ov b ([.inr (4, [.ref (b + 1), .int 0, .int 0])] ++ ([ia E 12 (fun _ => 0)])) G) C (xlo (i := 0) hb) (by omega) (ov_at (i := 0) rfl) f_X4_9 xt_X4 rfl hin rfl rfl rfl rfl (ov_set (i := 0) rfl rfl) dX4_init_9 ?_
  exact x_vret C Z rfl rfl rfl dX4_init_12
set_option maxRecDepth 100000 in
set_option maxHeartbeats 4000000 in
theorem c_X2_init (E : XE) (b : Nat) (G : GW) (hb : xB E ≤ b) : MF E yX2_init cX2_init 1 none 1 20 0 0 [.ref b] (b + 1) (ov b ([.inr (2, [.int 0, .int 0, .int 0, .int 0, .long 0])]) G) none (ov b (metC E b 0 0 0 0 0) G) := by
  refine MF.mk RX2 rfl (by decide +kernel) rfl (fun K C Z hin hN => ?_)
  show XW E K 1 (b + 1) 0 0 _ 0 [(0, .ref b)] []
  refine x_aload_n C dX2_init_0 0 rfl ?_
  refine x_objInit C m_56 rfl rfl dX2_init_1 ?_
  exact x_vret C Z rfl rfl rfl dX2_init_4
set_option maxRecDepth 100000 in
set_option maxHeartbeats 4000000 in
theorem c_X7_init (E : XE) (b : Nat) (G : GW) (hb : xB E ≤ b) : MF E yX7_init cX7_init 1 none 1 20 1 60 [.ref b] (b + 1) (ov b ([.inr (7, [.null, .int 0])]) G) none (ov b (txtC E b (fun _ => 0) 0) G) := by
  refine MF.mk RX7 rfl (by decide +kernel) rfl (fun K C Z hin hN => ?_)
  show XW E K 1 (b + 1) 0 0 _ 0 [(0, .ref b)] []
  refine x_aload_n C dX7_init_0 0 rfl ?_
  refine x_objInit C m_112 rfl rfl dX7_init_1 ?_
  refine x_aload_n C dX7_init_4 0 rfl ?_
  refine x_bipush C 60 dX7_init_5 rfl ?_
  refine x_newi (G' := ov b ([.inr (7, [.null, .int 0])] ++ ([ia E 60 (fun _ => 0)])) G) C 60 (by decide) rfl (by decide) rfl rfl (ov_push rfl rfl) dX7_init_7 ?_
  refine x_putF (G' := ov b ([.inr (7, [.ref (b + 1), .int 0])] ++ ([ia E 60 (fun _ => 0)])) G) C (xlo (i := 0) hb) (by omega) (ov_at (i := 0) rfl) f_X7_9 xt_X7 rfl hin rfl rfl rfl rfl (ov_set (i := 0) rfl rfl) dX7_init_9 ?_
  exact x_vret C Z rfl rfl rfl dX7_init_12
set_option maxRecDepth 100000 in
set_option maxHeartbeats 4000000 in
theorem c_X3_init (E : XE) (b : Nat) (G : GW) (hb : xB E ≤ b) : MF E yX3_init cX3_init 1 none 1 20 1 3 [.ref b] (b + 1) (ov b ([.inr (3, [.null, .int 0, .int 0, .int 0])]) G) none (ov b (ordC E b (fun _ => 0) 0 0 0) G) := by
  refine MF.mk RX3 rfl (by decide +kernel) rfl (fun K C Z hin hN => ?_)
  show XW E K 1 (b + 1) 0 0 _ 0 [(0, .ref b)] []
  refine x_aload_n C dX3_init_0 0 rfl ?_
  refine x_objInit C m_121 rfl rfl dX3_init_1 ?_
  refine x_aload_n C dX3_init_4 0 rfl ?_
  refine x_iconst C 3 dX3_init_5 rfl ?_
  refine x_newi (G' := ov b ([.inr (3, [.null, .int 0, .int 0, .int 0])] ++ ([ia E 3 (fun _ => 0)])) G) C 3 (by decide) rfl (by decide) rfl rfl (ov_push rfl rfl) dX3_init_6 ?_
  refine x_putF (G' := ov b ([.inr (3, [.ref (b + 1), .int 0, .int 0, .int 0])] ++ ([ia E 3 (fun _ => 0)])) G) C (xlo (i := 0) hb) (by omega) (ov_at (i := 0) rfl) f_X3_9 xt_X3 rfl hin rfl rfl rfl rfl (ov_set (i := 0) rfl rfl) dX3_init_8 ?_
  exact x_vret C Z rfl rfl rfl dX3_init_11
set_option maxRecDepth 100000 in
set_option maxHeartbeats 4000000 in
theorem c_X0_init (E : XE) (b : Nat) (G : GW) (hb : xB E ≤ b) : MF E yX0_init cX0_init 1 none 1 20 0 0 [.ref b] (b + 1) (ov b ([.inr (0, [.int 0, .int 0, .int 0, .int 0])]) G) none (ov b (fltC E b 0 0 0 0) G) := by
  refine MF.mk RX0 rfl (by decide +kernel) rfl (fun K C Z hin hN => ?_)
  show XW E K 1 (b + 1) 0 0 _ 0 [(0, .ref b)] []
  refine x_aload_n C dX0_init_0 0 rfl ?_
  refine x_objInit C m_131 rfl rfl dX0_init_1 ?_
  exact x_vret C Z rfl rfl rfl dX0_init_4
set_option maxRecDepth 100000 in
set_option maxHeartbeats 4000000 in
theorem c_X6_init (E : XE) (b : Nat) (G : GW) (hb : xB E ≤ b) : MF E yX6_init cX6_init 1 none 2 40 7 97 [.ref b] (b + 1) (ov b ([.inr (6, [.null, .null, .null, .null, .null, .int 0, .int 0, .int 0])]) G) none (ov b (stT E b zS) G) := by
  refine MF.mk RX6 rfl (by decide +kernel) rfl (fun K C Z hin hN => ?_)
  show XW E K 1 (b + 1) 0 0 _ 0 [(0, .ref b)] []
  refine x_aload_n C dX6_init_0 0 rfl ?_
  refine x_objInit C m_25 rfl rfl dX6_init_1 ?_
  refine x_aload_n C dX6_init_4 0 rfl ?_
  refine x_new (ci := 5) (G' := ov b ([.inr (6, [.null, .null, .null, .null, .null, .int 0, .int 0, .int 0])] ++ ([.inr (5, [.null, .int 0, .int 0])])) G) C [.null, .int 0, .int 0] rfl in_X5 xt_X5 m_26 m_27 m_3 (by intro j hj; have h9 : j = 0 ∨ j = 1 ∨ j = 2 := (by omega); rcases h9 with rfl | rfl | rfl <;> rfl) rfl rfl (ov_push rfl rfl) dX6_init_5 ?_
  refine x_dup C dX6_init_8 rfl ?_
  have hm1 : MF E yX5_init cX5_init 1 none 1 20 1 64 [.ref (b + 1)] (b + 1 + 1) (ov b ([.inr (6, [.null, .null, .null, .null, .null, .int 0, .int 0, .int 0])] ++ ([.inr (5, [.null, .int 0, .int 0])])) G) none (ov b ([.inr (6, [.null, .null, .null, .null, .null, .int 0, .int 0, .int 0])] ++ (ringC E (b + 1) (fun _ => 0) 0 64)) G) := MF.grow (n := 1) (cs := [.inr (6, [.null, .null, .null, .null, .null, .int 0, .int 0, .int 0])]) (sub := [.inr (5, [.null, .int 0, .int 0])]) (sub' := ringC E (b + 1) (fun _ => 0) 0 64) rfl rfl rfl (c_X5_init E (b + 1) _ (xlo hb))
  refine x_callIN (b := b + 1) (As := []) C hm1 v_X6_11 (by omega) rfl rfl rfl rfl dX6_init_9 ?_
  refine x_putF (G' := ov b ([.inr (6, [.ref (b + 1), .null, .null, .null, .null, .int 0, .int 0, .int 0])] ++ (ringC E (b + 1) (fun _ => 0) 0 64)) G) C (xlo (i := 0) hb) (by omega) (ov_at (i := 0) rfl) f_X6_12 xt_X6 rfl hin rfl rfl rfl rfl (ov_set (i := 0) rfl rfl) dX6_init_12 ?_
  refine x_aload_n C dX6_init_15 0 rfl ?_
  refine x_new (ci := 4) (G' := ov b ([.inr (6, [.ref (b + 1), .null, .null, .null, .null, .int 0, .int 0, .int 0])] ++ (ringC E (b + 1) (fun _ => 0) 0 64 ++ ([.inr (4, [.null, .int 0, .int 0])]))) G) C [.null, .int 0, .int 0] rfl in_X4 xt_X4 m_40 m_41 m_4 (by intro j hj; have h9 : j = 0 ∨ j = 1 ∨ j = 2 := (by omega); rcases h9 with rfl | rfl | rfl <;> rfl) rfl rfl (ov_push rfl rfl) dX6_init_16 ?_
  refine x_dup C dX6_init_19 rfl ?_
  have hm2 : MF E yX4_init cX4_init 1 none 1 20 1 12 [.ref (b + 3)] (b + 3 + 1) (ov b ([.inr (6, [.ref (b + 1), .null, .null, .null, .null, .int 0, .int 0, .int 0])] ++ (ringC E (b + 1) (fun _ => 0) 0 64 ++ ([.inr (4, [.null, .int 0, .int 0])]))) G) none (ov b ([.inr (6, [.ref (b + 1), .null, .null, .null, .null, .int 0, .int 0, .int 0])] ++ (ringC E (b + 1) (fun _ => 0) 0 64 ++ (outC E (b + 3) (fun _ => 0) 0 0))) G) := MF.grow (n := 3) (cs := [.inr (6, [.ref (b + 1), .null, .null, .null, .null, .int 0, .int 0, .int 0])] ++ (ringC E (b + 1) (fun _ => 0) 0 64)) (sub := [.inr (4, [.null, .int 0, .int 0])]) (sub' := outC E (b + 3) (fun _ => 0) 0 0) rfl rfl rfl (c_X4_init E (b + 3) _ (xlo hb))
  refine x_callIN (b := b + 3) (As := []) C hm2 v_X6_20 (by omega) rfl rfl rfl rfl dX6_init_20 ?_
  refine x_putF (G' := ov b ([.inr (6, [.ref (b + 1), .ref (b + 3), .null, .null, .null, .int 0, .int 0, .int 0])] ++ (ringC E (b + 1) (fun _ => 0) 0 64 ++ (outC E (b + 3) (fun _ => 0) 0 0))) G) C (xlo (i := 0) hb) (by omega) (ov_at (i := 0) rfl) f_X6_21 xt_X6 rfl hin rfl rfl rfl rfl (ov_set (i := 0) rfl rfl) dX6_init_23 ?_
  refine x_aload_n C dX6_init_26 0 rfl ?_
  refine x_new (ci := 2) (G' := ov b ([.inr (6, [.ref (b + 1), .ref (b + 3), .null, .null, .null, .int 0, .int 0, .int 0])] ++ (ringC E (b + 1) (fun _ => 0) 0 64 ++ (outC E (b + 3) (fun _ => 0) 0 0 ++ ([.inr (2, [.int 0, .int 0, .int 0, .int 0, .long 0])])))) G) C [.int 0, .int 0, .int 0, .int 0, .long 0] rfl in_X2 xt_X2 m_52 m_53 m_5 (by intro j hj; have h9 : j = 0 ∨ j = 1 ∨ j = 2 ∨ j = 3 ∨ j = 4 := (by omega); rcases h9 with rfl | rfl | rfl | rfl | rfl <;> rfl) rfl rfl (ov_push rfl rfl) dX6_init_27 ?_
  refine x_dup C dX6_init_30 rfl ?_
  have hm3 : MF E yX2_init cX2_init 1 none 1 20 0 0 [.ref (b + 5)] (b + 5 + 1) (ov b ([.inr (6, [.ref (b + 1), .ref (b + 3), .null, .null, .null, .int 0, .int 0, .int 0])] ++ (ringC E (b + 1) (fun _ => 0) 0 64 ++ (outC E (b + 3) (fun _ => 0) 0 0 ++ ([.inr (2, [.int 0, .int 0, .int 0, .int 0, .long 0])])))) G) none (ov b ([.inr (6, [.ref (b + 1), .ref (b + 3), .null, .null, .null, .int 0, .int 0, .int 0])] ++ (ringC E (b + 1) (fun _ => 0) 0 64 ++ (outC E (b + 3) (fun _ => 0) 0 0 ++ (metC E (b + 5) 0 0 0 0 0)))) G) := MF.grow (n := 5) (cs := [.inr (6, [.ref (b + 1), .ref (b + 3), .null, .null, .null, .int 0, .int 0, .int 0])] ++ (ringC E (b + 1) (fun _ => 0) 0 64 ++ (outC E (b + 3) (fun _ => 0) 0 0))) (sub := [.inr (2, [.int 0, .int 0, .int 0, .int 0, .long 0])]) (sub' := metC E (b + 5) 0 0 0 0 0) rfl rfl rfl (c_X2_init E (b + 5) _ (xlo hb))
  refine x_callIN (b := b + 5) (As := []) C hm3 v_X6_27 (by omega) rfl rfl rfl rfl dX6_init_31 ?_
  refine x_putF (G' := ov b ([.inr (6, [.ref (b + 1), .ref (b + 3), .ref (b + 5), .null, .null, .int 0, .int 0, .int 0])] ++ (ringC E (b + 1) (fun _ => 0) 0 64 ++ (outC E (b + 3) (fun _ => 0) 0 0 ++ (metC E (b + 5) 0 0 0 0 0)))) G) C (xlo (i := 0) hb) (by omega) (ov_at (i := 0) rfl) f_X6_28 xt_X6 rfl hin rfl rfl rfl rfl (ov_set (i := 0) rfl rfl) dX6_init_34 ?_
  refine x_aload_n C dX6_init_37 0 rfl ?_
  refine x_iconst C 5 dX6_init_38 rfl ?_
  refine x_newi (G' := ov b ([.inr (6, [.ref (b + 1), .ref (b + 3), .ref (b + 5), .null, .null, .int 0, .int 0, .int 0])] ++ (ringC E (b + 1) (fun _ => 0) 0 64 ++ (outC E (b + 3) (fun _ => 0) 0 0 ++ (metC E (b + 5) 0 0 0 0 0 ++ ([ia E 5 (fun _ => 0)]))))) G) C 5 (by decide) rfl (by decide) rfl rfl (ov_push rfl rfl) dX6_init_39 ?_
  refine x_putF (G' := ov b ([.inr (6, [.ref (b + 1), .ref (b + 3), .ref (b + 5), .ref (b + 6), .null, .int 0, .int 0, .int 0])] ++ (ringC E (b + 1) (fun _ => 0) 0 64 ++ (outC E (b + 3) (fun _ => 0) 0 0 ++ (metC E (b + 5) 0 0 0 0 0 ++ ([ia E 5 (fun _ => 0)]))))) G) C (xlo (i := 0) hb) (by omega) (ov_at (i := 0) rfl) f_X6_32 xt_X6 rfl hin rfl rfl rfl rfl (ov_set (i := 0) rfl rfl) dX6_init_41 ?_
  refine x_aload_n C dX6_init_44 0 rfl ?_
  refine x_iconst C 5 dX6_init_45 rfl ?_
  refine x_newi (G' := ov b ([.inr (6, [.ref (b + 1), .ref (b + 3), .ref (b + 5), .ref (b + 6), .null, .int 0, .int 0, .int 0])] ++ (ringC E (b + 1) (fun _ => 0) 0 64 ++ (outC E (b + 3) (fun _ => 0) 0 0 ++ (metC E (b + 5) 0 0 0 0 0 ++ ([ia E 5 (fun _ => 0)] ++ ([ia E 5 (fun _ => 0)])))))) G) C 5 (by decide) rfl (by decide) rfl rfl (ov_push rfl rfl) dX6_init_46 ?_
  refine x_putF (G' := ov b ([.inr (6, [.ref (b + 1), .ref (b + 3), .ref (b + 5), .ref (b + 6), .ref (b + 7), .int 0, .int 0, .int 0])] ++ (ringC E (b + 1) (fun _ => 0) 0 64 ++ (outC E (b + 3) (fun _ => 0) 0 0 ++ (metC E (b + 5) 0 0 0 0 0 ++ ([ia E 5 (fun _ => 0)] ++ ([ia E 5 (fun _ => 0)])))))) G) C (xlo (i := 0) hb) (by omega) (ov_at (i := 0) rfl) f_X6_36 xt_X6 rfl hin rfl rfl rfl rfl (ov_set (i := 0) rfl rfl) dX6_init_48 ?_
  refine x_aload_n C dX6_init_51 0 rfl ?_
  refine x_sipush C 16000 dX6_init_52 rfl ?_
  refine x_put (G' := ov b ([.inr (6, [.ref (b + 1), .ref (b + 3), .ref (b + 5), .ref (b + 6), .ref (b + 7), .int 16000, .int 0, .int 0])] ++ (ringC E (b + 1) (fun _ => 0) 0 64 ++ (outC E (b + 3) (fun _ => 0) 0 0 ++ (metC E (b + 5) 0 0 0 0 0 ++ ([ia E 5 (fun _ => 0)] ++ ([ia E 5 (fun _ => 0)])))))) G) C (xlo (i := 0) hb) (by omega) (ov_at (i := 0) rfl) f_X6_39 xt_X6 rfl rfl rfl rfl (ov_set (i := 0) rfl rfl) dX6_init_55 ?_
  refine x_aload_n C dX6_init_58 0 rfl ?_
  refine x_get C (xlo (i := 0) hb) (by omega) (ov_at (i := 0) rfl) f_X6_32 rfl dX6_init_59 ?_
  refine x_iconst C 4 dX6_init_62 rfl ?_
  refine x_bipush C 16 dX6_init_63 rfl ?_
  refine x_iast (G' := ov b ([.inr (6, [.ref (b + 1), .ref (b + 3), .ref (b + 5), .ref (b + 6), .ref (b + 7), .int 16000, .int 0, .int 0])] ++ (ringC E (b + 1) (fun _ => 0) 0 64 ++ (outC E (b + 3) (fun _ => 0) 0 0 ++ (metC E (b + 5) 0 0 0 0 0 ++ ([ia E 5 (upd (fun _ => 0) 4 16)] ++ ([ia E 5 (fun _ => 0)])))))) G) C 4 (xlo (i := 6) hb) (by omega) (ov_at (i := 6) rfl) (vp_in_d rfl) rfl (ov_set (i := 6) rfl rfl) dX6_init_65 ?_
  exact x_vret C Z rfl rfl rfl dX6_init_66
set_option maxRecDepth 100000 in
set_option maxHeartbeats 4000000 in
theorem c_X1_init (E : XE) (b : Nat) (G : GW) (hb : xB E ≤ b) : MF E yX1_init cX1_init 2 none 3 60 33 424 [.ref b] (b + 1) (ov b ([.inr (1, [.null, .int 0, .int 0])]) G) none (ov b (hisC E b zS zS zS zS 0 0) G) := by
  refine MF.mk RX1 rfl (by decide +kernel) rfl (fun K C Z hin hN => ?_)
  show XW E K 2 (b + 1) 0 0 _ 0 [(0, .ref b)] []
  refine x_aload_n C dX1_init_0 0 rfl ?_
  refine x_objInit C m_98 rfl rfl dX1_init_1 ?_
  refine x_aload_n C dX1_init_4 0 rfl ?_
  refine x_iconst C 4 dX1_init_5 rfl ?_
  refine x_newq (G' := ov b ([.inr (1, [.null, .int 0, .int 0])] ++ ([.inl (xQ E, 4, .inr (.inr (.inr (.inr (fun _ => none)))))])) G) C 4 m_99 (by decide) rfl (by decide) rfl rfl (ov_push rfl rfl) dX1_init_6 ?_
  refine x_putF (G' := ov b ([.inr (1, [.ref (b + 1), .int 0, .int 0])] ++ ([.inl (xQ E, 4, .inr (.inr (.inr (.inr (fun _ => none)))))])) G) C (xlo (i := 0) hb) (by omega) (ov_at (i := 0) rfl) f_X1_11 xt_X1 rfl hin rfl rfl rfl rfl (ov_set (i := 0) rfl rfl) dX1_init_9 ?_
  refine x_iconst C 0 dX1_init_12 rfl ?_
  refine x_istore_n (L' := [(1, .int 0), (0, .ref b)]) C dX1_init_13 rfl rfl ?_
  refine x_iload_n C dX1_init_14 0 rfl ?_
  refine x_iconst C 4 dX1_init_15 rfl ?_
  refine x_icmp_ge C 38 dX1_init_16 rfl (fun c => absurd c (by decide)) (fun _ => ?_)
  refine x_aload_n C dX1_init_19 1 rfl ?_
  refine x_get C (xlo (i := 0) hb) (by omega) (ov_at (i := 0) rfl) f_X1_11 rfl dX1_init_20 ?_
  refine x_iload_n C dX1_init_23 0 rfl ?_
  refine x_new (ci := 6) (G' := ov b ([.inr (1, [.ref (b + 1), .int 0, .int 0])] ++ ([.inl (xQ E, 4, .inr (.inr (.inr (.inr (fun _ => none)))))] ++ ([.inr (6, [.null, .null, .null, .null, .null, .int 0, .int 0, .int 0])]))) G) C [.null, .null, .null, .null, .null, .int 0, .int 0, .int 0] rfl in_X6 xt_X6 m_99 m_21 m_2 (by intro j hj; have h9 : j = 0 ∨ j = 1 ∨ j = 2 ∨ j = 3 ∨ j = 4 ∨ j = 5 ∨ j = 6 ∨ j = 7 := (by omega); rcases h9 with rfl | rfl | rfl | rfl | rfl | rfl | rfl | rfl <;> rfl) rfl rfl (ov_push rfl rfl) dX1_init_24 ?_
  refine x_dup C dX1_init_27 rfl ?_
  have hm1 : MF E yX6_init cX6_init 1 none 2 40 7 97 [.ref (b + 2)] (b + 2 + 1) (ov b ([.inr (1, [.ref (b + 1), .int 0, .int 0])] ++ ([.inl (xQ E, 4, .inr (.inr (.inr (.inr (fun _ => none)))))] ++ ([.inr (6, [.null, .null, .null, .null, .null, .int 0, .int 0, .int 0])]))) G) none (ov b ([.inr (1, [.ref (b + 1), .int 0, .int 0])] ++ ([.inl (xQ E, 4, .inr (.inr (.inr (.inr (fun _ => none)))))] ++ (stT E (b + 2) zS))) G) := MF.grow (n := 2) (cs := [.inr (1, [.ref (b + 1), .int 0, .int 0])] ++ ([.inl (xQ E, 4, .inr (.inr (.inr (.inr (fun _ => none)))))])) (sub := [.inr (6, [.null, .null, .null, .null, .null, .int 0, .int 0, .int 0])]) (sub' := stT E (b + 2) zS) rfl rfl rfl (c_X6_init E (b + 2) _ (xlo hb))
  refine x_callI (b := b + 2) (As := []) C hm1 v_X1_17 (by omega) rfl rfl rfl rfl dX1_init_28 ?_
  refine x_aast (G' := ov b ([.inr (1, [.ref (b + 1), .int 0, .int 0])] ++ ([.inl (xQ E, 4, .inr (.inr (.inr (.inr (va_up (fun _ => none) 0 (some (b + 2)))))))] ++ (stT E (b + 2) zS))) G) C 0 (xlo (i := 1) hb) (by omega) (ov_at (i := 1) rfl) (vp_in_d rfl) rfl (xlo (i := 2) hb) (by omega) (ov_at (i := 2) rfl) rfl (ov_set (i := 1) rfl rfl) dX1_init_31 ?_
  refine x_iinc (L' := [(1, .int 1), (0, .ref b)]) C 1 dX1_init_32 0 rfl rfl rfl rfl ?_
  refine x_goto C 14 dX1_init_35 rfl ?_
  refine x_iload_n C dX1_init_14 0 rfl ?_
  refine x_iconst C 4 dX1_init_15 rfl ?_
  refine x_icmp_ge C 38 dX1_init_16 rfl (fun c => absurd c (by decide)) (fun _ => ?_)
  refine x_aload_n C dX1_init_19 1 rfl ?_
  refine x_get C (xlo (i := 0) hb) (by omega) (ov_at (i := 0) rfl) f_X1_11 rfl dX1_init_20 ?_
  refine x_iload_n C dX1_init_23 0 rfl ?_
  refine x_new (ci := 6) (G' := ov b ([.inr (1, [.ref (b + 1), .int 0, .int 0])] ++ ([.inl (xQ E, 4, .inr (.inr (.inr (.inr (va_up (fun _ => none) 0 (some (b + 2)))))))] ++ (stT E (b + 2) zS ++ ([.inr (6, [.null, .null, .null, .null, .null, .int 0, .int 0, .int 0])])))) G) C [.null, .null, .null, .null, .null, .int 0, .int 0, .int 0] rfl in_X6 xt_X6 m_99 m_21 m_2 (by intro j hj; have h9 : j = 0 ∨ j = 1 ∨ j = 2 ∨ j = 3 ∨ j = 4 ∨ j = 5 ∨ j = 6 ∨ j = 7 := (by omega); rcases h9 with rfl | rfl | rfl | rfl | rfl | rfl | rfl | rfl <;> rfl) rfl rfl (ov_push rfl rfl) dX1_init_24 ?_
  refine x_dup C dX1_init_27 rfl ?_
  have hm2 : MF E yX6_init cX6_init 1 none 2 40 7 97 [.ref (b + 10)] (b + 10 + 1) (ov b ([.inr (1, [.ref (b + 1), .int 0, .int 0])] ++ ([.inl (xQ E, 4, .inr (.inr (.inr (.inr (va_up (fun _ => none) 0 (some (b + 2)))))))] ++ (stT E (b + 2) zS ++ ([.inr (6, [.null, .null, .null, .null, .null, .int 0, .int 0, .int 0])])))) G) none (ov b ([.inr (1, [.ref (b + 1), .int 0, .int 0])] ++ ([.inl (xQ E, 4, .inr (.inr (.inr (.inr (va_up (fun _ => none) 0 (some (b + 2)))))))] ++ (stT E (b + 2) zS ++ (stT E (b + 10) zS)))) G) := MF.grow (n := 10) (cs := [.inr (1, [.ref (b + 1), .int 0, .int 0])] ++ ([.inl (xQ E, 4, .inr (.inr (.inr (.inr (va_up (fun _ => none) 0 (some (b + 2)))))))] ++ (stT E (b + 2) zS))) (sub := [.inr (6, [.null, .null, .null, .null, .null, .int 0, .int 0, .int 0])]) (sub' := stT E (b + 10) zS) rfl rfl rfl (c_X6_init E (b + 10) _ (xlo hb))
  refine x_callI (b := b + 10) (As := []) C hm2 v_X1_17 (by omega) rfl rfl rfl rfl dX1_init_28 ?_
  refine x_aast (G' := ov b ([.inr (1, [.ref (b + 1), .int 0, .int 0])] ++ ([.inl (xQ E, 4, .inr (.inr (.inr (.inr (va_up (va_up (fun _ => none) 0 (some (b + 2))) 1 (some (b + 10)))))))] ++ (stT E (b + 2) zS ++ (stT E (b + 10) zS)))) G) C 1 (xlo (i := 1) hb) (by omega) (ov_at (i := 1) rfl) (vp_in_d rfl) rfl (xlo (i := 10) hb) (by omega) (ov_at (i := 10) rfl) rfl (ov_set (i := 1) rfl rfl) dX1_init_31 ?_
  refine x_iinc (L' := [(1, .int 2), (0, .ref b)]) C 2 dX1_init_32 0 rfl rfl rfl rfl ?_
  refine x_goto C 14 dX1_init_35 rfl ?_
  refine x_iload_n C dX1_init_14 0 rfl ?_
  refine x_iconst C 4 dX1_init_15 rfl ?_
  refine x_icmp_ge C 38 dX1_init_16 rfl (fun c => absurd c (by decide)) (fun _ => ?_)
  refine x_aload_n C dX1_init_19 1 rfl ?_
  refine x_get C (xlo (i := 0) hb) (by omega) (ov_at (i := 0) rfl) f_X1_11 rfl dX1_init_20 ?_
  refine x_iload_n C dX1_init_23 0 rfl ?_
  refine x_new (ci := 6) (G' := ov b ([.inr (1, [.ref (b + 1), .int 0, .int 0])] ++ ([.inl (xQ E, 4, .inr (.inr (.inr (.inr (va_up (va_up (fun _ => none) 0 (some (b + 2))) 1 (some (b + 10)))))))] ++ (stT E (b + 2) zS ++ (stT E (b + 10) zS ++ ([.inr (6, [.null, .null, .null, .null, .null, .int 0, .int 0, .int 0])]))))) G) C [.null, .null, .null, .null, .null, .int 0, .int 0, .int 0] rfl in_X6 xt_X6 m_99 m_21 m_2 (by intro j hj; have h9 : j = 0 ∨ j = 1 ∨ j = 2 ∨ j = 3 ∨ j = 4 ∨ j = 5 ∨ j = 6 ∨ j = 7 := (by omega); rcases h9 with rfl | rfl | rfl | rfl | rfl | rfl | rfl | rfl <;> rfl) rfl rfl (ov_push rfl rfl) dX1_init_24 ?_
  refine x_dup C dX1_init_27 rfl ?_
  have hm3 : MF E yX6_init cX6_init 1 none 2 40 7 97 [.ref (b + 18)] (b + 18 + 1) (ov b ([.inr (1, [.ref (b + 1), .int 0, .int 0])] ++ ([.inl (xQ E, 4, .inr (.inr (.inr (.inr (va_up (va_up (fun _ => none) 0 (some (b + 2))) 1 (some (b + 10)))))))] ++ (stT E (b + 2) zS ++ (stT E (b + 10) zS ++ ([.inr (6, [.null, .null, .null, .null, .null, .int 0, .int 0, .int 0])]))))) G) none (ov b ([.inr (1, [.ref (b + 1), .int 0, .int 0])] ++ ([.inl (xQ E, 4, .inr (.inr (.inr (.inr (va_up (va_up (fun _ => none) 0 (some (b + 2))) 1 (some (b + 10)))))))] ++ (stT E (b + 2) zS ++ (stT E (b + 10) zS ++ (stT E (b + 18) zS))))) G) := MF.grow (n := 18) (cs := [.inr (1, [.ref (b + 1), .int 0, .int 0])] ++ ([.inl (xQ E, 4, .inr (.inr (.inr (.inr (va_up (va_up (fun _ => none) 0 (some (b + 2))) 1 (some (b + 10)))))))] ++ (stT E (b + 2) zS ++ (stT E (b + 10) zS)))) (sub := [.inr (6, [.null, .null, .null, .null, .null, .int 0, .int 0, .int 0])]) (sub' := stT E (b + 18) zS) rfl rfl rfl (c_X6_init E (b + 18) _ (xlo hb))
  refine x_callI (b := b + 18) (As := []) C hm3 v_X1_17 (by omega) rfl rfl rfl rfl dX1_init_28 ?_
  refine x_aast (G' := ov b ([.inr (1, [.ref (b + 1), .int 0, .int 0])] ++ ([.inl (xQ E, 4, .inr (.inr (.inr (.inr (va_up (va_up (va_up (fun _ => none) 0 (some (b + 2))) 1 (some (b + 10))) 2 (some (b + 18)))))))] ++ (stT E (b + 2) zS ++ (stT E (b + 10) zS ++ (stT E (b + 18) zS))))) G) C 2 (xlo (i := 1) hb) (by omega) (ov_at (i := 1) rfl) (vp_in_d rfl) rfl (xlo (i := 18) hb) (by omega) (ov_at (i := 18) rfl) rfl (ov_set (i := 1) rfl rfl) dX1_init_31 ?_
  refine x_iinc (L' := [(1, .int 3), (0, .ref b)]) C 3 dX1_init_32 0 rfl rfl rfl rfl ?_
  refine x_goto C 14 dX1_init_35 rfl ?_
  refine x_iload_n C dX1_init_14 0 rfl ?_
  refine x_iconst C 4 dX1_init_15 rfl ?_
  refine x_icmp_ge C 38 dX1_init_16 rfl (fun c => absurd c (by decide)) (fun _ => ?_)
  refine x_aload_n C dX1_init_19 1 rfl ?_
  refine x_get C (xlo (i := 0) hb) (by omega) (ov_at (i := 0) rfl) f_X1_11 rfl dX1_init_20 ?_
  refine x_iload_n C dX1_init_23 0 rfl ?_
  refine x_new (ci := 6) (G' := ov b ([.inr (1, [.ref (b + 1), .int 0, .int 0])] ++ ([.inl (xQ E, 4, .inr (.inr (.inr (.inr (va_up (va_up (va_up (fun _ => none) 0 (some (b + 2))) 1 (some (b + 10))) 2 (some (b + 18)))))))] ++ (stT E (b + 2) zS ++ (stT E (b + 10) zS ++ (stT E (b + 18) zS ++ ([.inr (6, [.null, .null, .null, .null, .null, .int 0, .int 0, .int 0])])))))) G) C [.null, .null, .null, .null, .null, .int 0, .int 0, .int 0] rfl in_X6 xt_X6 m_99 m_21 m_2 (by intro j hj; have h9 : j = 0 ∨ j = 1 ∨ j = 2 ∨ j = 3 ∨ j = 4 ∨ j = 5 ∨ j = 6 ∨ j = 7 := (by omega); rcases h9 with rfl | rfl | rfl | rfl | rfl | rfl | rfl | rfl <;> rfl) rfl rfl (ov_push rfl rfl) dX1_init_24 ?_
  refine x_dup C dX1_init_27 rfl ?_
  have hm4 : MF E yX6_init cX6_init 1 none 2 40 7 97 [.ref (b + 26)] (b + 26 + 1) (ov b ([.inr (1, [.ref (b + 1), .int 0, .int 0])] ++ ([.inl (xQ E, 4, .inr (.inr (.inr (.inr (va_up (va_up (va_up (fun _ => none) 0 (some (b + 2))) 1 (some (b + 10))) 2 (some (b + 18)))))))] ++ (stT E (b + 2) zS ++ (stT E (b + 10) zS ++ (stT E (b + 18) zS ++ ([.inr (6, [.null, .null, .null, .null, .null, .int 0, .int 0, .int 0])])))))) G) none (ov b ([.inr (1, [.ref (b + 1), .int 0, .int 0])] ++ ([.inl (xQ E, 4, .inr (.inr (.inr (.inr (va_up (va_up (va_up (fun _ => none) 0 (some (b + 2))) 1 (some (b + 10))) 2 (some (b + 18)))))))] ++ (stT E (b + 2) zS ++ (stT E (b + 10) zS ++ (stT E (b + 18) zS ++ (stT E (b + 26) zS)))))) G) := MF.grow (n := 26) (cs := [.inr (1, [.ref (b + 1), .int 0, .int 0])] ++ ([.inl (xQ E, 4, .inr (.inr (.inr (.inr (va_up (va_up (va_up (fun _ => none) 0 (some (b + 2))) 1 (some (b + 10))) 2 (some (b + 18)))))))] ++ (stT E (b + 2) zS ++ (stT E (b + 10) zS ++ (stT E (b + 18) zS))))) (sub := [.inr (6, [.null, .null, .null, .null, .null, .int 0, .int 0, .int 0])]) (sub' := stT E (b + 26) zS) rfl rfl rfl (c_X6_init E (b + 26) _ (xlo hb))
  refine x_callI (b := b + 26) (As := []) C hm4 v_X1_17 (by omega) rfl rfl rfl rfl dX1_init_28 ?_
  refine x_aast (G' := ov b ([.inr (1, [.ref (b + 1), .int 0, .int 0])] ++ ([.inl (xQ E, 4, .inr (.inr (.inr (.inr (va_up (va_up (va_up (va_up (fun _ => none) 0 (some (b + 2))) 1 (some (b + 10))) 2 (some (b + 18))) 3 (some (b + 26)))))))] ++ (stT E (b + 2) zS ++ (stT E (b + 10) zS ++ (stT E (b + 18) zS ++ (stT E (b + 26) zS)))))) G) C 3 (xlo (i := 1) hb) (by omega) (ov_at (i := 1) rfl) (vp_in_d rfl) rfl (xlo (i := 26) hb) (by omega) (ov_at (i := 26) rfl) rfl (ov_set (i := 1) rfl rfl) dX1_init_31 ?_
  refine x_iinc (L' := [(1, .int 4), (0, .ref b)]) C 4 dX1_init_32 0 rfl rfl rfl rfl ?_
  refine x_goto C 14 dX1_init_35 rfl ?_
  refine x_iload_n C dX1_init_14 0 rfl ?_
  refine x_iconst C 4 dX1_init_15 rfl ?_
  refine x_icmp_ge C 38 dX1_init_16 rfl (fun _ => ?_) (fun c => absurd c (by decide))
  refine x_G (G' := ov b ([.inr (1, [.ref (b + 1), .int 0, .int 0])] ++ ([.inl (xQ E, 4, .inr (.inr (.inr (.inr (hArr (b + 2))))))] ++ (stT E (b + 2) zS ++ (stT E (b + 10) zS ++ (stT E (b + 18) zS ++ (stT E (b + 26) zS)))))) G) (by rw [hArr_eq]) ?_
  exact x_vret C Z rfl rfl rfl dX1_init_38
set_option maxRecDepth 100000 in
set_option maxHeartbeats 4000000 in
theorem c_X8_init (E : XE) (b : Nat) (G : GW) (hb : xB E ≤ b) : MF E yX8_init cX8_init 1 none 4 81 55 710 [.ref b] (b + 1) (ov b ([.inr (8, [.null, .null, .null, .null, .null, .null])]) G) none (ov b (xC E b zS zS zS zS zS zS 0 0 (fun _ => 0) 0 (fun _ => 0) 0 0 0 0 0 0 0) G) := by
  refine MF.mk RX8 rfl (by decide +kernel) rfl (fun K C Z hin hN => ?_)
  show XW E K 1 (b + 1) 0 0 _ 0 [(0, .ref b)] []
  refine x_aload_n C dX8_init_0 0 rfl ?_
  refine x_objInit C m_17 rfl rfl dX8_init_1 ?_
  refine x_aload_n C dX8_init_4 0 rfl ?_
  refine x_new (ci := 6) (G' := ov b ([.inr (8, [.null, .null, .null, .null, .null, .null])] ++ ([.inr (6, [.null, .null, .null, .null, .null, .int 0, .int 0, .int 0])])) G) C [.null, .null, .null, .null, .null, .int 0, .int 0, .int 0] rfl in_X6 xt_X6 m_20 m_21 m_2 (by intro j hj; have h9 : j = 0 ∨ j = 1 ∨ j = 2 ∨ j = 3 ∨ j = 4 ∨ j = 5 ∨ j = 6 ∨ j = 7 := (by omega); rcases h9 with rfl | rfl | rfl | rfl | rfl | rfl | rfl | rfl <;> rfl) rfl rfl (ov_push rfl rfl) dX8_init_5 ?_
  refine x_dup C dX8_init_8 rfl ?_
  have hm1 : MF E yX6_init cX6_init 1 none 2 40 7 97 [.ref (b + 1)] (b + 1 + 1) (ov b ([.inr (8, [.null, .null, .null, .null, .null, .null])] ++ ([.inr (6, [.null, .null, .null, .null, .null, .int 0, .int 0, .int 0])])) G) none (ov b ([.inr (8, [.null, .null, .null, .null, .null, .null])] ++ (stT E (b + 1) zS)) G) := MF.grow (n := 1) (cs := [.inr (8, [.null, .null, .null, .null, .null, .null])]) (sub := [.inr (6, [.null, .null, .null, .null, .null, .int 0, .int 0, .int 0])]) (sub' := stT E (b + 1) zS) rfl rfl rfl (c_X6_init E (b + 1) _ (xlo hb))
  refine x_callI (b := b + 1) (As := []) C hm1 v_X8_9 (by omega) rfl rfl rfl rfl dX8_init_9 ?_
  refine x_putF (G' := ov b ([.inr (8, [.ref (b + 1), .null, .null, .null, .null, .null])] ++ (stT E (b + 1) zS)) G) C (xlo (i := 0) hb) (by omega) (ov_at (i := 0) rfl) f_X8_10 xt_X8 rfl hin rfl rfl rfl rfl (ov_set (i := 0) rfl rfl) dX8_init_12 ?_
  refine x_aload_n C dX8_init_15 0 rfl ?_
  refine x_new (ci := 6) (G' := ov b ([.inr (8, [.ref (b + 1), .null, .null, .null, .null, .null])] ++ (stT E (b + 1) zS ++ ([.inr (6, [.null, .null, .null, .null, .null, .int 0, .int 0, .int 0])]))) G) C [.null, .null, .null, .null, .null, .int 0, .int 0, .int 0] rfl in_X6 xt_X6 m_20 m_21 m_2 (by intro j hj; have h9 : j = 0 ∨ j = 1 ∨ j = 2 ∨ j = 3 ∨ j = 4 ∨ j = 5 ∨ j = 6 ∨ j = 7 := (by omega); rcases h9 with rfl | rfl | rfl | rfl | rfl | rfl | rfl | rfl <;> rfl) rfl rfl (ov_push rfl rfl) dX8_init_16 ?_
  refine x_dup C dX8_init_19 rfl ?_
  have hm2 : MF E yX6_init cX6_init 1 none 2 40 7 97 [.ref (b + 9)] (b + 9 + 1) (ov b ([.inr (8, [.ref (b + 1), .null, .null, .null, .null, .null])] ++ (stT E (b + 1) zS ++ ([.inr (6, [.null, .null, .null, .null, .null, .int 0, .int 0, .int 0])]))) G) none (ov b ([.inr (8, [.ref (b + 1), .null, .null, .null, .null, .null])] ++ (stT E (b + 1) zS ++ (stT E (b + 9) zS))) G) := MF.grow (n := 9) (cs := [.inr (8, [.ref (b + 1), .null, .null, .null, .null, .null])] ++ (stT E (b + 1) zS)) (sub := [.inr (6, [.null, .null, .null, .null, .null, .int 0, .int 0, .int 0])]) (sub' := stT E (b + 9) zS) rfl rfl rfl (c_X6_init E (b + 9) _ (xlo hb))
  refine x_callI (b := b + 9) (As := []) C hm2 v_X8_9 (by omega) rfl rfl rfl rfl dX8_init_20 ?_
  refine x_putF (G' := ov b ([.inr (8, [.ref (b + 1), .ref (b + 9), .null, .null, .null, .null])] ++ (stT E (b + 1) zS ++ (stT E (b + 9) zS))) G) C (xlo (i := 0) hb) (by omega) (ov_at (i := 0) rfl) f_X8_16 xt_X8 rfl hin rfl rfl rfl rfl (ov_set (i := 0) rfl rfl) dX8_init_23 ?_
  refine x_aload_n C dX8_init_26 0 rfl ?_
  refine x_new (ci := 1) (G' := ov b ([.inr (8, [.ref (b + 1), .ref (b + 9), .null, .null, .null, .null])] ++ (stT E (b + 1) zS ++ (stT E (b + 9) zS ++ ([.inr (1, [.null, .int 0, .int 0])])))) G) C [.null, .int 0, .int 0] rfl in_X1 xt_X1 m_93 m_94 m_6 (by intro j hj; have h9 : j = 0 ∨ j = 1 ∨ j = 2 := (by omega); rcases h9 with rfl | rfl | rfl <;> rfl) rfl rfl (ov_push rfl rfl) dX8_init_27 ?_
  refine x_dup C dX8_init_30 rfl ?_
  have hm3 : MF E yX1_init cX1_init 2 none 3 60 33 424 [.ref (b + 17)] (b + 17 + 1) (ov b ([.inr (8, [.ref (b + 1), .ref (b + 9), .null, .null, .null, .null])] ++ (stT E (b + 1) zS ++ (stT E (b + 9) zS ++ ([.inr (1, [.null, .int 0, .int 0])])))) G) none (ov b ([.inr (8, [.ref (b + 1), .ref (b + 9), .null, .null, .null, .null])] ++ (stT E (b + 1) zS ++ (stT E (b + 9) zS ++ (hisC E (b + 17) zS zS zS zS 0 0)))) G) := MF.grow (n := 17) (cs := [.inr (8, [.ref (b + 1), .ref (b + 9), .null, .null, .null, .null])] ++ (stT E (b + 1) zS ++ (stT E (b + 9) zS))) (sub := [.inr (1, [.null, .int 0, .int 0])]) (sub' := hisC E (b + 17) zS zS zS zS 0 0) rfl rfl rfl (c_X1_init E (b + 17) _ (xlo hb))
  refine x_callI (b := b + 17) (As := []) C hm3 v_X8_21 (by omega) rfl rfl rfl rfl dX8_init_31 ?_
  refine x_putF (G' := ov b ([.inr (8, [.ref (b + 1), .ref (b + 9), .ref (b + 17), .null, .null, .null])] ++ (stT E (b + 1) zS ++ (stT E (b + 9) zS ++ (hisC E (b + 17) zS zS zS zS 0 0)))) G) C (xlo (i := 0) hb) (by omega) (ov_at (i := 0) rfl) f_X8_22 xt_X8 rfl hin rfl rfl rfl rfl (ov_set (i := 0) rfl rfl) dX8_init_34 ?_
  refine x_aload_n C dX8_init_37 0 rfl ?_
  refine x_new (ci := 7) (G' := ov b ([.inr (8, [.ref (b + 1), .ref (b + 9), .ref (b + 17), .null, .null, .null])] ++ (stT E (b + 1) zS ++ (stT E (b + 9) zS ++ (hisC E (b + 17) zS zS zS zS 0 0 ++ ([.inr (7, [.null, .int 0])]))))) G) C [.null, .int 0] rfl in_X7 xt_X7 m_108 m_109 m_7 (by intro j hj; have h9 : j = 0 ∨ j = 1 := (by omega); rcases h9 with rfl | rfl <;> rfl) rfl rfl (ov_push rfl rfl) dX8_init_38 ?_
  refine x_dup C dX8_init_41 rfl ?_
  have hm4 : MF E yX7_init cX7_init 1 none 1 20 1 60 [.ref (b + 51)] (b + 51 + 1) (ov b ([.inr (8, [.ref (b + 1), .ref (b + 9), .ref (b + 17), .null, .null, .null])] ++ (stT E (b + 1) zS ++ (stT E (b + 9) zS ++ (hisC E (b + 17) zS zS zS zS 0 0 ++ ([.inr (7, [.null, .int 0])]))))) G) none (ov b ([.inr (8, [.ref (b + 1), .ref (b + 9), .ref (b + 17), .null, .null, .null])] ++ (stT E (b + 1) zS ++ (stT E (b + 9) zS ++ (hisC E (b + 17) zS zS zS zS 0 0 ++ (txtC E (b + 51) (fun _ => 0) 0))))) G) := MF.grow (n := 51) (cs := [.inr (8, [.ref (b + 1), .ref (b + 9), .ref (b + 17), .null, .null, .null])] ++ (stT E (b + 1) zS ++ (stT E (b + 9) zS ++ (hisC E (b + 17) zS zS zS zS 0 0)))) (sub := [.inr (7, [.null, .int 0])]) (sub' := txtC E (b + 51) (fun _ => 0) 0) rfl rfl rfl (c_X7_init E (b + 51) _ (xlo hb))
  refine x_callIN (b := b + 51) (As := []) C hm4 v_X8_28 (by omega) rfl rfl rfl rfl dX8_init_42 ?_
  refine x_putF (G' := ov b ([.inr (8, [.ref (b + 1), .ref (b + 9), .ref (b + 17), .ref (b + 51), .null, .null])] ++ (stT E (b + 1) zS ++ (stT E (b + 9) zS ++ (hisC E (b + 17) zS zS zS zS 0 0 ++ (txtC E (b + 51) (fun _ => 0) 0))))) G) C (xlo (i := 0) hb) (by omega) (ov_at (i := 0) rfl) f_X8_29 xt_X8 rfl hin rfl rfl rfl rfl (ov_set (i := 0) rfl rfl) dX8_init_45 ?_
  refine x_aload_n C dX8_init_48 0 rfl ?_
  refine x_new (ci := 3) (G' := ov b ([.inr (8, [.ref (b + 1), .ref (b + 9), .ref (b + 17), .ref (b + 51), .null, .null])] ++ (stT E (b + 1) zS ++ (stT E (b + 9) zS ++ (hisC E (b + 17) zS zS zS zS 0 0 ++ (txtC E (b + 51) (fun _ => 0) 0 ++ ([.inr (3, [.null, .int 0, .int 0, .int 0])])))))) G) C [.null, .int 0, .int 0, .int 0] rfl in_X3 xt_X3 m_117 m_118 m_8 (by intro j hj; have h9 : j = 0 ∨ j = 1 ∨ j = 2 ∨ j = 3 := (by omega); rcases h9 with rfl | rfl | rfl | rfl <;> rfl) rfl rfl (ov_push rfl rfl) dX8_init_49 ?_
  refine x_dup C dX8_init_52 rfl ?_
  have hm5 : MF E yX3_init cX3_init 1 none 1 20 1 3 [.ref (b + 53)] (b + 53 + 1) (ov b ([.inr (8, [.ref (b + 1), .ref (b + 9), .ref (b + 17), .ref (b + 51), .null, .null])] ++ (stT E (b + 1) zS ++ (stT E (b + 9) zS ++ (hisC E (b + 17) zS zS zS zS 0 0 ++ (txtC E (b + 51) (fun _ => 0) 0 ++ ([.inr (3, [.null, .int 0, .int 0, .int 0])])))))) G) none (ov b ([.inr (8, [.ref (b + 1), .ref (b + 9), .ref (b + 17), .ref (b + 51), .null, .null])] ++ (stT E (b + 1) zS ++ (stT E (b + 9) zS ++ (hisC E (b + 17) zS zS zS zS 0 0 ++ (txtC E (b + 51) (fun _ => 0) 0 ++ (ordC E (b + 53) (fun _ => 0) 0 0 0)))))) G) := MF.grow (n := 53) (cs := [.inr (8, [.ref (b + 1), .ref (b + 9), .ref (b + 17), .ref (b + 51), .null, .null])] ++ (stT E (b + 1) zS ++ (stT E (b + 9) zS ++ (hisC E (b + 17) zS zS zS zS 0 0 ++ (txtC E (b + 51) (fun _ => 0) 0))))) (sub := [.inr (3, [.null, .int 0, .int 0, .int 0])]) (sub' := ordC E (b + 53) (fun _ => 0) 0 0 0) rfl rfl rfl (c_X3_init E (b + 53) _ (xlo hb))
  refine x_callIN (b := b + 53) (As := []) C hm5 v_X8_35 (by omega) rfl rfl rfl rfl dX8_init_53 ?_
  refine x_putF (G' := ov b ([.inr (8, [.ref (b + 1), .ref (b + 9), .ref (b + 17), .ref (b + 51), .ref (b + 53), .null])] ++ (stT E (b + 1) zS ++ (stT E (b + 9) zS ++ (hisC E (b + 17) zS zS zS zS 0 0 ++ (txtC E (b + 51) (fun _ => 0) 0 ++ (ordC E (b + 53) (fun _ => 0) 0 0 0)))))) G) C (xlo (i := 0) hb) (by omega) (ov_at (i := 0) rfl) f_X8_36 xt_X8 rfl hin rfl rfl rfl rfl (ov_set (i := 0) rfl rfl) dX8_init_56 ?_
  refine x_aload_n C dX8_init_59 0 rfl ?_
  refine x_new (ci := 0) (G' := ov b ([.inr (8, [.ref (b + 1), .ref (b + 9), .ref (b + 17), .ref (b + 51), .ref (b + 53), .null])] ++ (stT E (b + 1) zS ++ (stT E (b + 9) zS ++ (hisC E (b + 17) zS zS zS zS 0 0 ++ (txtC E (b + 51) (fun _ => 0) 0 ++ (ordC E (b + 53) (fun _ => 0) 0 0 0 ++ ([.inr (0, [.int 0, .int 0, .int 0, .int 0])]))))))) G) C [.int 0, .int 0, .int 0, .int 0] rfl in_X0 xt_X0 m_127 m_128 m_9 (by intro j hj; have h9 : j = 0 ∨ j = 1 ∨ j = 2 ∨ j = 3 := (by omega); rcases h9 with rfl | rfl | rfl | rfl <;> rfl) rfl rfl (ov_push rfl rfl) dX8_init_60 ?_
  refine x_dup C dX8_init_63 rfl ?_
  have hm6 : MF E yX0_init cX0_init 1 none 1 20 0 0 [.ref (b + 55)] (b + 55 + 1) (ov b ([.inr (8, [.ref (b + 1), .ref (b + 9), .ref (b + 17), .ref (b + 51), .ref (b + 53), .null])] ++ (stT E (b + 1) zS ++ (stT E (b + 9) zS ++ (hisC E (b + 17) zS zS zS zS 0 0 ++ (txtC E (b + 51) (fun _ => 0) 0 ++ (ordC E (b + 53) (fun _ => 0) 0 0 0 ++ ([.inr (0, [.int 0, .int 0, .int 0, .int 0])]))))))) G) none (ov b ([.inr (8, [.ref (b + 1), .ref (b + 9), .ref (b + 17), .ref (b + 51), .ref (b + 53), .null])] ++ (stT E (b + 1) zS ++ (stT E (b + 9) zS ++ (hisC E (b + 17) zS zS zS zS 0 0 ++ (txtC E (b + 51) (fun _ => 0) 0 ++ (ordC E (b + 53) (fun _ => 0) 0 0 0 ++ (fltC E (b + 55) 0 0 0 0))))))) G) := MF.grow (n := 55) (cs := [.inr (8, [.ref (b + 1), .ref (b + 9), .ref (b + 17), .ref (b + 51), .ref (b + 53), .null])] ++ (stT E (b + 1) zS ++ (stT E (b + 9) zS ++ (hisC E (b + 17) zS zS zS zS 0 0 ++ (txtC E (b + 51) (fun _ => 0) 0 ++ (ordC E (b + 53) (fun _ => 0) 0 0 0)))))) (sub := [.inr (0, [.int 0, .int 0, .int 0, .int 0])]) (sub' := fltC E (b + 55) 0 0 0 0) rfl rfl rfl (c_X0_init E (b + 55) _ (xlo hb))
  refine x_callIN (b := b + 55) (As := []) C hm6 v_X8_42 (by omega) rfl rfl rfl rfl dX8_init_64 ?_
  refine x_putF (G' := ov b ([.inr (8, [.ref (b + 1), .ref (b + 9), .ref (b + 17), .ref (b + 51), .ref (b + 53), .ref (b + 55)])] ++ (stT E (b + 1) zS ++ (stT E (b + 9) zS ++ (hisC E (b + 17) zS zS zS zS 0 0 ++ (txtC E (b + 51) (fun _ => 0) 0 ++ (ordC E (b + 53) (fun _ => 0) 0 0 0 ++ (fltC E (b + 55) 0 0 0 0))))))) G) C (xlo (i := 0) hb) (by omega) (ov_at (i := 0) rfl) f_X8_43 xt_X8 rfl hin rfl rfl rfl rfl (ov_set (i := 0) rfl rfl) dX8_init_67 ?_
  exact x_vret C Z rfl rfl rfl dX8_init_70
