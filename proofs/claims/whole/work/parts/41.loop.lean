/-! ===== the law: its loop ===== -/
theorem z31 (x : Int32) : ∃ z, x &&& 31 = nI z ∧ z < 32 := by
  have h : vp_in (x &&& 31) 32 := pk_andIn x 5 (by decide) (by decide)
  rw [vp_in_iff] at h
  refine ⟨(x &&& 31).toNatClampNeg, nat_of (by omega), ?_⟩
  show (x &&& 31).toInt.toNat < 32
  omega
theorem len4 {Ln : Nat} (h : Ln ≤ 2048) : (nI Ln - 4).toInt = (Ln : Int) - 4 := by
  have z : (4 : Int32).toInt = 4 := rfl
  rw [Int32.toInt_sub, z, nI_toInt (by omega), toInt_small (by omega) (by omega)]
set_option maxRecDepth 100000 in
set_option maxHeartbeats 4000000 in
theorem law_sw {E : XE} {K : XK} (C : XC E K cL_law 4 RL ret 11 414 600000 7302250) {b Ln : Nat} {xs : Nat → Int32} (hJ : LJ E K b Ln xs) {i c z : Nat} (hi : i + 4 ≤ Ln) (hc : c ≤ 600) {G0 : GW} (kk : LKK E K b i 1495 G0 (c + 1) 689) (hz : z < 32) (u : QV) (s : Nat → Int32) (su : Nat → Int64) (n : Nat) (tx : Nat → Int32) (ny : Nat) (re ca : Int32) (p : Nat) (to : Nat → Int32) (h : RQ u s su n tx ny c) : XW E K 4 (xB E + 61) 61 1495 (LG E u s su n tx ny re ca p to G0) 32 (LL E b i) [.int (nI z)] := by
  by_cases h3 : z ≤ 22
  · rcases (by omega : z = 0 ∨ z = 1 ∨ z = 2 ∨ z = 3 ∨ z = 4 ∨ z = 5 ∨ z = 6 ∨ z = 7 ∨ z = 8 ∨ z = 9 ∨ z = 10 ∨ z = 11 ∨ z = 12 ∨ z = 13 ∨ z = 14 ∨ z = 15 ∨ z = 16 ∨ z = 17 ∨ z = 18 ∨ z = 19 ∨ z = 20 ∨ z = 21 ∨ z = 22) with rfl | rfl | rfl | rfl | rfl | rfl | rfl | rfl | rfl | rfl | rfl | rfl | rfl | rfl | rfl | rfl | rfl | rfl | rfl | rfl | rfl | rfl | rfl
    · exact x_tableIn C 140 dL_law_32 (by decide) (by decide) rfl rfl (lawc_sample C hJ hi hc kk u s su n tx ny re ca p to h)
    · exact x_tableIn C 163 dL_law_32 (by decide) (by decide) rfl rfl (lawc_silence C hJ hi hc kk u s su n tx ny re ca p to h)
    · exact x_tableIn C 186 dL_law_32 (by decide) (by decide) rfl rfl (lawc_tap C hJ hi hc kk u s su n tx ny re ca p to h)
    · exact x_tableIn C 229 dL_law_32 (by decide) (by decide) rfl rfl (lawc_off C hJ hi hc kk u s su n tx ny re ca p to h)
    · exact x_tableIn C 252 dL_law_32 (by decide) (by decide) rfl rfl (lawc_feedback C hJ hi hc kk u s su n tx ny re ca p to h)
    · exact x_tableIn C 285 dL_law_32 (by decide) (by decide) rfl rfl (lawc_steal C hJ hi hc kk u s su n tx ny re ca p to h)
    · exact x_tableIn C 308 dL_law_32 (by decide) (by decide) rfl rfl (lawc_giveBack C hJ hi hc kk u s su n tx ny re ca p to h)
    · exact x_tableIn C 331 dL_law_32 (by decide) (by decide) rfl rfl (lawc_set C hJ hi hc kk u s su n tx ny re ca p to h)
    · exact x_tableIn C 364 dL_law_32 (by decide) (by decide) rfl rfl (lawc_reset C hJ hi hc kk u s su n tx ny re ca p to h)
    · exact x_tableIn C 377 dL_law_32 (by decide) (by decide) rfl rfl (lawc_tapOf C hJ hi hc kk u s su n tx ny re ca p to h)
    · exact x_tableIn C 410 dL_law_32 (by decide) (by decide) rfl rfl (lawc_wordOf C hJ hi hc kk u s su n tx ny re ca p to h)
    · exact x_tableIn C 433 dL_law_32 (by decide) (by decide) rfl rfl (lawc_outputOf C hJ hi hc kk u s su n tx ny re ca p to h)
    · exact x_tableIn C 456 dL_law_32 (by decide) (by decide) rfl rfl (lawc_meter C hJ hi hc kk u s su n tx ny re ca p to h)
    · exact x_tableIn C 479 dL_law_32 (by decide) (by decide) rfl rfl (lawc_echo C hJ hi hc kk u s su n tx ny re ca p to h)
    · exact x_tableIn C 512 dL_law_32 (by decide) (by decide) rfl rfl (lawc_quietAfter C hJ hi hc kk u s su n tx ny re ca p to h)
    · exact x_tableIn C 535 dL_law_32 (by decide) (by decide) rfl rfl (lawc_loudest C hJ hi hc kk u s su n tx ny re ca p to h)
    · exact x_tableIn C 548 dL_law_32 (by decide) (by decide) rfl rfl (lawc_safeGain C hJ hi hc kk u s su n tx ny re ca p to h)
    · exact x_tableIn C 581 dL_law_32 (by decide) (by decide) rfl rfl (lawc_count C hJ hi hc kk u s su n tx ny re ca p to h)
    · exact x_tableIn C 604 dL_law_32 (by decide) (by decide) rfl rfl (lawc_undo C hJ hi hc kk u s su n tx ny re ca p to h)
    · exact x_tableIn C 617 dL_law_32 (by decide) (by decide) rfl rfl (lawc_type C hJ hi hc kk u s su n tx ny re ca p to h)
    · exact x_tableIn C 640 dL_law_32 (by decide) (by decide) rfl rfl (lawc_clearText C hJ hi hc kk u s su n tx ny re ca p to h)
    · exact x_tableIn C 653 dL_law_32 (by decide) (by decide) rfl rfl (lawc_fault C hJ hi hc kk u s su n tx ny re ca p to h)
    · exact x_tableIn C 676 dL_law_32 (by decide) (by decide) rfl rfl (lawc_play C hJ hi hc kk u s su n tx ny re ca p to h)
  · refine x_tableOut C 689 dL_law_32 (Or.inr ?_) rfl (kk u s su n tx ny re ca p to (rq_mono h (Nat.le_succ c)))
    rw [nI_toInt (by omega)]
    omega
set_option maxRecDepth 100000 in
set_option maxHeartbeats 4000000 in
theorem law_loop {E : XE} {K : XK} (C : XC E K cL_law 4 RL ret 11 414 600000 7302250) {b Ln : Nat} {xs : Nat → Int32} (hJ : LJ E K b Ln xs) {G0 : GW} (kend : ∀ (G : GW) (L : List (Nat × Value)), XW E K 4 (xB E + 61) 61 1495 G 696 L [.int 1]) : ∀ (d c : Nat), c + d = 600 → LKK E K b (4 * c) 1495 G0 c 18 := by
  intro d
  induction d with
  | zero =>
    intro c hd u s su n tx ny re ca p to h
    have hLn := hJ.2.2.2
    have h4 := len4 hLn
    refine x_iload_n C dL_law_18 0 rfl ?_
    refine x_aload_n C dL_law_19 3 rfl ?_
    refine x_slen C hJ dL_law_20 ?_
    refine x_iconst C 4 dL_law_21 rfl ?_
    refine x_isub C dL_law_22 ?_
    refine x_icmp_gt C 695 dL_law_23 rfl (fun _ => x_iconst C 1 dL_law_695 rfl (kend _ _)) (fun q => absurd ?_ q)
    rw [i_lt, h4, nI_toInt (by omega)]
    omega
  | succ d ih =>
    intro c hd u s su n tx ny re ca p to h
    have hLn := hJ.2.2.2
    have h4 := len4 hLn
    refine x_iload_n C dL_law_18 0 rfl ?_
    refine x_aload_n C dL_law_19 3 rfl ?_
    refine x_slen C hJ dL_law_20 ?_
    refine x_iconst C 4 dL_law_21 rfl ?_
    refine x_isub C dL_law_22 ?_
    refine x_icmp_gt C 695 dL_law_23 rfl (fun _ => x_iconst C 1 dL_law_695 rfl (kend _ _)) (fun q => ?_)
    have hi : 4 * c + 4 ≤ Ln := by
      rw [i_lt, h4, nI_toInt (by omega)] at q
      omega
    refine x_aload_n C dL_law_26 3 rfl ?_
    refine x_iload_n C dL_law_27 0 rfl ?_
    refine x_sld C hJ (show 4 * c < Ln by omega) dL_law_28 ?_
    refine x_bipush C 31 dL_law_29 rfl ?_
    refine x_iand C dL_law_31 ?_
    obtain ⟨z, hz, hz2⟩ := z31 (xs (4 * c))
    rw [hz]
    refine law_sw C hJ hi (show c ≤ 600 by omega) (fun u s su n tx ny re ca p to h => ?_) hz2 u s su n tx ny re ca p to h
    refine x_iinc (L' := LL E b (4 * (c + 1))) C (nI (4 * (c + 1))) dL_law_689 0 rfl (natAdd (b := 4) (by omega)) rfl rfl ?_
    refine x_goto C 18 dL_law_692 rfl ?_
    exact ih (c + 1) (by omega) u s su n tx ny re ca p to h
