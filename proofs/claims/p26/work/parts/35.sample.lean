/-! ===== the law: a sample ===== -/
set_option maxRecDepth 100000 in
set_option maxHeartbeats 4000000 in
theorem l_taps {E : XE} {K : XK} (C : XC E K cL_law 19 RL ret 8 262 600000 7302250) {b : Nat} {P : TP} {G0 : GW} {u : QV} {w : Nat → Int32} {l sa dn k : Nat} {x : Int32} (hP : POK P) (h : TQ P 3 u w l sa dn) (kend : LX E K u w G0 574 ((15, .int (nI 3)) :: (14, .int (ouT P w l x 3)) :: (13, .int x) :: LM E b P l sa dn k) []) : ∀ d t, t + d = 3 → LX E K u w G0 455 ((15, .int (nI t)) :: (14, .int (ouT P w l x t)) :: (13, .int x) :: LM E b P l sa dn k) [] := by
  have hl := h.1.2.1
  intro d
  induction d with
  | zero =>
    intro t ht
    have h3 : t = 3 := by omega
    subst h3
    refine x_iload C dL_law_455 0 rfl ?_
    refine x_iconst C 3 dL_law_457 rfl ?_
    exact x_icmp_ge C 574 dL_law_458 rfl (fun _ => kend) (fun c => absurd (show (3 : Int32) ≤ nI 3 by decide) c)
  | succ d ih =>
    intro t ht
    have ht3 : t < 3 := by omega
    have hp := (hP.2.2.2 t ht3).1
    obtain ⟨g0, g1, g2, g3, g4⟩ := q_tof hP h ht3
    refine x_iload C dL_law_455 0 rfl ?_
    refine x_iconst C 3 dL_law_457 rfl ?_
    refine x_icmp_ge C 574 dL_law_458 rfl (fun c => absurd c (nI_ge (b := 3) ht3 (by omega))) (fun _ => ?_)
    refine x_iload C dL_law_461 6 rfl ?_
    refine x_if_eq C 574 dL_law_463 rfl (fun c => absurd c (by decide)) (fun _ => ?_)
    refine x_aload_n C dL_law_466 12 rfl ?_
    refine x_iload C dL_law_467 0 rfl ?_
    refine x_iconst C 0 dL_law_469 rfl ?_
    refine x_cV1 (As := [.int (nI t), .int 0]) C (k_tapOf (nI t) 0 g0) v_L_49 (Nat.le_add_right _ _) (Nat.le_refl _) (by omega) (ov_at (i := 0) rfl) rfl rfl rfl rfl rfl dL_law_470 ?_
    refine x_istore (L' := [(16, .int (nI (pD P t))), (15, .int (nI t)), (14, .int (ouT P w l x t)), (13, .int x), (10, .int (nI k)), (9, .int (nI sa)), (8, .int (nI dn)), (7, .int 1), (6, .int (nI (pF P))), (5, .int (pB P)), (4, .int (pL P)), (3, .int (nI l)), (2, .ref (xB E + 56)), (1, .ref (xB E)), (0, .ref b)]) C dL_law_473 rfl rfl ?_
    refine x_iload C dL_law_475 0 rfl ?_
    refine x_iload_n C dL_law_477 11 rfl ?_
    suffices hj1 : LX E K u w G0 491 [(16, .int (nI (pD P t))), (15, .int (nI t)), (14, .int (ouT P w l x t)), (13, .int x), (10, .int (nI k)), (9, .int (nI sa)), (8, .int (nI dn)), (7, .int 1), (6, .int (nI (pF P))), (5, .int (pB P)), (4, .int (pL P)), (3, .int (nI l)), (2, .ref (xB E + 56)), (1, .ref (xB E)), (0, .ref b)] [.int (rdT P w l t)] by
      refine x_icmp_le C 485 dL_law_478 rfl (fun c => ?_) (fun c => ?_)
      · have c2 : pD P t ≤ l := (nI_leI (by omega) (by omega)).mp c
        refine x_aload_n C dL_law_485 12 rfl ?_
        refine x_iload C dL_law_486 0 rfl ?_
        refine x_iconst C 1 dL_law_488 rfl ?_
        refine x_isub C dL_law_489 ?_
        refine x_v (w := .int (nI (pD P t - 1))) (congrArg Value.int (natSub (b := 1) (by omega))) ?_
        refine x_iald C (w (pD P t - 1)) (Nat.le_add_right _ _) (by omega) lg_w (vp_in_nI (show pD P t - 1 < 64 by omega) (by omega)) (by rw [nI_clamp (by omega)]) dL_law_490 ?_
        exact x_v (congrArg Value.int (show w (pD P t - 1) = rdT P w l t from (if_pos c2).symm)) hj1
      · have c2 : ¬ pD P t ≤ l := fun z => c ((nI_leI (by omega) (by omega)).mpr z)
        refine x_iconst C 0 dL_law_481 rfl ?_
        refine x_goto C 491 dL_law_482 rfl ?_
        exact x_v (congrArg Value.int (show (0 : Int32) = rdT P w l t from (if_neg c2).symm)) hj1
    refine x_istore (L' := [(17, .int (rdT P w l t)), (16, .int (nI (pD P t))), (15, .int (nI t)), (14, .int (ouT P w l x t)), (13, .int x), (10, .int (nI k)), (9, .int (nI sa)), (8, .int (nI dn)), (7, .int 1), (6, .int (nI (pF P))), (5, .int (pB P)), (4, .int (pL P)), (3, .int (nI l)), (2, .ref (xB E + 56)), (1, .ref (xB E)), (0, .ref b)]) C dL_law_491 rfl rfl ?_
    refine x_aload_n C dL_law_493 14 rfl ?_
    refine x_iload C dL_law_494 2 rfl ?_
    refine x_iconst C 1 dL_law_496 rfl ?_
    refine x_cV1 (As := [.int (nI t), .int 1]) C (k_tapOf (nI t) 1 g1) v_L_49 (Nat.le_add_right _ _) (Nat.le_refl _) (by omega) (ov_at (i := 0) rfl) rfl rfl rfl rfl rfl dL_law_497 ?_
    refine x_iload C dL_law_500 0 rfl ?_
    refine x_imul C dL_law_502 ?_
    refine x_sipush C 1000 dL_law_503 rfl ?_
    refine x_idiv C dL_law_506 (by decide) ?_
    refine x_v (w := .int (shT P w l t)) (congrArg Value.int (rfl)) ?_
    refine x_istore (L' := [(18, .int (shT P w l t)), (17, .int (rdT P w l t)), (16, .int (nI (pD P t))), (15, .int (nI t)), (14, .int (ouT P w l x t)), (13, .int x), (10, .int (nI k)), (9, .int (nI sa)), (8, .int (nI dn)), (7, .int 1), (6, .int (nI (pF P))), (5, .int (pB P)), (4, .int (pL P)), (3, .int (nI l)), (2, .ref (xB E + 56)), (1, .ref (xB E)), (0, .ref b)]) C dL_law_507 rfl rfl ?_
    refine x_iload C dL_law_509 4 rfl ?_
    refine x_iload C dL_law_511 0 rfl ?_
    refine x_iadd C dL_law_513 ?_
    refine x_v (w := .int (ouT P w l x (t + 1))) (congrArg Value.int (rfl)) ?_
    refine x_istore (L' := [(14, .int (ouT P w l x (t + 1))), (18, .int (shT P w l t)), (17, .int (rdT P w l t)), (16, .int (nI (pD P t))), (15, .int (nI t)), (13, .int x), (10, .int (nI k)), (9, .int (nI sa)), (8, .int (nI dn)), (7, .int 1), (6, .int (nI (pF P))), (5, .int (pB P)), (4, .int (pL P)), (3, .int (nI l)), (2, .ref (xB E + 56)), (1, .ref (xB E)), (0, .ref b)]) C dL_law_514 rfl rfl ?_
    refine x_aload_n C dL_law_516 15 rfl ?_
    refine x_iload C dL_law_517 4 rfl ?_
    refine x_iconst C 2 dL_law_519 rfl ?_
    refine x_cV1 (As := [.int (nI t), .int 2]) C (k_tapOf (nI t) 2 g2) v_L_49 (Nat.le_add_right _ _) (Nat.le_refl _) (by omega) (ov_at (i := 0) rfl) rfl rfl rfl rfl rfl dL_law_520 ?_
    refine x_iload C dL_law_523 3 rfl ?_
    refine x_iload_n C dL_law_525 13 rfl ?_
    suffices hj2 : LX E K u w G0 534 [(14, .int (ouT P w l x (t + 1))), (18, .int (shT P w l t)), (17, .int (rdT P w l t)), (16, .int (nI (pD P t))), (15, .int (nI t)), (13, .int x), (10, .int (nI k)), (9, .int (nI sa)), (8, .int (nI dn)), (7, .int 1), (6, .int (nI (pF P))), (5, .int (pB P)), (4, .int (pL P)), (3, .int (nI l)), (2, .ref (xB E + 56)), (1, .ref (xB E)), (0, .ref b)] [.int (if pD P t ≤ l then 0 else 1), .int (if pD P t ≤ l then 0 else 1)] by
      refine x_icmp_le C 533 dL_law_526 rfl (fun c => ?_) (fun c => ?_)
      · have c2 : pD P t ≤ l := (nI_leI (by omega) (by omega)).mp c
        refine x_iconst C 0 dL_law_533 rfl ?_
        exact x_v (congrArg Value.int ((if_pos c2).symm)) hj2
      · have c2 : ¬ pD P t ≤ l := fun z => c ((nI_leI (by omega) (by omega)).mpr z)
        refine x_iconst C 1 dL_law_529 rfl ?_
        refine x_goto C 534 dL_law_530 rfl ?_
        exact x_v (congrArg Value.int ((if_neg c2).symm)) hj2
    refine x_icmp_ne C 565 dL_law_534 rfl (fun c => absurd (rfl) c) (fun _ => ?_)
    refine x_aload_n C dL_law_537 15 rfl ?_
    refine x_iload C dL_law_538 4 rfl ?_
    refine x_iconst C 3 dL_law_540 rfl ?_
    refine x_cV1 (As := [.int (nI t), .int 3]) C (k_tapOf (nI t) 3 g3) v_L_49 (Nat.le_add_right _ _) (Nat.le_refl _) (by omega) (ov_at (i := 0) rfl) rfl rfl rfl rfl rfl dL_law_541 ?_
    refine x_iload C dL_law_544 2 rfl ?_
    refine x_icmp_ne C 565 dL_law_546 rfl (fun c => absurd (rfl) c) (fun _ => ?_)
    refine x_aload_n C dL_law_549 15 rfl ?_
    refine x_iload C dL_law_550 4 rfl ?_
    refine x_iconst C 4 dL_law_552 rfl ?_
    refine x_cV1 (As := [.int (nI t), .int 4]) C (k_tapOf (nI t) 4 g4) v_L_49 (Nat.le_add_right _ _) (Nat.le_refl _) (by omega) (ov_at (i := 0) rfl) rfl rfl rfl rfl rfl dL_law_553 ?_
    refine x_iload C dL_law_556 1 rfl ?_
    refine x_icmp_ne C 565 dL_law_558 rfl (fun c => absurd (rfl) c) (fun _ => ?_)
    refine x_iconst C 1 dL_law_561 rfl ?_
    refine x_goto C 566 dL_law_562 rfl ?_
    refine x_istore (L' := [(7, .int 1), (14, .int (ouT P w l x (t + 1))), (18, .int (shT P w l t)), (17, .int (rdT P w l t)), (16, .int (nI (pD P t))), (15, .int (nI t)), (13, .int x), (10, .int (nI k)), (9, .int (nI sa)), (8, .int (nI dn)), (6, .int (nI (pF P))), (5, .int (pB P)), (4, .int (pL P)), (3, .int (nI l)), (2, .ref (xB E + 56)), (1, .ref (xB E)), (0, .ref b)]) C dL_law_566 rfl rfl ?_
    refine x_iinc (L' := [(15, .int (nI (t + 1))), (7, .int 1), (14, .int (ouT P w l x (t + 1))), (18, .int (shT P w l t)), (17, .int (rdT P w l t)), (16, .int (nI (pD P t))), (13, .int x), (10, .int (nI k)), (9, .int (nI sa)), (8, .int (nI dn)), (6, .int (nI (pF P))), (5, .int (pB P)), (4, .int (pL P)), (3, .int (nI l)), (2, .ref (xB E + 56)), (1, .ref (xB E)), (0, .ref b)]) C (nI (t + 1)) dL_law_568 5 rfl (natAdd (b := 1) rfl) rfl rfl ?_
    refine x_perm [0, 2, 6, 7, 8, 9, 1, 10, 11, 12, 13, 14, 15, 16] rfl ?_
    refine x_goto C 455 dL_law_571 rfl ?_
    exact ih (t + 1) (by omega)
set_option maxRecDepth 100000 in
set_option maxHeartbeats 4000000 in
theorem l_shift {E : XE} {K : XK} (C : XC E K cL_law 19 RL ret 8 262 600000 7302250) {b : Nat} {P : TP} {G0 : GW} {u : QV} {w : Nat → Int32} {l sa dn k : Nat} {r : Int32} (hl : l ≤ 64) (kend : LX E K u (shD w l 0) G0 721 ((16, .int (nI 0)) :: (15, .int r) :: LM E b P l sa dn k) []) : ∀ d, d < l → LX E K u (shD w l d) G0 700 ((16, .int (nI d)) :: (15, .int r) :: LM E b P l sa dn k) [] := by
  intro d
  induction d with
  | zero =>
    intro _
    refine x_iload C dL_law_700 0 rfl ?_
    exact x_if_le C 721 dL_law_702 rfl (fun _ => kend) (fun c => absurd (show nI 0 ≤ 0 by decide) c)
  | succ d ih =>
    intro hm
    refine x_iload C dL_law_700 0 rfl ?_
    refine x_if_le C 721 dL_law_702 rfl (fun c => absurd c (nI_nle (by omega) (by omega))) (fun _ => ?_)
    refine x_aload_n C dL_law_705 10 rfl ?_
    refine x_iload C dL_law_706 0 rfl ?_
    refine x_aload_n C dL_law_708 10 rfl ?_
    refine x_iload C dL_law_709 0 rfl ?_
    refine x_iconst C 1 dL_law_711 rfl ?_
    refine x_isub C dL_law_712 ?_
    refine x_v (w := .int (nI d)) (congrArg Value.int (nI_pred d)) ?_
    refine x_iald C (w d) (Nat.le_add_right _ _) (by omega) lg_w (vp_in_nI (show d < 64 by omega) (by omega)) (by rw [nI_clamp (by omega)]; exact shD_at) dL_law_713 ?_
    refine x_iast (G' := LG E u (shD w l d) G0) C (d + 1) (Nat.le_add_right _ _) (by omega) lg_w (vp_in_nI (show d + 1 < 64 by omega) (by omega)) (nI_clamp (by omega)) (lg_up.trans (congrArg (fun q => LG E u q G0) (shD_step hm))) dL_law_714 ?_
    refine x_iinc (L' := ((16, .int (nI d)) :: (15, .int r) :: LM E b P l sa dn k)) C (nI d) dL_law_715 0 rfl (n_dec d) rfl rfl ?_
    refine x_goto C 700 dL_law_718 rfl ?_
    exact ih (by omega)
set_option maxRecDepth 100000 in
set_option maxHeartbeats 4000000 in
theorem l_samB {E : XE} {K : XK} (C : XC E K cL_law 19 RL ret 8 262 600000 7302250) {b : Nat} {P : TP} {G0 : GW} {u : QV} {w : Nat → Int32} {l sa dn k : Nat} (hP : POK P) (h : TQ P 3 u w l sa dn) (hs : sa ≤ 1000) (kk : ∀ u w l sa2 dn2, TQ P 3 u w l sa2 dn2 → dn ≤ dn2 ∧ dn2 ≤ dn + 1 → sa2 ≤ sa + 1 → LX E K u w G0 732 (LM E b P l sa2 dn2 k) []) {x : Int32} (hx : -20000 ≤ x.toInt ∧ x.toInt ≤ 20000) : LX E K u w G0 574 ((15, .int (nI 3)) :: (14, .int (ouT P w l x 3)) :: (13, .int x) :: LM E b P l sa dn k) [] := by
  have hl := h.1.2.1
  have hl1 := h.1.1
  have hf := hP.2.2.1
  obtain ⟨s1, s2, s3, s4⟩ := q_sam hP h hx hs
  refine x_iload C dL_law_574 2 rfl ?_
  refine x_iload C dL_law_576 7 rfl ?_
  refine x_iload_n C dL_law_578 10 rfl ?_
  suffices hj1 : LX E K u w G0 599 [(15, .int (nI 3)), (14, .int (ouT P w l x 3)), (13, .int x), (10, .int (nI k)), (9, .int (nI sa)), (8, .int (nI dn)), (7, .int 1), (6, .int (nI (pF P))), (5, .int (pB P)), (4, .int (pL P)), (3, .int (nI l)), (2, .ref (xB E + 56)), (1, .ref (xB E)), (0, .ref b)] [.int (if pF P ≤ l then pB P * w (pF P - 1) / 1000 else 0), .int x] by
    refine x_icmp_le C 586 dL_law_579 rfl (fun c => ?_) (fun c => ?_)
    · have c2 : pF P ≤ l := (nI_leI (by omega) (by omega)).mp c
      refine x_iload C dL_law_586 8 rfl ?_
      refine x_aload_n C dL_law_588 11 rfl ?_
      refine x_iload C dL_law_589 7 rfl ?_
      refine x_iconst C 1 dL_law_591 rfl ?_
      refine x_isub C dL_law_592 ?_
      refine x_v (w := .int (nI (pF P - 1))) (congrArg Value.int (natSub (b := 1) (by omega))) ?_
      refine x_iald C (w (pF P - 1)) (Nat.le_add_right _ _) (by omega) lg_w (vp_in_nI (show pF P - 1 < 64 by omega) (by omega)) (by rw [nI_clamp (by omega)]) dL_law_593 ?_
      refine x_imul C dL_law_594 ?_
      refine x_sipush C 1000 dL_law_595 rfl ?_
      refine x_idiv C dL_law_598 (by decide) ?_
      exact x_v (congrArg Value.int (show pB P * w (pF P - 1) / 1000 = _ from (if_pos c2).symm)) hj1
    · have c2 : ¬ pF P ≤ l := fun z => c ((nI_leI (by omega) (by omega)).mpr z)
      refine x_iconst C 0 dL_law_582 rfl ?_
      refine x_goto C 599 dL_law_583 rfl ?_
      exact x_v (congrArg Value.int (show (0 : Int32) = _ from (if_neg c2).symm)) hj1
  refine x_iadd C dL_law_599 ?_
  refine x_v (w := .int (rgT P w l x)) (congrArg Value.int (rfl)) ?_
  refine x_istore (L' := [(15, .int (rgT P w l x)), (14, .int (ouT P w l x 3)), (13, .int x), (10, .int (nI k)), (9, .int (nI sa)), (8, .int (nI dn)), (7, .int 1), (6, .int (nI (pF P))), (5, .int (pB P)), (4, .int (pL P)), (3, .int (nI l)), (2, .ref (xB E + 56)), (1, .ref (xB E)), (0, .ref b)]) C dL_law_600 rfl rfl ?_
  refine x_iload C dL_law_602 1 rfl ?_
  refine x_iload C dL_law_604 9 rfl ?_
  suffices hj2 : LX E K u w G0 630 [(15, .int (rgT P w l x)), (14, .int (ouT P w l x 3)), (13, .int x), (10, .int (nI k)), (9, .int (nI sa)), (8, .int (nI dn)), (7, .int 1), (6, .int (nI (pF P))), (5, .int (pB P)), (4, .int (pL P)), (3, .int (nI l)), (2, .ref (xB E + 56)), (1, .ref (xB E)), (0, .ref b)] [.int (cl (ouT P w l x 3) (pL P))] by
    refine x_icmp_le C 614 dL_law_606 rfl (fun c => ?_) (fun c => ?_)
    · refine x_iload C dL_law_614 1 rfl ?_
      refine x_iload C dL_law_616 9 rfl ?_
      refine x_ineg C dL_law_618 ?_
      refine x_icmp_ge C 628 dL_law_619 rfl (fun c2 => ?_) (fun c2 => ?_)
      · refine x_iload C dL_law_628 1 rfl ?_
        exact x_v (congrArg Value.int (show ouT P w l x 3 = cl (ouT P w l x 3) (pL P) from ((if_pos c).trans (if_pos c2)).symm)) hj2
      · refine x_iload C dL_law_622 9 rfl ?_
        refine x_ineg C dL_law_624 ?_
        refine x_goto C 630 dL_law_625 rfl ?_
        exact x_v (congrArg Value.int (show -pL P = cl (ouT P w l x 3) (pL P) from ((if_pos c).trans (if_neg c2)).symm)) hj2
    · refine x_iload C dL_law_609 9 rfl ?_
      refine x_goto C 630 dL_law_611 rfl ?_
      exact x_v (congrArg Value.int (show pL P = cl (ouT P w l x 3) (pL P) from (if_neg c).symm)) hj2
  refine x_istore (L' := [(14, .int (cl (ouT P w l x 3) (pL P))), (15, .int (rgT P w l x)), (13, .int x), (10, .int (nI k)), (9, .int (nI sa)), (8, .int (nI dn)), (7, .int 1), (6, .int (nI (pF P))), (5, .int (pB P)), (4, .int (pL P)), (3, .int (nI l)), (2, .ref (xB E + 56)), (1, .ref (xB E)), (0, .ref b)]) C dL_law_630 rfl rfl ?_
  refine x_iload C dL_law_632 1 rfl ?_
  refine x_iload C dL_law_634 9 rfl ?_
  suffices hj3 : LX E K u w G0 660 [(14, .int (cl (ouT P w l x 3) (pL P))), (15, .int (rgT P w l x)), (13, .int x), (10, .int (nI k)), (9, .int (nI sa)), (8, .int (nI dn)), (7, .int 1), (6, .int (nI (pF P))), (5, .int (pB P)), (4, .int (pL P)), (3, .int (nI l)), (2, .ref (xB E + 56)), (1, .ref (xB E)), (0, .ref b)] [.int (cl (rgT P w l x) (pL P))] by
    refine x_icmp_le C 644 dL_law_636 rfl (fun c => ?_) (fun c => ?_)
    · refine x_iload C dL_law_644 1 rfl ?_
      refine x_iload C dL_law_646 9 rfl ?_
      refine x_ineg C dL_law_648 ?_
      refine x_icmp_ge C 658 dL_law_649 rfl (fun c2 => ?_) (fun c2 => ?_)
      · refine x_iload C dL_law_658 1 rfl ?_
        exact x_v (congrArg Value.int (show rgT P w l x = cl (rgT P w l x) (pL P) from ((if_pos c).trans (if_pos c2)).symm)) hj3
      · refine x_iload C dL_law_652 9 rfl ?_
        refine x_ineg C dL_law_654 ?_
        refine x_goto C 660 dL_law_655 rfl ?_
        exact x_v (congrArg Value.int (show -pL P = cl (rgT P w l x) (pL P) from ((if_pos c).trans (if_neg c2)).symm)) hj3
    · refine x_iload C dL_law_639 9 rfl ?_
      refine x_goto C 660 dL_law_641 rfl ?_
      exact x_v (congrArg Value.int (show pL P = cl (rgT P w l x) (pL P) from (if_neg c).symm)) hj3
  refine x_istore (L' := [(15, .int (cl (rgT P w l x) (pL P))), (14, .int (cl (ouT P w l x 3) (pL P))), (13, .int x), (10, .int (nI k)), (9, .int (nI sa)), (8, .int (nI dn)), (7, .int 1), (6, .int (nI (pF P))), (5, .int (pB P)), (4, .int (pL P)), (3, .int (nI l)), (2, .ref (xB E + 56)), (1, .ref (xB E)), (0, .ref b)]) C dL_law_660 rfl rfl ?_
  refine x_iload C dL_law_662 6 rfl ?_
  refine x_if_eq C 692 dL_law_664 rfl (fun c => absurd c (by decide)) (fun _ => ?_)
  refine x_aload_n C dL_law_667 12 rfl ?_
  refine x_iload C dL_law_668 2 rfl ?_
  refine x_cV1 (As := [.int x]) C (k_sample x s1 rfl) v_L_52 (Nat.le_add_right _ _) (Nat.le_refl _) (by omega) (ov_at (i := 0) rfl) rfl rfl rfl rfl rfl dL_law_670 ?_
  refine x_iload C dL_law_673 1 rfl ?_
  refine x_icmp_ne C 692 dL_law_675 rfl (fun c => absurd (rfl) c) (fun _ => ?_)
  refine x_aload_n C dL_law_678 12 rfl ?_
  refine x_iconst C 0 dL_law_679 rfl ?_
  refine x_cV1 (As := [.int 0]) C (k_outputOf 0 s3) v_L_55 (Nat.le_add_right _ _) (Nat.le_refl _) (by omega) (ov_at (i := 0) rfl) rfl rfl rfl rfl rfl dL_law_680 ?_
  refine x_iload C dL_law_683 1 rfl ?_
  refine x_icmp_ne C 692 dL_law_685 rfl (fun c => absurd (rfl) c) (fun _ => ?_)
  refine x_iconst C 1 dL_law_688 rfl ?_
  refine x_goto C 693 dL_law_689 rfl ?_
  refine x_istore (L' := [(7, .int 1), (15, .int (cl (rgT P w l x) (pL P))), (14, .int (cl (ouT P w l x 3) (pL P))), (13, .int x), (10, .int (nI k)), (9, .int (nI sa)), (8, .int (nI dn)), (6, .int (nI (pF P))), (5, .int (pB P)), (4, .int (pL P)), (3, .int (nI l)), (2, .ref (xB E + 56)), (1, .ref (xB E)), (0, .ref b)]) C dL_law_693 rfl rfl ?_
  refine x_iload_n C dL_law_695 10 rfl ?_
  refine x_iconst C 1 dL_law_696 rfl ?_
  refine x_isub C dL_law_697 ?_
  refine x_v (w := .int (nI (l - 1))) (congrArg Value.int (natSub (b := 1) (by omega))) ?_
  refine x_istore (L' := [(16, .int (nI (l - 1))), (7, .int 1), (15, .int (cl (rgT P w l x) (pL P))), (14, .int (cl (ouT P w l x 3) (pL P))), (13, .int x), (10, .int (nI k)), (9, .int (nI sa)), (8, .int (nI dn)), (6, .int (nI (pF P))), (5, .int (pB P)), (4, .int (pL P)), (3, .int (nI l)), (2, .ref (xB E + 56)), (1, .ref (xB E)), (0, .ref b)]) C dL_law_698 rfl rfl ?_
  refine x_perm [0, 2, 5, 6, 7, 1, 8, 9, 10, 11, 12, 13, 14] rfl ?_
  refine x_G (G' := LG E (qSam u x) (shD w l (l - 1)) G0) (by rw [shD_top]) (l_shift C hl ?_ (l - 1) (by omega))
  refine x_aload_n C dL_law_721 10 rfl ?_
  refine x_iconst C (nI 0) dL_law_722 rfl ?_
  refine x_iload C dL_law_723 1 rfl ?_
  refine x_iast (G' := LG E (qSam u x) (wsT w l (cl (rgT P w l x) (pL P))) G0) C 0 (Nat.le_add_right _ _) (by omega) lg_w (vp_in_nI (show 0 < 64 by omega) (by omega)) (nI_clamp (by omega)) (lg_up.trans (congrArg (fun q => LG E (qSam u x) q G0) (shD_end w l _))) dL_law_725 ?_
  refine x_iinc (L' := [(9, .int (nI (sa + 1))), (16, .int (nI 0)), (15, .int (cl (rgT P w l x) (pL P))), (10, .int (nI k)), (8, .int (nI dn)), (7, .int 1), (6, .int (nI (pF P))), (5, .int (pB P)), (4, .int (pL P)), (3, .int (nI l)), (2, .ref (xB E + 56)), (1, .ref (xB E)), (0, .ref b)]) C (nI (sa + 1)) dL_law_726 3 rfl (natAdd (b := 1) rfl) rfl rfl ?_
  refine x_iinc (L' := [(8, .int (nI (dn + 1))), (9, .int (nI (sa + 1))), (16, .int (nI 0)), (15, .int (cl (rgT P w l x) (pL P))), (10, .int (nI k)), (7, .int 1), (6, .int (nI (pF P))), (5, .int (pB P)), (4, .int (pL P)), (3, .int (nI l)), (2, .ref (xB E + 56)), (1, .ref (xB E)), (0, .ref b)]) C (nI (dn + 1)) dL_law_729 4 rfl (natAdd (b := 1) rfl) rfl rfl ?_
  refine x_perm [4, 1, 0, 5, 6, 7, 8, 9, 10, 11, 12] rfl ?_
  exact kk _ _ _ _ _ s2 (by omega) (by omega)
set_option maxRecDepth 100000 in
set_option maxHeartbeats 4000000 in
theorem l_sam {E : XE} {K : XK} (C : XC E K cL_law 19 RL ret 8 262 600000 7302250) {b : Nat} {P : TP} {G0 : GW} {u : QV} {w : Nat → Int32} {l sa dn k : Nat} (hP : POK P) (h : TQ P 3 u w l sa dn) (hs : sa ≤ 1000) (kk : ∀ u w l sa2 dn2, TQ P 3 u w l sa2 dn2 → dn ≤ dn2 ∧ dn2 ≤ dn + 1 → sa2 ≤ sa + 1 → LX E K u w G0 732 (LM E b P l sa2 dn2 k) []) {z : Nat} (hz : z < 2 ^ 31) : LX E K u w G0 437 ((12, .int (nI z)) :: LM E b P l sa dn k) [] := by
  obtain ⟨x, hx, hx2⟩ := num_x z
  refine x_iload C dL_law_437 0 rfl ?_
  refine x_ldc C 40001 m_403 dL_law_439 ?_
  refine x_irem C dL_law_441 (by decide) ?_
  refine x_v (w := .int (nI (z % 40001))) (congrArg Value.int (n_rm (n := 40001) rfl (by omega) (by decide) hz)) ?_
  refine x_sipush C 20000 dL_law_442 rfl ?_
  refine x_isub C dL_law_445 ?_
  refine x_v (w := .int x) (congrArg Value.int (hx.symm)) ?_
  refine x_istore (L' := [(13, .int x), (12, .int (nI z)), (10, .int (nI k)), (9, .int (nI sa)), (8, .int (nI dn)), (7, .int 1), (6, .int (nI (pF P))), (5, .int (pB P)), (4, .int (pL P)), (3, .int (nI l)), (2, .ref (xB E + 56)), (1, .ref (xB E)), (0, .ref b)]) C dL_law_446 rfl rfl ?_
  refine x_iload C dL_law_448 0 rfl ?_
  refine x_istore (L' := [(14, .int x), (13, .int x), (12, .int (nI z)), (10, .int (nI k)), (9, .int (nI sa)), (8, .int (nI dn)), (7, .int 1), (6, .int (nI (pF P))), (5, .int (pB P)), (4, .int (pL P)), (3, .int (nI l)), (2, .ref (xB E + 56)), (1, .ref (xB E)), (0, .ref b)]) C dL_law_450 rfl rfl ?_
  refine x_iconst C 0 dL_law_452 rfl ?_
  refine x_istore (L' := [(15, .int 0), (14, .int x), (13, .int x), (12, .int (nI z)), (10, .int (nI k)), (9, .int (nI sa)), (8, .int (nI dn)), (7, .int 1), (6, .int (nI (pF P))), (5, .int (pB P)), (4, .int (pL P)), (3, .int (nI l)), (2, .ref (xB E + 56)), (1, .ref (xB E)), (0, .ref b)]) C dL_law_453 rfl rfl ?_
  refine x_perm [0, 1, 2, 4, 5, 6, 7, 8, 9, 10, 11, 12, 13, 14] rfl ?_
  exact l_taps C hP h (l_samB C hP h hs kk hx2) 3 0 rfl
