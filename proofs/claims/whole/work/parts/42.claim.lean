/-! ===== the law: its start; the claim ===== -/
theorem arr_int {s : State} {args : Array Value} (h : (Cond.arrayClass .int).before args s = true) : ∃ cA, ArrOfT s cA .int ∧ va_RA s cA .int := by
  obtain ⟨cA, kA, comp, h1, h2, h3⟩ := Cond.arrayClass_spec h
  exact ⟨cA, fun n z => ⟨fun k q => (by cases q), kA, h2, comp, h3⟩, h1⟩
theorem arr_long {s : State} {args : Array Value} (h : (Cond.arrayClass .long).before args s = true) : ∃ cA, ArrOfT s cA .long ∧ va_RA s cA .long := by
  obtain ⟨cA, kA, comp, h1, h2, h3⟩ := Cond.arrayClass_spec h
  exact ⟨cA, fun n z => ⟨fun k q => (by cases q), kA, h2, comp, h3⟩, h1⟩
theorem arr_char {s : State} {args : Array Value} (h : (Cond.arrayClass .char).before args s = true) : ∃ cA, ArrOfT s cA .char ∧ va_RA s cA .char := by
  obtain ⟨cA, kA, comp, h1, h2, h3⟩ := Cond.arrayClass_spec h
  exact ⟨cA, fun n z => ⟨fun k q => (by cases q), kA, h2, comp, h3⟩, h1⟩
theorem arr_obj {s : State} {args : Array Value} {nm : String} (h : (Cond.arrayOver (.object nm)).before args s = true) : ∃ cA, ArrOfT s cA (.object nm) ∧ va_RA s cA (.object nm) := by
  obtain ⟨comp, cA, kA, h1, h2, h3, h4, h5⟩ := Cond.arrayOver_spec h
  exact ⟨cA, fun n z => ⟨fun k q => (by cases q), kA, h3, comp, h4⟩, kA, comp, h3, h4, h1, h5⟩
theorem gup_1 (G : GW) (a : Nat) (e : va_E) : gup G a e = ov a [e] G := by
  funext q
  unfold gup ov
  by_cases h : q = a
  · subst h
    rw [if_pos rfl, if_pos (Nat.le_refl _), Nat.sub_self]
    rfl
  · rw [if_neg h]
    by_cases h2 : a ≤ q
    · rw [if_pos h2, List.getElem?_eq_none (show [e].length ≤ q - a from (by show 1 ≤ q - a; omega))]
    · rw [if_neg h2]
abbrev s00 : Nat → Int32 := upd (upd (fun _ => 0) 73 16) 79 16000
abbrev u00 : QV := mkQ zS zS zS zS zS zS 0 0 (fun _ => 0) 0 (fun _ => 0) 0 0 0 0 0 0 0
theorem s00_at {j : Nat} (h1 : j ≠ 73) (h2 : j ≠ 79) : s00 j = 0 := by
  unfold s00
  rw [pk_un h2, pk_un h1]
theorem sr_00 : SR zS (sl s00 0) 0 0 0 0 := by
  have z : (0 : Int32).toInt = 0 := rfl
  have z6 : (0 : Int64).toInt = 0 := rfl
  have g : ∀ j, j ≠ 73 → j ≠ 79 → sl s00 0 j = 0 := fun j h1 h2 => by
    rw [sl0]
    exact s00_at h1 h2
  refine ⟨⟨g 64 (by omega) (by omega), by omega, rfl, rfl, by omega, fun j hj => g j (by omega) (by omega), fun j h1 h2 => absurd h1 (by omega), fun j hj => by rw [g j (by omega) (by omega), z]; omega⟩, ⟨fun t ht => Or.inl ⟨g _ (by omega) (by omega), ?_⟩, ?_, g 78 (by omega) (by omega), ?_, 16, rfl, by omega, by omega⟩, ⟨?_, g 80 (by omega) (by omega), by decide, by decide, Or.inl rfl⟩, ⟨g 81 (by omega) (by omega), rfl, g 82 (by omega) (by omega), g 83 (by omega) (by omega), g 84 (by omega) (by omega), rfl, by rw [z6]; omega, by rw [z6]; omega⟩, ⟨0, 0, rfl, by omega, rfl, by omega, g 97 (by omega) (by omega), fun j hj => absurd hj (by omega)⟩, g 98 (by omega) (by omega)⟩
  · show upd zF 4 16 t = 0
    rw [pk_un (by omega)]
  · show upd (upd (fun _ => 0) 73 16) 79 16000 (100 * 0 + 73) = upd zF 4 16 4
    rw [pk_un (by omega), pk_us]
    exact pk_us.symm
  · show -950 ≤ (0 : Int32).toInt ∧ (0 : Int32).toInt ≤ 950
    rw [z]
    omega
  · show upd (upd (fun _ => 0) 73 16) 79 16000 (100 * 0 + 79) = 16000
    exact pk_us
theorem rq_00 : RQ u00 s00 (fun _ => 0) 0 (fun _ => 0) 0 0 := ⟨⟨0, 0, 0, by omega, sr_00⟩, ⟨by omega, rfl, 0, by omega, rfl, fun j hj => absurd hj (by omega)⟩, ⟨by omega, rfl, fun j hj => absurd hj (by omega)⟩⟩
theorem wl_nil (E : XE) (G : GW) : wl E (xB E) G = [] := by
  unfold wl
  rw [Nat.sub_self]
  rfl
set_option maxRecDepth 100000 in
set_option maxHeartbeats 4000000 in
theorem world_0 {s : State} {b : Nat} (hts0 : ∀ w ∈ lw_tbl, w.before #[Value.ref b] s = true) : ∃ E : XE, xB E = s.heap.size ∧ va_K E.1 vwCl (xtys E) s := by
  have hts : ∀ w ∈ LW, w.before #[Value.ref b] s = true := fun w h => hts0 w (LW_tbl w h)
  obtain ⟨c0, i0, k0⟩ := u_known (C := RX0) (T := TX0) (N := 4) (n := 4) hts in_X0 (hts _ m_139)
  obtain ⟨c1, i1, k1⟩ := u_known (C := RX1) (T := TX1) (N := 3) (n := 3) hts in_X1 (hts _ m_98)
  obtain ⟨c2, i2, k2⟩ := u_known (C := RX2) (T := TX2) (N := 5) (n := 5) hts in_X2 (hts _ m_57)
  obtain ⟨c3, i3, k3⟩ := u_known (C := RX3) (T := TX3) (N := 4) (n := 4) hts in_X3 (hts _ m_123)
  obtain ⟨c4, i4, k4⟩ := u_known (C := RX4) (T := TX4) (N := 3) (n := 3) hts in_X4 (hts _ m_45)
  obtain ⟨c5, i5, k5⟩ := u_known (C := RX5) (T := TX5) (N := 3) (n := 3) hts in_X5 (hts _ m_31)
  obtain ⟨c6, i6, k6⟩ := u_known (C := RX6) (T := TX6) (N := 8) (n := 8) hts in_X6 (hts _ m_25)
  obtain ⟨c7, i7, k7⟩ := u_known (C := RX7) (T := TX7) (N := 2) (n := 2) hts in_X7 (hts _ m_113)
  obtain ⟨c8, i8, k8⟩ := u_known (C := RX8) (T := TX8) (N := 6) (n := 6) hts in_X8 (hts _ m_17)
  obtain ⟨c9, i9, k9⟩ := u_known (C := RX9) (T := TX9) (N := 9) (n := 9) hts in_X9 (hts _ m_522)
  obtain ⟨cI, aI⟩ := arr_int (hts _ x_arr_int)
  obtain ⟨cJ, aJ⟩ := arr_long (hts _ x_arr_long)
  obtain ⟨cC, aC⟩ := arr_char (hts _ x_arr_char)
  obtain ⟨cQ, aQ⟩ := arr_obj (hts0 _ nwt_ao)
  refine ⟨((fun k => if k = 0 then c0 else if k = 1 then c1 else if k = 2 then c2 else if k = 3 then c3 else if k = 4 then c4 else if k = 5 then c5 else if k = 6 then c6 else if k = 7 then c7 else if k = 8 then c8 else c9, fun k => if k = 0 then i0 else if k = 1 then i1 else if k = 2 then i2 else if k = 3 then i3 else if k = 4 then i4 else if k = 5 then i5 else if k = 6 then i6 else if k = 7 then i7 else if k = 8 then i8 else i9), (cI, cJ, cC, cQ), s.heap.size), rfl, ?_, ?_⟩
  · intro k q hq
    match k, hq with
    | 0, hq => cases hq; exact k0
    | 1, hq => cases hq; exact k1
    | 2, hq => cases hq; exact k2
    | 3, hq => cases hq; exact k3
    | 4, hq => cases hq; exact k4
    | 5, hq => cases hq; exact k5
    | 6, hq => cases hq; exact k6
    | 7, hq => cases hq; exact k7
    | 8, hq => cases hq; exact k8
    | 9, hq => cases hq; exact k9
    | k + 10, hq => simp [vwCl] at hq
  · intro k q hq
    match k, hq with
    | 0, hq => cases hq; exact aI
    | 1, hq => cases hq; exact aJ
    | 2, hq => cases hq; exact aC
    | 3, hq => cases hq; exact aQ
    | k + 4, hq => simp [xtys] at hq
set_option maxRecDepth 100000 in
set_option maxHeartbeats 4000000 in
theorem law_walk0 {E : XE} {K : XK} (C : XC E K cL_law 4 RL ret 11 414 600000 7302250) {b Ln : Nat} {xs : Nat → Int32} (hJ : LJ E K b Ln xs) (G0 : GW) (kend : ∀ (G : GW) (L : List (Nat × Value)), XW E K 4 (xB E + 61) 61 1495 G 696 L [.int 1]) : XW E K 4 (xB E) 0 0 G0 0 [(0, .ref b)] [] := by
  refine x_new (ci := 8) (G' := ov (xB E) [.inr (8, [.null, .null, .null, .null, .null, .null])] G0) C [.null, .null, .null, .null, .null, .null] rfl in_X8 xt_X8 m_16 m_17 m_1 (by intro j hj; have h9 : j = 0 ∨ j = 1 ∨ j = 2 ∨ j = 3 ∨ j = 4 ∨ j = 5 := (by omega); rcases h9 with rfl | rfl | rfl | rfl | rfl | rfl <;> rfl) rfl rfl (gup_1 _ _ _) dL_law_0 ?_
  refine x_dup C dL_law_3 rfl ?_
  refine x_callI (b := xB E) (As := []) C (c_X8_init E (xB E) G0 (Nat.le_refl _)) v_L_9 (Nat.le_add_right _ _) rfl rfl rfl rfl dL_law_4 ?_
  show XW E K 4 (xB E + 56) 56 716 (ov (xB E) (qT E (xB E) u00) G0) 7 [(0, .ref b)] [.ref (xB E)]
  refine x_astore_n (L' := [(1, .ref (xB E)), (0, .ref b)]) C dL_law_7 rfl rfl ?_
  refine x_new (ci := 9) (G' := ov (xB E + 56) [.inr (9, [.null, .null, .int 0, .null, .int 0, .int 0, .int 0, .int 0, .null])] (ov (xB E) (qT E (xB E) u00) G0)) C [.null, .null, .int 0, .null, .int 0, .int 0, .int 0, .int 0, .null] rfl in_X9 xt_X9 m_521 m_522 m_10 (by intro j hj; have h9 : j = 0 ∨ j = 1 ∨ j = 2 ∨ j = 3 ∨ j = 4 ∨ j = 5 ∨ j = 6 ∨ j = 7 ∨ j = 8 := (by omega); rcases h9 with rfl | rfl | rfl | rfl | rfl | rfl | rfl | rfl | rfl <;> rfl) rfl rfl (gup_1 _ _ _) dL_law_8 ?_
  refine x_dup C dL_law_11 rfl ?_
  refine x_callI (b := xB E + 56) (As := []) C (c_X9_init E (xB E + 56) _ (Nat.le_add_right _ _)) v_L_12 (by omega) rfl rfl rfl rfl dL_law_12 ?_
  show XW E K 4 (xB E + 61) 61 1495 (ov (xB E + 56) (mC E (xB E + 56) s00 (fun _ => 0) (nI 0) (fun _ => 0) (nI 0) 0 0 (nI 0) (fun _ => 0)) (ov (xB E) (qT E (xB E) u00) G0)) 15 [(1, .ref (xB E)), (0, .ref b)] [.ref (xB E + 56)]
  refine x_astore_n (L' := [(2, .ref (xB E + 56)), (1, .ref (xB E)), (0, .ref b)]) C dL_law_15 rfl rfl ?_
  refine x_iconst C (nI (4 * 0)) dL_law_16 rfl ?_
  refine x_istore_n (L' := LL E b (4 * 0)) C dL_law_17 rfl rfl ?_
  refine x_G (ov_comm (n := 5) (k := 56) rfl rfl (Or.inr (Nat.le_refl _))) ?_
  exact law_loop C hJ kend 600 0 rfl u00 s00 (fun _ => 0) 0 (fun _ => 0) 0 0 0 0 (fun _ => 0) rq_00
set_option maxRecDepth 100000 in
set_option maxHeartbeats 4000000 in
theorem whole_start {p : Program} {e : Env} {s : State} {m : MethodId} {below : List Frame} {meth : Method} {c : Code} (l : Launch) (hflags : l.flags = flags0) {b L : Nat} {xs : Nat → Int32} (hL : L ≤ 2048) (C0 : lw_At p s m meth c b L xs) : W p l e room_1 s m #[Value.ref b] below meth c s.heap [] 0 0 (lw_Z below #[Value.ref b] s) (entryFrame m ([Value.ref b] : List Value).toArray 4) := by
  obtain ⟨hx, hb, hr, hml, hown, hts0, hX, hbl, hlocks, hgv⟩ := id C0
  obtain ⟨E, hE, hK⟩ := world_0 hts0
  have hts : ∀ w ∈ LW, w.before #[Value.ref b] s = true := fun w h => hts0 w (LW_tbl w h)
  have hNw : XNw s := ⟨fun w hw => va_Nw.of (NW_on w hw) (hts0 w (NW_tbl w hw)), va_AO.of (hts0 _ nwt_ao)⟩
  have C : XC E (p, l, e, room_1, s, m, #[Value.ref b], below, meth, c, lw_Z below #[Value.ref b] s) cL_law 4 RL ret 11 414 600000 7302250 := ⟨hx, hb, hml, hown, hts, hr, hlocks, hK, Nat.le_of_eq hE, hNw, rfl⟩
  have hJ : LJ E (p, l, e, room_1, s, m, #[Value.ref b], below, meth, c, lw_Z below #[Value.ref b] s) b L xs := ⟨hX, hbl, by rw [hE]; omega, hL⟩
  have key := law_walk0 C hJ (fun _ => .inr (0, [])) (fun G L => x_lret hx hb hr hlocks hE (by omega) (by omega) dL_law_696)
  rw [lg_entry_eq]
  exact key s.heap [] _ hE.symm (by rw [wl_nil]; exact fun k q h => by simp at h) va_S.rf (lv_entry [Value.ref b] (Nat.le_of_ble_eq_true rfl))
set_option maxHeartbeats 4000000 in
theorem lw_walk (l : Launch) (hflags : l.flags = flags0) (b : Addr) (xs : List Int32) : MetFree l x (headSpec (Jvm.Cond.code x code maxLocals ret :: tables_1) room_1) (lw_P b xs) (fun _ _ _ _ _ => True) lw_Q := by
  refine MetFree.of_bodyS (code := code) (maxLocals := maxLocals) (ret := ret) (by decide) ?_ ?_
  · intro args s m h hn
    obtain ⟨meth, c, h1, h2, h3, h4, h5, h6, -, -⟩ := Cond.code_spec hn (atoms_spec (ws := Jvm.Cond.code x code maxLocals ret :: tables_1) h _ List.mem_cons_self)
    exact ⟨meth, c, h1, h2, h3, h4, h5, h6⟩
  · intro p e s m args below meth c s₁ B hml0 hP _
    obtain ⟨rfl, hx, hbd, hgv⟩ := hP
    obtain ⟨scr, harrAt, hlist, hof, hsmall⟩ := hx
    obtain ⟨hcb, hkn, -, -⟩ := State.arrayAt?_spec harrAt
    have hown : s.vm.findClass R_law = some m.cls := findClass_of_methodNamed B.named
    have hts0 : ∀ c ∈ (Jvm.Cond.code x code maxLocals ret :: tables_1), c.before #[Value.ref b] s = true := atoms_spec (ws := Jvm.Cond.code x code maxLocals ret :: tables_1) B.pre
    have hts : ∀ w ∈ lw_tbl, w.before #[Value.ref b] s = true := k2_hts_sels lw_privs (fun w hw => hts0 w (List.mem_cons_of_mem _ hw)) lw_privs_ok
    have hml : c.maxLocals = 4 := B.maxLocals_eq (hts0 _ List.mem_cons_self)
    have X₀ : Stand p l e room_1 s m #[Value.ref b] below meth c s₁ [] 0 0 := Stand.of_body B
    have hh0 : s₁.heap = s.heap := by rw [B.state]; rfl
    have hsz : scr.slots.size = xs.length := by rw [← Array.length_toList, hlist, List.length_map]
    have hval : ∀ j : Nat, j < xs.length → scr.slots[j]? = some (.int (xs.getD j 0)) := fun j hj => by
      rw [← Array.getElem?_toList, hlist]
      simp [hj]
    have hbl : b < s.heap.size := (Array.getElem?_eq_some_iff.mp hcb).1
    have hX : va_X b xs.length (fun j => xs.getD j 0) s s.heap := ⟨scr, hcb, hof, hkn, hsz, hval⟩
    have K : W p l e room_1 s m #[Value.ref b] below meth c s₁.heap [] 0 0 (lw_Z below #[Value.ref b] s) (entryFrame m ([Value.ref b] : List Value).toArray 4) := by
      rw [hh0]
      exact whole_start l hflags hbd ⟨B.exec, B.bytes, B.returns, hml, hown, hts, hX, hbl, B.notSynchronized, hgv⟩
    obtain ⟨t, a1, o, b1, b2, b3⟩ := K s₁ rfl X₀
    exact ⟨t, o, a1, b1, b2, b3⟩
theorem lw_pre_spec {args : Array Value} {s : State} (h : (Jvm.Cond.and given_1 narrow_1).before args s = true) (hr : rest_1_c.before args s = true) : ∃ (b : Addr) (xs : List Int32), lw_P b xs args s := by
  have hs := flat_of_before _ h
  have hq := flat_of_before _ hr
  have hc : (Cond.count 1).before args s = true := hs _ (by decide +kernel)
  have harr : (Cond.arrayOf (.arg 0) .int).before args s = true := hs _ (by decide +kernel)
  have hle : (Cond.le (.length (.arg 0)) (.int 2048)).before args s = true := hs _ (by decide +kernel)
  have hlen : (Cond.isInt (.length (.arg 0))).before args s = true := hq _ (by decide +kernel)
  have hall : (Cond.all (.arg 0) (.isInt (.elem (.arg 0) (.index 0)))).before args s = true := hq _ (by decide +kernel)
  obtain ⟨b, xs, hb, hx⟩ := State.ints_of_pre rfl harr hlen hall
  have hsm : xs.length < 2 ^ 31 := hx.choose_spec.2.2.2
  have hev : (Term.length (.arg 0)).eval args s none [] s = some (.int xs.length.toInt32) := hx.length_eval hb
  have hv := Cond.le_ints hev (show (Term.int 2048).eval args s none [] s = some (.int 2048) from rfl)
  have hd : xs.length.toInt32 ≤ 2048 := by
    simpa [Cond.before, Cond.holds, hv] using hle
  have hN : xs.length ≤ 2048 := (Int32.ofNat_le_ofNat hsm (by decide)).mp (show Int32.ofNat xs.length ≤ Int32.ofNat 2048 from hd)
  exact ⟨b, xs, Cond.one_arg hc (show args[0]? = some (.ref b) from hb), hx, hN, h⟩
theorem lw_comes (l : Launch) (hflags : l.flags = flags0) : Comes l x (Jvm.Cond.code x code maxLocals ret :: tables_1) room_1 (fun tb e args s => Calls_1 tb e args s ∧ rest_1 tb e args s ∧ Pre_1 tb e args s)
    (fun _ _ args s o t => lw_Q args s o t) := by
  intro p e ha hc hk s m args below hf hfit hheap happ hpre
  obtain ⟨b, xs, hP⟩ := lw_pre_spec hpre.2.2 hpre.2.1
  obtain ⟨k, o, h1, h2, h3, hQ⟩ := lw_walk l hflags b xs p e ha hc hk s m args below hf ((Spec.applies_iff_loose hf).mp happ).1 hP trivial
  exact ⟨k, o, h1, h2, h3, hQ⟩
theorem lw_frame {s t : State} {o : Outcome} {args : Array Value} (h : State.butDraws s t lw_cs (fun t1 => Framed s o t1 [] 600000 7302250)) :
    State.butDraws s t [Jvm.Choice.named "NaN.bits"] (fun t1 => Framed s o t1 (fieldLocs frame_1_writes args s ++ arrayLocs frame_1_arrays args s ++ staticLocs frame_1_statics s) 600000 7302250) := h
theorem lw_limb (L : Cond) (hL : ∀ (args : Array Value) (s t : State), L.after args s (.returned (some (.int 1))) t = true) :
    ArmFor flags0 classFile x code maxLocals ret World_1 tables_1 room_1 Calls_1 rest_1 Pre_1
      (fun tb e a s o t => postC L tb e a s o t ∧ State.butDraws s t [Jvm.Choice.named "NaN.bits"] (fun t1 => Framed s o t1 (fieldLocs frame_1_writes a s ++ arrayLocs frame_1_arrays a s ++ staticLocs frame_1_statics s) 600000 7302250)) := by
  intro l hflags _ _ p e ha hc hk s m args below hf hfit hheap happ hpre
  obtain ⟨k, o, h1, h2, h3, rfl, hF⟩ := lw_comes l hflags p e ha hc hk s m args below hf hfit hheap happ hpre
  exact ⟨k, _, h1, h2, h3, hL args s _, lw_frame hF⟩
theorem i_vc : Claimed_1_1 ∧ Claimed_1_2 := ⟨lw_limb limb_1_1 (fun args s t => by simp [limb_1_1, Cond.after, Cond.holds, Cond.value]), lw_limb limb_1_2 (fun args s t => Cond.after_iff.mpr (by
  first | (rw [show limb_1_2 = Cond.eq .result (.int 1) from rfl, Cond.eq_ints (x := 1) (y := 1) rfl rfl]; simp; done) | (simp [limb_1_2, Cond.value, Term.eval]; done)))⟩
