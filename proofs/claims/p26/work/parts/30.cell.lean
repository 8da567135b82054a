/-! ===== the law: rows over the script, its end ===== -/
/-! THE CLAIM OUT OF ONE WALK OF THE LAW'S BODY. Your part is whole_start (and what it stands on); all else here is the same for every law, but numbers. -/
def R_law : String := "SharedEchoesLaw"
def lw_P (b : Addr) (xs : List Int32) (args : Array Value) (s : State) : Prop := args = #[.ref b] ∧ s.IntsAt b xs ∧ xs.length ≤ 260 ∧ (Jvm.Cond.and given_1 narrow_1).before args s = true
/-- what a walk over the start with the record d0 says of its end, said of the start itself -/
theorem lw_closed {s t : State} {o : Outcome} {d0 : Drawn} {L : List Loc} {k n : Nat} (hd0 : s.drawn.sameBut d0 lw_cs) (hv : ∃ v, o = .returned v) (hW : (s.setDrawn d0).WarmedH t.vm) (hs : (s.setDrawn d0).sameButNew ({ t with vm := s.vm } : State) L k n) : State.butDraws s t lw_cs (fun t1 => Framed s o t1 L k n) := by
  have h2 : t.drawn = d0 := congrArg State.drawn hs.1
  refine ⟨⟨hv, hW, State.sameButNew.setDrawn hs s.drawn⟩, ?_, by decide⟩
  rw [h2]
  exact hd0
def lw_Q (_ : Array Value) (s : State) (o : Outcome) (t : State) : Prop := o = .returned (some (.int 1)) ∧ State.butDraws s t lw_cs (fun t1 => Framed s o t1 [] 600000 7302250)
def lw_Z (below : List Frame) (a : Array Value) (s : State) : State → Prop := fun t => ∃ o, t.status = .running ∧ Ended t below o ∧ lw_Q a s o t
/-- the law's own end, with 1 on the stack, nothing written that was there before, its room as the claim has it; d0: the record of draws at this point (at the entry s.drawn: begin with 'refine W.base ?_' and 'have hd0 := Drawn.sameBut.refl s.drawn lw_cs') -/
theorem lw_ret {p : Program} {l : Launch} {e : Env} {s : State} {m : MethodId} {below : List Frame} {meth : Method} {c : Code} {b : Nat} {d0 : Drawn} (hd0 : s.drawn.sameBut d0 lw_cs) (hx : p.tables.exec = Jvm.exec) (hb : c.code = code) (hr : meth.sig.returnType = ret) (hlocks : meth.locks = false) {pc : Nat} {H : Heap} {ls : Array Slot} (hdg : decode code pc = .ok (.ireturn, 1)) : W p l e room_1 (s.setDrawn d0) m #[Value.ref b] below meth c H [] 600000 7302250 (lw_Z below #[Value.ref b] s) (F0 m pc ls [.int 1]) := by
  intro T hT X
  obtain ⟨fs, hret, hrun, hended, hW, hframe⟩ := X.leave (v := some (.int 1)) (hlocks := hlocks) (fun h => by rw [hr] at h; cases h)
  have hmeth' : T.vm.method? m = some meth := X.method'
  refine ⟨T.setFrames fs, ?_, .returned (some (.int 1)), hrun, hended, rfl, lw_closed hd0 ⟨_, rfl⟩ hW hframe⟩
  jvm_step X.here [X.here.top, hx, hb, hdg, hmeth', hr, ret, narrow_b1]
  (try refine ⟨rfl, ?_⟩); (try refine ⟨rfl, ?_⟩)
  first | (intro acts; rw [hret _ acts rfl rfl rfl]) | rw [hret _ _ rfl rfl rfl]
  exact Steps.refl _
/-- what holds at the law's entry: the machine, the code, the tables' words (any of lw_tbl by 'hts w (by decide +kernel)'), the script of L ints xs at the cell b, what the Statement gives of the start (any of its parts by flat_of_before) -/
def lw_At (p : Program) (s : State) (m : MethodId) (meth : Method) (c : Code) (b L : Nat) (xs : Nat → Int32) : Prop :=
  p.tables.exec = Jvm.exec ∧ c.code = code ∧ meth.sig.returnType = ret ∧ c.maxLocals = 19 ∧ s.vm.findClass R_law = some m.cls ∧ (∀ w ∈ lw_tbl, w.before #[Value.ref b] s = true) ∧ va_X b L xs s s.heap ∧ b < s.heap.size ∧ meth.locks = false ∧ (Jvm.Cond.and given_1 narrow_1).before #[Value.ref b] s = true
theorem lp_in {n N : Nat} (h : n < N) (hN : N ≤ 2048) : vp_in (nI n) N := vp_in_nI h (by omega)
/-- what holds of the script all the while -/
def LJ (E : XE) (K : XK) (b Ln : Nat) (xs : Nat → Int32) : Prop := va_X b Ln xs K.2.2.2.2.1 K.2.2.2.2.1.heap ∧ b < K.2.2.2.2.1.heap.size ∧ ¬ xB E ≤ b ∧ Ln ≤ 2048
theorem x_sld {E : XE} {K : XK} {nL N cells slots : Nat} {G : GW} {pc : Nat} {L : List (Nat × Value)} {st : List Value} {cc : ByteArray} {own : String} {rt : Option FieldType} {fr lo mc ms : Nat} (C : XC E K cc nL own rt fr lo mc ms) {b Ln : Nat} {xs : Nat → Int32} (hJ : LJ E K b Ln xs) {j : Nat} (hj : j < Ln) (hd : decode cc pc = .ok (.iaload, 1)) (k : XW E K nL N cells slots G (pc + 1) L (.int (xs j) :: st)) : XW E K nL N cells slots G pc L (.int (nI j) :: .ref b :: st) := by
  obtain ⟨p, l, e, R, s, m, args, below, meth, c, Q⟩ := K
  obtain ⟨hx, hb, hml, hown, hts, hr, hlk, hK, hB, hNw, hR⟩ := C
  obtain ⟨hX, hbl, hbB, hLn⟩ := hJ
  intro H locs ls h1 h2 h3 h4
  have k2 := k H locs ls h1 h2 h3 h4
  refine va_sld hx hb hX hbl hbB h3 (lp_in hj hLn) hd ?_
  rw [nI_clamp (by omega)]
  exact k2
theorem x_slen {E : XE} {K : XK} {nL N cells slots : Nat} {G : GW} {pc : Nat} {L : List (Nat × Value)} {st : List Value} {cc : ByteArray} {own : String} {rt : Option FieldType} {fr lo mc ms : Nat} (C : XC E K cc nL own rt fr lo mc ms) {b Ln : Nat} {xs : Nat → Int32} (hJ : LJ E K b Ln xs) (hd : decode cc pc = .ok (.arraylength, 1)) (k : XW E K nL N cells slots G (pc + 1) L (.int (nI Ln) :: st)) : XW E K nL N cells slots G pc L (.ref b :: st) := by
  obtain ⟨p, l, e, R, s, m, args, below, meth, c, Q⟩ := K
  obtain ⟨hx, hb, hml, hown, hts, hr, hlk, hK, hB, hNw, hR⟩ := C
  obtain ⟨hX, hbl, hbB, hLn⟩ := hJ
  intro H locs ls h1 h2 h3 h4
  exact va_slen hx hb hX hbl hbB h3 hd (k H locs ls h1 h2 h3 h4)
theorem x_lret {E : XE} {p : Program} {l : Launch} {e : Env} {s : State} {m : MethodId} {below : List Frame} {meth : Method} {c : Code} {b nL N cells slots : Nat} {G : GW} {pc : Nat} {L : List (Nat × Value)} (hx : p.tables.exec = Jvm.exec) (hb : c.code = code) (hr : meth.sig.returnType = ret) (hlk : meth.locks = false) (hE : xB E = s.heap.size) (hcl : cells ≤ 600000) (hsl : slots ≤ 7302250) (hd : decode code pc = .ok (.ireturn, 1)) : XW E (p, l, e, room_1, s, m, #[Value.ref b], below, meth, c, lw_Z below #[Value.ref b] s) nL N cells slots G pc L [.int 1] := by
  intro H locs ls h1 h2 h3 h4
  refine va_forget (fun q hq => ?_) ?_
  · have h := h3.2.2 q hq
    show s.heap.size ≤ q.base
    rw [← hE]
    exact h
  refine W.widen (k := 600000) (n := 7302250) hcl hsl ?_
  refine W.base ?_
  exact lw_ret (Drawn.sameBut.refl s.drawn lw_cs) hx hb hr hlk hd
theorem x_runX {E : XE} {K : XK} {nL N cells slots : Nat} {G G' : GW} {pc : Nat} {L : List (Nat × Value)} {st0 rest : List Value} {mc' ms' : Nat} {res : Option Value} {a : Array Value} (hB : xB E ≤ K.2.2.2.2.1.heap.size)
    (hr : ∀ (H : Heap) (locs : List Loc) (ls : Array Slot), H.size = N → va_P E.1 vwCl (wl E N G) H → va_S (fun q => xB E ≤ q) K.2.2.2.2.1.heap H locs → lv_has ls nL L → va_Run K.1 K.2.1 K.2.2.1 K.2.2.2.1 K.2.2.2.2.1 K.2.2.2.2.2.1 K.2.2.2.2.2.2.1 K.2.2.2.2.2.2.2.1 K.2.2.2.2.2.2.2.2.1 K.2.2.2.2.2.2.2.2.2.1 H locs cells slots mc' ms' (F0 K.2.2.2.2.2.1 pc ls st0) rest (XQ E (N + mc') res G' a) (fun q => xB E ≤ q))
    (k : XW E K nL (N + mc') (cells + mc') (slots + ms') G' (pc + 3) L (res.toList ++ rest)) : XW E K nL N cells slots G pc L st0 := by
  obtain ⟨p, l, e, R, s, m, args, below, meth, c, Q⟩ := K
  intro H locs ls h1 h2 h3 h4 T hT X
  have hz : H.size = N := x_size X hT h1 hB h2
  obtain ⟨v, st₀, t, T', L', h0, X', hL, e1, e2, ⟨q1, q2, q3, q4, q5⟩, hgo⟩ := hr H locs ls hz h2 h3 h4 T hT X
  cases q1
  rw [h0] at q4 q5
  have h3' : va_S (fun q => xB E ≤ q) s.heap T'.heap (locs ++ L') := ⟨Nat.le_trans h3.1 (by rw [e1]; exact q4), fun q w1 w2 => by rw [e1, q5 q (Nat.lt_of_lt_of_le w1 h3.1) w2]; exact h3.2.1 q w1 w2, fun q hq => by
    rcases List.mem_append.mp hq with h | h
    · exact h3.2.2 q h
    · exact hL q h⟩
  have h1' : s.heap.size + cells = N := h1
  obtain ⟨t2, a1, b1⟩ := k T'.heap (locs ++ L') ls (by show s.heap.size + (cells + mc') = N + mc'; omega) (by rw [e1]; exact q3) h3' h4 T' rfl X'
  exact ⟨t2, hgo t2 a1, b1⟩
/-- a contract of a method that reads the script, too -/
def MX (E : XE) (b Ln : Nat) (xs : Nat → Int32) (y : MethodName) (cc : ByteArray) (maxL : Nat) (ret : Option FieldType) (fr lo mc ms : Nat) (As : List Value) (N : Nat) (G : GW) (res : Option Value) (G' : GW) : Prop :=
  ∀ l : Launch, Met l y (Cond.code y cc maxL ret :: LW) ({ frames := fr, cells := mc, slots := ms, locals := lo }) (va_Pc As (fun U => XPre E N G U ∧ va_X b Ln xs U U.heap)) (XQ E (N + mc) res G') mc ms (fun q => xB E ≤ q)
theorem x_preX {E : XE} {N b Ln : Nat} {xs : Nat → Int32} {G : GW} (As : List Value) : FrameBlind (va_Pc As (fun U => XPre E N G U ∧ va_X b Ln xs U U.heap)) := fun a U g mk q => ⟨q.1, ⟨q.2.1.1, q.2.1.2.1, q.2.1.2.2.1.calling, q.2.1.2.2.2.1, va_K.moved (u := U) (U := U.calling g mk a) (Vm.Alike.refl U.vm) q.2.1.2.2.2.2⟩, va_X.moved (u := U) (U := U.calling g mk a) (Vm.Alike.refl U.vm) q.2.2⟩
theorem MX.mk {E : XE} {b Ln : Nat} {xs : Nat → Int32} {y : MethodName} {cc : ByteArray} {maxL : Nat} {ret : Option FieldType} {fr lo mc ms : Nat} {As : List Value} {N : Nat} {G : GW} {res : Option Value} {G' : GW} (hbB : ¬ xB E ≤ b) (hLn : Ln ≤ 2048) (own : String) (ho : y.cls = own) (hy : plainFor y = true) (hn : Nat.ble (lg_sl As).length maxL = true)
    (h : ∀ K : XK, XC E K cc maxL own ret fr lo mc ms → XZ E K (N + mc) mc ms res G' → LJ E K b Ln xs → xB E ≤ N → XW E K maxL N 0 0 G 0 (lv_args 0 As) []) : MX E b Ln xs y cc maxL ret fr lo mc ms As N G res G' := by
  subst ho
  intro l
  refine x_ofW (cc := cc) (maxL := maxL) (ret := ret) hy rfl ?_
  intro p e s m args below meth c s₁ B hml hv
  obtain ⟨rfl, ⟨hBN, hsz, hnw, hP, hK⟩, hX⟩ := hv
  have hbl : b < s.heap.size := by
    obtain ⟨scr, e1, e2⟩ := hX
    exact (Array.getElem?_eq_some_iff.mp e1).1
  have hts : ∀ w ∈ (Cond.code y cc maxL ret :: LW), w.before _ s = true := atoms_spec (ws := Cond.code y cc maxL ret :: LW) B.pre
  have h1 := h (p, l, e, (headSpec (Cond.code y cc maxL ret :: LW) { frames := fr, cells := mc, slots := ms, locals := lo }).room, s, m, As.toArray, below, meth, c, MQ below (XQ E (N + mc) res G') As.toArray s mc ms (fun q => xB E ≤ q))
    ⟨B.exec, B.bytes, hml, findClass_of_methodNamed B.named, fun w hw => hts w (List.mem_cons_of_mem _ hw), B.returns, B.notSynchronized, hK, (show xB E ≤ s.heap.size by omega), hnw, rfl⟩ rfl ⟨hX, hbl, hbB, hLn⟩ hBN
  rw [lg_entry_eq]
  exact h1 s.heap [] _ hsz hP va_S.rf (lv_entry As (Nat.le_of_ble_eq_true hn))
theorem x_callSX {E : XE} {K : XK} {nL N cells slots : Nat} {G : GW} {pc : Nat} {L : List (Nat × Value)} {st : List Value} {cc : ByteArray} {own : String} {ret : Option FieldType} {fr lo mc ms : Nat} (C : XC E K cc nL own ret fr lo mc ms) {b Ln : Nat} {xs : Nat → Int32} (hJ : LJ E K b Ln xs) {index n : Nat} {y : MethodName} {bytes : ByteArray} {maxL' : Nat} {ret' : Option FieldType} {fr' lo' mc' ms' : Nat} {As : List Value} {G' : GW} {res : Option Value} {st0 : List Value} (hM : MX E b Ln xs y bytes maxL' ret' fr' lo' mc' ms' As N G res G') (hl : XS own index y bytes maxL' ret' n) (hN : xB E ≤ N) (hR9 : XR fr lo mc ms cells slots fr' lo' maxL' mc' ms' = true) (hn : As.length = n) (hw : Nat.ble ((st.map fun v => v.category).sum) 8 = true) (hst : st0 = As.reverse ++ st) (hd : decode cc pc = .ok (.invokestatic index, 3)) (k : XW E K nL (N + mc') (cells + mc') (slots + ms') G' (pc + 3) L (res.toList ++ st)) : XW E K nL N cells slots G pc L st0 := by
  have hR9 := XR.of hR9
  have C0 := C
  obtain ⟨p, l, e, R, s, m, args, below, meth, c, Q⟩ := K
  obtain ⟨hX, hbl, hbB, hLn⟩ := hJ
  obtain ⟨hx, hb, hml, hown, hts, hr, hlk, hK, hB, hNw, hR⟩ := C
  subst hR
  refine x_runX (a := As.toArray) (rest := st) hB (fun H locs ls h1 h2 h3 h4 => ?_) k
  obtain ⟨w1, w2, w4, w5, w6, w7, w8⟩ := hl
  exact va_runS (nL := nL) (As := As) (rest := st) (n := n) (bytes := bytes) (maxL := maxL') (ret := ret') ⟨hx, hb, hml, hown, hts⟩ (hM l) ⟨callB_of n hts (x_good w5) rfl rfl rfl (hts _ w4) (hts _ w1) ⟨w6, w7, w8⟩ hR9.1, hts _ w2⟩ ⟨x_preX _, fun U hU hW => ⟨rfl, ⟨hN, by rw [hU]; exact h1, hNw.warm hW, by rw [hU]; exact h2, va_K.moved hW.alike hK⟩, by rw [hU]; exact (va_X.moved hW.alike hX).kept (h3.2.1 b hbl hbB)⟩⟩ rfl hn h4.1 hst (lv_room (Nat.le_of_ble_eq_true hw)) hd hR9.2
/-! ===== the law's method cell ===== -/
def cA (xs : Nat → Int32) (Ln k : Nat) : Int32 := if k < Ln then xs k else nI (27191 * k + 113)
def cV (xs : Nat → Int32) (Ln k : Nat) : Nat := (cA xs Ln k).toBitVec.toNat % 2 ^ 31
theorem cV_lt (xs : Nat → Int32) (Ln k : Nat) : cV xs Ln k < 2 ^ 31 := Nat.mod_lt _ (by decide)
theorem cV_eq (xs : Nat → Int32) (Ln k : Nat) : cA xs Ln k &&& 2147483647 = nI (cV xs Ln k) := pk_and _ 31 (by decide +kernel)
set_option maxRecDepth 100000 in
set_option maxHeartbeats 4000000 in
theorem c_cell (E : XE) (N : Nat) (G : GW) {b Ln : Nat} (xs : Nat → Int32) (hbB : ¬ xB E ≤ b) (hLn : Ln ≤ 2048) (k : Nat) (hk : k ≤ 40) : MX E b Ln xs yL_cell cL_cell 2 (some .int) 0 0 0 0 [.ref b, .int (nI k)] N G (some (.int (nI (cV xs Ln k)))) G := by
  refine MX.mk hbB hLn RL rfl (by decide +kernel) rfl (fun K C Z hJ hN => ?_)
  show XW E K 2 N 0 0 G 0 [(0, .ref b), (1, .int (nI k))] []
  refine x_iload_n C dL_cell_0 1 rfl ?_
  refine x_aload_n C dL_cell_1 0 rfl ?_
  refine x_slen C hJ dL_cell_2 ?_
  suffices hj1 : XW E K 2 N 0 0 G 24 [(0, .ref b), (1, .int (nI k))] [.int (cA xs Ln k)] by
    refine x_icmp_ge C 12 dL_cell_3 rfl (fun c => ?_) (fun c => ?_)
    · refine x_sipush C 27191 dL_cell_12 rfl ?_
      refine x_iload_n C dL_cell_15 1 rfl ?_
      refine x_sipush C 4096 dL_cell_16 rfl ?_
      refine x_irem C dL_cell_19 (by decide) ?_
      refine x_v (w := .int (nI (k % 4096))) (congrArg Value.int (n_rm (n := 4096) rfl (by omega) (by decide) (by omega))) ?_
      rw [show k % 4096 = k by omega]
      refine x_imul C dL_cell_20 ?_
      refine x_bipush C 113 dL_cell_21 rfl ?_
      refine x_iadd C dL_cell_23 ?_
      exact x_v (congrArg Value.int ((show (27191 : Int32) * nI k + 113 = cA xs Ln k from by
          have e : ¬ k < Ln := fun z => nI_ge z (by omega) c
          unfold cA
          rw [if_neg e, show (27191 : Int32) = nI 27191 from rfl, n_mul, show (113 : Int32) = nI 113 from rfl, nI_add]))) hj1
    · refine x_aload_n C dL_cell_6 0 rfl ?_
      refine x_iload_n C dL_cell_7 1 rfl ?_
      have hk2 : k < Ln := Nat.lt_of_not_le (fun z => c (nI_le z (by omega)))
      refine x_sld C hJ hk2 dL_cell_8 ?_
      refine x_goto C 24 dL_cell_9 rfl ?_
      exact x_v (congrArg Value.int ((show xs k = cA xs Ln k from (if_pos hk2).symm))) hj1
  refine x_ldc C 2147483647 m_396 dL_cell_24 ?_
  refine x_iand C dL_cell_26 ?_
  refine x_v (w := .int (nI (cV xs Ln k))) (congrArg Value.int (cV_eq xs Ln k)) ?_
  exact x_iret C Z rfl rfl rfl rfl dL_cell_27
