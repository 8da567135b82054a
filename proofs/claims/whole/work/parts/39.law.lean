/-! ===== the law: rows over the script, its end ===== -/
/-! THE CLAIM OUT OF ONE WALK OF THE LAW'S BODY. Your part is whole_start (and what it stands on); all else here is the same for every law, but numbers. -/
def R_law : String := "SharedEchoesLaw"
def lw_P (b : Addr) (xs : List Int32) (args : Array Value) (s : State) : Prop := args = #[.ref b] ∧ s.IntsAt b xs ∧ xs.length ≤ 2048 ∧ (Jvm.Cond.and given_1 narrow_1).before args s = true
/-- what a walk over the start with the record d0 says of its end, said of the start itself -/
theorem lw_closed {s t : State} {o : Outcome} {d0 : Drawn} {L : List Loc} {k n : Nat} (hd0 : s.drawn.sameBut d0 lw_cs) (hv : ∃ v, o = .returned v) (hW : (s.setDrawn d0).WarmedH t.vm) (hs : (s.setDrawn d0).sameButNew ({ t with vm := s.vm } : State) L k n) : State.butDraws s t lw_cs (fun t1 => Framed s o t1 L k n) := by
  have h2 : t.drawn = d0 := congrArg State.drawn hs.1
  refine ⟨⟨hv, hW, State.sameButNew.setDrawn hs s.drawn⟩, ?_, by decide⟩
  rw [h2]
  exact hd0
def lw_Q (_ : Array Value) (s : State) (o : Outcome) (t : State) : Prop := o = .returned (some (.int 1)) ∧ State.butDraws s t lw_cs (fun t1 => Framed s o t1 [] 600000 7302250)
def lw_Z (below : List Frame) (a : Array Value) (s : State) : State → Prop := fun t => ∃ o, t.status = .running ∧ Ended t below o ∧ lw_Q a s o t
/-- the law's own end, with 1 on the stack, nothing written that was there before, its room as the claim has it; d0: the record of draws at this point (at the entry s.drawn: begin with 'refine W.base ?_' and 'have hd0 := Drawn.sameBut.refl s.drawn lw_cs') -/
theorem lw_ret {p : Program} {l : Launch} {e : Env} {s : State} {m : MethodId} {below : List Frame} {meth : Method} {c : Code} {b : Nat} {d0 : Drawn} (hd0 : s.drawn.sameBut d0 lw_cs) (hx : p.tables.exec = Jvm.exec) (hb : c.code = code) (hr : meth.sig.returnType = ret) (hlocks : meth.locks = false) {pc : Nat} {H : Heap} {ls : Array Slot} (hdg : decode code pc = .ok (.ireturn, 1)) : W p l e room_1 (s.setDrawn d0) m #[Value.ref b] below meth c H [] 600000 7302250 (lw_Z below #[Value.ref b] s) (F0 m pc ls [.int 1]) := by
  intro T hT X
  obtain ⟨fs, hret, hrun, hended, hW, hframe⟩ := X.leave (v := some (.int 1)) (hlocks := hlocks) (fun h => by rw [hr] at h; cases h)
  have hmeth' : T.vm.method? m = some meth := X.method'
  refine ⟨T.setFrames fs, ?_, .returned (some (.int 1)), hrun, hended, rfl, lw_closed hd0 ⟨_, rfl⟩ hW hframe⟩
  jvm_step X.here [X.here.top, hx, hb, hdg, hmeth', hr, ret, narrow_b1]
  (try refine ⟨rfl, ?_⟩); (try refine ⟨rfl, ?_⟩)
  first | (intro acts; rw [hret _ acts rfl rfl rfl]) | rw [hret _ _ rfl rfl rfl]
  exact Steps.refl _
/-- what holds at the law's entry: the machine, the code, the tables' words (any of lw_tbl by 'hts w (by decide +kernel)'), the script of L ints xs at the cell b, what the Statement gives of the start (any of its parts by flat_of_before) -/
def lw_At (p : Program) (s : State) (m : MethodId) (meth : Method) (c : Code) (b L : Nat) (xs : Nat → Int32) : Prop :=
  p.tables.exec = Jvm.exec ∧ c.code = code ∧ meth.sig.returnType = ret ∧ c.maxLocals = 4 ∧ s.vm.findClass R_law = some m.cls ∧ (∀ w ∈ lw_tbl, w.before #[Value.ref b] s = true) ∧ va_X b L xs s s.heap ∧ b < s.heap.size ∧ meth.locks = false ∧ (Jvm.Cond.and given_1 narrow_1).before #[Value.ref b] s = true
theorem lp_in {n N : Nat} (h : n < N) (hN : N ≤ 2048) : vp_in (nI n) N := vp_in_nI h (by omega)
/-- what holds of the script all the while -/
def LJ (E : XE) (K : XK) (b Ln : Nat) (xs : Nat → Int32) : Prop := va_X b Ln xs K.2.2.2.2.1 K.2.2.2.2.1.heap ∧ b < K.2.2.2.2.1.heap.size ∧ ¬ xB E ≤ b ∧ Ln ≤ 2048
theorem x_sld {E : XE} {K : XK} {nL N cells slots : Nat} {G : GW} {pc : Nat} {L : List (Nat × Value)} {st : List Value} {cc : ByteArray} {own : String} {rt : Option FieldType} {fr lo mc ms : Nat} (C : XC E K cc nL own rt fr lo mc ms) {b Ln : Nat} {xs : Nat → Int32} (hJ : LJ E K b Ln xs) {j : Nat} (hj : j < Ln) (hd : decode cc pc = .ok (.iaload, 1)) (k : XW E K nL N cells slots G (pc + 1) L (.int (xs j) :: st)) : XW E K nL N cells slots G pc L (.int (nI j) :: .ref b :: st) := by
  obtain ⟨p, l, e, R, s, m, args, below, meth, c, Q⟩ := K
  obtain ⟨hx, hb, hml, hown, hts, hr, hlk, hK, hB, hNw, hR⟩ := C
  obtain ⟨hX, hbl, hbB, hLn⟩ := hJ
  intro H locs ls h1 h2 h3 h4
  have k2 := k H locs ls h1 h2 h3 h4
  refine va_sld hx hb hX hbl hbB h3 (lp_in hj hLn) hd ?_
  rw [nI_clamp (by omega)]
  exact k2
theorem x_slen {E : XE} {K : XK} {nL N cells slots : Nat} {G : GW} {pc : Nat} {L : List (Nat × Value)} {st : List Value} {cc : ByteArray} {own : String} {rt : Option FieldType} {fr lo mc ms : Nat} (C : XC E K cc nL own rt fr lo mc ms) {b Ln : Nat} {xs : Nat → Int32} (hJ : LJ E K b Ln xs) (hd : decode cc pc = .ok (.arraylength, 1)) (k : XW E K nL N cells slots G (pc + 1) L (.int (nI Ln) :: st)) : XW E K nL N cells slots G pc L (.ref b :: st) := by
  obtain ⟨p, l, e, R, s, m, args, below, meth, c, Q⟩ := K
  obtain ⟨hx, hb, hml, hown, hts, hr, hlk, hK, hB, hNw, hR⟩ := C
  obtain ⟨hX, hbl, hbB, hLn⟩ := hJ
  intro H locs ls h1 h2 h3 h4
  exact va_slen hx hb hX hbl hbB h3 hd (k H locs ls h1 h2 h3 h4)
theorem x_lret {E : XE} {p : Program} {l : Launch} {e : Env} {s : State} {m : MethodId} {below : List Frame} {meth : Method} {c : Code} {b nL N cells slots : Nat} {G : GW} {pc : Nat} {L : List (Nat × Value)} (hx : p.tables.exec = Jvm.exec) (hb : c.code = code) (hr : meth.sig.returnType = ret) (hlk : meth.locks = false) (hE : xB E = s.heap.size) (hcl : cells ≤ 600000) (hsl : slots ≤ 7302250) (hd : decode code pc = .ok (.ireturn, 1)) : XW E (p, l, e, room_1, s, m, #[Value.ref b], below, meth, c, lw_Z below #[Value.ref b] s) nL N cells slots G pc L [.int 1] := by
  intro H locs ls h1 h2 h3 h4
  refine va_forget (fun q hq => ?_) ?_
  · have h := h3.2.2 q hq
    show s.heap.size ≤ q.base
    rw [← hE]
    exact h
  refine W.widen (k := 600000) (n := 7302250) hcl hsl ?_
  refine W.base ?_
  exact lw_ret (Drawn.sameBut.refl s.drawn lw_cs) hx hb hr hlk hd
/-- one of the script's ints is loaded -/
theorem x_arg {E : XE} {K : XK} {N cells slots : Nat} {G : GW} {pc : Nat} {st : List Value} {cc : ByteArray} {own : String} {rt : Option FieldType} {fr lo mc ms : Nat} (C : XC E K cc 4 own rt fr lo mc ms) {b Ln ob mo : Nat} {xs : Nat → Int32} (hJ : LJ E K b Ln xs) {i : Nat} {n : Int} (k : Nat) (hn : Int32.ofInt n = nI k) (hik : i + k < Ln) (d0 : decode cc pc = .ok (.aload_n 0, 1)) (d1 : decode cc (pc + 1) = .ok (.iload_n 3, 1)) (d2 : decode cc (pc + 2) = .ok (.iconst n, 1)) (d3 : decode cc (pc + 3) = .ok (.iadd, 1)) (d4 : decode cc (pc + 4) = .ok (.iaload, 1)) (kk : XW E K 4 N cells slots G (pc + 5) [(3, .int (nI i)), (2, .ref mo), (1, .ref ob), (0, .ref b)] (.int (xs (i + k)) :: st)) : XW E K 4 N cells slots G pc [(3, .int (nI i)), (2, .ref mo), (1, .ref ob), (0, .ref b)] st := by
  refine x_aload_n C d0 3 rfl ?_
  refine x_iload_n C d1 0 rfl ?_
  refine x_iconst C (nI k) d2 hn ?_
  refine x_iadd C d3 ?_
  rw [nI_add]
  exact x_sld C hJ hik d4 kk
abbrev LG (E : XE) (u : QV) (s : Nat → Int32) (su : Nat → Int64) (n : Nat) (tx : Nat → Int32) (ny : Nat) (re ca : Int32) (p : Nat) (to : Nat → Int32) (G0 : GW) : GW := ov (xB E) (qT E (xB E) u) (ov (xB E + 56) (mC E (xB E + 56) s su (nI n) tx (nI ny) re ca (nI p) to) G0)
abbrev LL (E : XE) (b i : Nat) : List (Nat × Value) := [(3, .int (nI i)), (2, .ref (xB E + 56)), (1, .ref (xB E)), (0, .ref b)]
/-- what comes behind a call of the law, for every state that the relation allows -/
def LKK (E : XE) (K : XK) (b i n9 : Nat) (G0 : GW) (c pc : Nat) : Prop := ∀ (u : QV) (s : Nat → Int32) (su : Nat → Int64) (n : Nat) (tx : Nat → Int32) (ny : Nat) (re ca : Int32) (p : Nat) (to : Nat → Int32), RQ u s su n tx ny c → XW E K 4 (xB E + 61) 61 n9 (LG E u s su n tx ny re ca p to G0) pc (LL E b i) []
theorem gok_of {v : SV} {f : Nat → Int32} {S : Int64} {tk fi a : Nat} (h : SR v f S tk fi a) : gOk f tk := by
  refine ⟨h.1.1, h.1.2.1, fun t ht q => ?_⟩
  by_cases h4 : t = 4
  · subst h4
    obtain ⟨-, b1, b2, -, d, b3, b4, b5⟩ := h.2.1
    exact ⟨d, b1.trans b3, b4, b5⟩
  · rcases h.2.1.1 t (by omega) with ⟨e1, e2⟩ | ⟨e1, e2, e3, e4, d, e5, e6, e7⟩
    · rcases q with q | q
      · exact absurd q h4
      · exact absurd (e1.symm.trans q) (by decide)
    · exact ⟨d, e2.trans e5, e6, e7⟩
theorem hB_of {v : SV} {s : Nat → Int32} {S : Int64} {tk fi a : Nat} (h : SR v (sl s 0) S tk fi a) : ∀ t, t < 4 → s (65 + t) = 0 ∨ s (65 + t) = 1 := fun t ht => by
  have q := h.2.1.1 t ht
  rw [sl0] at q
  exact q.imp (fun z => z.1) (fun z => z.1)
theorem hno_of {v : SV} {s : Nat → Int32} {S : Int64} {tk fi a : Nat} (h : SR v (sl s 0) S tk fi a) : ∃ no, s 97 = nI no ∧ no ≤ 12 := by
  obtain ⟨ne, ko, e1, e2, e3, e4, e5, e6⟩ := h.2.2.2.2.1
  rw [sl0] at e5
  exact ⟨ko, e5, e4⟩
theorem nI_nn {k : Nat} (h : k ≤ 1000) {x : Int32} (e : x = nI k) : ¬ x < 0 := by
  rw [e]
  exact (nn_nI (by omega)).1
