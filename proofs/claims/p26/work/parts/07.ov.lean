/-! ===== overlays: a row of cells laid over a world ===== -/
def ov (b : Nat) (cs : List va_E) (G : GW) : GW := fun q => if b ≤ q then (match cs[q - b]? with | some e => e | none => G q) else G q
theorem ov_at {b i : Nat} {cs : List va_E} {G : GW} {e : va_E} (h : cs[i]? = some e) : ov b cs G (b + i) = e := by
  unfold ov
  rw [if_pos (Nat.le_add_right b i), Nat.add_sub_cancel_left, h]
theorem ov_out {b q n : Nat} {cs : List va_E} {G : GW} (hn : cs.length = n) (h : q < b ∨ b + n ≤ q) : ov b cs G q = G q := by
  unfold ov
  by_cases hq : b ≤ q
  · rw [if_pos hq, List.getElem?_eq_none (by omega)]
  · rw [if_neg hq]
theorem ov_in {b q : Nat} {cs : List va_E} {G : GW} {e : va_E} (hq : b ≤ q) (h : cs[q - b]? = some e) : ov b cs G q = e := by
  unfold ov
  rw [if_pos hq, h]
theorem ov_set {b i : Nat} {cs cs' : List va_E} {G : GW} {e : va_E} (hi : Nat.blt i cs.length = true) (h : cs.set i e = cs') : gup (ov b cs G) (b + i) e = ov b cs' G := by
  have hi := Nat.le_of_ble_eq_true hi
  subst h
  funext q
  by_cases hq : q = b + i
  · subst hq
    rw [ov_at (List.getElem?_set_self hi)]
    simp [gup]
  · show (if q = b + i then e else ov b cs G q) = _
    rw [if_neg hq]
    unfold ov
    by_cases h2 : b ≤ q
    · rw [if_pos h2, if_pos h2, List.getElem?_set_ne (by omega)]
    · rw [if_neg h2, if_neg h2]
theorem ov_push {b N : Nat} {cs cs' : List va_E} {G : GW} {e : va_E} (hN : N = b + cs.length) (h : cs ++ [e] = cs') : gup (ov b cs G) N e = ov b cs' G := by
  subst h
  funext q
  by_cases hq : q = N
  · subst hq
    rw [hN, ov_at (by rw [List.getElem?_append_right (Nat.le_refl _), Nat.sub_self]; rfl)]
    simp [gup]
  · show (if q = N then e else ov b cs G q) = _
    rw [if_neg hq]
    unfold ov
    by_cases h2 : b ≤ q
    · rw [if_pos h2, if_pos h2]
      by_cases h3 : q - b < cs.length
      · rw [List.getElem?_append_left h3]
      · rw [List.getElem?_eq_none (by omega), List.getElem?_eq_none (by simp; omega)]
    · rw [if_neg h2, if_neg h2]
theorem ov_slice {b i n : Nat} {cs sub : List va_E} {G : GW} (h : (cs.drop i).take n = sub) : ov (b + i) sub (ov b cs G) = ov b cs G := by
  funext q
  by_cases hq : b + i ≤ q
  · subst h
    cases hs : ((cs.drop i).take n)[q - (b + i)]? with
    | none =>
      conv => lhs; unfold ov
      rw [if_pos hq, hs]
      rfl
    | some e =>
      have h1 : cs[q - b]? = some e := by
        rw [List.getElem?_take] at hs
        split at hs
        · rw [List.getElem?_drop, show i + (q - (b + i)) = q - b by omega] at hs
          exact hs
        · cases hs
      rw [ov_in hq hs, ov_in (by omega) h1]
  · conv => lhs; unfold ov
    rw [if_neg hq]
    rfl
theorem ov_paste {b i n : Nat} {cs sub cs' : List va_E} {G : GW} (hl : sub.length = n) (hlen : i + n ≤ cs.length) (h : cs.take i ++ (sub ++ cs.drop (i + n)) = cs') : ov (b + i) sub (ov b cs G) = ov b cs' G := by
  subst h
  subst hl
  have ht : (cs.take i).length = i := by rw [List.length_take]; omega
  funext q
  by_cases h1 : b ≤ q
  · by_cases h2 : b + i ≤ q
    · by_cases h3 : q < b + i + sub.length
      · have e1 : sub[q - (b + i)]? = some (sub[q - (b + i)]'(by omega)) := List.getElem?_eq_getElem (by omega)
        rw [ov_in h2 e1, ov_in (e := sub[q - (b + i)]'(by omega)) h1]
        rw [List.getElem?_append_right (by omega), ht, List.getElem?_append_left (by omega), show q - b - i = q - (b + i) by omega]
        exact e1
      · rw [ov_out rfl (by omega)]
        unfold ov
        rw [if_pos h1, if_pos h1]
        rw [List.getElem?_append_right (by omega), ht, List.getElem?_append_right (by omega), List.getElem?_drop, show i + sub.length + (q - b - i - sub.length) = q - b by omega]
    · rw [ov_out rfl (by omega)]
      unfold ov
      rw [if_pos h1, if_pos h1, List.getElem?_append_left (by omega), List.getElem?_take, if_pos (by omega)]
  · rw [ov_out rfl (by omega)]
    unfold ov
    rw [if_neg h1, if_neg h1]
theorem ov_comm {a b n k : Nat} {cs ds : List va_E} {G : GW} (hn : cs.length = n) (hk : ds.length = k) (h : a + n ≤ b ∨ b + k ≤ a) : ov a cs (ov b ds G) = ov b ds (ov a cs G) := by
  funext q
  by_cases h1 : a ≤ q ∧ q < a + n
  · have e1 : cs[q - a]? = some (cs[q - a]'(by omega)) := List.getElem?_eq_getElem (by omega)
    rw [ov_in h1.1 e1, ov_out hk (by omega), ov_in h1.1 e1]
  · rw [ov_out hn (by omega)]
    by_cases h2 : b ≤ q ∧ q < b + k
    · have e1 : ds[q - b]? = some (ds[q - b]'(by omega)) := List.getElem?_eq_getElem (by omega)
      rw [ov_in h2.1 e1, ov_in h2.1 e1]
    · rw [ov_out hk (by omega), ov_out hk (by omega), ov_out hn (by omega)]
theorem ov_ov {b : Nat} {cs ds : List va_E} {G : GW} (h : cs.length = ds.length) : ov b cs (ov b ds G) = ov b cs G := by
  funext q
  by_cases h1 : b ≤ q ∧ q < b + cs.length
  · have e1 : cs[q - b]? = some (cs[q - b]'(by omega)) := List.getElem?_eq_getElem (by omega)
    rw [ov_in h1.1 e1, ov_in h1.1 e1]
  · rw [ov_out rfl (by omega), ov_out rfl (by omega), ov_out rfl (by omega)]
theorem gup_ov {b q n : Nat} {cs : List va_E} {G : GW} {e : va_E} (hn : cs.length = n) (h : q < b ∨ b + n ≤ q) : gup (ov b cs G) q e = ov b cs (gup G q e) := by
  funext z
  by_cases hz : z = q
  · subst hz
    rw [ov_out hn h]
    simp [gup]
  · show (if z = q then e else ov b cs G z) = _
    rw [if_neg hz]
    unfold ov gup
    simp only [if_neg hz]

