/-! PURE for Search -/
def lowb (u : Nat) : Nat := u &&& (2 ^ 32 - u)
theorem nI_neg {u : Nat} (h : u ≤ 2 ^ 32) : -(nI u) = nI (2 ^ 32 - u) := by
  have h1 : nI u + nI (2 ^ 32 - u) = 0 := by
    rw [nI_add, show u + (2 ^ 32 - u) = 2 ^ 32 by omega]; decide
  have h2 : nI (2 ^ 32 - u) + nI u = 0 := by rw [Int32.add_comm]; exact h1
  have h3 := congrArg (fun z => z - nI u) h2
  simp only [Int32.add_sub_cancel] at h3
  rw [h3, Int32.zero_sub]
theorem lowb_ok {u : Nat} (h : u < 65536) : nI u &&& -(nI u) = nI (lowb u) := by
  rw [nI_neg (by omega), nI_and]; rfl
def rat (a b : Nat) : Bool := decide (pop a < pop b ∨ (pop a = pop b ∧ ¬ a &&& lowb (a ^^^ b) = 0))
theorem pop_lt (x : Nat) : pop x ≤ 16 := fl_le _ _
theorem rat_a {a b : Nat} (h : nI (pop a) - nI (pop b) < 0) : rat a b = true := by
  have h1 := Int32.lt_iff_toInt_lt.mp h
  have ha := pop_lt a; have hb := pop_lt b
  rw [pk_sub_toInt (by omega) (by omega)] at h1
  exact decide_eq_true (Or.inl (by simp at h1; omega))
theorem sub0_eq {a b : Nat} (ha : a < 2 ^ 30) (hb : b < 2 ^ 30) : nI a - nI b = 0 ↔ a = b := by
  constructor
  · intro h
    have h1 := congrArg Int32.toInt h
    rw [pk_sub_toInt ha hb] at h1
    simp at h1; omega
  · rintro rfl; simp
theorem rat_b {a b : Nat} (h : ¬ nI (pop a) - nI (pop b) < 0) (h2 : ¬ nI (pop a) - nI (pop b) = 0) : rat a b = false := by
  have ha := pop_lt a; have hb := pop_lt b
  have h3 : ¬ pop a = pop b := fun z => h2 ((sub0_eq (by omega) (by omega)).mpr z)
  have h4 : ¬ pop a < pop b := fun z => h (Int32.lt_iff_toInt_lt.mpr (by rw [pk_sub_toInt (by omega) (by omega)]; simp; omega))
  exact decide_eq_false (by omega)
theorem rat_c {a b : Nat} (h2 : nI (pop a) - nI (pop b) = 0) (h3 : a &&& lowb (a ^^^ b) = 0) : rat a b = false := by
  have ha := pop_lt a; have hb := pop_lt b
  have h4 := (sub0_eq (by omega) (by omega)).mp h2
  exact decide_eq_false (fun z => by rcases z with z | z; omega; exact z.2 h3)
theorem rat_d {a b : Nat} (h2 : nI (pop a) - nI (pop b) = 0) (h3 : ¬ a &&& lowb (a ^^^ b) = 0) : rat a b = true := by
  have ha := pop_lt a; have hb := pop_lt b
  exact decide_eq_true (Or.inr ⟨(sub0_eq (by omega) (by omega)).mp h2, h3⟩)
def ofr (st : Nat × Nat) (s p : Nat) : Nat × Nat := if p < st.2 ∨ (p = st.2 ∧ rat s st.1 = true) then (s, p) else st
def chz (k : Nat) (ct z : Nat → Nat) (pn : Nat) : Nat → Nat → Nat → Nat → Nat → Nat × Nat → Nat × Nat
  | 0, s, ch, _, pr, st => if pn ≤ fnm z ch pn s then ofr st ch pr else st
  | f + 1, s, ch, bar, pr, st => if pn ≤ fnm z ch pn s then ofr st ch pr else
      ((List.range k).foldl (fun q e => if (z (fnm z ch pn s) &&& (65535 ^^^ q.2)).testBit e then ((if pr + ct e + 1 ≤ q.1.2 then chz k ct z pn f (fnm z ch pn s + 1) (ch ||| 1 <<< e) q.2 (pr + ct e + 1) q.1 else q.1), q.2 ||| 1 <<< e) else q) (st, bar)).1
def chq (k : Nat) (ct z : Nat → Nat) (pn f s ch bar pr : Nat) (st : Nat × Nat) (e : Nat) : (Nat × Nat) × Nat := (List.range e).foldl (fun q e => if (z (fnm z ch pn s) &&& (65535 ^^^ q.2)).testBit e then ((if pr + ct e + 1 ≤ q.1.2 then chz k ct z pn f (fnm z ch pn s + 1) (ch ||| 1 <<< e) q.2 (pr + ct e + 1) q.1 else q.1), q.2 ||| 1 <<< e) else q) (st, bar)
theorem chq_s {k : Nat} {ct z : Nat → Nat} {pn f s ch bar pr : Nat} {st : Nat × Nat} {e : Nat} : chq k ct z pn f s ch bar pr st (e + 1) = (if (z (fnm z ch pn s) &&& (65535 ^^^ (chq k ct z pn f s ch bar pr st e).2)).testBit e then ((if pr + ct e + 1 ≤ (chq k ct z pn f s ch bar pr st e).1.2 then chz k ct z pn f (fnm z ch pn s + 1) (ch ||| 1 <<< e) (chq k ct z pn f s ch bar pr st e).2 (pr + ct e + 1) (chq k ct z pn f s ch bar pr st e).1 else (chq k ct z pn f s ch bar pr st e).1), (chq k ct z pn f s ch bar pr st e).2 ||| 1 <<< e) else chq k ct z pn f s ch bar pr st e) := by
  unfold chq; rw [List.range_succ, List.foldl_append]; rfl
theorem chq_n {k : Nat} {ct z : Nat → Nat} {pn f s ch bar pr : Nat} {st st2 : Nat × Nat} {tr e : Nat} (h : chq k ct z pn f s ch bar pr st e = (st2, tr)) (ht : (z (fnm z ch pn s) &&& (65535 ^^^ tr)).testBit e = false) : chq k ct z pn f s ch bar pr st (e + 1) = (st2, tr) := by
  rw [chq_s, h]; simp only [ht]; rfl
theorem chq_x {k : Nat} {ct z : Nat → Nat} {pn f s ch bar pr : Nat} {st st2 : Nat × Nat} {tr e : Nat} (h : chq k ct z pn f s ch bar pr st e = (st2, tr)) (ht : (z (fnm z ch pn s) &&& (65535 ^^^ tr)).testBit e = true) (hp : st2.2 < pr + ct e + 1) : chq k ct z pn f s ch bar pr st (e + 1) = (st2, tr ||| 1 <<< e) := by
  rw [chq_s, h]; simp only [ht]; rw [if_neg (show ¬ pr + ct e + 1 ≤ st2.2 by omega)]; rfl
theorem chq_y {k : Nat} {ct z : Nat → Nat} {pn f s ch bar pr : Nat} {st st2 : Nat × Nat} {tr e : Nat} (h : chq k ct z pn f s ch bar pr st e = (st2, tr)) (ht : (z (fnm z ch pn s) &&& (65535 ^^^ tr)).testBit e = true) (hp : ¬ st2.2 < pr + ct e + 1) : chq k ct z pn f s ch bar pr st (e + 1) = (chz k ct z pn f (fnm z ch pn s + 1) (ch ||| 1 <<< e) tr (pr + ct e + 1) st2, tr ||| 1 <<< e) := by
  rw [chq_s, h]; simp only [ht]; rw [if_pos (show pr + ct e + 1 ≤ st2.2 by omega)]; rfl
theorem chz_o {k : Nat} {ct z : Nat → Nat} {pn f s ch bar pr : Nat} {st : Nat × Nat} (h : pn ≤ fnm z ch pn s) : chz k ct z pn f s ch bar pr st = ofr st ch pr := by
  cases f <;> (rw [chz, if_pos h])
theorem chz_0 {k : Nat} {ct z : Nat → Nat} {pn s ch bar pr : Nat} {st : Nat × Nat} (h : ¬ pn ≤ fnm z ch pn s) : chz k ct z pn 0 s ch bar pr st = st := by
  rw [chz, if_neg h]
theorem chz_q {k : Nat} {ct z : Nat → Nat} {pn f s ch bar pr : Nat} {st : Nat × Nat} (h : ¬ pn ≤ fnm z ch pn s) : chz k ct z pn (f + 1) s ch bar pr st = (chq k ct z pn f s ch bar pr st k).1 := by
  rw [chz, if_neg h]; rfl
theorem ofr_lt {st : Nat × Nat} {s p b c : Nat} (h1 : st.1 < b) (h2 : s < b) (h3 : st.2 < c) (h4 : p < c) : (ofr st s p).1 < b ∧ (ofr st s p).2 < c := by
  unfold ofr; split
  · exact ⟨h2, h4⟩
  · exact ⟨h1, h3⟩
