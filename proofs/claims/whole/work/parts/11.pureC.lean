/-! PURE for the ways, the lines that part alone -/
/-- all ways from v with f steps left, p behind -/
def wlp (k : Nat) (fr to : Nat → Nat) (g : Nat) : Nat → Nat → List Nat → List (List Nat)
  | 0, _, _ => []
  | f + 1, v, p => if v = g then [p] else (List.range k).flatMap (fun e => if fr e = v then wlp k fr to g f (to e) (p ++ [e]) else [])
def wlq (k : Nat) (fr to : Nat → Nat) (g f v : Nat) (p : List Nat) (e : Nat) : List (List Nat) := (List.range e).flatMap (fun e => if fr e = v then wlp k fr to g f (to e) (p ++ [e]) else [])
theorem wlq_0 {k : Nat} {fr to : Nat → Nat} {g f v : Nat} {p : List Nat} : wlq k fr to g f v p 0 = [] := rfl
theorem wlq_t {k : Nat} {fr to : Nat → Nat} {g f v : Nat} {p : List Nat} {e : Nat} (h : fr e = v) : wlq k fr to g f v p (e + 1) = wlq k fr to g f v p e ++ wlp k fr to g f (to e) (p ++ [e]) := by
  unfold wlq; rw [List.range_succ, List.flatMap_append]; simp [h]
theorem wlq_f {k : Nat} {fr to : Nat → Nat} {g f v : Nat} {p : List Nat} {e : Nat} (h : ¬ fr e = v) : wlq k fr to g f v p (e + 1) = wlq k fr to g f v p e := by
  unfold wlq; rw [List.range_succ, List.flatMap_append]; simp [h]
theorem wlp_g {k : Nat} {fr to : Nat → Nat} {g f v : Nat} {p : List Nat} (h : v = g) : wlp k fr to g (f + 1) v p = [p] := by rw [wlp, if_pos h]
theorem wlp_q {k : Nat} {fr to : Nat → Nat} {g f v : Nat} {p : List Nat} (h : ¬ v = g) : wlp k fr to g (f + 1) v p = wlq k fr to g f v p k := by rw [wlp, if_neg h]; rfl
/-! lines that part two ways alone -/
def SPs (ss : Nat → Nat) (li num rr : Nat) : Prop := rr < 65536 ∧ ∀ e, rr.testBit e = true → ∃ i j, i < j ∧ j < num ∧ (ss i ^^^ ss j) &&& li = 1 <<< e
def SPc (ss : Nat → Nat) (li num rr i j : Nat) : Prop := ∀ a b e, a < b → b < num → (a < i ∨ (a = i ∧ b < j)) → (ss a ^^^ ss b) &&& li = 1 <<< e → rr.testBit e = true
theorem pop_one {x : Nat} (hx : x < 65536) : pop x = 1 ↔ ∃ e, e < 16 ∧ x = 1 <<< e := by
  constructor
  · intro h
    have h1 : (fl (Nat.testBit x) 16).length = 1 := h
    obtain ⟨e, he⟩ := List.length_eq_one_iff.mp h1
    have hm : e ∈ fl (Nat.testBit x) 16 := by rw [he]; exact List.mem_singleton.mpr rfl
    obtain ⟨e1, e2⟩ := fl_mem.mp hm
    refine ⟨e, e1, Nat.eq_of_testBit_eq (fun i => ?_)⟩
    rw [tb_one]
    by_cases hi : e = i
    · subst hi; simp [e2]
    · cases hb : x.testBit i
      · simp [hi]
      · have h2 : i ∈ fl (Nat.testBit x) 16 := fl_mem.mpr ⟨tb_big (k := 16) hx hb, hb⟩
        rw [he, List.mem_singleton] at h2
        exact absurd h2.symm hi
  · rintro ⟨e, he, rfl⟩
    have h2 : fl (Nat.testBit (1 <<< e)) 16 = [e] := by
      have h3 : ∀ k, fl (Nat.testBit (1 <<< e)) k = if e < k then [e] else [] := fun k => by
        induction k with
        | zero => simp [fl_0]
        | succ k ih =>
          by_cases h : e = k
          · rw [fl_t (by rw [tb_one]; simp [h]), ih]; simp [h]
          · rw [fl_f (by rw [tb_one]; simp [h]), ih]
            by_cases h4 : e < k
            · simp [h4, Nat.lt_succ_of_lt h4]
            · simp [h4]; omega
      rw [h3, if_pos he]
    unfold pop; rw [h2]; rfl
theorem SPs_0 (ss : Nat → Nat) (li num : Nat) : SPs ss li num 0 := ⟨by decide, fun e h => by simp at h⟩
theorem SPc_0 (ss : Nat → Nat) (li num : Nat) : SPc ss li num 0 0 1 := fun a b e h1 _ h3 _ => by omega
theorem SPc_row {ss : Nat → Nat} {li num rr i j : Nat} (h : SPc ss li num rr i j) (hj : num ≤ j) : SPc ss li num rr (i + 1) (i + 1 + 1) := fun a b e h1 h2 h3 h4 => h a b e h1 h2 (by omega) h4
theorem SPc_no {ss : Nat → Nat} {li num rr i j : Nat} (h : SPc ss li num rr i j) (hx : (ss i ^^^ ss j) &&& li < 65536) (hp : ¬ pop ((ss i ^^^ ss j) &&& li) = 1) : SPc ss li num rr i (j + 1) := fun a b e h1 h2 h3 h4 => by
  by_cases hc : a = i ∧ b = j
  · obtain ⟨rfl, rfl⟩ := hc
    have h5 : e < 16 := tb_big (k := 16) hx (by rw [h4, tb_one]; simp)
    exact absurd ((pop_one hx).mpr ⟨e, h5, h4⟩) hp
  · exact h a b e h1 h2 (by omega) h4
theorem SPc_yes {ss : Nat → Nat} {li num rr i j : Nat} (h : SPc ss li num rr i j) : SPc ss li num (rr ||| ((ss i ^^^ ss j) &&& li)) i (j + 1) := fun a b e h1 h2 h3 h4 => by
  rw [Nat.testBit_or, Bool.or_eq_true]
  by_cases hc : a = i ∧ b = j
  · obtain ⟨rfl, rfl⟩ := hc
    exact Or.inr (by rw [h4, tb_one]; simp)
  · exact Or.inl (h a b e h1 h2 (by omega) h4)
theorem SPs_yes {ss : Nat → Nat} {li num rr i j : Nat} (h : SPs ss li num rr) (hij : i < j) (hj : j < num) (hx : (ss i ^^^ ss j) &&& li < 65536) (hp : pop ((ss i ^^^ ss j) &&& li) = 1) : SPs ss li num (rr ||| ((ss i ^^^ ss j) &&& li)) := by
  refine ⟨or_lt 16 h.1 hx, fun e he => ?_⟩
  rw [Nat.testBit_or, Bool.or_eq_true] at he
  rcases he with he | he
  · exact h.2 e he
  · obtain ⟨e2, _, h2⟩ := (pop_one hx).mp hp
    rw [h2, tb_one] at he
    have : e2 = e := by simpa using he
    subst this
    exact ⟨i, j, hij, hj, h2⟩
def SPx (ss : Nat → Nat) (li num rr : Nat) : Prop := rr < 65536 ∧ ∀ e, rr.testBit e = true ↔ ∃ i j, i < j ∧ j < num ∧ (ss i ^^^ ss j) &&& li = 1 <<< e
theorem SPx_end {ss : Nat → Nat} {li num rr i j : Nat} (h : SPs ss li num rr) (hc : SPc ss li num rr i j) (hi : num ≤ i) : SPx ss li num rr :=
  ⟨h.1, fun e => ⟨h.2 e, fun ⟨a, b, h1, h2, h3⟩ => hc a b e h1 h2 (by omega) h3⟩⟩
theorem SPx_all {ss : Nat → Nat} {li num rr : Nat} (h : SPs ss li num rr) (he : rr = li) : SPx ss li num rr :=
  ⟨h.1, fun e => ⟨h.2 e, fun ⟨a, b, h1, h2, h3⟩ => by
    have h4 : ((ss a ^^^ ss b) &&& li).testBit e = true := by rw [h3, tb_one]; simp
    rw [Nat.testBit_and, Bool.and_eq_true] at h4
    rw [he]; exact h4.2⟩⟩
/-! the first two ways that a line alone parts -/
def fpN (ss : Nat → Nat) (li ln num i j : Nat) : Prop := ∀ a b, a < b → b < num → (a < i ∨ (a = i ∧ b < j)) → ¬ (ss a ^^^ ss b) &&& li = ln
def FPP (ss : Nat → Nat) (li ln num : Nat) (fb : Bool) (i j : Nat) : Prop := if fb then i < j ∧ j < num ∧ (ss i ^^^ ss j) &&& li = ln ∧ fpN ss li ln num i j else ∀ a b, a < b → b < num → ¬ (ss a ^^^ ss b) &&& li = ln
theorem fpN_0 (ss : Nat → Nat) (li ln num : Nat) : fpN ss li ln num 0 1 := fun a b h1 _ h3 => by omega
theorem fpN_row {ss : Nat → Nat} {li ln num i j : Nat} (h : fpN ss li ln num i j) (hj : num ≤ j) : fpN ss li ln num (i + 1) (i + 1 + 1) := fun a b h1 h2 h3 => h a b h1 h2 (by omega)
theorem fpN_no {ss : Nat → Nat} {li ln num i j : Nat} (h : fpN ss li ln num i j) (hp : ¬ (ss i ^^^ ss j) &&& li = ln) : fpN ss li ln num i (j + 1) := fun a b h1 h2 h3 => by
  by_cases hc : a = i ∧ b = j
  · obtain ⟨rfl, rfl⟩ := hc; exact hp
  · exact h a b h1 h2 (by omega)
