/-! PURE: places in range, the i-th of a list, scans, sums, sets of bits -/
theorem ga_r1 {b : Bool} (h : b = true) : some (Value.int (nI 1)) = some (.int (bI b)) := by rw [h]; rfl
theorem ga_r0 {b : Bool} (h : b = false) : some (Value.int (nI 0)) = some (.int (bI b)) := by rw [h]; rfl
theorem ga_rv {x y : Int32} (h : x = y) : some (Value.int x) = some (.int y) := by rw [h]
theorem ga_rl {x y : Int64} (h : x = y) : some (Value.long x) = some (.long y) := by rw [h]
theorem tb_and (m n : Nat) : (m >>> n) &&& 1 = 1 ↔ m.testBit n = true := by
  rw [Nat.and_one_is_mod, Nat.shiftRight_eq_div_pow, Nat.testBit_eq_decide_div_mod_eq]; simp
theorem and1_lt (x : Nat) : x &&& 1 < 2 ^ 31 := Nat.lt_of_le_of_lt Nat.and_le_right (by decide)
theorem andL_lt {x y b : Nat} (h : x < b) : x &&& y < b := Nat.lt_of_le_of_lt Nat.and_le_left h
theorem andR_lt {x y b : Nat} (h : y < b) : x &&& y < b := Nat.lt_of_le_of_lt Nat.and_le_right h
theorem or_lt {x y : Nat} (k : Nat) (h : x < 2 ^ k) (h2 : y < 2 ^ k) : x ||| y < 2 ^ k := Nat.or_lt_two_pow h h2
theorem xor_lt {x y : Nat} (k : Nat) (h : x < 2 ^ k) (h2 : y < 2 ^ k) : x ^^^ y < 2 ^ k := Nat.xor_lt_two_pow h h2
theorem tb_big {x i k : Nat} (h : x < 2 ^ k) (hi : x.testBit i = true) : i < k := by
  rcases Nat.lt_or_ge i k with h1 | h1
  · exact h1
  · rw [Nat.testBit_lt_two_pow (Nat.lt_of_lt_of_le h (Nat.pow_le_pow_right (by decide) h1))] at hi; cases hi
theorem tb_one (e i : Nat) : (1 <<< e).testBit i = decide (e = i) := by
  rw [Nat.one_shiftLeft, Nat.testBit_two_pow]
theorem one_lt {e k : Nat} (h : e < k) : 1 <<< e < 2 ^ k := by
  rw [Nat.one_shiftLeft]; exact Nat.pow_lt_pow_right (by decide) h
def inB (v : Int32) (n : Nat) : Bool := decide (0 ≤ v.toInt ∧ v.toInt < n)
theorem inB_1 {v : Int32} {n : Nat} (hn : n < 2 ^ 31) (h1 : ¬ v < 0) (h2 : ¬ nI n ≤ v) : inB v n = true := by
  have a1 : ¬ v.toInt < 0 := fun h => h1 (Int32.lt_iff_toInt_lt.mpr h)
  have a2 : ¬ (n : Int) ≤ v.toInt := fun h => h2 (Int32.le_iff_toInt_le.mpr (by rw [nI_toInt hn]; exact h))
  unfold inB; simp; omega
theorem inB_0 {v : Int32} {n : Nat} (hn : n < 2 ^ 31) (h : v < 0 ∨ nI n ≤ v) : inB v n = false := by
  have a : v.toInt < 0 ∨ (n : Int) ≤ v.toInt := by
    rcases h with h | h
    · exact Or.inl (Int32.lt_iff_toInt_lt.mp h)
    · refine Or.inr ?_
      have := Int32.le_iff_toInt_le.mp h
      rwa [nI_toInt hn] at this
  unfold inB; simp; omega
theorem inB_of {v : Int32} {n : Nat} (hn : n < 2 ^ 31) (h : inB v n = true) : ∃ j : Nat, j < n ∧ v = nI j := by
  unfold inB at h
  have h := of_decide_eq_true h
  refine ⟨v.toInt.toNat, by omega, Int32.toInt_inj.mp ?_⟩
  rw [nI_toInt (by omega)]; omega
theorem inB_n {j n : Nat} (hj : j < 2 ^ 31) : inB (nI j) n = decide (j < n) := by
  unfold inB; rw [nI_toInt hj]; by_cases h : j < n <;> simp [h] <;> omega
/-- the places below k with P, in order -/
def fl (P : Nat → Bool) (k : Nat) : List Nat := (List.range k).filter P
theorem fl_0 (P : Nat → Bool) : fl P 0 = [] := rfl
theorem fl_t {P : Nat → Bool} {k : Nat} (h : P k = true) : fl P (k + 1) = fl P k ++ [k] := by
  unfold fl; rw [List.range_succ, List.filter_append]; simp [h]
theorem fl_f {P : Nat → Bool} {k : Nat} (h : P k = false) : fl P (k + 1) = fl P k := by
  unfold fl; rw [List.range_succ, List.filter_append]; simp [h]
theorem fl_le (P : Nat → Bool) (k : Nat) : (fl P k).length ≤ k := by
  unfold fl; exact Nat.le_trans (List.length_filter_le _ _) (by simp)
theorem fl_pre {P : Nat → Bool} {e k : Nat} (h : e ≤ k) : ∃ r, fl P k = fl P e ++ r := by
  induction k with
  | zero => exact ⟨[], by rw [show e = 0 by omega]; simp⟩
  | succ k ih =>
    rcases Nat.lt_or_ge e (k + 1) with h1 | h1
    · obtain ⟨r, hr⟩ := ih (by omega)
      cases hP : P k
      · exact ⟨r, by rw [fl_f hP, hr]⟩
      · exact ⟨r ++ [k], by rw [fl_t hP, hr]; simp⟩
    · exact ⟨[], by rw [show e = k + 1 by omega]; simp⟩
theorem fl_mem {P : Nat → Bool} {k x : Nat} : x ∈ fl P k ↔ x < k ∧ P x = true := by
  unfold fl; rw [List.mem_filter, List.mem_range]
theorem fl_congr {P Q : Nat → Bool} {k : Nat} (h : ∀ i, i < k → P i = Q i) : fl P k = fl Q k := by
  unfold fl; exact List.filter_congr (fun x hx => h x (List.mem_range.mp hx))
/-- the i-th of a list, or -1 -/
def nth (l : List Int32) (i : Int32) : Int32 := if i < 0 then -1 else l.getD i.toNatClampNeg (-1)
theorem nth_miss {l : List Int32} {i : Int32} (hl : l.length < 2 ^ 31) (h : ∀ u, u < l.length → i ≠ nI u) : nth l i = -1 := by
  unfold nth
  by_cases h0 : i < 0
  · rw [if_pos h0]
  · rw [if_neg h0]
    obtain ⟨j, hj, rfl⟩ := nI_of h0
    rw [nI_clamp hj]
    rcases Nat.lt_or_ge j l.length with h1 | h1
    · exact absurd rfl (h j h1)
    · rw [List.getD_eq_getElem?_getD, List.getElem?_eq_none h1]; rfl
theorem nth_hit {a b : List Int32} {x : Int32} (h : a.length < 2 ^ 31) : nth (a ++ x :: b) (nI a.length) = x := by
  unfold nth
  rw [if_neg (nI_pos h), nI_clamp h, List.getD_eq_getElem?_getD, List.getElem?_append_right (Nat.le_refl _)]
  simp
/-- scanning down from i: lf is what is left of i at the place e -/
def scD (P : Nat → Bool) (i lf : Int32) (e : Nat) : Prop := lf = i - nI (fl P e).length ∧ ∀ u, u < (fl P e).length → i ≠ nI u
theorem scD_0 (P : Nat → Bool) (i : Int32) : scD P i i 0 := ⟨by show i = i - nI 0; rw [nI_0]; simp, fun u h => absurd h (by simp [fl_0])⟩
theorem scD_f {P : Nat → Bool} {i lf : Int32} {e : Nat} (h : scD P i lf e) (hP : P e = false) : scD P i lf (e + 1) := by
  unfold scD; rw [fl_f hP]; exact h
theorem i32_sub0 {a b : Int32} (h : a - b = 0) : a = b := by
  have h2 := congrArg (fun z => z + b) h
  simpa [Int32.sub_add_cancel] using h2
theorem scD_t {P : Nat → Bool} {i lf : Int32} {e : Nat} (h : scD P i lf e) (hP : P e = true) (hn : ¬ lf = 0) : scD P i (lf + Int32.ofInt (-1)) (e + 1) := by
  obtain ⟨h1, h2⟩ := h
  unfold scD; rw [fl_t hP, List.length_append]
  refine ⟨?_, fun u hu => ?_⟩
  · rw [h1]
    show i - nI (fl P e).length + (-1) = i - nI ((fl P e).length + 1)
    simp only [← nI_1, Int32.sub_eq_add_neg, Int32.neg_add, Int32.add_assoc]
  · rcases Nat.lt_or_ge u (fl P e).length with h3 | h3
    · exact h2 u h3
    · have h4 : u = (fl P e).length := by simp at hu; omega
      subst h4
      intro h5; apply hn; rw [h1, h5]; simp
theorem scD_hit {P : Nat → Bool} {i lf : Int32} {e k : Nat} (g : Nat → Int32) (h : scD P i lf e) (hP : P e = true) (hk : e < k) (hk2 : k < 2 ^ 31) (hz : lf = 0) : nth ((fl P k).map g) i = g e := by
  obtain ⟨h1, h2⟩ := h
  obtain ⟨r, hr⟩ := fl_pre (P := P) (e := e + 1) (k := k) hk
  have h3 : i = nI (fl P e).length := i32_sub0 (by rw [← h1, hz])
  have h4 : (fl P e).length ≤ e := fl_le P e
  rw [hr, fl_t hP, h3]
  have h5 := nth_hit (a := (fl P e).map g) (b := r.map g) (x := g e) (by rw [List.length_map]; omega)
  rw [List.length_map] at h5
  simpa using h5
theorem scD_end {P : Nat → Bool} {i lf : Int32} {k : Nat} (g : Nat → Int32) (h : scD P i lf k) (hk2 : k < 2 ^ 31) : nth ((fl P k).map g) i = -1 := by
  have h4 : (fl P k).length ≤ k := fl_le P k
  exact nth_miss (by rw [List.length_map]; omega) (by rw [List.length_map]; exact h.2)
/-- scanning up: t of them were met, none was the i-th -/
def scU (P : Nat → Bool) (i : Int32) (t e : Nat) : Prop := t = (fl P e).length ∧ ∀ u, u < t → i ≠ nI u
theorem scU_0 (P : Nat → Bool) (i : Int32) : scU P i 0 0 := ⟨rfl, fun u h => absurd h (by omega)⟩
theorem scU_le {P : Nat → Bool} {i : Int32} {t e : Nat} (h : scU P i t e) : t ≤ e := by rw [h.1]; exact fl_le P e
theorem scU_f {P : Nat → Bool} {i : Int32} {t e : Nat} (h : scU P i t e) (hP : P e = false) : scU P i t (e + 1) := by
  unfold scU; rw [fl_f hP]; exact h
theorem scU_t {P : Nat → Bool} {i : Int32} {t e : Nat} (h : scU P i t e) (hP : P e = true) (hn : ¬ nI t = i) : scU P i (t + 1) (e + 1) := by
  unfold scU; rw [fl_t hP, List.length_append, ← h.1]
  refine ⟨rfl, fun u hu => ?_⟩
  rcases Nat.lt_or_ge u t with h3 | h3
  · exact h.2 u h3
  · rw [show u = t by omega]; exact fun h5 => hn h5.symm
theorem scU_hit {P : Nat → Bool} {i : Int32} {t e k : Nat} (g : Nat → Int32) (h : scU P i t e) (hP : P e = true) (hk : e < k) (hk2 : k < 2 ^ 31) (hz : nI t = i) : nth ((fl P k).map g) i = g e := by
  obtain ⟨r, hr⟩ := fl_pre (P := P) (e := e + 1) (k := k) hk
  have h4 : (fl P e).length ≤ e := fl_le P e
  rw [hr, fl_t hP, ← hz, h.1]
  have h5 := nth_hit (a := (fl P e).map g) (b := r.map g) (x := g e) (by rw [List.length_map]; omega)
  rw [List.length_map] at h5
  simpa using h5
theorem scU_end {P : Nat → Bool} {i : Int32} {t k : Nat} (g : Nat → Int32) (h : scU P i t k) (hk2 : k < 2 ^ 31) : nth ((fl P k).map g) i = -1 := by
  have h4 : (fl P k).length ≤ k := fl_le P k
  exact nth_miss (by rw [List.length_map]; omega) (by rw [List.length_map, ← h.1]; exact h.2)
theorem nth_neg {l : List Int32} {i : Int32} (h : i < 0) : nth l i = -1 := if_pos h
/-- the price of the steps of st below k -/
def prc (ct : Nat → Nat) (st : Nat) : Nat → Nat
  | 0 => 0
  | e + 1 => prc ct st e + (if st.testBit e then ct e + 1 else 0)
theorem prc_le {ct : Nat → Nat} {st k : Nat} (h : ∀ e, e < k → ct e ≤ 1000000) : prc ct st k ≤ 1000001 * k := by
  induction k with
  | zero => exact Nat.le_refl _
  | succ k ih =>
    have h1 := ih (fun e he => h e (by omega))
    have h2 := h k (by omega)
    unfold prc
    split <;> omega
/-- the union of the first v sets -/
def orB (lv : Nat → Nat) : Nat → Nat
  | 0 => 0
  | v + 1 => orB lv v ||| lv v
theorem orB_lt {lv : Nat → Nat} {v b : Nat} (h : ∀ u, u < v → lv u < 2 ^ b) : orB lv v < 2 ^ b := by
  induction v with
  | zero => exact Nat.pow_pos (by decide)
  | succ v ih => exact or_lt b (ih (fun u hu => h u (by omega))) (h v (by omega))
theorem orB_tb {lv : Nat → Nat} {v i : Nat} : (orB lv v).testBit i = true ↔ ∃ u, u < v ∧ (lv u).testBit i = true := by
  induction v with
  | zero => simp [orB]
  | succ v ih =>
    rw [orB, Nat.testBit_or, Bool.or_eq_true, ih]
    constructor
    · rintro (⟨u, h1, h2⟩ | h)
      · exact ⟨u, by omega, h2⟩
      · exact ⟨v, by omega, h⟩
    · rintro ⟨u, h1, h2⟩
      rcases Nat.lt_or_ge u v with h3 | h3
      · exact Or.inl ⟨u, h3, h2⟩
      · rw [show u = v by omega] at h2; exact Or.inr h2
/-- byte k of a word -/
def byt (w : Int32) (k : Nat) : Nat := w.toBitVec.toNat / 2 ^ (8 * k) % 256
theorem byt_lt (w : Int32) (k : Nat) : byt w k < 256 := Nat.mod_lt _ (by decide)
theorem byt_ok (w : Int32) {k : Nat} (hk : k < 4) : (w >>> (nI (8 * k) &&& 31)) &&& nI 255 = nI (byt w k) := by
  apply Int32.toBitVec_inj.1
  apply BitVec.eq_of_getLsbD_eq
  intro i hi
  have h1 : (w >>> (nI (8 * k) &&& 31)).toBitVec = w.toBitVec.sshiftRight (8 * k) := by
    rw [Int32.toBitVec_shiftRight]
    show BitVec.sshiftRight' _ _ = _
    rw [BitVec.sshiftRight', nI_s5 (8 * k) (by omega)]
  rw [Int32.toBitVec_and, BitVec.getLsbD_and, h1]
  show ((w.toBitVec.sshiftRight (8 * k)).getLsbD i && (BitVec.ofNat 32 255).getLsbD i) = (BitVec.ofNat 32 (byt w k)).getLsbD i
  rw [BitVec.getLsbD_ofNat, BitVec.getLsbD_ofNat, BitVec.getLsbD_sshiftRight]
  unfold byt
  rw [show (256 : Nat) = 2 ^ 8 from rfl, Nat.testBit_mod_two_pow, Nat.testBit_div_two_pow, show (255 : Nat) = 2 ^ 8 - 1 from rfl, Nat.testBit_two_pow_sub_one]
  by_cases h : i < 8
  · have h3 : ¬ 32 ≤ i := by omega
    have h4 : 8 * k + i < 32 := by omega
    simp [hi, h, h3, h4, BitVec.getLsbD]
    try rw [Nat.add_comm]
  · simp [h]
theorem dec_q {q : Nat} (h : q < 4) : nI (3 - q) + Int32.ofInt (-1) = nI 3 - nI (q + 1) := by
  rcases (show q = 0 ∨ q = 1 ∨ q = 2 ∨ q = 3 by omega) with rfl | rfl | rfl | rfl <;> decide
