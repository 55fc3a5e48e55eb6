/-! PURE for the model: ranges by longs, sizes -/
def lsB (v lo hi : Int64) : Bool := decide (lo ≤ v ∧ v ≤ hi)
theorem lsB_1 {v lo hi : Int64} (h1 : ¬ v < lo) (h2 : ¬ hi < v) : lsB v lo hi = true := decide_eq_true ⟨Int64.not_lt.mp h1, Int64.not_lt.mp h2⟩
theorem lsB_a {v lo hi : Int64} (h1 : v < lo) : lsB v lo hi = false := decide_eq_false (fun z => Int64.not_lt.mpr z.1 h1)
theorem lsB_b {v lo hi : Int64} (h1 : hi < v) : lsB v lo hi = false := decide_eq_false (fun z => Int64.not_lt.mpr z.2 h1)
theorem lsB_N (x : Int32) {a b : Nat} (ha : a < 2 ^ 31) (hb : b < 2 ^ 31) : lsB x.toInt64 (lN a) (lN b) = decide ((a : Int) ≤ x.toInt ∧ x.toInt ≤ b) := by
  unfold lsB
  refine decide_eq_decide.mpr ?_
  rw [Int64.le_iff_toInt_le, Int64.le_iff_toInt_le, lN_toInt ha, lN_toInt hb, Int32.toInt_toInt64]
theorem lsB_in {x : Int32} {k : Nat} (hk : k < 2 ^ 31) : lsB x.toInt64 (lN 0) ((nI k - nI 1).toInt64) = inB x k := by
  rcases Nat.eq_zero_or_pos k with h | h
  · subst h
    unfold lsB inB
    refine decide_eq_decide.mpr ?_
    rw [Int64.le_iff_toInt_le, Int64.le_iff_toInt_le, Int32.toInt_toInt64, Int32.toInt_toInt64, lN_toInt (by decide)]
    have h1 : (nI 0 - nI 1).toInt = -1 := by decide
    rw [h1]
    omega
  · rw [pk_sub h, nI_l (by omega), lsB_N x (by decide) (by omega)]
    unfold inB
    refine decide_eq_decide.mpr ?_
    omega
theorem lsB_n (x : Int32) {b : Nat} (hb : b < 2 ^ 30) : lsB x.toInt64 (lN 0) (lN b) = inB x (b + 1) := by
  rw [lsB_N x (by decide) (by omega)]
  unfold inB
  refine decide_eq_decide.mpr ?_
  omega
theorem lsB_ab {x : Int32} {a n : Nat} (ha : a + 1 < 2 ^ 31) (hn : 1 ≤ n) (hn2 : n < 2 ^ 31) : lsB x.toInt64 (lN (a + 1)) ((nI n - nI 1).toInt64) = (inB x n && decide ((a : Int) < x.toInt)) := by
  rw [pk_sub hn, nI_l (by omega), lsB_N x ha (by omega)]
  unfold inB
  rw [← Bool.decide_and]
  refine decide_eq_decide.mpr ?_
  omega
theorem pop_prc (x : Nat) : ∀ k, (fl (Nat.testBit x) k).length = prc (fun _ => 0) x k := by
  intro k
  induction k with
  | zero => rfl
  | succ k ih =>
    rw [prc, ← ih]
    cases h : x.testBit k
    · rw [fl_f h]; rfl
    · rw [fl_t h, List.length_append]; rfl
theorem pop_clr {v : Nat} (hv : v < 65536) (h0 : ¬ v = 0) : pop (v &&& (v - 1)) + 1 = pop v := by
  obtain ⟨t, t1, t2⟩ := low_ex h0
  have ht : t < 16 := tb_big (k := 16) hv t1
  have hb : ∀ i, (v &&& (v - 1)).testBit i = (v.testBit i && !decide (t = i)) := fun i => by
    rw [Nat.testBit_and, low_pred t1 t2]
    by_cases h1 : i < t
    · rw [t2 i h1]; rfl
    · rw [if_neg h1]
      by_cases h2 : i = t
      · subst h2; simp
      · rw [if_neg h2, decide_eq_false (show ¬ t = i by omega)]; cases v.testBit i <;> rfl
  have he : v = (v &&& (v - 1)) ||| 1 <<< t := by
    refine Nat.eq_of_testBit_eq (fun i => ?_)
    rw [Nat.testBit_or, hb, tb_one]
    by_cases h : t = i
    · subst h; rw [t1]; simp
    · simp [h]
  have h3 : (v &&& (v - 1)).testBit t = false := by rw [hb]; simp
  have h4 := prc_add (ct := fun _ => 0) h3 16 ht
  rw [← he] at h4
  unfold pop
  rw [pop_prc, pop_prc, h4]
theorem pop_0 : pop 0 = 0 := by decide
/-- a byte as the model keeps it -/
def sgb (b : Nat) : Int32 := (nI b).toInt8.toInt32
theorem sgb_byt (w : Int32) {k : Nat} (hk : k < 4) : vp_nar .byte ((w >>> (nI (8 * k) &&& 31)).toInt8.toInt32) = sgb (byt w k) := by
  rw [pk_vb]
  unfold sgb
  rw [← byt_ok w hk]
  congr 1
  apply Int8.toBitVec_inj.mp
  apply BitVec.eq_of_getLsbD_eq
  intro i hi
  rw [Int32.toBitVec_toInt8, Int32.toBitVec_toInt8, BitVec.getLsbD_signExtend, BitVec.getLsbD_signExtend, if_pos (by omega), if_pos (by omega), Int32.toBitVec_and, BitVec.getLsbD_and]
  have h2 : (nI 255).toBitVec.getLsbD i = true := by
    show (BitVec.ofNat 32 255).getLsbD i = true
    rw [BitVec.getLsbD_ofNat, show (255 : Nat) = 2 ^ 8 - 1 from rfl, Nat.testBit_two_pow_sub_one]
    simp; omega
  rw [h2, Bool.and_true]
theorem dec_8 {q : Nat} (h : q < 4) : nI (8 * (3 - q)) + Int32.ofInt (-8) = nI 24 - nI (8 * (q + 1)) := by
  rcases (show q = 0 ∨ q = 1 ∨ q = 2 ∨ q = 3 by omega) with rfl | rfl | rfl | rfl <;> decide
