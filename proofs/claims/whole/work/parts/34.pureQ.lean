/-! PURE: heaps without a line; a log against a way's own -/
theorem fl_sub {P P' : Nat → Bool} : ∀ C, (∀ i, i < C → P' i = true → P i = true) → (fl P' C).length ≤ (fl P C).length ∧ ((fl P' C).length = (fl P C).length ↔ ∀ i, i < C → P i = true → P' i = true) := by
  intro C
  induction C with
  | zero => intro _; exact ⟨Nat.le_refl _, fun _ i hi => absurd hi (Nat.not_lt_zero _), fun _ => rfl⟩
  | succ C ih =>
    intro h
    obtain ⟨i1, i2⟩ := ih (fun i hi => h i (by omega))
    cases hp : P C
    · have hp' : P' C = false := by
        cases hq : P' C
        · rfl
        · have := h C (by omega) hq; rw [hp] at this; cases this
      rw [fl_f hp, fl_f hp']
      refine ⟨i1, i2.trans ⟨fun h1 i hi hP => ?_, fun h1 i hi => h1 i (by omega)⟩⟩
      rcases Nat.lt_or_ge i C with h2 | h2
      · exact h1 i h2 hP
      · rw [show i = C by omega, hp] at hP; cases hP
    · cases hp' : P' C
      · rw [fl_t hp, fl_f hp', List.length_append]
        refine ⟨by simp; omega, fun h1 => by simp at h1; omega, fun h1 => ?_⟩
        have := h1 C (by omega) hp; rw [hp'] at this; cases this
      · rw [fl_t hp, fl_t hp', List.length_append, List.length_append]
        refine ⟨by simp; omega, ⟨fun h1 i hi hP => ?_, fun h1 => ?_⟩⟩
        · rcases Nat.lt_or_ge i C with h2 | h2
          · exact i2.mp (by simp at h1; exact h1) i h2 hP
          · rw [show i = C by omega]; exact hp'
        · rw [i2.mpr (fun i hi => h1 i (by omega))]
theorem first_iff {S : Nat → Nat} {y i : Nat} : decide (lfst (like S y i) i = i) = true ↔ ∀ j, j < i → ¬ S j &&& y = S i &&& y := by
  rw [decide_eq_true_eq]
  obtain ⟨h1, h2, h3⟩ := lfst_sp (like S y i) i
  constructor
  · intro h j hj; exact of_decide_eq_false (h3 j (by omega))
  · intro h
    rcases Nat.lt_or_ge (lfst (like S y i) i) i with h4 | h4
    · exact absurd (of_decide_eq_true (h2 h4)) (h _ h4)
    · omega
theorem out_tb {li e i : Nat} (hli : li < 65536) : (li &&& (65535 ^^^ 1 <<< e)).testBit i = (li.testBit i && !decide (e = i)) := by
  rw [Nat.testBit_and, Nat.testBit_xor, tb_one, show (65535 : Nat) = 2 ^ 16 - 1 from rfl, Nat.testBit_two_pow_sub_one]
  cases h : li.testBit i
  · rfl
  · rw [decide_eq_true (tb_big (k := 16) hli h)]; simp
theorem sole_iff {a b li e : Nat} (hli : li < 65536) (he : li.testBit e = true) : (a ^^^ b) &&& li = 1 <<< e ↔ (a &&& (li &&& (65535 ^^^ 1 <<< e)) = b &&& (li &&& (65535 ^^^ 1 <<< e)) ∧ ¬ a &&& li = b &&& li) := by
  rw [← xor_and_eq, ← xor_and_eq]
  generalize a ^^^ b = u
  constructor
  · intro h
    refine ⟨Nat.eq_of_testBit_eq (fun i => ?_), fun h0 => ?_⟩
    · have h1 : (u &&& li).testBit i = decide (e = i) := by rw [h, tb_one]
      rw [Nat.testBit_and, out_tb hli, Nat.zero_testBit]
      rw [Nat.testBit_and] at h1
      cases hu : u.testBit i <;> cases hl : li.testBit i <;> rw [hu, hl] at h1 <;> simp at h1 ⊢
      exact h1
    · rw [h0] at h
      have h1 : (1 <<< e).testBit e = true := by rw [tb_one]; simp
      rw [← h] at h1; simp at h1
  · rintro ⟨h1, h2⟩
    have h3 : ∀ i, i ≠ e → (u &&& li).testBit i = false := fun i hi => by
      have h4 : (u &&& (li &&& (65535 ^^^ 1 <<< e))).testBit i = false := by rw [h1]; simp
      rw [Nat.testBit_and, out_tb hli, decide_eq_false (fun z => hi z.symm)] at h4
      rw [Nat.testBit_and]; simpa using h4
    obtain ⟨i, hi⟩ := Nat.exists_testBit_of_ne_zero h2
    have hie : i = e := by
      rcases Nat.lt_trichotomy i e with h | h | h
      · rw [h3 i (by omega)] at hi; cases hi
      · exact h
      · rw [h3 i (by omega)] at hi; cases hi
    subst hie
    refine Nat.eq_of_testBit_eq (fun j => ?_)
    rw [tb_one]
    by_cases hj : i = j
    · subst hj; rw [hi]; simp
    · rw [h3 j (fun z => hj z.symm), decide_eq_false hj]
theorem use_iff {S : Nat → Nat} {C li e : Nat} (hli : li < 65536) (he : li.testBit e = true) : decide (hpsN S (li &&& (65535 ^^^ 1 <<< e)) C = hpsN S li C) = !soleB S C li e := by
  have hmono : ∀ i j, S i &&& li = S j &&& li → S i &&& (li &&& (65535 ^^^ 1 <<< e)) = S j &&& (li &&& (65535 ^^^ 1 <<< e)) := fun i j h => by
    rw [← Nat.and_assoc, ← Nat.and_assoc, h]
  have h1 := (fl_sub (P := fun i => decide (lfst (like S li i) i = i)) (P' := fun i => decide (lfst (like S (li &&& (65535 ^^^ 1 <<< e)) i) i = i)) C (fun i _ hi => by
    rw [first_iff] at hi ⊢
    exact fun j hj h => hi j hj (hmono j i h))).2
  have h2 : (hpsN S (li &&& (65535 ^^^ 1 <<< e)) C = hpsN S li C) ↔ ¬ soleB S C li e = true := by
    unfold hpsN
    rw [h1, soleB_iff]
    constructor
    · rintro h ⟨a, b, hab, hb, hc⟩
      rw [sole_iff hli he] at hc
      obtain ⟨c1, c2⟩ := hc
      have key : ∀ x, x < C → ∃ x', x' ≤ x ∧ S x' &&& li = S x &&& li ∧ decide (lfst (like S li x') x' = x') = true := fun x hx => by
        obtain ⟨q1, q2, q3⟩ := lfst_sp (like S li x) x
        have q4 : S (lfst (like S li x) x) &&& li = S x &&& li := by
          rcases Nat.lt_or_ge (lfst (like S li x) x) x with h | h
          · exact of_decide_eq_true (q2 h)
          · rw [show lfst (like S li x) x = x by omega]
        refine ⟨_, q1, q4, first_iff.mpr (fun j hj => ?_)⟩
        rw [q4]; exact of_decide_eq_false (q3 j hj)
      obtain ⟨a', a1, a2, a3⟩ := key a (by omega)
      obtain ⟨b', b1, b2, b3⟩ := key b hb
      have e1 := first_iff.mp (h a' (by omega) a3)
      have e2 := first_iff.mp (h b' (by omega) b3)
      have e3 : S a' &&& (li &&& (65535 ^^^ 1 <<< e)) = S b' &&& (li &&& (65535 ^^^ 1 <<< e)) := by rw [hmono a' a a2, hmono b' b b2, c1]
      rcases Nat.lt_trichotomy a' b' with h4 | h4 | h4
      · exact e2 a' h4 e3
      · rw [h4] at a2; exact c2 (by rw [← a2, ← b2])
      · exact e1 b' h4 e3.symm
    · intro h i hi hP
      rw [first_iff] at hP ⊢
      intro j hj hc
      refine h ⟨j, i, hj, hi, (sole_iff hli he).mpr ⟨hc, hP j hj⟩⟩
  cases hs : soleB S C li e
  · rw [hs] at h2; exact decide_eq_true (h2.mpr (by decide))
  · rw [hs] at h2; exact decide_eq_false (fun z => h2.mp z rfl)
/-! a log against a way's own -/
theorem sgb_ok : ∀ b, b < 256 → (b < 128 → sgb b = nI b) ∧ (128 ≤ b → sgb b < 0) := by decide +kernel
def alQ (L : Nat) (tn : Bool) (td : Nat → Nat) (Q : List Nat) : Bool := if tn then (lz td L).isPrefixOf Q else decide (lz td L = Q)
theorem alS_Q {li L : Nat} {tn : Bool} {td : Nat → Nat} {p : List Nat} : alS li L tn td p = alQ L tn td (p.filter (Nat.testBit li)) := rfl
theorem pre_iff {td : Nat → Nat} {L : Nat} {Q : List Nat} : (lz td L).isPrefixOf Q = true ↔ ∀ u, u < L → u < Q.length ∧ Q.getD u 0 = td u := by
  rw [List.isPrefixOf_iff_prefix]
  constructor
  · rintro ⟨r, rfl⟩ u hu
    refine ⟨by rw [List.length_append, lz_len]; omega, ?_⟩
    rw [List.getD_eq_getElem?_getD, List.getElem?_append_left (by rw [lz_len]; exact hu), lz_get hu]; rfl
  · intro h
    refine ⟨Q.drop L, ?_⟩
    have h1 : lz td L = Q.take L := by
      refine List.ext_getElem? (fun u => ?_)
      rcases Nat.lt_or_ge u L with hu | hu
      · obtain ⟨a, b⟩ := h u hu
        rw [lz_get hu, List.getElem?_take_of_lt hu, List.getElem?_eq_getElem a, ← b, List.getD_eq_getElem?_getD, List.getElem?_eq_getElem a]; rfl
      · rw [List.getElem?_eq_none (by rw [lz_len]; exact hu), List.getElem?_eq_none (by rw [List.length_take]; omega)]
    rw [h1]; exact List.take_append_drop L Q
theorem alQ_no {td : Nat → Nat} {L : Nat} {tn : Bool} {Q : List Nat} {j : Nat} (hj : j < L) (h : ¬ (j < Q.length ∧ Q.getD j 0 = td j)) : alQ L tn td Q = false := by
  unfold alQ
  cases tn
  · rw [if_neg (by decide)]
    refine decide_eq_false (fun he => h ?_)
    have h2 : (lz td L).isPrefixOf Q = true := by rw [List.isPrefixOf_iff_prefix, he]; exact List.prefix_refl _
    exact pre_iff.mp h2 j hj
  · rw [if_pos rfl]
    cases hp : (lz td L).isPrefixOf Q
    · rfl
    · exact absurd (pre_iff.mp hp j hj) h
theorem alQ_end {td : Nat → Nat} {L : Nat} {tn : Bool} {Q : List Nat} (h : ∀ u, u < L → u < Q.length ∧ Q.getD u 0 = td u) (h2 : tn = true ∨ ¬ L < Q.length) : alQ L tn td Q = true := by
  unfold alQ
  have h3 := pre_iff.mpr h
  cases tn
  · rw [if_neg (by decide)]
    obtain ⟨r, hr⟩ := List.isPrefixOf_iff_prefix.mp h3
    have h4 : r = [] := by
      rcases h2 with h2 | h2
      · cases h2
      · rw [← hr, List.length_append, lz_len] at h2
        exact List.length_eq_zero_iff.mp (by omega)
    rw [h4, List.append_nil] at hr
    exact decide_eq_true hr
  · rw [if_pos rfl]; exact h3
theorem alQ_end0 {td : Nat → Nat} {L : Nat} {Q : List Nat} (h2 : L < Q.length) : alQ L false td Q = false := by
  unfold alQ
  rw [if_neg (by decide)]
  exact decide_eq_false (fun he => by rw [← he, lz_len] at h2; omega)
