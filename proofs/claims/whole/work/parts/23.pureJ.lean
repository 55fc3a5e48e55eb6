/-! PURE: the lowest bit, the order of sets, the search finds the best -/
theorem low_ex {u : Nat} (h0 : u ≠ 0) : ∃ t, u.testBit t = true ∧ ∀ s, s < t → u.testBit s = false := by
  obtain ⟨t, h1, h2⟩ := pk_least (fun t => u.testBit t = true) (Nat.exists_testBit_of_ne_zero h0)
  exact ⟨t, h1, fun s hs => by cases h : u.testBit s; rfl; exact absurd h (h2 s hs)⟩
theorem low_pred {u t : Nat} (h1 : u.testBit t = true) (h2 : ∀ s, s < t → u.testBit s = false) (i : Nat) : (u - 1).testBit i = if i < t then true else if i = t then false else u.testBit i := by
  have hm : u % 2 ^ t = 0 := by
    refine Nat.eq_of_testBit_eq (fun i => ?_)
    rw [Nat.testBit_mod_two_pow, Nat.zero_testBit]
    by_cases h : i < t
    · rw [h2 i h, Bool.and_false]
    · rw [decide_eq_false h, Bool.false_and]
  have hu : u = 2 ^ t * (u / 2 ^ t) := by have := Nat.div_add_mod u (2 ^ t); omega
  have ha : (u / 2 ^ t).testBit 0 = true := by rw [Nat.testBit_div_two_pow, Nat.zero_add]; exact h1
  generalize u / 2 ^ t = a at hu ha
  have hodd : a % 2 = 1 := by
    rw [Nat.testBit_eq_decide_div_mod_eq] at ha; simpa using ha
  have hp : 0 < 2 ^ t := Nat.pow_pos (by decide)
  have hu1 : u - 1 = 2 ^ t * (a - 1) + (2 ^ t - 1) := by
    obtain ⟨m, rfl⟩ : ∃ m, a = m + 1 := ⟨a - 1, by omega⟩
    rw [hu, Nat.mul_add, Nat.mul_one]; simp; omega
  rw [hu1, Nat.testBit_two_pow_mul_add _ (by omega)]
  by_cases hi : i < t
  · rw [if_pos hi, if_pos hi, Nat.testBit_two_pow_sub_one]; exact decide_eq_true hi
  · rw [if_neg hi, if_neg hi]
    by_cases hit : i = t
    · rw [if_pos hit, hit, Nat.sub_self, Nat.testBit_eq_decide_div_mod_eq]; simp; omega
    · rw [if_neg hit, hu, Nat.testBit_two_pow_mul, decide_eq_true (show i ≥ t by omega), Bool.true_and]
      obtain ⟨s, hs⟩ : ∃ s, i - t = s + 1 := ⟨i - t - 1, by omega⟩
      rw [hs, Nat.testBit_succ, Nat.testBit_succ, show (a - 1) / 2 = a / 2 by omega]
theorem lowb_bit {u t : Nat} (hu : u < 65536) (h1 : u.testBit t = true) (h2 : ∀ s, s < t → u.testBit s = false) : lowb u = 1 <<< t := by
  have h0 : u ≠ 0 := fun h => by rw [h] at h1; simp at h1
  have ht : t < 16 := tb_big (k := 16) hu h1
  refine Nat.eq_of_testBit_eq (fun i => ?_)
  unfold lowb
  rw [Nat.testBit_and, show 2 ^ 32 - u = 2 ^ 32 - ((u - 1) + 1) by omega, Nat.testBit_two_pow_sub_succ (by omega), low_pred h1 h2, tb_one]
  by_cases hi : i < t
  · rw [h2 i hi, Bool.false_and, decide_eq_false (by omega)]
  · rw [if_neg hi]
    by_cases hit : i = t
    · subst hit; rw [if_pos rfl, h1, decide_eq_true (show i < 32 by omega), decide_eq_true rfl]; rfl
    · rw [if_neg hit, decide_eq_false (show ¬ t = i by omega)]
      cases u.testBit i <;> simp
theorem and_one {x t : Nat} : ¬ x &&& 1 <<< t = 0 ↔ x.testBit t = true := by
  constructor
  · intro h
    obtain ⟨i, hi⟩ := Nat.exists_testBit_of_ne_zero h
    rw [Nat.testBit_and, tb_one, Bool.and_eq_true, decide_eq_true_eq] at hi
    rw [hi.2]; exact hi.1
  · intro h h2
    have h3 : (x &&& 1 <<< t).testBit t = true := by rw [Nat.testBit_and, tb_one, h]; simp
    rw [h2] at h3; simp at h3
/-- of two sets of one size: the first has the lowest step in which they differ -/
theorem rat_eq {a b t : Nat} (ha : a < 65536) (hb : b < 65536) (hp : pop a = pop b) (h1 : a.testBit t = !b.testBit t) (h2 : ∀ s, s < t → a.testBit s = b.testBit s) : rat a b = a.testBit t := by
  have h3 : (a ^^^ b).testBit t = true := by rw [Nat.testBit_xor, h1]; cases b.testBit t <;> rfl
  have h4 : ∀ s, s < t → (a ^^^ b).testBit s = false := fun s hs => by rw [Nat.testBit_xor, h2 s hs]; cases b.testBit s <;> rfl
  unfold rat
  rw [lowb_bit (xor_lt 16 ha hb) h3 h4]
  rw [Bool.eq_iff_iff, decide_eq_true_eq, and_one]
  exact ⟨fun h => by rcases h with h | h; omega; exact h.2, fun h => Or.inr ⟨hp, h⟩⟩
theorem diff_ex {a b : Nat} (h : a ≠ b) : ∃ t, a.testBit t = !b.testBit t ∧ ∀ s, s < t → a.testBit s = b.testBit s := by
  have h0 : a ^^^ b ≠ 0 := fun h1 => h (by
    refine Nat.eq_of_testBit_eq (fun i => ?_)
    have h2 : (a ^^^ b).testBit i = false := by rw [h1]; simp
    rw [Nat.testBit_xor] at h2
    cases ha : a.testBit i <;> cases hb : b.testBit i <;> rw [ha, hb] at h2 <;> first | rfl | cases h2)
  obtain ⟨t, h1, h2⟩ := low_ex h0
  refine ⟨t, ?_, fun s hs => ?_⟩
  · rw [Nat.testBit_xor] at h1
    cases ha : a.testBit t <;> cases hb : b.testBit t <;> rw [ha, hb] at h1 <;> first | rfl | cases h1
  · have h3 := h2 s hs
    rw [Nat.testBit_xor] at h3
    cases ha : a.testBit s <;> cases hb : b.testBit s <;> rw [ha, hb] at h3 <;> first | rfl | cases h3
theorem rat_irr (a : Nat) : rat a a = false := by
  unfold rat; rw [Nat.xor_self]; simp [lowb]
theorem rat_tot {a b : Nat} (ha : a < 65536) (hb : b < 65536) (h : a ≠ b) : rat a b = true ∨ rat b a = true := by
  rcases Nat.lt_trichotomy (pop a) (pop b) with h1 | h1 | h1
  · exact Or.inl (decide_eq_true (Or.inl h1))
  · obtain ⟨t, t1, t2⟩ := diff_ex h
    cases hbt : b.testBit t
    · left; rw [rat_eq ha hb h1 t1 t2, t1, hbt]; rfl
    · right; rw [rat_eq hb ha h1.symm (by rw [t1]; cases b.testBit t <;> rfl) (fun s hs => (t2 s hs).symm)]; exact hbt
  · exact Or.inr (decide_eq_true (Or.inl h1))
theorem rat_pop {a b : Nat} (h : rat a b = true) : pop a ≤ pop b := by
  have h1 := of_decide_eq_true h; omega
theorem rat_trans {a b c : Nat} (ha : a < 65536) (hb : b < 65536) (hc : c < 65536) (h1 : rat a b = true) (h2 : rat b c = true) : rat a c = true := by
  have p1 := rat_pop h1; have p2 := rat_pop h2
  rcases Nat.lt_or_ge (pop a) (pop c) with h3 | h3
  · exact decide_eq_true (Or.inl h3)
  have e1 : pop a = pop b := by omega
  have e2 : pop b = pop c := by omega
  have n1 : a ≠ b := fun h => by rw [h, rat_irr] at h1; cases h1
  have n2 : b ≠ c := fun h => by rw [h, rat_irr] at h2; cases h2
  obtain ⟨t, t1, t2⟩ := diff_ex n1
  obtain ⟨u, u1, u2⟩ := diff_ex n2
  rw [rat_eq ha hb e1 t1 t2] at h1
  rw [rat_eq hb hc e2 u1 u2] at h2
  rcases Nat.lt_trichotomy t u with h | h | h
  · have hct : c.testBit t = b.testBit t := (u2 t h).symm
    rw [rat_eq ha hc (by omega) (t := t) (by rw [t1, hct]) (fun s hs => by rw [t2 s hs, u2 s (by omega)])]
    exact h1
  · subst h; rw [t1, h2] at h1; cases h1
  · have hau : a.testBit u = b.testBit u := t2 u h
    rw [rat_eq ha hc (by omega) (t := u) (by rw [hau, u1]) (fun s hs => by rw [t2 s (by omega), u2 s hs]), hau]
    exact h2
/-- X is at least as good as Y -/
def bst (ct : Nat → Nat) (k X Y : Nat) : Prop := X = Y ∨ prc ct X k < prc ct Y k ∨ (prc ct X k = prc ct Y k ∧ rat X Y = true)
theorem bst_trans {ct : Nat → Nat} {k X Y Z : Nat} (hX : X < 65536) (hY : Y < 65536) (hZ : Z < 65536) (h1 : bst ct k X Y) (h2 : bst ct k Y Z) : bst ct k X Z := by
  rcases h1 with rfl | h1
  · exact h2
  · rcases h2 with rfl | h2
    · exact Or.inr h1
    · right
      rcases h1 with h1 | ⟨h1, r1⟩ <;> rcases h2 with h2 | ⟨h2, r2⟩
      · left; omega
      · left; omega
      · left; omega
      · right; exact ⟨by omega, rat_trans hX hY hZ r1 r2⟩
theorem bst_anti {ct : Nat → Nat} {k X Y : Nat} (hX : X < 65536) (hY : Y < 65536) (h1 : bst ct k X Y) (h2 : bst ct k Y X) : X = Y := by
  rcases h1 with h | h1
  · exact h
  · rcases h2 with h | h2
    · exact h.symm
    · rcases h1 with h1 | ⟨h1, r1⟩ <;> rcases h2 with h2 | ⟨h2, r2⟩
      · omega
      · omega
      · omega
      · have := rat_trans hX hY hX r1 r2; rw [rat_irr] at this; cases this
def Opt (k : Nat) (ct : Nat → Nat) (A : Nat → Bool) (gv X : Nat) : Prop := X < 2 ^ k ∧ gv &&& X = gv ∧ A X = true ∧ ∀ Y, Y < 2 ^ k → gv &&& Y = gv → A Y = true → bst ct k X Y
theorem Opt_uniq {k : Nat} {ct : Nat → Nat} {A : Nat → Bool} {gv X Y : Nat} (hk : k ≤ 16) (h1 : Opt k ct A gv X) (h2 : Opt k ct A gv Y) : X = Y := by
  have hp : (2 : Nat) ^ k ≤ 2 ^ 16 := Nat.pow_le_pow_right (by decide) hk
  exact bst_anti (by have := h1.1; omega) (by have := h2.1; omega) (h1.2.2.2 Y h2.1 h2.2.1 h2.2.2.1) (h2.2.2.2 X h1.1 h1.2.1 h1.2.2.1)
theorem prc_sub {ct : Nat → Nat} {X Y : Nat} (h : ∀ i, X.testBit i = true → Y.testBit i = true) : ∀ k, prc ct X k ≤ prc ct Y k ∧ (prc ct X k = prc ct Y k → ∀ i, i < k → X.testBit i = Y.testBit i) := by
  intro k
  induction k with
  | zero => exact ⟨Nat.le_refl _, fun _ i hi => absurd hi (Nat.not_lt_zero _)⟩
  | succ k ih =>
    rw [prc, prc]
    cases hx : X.testBit k
    · cases hy : Y.testBit k
      · refine ⟨by simpa using ih.1, fun he i hi => ?_⟩
        rcases Nat.lt_or_ge i k with h1 | h1
        · exact ih.2 (by simpa using he) i h1
        · rw [show i = k by omega, hx, hy]
      · have := ih.1
        exact ⟨by simp; omega, fun he => by simp at he; omega⟩
    · have hy := h k hx
      rw [hy]
      refine ⟨by have := ih.1; simp; omega, fun he i hi => ?_⟩
      rcases Nat.lt_or_ge i k with h1 | h1
      · exact ih.2 (by simpa using he) i h1
      · rw [show i = k by omega, hx, hy]
theorem prc_low {ct : Nat → Nat} {X e : Nat} : ∀ k, k ≤ e → prc ct (X ||| 1 <<< e) k = prc ct X k := by
  intro k
  induction k with
  | zero => intro _; rfl
  | succ k ih =>
    intro hk
    rw [prc, prc, ih (by omega), Nat.testBit_or, tb_one, decide_eq_false (show ¬ e = k by omega), Bool.or_false]
theorem prc_add {ct : Nat → Nat} {X e : Nat} (hx : X.testBit e = false) : ∀ k, e < k → prc ct (X ||| 1 <<< e) k = prc ct X k + ct e + 1 := by
  intro k
  induction k with
  | zero => intro h; exact absurd h (Nat.not_lt_zero _)
  | succ k ih =>
    intro hk
    rw [prc, prc]
    by_cases h : e = k
    · subst h
      rw [prc_low _ (Nat.le_refl _), Nat.testBit_or, tb_one, hx]; simp; omega
    · rw [ih (by omega), Nat.testBit_or, tb_one, decide_eq_false h, Bool.or_false]; omega
theorem prc_cnt {X k : Nat} : prc (fun _ => 0) X k ≤ k ∧ (prc (fun _ => 0) X k = k → ∀ i, i < k → X.testBit i = true) := by
  induction k with
  | zero => exact ⟨Nat.le_refl _, fun _ i hi => absurd hi (Nat.not_lt_zero _)⟩
  | succ k ih =>
    rw [prc]
    cases hx : X.testBit k
    · exact ⟨by simp; omega, fun h => by simp at h; omega⟩
    · refine ⟨by simp; omega, fun h i hi => ?_⟩
      rcases Nat.lt_or_ge i k with h1 | h1
      · exact ih.2 (by simp at h; exact h) i h1
      · rw [show i = k by omega]; exact hx
theorem sub_tb {g X : Nat} (h : g &&& X = g) (i : Nat) (hi : g.testBit i = true) : X.testBit i = true := by
  rw [← h, Nat.testBit_and, Bool.and_eq_true] at hi; exact hi.2
theorem tb_sub {g X : Nat} (h : ∀ i, g.testBit i = true → X.testBit i = true) : g &&& X = g := by
  refine Nat.eq_of_testBit_eq (fun i => ?_)
  rw [Nat.testBit_and]
  cases hg : g.testBit i
  · rfl
  · rw [h i hg]; rfl
theorem lt_eq {X Y k : Nat} (hX : X < 2 ^ k) (hY : Y < 2 ^ k) (h : ∀ i, i < k → X.testBit i = Y.testBit i) : X = Y := by
  refine Nat.eq_of_testBit_eq (fun i => ?_)
  rcases Nat.lt_or_ge i k with h1 | h1
  · exact h i h1
  · rw [Nat.testBit_lt_two_pow (Nat.lt_of_lt_of_le hX (Nat.pow_le_pow_right (by decide) h1)), Nat.testBit_lt_two_pow (Nat.lt_of_lt_of_le hY (Nat.pow_le_pow_right (by decide) h1))]
/-- a set that may be chosen -/
def Fea (k gv : Nat) (z : Nat → Nat) (pn X : Nat) : Prop := X < 2 ^ k ∧ gv &&& X = gv ∧ ∀ q, q < pn → ¬ z q &&& X = 0
def StO (k : Nat) (ct : Nat → Nat) (gv : Nat) (z : Nat → Nat) (pn : Nat) (st : Nat × Nat) : Prop := Fea k gv z pn st.1 ∧ st.2 = prc ct st.1 k
theorem bst_of_lt {ct : Nat → Nat} {k X Y : Nat} (h : prc ct X k < prc ct Y k) : bst ct k X Y := Or.inr (Or.inl h)
theorem ofr_ok {k : Nat} {ct : Nat → Nat} {gv : Nat} {z : Nat → Nat} {pn : Nat} {st : Nat × Nat} {ch : Nat} (hk : k ≤ 16) (hs : StO k ct gv z pn st) (hc : Fea k gv z pn ch) : StO k ct gv z pn (ofr st ch (prc ct ch k)) ∧ bst ct k (ofr st ch (prc ct ch k)).1 st.1 ∧ bst ct k (ofr st ch (prc ct ch k)).1 ch := by
  have hp : (2 : Nat) ^ k ≤ 2 ^ 16 := Nat.pow_le_pow_right (by decide) hk
  unfold ofr
  rw [hs.2]
  split
  · rename_i h
    exact ⟨⟨hc, rfl⟩, Or.inr h, Or.inl rfl⟩
  · rename_i h
    refine ⟨hs, Or.inl rfl, ?_⟩
    by_cases he : st.1 = ch
    · exact Or.inl he
    · have h1 := hs.1.1; have h2 := hc.1
      rcases Nat.lt_trichotomy (prc ct st.1 k) (prc ct ch k) with h3 | h3 | h3
      · exact Or.inr (Or.inl h3)
      · rcases rat_tot (by omega) (by omega) he with h4 | h4
        · exact Or.inr (Or.inr ⟨h3, h4⟩)
        · exact absurd (Or.inr ⟨h3.symm, h4⟩) h
      · exact absurd (Or.inl h3) h
theorem chz_ok {k : Nat} {ct : Nat → Nat} {gv : Nat} {z : Nat → Nat} {pn : Nat} (hk : k ≤ 16) (hz : ∀ q, q < pn → z q < 2 ^ k) : ∀ (f s ch bar pr : Nat) (st : Nat × Nat), k ≤ prc (fun _ => 0) ch k + f → s ≤ pn → ch < 2 ^ k → gv &&& ch = gv → pr = prc ct ch k → bar < 65536 → (∀ q, q < s → ¬ z q &&& ch = 0) → StO k ct gv z pn st →
    StO k ct gv z pn (chz k ct z pn f s ch bar pr st) ∧ bst ct k (chz k ct z pn f s ch bar pr st).1 st.1 ∧ ∀ Y, Fea k gv z pn Y → ch &&& Y = ch → (∀ i, Y.testBit i = true → bar.testBit i = false) → bst ct k (chz k ct z pn f s ch bar pr st).1 Y := by
  have hp : (2 : Nat) ^ k ≤ 2 ^ 16 := Nat.pow_le_pow_right (by decide) hk
  intro f
  induction f with
  | zero =>
    intro s ch bar pr st hf hs hch hg hpr hbar hpre hst
    obtain ⟨f1, f2, f3, f4⟩ := fnm_sp (z := z) (ch := ch) (pn := pn) hs
    by_cases ho : pn ≤ fnm z ch pn s
    · rw [chz_o ho, hpr]
      have hc : Fea k gv z pn ch := ⟨hch, hg, fun q hq => by
        rcases Nat.lt_or_ge q s with h | h
        · exact hpre q h
        · exact f4 q h (by omega)⟩
      obtain ⟨o1, o2, o3⟩ := ofr_ok (ct := ct) hk hst hc
      refine ⟨o1, o2, fun Y hY hsub _ => bst_trans (by have := o1.1.1; omega) (by omega) (by have := hY.1; omega) o3 ?_⟩
      obtain ⟨p1, p2⟩ := prc_sub (ct := ct) (X := ch) (Y := Y) (sub_tb hsub) k
      rcases Nat.lt_or_ge (prc ct ch k) (prc ct Y k) with h | h
      · exact bst_of_lt h
      · exact Or.inl (lt_eq hch hY.1 (p2 (by omega)))
    · rw [chz_0 ho]
      refine ⟨hst, Or.inl rfl, fun Y hY hsub _ => ?_⟩
      have hfull := (prc_cnt (X := ch) (k := k)).2 (by have := (prc_cnt (X := ch) (k := k)).1; omega)
      have he : ch = Y := lt_eq hch hY.1 (fun i hi => by rw [hfull i hi, sub_tb hsub i (hfull i hi)])
      exact absurd (f3 (by omega)) (by rw [he]; exact hY.2.2 _ (by rw [← he]; omega))
  | succ f ih =>
    intro s ch bar pr st hf hs hch hg hpr hbar hpre hst
    obtain ⟨f1, f2, f3, f4⟩ := fnm_sp (z := z) (ch := ch) (pn := pn) hs
    by_cases ho : pn ≤ fnm z ch pn s
    · rw [chz_o ho, hpr]
      have hc : Fea k gv z pn ch := ⟨hch, hg, fun q hq => by
        rcases Nat.lt_or_ge q s with h | h
        · exact hpre q h
        · exact f4 q h (by omega)⟩
      obtain ⟨o1, o2, o3⟩ := ofr_ok (ct := ct) hk hst hc
      refine ⟨o1, o2, fun Y hY hsub _ => bst_trans (by have := o1.1.1; omega) (by omega) (by have := hY.1; omega) o3 ?_⟩
      obtain ⟨p1, p2⟩ := prc_sub (ct := ct) (X := ch) (Y := Y) (sub_tb hsub) k
      rcases Nat.lt_or_ge (prc ct ch k) (prc ct Y k) with h | h
      · exact bst_of_lt h
      · exact Or.inl (lt_eq hch hY.1 (p2 (by omega)))
    · rw [chz_q ho]
      have hon : fnm z ch pn s < pn := by omega
      have hz0 := f3 hon
      have hzo := hz _ hon
      have hdis : ∀ i, (z (fnm z ch pn s)).testBit i = true → ch.testBit i = false := fun i hi => by
        cases hc : ch.testBit i
        · rfl
        · have h9 : (z (fnm z ch pn s) &&& ch).testBit i = true := by rw [Nat.testBit_and, hi, hc]; rfl
          rw [hz0] at h9; simp at h9
      -- the fold
      have key : ∀ e, e ≤ k → StO k ct gv z pn (chq k ct z pn f s ch bar pr st e).1 ∧ bst ct k (chq k ct z pn f s ch bar pr st e).1.1 st.1 ∧ (chq k ct z pn f s ch bar pr st e).2 < 65536 ∧ (∀ i, (chq k ct z pn f s ch bar pr st e).2.testBit i = true ↔ bar.testBit i = true ∨ (i < e ∧ (z (fnm z ch pn s)).testBit i = true)) ∧
          ∀ Y, Fea k gv z pn Y → ch &&& Y = ch → (∀ i, Y.testBit i = true → bar.testBit i = false) → (∃ i, i < e ∧ Y.testBit i = true ∧ (z (fnm z ch pn s)).testBit i = true) → bst ct k (chq k ct z pn f s ch bar pr st e).1.1 Y := by
        intro e
        induction e with
        | zero =>
          intro _
          exact ⟨hst, Or.inl rfl, hbar, fun i => ⟨fun h => Or.inl h, fun h => by rcases h with h | h; exact h; omega⟩, fun Y _ _ _ h => by obtain ⟨i, hi, _⟩ := h; omega⟩
        | succ e ihe =>
          intro hek
          obtain ⟨k1, k2, k3, k4, k5⟩ := ihe (by omega)
          cases hq : chq k ct z pn f s ch bar pr st e with
          | mk st2 tr =>
          rw [hq] at k1 k2 k3 k4 k5
          dsimp only at k1 k2 k3 k4 k5
          have hmt : (z (fnm z ch pn s) &&& (65535 ^^^ tr)).testBit e = ((z (fnm z ch pn s)).testBit e && !tr.testBit e) := by
            rw [Nat.testBit_and, Nat.testBit_xor, show (65535 : Nat) = 2 ^ 16 - 1 from rfl, Nat.testBit_two_pow_sub_one, decide_eq_true (show e < 16 by omega)]; simp
          cases hmem : (z (fnm z ch pn s) &&& (65535 ^^^ tr)).testBit e
          · rw [chq_n hq hmem]
            rw [hmt] at hmem
            have hx : (z (fnm z ch pn s)).testBit e = true → tr.testBit e = true := fun h => by rw [h] at hmem; simpa using hmem
            have hb : (z (fnm z ch pn s)).testBit e = true → bar.testBit e = true := fun h => by
              rcases (k4 e).mp (hx h) with h1 | h1
              · exact h1
              · omega
            refine ⟨k1, k2, k3, fun i => ?_, fun Y hY hsub hdj hex => ?_⟩
            · rw [k4 i]
              constructor
              · rintro (h | h)
                · exact Or.inl h
                · exact Or.inr ⟨by omega, h.2⟩
              · rintro (h | ⟨h, h2⟩)
                · exact Or.inl h
                · by_cases hie : i = e
                  · subst hie; exact Or.inl (hb h2)
                  · exact Or.inr ⟨by omega, h2⟩
            · obtain ⟨i, h1, h2, h3⟩ := hex
              by_cases hie : i = e
              · subst hie; have := hdj i h2; rw [hb h3] at this; cases this
              · exact k5 Y hY hsub hdj ⟨i, by omega, h2, h3⟩
          · have hme : (z (fnm z ch pn s)).testBit e = true ∧ tr.testBit e = false := by rw [hmt, Bool.and_eq_true] at hmem; exact ⟨hmem.1, by simpa using hmem.2⟩
            have hce := hdis e hme.1
            have hek2 : e < k := by omega
            have htr2 : tr ||| 1 <<< e < 65536 := or_lt 16 k3 (one_lt (by omega))
            have hk4' : ∀ i, (tr ||| 1 <<< e).testBit i = true ↔ bar.testBit i = true ∨ (i < e + 1 ∧ (z (fnm z ch pn s)).testBit i = true) := fun i => by
              rw [Nat.testBit_or, Bool.or_eq_true, k4 i, tb_one, decide_eq_true_eq]
              constructor
              · rintro ((h | h) | h)
                · exact Or.inl h
                · exact Or.inr ⟨by omega, h.2⟩
                · subst h; exact Or.inr ⟨by omega, hme.1⟩
              · rintro (h | ⟨h, h2⟩)
                · exact Or.inl (Or.inl h)
                · by_cases hie : i = e
                  · exact Or.inr hie.symm
                  · exact Or.inl (Or.inr ⟨by omega, h2⟩)
            have hprc : prc ct (ch ||| 1 <<< e) k = pr + ct e + 1 := by rw [prc_add hce k hek2, hpr]
            have hmore : ch ||| 1 <<< e < 2 ^ k := or_lt k hch (one_lt hek2)
            -- a Y whose least is e
            have hYe : ∀ Y, Fea k gv z pn Y → ch &&& Y = ch → (∀ i, Y.testBit i = true → bar.testBit i = false) → (∃ i, i < e + 1 ∧ Y.testBit i = true ∧ (z (fnm z ch pn s)).testBit i = true) → (∃ i, i < e ∧ Y.testBit i = true ∧ (z (fnm z ch pn s)).testBit i = true) ∨ ((ch ||| 1 <<< e) &&& Y = ch ||| 1 <<< e ∧ ∀ i, Y.testBit i = true → tr.testBit i = false) := by
              intro Y hY hsub hdj hex
              by_cases hlo : ∃ i, i < e ∧ Y.testBit i = true ∧ (z (fnm z ch pn s)).testBit i = true
              · exact Or.inl hlo
              · right
                obtain ⟨i, h1, h2, h3⟩ := hex
                have hie : i = e := by
                  rcases Nat.lt_or_ge i e with h | h
                  · exact absurd ⟨i, h, h2, h3⟩ hlo
                  · omega
                subst hie
                refine ⟨tb_sub (fun j hj => ?_), fun j hj => ?_⟩
                · rw [Nat.testBit_or, Bool.or_eq_true, tb_one, decide_eq_true_eq] at hj
                  rcases hj with hj | rfl
                  · exact sub_tb hsub j hj
                  · exact h2
                · cases ht : tr.testBit j
                  · rfl
                  · rcases (k4 j).mp ht with h | ⟨h, h'⟩
                    · have := hdj j hj; rw [h] at this; cases this
                    · exact absurd ⟨j, h, hj, h'⟩ hlo
            by_cases hpb : st2.2 < pr + ct e + 1
            · rw [chq_x hq hmem hpb]
              dsimp only
              refine ⟨k1, k2, htr2, hk4', fun Y hY hsub hdj hex => ?_⟩
              rcases hYe Y hY hsub hdj hex with h | ⟨h, _⟩
              · exact k5 Y hY hsub hdj h
              · have h6 := (prc_sub (ct := ct) (sub_tb h) k).1
                refine bst_of_lt ?_
                have h7 : st2.2 = prc ct st2.1 k := k1.2
                omega
            · rw [chq_y hq hmem hpb]
              dsimp only
              obtain ⟨r1, r2, r3⟩ := ih (fnm z ch pn s + 1) (ch ||| 1 <<< e) tr (pr + ct e + 1) st2 (by have := prc_add (ct := fun _ => 0) hce k hek2; simp at this; omega) (by omega) hmore (tb_sub (fun i hi => by rw [Nat.testBit_or, sub_tb hg i hi]; rfl)) hprc.symm k3 (fun q hq' => by
                rcases Nat.lt_or_ge q (fnm z ch pn s) with h | h
                · have h8 : ¬ z q &&& ch = 0 := by
                    rcases Nat.lt_or_ge q s with h9 | h9
                    · exact hpre q h9
                    · exact f4 q h9 h
                  obtain ⟨i, hi⟩ := Nat.exists_testBit_of_ne_zero h8
                  rw [Nat.testBit_and, Bool.and_eq_true] at hi
                  intro h10
                  have h11 : (z q &&& (ch ||| 1 <<< e)).testBit i = true := by rw [Nat.testBit_and, Nat.testBit_or, hi.1, hi.2]; rfl
                  rw [h10] at h11; simp at h11
                · have hqo : q = fnm z ch pn s := by omega
                  intro h10
                  have h11 : (z q &&& (ch ||| 1 <<< e)).testBit e = true := by rw [Nat.testBit_and, Nat.testBit_or, tb_one, hqo, hme.1]; simp
                  rw [h10] at h11; simp at h11) k1
              refine ⟨r1, bst_trans (by have := r1.1.1; omega) (by have := k1.1.1; omega) (by have := hst.1.1; omega) r2 k2, htr2, hk4', fun Y hY hsub hdj hex => ?_⟩
              rcases hYe Y hY hsub hdj hex with h | ⟨h, h'⟩
              · exact bst_trans (by have := r1.1.1; omega) (by have := k1.1.1; omega) (by have := hY.1; omega) r2 (k5 Y hY hsub hdj h)
              · exact r3 Y hY h h'
      obtain ⟨k1, k2, _, _, k5⟩ := key k (Nat.le_refl k)
      refine ⟨k1, k2, fun Y hY hsub hdj => k5 Y hY hsub hdj ?_⟩
      obtain ⟨i, hi⟩ := Nat.exists_testBit_of_ne_zero (hY.2.2 _ hon)
      rw [Nat.testBit_and, Bool.and_eq_true] at hi
      exact ⟨i, tb_big hY.1 hi.2, hi.2, hi.1⟩
theorem chz_opt {k : Nat} {ct : Nat → Nat} {gv : Nat} {z : Nat → Nat} {pn : Nat} {A : Nat → Bool} (hk : k ≤ 16) (hz : ∀ q, q < pn → z q < 2 ^ k) (hA : ∀ X, (∀ q, q < pn → ¬ z q &&& X = 0) ↔ A X = true) (hgv : gv < 2 ^ k) (hfull : A (2 ^ k - 1) = true) : Opt k ct A gv (chz k ct z pn 16 0 gv 0 (prc ct gv k) (2 ^ k - 1, prc ct (2 ^ k - 1) k)).1 := by
  have hp : 0 < 2 ^ k := Nat.pow_pos (by decide)
  have hst : StO k ct gv z pn (2 ^ k - 1, prc ct (2 ^ k - 1) k) := ⟨⟨by show 2 ^ k - 1 < 2 ^ k; omega, by
    rw [Nat.and_two_pow_sub_one_eq_mod, Nat.mod_eq_of_lt hgv], (hA _).mpr hfull⟩, rfl⟩
  obtain ⟨h1, _, h3⟩ := chz_ok (ct := ct) (gv := gv) (z := z) (pn := pn) hk hz 16 0 gv 0 (prc ct gv k) (2 ^ k - 1, prc ct (2 ^ k - 1) k) (by omega) (Nat.zero_le _) hgv (Nat.and_self _) rfl (by decide) (fun q hq => absurd hq (Nat.not_lt_zero _)) hst
  exact ⟨h1.1.1, h1.1.2.1, (hA _).mp h1.1.2.2, fun Y y1 y2 y3 => h3 Y ⟨y1, y2, (hA Y).mpr y3⟩ y2 (fun i _ => by simp)⟩
