/-! PURE: what the partings say -/
def aptB (S T : Nat → Nat) (C : Nat) (ea : Bool) (fa X : Nat) : Bool := (prs C C (C + 1)).all (fun q => !(ea || decide ((T q.1 ^^^ T q.2) &&& fa ≠ 0)) || decide (¬ (S q.1 ^^^ S q.2) &&& X = 0))
def PV (S T : Nat → Nat) (C : Nat) (ea : Bool) (fa : Nat) (z : Nat → Nat) (pn : Nat) : Prop := ∀ X, (∀ q, q < pn → ¬ z q &&& X = 0) ↔ aptB S T C ea fa X = true
theorem sbs_hit {y x X : Nat} (hy : y < 65536) (h : sbs y x = true) (hX : ¬ y &&& X = 0) : ¬ x &&& X = 0 := by
  obtain ⟨i, hi⟩ := Nat.exists_testBit_of_ne_zero hX
  rw [Nat.testBit_and, Bool.and_eq_true] at hi
  have h1 : y &&& (65535 ^^^ x) = 0 := of_decide_eq_true h
  have h2 : (y &&& (65535 ^^^ x)).testBit i = false := by rw [h1]; simp
  have h3 : i < 16 := tb_big (k := 16) hy hi.1
  rw [Nat.testBit_and, hi.1, Bool.true_and, Nat.testBit_xor, show (65535 : Nat) = 2 ^ 16 - 1 from rfl, Nat.testBit_two_pow_sub_one, decide_eq_true h3] at h2
  have h4 : x.testBit i = true := by simpa using h2
  intro h5
  have h6 : (x &&& X).testBit i = true := by rw [Nat.testBit_and, h4, hi.2]; rfl
  rw [h5] at h6; simp at h6
theorem addL_hit {zl : List Nat} {x X : Nat} (hz : ∀ y ∈ zl, y < 65536) (hx : x < 65536) : (∀ y ∈ addL zl x, ¬ y &&& X = 0) ↔ (∀ y ∈ zl, ¬ y &&& X = 0) ∧ ¬ x &&& X = 0 := by
  unfold addL
  split
  · rename_i h
    rw [List.any_eq_true] at h
    obtain ⟨y, hy, hs⟩ := h
    exact ⟨fun h1 => ⟨h1, sbs_hit (hz y hy) hs (h1 y hy)⟩, fun h1 => h1.1⟩
  · constructor
    · intro h1
      have hxx : ¬ x &&& X = 0 := h1 x (List.mem_append_right _ (List.mem_singleton.mpr rfl))
      exact ⟨fun y hy => h1 y (List.mem_append_left _ hy), hxx⟩
    · rintro ⟨h1, h2⟩ y hy
      rcases List.mem_append.mp hy with h | h
      · exact h1 y h
      · rw [List.mem_singleton] at h; rw [h]; exact h2
theorem gfold_hit {S T : Nat → Nat} {ea : Bool} {fa X : Nat} : ∀ (l : List (Nat × Nat)) (st : List Nat × Nat), (∀ q ∈ l, S q.1 < 65536 ∧ S q.2 < 65536) → (∀ y ∈ st.1, y < 65536) → ((∀ y ∈ (l.foldl (gst S T ea fa) st).1, ¬ y &&& X = 0) ↔ (∀ y ∈ st.1, ¬ y &&& X = 0) ∧ ∀ q ∈ l, (ea || decide ((T q.1 ^^^ T q.2) &&& fa ≠ 0)) = true → ¬ (S q.1 ^^^ S q.2) &&& X = 0) := by
  intro l
  induction l with
  | nil => intro st _ _; simp
  | cons q l ih =>
    intro st hl hst
    have hq := hl q List.mem_cons_self
    have hx : S q.1 ^^^ S q.2 < 65536 := xor_lt 16 hq.1 hq.2
    have hl' : ∀ q' ∈ l, S q'.1 < 65536 ∧ S q'.2 < 65536 := fun q' h => hl q' (List.mem_cons_of_mem _ h)
    rw [List.foldl_cons]
    cases hc : (ea || decide ((T q.1 ^^^ T q.2) &&& fa ≠ 0))
    · have hg : gst S T ea fa st q = st := gst_f (i := q.1) (j := q.2) hc
      rw [hg, ih st hl' hst]
      constructor
      · rintro ⟨h1, h2⟩
        refine ⟨h1, fun q' hq' hc' => ?_⟩
        rcases List.mem_cons.mp hq' with rfl | hq'
        · rw [hc] at hc'; cases hc'
        · exact h2 q' hq' hc'
      · rintro ⟨h1, h2⟩; exact ⟨h1, fun q' hq' hc' => h2 q' (List.mem_cons_of_mem _ hq') hc'⟩
    · have hg : gst S T ea fa st q = (addL st.1 (S q.1 ^^^ S q.2), capL st.2 st.1 (S q.1 ^^^ S q.2)) := gst_t (i := q.1) (j := q.2) hc
      rw [hg, ih _ hl' (addL_lt hst hx), addL_hit hst hx]
      constructor
      · rintro ⟨⟨h1, h3⟩, h2⟩
        refine ⟨h1, fun q' hq' hc' => ?_⟩
        rcases List.mem_cons.mp hq' with rfl | hq'
        · exact h3
        · exact h2 q' hq' hc'
      · rintro ⟨h1, h2⟩; exact ⟨⟨h1, h2 q List.mem_cons_self hc⟩, fun q' hq' hc' => h2 q' (List.mem_cons_of_mem _ hq') hc'⟩
theorem aptB_iff {S T : Nat → Nat} {C : Nat} {ea : Bool} {fa X : Nat} : aptB S T C ea fa X = true ↔ ∀ q ∈ prs C C (C + 1), (ea || decide ((T q.1 ^^^ T q.2) &&& fa ≠ 0)) = true → ¬ (S q.1 ^^^ S q.2) &&& X = 0 := by
  unfold aptB
  rw [List.all_eq_true]
  constructor
  · intro h q hq hc
    have h1 := h q hq
    rw [hc] at h1
    simpa using h1
  · intro h q hq
    cases hc : (ea || decide ((T q.1 ^^^ T q.2) &&& fa ≠ 0))
    · rfl
    · exact decide_eq_true (h q hq hc)
theorem gth_PV {S T : Nat → Nat} {C : Nat} {ea : Bool} {fa cap : Nat} {z : Nat → Nat} {pn : Nat} (hS : ∀ i, i < C → S i < 65536) (h : lz z pn = (gth S T ea fa cap (prs C C (C + 1))).1) : PV S T C ea fa z pn := by
  intro X
  have h1 := gfold_hit (S := S) (T := T) (ea := ea) (fa := fa) (X := X) (prs C C (C + 1)) ([], cap) (fun q hq => by
    have := prs_iff.mp (show (q.1, q.2) ∈ prs C C (C + 1) from hq)
    exact ⟨hS _ (by omega), hS _ this.2⟩) (fun y hy => absurd hy List.not_mem_nil)
  rw [aptB_iff]
  have h2 : (∀ q, q < pn → ¬ z q &&& X = 0) ↔ ∀ y ∈ (gth S T ea fa cap (prs C C (C + 1))).1, ¬ y &&& X = 0 := by
    rw [← h]
    constructor
    · intro h3 y hy; obtain ⟨q, a, rfl⟩ := lz_mem.mp hy; exact h3 q a
    · intro h3 q hq; exact h3 _ (lz_mem.mpr ⟨q, hq, rfl⟩)
  rw [h2]
  unfold gth
  rw [h1]
  exact ⟨fun h3 => h3.2, fun h3 => ⟨fun y hy => absurd hy List.not_mem_nil, h3⟩⟩
theorem gfold_lt {S T : Nat → Nat} {ea : Bool} {fa : Nat} : ∀ (l : List (Nat × Nat)) (st : List Nat × Nat), (∀ q ∈ l, S q.1 < 65536 ∧ S q.2 < 65536) → (∀ y ∈ st.1, y < 65536) → ∀ y ∈ (l.foldl (gst S T ea fa) st).1, y < 65536 := by
  intro l
  induction l with
  | nil => intro st _ h; exact h
  | cons q l ih =>
    intro st hl hst
    have hq := hl q List.mem_cons_self
    rw [List.foldl_cons]
    refine ih _ (fun q' h => hl q' (List.mem_cons_of_mem _ h)) ?_
    unfold gst; split
    · exact addL_lt hst (xor_lt 16 hq.1 hq.2)
    · exact hst
theorem gth_lt {S T : Nat → Nat} {C : Nat} {ea : Bool} {fa cap : Nat} {z : Nat → Nat} {pn : Nat} (hS : ∀ i, i < C → S i < 65536) (h : lz z pn = (gth S T ea fa cap (prs C C (C + 1))).1) : ∀ q, q < pn → z q < 65536 := fun q hq => by
  have h1 : z q ∈ lz z pn := lz_mem.mpr ⟨q, hq, rfl⟩
  rw [h] at h1
  exact gfold_lt (prs C C (C + 1)) ([], cap) (fun q hq => by
    have := prs_iff.mp (show (q.1, q.2) ∈ prs C C (C + 1) from hq)
    exact ⟨hS _ (by omega), hS _ this.2⟩) (fun y hy => absurd hy List.not_mem_nil) _ h1
theorem gth_congr {S T S' T' : Nat → Nat} {ea : Bool} {fa cap : Nat} {num : Nat} (h : ∀ i, i < num → S i = S' i ∧ T i = T' i) : gth S T ea fa cap (prs num num (num + 1)) = gth S' T' ea fa cap (prs num num (num + 1)) := by
  have h1 : ∀ (l : List (Nat × Nat)) (st : List Nat × Nat), (∀ q ∈ l, q.1 < num ∧ q.2 < num) → l.foldl (gst S T ea fa) st = l.foldl (gst S' T' ea fa) st := by
    intro l
    induction l with
    | nil => intro st _; rfl
    | cons q l ih =>
      intro st hl
      have hq := hl q List.mem_cons_self
      rw [List.foldl_cons, List.foldl_cons, ih _ (fun q' h => hl q' (List.mem_cons_of_mem _ h))]
      congr 1
      unfold gst
      rw [(h _ hq.1).1, (h _ hq.1).2, (h _ hq.2).1, (h _ hq.2).2]
  exact h1 _ _ (fun q hq => by have := prs_iff.mp (show (q.1, q.2) ∈ prs num num (num + 1) from hq); omega)
theorem PV_fnm {S T : Nat → Nat} {C : Nat} {ea : Bool} {fa : Nat} {z : Nat → Nat} {pn X : Nat} (h : PV S T C ea fa z pn) : decide (fnm z X pn 0 = pn) = aptB S T C ea fa X := by
  rw [Bool.eq_iff_iff, ← h X, decide_eq_true_eq]
  obtain ⟨h1, h2, h3, h4⟩ := fnm_sp (z := z) (ch := X) (s := 0) (Nat.zero_le pn)
  constructor
  · intro h5 q hq; exact h4 q (Nat.zero_le _) (by omega)
  · intro h5
    rcases Nat.lt_or_ge (fnm z X pn 0) pn with h6 | h6
    · exact absurd (h3 h6) (h5 _ h6)
    · omega
