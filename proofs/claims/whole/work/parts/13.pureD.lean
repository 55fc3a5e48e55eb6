/-! PURE for Partings -/
def lz (z : Nat → Nat) (n : Nat) : List Nat := (List.range n).map z
theorem lz_s (z : Nat → Nat) (i : Nat) : lz z (i + 1) = lz z i ++ [z i] := by unfold lz; rw [List.range_succ, List.map_append]; rfl
theorem lz_len (z : Nat → Nat) (n : Nat) : (lz z n).length = n := by unfold lz; simp
theorem lz_congr {z y : Nat → Nat} {n : Nat} (h : ∀ q, q < n → z q = y q) : lz z n = lz y n := by
  unfold lz; exact List.map_congr_left (fun q hq => h q (List.mem_range.mp hq))
theorem lz_u (g : Nat → Nat) (t y : Nat) : lz (uN g t y) (t + 1) = lz g t ++ [y] := by
  rw [lz_s, uN_s]; congr 1; exact lz_congr (fun q hq => uN_n _ _ (by omega))
theorem lz_get {z : Nat → Nat} {n q : Nat} (h : q < n) : (lz z n)[q]? = some (z q) := by unfold lz; simp [h]
theorem lz_mem {z : Nat → Nat} {n y : Nat} : y ∈ lz z n ↔ ∃ q, q < n ∧ z q = y := by unfold lz; simp [List.mem_map, List.mem_range]
/-- y has no step but those of x -/
def sbs (y x : Nat) : Bool := decide (y &&& (65535 ^^^ x) = 0)
def addL (zl : List Nat) (x : Nat) : List Nat := if zl.any (fun y => sbs y x) then zl else zl ++ [x]
def capL (cap : Nat) (zl : List Nat) (x : Nat) : Nat := if zl.any (fun y => sbs y x) then cap else if cap ≤ zl.length then 2 * cap else cap
theorem capL_ge (cap : Nat) (zl : List Nat) (x : Nat) : cap ≤ capL cap zl x := by unfold capL; split; omega; split <;> omega
theorem anyL_t {z : Nat → Nat} {pn q x : Nat} (hq : q < pn) (h : sbs (z q) x = true) : (lz z pn).any (fun y => sbs y x) = true := by
  rw [List.any_eq_true]; exact ⟨z q, lz_mem.mpr ⟨q, hq, rfl⟩, h⟩
theorem anyL_f {z : Nat → Nat} {pn x : Nat} (h : ∀ q, q < pn → sbs (z q) x = false) : (lz z pn).any (fun y => sbs y x) = false := by
  rw [List.any_eq_false]; intro y hy; obtain ⟨q, h1, rfl⟩ := lz_mem.mp hy; simp [h q h1]
theorem sbs_t {y x : Nat} (h : y &&& (65535 ^^^ x) = 0) : sbs y x = true := decide_eq_true h
theorem sbs_f {y x : Nat} (h : ¬ y &&& (65535 ^^^ x) = 0) : sbs y x = false := decide_eq_false h
/-- the first set from s on that ch doesn't meet -/
def fnm (z : Nat → Nat) (ch pn s : Nat) : Nat := s + lfst (fun q => decide (z (s + q) &&& ch = 0)) (pn - s)
theorem fnm_hit {z : Nat → Nat} {ch pn s o : Nat} (h1 : s ≤ o) (h2 : o < pn) (h3 : z o &&& ch = 0) (h4 : ∀ u, s ≤ u → u < o → ¬ z u &&& ch = 0) : fnm z ch pn s = o := by
  unfold fnm
  rw [lfst_lt (r := o - s) (by omega) (by rw [show s + (o - s) = o by omega]; exact decide_eq_true h3) (fun j hj => decide_eq_false (h4 (s + j) (by omega) (by omega)))]
  omega
theorem fnm_end {z : Nat → Nat} {ch pn s : Nat} (h1 : s ≤ pn) (h4 : ∀ u, s ≤ u → u < pn → ¬ z u &&& ch = 0) : fnm z ch pn s = pn := by
  unfold fnm
  rw [lfst_no (fun j hj => decide_eq_false (h4 (s + j) (by omega) (by omega)))]
  omega
theorem fnm_sp {z : Nat → Nat} {ch pn s : Nat} (hs : s ≤ pn) : s ≤ fnm z ch pn s ∧ fnm z ch pn s ≤ pn ∧ (fnm z ch pn s < pn → z (fnm z ch pn s) &&& ch = 0) ∧ ∀ u, s ≤ u → u < fnm z ch pn s → ¬ z u &&& ch = 0 := by
  obtain ⟨h1, h2, h3⟩ := lfst_sp (fun q => decide (z (s + q) &&& ch = 0)) (pn - s)
  unfold fnm
  refine ⟨by omega, by omega, fun h => of_decide_eq_true (h2 (by omega)), fun u hu1 hu2 => ?_⟩
  have h4 := of_decide_eq_false (h3 (u - s) (by omega))
  rwa [show s + (u - s) = u by omega] at h4
theorem va_cpyN (f : Nat → Nat) (L : Nat) : va_cpy (aN f) (fun _ => 0) 0 0 L = aN (fun j => if j < L then f j else 0) := by
  funext j; unfold va_cpy aN
  by_cases h : j < L
  · simp [h]
  · simp [h]; rfl
/-! all pairs, in order -/
def prs (num i j : Nat) : List (Nat × Nat) := (List.range i).flatMap (fun a => (List.range' (a + 1) (num - (a + 1))).map (fun b => (a, b))) ++ (List.range' (i + 1) (j - (i + 1))).map (fun b => (i, b))
theorem prs_0 (num : Nat) : prs num 0 1 = [] := rfl
theorem prs_s {num i j : Nat} (h : i < j) : prs num i (j + 1) = prs num i j ++ [(i, j)] := by
  unfold prs
  rw [show j + 1 - (i + 1) = (j - (i + 1)) + 1 by omega, List.range'_concat, List.map_append, List.append_assoc]
  simp; omega
theorem prs_row {num i : Nat} : prs num (i + 1) (i + 1 + 1) = prs num i num := by
  unfold prs
  rw [show i + 1 + 1 - (i + 1 + 1) = 0 by omega, List.range_succ, List.flatMap_append]
  simp
theorem prs_lt {num i j : Nat} (hi : i ≤ num) (hj : j ≤ num) {a b : Nat} (h : (a, b) ∈ prs num i j) : a < b ∧ b < num := by
  unfold prs at h
  rw [List.mem_append, List.mem_flatMap] at h
  rcases h with ⟨x, h1, h2⟩ | h2
  · obtain ⟨y, h3, h4⟩ := List.mem_map.mp h2
    rw [List.mem_range'_1] at h3
    cases h4; omega
  · obtain ⟨y, h3, h4⟩ := List.mem_map.mp h2
    rw [List.mem_range'_1] at h3
    cases h4; omega
theorem prs_all {num a b : Nat} (h : a < b) (hb : b < num) : (a, b) ∈ prs num num (num + 1) := by
  unfold prs
  rw [List.mem_append, List.mem_flatMap]
  exact Or.inl ⟨a, List.mem_range.mpr (by omega), List.mem_map.mpr ⟨b, List.mem_range'_1.mpr (by omega), rfl⟩⟩
def gst (ss ns : Nat → Nat) (ea : Bool) (fa : Nat) (st : List Nat × Nat) (q : Nat × Nat) : List Nat × Nat := if ea || decide ((ns q.1 ^^^ ns q.2) &&& fa ≠ 0) then (addL st.1 (ss q.1 ^^^ ss q.2), capL st.2 st.1 (ss q.1 ^^^ ss q.2)) else st
def gth (ss ns : Nat → Nat) (ea : Bool) (fa cap : Nat) (l : List (Nat × Nat)) : List Nat × Nat := l.foldl (gst ss ns ea fa) ([], cap)
theorem gth_0 {ss ns : Nat → Nat} {ea : Bool} {fa cap : Nat} : gth ss ns ea fa cap [] = ([], cap) := rfl
theorem gth_a {ss ns : Nat → Nat} {ea : Bool} {fa cap : Nat} {l : List (Nat × Nat)} {q : Nat × Nat} : gth ss ns ea fa cap (l ++ [q]) = gst ss ns ea fa (gth ss ns ea fa cap l) q := by unfold gth; rw [List.foldl_append]; rfl
theorem gst_ge {ss ns : Nat → Nat} {ea : Bool} {fa : Nat} {st : List Nat × Nat} {q : Nat × Nat} : st.2 ≤ (gst ss ns ea fa st q).2 := by
  unfold gst; split
  · exact capL_ge _ _ _
  · exact Nat.le_refl _
theorem gfold_ge {ss ns : Nat → Nat} {ea : Bool} {fa : Nat} (l : List (Nat × Nat)) : ∀ st : List Nat × Nat, st.2 ≤ (l.foldl (gst ss ns ea fa) st).2 := by
  induction l with
  | nil => intro st; exact Nat.le_refl _
  | cons q l ih => intro st; exact Nat.le_trans gst_ge (ih _)
theorem gth_pre {ss ns : Nat → Nat} {ea : Bool} {fa cap : Nat} (l r : List (Nat × Nat)) : (gth ss ns ea fa cap l).2 ≤ (gth ss ns ea fa cap (l ++ r)).2 := by
  unfold gth; rw [List.foldl_append]; exact gfold_ge r _
theorem prs_pre {num : Nat} : ∀ (d i j : Nat), num ≤ i + d → i < j → j ≤ num ∨ (i = num ∧ j = num + 1) → ∃ r, prs num num (num + 1) = prs num i j ++ r := by
  intro d
  induction d with
  | zero =>
    intro i j h1 h2 h3
    rcases h3 with h3 | ⟨rfl, rfl⟩
    · omega
    · exact ⟨[], by simp⟩
  | succ d ih =>
    intro i j h1 h2 h3
    rcases h3 with h3 | ⟨rfl, rfl⟩
    · have hrow : ∀ (t j : Nat), i < j → j + t = num → ∃ r, prs num i num = prs num i j ++ r := by
        intro t
        induction t with
        | zero => intro j _ h; exact ⟨[], by rw [show j = num by omega]; simp⟩
        | succ t iht =>
          intro j h4 h5
          obtain ⟨r, hr⟩ := iht (j + 1) (by omega) (by omega)
          exact ⟨(i, j) :: r, by rw [hr, prs_s h4]; simp⟩
      obtain ⟨r1, hr1⟩ := hrow (num - j) j h2 (by omega)
      have h6 : ∃ r, prs num num (num + 1) = prs num (i + 1) (i + 1 + 1) ++ r := by
        rcases Nat.lt_or_ge (i + 1) num with h7 | h7
        · exact ih (i + 1) (i + 1 + 1) (by omega) (by omega) (Or.inl (by omega))
        · exact ⟨[], by rw [show i + 1 = num by omega]; simp⟩
      obtain ⟨r2, hr2⟩ := h6
      exact ⟨r1 ++ r2, by rw [hr2, prs_row, hr1]; simp⟩
    · exact ⟨[], by simp⟩
theorem addL_len (zl : List Nat) (x : Nat) : (addL zl x).length ≤ zl.length + 1 := by
  unfold addL; split
  · omega
  · rw [List.length_append]; simp
theorem gfold_len {ss ns : Nat → Nat} {ea : Bool} {fa : Nat} (l : List (Nat × Nat)) : ∀ st : List Nat × Nat, (l.foldl (gst ss ns ea fa) st).1.length ≤ st.1.length + l.length := by
  induction l with
  | nil => intro st; exact Nat.le_refl _
  | cons q l ih =>
    intro st
    have h1 := ih (gst ss ns ea fa st q)
    have h2 : (gst ss ns ea fa st q).1.length ≤ st.1.length + 1 := by
      unfold gst; split
      · exact addL_len _ _
      · omega
    show ((q :: l).foldl (gst ss ns ea fa) st).1.length ≤ _
    rw [List.foldl_cons, List.length_cons]; omega
theorem addL_lt {zl : List Nat} {x : Nat} (h : ∀ y ∈ zl, y < 65536) (hx : x < 65536) : ∀ y ∈ addL zl x, y < 65536 := by
  intro y hy
  unfold addL at hy
  split at hy
  · exact h y hy
  · rw [List.mem_append] at hy
    rcases hy with hy | hy
    · exact h y hy
    · rw [List.mem_singleton] at hy; omega
theorem prs_len {num i j : Nat} (hi : i ≤ num) (hj : j ≤ num) (hij : i < j) : (prs num i j).length ≤ i * num + j := by
  unfold prs
  rw [List.length_append, List.length_map, List.length_range']
  have h1 : ∀ t, t ≤ num → ((List.range t).flatMap (fun a => (List.range' (a + 1) (num - (a + 1))).map (fun b => (a, b)))).length ≤ t * num := by
    intro t
    induction t with
    | zero => intro _; simp
    | succ t ih =>
      intro ht
      rw [List.range_succ, List.flatMap_append, List.length_append]
      have h2 := ih (by omega)
      simp only [List.flatMap_singleton, List.length_map, List.length_range']
      rw [Nat.succ_mul]; omega
  have := h1 i hi
  omega
theorem cnd_1 {ea b : Bool} (h : ea = true) : (ea || b) = true := by rw [h]; rfl
theorem cnd_2 {ea : Bool} {x : Nat} (h : ¬ x = 0) : (ea || decide (x ≠ 0)) = true := by simp [h]
theorem cnd_0 {ea : Bool} {x : Nat} (h1 : ea = false) (h : x = 0) : (ea || decide (x ≠ 0)) = false := by simp [h, h1]
theorem capL_le (cap : Nat) (zl : List Nat) (x : Nat) : capL cap zl x ≤ max cap (2 * zl.length) := by
  unfold capL; split
  · omega
  · split <;> omega
theorem gth_len {ss ns : Nat → Nat} {ea : Bool} {fa cap : Nat} (l : List (Nat × Nat)) : (gth ss ns ea fa cap l).1.length ≤ l.length := by
  have h := gfold_len (ss := ss) (ns := ns) (ea := ea) (fa := fa) l ([], cap)
  unfold gth; simpa using h
theorem gst_t {ss ns : Nat → Nat} {ea : Bool} {fa : Nat} {st : List Nat × Nat} {i j : Nat} (h : (ea || decide ((ns i ^^^ ns j) &&& fa ≠ 0)) = true) : gst ss ns ea fa st (i, j) = (addL st.1 (ss i ^^^ ss j), capL st.2 st.1 (ss i ^^^ ss j)) := by unfold gst; rw [if_pos h]
theorem gst_f {ss ns : Nat → Nat} {ea : Bool} {fa : Nat} {st : List Nat × Nat} {i j : Nat} (h : (ea || decide ((ns i ^^^ ns j) &&& fa ≠ 0)) = false) : gst ss ns ea fa st (i, j) = st := by unfold gst; rw [if_neg (by rw [h]; decide)]
