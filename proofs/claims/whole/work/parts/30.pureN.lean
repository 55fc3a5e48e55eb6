/-! PURE for the model's answers -/
theorem RepM_f {to : Nat → Nat} {fa : Nat} {W : List (List Nat)} {mm : Nat} {im : Bool} {rw sz st hs : Nat → Nat} (h : RepM to fa W mm im rw sz st hs) : mm ≤ 200 ∧ (im = decide (200 < W.length)) ∧ (im = false → mm = W.length) ∧ mm ≤ W.length ∧ ∀ i, i < mm → (W.getD i []).length ≤ 16 ∧ sz i = (W.getD i []).length ∧ st i = sS W i ∧ hs i = fa &&& sN to W i ∧ ∀ j, j < (W.getD i []).length → rw (16 * i + j) = (W.getD i []).getD j 0 := by
  obtain ⟨h1, h2, h3⟩ := h
  refine ⟨by omega, h2, fun h => ?_, by omega, fun i hi => ?_⟩
  · rw [h] at h2; have := of_decide_eq_false h2.symm; omega
  · have h4 : i < W.length := by omega
    have h5 : W[i]? = some (W.getD i []) := by rw [List.getD_eq_getElem?_getD, List.getElem?_eq_getElem h4]; rfl
    exact h3 i hi _ h5
/-- a list by its places, filtered: the same as the places' filter, mapped -/
theorem fl_list {P : Nat → Bool} : ∀ (p : List Nat) (g : Nat → Nat), (∀ j, j < p.length → g j = p.getD j 0) → (fl (fun j => P (g j)) p.length).map (fun j => nI (g j)) = (p.filter P).map nI := by
  intro p g hg
  have h1 : p = (List.range p.length).map g := by
    refine List.ext_getElem (by simp) (fun i h1 h2 => ?_)
    rw [List.getElem_map, List.getElem_range, hg i h1, List.getD_eq_getElem?_getD, List.getElem?_eq_getElem h1]; rfl
  have h2 : p.filter P = ((List.range p.length).filter (fun j => P (g j))).map g := by
    conv => lhs; rw [h1]
    rw [List.filter_map]; rfl
  rw [h2, List.map_map]; rfl
theorem nth_nI {l : List Nat} {j : Nat} (hj : j < 2 ^ 31) : nth (l.map nI) (nI j) = if j < l.length then nI (l.getD j 0) else -1 := by
  unfold nth
  rw [if_neg (nI_pos hj), nI_clamp hj, List.getD_eq_getElem?_getD, List.getElem?_map]
  split
  · rename_i h; rw [List.getElem?_eq_getElem h, List.getD_eq_getElem?_getD, List.getElem?_eq_getElem h]; rfl
  · rename_i h; rw [List.getElem?_eq_none (by omega)]; rfl
theorem nth_out {l : List Int32} {x : Int32} (hl : l.length < 2 ^ 31) (h : inB x l.length = false) : nth l x = -1 :=
  nth_miss hl (fun u hu hx => by rw [hx, inB_y hu hl] at h; cases h)
def lgl (li : Nat) (rw sz : Nat → Nat) (i : Nat) : List Int32 := (fl (fun j => Nat.testBit li (rw (16 * i + j))) (sz i)).map (fun j => nI (rw (16 * i + j)))
theorem lgl_eq {to : Nat → Nat} {fa : Nat} {W : List (List Nat)} {mm : Nat} {im : Bool} {rw sz st hs : Nat → Nat} (h : RepM to fa W mm im rw sz st hs) {i : Nat} (hi : i < mm) (li : Nat) : lgl li rw sz i = ((W.getD i []).filter (Nat.testBit li)).map nI := by
  obtain ⟨_, h2, _, _, h5⟩ := (RepM_f h).2.2.2.2 i hi
  unfold lgl
  rw [h2]
  exact fl_list (W.getD i []) (fun j => rw (16 * i + j)) h5
/-! the model's own test of sets -/
def apM (st hs : Nat → Nat) (mm : Nat) (ea : Bool) (X : Nat) : Bool := (prs mm mm (mm + 1)).all (fun q => !(ea || decide (hs q.1 ≠ hs q.2)) || decide (¬ st q.1 &&& X = st q.2 &&& X))
theorem apM_iff {st hs : Nat → Nat} {mm : Nat} {ea : Bool} {X : Nat} : apM st hs mm ea X = true ↔ ∀ a b, a < b → b < mm → st a &&& X = st b &&& X → ea = false ∧ hs a = hs b := by
  unfold apM
  rw [List.all_eq_true]
  constructor
  · intro h a b h1 h2 h3
    have h4 := h (a, b) (prs_iff.mpr ⟨h1, h2⟩)
    cases ea
    · refine ⟨rfl, ?_⟩
      simp [h3] at h4; exact h4
    · simp [h3] at h4
  · rintro h ⟨a, b⟩ hq
    have h1 := prs_iff.mp hq
    by_cases h3 : st a &&& X = st b &&& X
    · obtain ⟨h4, h5⟩ := h a b h1.1 h1.2 h3
      simp [h4, h5]
    · simp [h3]
theorem xor_0 (x y : Nat) : x ^^^ y = 0 ↔ x = y := ⟨fun h => Nat.eq_of_testBit_eq (fun i => by
    have h2 : (x ^^^ y).testBit i = false := by rw [h]; simp
    rw [Nat.testBit_xor] at h2
    cases ha : x.testBit i <;> cases hb : y.testBit i <;> rw [ha, hb] at h2 <;> first | rfl | cases h2), fun h => by rw [h, Nat.xor_self]⟩
theorem xor_and_eq (a b X : Nat) : (a ^^^ b) &&& X = 0 ↔ a &&& X = b &&& X := by
  have h : (a ^^^ b) &&& X = (a &&& X) ^^^ (b &&& X) := by
    refine Nat.eq_of_testBit_eq (fun i => ?_)
    simp only [Nat.testBit_and, Nat.testBit_xor]
    cases a.testBit i <;> cases b.testBit i <;> cases X.testBit i <;> rfl
  rw [h, xor_0]
theorem apM_aptB {S T st hs : Nat → Nat} {mm fa : Nat} (h : ∀ i, i < mm → st i = S i ∧ hs i = fa &&& T i) (ea : Bool) (X : Nat) : apM st hs mm ea X = aptB S T mm ea fa X := by
  rw [Bool.eq_iff_iff, apM_iff, aptB_iff]
  constructor
  · rintro h1 ⟨a, b⟩ hq hc hx
    have h2 := prs_iff.mp hq
    rw [xor_and_eq, ← (h a (by omega)).1, ← (h b h2.2).1] at hx
    obtain ⟨h3, h4⟩ := h1 a b h2.1 h2.2 hx
    rw [(h a (by omega)).2, (h b h2.2).2, Nat.and_comm fa, Nat.and_comm fa, ← xor_and_eq] at h4
    rw [h3, Bool.false_or, decide_eq_true_eq] at hc
    exact hc h4
  · intro h1 a b h2 h3 h4
    have h5 := h1 (a, b) (prs_iff.mpr ⟨h2, h3⟩)
    rw [(h a (by omega)).1, (h b h3).1, ← xor_and_eq] at h4
    cases hc : (ea || decide ((T a ^^^ T b) &&& fa ≠ 0))
    · rw [Bool.or_eq_false_iff, decide_eq_false_iff_not, Decidable.not_not] at hc
      refine ⟨hc.1, ?_⟩
      rw [(h a (by omega)).2, (h b h3).2, Nat.and_comm fa, Nat.and_comm fa]
      exact (xor_and_eq _ _ _).mp hc.2
    · exact absurd h4 (h5 hc)
/-- what is seen among the first i -/
def SnI (st hs : Nat → Nat) (ea : Bool) (X tu : Nat) (sv bv : Nat → Nat) (i : Nat) : Prop := (∀ a b, a < b → b < i → st a &&& X = st b &&& X → ea = false ∧ hs a = hs b) ∧ (∀ l, l < 65536 → sv l ≤ tu) ∧ (∀ l, l < 65536 → sv l = tu → bv l < i ∧ st (bv l) &&& X = l) ∧ ∀ a, a < i → sv (st a &&& X) = tu
theorem SnI_0 {st hs : Nat → Nat} {ea : Bool} {X tu : Nat} {sv bv : Nat → Nat} (h : ∀ l, l < 65536 → sv l ≤ tu) : SnI st hs ea X (tu + 1) sv bv 0 :=
  ⟨fun a b _ h2 => absurd h2 (Nat.not_lt_zero _), fun l hl => by have := h l hl; omega, fun l hl h2 => by have := h l hl; omega, fun a ha => absurd ha (Nat.not_lt_zero _)⟩
theorem SnI_s {st hs : Nat → Nat} {ea : Bool} {X tu : Nat} {sv bv : Nat → Nat} {i : Nat} (h : SnI st hs ea X tu sv bv i) (hx : sv (st i &&& X) = tu → ea = false ∧ hs (bv (st i &&& X)) = hs i) (hl : st i &&& X < 65536) : SnI st hs ea X tu (uN sv (st i &&& X) tu) (uN bv (st i &&& X) i) (i + 1) := by
  obtain ⟨h1, h2, h3, h4⟩ := h
  refine ⟨fun a b hab hb he => ?_, fun l hl => ?_, fun l hl2 he => ?_, fun a ha => ?_⟩
  · rcases Nat.lt_or_ge b i with h5 | h5
    · exact h1 a b hab h5 he
    · have hbi : b = i := by omega
      subst hbi
      have h6 := h4 a hab
      rw [he] at h6
      obtain ⟨e1, e2⟩ := hx h6
      refine ⟨e1, ?_⟩
      obtain ⟨g1, g2⟩ := h3 _ hl h6
      rw [← e2]
      rcases Nat.lt_trichotomy a (bv (st b &&& X)) with h7 | h7 | h7
      · exact (h1 a _ h7 g1 (by rw [g2, he])).2
      · rw [h7]
      · exact (h1 _ a h7 hab (by rw [g2, he])).2.symm
  · unfold uN; split; omega; exact h2 l hl
  · by_cases h5 : l = st i &&& X
    · rw [h5, uN_s]; exact ⟨by omega, rfl⟩
    · rw [uN_n _ _ h5] at he
      rw [uN_n _ _ h5]
      obtain ⟨g1, g2⟩ := h3 l hl2 he
      exact ⟨by omega, g2⟩
  · by_cases h5 : st a &&& X = st i &&& X
    · rw [h5, uN_s]
    · rw [uN_n _ _ h5]
      refine h4 a ?_
      rcases Nat.lt_or_ge a i with h6 | h6
      · exact h6
      · exact absurd (by rw [show a = i by omega]) h5
