/-! THE SPEC: what each call answers, over the row of ways W -/
def WL (n k : Nat) (fr to : Nat → Nat) : List (List Nat) := wlp k fr to (n - 1) 12 0 []
def sS (W : List (List Nat)) : Nat → Nat := fun i => bs (W.getD i [])
def sN (to : Nat → Nat) (W : List (List Nat)) : Nat → Nat := fun i => nb to (W.getD i [])
/-- the flow is as it must be -/
def Flow (n k : Nat) (fr to ct : Nat → Nat) : Prop := 2 ≤ n ∧ n ≤ 12 ∧ k ≤ 16 ∧ (∀ e, e < k → fr e < to e ∧ to e < n) ∧ ∀ e, e < k → ct e ≤ 1000000
def Leav (k : Nat) (fr lv : Nat → Nat) : Prop := ∀ v, v < 12 → lv v < 65536 ∧ ∀ e, (lv v).testBit e = true ↔ e < k ∧ fr e = v
/-- a path: its steps go on from each other -/
def Pth (n k : Nat) (fr to : Nat → Nat) (p : List Nat) : Prop := (∀ e ∈ p, e < k) ∧ p.Pairwise (fun a b => to a ≤ fr b)
theorem wlp_pth {n k : Nat} {fr to : Nat → Nat} (hf : ∀ e, e < k → fr e < to e ∧ to e < n) (g : Nat) : ∀ (f v : Nat) (p : List Nat), (∀ e ∈ p, e < k ∧ to e ≤ v) → Pth n k fr to p → ∀ q ∈ wlp k fr to g f v p, Pth n k fr to q := by
  intro f
  induction f with
  | zero => intro v p _ _ q hq; rw [wlp] at hq; exact absurd hq List.not_mem_nil
  | succ f ih =>
    intro v p hp hP q hq
    rw [wlp] at hq
    split at hq
    · rw [List.mem_singleton] at hq; rw [hq]; exact hP
    · obtain ⟨e, he, hq⟩ := List.mem_flatMap.mp hq
      rw [List.mem_range] at he
      split at hq
      · rename_i hv
        refine ih (to e) (p ++ [e]) (fun a ha => ?_) ⟨fun a ha => ?_, ?_⟩ q hq
        · rcases List.mem_append.mp ha with h | h
          · have h1 := hp a h; have h2 := hf e he; exact ⟨h1.1, by omega⟩
          · rw [List.mem_singleton] at h; rw [h]; exact ⟨he, Nat.le_refl _⟩
        · rcases List.mem_append.mp ha with h | h
          · exact (hp a h).1
          · rw [List.mem_singleton] at h; rw [h]; exact he
        · rw [List.pairwise_append]
          refine ⟨hP.2, List.pairwise_singleton _ _, fun a ha b hb => ?_⟩
          rw [List.mem_singleton] at hb
          rw [hb, hv]; exact (hp a ha).2
      · exact absurd hq List.not_mem_nil
theorem WL_pth {n k : Nat} {fr to ct : Nat → Nat} (hF : Flow n k fr to ct) {q : List Nat} (hq : q ∈ WL n k fr to) : Pth n k fr to q :=
  wlp_pth hF.2.2.2.1 (n - 1) 12 0 [] (fun e h => absurd h List.not_mem_nil) ⟨fun e h => absurd h List.not_mem_nil, List.Pairwise.nil⟩ q hq
theorem foldl_or_tb (f : Nat → Nat) (p : List Nat) : ∀ (a i : Nat), (p.foldl (fun a e => a ||| 1 <<< f e) a).testBit i = true ↔ a.testBit i = true ∨ ∃ e ∈ p, f e = i := by
  induction p with
  | nil => intro a i; simp
  | cons x p ih =>
    intro a i
    rw [List.foldl_cons, ih, Nat.testBit_or, Bool.or_eq_true, tb_one]
    constructor
    · rintro ((h | h) | ⟨e, h1, h2⟩)
      · exact Or.inl h
      · exact Or.inr ⟨x, List.mem_cons_self, of_decide_eq_true h⟩
      · exact Or.inr ⟨e, List.mem_cons_of_mem _ h1, h2⟩
    · rintro (h | ⟨e, h1, h2⟩)
      · exact Or.inl (Or.inl h)
      · rcases List.mem_cons.mp h1 with rfl | h1
        · exact Or.inl (Or.inr (decide_eq_true h2))
        · exact Or.inr ⟨e, h1, h2⟩
theorem bs_tb (p : List Nat) (i : Nat) : (bs p).testBit i = true ↔ i ∈ p := by
  have h := foldl_or_tb (fun e => e) p 0 i
  unfold bs; rw [h]; simp
theorem nb_tb (to : Nat → Nat) (p : List Nat) (i : Nat) : (nb to p).testBit i = true ↔ i = 0 ∨ ∃ e ∈ p, to e = i := by
  have h := foldl_or_tb to p 1 i
  unfold nb; rw [h]
  rw [show (1 : Nat) = 1 <<< 0 from rfl, tb_one]
  constructor
  · rintro (h | h)
    · exact Or.inl (of_decide_eq_true h).symm
    · exact Or.inr h
  · rintro (h | h)
    · exact Or.inl (decide_eq_true h.symm)
    · exact Or.inr h
theorem lt_of_tb {x b : Nat} (h : ∀ i, x.testBit i = true → i < b) : x < 2 ^ b := by
  apply Nat.lt_pow_two_of_testBit
  intro i hi
  cases hx : x.testBit i
  · rfl
  · exact absurd (h i hx) (by omega)
theorem bs_lt {n k : Nat} {fr to : Nat → Nat} {p : List Nat} (h : Pth n k fr to p) : bs p < 2 ^ k := lt_of_tb (fun i hi => h.1 i ((bs_tb p i).mp hi))
theorem getD_mem {W : List (List Nat)} {i : Nat} (h : i < W.length) : W.getD i [] ∈ W := by
  rw [List.getD_eq_getElem?_getD, List.getElem?_eq_getElem h]; exact List.getElem_mem h
theorem sS_lt {n k : Nat} {fr to ct : Nat → Nat} (hF : Flow n k fr to ct) {i : Nat} (h : i < (WL n k fr to).length) : sS (WL n k fr to) i < 2 ^ k := bs_lt (WL_pth hF (getD_mem h))
theorem sS_lt16 {n k : Nat} {fr to ct : Nat → Nat} (hF : Flow n k fr to ct) {i : Nat} (h : i < (WL n k fr to).length) : sS (WL n k fr to) i < 65536 :=
  Nat.lt_of_lt_of_le (sS_lt hF h) (Nat.pow_le_pow_right (by decide) hF.2.2.1)
theorem sN_lt {n k : Nat} {fr to ct : Nat → Nat} (hF : Flow n k fr to ct) {i : Nat} (h : i < (WL n k fr to).length) : sN to (WL n k fr to) i < 2 ^ 12 := lt_of_tb (fun j hj => by
  have hp := WL_pth hF (getD_mem h)
  rcases (nb_tb to _ j).mp hj with h1 | ⟨e, h1, h2⟩
  · omega
  · have h3 := hF.2.2.2.1 e (hp.1 e h1); have h4 := hF.2.1; omega)
/-- what fresh Routes hold -/
theorem Rep_f {to : Nat → Nat} {W : List (List Nat)} {num : Nat} {tm : Bool} {ss ns : Nat → Nat} (h : Rep to W num tm ss ns) : num ≤ 200 ∧ (tm = decide (200 < W.length)) ∧ (tm = false → num = W.length) ∧ num ≤ W.length ∧ ∀ i, i < num → ss i = sS W i ∧ ns i = sN to W i := by
  obtain ⟨h1, h2, h3⟩ := h
  refine ⟨by omega, h2, fun h => ?_, by omega, fun i hi => ?_⟩
  · rw [h] at h2; have := of_decide_eq_false h2.symm; omega
  · have h4 : i < W.length := by omega
    have h5 : W[i]? = some (W.getD i []) := by rw [List.getD_eq_getElem?_getD, List.getElem?_eq_getElem h4]; rfl
    exact h3 i hi _ h5
def sWays (W : List (List Nat)) : Int32 := if 200 < W.length then -2 else nI W.length
def sWay (W : List (List Nat)) (i x : Int32) : Int32 := if 200 < W.length then -1 else if inB i W.length then nth ((W.getD i.toNatClampNeg []).map nI) x else -1
def sLog (W : List (List Nat)) (li : Nat) (i x : Int32) : Int32 := if 200 < W.length then -1 else if inB i W.length then nth (((W.getD i.toNatClampNeg []).filter (Nat.testBit li)).map nI) x else -1
def sHeaps (W : List (List Nat)) (li : Nat) : Int32 := if 200 < W.length then -2 else nI (hpsN (sS W) li W.length)
def sHeap (W : List (List Nat)) (li : Nat) (i : Int32) : Int32 := if 200 < W.length then -1 else if inB i W.length then nI (lfst (like (sS W) li i.toNatClampNeg) i.toNatClampNeg) else -1
theorem sorted_ext : ∀ (l m : List Nat), l.Pairwise (fun a b => a < b) → m.Pairwise (fun a b => a < b) → (∀ x, x ∈ l ↔ x ∈ m) → l = m := by
  intro l
  induction l with
  | nil =>
    intro m _ _ h
    cases m with
    | nil => rfl
    | cons b m => exact absurd ((h b).mpr List.mem_cons_self) List.not_mem_nil
  | cons a l ih =>
    intro m hl hm h
    cases m with
    | nil => exact absurd ((h a).mp List.mem_cons_self) List.not_mem_nil
    | cons b m =>
      rw [List.pairwise_cons] at hl hm
      have hab : a = b := by
        rcases List.mem_cons.mp ((h a).mp List.mem_cons_self) with h1 | h1
        · exact h1
        · rcases List.mem_cons.mp ((h b).mpr List.mem_cons_self) with h2 | h2
          · exact h2.symm
          · have h3 := hm.1 a h1; have h4 := hl.1 b h2; omega
      subst hab
      congr 1
      refine ih m hl.2 hm.2 (fun x => ⟨fun hx => ?_, fun hx => ?_⟩)
      · rcases List.mem_cons.mp ((h x).mp (List.mem_cons_of_mem _ hx)) with h1 | h1
        · have := hl.1 x hx; omega
        · exact h1
      · rcases List.mem_cons.mp ((h x).mpr (List.mem_cons_of_mem _ hx)) with h1 | h1
        · have := hm.1 x hx; omega
        · exact h1
theorem fl_sorted (P : Nat → Bool) (k : Nat) : (fl P k).Pairwise (fun a b => a < b) := by
  unfold fl; exact List.Pairwise.filter _ List.pairwise_lt_range
theorem nth_0 {P : Nat → Bool} {k e : Nat} (hk : k < 2 ^ 31) (he : e < k) (hP : P e = true) (hu : ∀ x, x < k → P x = true → x = e) : nth ((fl P k).map nI) 0 = nI e := by
  have h1 : fl P k = [e] := sorted_ext _ _ (fl_sorted P k) (List.pairwise_singleton _ _) (fun x => by
    rw [fl_mem, List.mem_singleton]
    exact ⟨fun h => hu x h.1 h.2, fun h => by rw [h]; exact ⟨he, hP⟩⟩)
  rw [h1]; rfl
/-- the steps of a way (those of them in x) by the nodes that they leave are the way's own row -/
theorem pth_row {n k : Nat} {fr to ct lv : Nat → Nat} (hF : Flow n k fr to ct) (hL : Leav k fr lv) {p : List Nat} (hp : Pth n k fr to p) (Z : Nat) : (fl (fun v => decide (bs p &&& Z &&& lv v ≠ 0)) n).map (fun v => nth ((fl (Nat.testBit (bs p &&& Z &&& lv v)) 16).map nI) 0) = (p.filter (Nat.testBit Z)).map nI := by
  obtain ⟨hn2, hn, hk, hf, _⟩ := hF
  have hfr : ∀ e, e ∈ p → fr e < n := fun e he => by have := hf e (hp.1 e he); omega
  have hpw : p.Pairwise (fun a b => fr a < fr b) := by
    refine List.Pairwise.imp_of_mem ?_ hp.2
    intro a b ha _ hab
    have := hf a (hp.1 a ha); omega
  have hinj : ∀ (q : List Nat), q.Pairwise (fun a b => fr a < fr b) → ∀ a ∈ q, ∀ b ∈ q, fr a = fr b → a = b := by
    intro q
    induction q with
    | nil => intro _ a ha; exact absurd ha List.not_mem_nil
    | cons x q ih =>
      intro hq a ha b hb h
      rw [List.pairwise_cons] at hq
      rcases List.mem_cons.mp ha with rfl | ha' <;> rcases List.mem_cons.mp hb with rfl | hb'
      · rfl
      · have := hq.1 b hb'; omega
      · have := hq.1 a ha'; omega
      · exact ih hq.2 a ha' b hb' h
  have hbit : ∀ v, v < 12 → ∀ e, (bs p &&& Z &&& lv v).testBit e = true ↔ e ∈ p ∧ Z.testBit e = true ∧ fr e = v := by
    intro v hv e
    rw [Nat.testBit_and, Nat.testBit_and, Bool.and_eq_true, Bool.and_eq_true, bs_tb, (hL v hv).2 e]
    constructor
    · rintro ⟨⟨h1, h2⟩, _, h4⟩; exact ⟨h1, h2, h4⟩
    · rintro ⟨h1, h2, h3⟩; exact ⟨⟨h1, h2⟩, hp.1 e h1, h3⟩
  have hne : ∀ v, v < 12 → (decide (bs p &&& Z &&& lv v ≠ 0) = true ↔ ∃ e, e ∈ p ∧ Z.testBit e = true ∧ fr e = v) := by
    intro v hv
    rw [decide_eq_true_eq]
    constructor
    · intro h
      obtain ⟨e, he⟩ := Nat.exists_testBit_of_ne_zero h
      exact ⟨e, (hbit v hv e).mp he⟩
    · rintro ⟨e, he⟩ h0
      have h1 := (hbit v hv e).mpr he
      rw [h0] at h1; simp at h1
  have hlist : fl (fun v => decide (bs p &&& Z &&& lv v ≠ 0)) n = (p.filter (Nat.testBit Z)).map fr := by
    refine sorted_ext _ _ (fl_sorted _ _) ?_ (fun v => ?_)
    · rw [List.pairwise_map]; exact List.Pairwise.filter _ hpw
    · rw [fl_mem, List.mem_map]
      constructor
      · rintro ⟨h1, h2⟩
        obtain ⟨e, e1, e2, e3⟩ := (hne v (by omega)).mp h2
        exact ⟨e, List.mem_filter.mpr ⟨e1, e2⟩, e3⟩
      · rintro ⟨e, he, hv⟩
        obtain ⟨e1, e2⟩ := List.mem_filter.mp he
        have h3 := hfr e e1
        exact ⟨by omega, (hne v (by omega)).mpr ⟨e, e1, e2, hv⟩⟩
  rw [hlist, List.map_map]
  refine List.map_congr_left (fun e he => ?_)
  obtain ⟨e1, e2⟩ := List.mem_filter.mp he
  have h3 := hfr e e1
  show nth ((fl (Nat.testBit (bs p &&& Z &&& lv (fr e))) 16).map nI) 0 = nI e
  refine nth_0 (by decide) (by have := hp.1 e e1; omega) ((hbit (fr e) (by omega) e).mpr ⟨e1, e2, rfl⟩) (fun x _ hx => ?_)
  obtain ⟨x1, _, x3⟩ := (hbit (fr e) (by omega) x).mp hx
  exact hinj p hpw x x1 e e1 x3
theorem pth_way {n k : Nat} {fr to ct lv : Nat → Nat} (hF : Flow n k fr to ct) (hL : Leav k fr lv) {p : List Nat} (hp : Pth n k fr to p) : (fl (fun v => decide (bs p &&& lv v ≠ 0)) n).map (fun v => nth ((fl (Nat.testBit (bs p &&& lv v)) 16).map nI) 0) = p.map nI := by
  have h := pth_row hF hL hp (bs p)
  rw [Nat.and_self] at h
  rw [h, List.filter_eq_self.mpr (fun e he => (bs_tb p e).mpr he)]
