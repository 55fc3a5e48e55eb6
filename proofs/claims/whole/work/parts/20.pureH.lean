/-! PURE: useless lines, why, logs read -/
theorem fl_cut {P : Nat → Bool} {k m : Nat} (h : k ≤ m) (hP : ∀ e, k ≤ e → e < m → P e = false) : fl P m = fl P k := by
  induction m with
  | zero => rw [show k = 0 by omega]
  | succ m ih =>
    rcases Nat.lt_or_ge k (m + 1) with h1 | h1
    · rw [fl_f (hP m (by omega) (by omega))]; exact ih (by omega) (fun e h2 h3 => hP e h2 (by omega))
    · rw [show k = m + 1 by omega]
def soleB (S : Nat → Nat) (C li e : Nat) : Bool := (prs C C (C + 1)).any (fun q => decide ((S q.1 ^^^ S q.2) &&& li = 1 <<< e))
theorem prs_iff {C a b : Nat} : (a, b) ∈ prs C C (C + 1) ↔ a < b ∧ b < C := by
  constructor
  · intro h
    unfold prs at h
    rw [List.mem_append, List.mem_flatMap] at h
    rcases h with ⟨x, h1, h2⟩ | h2
    · obtain ⟨y, h3, h4⟩ := List.mem_map.mp h2
      rw [List.mem_range'_1] at h3
      cases h4; omega
    · rw [show C + 1 - (C + 1) = 0 by omega] at h2; simp at h2
  · rintro ⟨h1, h2⟩; exact prs_all h1 h2
theorem soleB_iff {S : Nat → Nat} {C li e : Nat} : soleB S C li e = true ↔ ∃ i j, i < j ∧ j < C ∧ (S i ^^^ S j) &&& li = 1 <<< e := by
  unfold soleB
  rw [List.any_eq_true]
  constructor
  · rintro ⟨⟨a, b⟩, h1, h2⟩
    have h3 := prs_iff.mp h1
    exact ⟨a, b, h3.1, h3.2, of_decide_eq_true h2⟩
  · rintro ⟨i, j, h1, h2, h3⟩
    exact ⟨(i, j), prs_iff.mpr ⟨h1, h2⟩, decide_eq_true h3⟩
def sUse (W : List (List Nat)) (li k : Nat) (x : Int32) : Int32 := if 200 < W.length then -1 else nth ((fl (fun e => Nat.testBit li e && !soleB (sS W) W.length li e) k).map nI) x
theorem use_eq {W : List (List Nat)} {ss : Nat → Nat} {li k num rr : Nat} (hk : k ≤ 16) (hli : li < 2 ^ k) (hS : SPx ss li num rr) (hn : num = W.length) (hss : ∀ i, i < num → ss i = sS W i) : fl (Nat.testBit (li &&& (65535 ^^^ rr))) 16 = fl (fun e => Nat.testBit li e && !soleB (sS W) W.length li e) k := by
  rw [fl_cut hk (fun e h1 h2 => by
    rw [Nat.testBit_and]
    cases h : li.testBit e
    · rfl
    · exact absurd (tb_big hli h) (by omega))]
  refine fl_congr (fun e he => ?_)
  rw [Nat.testBit_and, Nat.testBit_xor, show (65535 : Nat) = 2 ^ 16 - 1 from rfl, Nat.testBit_two_pow_sub_one, decide_eq_true (show e < 16 by omega)]
  congr 1
  have h1 := hS.2 e
  have h2 : rr.testBit e = soleB (sS W) W.length li e := by
    rw [Bool.eq_iff_iff, h1, soleB_iff]
    constructor
    · rintro ⟨i, j, a, b, c⟩; rw [hss i (by omega), hss j b] at c; exact ⟨i, j, a, by omega, c⟩
    · rintro ⟨i, j, a, b, c⟩; exact ⟨i, j, a, by omega, by rw [hss i (by omega), hss j (by omega)]; exact c⟩
  rw [h2]; simp
theorem FPP_t {ss : Nat → Nat} {li ln num i j : Nat} (h : FPP ss li ln num true i j) : i < j ∧ j < num ∧ (ss i ^^^ ss j) &&& li = ln ∧ fpN ss li ln num i j := h
theorem FPP_f {ss : Nat → Nat} {li ln num i j : Nat} (h : FPP ss li ln num false i j) : ∀ a b, a < b → b < num → ¬ (ss a ^^^ ss b) &&& li = ln := h
theorem FPP_congr {f g : Nat → Nat} {li ln num : Nat} {fb : Bool} {i j : Nat} (h : ∀ u, u < num → f u = g u) (hF : FPP f li ln num fb i j) : FPP g li ln num fb i j := by
  cases fb
  · intro a b h1 h2; rw [← h a (by omega), ← h b h2]; exact FPP_f hF a b h1 h2
  · obtain ⟨h1, h2, h3, h4⟩ := FPP_t hF
    refine ⟨h1, h2, by rw [← h i (by omega), ← h j h2]; exact h3, fun a b a1 a2 a3 => ?_⟩
    rw [← h a (by omega), ← h b a2]; exact h4 a b a1 a2 a3
theorem FPP_uniq {ss : Nat → Nat} {li ln num : Nat} {b1 b2 : Bool} {i1 j1 i2 j2 : Nat} (h1 : FPP ss li ln num b1 i1 j1) (h2 : FPP ss li ln num b2 i2 j2) : b1 = b2 ∧ (b1 = true → i1 = i2 ∧ j1 = j2) := by
  cases b1 <;> cases b2
  · exact ⟨rfl, fun h => by cases h⟩
  · obtain ⟨a, b, c, _⟩ := FPP_t h2; exact absurd c (FPP_f h1 _ _ a b)
  · obtain ⟨a, b, c, _⟩ := FPP_t h1; exact absurd c (FPP_f h2 _ _ a b)
  · obtain ⟨a, b, c, d⟩ := FPP_t h1
    obtain ⟨a', b', c', d'⟩ := FPP_t h2
    refine ⟨rfl, fun _ => ?_⟩
    have e1 : ¬ (i2 < i1 ∨ (i2 = i1 ∧ j2 < j1)) := fun z => d i2 j2 a' b' z c'
    have e2 : ¬ (i1 < i2 ∨ (i1 = i2 ∧ j1 < j2)) := fun z => d' i1 j1 a b z c
    omega
def WhyR (W : List (List Nat)) (li k : Nat) (x y r : Int32) : Prop :=
  if inB y 2 = true ∧ inB x k = true ∧ Nat.testBit li x.toNatClampNeg = true ∧ ¬ 200 < W.length then ∃ fb fi fj, FPP (sS W) li (1 <<< x.toNatClampNeg) W.length fb fi fj ∧ r = (if fb then (if y = 0 then nI fi else nI fj) else -1) else r = -1
theorem WhyR_uniq {W : List (List Nat)} {li k : Nat} {x y r1 r2 : Int32} (h1 : WhyR W li k x y r1) (h2 : WhyR W li k x y r2) : r1 = r2 := by
  unfold WhyR at h1 h2
  split at h1
  · rename_i hc
    rw [if_pos hc] at h2
    obtain ⟨b1, i1, j1, f1, e1⟩ := h1
    obtain ⟨b2, i2, j2, f2, e2⟩ := h2
    obtain ⟨hb, hij⟩ := FPP_uniq f1 f2
    subst hb
    cases b1
    · rw [e1, e2]; rfl
    · obtain ⟨rfl, rfl⟩ := hij rfl; rw [e1, e2]
  · rename_i hc
    rw [if_neg hc] at h2
    rw [h1, h2]
/-! logs -/
theorem sorted_extf (f : Nat → Nat) : ∀ (l m : List Nat), l.Pairwise (fun a b => f a < f b) → m.Pairwise (fun a b => f a < f b) → (∀ x, x ∈ l ↔ x ∈ m) → l = m := by
  intro l
  induction l with
  | nil =>
    intro m _ _ h
    cases m with
    | nil => rfl
    | cons b m => exact absurd ((h b).mpr List.mem_cons_self) List.not_mem_nil
  | cons a l ih =>
    intro m hl hm h
    cases m with
    | nil => exact absurd ((h a).mp List.mem_cons_self) List.not_mem_nil
    | cons b m =>
      rw [List.pairwise_cons] at hl hm
      have hab : a = b := by
        rcases List.mem_cons.mp ((h a).mp List.mem_cons_self) with h1 | h1
        · exact h1
        · rcases List.mem_cons.mp ((h b).mpr List.mem_cons_self) with h2 | h2
          · exact h2.symm
          · have h3 := hm.1 a h1; have h4 := hl.1 b h2; omega
      subst hab
      congr 1
      refine ih m hl.2 hm.2 (fun x => ⟨fun hx => ?_, fun hx => ?_⟩)
      · rcases List.mem_cons.mp ((h x).mp (List.mem_cons_of_mem _ hx)) with h1 | h1
        · have h5 := hl.1 x hx; rw [h1] at h5; omega
        · exact h1
      · rcases List.mem_cons.mp ((h x).mpr (List.mem_cons_of_mem _ hx)) with h1 | h1
        · have h5 := hm.1 x hx; rw [h1] at h5; omega
        · exact h1
theorem bs_inj (f : Nat → Nat) {l m : List Nat} (hl : l.Pairwise (fun a b => f a < f b)) (hm : m.Pairwise (fun a b => f a < f b)) : bs l = bs m ↔ l = m := by
  constructor
  · intro h
    exact sorted_extf f l m hl hm (fun x => by rw [← bs_tb, ← bs_tb, h])
  · intro h; rw [h]
theorem fitR_some {k : Nat} {fr td : Nat → Nat} : ∀ {q ts nd : Nat}, fitR k fr td q = some (ts, nd) → ts = bs (lz td q) ∧ (∀ x ∈ lz td q, x < k ∧ fr x < nd) ∧ (lz td q).Pairwise (fun a b => fr a < fr b) ∧ (∀ v, v < nd → ∃ x ∈ lz td q, v ≤ fr x) := by
  intro q
  induction q with
  | zero =>
    intro ts nd h
    rw [fitR] at h; cases h
    exact ⟨rfl, fun x h => absurd h List.not_mem_nil, List.Pairwise.nil, fun v h => absurd h (Nat.not_lt_zero _)⟩
  | succ q ih =>
    intro ts nd h
    cases hq : fitR k fr td q with
    | none => rw [fitR, hq] at h; cases h
    | some r =>
      obtain ⟨t0, n0⟩ := r
      obtain ⟨i1, i2, i3, i4⟩ := ih hq
      by_cases hc : td q < k ∧ n0 ≤ fr (td q)
      · rw [fitR_t hq hc.1 hc.2] at h
        cases h
        rw [lz_s]
        refine ⟨by rw [bs_a, i1], fun x hx => ?_, ?_, fun v hv => ⟨td q, List.mem_append_right _ (List.mem_singleton.mpr rfl), by omega⟩⟩
        · rcases List.mem_append.mp hx with h | h
          · have := i2 x h; exact ⟨this.1, by omega⟩
          · rw [List.mem_singleton] at h; rw [h]; exact ⟨hc.1, by omega⟩
        · rw [List.pairwise_append]
          refine ⟨i3, List.pairwise_singleton _ _, fun a ha b hb => ?_⟩
          rw [List.mem_singleton] at hb; rw [hb]
          have := i2 a ha; omega
      · rw [fitR_f hq hc] at h; cases h
theorem fitR_ok {k : Nat} {fr td : Nat → Nat} : ∀ {q : Nat}, (∀ x ∈ lz td q, x < k) → (lz td q).Pairwise (fun a b => fr a < fr b) → fitR k fr td q ≠ none := by
  intro q
  induction q with
  | zero => intro _ _ h; rw [fitR] at h; cases h
  | succ q ih =>
    intro h1 h2 h
    rw [lz_s] at h1 h2
    rw [List.pairwise_append] at h2
    have h3 := ih (fun x hx => h1 x (List.mem_append_left _ hx)) h2.1
    cases hq : fitR k fr td q with
    | none => exact h3 hq
    | some r =>
      obtain ⟨t0, n0⟩ := r
      obtain ⟨_, _, _, i4⟩ := fitR_some hq
      have hk : td q < k := h1 _ (List.mem_append_right _ (List.mem_singleton.mpr rfl))
      have hn : n0 ≤ fr (td q) := by
        rcases Nat.lt_or_ge (fr (td q)) n0 with h5 | h5
        · obtain ⟨x, hx, hv⟩ := i4 _ h5
          have := h2.2.2 x hx (td q) (List.mem_singleton.mpr rfl); omega
        · exact h5
      rw [fitR_t hq hk hn] at h; cases h
/-- what a log allows, by the way's own log -/
def alS (li L : Nat) (tn : Bool) (td : Nat → Nat) (p : List Nat) : Bool := if tn then (lz td L).isPrefixOf (p.filter (Nat.testBit li)) else decide (lz td L = p.filter (Nat.testBit li))
theorem thr_filter {fr : Nat → Nat} {a b : List Nat} {nd : Nat} (ha : ∀ x ∈ a, fr x < nd) (hb : ∀ x ∈ b, nd ≤ fr x) : (a ++ b).filter (fun e => decide (fr e < nd)) = a := by
  rw [List.filter_append, List.filter_eq_self.mpr (fun x hx => decide_eq_true (ha x hx)), List.filter_eq_nil_iff.mpr (fun x hx => by have := hb x hx; simp; omega), List.append_nil]
theorem thr_pre {fr : Nat → Nat} {nd : Nat} : ∀ (l : List Nat), l.Pairwise (fun a b => fr a < fr b) → ∃ r, l = l.filter (fun e => decide (fr e < nd)) ++ r := by
  intro l
  induction l with
  | nil => intro _; exact ⟨[], rfl⟩
  | cons a l ih =>
    intro h
    rw [List.pairwise_cons] at h
    by_cases ha : fr a < nd
    · obtain ⟨r, hr⟩ := ih h.2
      refine ⟨r, ?_⟩
      rw [List.filter_cons, if_pos (decide_eq_true ha), List.cons_append, ← hr]
    · refine ⟨a :: l, ?_⟩
      rw [List.filter_eq_nil_iff.mpr (fun x hx => ?_), List.nil_append]
      rcases List.mem_cons.mp hx with rfl | hx
      · simpa using ha
      · have := h.1 x hx; simp; omega
theorem fit_al {n k li : Nat} {fr to ct lv td : Nat → Nat} {L : Nat} {tn po : Bool} {ts hd : Nat} (hF : Flow n k fr to ct) (hL : Leav k fr lv) (hli : li < 2 ^ k) (hP : FitP n k li fr lv td L tn po ts hd) {p : List Nat} (hp : Pth n k fr to p) : alw po ts hd (bs p) = alS li L tn td p := by
  obtain ⟨hn2, hn, hk, hf, _⟩ := hF
  have hpw : p.Pairwise (fun a b => fr a < fr b) := by
    refine List.Pairwise.imp_of_mem ?_ hp.2
    intro a b ha _ hab
    have := hf a (hp.1 a ha); omega
  have hlg : (p.filter (Nat.testBit li)).Pairwise (fun a b => fr a < fr b) := List.Pairwise.filter _ hpw
  have hmem : ∀ x ∈ p.filter (Nat.testBit li), x < k := fun x hx => hp.1 x (List.mem_filter.mp hx).1
  unfold FitP at hP
  cases hr : fitR k fr td L with
  | none =>
    rw [hr] at hP
    have hP : po = false := hP
    rw [alw, hP, Bool.false_and]
    symm
    unfold alS
    cases tn
    · rw [if_neg (by decide)]
      refine decide_eq_false (fun h => ?_)
      exact fitR_ok (by rw [h]; exact hmem) (by rw [h]; exact hlg) hr
    · rw [if_pos rfl]
      cases hpre : (lz td L).isPrefixOf (p.filter (Nat.testBit li))
      · rfl
      · obtain ⟨r, hr2⟩ := List.isPrefixOf_iff_prefix.mp hpre
        refine absurd hr (fitR_ok (fun x hx => hmem x (by rw [← hr2]; exact List.mem_append_left _ hx)) ?_)
        rw [← hr2, List.pairwise_append] at hlg
        exact hlg.1
  | some q =>
    obtain ⟨t, nd⟩ := q
    rw [hr] at hP
    obtain ⟨h1, h2, h3⟩ : po = true ∧ ts = t ∧ hd = li &&& (if tn then orB lv (min nd n) else 2 ^ k - 1) := hP
    obtain ⟨i1, i2, i3, i4⟩ := fitR_some hr
    rw [alw, h1, Bool.true_and, h2, i1]
    unfold alS
    cases tn
    · rw [if_neg (by decide)]
      have hbs : bs p &&& hd = bs (p.filter (Nat.testBit li)) := by
        refine Nat.eq_of_testBit_eq (fun i => ?_)
        rw [Bool.eq_iff_iff, bs_tb, List.mem_filter, h3, if_neg (by decide), Nat.testBit_and, Nat.testBit_and, Bool.and_eq_true, Bool.and_eq_true, bs_tb, Nat.testBit_two_pow_sub_one, decide_eq_true_eq]
        exact ⟨fun z => ⟨z.1, z.2.1⟩, fun z => ⟨z.1, z.2, tb_big hli z.2⟩⟩
      rw [hbs]
      refine decide_eq_decide.mpr ?_
      rw [bs_inj fr hlg i3]
      exact ⟨fun z => z.symm, fun z => z.symm⟩
    · rw [if_pos rfl]
      have hbs : bs p &&& hd = bs ((p.filter (Nat.testBit li)).filter (fun e => decide (fr e < nd))) := by
        refine Nat.eq_of_testBit_eq (fun i => ?_)
        rw [Bool.eq_iff_iff, bs_tb, List.mem_filter, List.mem_filter, h3, if_pos rfl, Nat.testBit_and, Nat.testBit_and, Bool.and_eq_true, Bool.and_eq_true, bs_tb, orB_tb, decide_eq_true_eq]
        constructor
        · rintro ⟨a, b, u, hu, hv⟩
          have := ((hL u (by omega)).2 i).mp hv
          exact ⟨⟨a, b⟩, by omega⟩
        · rintro ⟨⟨a, b⟩, c⟩
          have h5 := hp.1 i a
          have h6 := hf i h5
          exact ⟨a, b, fr i, by omega, ((hL (fr i) (by omega)).2 i).mpr ⟨h5, rfl⟩⟩
      rw [hbs, Bool.eq_iff_iff, decide_eq_true_eq, bs_inj fr (List.Pairwise.filter _ hlg) i3, List.isPrefixOf_iff_prefix]
      constructor
      · intro h
        obtain ⟨r, hr3⟩ := thr_pre (nd := nd) _ hlg
        exact ⟨r, by rw [← h]; exact hr3.symm⟩
      · rintro ⟨r, hr3⟩
        rw [← hr3]
        refine thr_filter (fun x hx => (i2 x hx).2) (fun x hx => ?_)
        rw [← hr3, List.pairwise_append] at hlg
        rcases Nat.lt_or_ge (fr x) nd with h5 | h5
        · obtain ⟨y, hy, hv⟩ := i4 _ h5
          have := hlg.2.2 y hy x hx; omega
        · exact h5
def sRead (W : List (List Nat)) (li L : Nat) (tn : Bool) (td : Nat → Nat) : Int32 := if 200 < W.length then -2 else nI (fl (fun i => alS li L tn td (W.getD i [])) W.length).length
def sAllowed (W : List (List Nat)) (li L : Nat) (tn : Bool) (td : Nat → Nat) (x : Int32) : Int32 := if 200 < W.length then -1 else nth ((fl (fun i => alS li L tn td (W.getD i [])) W.length).map nI) x
def sFound (W : List (List Nat)) (to : Nat → Nat) (li fa L : Nat) (tn : Bool) (td : Nat → Nat) (y : Nat) : Int32 :=
  if 200 < W.length then -1 else if (fl (fun i => alS li L tn td (W.getD i [])) W.length).length = 0 then -1 else
  if y = 0 then allI (sS W) (fun i => alS li L tn td (W.getD i [])) W.length else if y = 1 then nI (orI (sS W) (fun i => alS li L tn td (W.getD i [])) W.length)
  else if y = 2 then allI (fun i => fa &&& sN to W i) (fun i => alS li L tn td (W.getD i [])) W.length else nI (orI (fun i => fa &&& sN to W i) (fun i => alS li L tn td (W.getD i [])) W.length)
theorem allI_congr {f g : Nat → Nat} {P Q : Nat → Bool} {c : Nat} (h : ∀ i, i < c → f i = g i) (hP : ∀ i, i < c → P i = Q i) : allI f P c = allI g Q c := by
  induction c with
  | zero => rfl
  | succ c ih => rw [allI, allI, ih (fun i hi => h i (by omega)) (fun i hi => hP i (by omega)), h c (by omega), hP c (by omega)]
theorem orI_congr {f g : Nat → Nat} {P Q : Nat → Bool} {c : Nat} (h : ∀ i, i < c → f i = g i) (hP : ∀ i, i < c → P i = Q i) : orI f P c = orI g Q c := by
  induction c with
  | zero => rfl
  | succ c ih => rw [orI, orI, ih (fun i hi => h i (by omega)) (fun i hi => hP i (by omega)), h c (by omega), hP c (by omega)]
theorem orI_and (a : Nat) (f : Nat → Nat) (P : Nat → Bool) (c : Nat) : a &&& orI f P c = orI (fun i => a &&& f i) P c := by
  induction c with
  | zero => simp [orI]
  | succ c ih =>
    rw [orI, orI]
    split
    · rw [← ih]; refine Nat.eq_of_testBit_eq (fun i => ?_); simp only [Nat.testBit_and, Nat.testBit_or]; cases a.testBit i <;> simp
    · exact ih
theorem orI_lt {f : Nat → Nat} {P : Nat → Bool} {c b : Nat} (h : ∀ i, i < c → f i < 2 ^ b) : orI f P c < 2 ^ b := by
  induction c with
  | zero => exact Nat.pow_pos (by decide)
  | succ c ih =>
    rw [orI]; split
    · exact or_lt b (ih (fun i hi => h i (by omega))) (h c (by omega))
    · exact ih (fun i hi => h i (by omega))
theorem allI_and (a : Nat) (f : Nat → Nat) (P : Nat → Bool) : ∀ c, (fl P c).length ≠ 0 → nI a &&& allI f P c = allI (fun i => a &&& f i) P c := by
  intro c
  induction c with
  | zero => intro h; exact absurd rfl h
  | succ c ih =>
    intro h
    rw [allI, allI]
    cases hP : P c
    · rw [fl_f hP] at h
      simpa using ih h
    · simp only [if_true]
      by_cases h0 : (fl P c).length = 0
      · have hz : ∀ (g : Nat → Nat), allI g P c = -1 := fun g => by
          clear ih h hP
          induction c with
          | zero => rfl
          | succ c ihc =>
            have hPc : P c = false := by
              cases hq : P c
              · rfl
              · rw [fl_t hq, List.length_append] at h0; simp at h0
            rw [fl_f hPc] at h0
            rw [allI, hPc]; exact ihc h0
        rw [hz, hz, ← nI_and]
        rw [show (-1 : Int32) &&& nI (f c) = nI (f c) from Int32.neg_one_and]
        rw [show (-1 : Int32) &&& (nI a &&& nI (f c)) = nI a &&& nI (f c) from Int32.neg_one_and]
      · rw [← ih h0, ← nI_and]
        generalize allI f P c = z
        generalize nI a = u
        generalize nI (f c) = t
        apply Int32.toBitVec_inj.mp
        apply BitVec.eq_of_getLsbD_eq
        intro i hi
        simp only [Int32.toBitVec_and, BitVec.getLsbD_and]
        cases u.toBitVec.getLsbD i <;> cases z.toBitVec.getLsbD i <;> cases t.toBitVec.getLsbD i <;> rfl
