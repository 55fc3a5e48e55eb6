/-! PURE: the ways are apart; the full set tells all apart -/
theorem wlp_pre {k : Nat} {fr to : Nat → Nat} {g : Nat} : ∀ (f v : Nat) (p q : List Nat), q ∈ wlp k fr to g f v p → ∃ r, q = p ++ r := by
  intro f
  induction f with
  | zero => intro v p q h; rw [wlp] at h; exact absurd h List.not_mem_nil
  | succ f ih =>
    intro v p q h
    rw [wlp] at h
    split at h
    · rw [List.mem_singleton] at h; exact ⟨[], by rw [h, List.append_nil]⟩
    · obtain ⟨e, _, h⟩ := List.mem_flatMap.mp h
      split at h
      · obtain ⟨r, hr⟩ := ih _ _ _ h
        exact ⟨e :: r, by rw [hr]; simp⟩
      · exact absurd h List.not_mem_nil
theorem wlp_nd {k : Nat} {fr to : Nat → Nat} {g : Nat} : ∀ (f v : Nat) (p : List Nat), (wlp k fr to g f v p).Pairwise (fun a b => a ≠ b) := by
  intro f
  induction f with
  | zero => intro v p; rw [wlp]; exact List.Pairwise.nil
  | succ f ih =>
    intro v p
    rw [wlp]
    split
    · exact List.pairwise_singleton _ _
    · rw [List.pairwise_flatMap]
      refine ⟨fun e _ => ?_, ?_⟩
      · split
        · exact ih _ _
        · exact List.Pairwise.nil
      · refine List.Pairwise.imp ?_ (List.pairwise_lt_range (n := k))
        intro a b hab x hx y hy hxy
        split at hx
        · split at hy
          · obtain ⟨r1, h1⟩ := wlp_pre _ _ _ _ hx
            obtain ⟨r2, h2⟩ := wlp_pre _ _ _ _ hy
            rw [h1, h2, List.append_assoc, List.append_assoc] at hxy
            have h3 := List.append_cancel_left hxy
            simp at h3
            omega
          · exact absurd hy List.not_mem_nil
        · exact absurd hx List.not_mem_nil
theorem WL_ne {n k : Nat} {fr to ct : Nat → Nat} (hF : Flow n k fr to ct) {i j : Nat} (hij : i < j) (hj : j < (WL n k fr to).length) : sS (WL n k fr to) i ≠ sS (WL n k fr to) j := by
  have h1 := wlp_nd (k := k) (fr := fr) (to := to) (g := n - 1) 12 0 []
  rw [List.pairwise_iff_getElem] at h1
  have hi : i < (WL n k fr to).length := by omega
  have h2 := h1 i j hi hj hij
  intro h3
  have pi := WL_pth hF (getD_mem hi)
  have pj := WL_pth hF (getD_mem hj)
  have hw : ∀ {p : List Nat}, Pth n k fr to p → p.Pairwise (fun a b => fr a < fr b) := fun {p} hp => by
    refine List.Pairwise.imp_of_mem ?_ hp.2
    intro a b ha _ hab
    have := hF.2.2.2.1 a (hp.1 a ha); omega
  have h4 := (bs_inj fr (hw pi) (hw pj)).mp h3
  rw [List.getD_eq_getElem?_getD, List.getD_eq_getElem?_getD, List.getElem?_eq_getElem hi, List.getElem?_eq_getElem hj] at h4
  exact h2 h4
theorem apt_full {n k : Nat} {fr to ct : Nat → Nat} (hF : Flow n k fr to ct) (T : Nat → Nat) (ea : Bool) (fa : Nat) : aptB (sS (WL n k fr to)) T (WL n k fr to).length ea fa (2 ^ k - 1) = true := by
  rw [aptB_iff]
  intro q hq _ h
  have h1 := prs_iff.mp (show (q.1, q.2) ∈ prs (WL n k fr to).length (WL n k fr to).length ((WL n k fr to).length + 1) from hq)
  rw [Nat.and_two_pow_sub_one_eq_mod, Nat.mod_eq_of_lt (xor_lt k (sS_lt hF (by omega)) (sS_lt hF h1.2))] at h
  refine WL_ne hF h1.1 h1.2 (Nat.eq_of_testBit_eq (fun i => ?_))
  have h2 : (sS (WL n k fr to) q.1 ^^^ sS (WL n k fr to) q.2).testBit i = false := by rw [h]; simp
  rw [Nat.testBit_xor] at h2
  cases ha : (sS (WL n k fr to) q.1).testBit i <;> cases hb : (sS (WL n k fr to) q.2).testBit i <;> rw [ha, hb] at h2 <;> first | rfl | cases h2
theorem addL_ltb {zl : List Nat} {x b : Nat} (h : ∀ y ∈ zl, y < b) (hx : x < b) : ∀ y ∈ addL zl x, y < b := by
  intro y hy
  unfold addL at hy
  split at hy
  · exact h y hy
  · rcases List.mem_append.mp hy with hy | hy
    · exact h y hy
    · rw [List.mem_singleton] at hy; omega
theorem gth_ltb {S T : Nat → Nat} {C : Nat} {ea : Bool} {fa cap b : Nat} {z : Nat → Nat} {pn : Nat} (hS : ∀ i, i < C → S i < 2 ^ b) (h : lz z pn = (gth S T ea fa cap (prs C C (C + 1))).1) : ∀ q, q < pn → z q < 2 ^ b := fun q hq => by
  have h0 : ∀ (l : List (Nat × Nat)) (st : List Nat × Nat), (∀ q ∈ l, S q.1 < 2 ^ b ∧ S q.2 < 2 ^ b) → (∀ y ∈ st.1, y < 2 ^ b) → ∀ y ∈ (l.foldl (gst S T ea fa) st).1, y < 2 ^ b := by
    intro l
    induction l with
    | nil => intro st _ h; exact h
    | cons q l ih =>
      intro st hl hst
      have hq := hl q List.mem_cons_self
      rw [List.foldl_cons]
      refine ih _ (fun q' h => hl q' (List.mem_cons_of_mem _ h)) ?_
      unfold gst; split
      · exact addL_ltb hst (xor_lt b hq.1 hq.2)
      · exact hst
  have h1 : z q ∈ lz z pn := lz_mem.mpr ⟨q, hq, rfl⟩
  rw [h] at h1
  exact h0 (prs C C (C + 1)) ([], cap) (fun q hq => by
    have := prs_iff.mp (show (q.1, q.2) ∈ prs C C (C + 1) from hq)
    exact ⟨hS _ (by omega), hS _ this.2⟩) (fun y hy => absurd hy List.not_mem_nil) _ h1
/-- fresh partings -/
def PVk (n k : Nat) (fr to : Nat → Nat) (ea : Bool) (fa : Nat) (z : Nat → Nat) (pn : Nat) : Prop := PV (sS (WL n k fr to)) (sN to (WL n k fr to)) (WL n k fr to).length ea fa z pn ∧ ∀ q, q < pn → z q < 2 ^ k
/-- what a gathering of the partings makes, from the room cap -/
def gthW (n k : Nat) (fr to : Nat → Nat) (ea : Bool) (fa cap : Nat) : List Nat × Nat := gth (sS (WL n k fr to)) (sN to (WL n k fr to)) ea fa cap (prs (WL n k fr to).length (WL n k fr to).length ((WL n k fr to).length + 1))
theorem gthW_ge {n k : Nat} {fr to : Nat → Nat} {ea : Bool} {fa cap : Nat} : cap ≤ (gthW n k fr to ea fa cap).2 := gfold_ge _ ([], cap)
theorem gthW_PV {n k : Nat} {fr to ct : Nat → Nat} (hF : Flow n k fr to ct) {ea : Bool} {fa cap : Nat} {z : Nat → Nat} {pn : Nat} (h : lz z pn = (gthW n k fr to ea fa cap).1) : PVk n k fr to ea fa z pn :=
  ⟨gth_PV (fun i hi => sS_lt16 hF hi) h, gth_ltb (fun i hi => sS_lt hF hi) h⟩
theorem gthW_eq {n k : Nat} {fr to ct : Nat → Nat} {num : Nat} {ss ns : Nat → Nat} {ea : Bool} {fa cap : Nat} (hn : num = (WL n k fr to).length) (h : ∀ i, i < num → ss i = sS (WL n k fr to) i ∧ ns i = sN to (WL n k fr to) i) : gth ss ns ea fa cap (prs num num (num + 1)) = gthW n k fr to ea fa cap := by
  unfold gthW
  rw [← hn]; exact gth_congr h
def sApart (n k : Nat) (fr to : Nat → Nat) (ea : Bool) (fa X : Nat) : Bool := aptB (sS (WL n k fr to)) (sN to (WL n k fr to)) (WL n k fr to).length ea fa X
theorem PVk_opt {n k : Nat} {fr to ct : Nat → Nat} (hF : Flow n k fr to ct) {ea : Bool} {fa gv : Nat} {z : Nat → Nat} {pn : Nat} (h : PVk n k fr to ea fa z pn) (hg : gv < 2 ^ k) : Opt k ct (sApart n k fr to ea fa) gv (chz k ct z pn 16 0 gv 0 (prc ct gv k) (2 ^ k - 1, prc ct (2 ^ k - 1) k)).1 :=
  chz_opt hF.2.2.1 h.2 h.1 hg (apt_full hF _ ea fa)
