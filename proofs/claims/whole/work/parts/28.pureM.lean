/-! PURE for the model's row of ways -/
def RepM (to : Nat → Nat) (fa : Nat) (ws : List (List Nat)) (mm : Nat) (im : Bool) (rw sz st hs : Nat → Nat) : Prop := mm = min 200 ws.length ∧ im = decide (200 < ws.length) ∧ ∀ i, i < mm → ∀ p, ws[i]? = some p → p.length ≤ 16 ∧ sz i = p.length ∧ st i = bs p ∧ hs i = fa &&& nb to p ∧ ∀ j, j < p.length → rw (16 * i + j) = p.getD j 0
theorem RepM_0 {to : Nat → Nat} {fa : Nat} {rw sz st hs : Nat → Nat} : RepM to fa [] 0 false rw sz st hs := ⟨rfl, rfl, fun i hi => absurd hi (Nat.not_lt_zero _)⟩
theorem RepM_full {to : Nat → Nat} {fa : Nat} {ws : List (List Nat)} {mm : Nat} {im : Bool} {rw sz st hs : Nat → Nat} {ps : List (List Nat)} (h : RepM to fa ws mm im rw sz st hs) (hn : mm = 200) (hp : ps ≠ []) : RepM to fa (ws ++ ps) mm true rw sz st hs := by
  obtain ⟨h1, h2, h3⟩ := h
  have hp1 : 0 < ps.length := List.length_pos_iff.mpr hp
  refine ⟨by rw [List.length_append]; omega, ?_, fun i hi q hq => ?_⟩
  · rw [List.length_append]; simp; omega
  · rw [List.getElem?_append_left (by omega)] at hq
    exact h3 i hi q hq
theorem RepM_more {to : Nat → Nat} {fa : Nat} {ws : List (List Nat)} {mm : Nat} {rw sz st hs : Nat → Nat} (ps : List (List Nat)) (h : RepM to fa ws mm true rw sz st hs) : RepM to fa (ws ++ ps) mm true rw sz st hs := by
  obtain ⟨h1, h2, h3⟩ := h
  have h4 : 200 < ws.length := of_decide_eq_true h2.symm
  refine ⟨by rw [List.length_append]; omega, ?_, fun i hi q hq => ?_⟩
  · rw [List.length_append]; simp; omega
  · rw [List.getElem?_append_left (by omega)] at hq
    exact h3 i hi q hq
theorem RepM_add {to : Nat → Nat} {fa : Nat} {ws : List (List Nat)} {mm : Nat} {im : Bool} {rw sz st hs rw2 sz2 st2 hs2 : Nat → Nat} {p : List Nat} (h : RepM to fa ws mm im rw sz st hs) (hn : mm < 200) (hp : p.length ≤ 16) (s1 : sz2 mm = p.length) (s2 : ∀ i, i ≠ mm → sz2 i = sz i) (t1 : st2 mm = bs p) (t2 : ∀ i, i ≠ mm → st2 i = st i) (u1 : hs2 mm = fa &&& nb to p) (u2 : ∀ i, i ≠ mm → hs2 i = hs i) (r1 : ∀ j, j < p.length → rw2 (16 * mm + j) = p.getD j 0) (r2 : ∀ q, q < 16 * mm → rw2 q = rw q) : RepM to fa (ws ++ [p]) (mm + 1) im rw2 sz2 st2 hs2 := by
  obtain ⟨h1, h2, h3⟩ := h
  have hl : mm = ws.length := by omega
  refine ⟨by rw [List.length_append]; simp; omega, ?_, fun i hi q hq => ?_⟩
  · rw [h2, List.length_append]; simp; omega
  · rcases Nat.lt_or_ge i mm with h4 | h4
    · rw [List.getElem?_append_left (by omega)] at hq
      obtain ⟨a, b, c, d, e⟩ := h3 i h4 q hq
      refine ⟨a, by rw [s2 i (by omega)]; exact b, by rw [t2 i (by omega)]; exact c, by rw [u2 i (by omega)]; exact d, fun j hj => by rw [r2 _ (by omega)]; exact e j hj⟩
    · have h5 : i = mm := by omega
      subst h5
      rw [List.getElem?_append_right (by omega), hl, Nat.sub_self] at hq
      simp at hq
      subst hq
      exact ⟨hp, s1, t1, u1, r1⟩
theorem lz_getD {z : Nat → Nat} {n j : Nat} (h : j < n) : (lz z n).getD j 0 = z j := by rw [List.getD_eq_getElem?_getD, lz_get h]; rfl
/-! the events of the walk through the ways: none a step in or out, some p a way -/
def ev (k : Nat) (fr to : Nat → Nat) (g : Nat) : Nat → Nat → List Nat → List (Option (List Nat))
  | 0, _, _ => []
  | f + 1, v, p => if v = g then [some p] else (List.range k).flatMap (fun e => if fr e = v then none :: ev k fr to g f (to e) (p ++ [e]) else []) ++ [none]
def evs (k : Nat) (fr to : Nat → Nat) (g f v : Nat) (p : List Nat) (e : Nat) : List (Option (List Nat)) := (List.range' e (k - e)).flatMap (fun e => if fr e = v then none :: ev k fr to g f (to e) (p ++ [e]) else []) ++ [none]
theorem evs_t {k : Nat} {fr to : Nat → Nat} {g f v : Nat} {p : List Nat} {e : Nat} (he : e < k) (h : fr e = v) : evs k fr to g f v p e = none :: (ev k fr to g f (to e) (p ++ [e]) ++ evs k fr to g f v p (e + 1)) := by
  unfold evs
  rw [show k - e = (k - (e + 1)) + 1 by omega, List.range'_succ, List.flatMap_cons, if_pos h]; simp
theorem evs_f {k : Nat} {fr to : Nat → Nat} {g f v : Nat} {p : List Nat} {e : Nat} (he : e < k) (h : ¬ fr e = v) : evs k fr to g f v p e = evs k fr to g f v p (e + 1) := by
  unfold evs
  rw [show k - e = (k - (e + 1)) + 1 by omega, List.range'_succ, List.flatMap_cons, if_neg h]; simp
theorem evs_e {k : Nat} {fr to : Nat → Nat} {g f v : Nat} {p : List Nat} {e : Nat} (he : k ≤ e) : evs k fr to g f v p e = [none] := by
  unfold evs; rw [show k - e = 0 by omega]; rfl
theorem ev_g {k : Nat} {fr to : Nat → Nat} {g f v : Nat} {p : List Nat} (h : v = g) : ev k fr to g (f + 1) v p = [some p] := by rw [ev, if_pos h]
theorem ev_q {k : Nat} {fr to : Nat → Nat} {g f v : Nat} {p : List Nat} (h : ¬ v = g) : ev k fr to g (f + 1) v p = evs k fr to g f v p 0 := by
  rw [ev, if_neg h]; unfold evs; rw [Nat.sub_zero, ← List.range_eq_range']
theorem fm_flat {α : Type} (l : List Nat) (F : Nat → List (Option α)) (G : Nat → List α) (h : ∀ e, (F e).filterMap id = G e) : (l.flatMap F).filterMap id = l.flatMap G := by
  induction l with
  | nil => rfl
  | cons a l ih => rw [List.flatMap_cons, List.flatMap_cons, List.filterMap_append, ih, h]
theorem ev_wl {k : Nat} {fr to : Nat → Nat} {g : Nat} : ∀ (f v : Nat) (p : List Nat), (ev k fr to g f v p).filterMap id = wlp k fr to g f v p := by
  intro f
  induction f with
  | zero => intro v p; rfl
  | succ f ih =>
    intro v p
    rw [ev, wlp]
    split
    · rfl
    · rw [List.filterMap_append, fm_flat _ _ (fun e => if fr e = v then wlp k fr to g f (to e) (p ++ [e]) else []) (fun e => by
        split
        · rw [List.filterMap_cons]; simp only [id]; exact ih _ _
        · rfl)]
      show _ ++ [] = _
      rw [List.append_nil]
def nod (to nw : Nat → Nat) (n : Nat) : Nat := if n = 0 then 0 else to (nw (n - 1))
def upE (k : Nat) (fr to : Nat → Nat) (g : Nat) (nw : Nat → Nat) : Nat → List (Option (List Nat))
  | 0 => []
  | n + 1 => evs k fr to g (11 - n) (nod to nw n) (lz nw n) (nw n + 1) ++ upE k fr to g nw n
def rem (k : Nat) (fr to : Nat → Nat) (g : Nat) (nw : Nat → Nat) (nn nx : Nat) : List (Option (List Nat)) := (if nod to nw nn = g then [some (lz nw nn)] else evs k fr to g (11 - nn) (nod to nw nn) (lz nw nn) nx) ++ upE k fr to g nw nn
/-- the stack of the walk -/
def WI (n k : Nat) (fr to nw : Nat → Nat) (nn : Nat) : Prop := (∀ i, i < nn → nw i < k ∧ fr (nw i) = nod to nw i ∧ i ≤ nod to nw i) ∧ nn ≤ nod to nw nn ∧ nod to nw nn < n
theorem WI_0 {n k : Nat} {fr to nw : Nat → Nat} (hn : 2 ≤ n) : WI n k fr to nw 0 := ⟨fun i h => absurd h (Nat.not_lt_zero _), Nat.zero_le _, by show 0 < n; omega⟩
theorem nod_s {to nw : Nat → Nat} {m : Nat} : nod to nw (m + 1) = to (nw m) := rfl
theorem WI_pop {n k : Nat} {fr to ct nw : Nat → Nat} (hF : Flow n k fr to ct) {m : Nat} (h : WI n k fr to nw (m + 1)) : WI n k fr to nw m ∧ ¬ nod to nw m = n - 1 := by
  obtain ⟨h1, h2, h3⟩ := h
  obtain ⟨a, b, c⟩ := h1 m (by omega)
  have h4 := hF.2.2.2.1 _ a
  exact ⟨⟨fun i hi => h1 i (by omega), c, by omega⟩, by omega⟩
theorem rem_pop {n k : Nat} {fr to nw : Nat → Nat} {m : Nat} (h : ¬ nod to nw m = n - 1) : rem k fr to (n - 1) nw m (nw m + 1) = upE k fr to (n - 1) nw (m + 1) := by
  unfold rem; rw [if_neg h]; rfl
theorem rem_goal {n k : Nat} {fr to nw : Nat → Nat} {nn nx : Nat} (h : nod to nw nn = n - 1) : rem k fr to (n - 1) nw nn nx = some (lz nw nn) :: upE k fr to (n - 1) nw nn := by
  unfold rem; rw [if_pos h]; rfl
theorem rem_none {n k : Nat} {fr to nw : Nat → Nat} {nn nx ny : Nat} (h : ¬ nod to nw nn = n - 1) (he : evs k fr to (n - 1) (11 - nn) (nod to nw nn) (lz nw nn) ny = evs k fr to (n - 1) (11 - nn) (nod to nw nn) (lz nw nn) nx) (hk : k ≤ ny) : rem k fr to (n - 1) nw nn nx = none :: upE k fr to (n - 1) nw nn := by
  unfold rem; rw [if_neg h, ← he, evs_e hk]; rfl
theorem nod_u {to nw : Nat → Nat} {nn x i : Nat} (h : i ≤ nn) : nod to (uN nw nn x) i = nod to nw i := by
  unfold nod; split
  · rfl
  · rw [uN_n _ _ (by omega)]
theorem lz_un {nw : Nat → Nat} {nn x i : Nat} (h : i ≤ nn) : lz (uN nw nn x) i = lz nw i := lz_congr (fun q hq => uN_n _ _ (by omega))
theorem upE_u {k : Nat} {fr to : Nat → Nat} {g : Nat} {nw : Nat → Nat} {nn x : Nat} : ∀ i, i ≤ nn → upE k fr to g (uN nw nn x) i = upE k fr to g nw i := by
  intro i
  induction i with
  | zero => intro _; rfl
  | succ i ih =>
    intro h
    rw [upE, upE, ih (by omega), nod_u (by omega), lz_un (by omega), uN_n _ _ (by omega)]
theorem rem_push {n k : Nat} {fr to ct nw : Nat → Nat} (hF : Flow n k fr to ct) {nn nx ny : Nat} (hI : WI n k fr to nw nn) (h : ¬ nod to nw nn = n - 1) (he : evs k fr to (n - 1) (11 - nn) (nod to nw nn) (lz nw nn) ny = evs k fr to (n - 1) (11 - nn) (nod to nw nn) (lz nw nn) nx) (hk : ny < k) (hfr : fr ny = nod to nw nn) : rem k fr to (n - 1) nw nn nx = none :: rem k fr to (n - 1) (uN nw nn ny) (nn + 1) 0 := by
  have h1 := hF.2.2.2.1 ny hk
  have h2 := hI.2.1
  have h3 := hF.2.1
  unfold rem
  rw [if_neg h, ← he, evs_t hk hfr, nod_s, uN_s, lz_u]
  rw [upE, uN_s, nod_u (Nat.le_refl _), lz_un (Nat.le_refl _), upE_u nn (Nat.le_refl _)]
  rw [List.cons_append, List.append_assoc]
  congr 2
  rw [show 11 - nn = (11 - (nn + 1)) + 1 by omega]
  split
  · rename_i hg; rw [ev_g hg]
  · rename_i hg; rw [ev_q hg]
theorem WI_push {n k : Nat} {fr to ct nw : Nat → Nat} (hF : Flow n k fr to ct) {nn ny : Nat} (hI : WI n k fr to nw nn) (hk : ny < k) (hfr : fr ny = nod to nw nn) : WI n k fr to (uN nw nn ny) (nn + 1) := by
  have h1 := hF.2.2.2.1 ny hk
  refine ⟨fun i hi => ?_, ?_, ?_⟩
  · rcases Nat.lt_or_ge i nn with h | h
    · rw [uN_n _ _ (by omega), nod_u (by omega)]; exact hI.1 i h
    · rw [show i = nn by omega, uN_s, nod_u (Nat.le_refl _)]; exact ⟨hk, hfr, hI.2.1⟩
  · rw [nod_s, uN_s]; have := hI.2.1; omega
  · rw [nod_s, uN_s]; omega
theorem rem_0 {n k : Nat} {fr to nw : Nat → Nat} (hn : 2 ≤ n) : (rem k fr to (n - 1) nw 0 0).filterMap id = WL n k fr to := by
  unfold rem WL
  have h : ¬ nod to nw 0 = n - 1 := by show ¬ 0 = n - 1; omega
  rw [if_neg h, ← ev_wl 12 0 [], ev_q (f := 11) (show ¬ 0 = n - 1 by omega)]
  show (_ ++ []).filterMap id = _
  rw [List.append_nil]; rfl
