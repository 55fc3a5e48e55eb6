/-! PURE for Reading and Routes -/
theorem nI_nm1 {n : Nat} (h : n < 2 ^ 31) : ¬ nI n = -1 := by
  intro h1
  have h2 := congrArg Int32.toInt h1
  rw [nI_toInt h] at h2
  have h3 : (-1 : Int32).toInt = -1 := by decide
  omega
theorem nI_gm1 {n : Nat} (h : n < 2 ^ 31) : ¬ nI n ≤ -1 := by
  intro h1
  have h2 := Int32.le_iff_toInt_le.mp h1
  rw [nI_toInt h] at h2
  have h3 : (-1 : Int32).toInt = -1 := by decide
  omega
/-- the log's first q bytes: the set of its steps, the node behind the last; none: it can't be -/
def fitR (k : Nat) (fr td : Nat → Nat) : Nat → Option (Nat × Nat)
  | 0 => some (0, 0)
  | q + 1 => match fitR k fr td q with
    | none => none
    | some (ts, nd) => if td q < k ∧ nd ≤ fr (td q) then some (ts ||| 1 <<< td q, fr (td q) + 1) else none
theorem fitR_t {k : Nat} {fr td : Nat → Nat} {q ts nd : Nat} (h : fitR k fr td q = some (ts, nd)) (h1 : td q < k) (h2 : nd ≤ fr (td q)) : fitR k fr td (q + 1) = some (ts ||| 1 <<< td q, fr (td q) + 1) := by
  rw [fitR, h]; simp [h1, h2]
theorem fitR_f {k : Nat} {fr td : Nat → Nat} {q ts nd : Nat} (h : fitR k fr td q = some (ts, nd)) (h1 : ¬ (td q < k ∧ nd ≤ fr (td q))) : fitR k fr td (q + 1) = none := by
  rw [fitR, h]; simp only [if_neg h1]
theorem fitR_up {k : Nat} {fr td : Nat → Nat} {q : Nat} (h : fitR k fr td q = none) : ∀ {L : Nat}, q ≤ L → fitR k fr td L = none := by
  intro L hL
  induction L with
  | zero => rw [show q = 0 by omega] at h; exact h
  | succ L ih =>
    rcases Nat.lt_or_ge q (L + 1) with h1 | h1
    · rw [fitR, ih (by omega)]
    · rw [show q = L + 1 by omega] at h; exact h
def FitP (n k li : Nat) (fr lv td : Nat → Nat) (L : Nat) (tn po : Bool) (ts hd : Nat) : Prop :=
  match fitR k fr td L with
  | none => po = false
  | some (t, nd) => po = true ∧ ts = t ∧ hd = li &&& (if tn then orB lv (min nd n) else 2 ^ k - 1)
theorem FitP_n {n k li : Nat} {fr lv td : Nat → Nat} {L : Nat} {tn : Bool} {ts hd : Nat} (h : fitR k fr td L = none) : FitP n k li fr lv td L tn false ts hd := by
  unfold FitP; rw [h]
theorem FitP_s {n k li : Nat} {fr lv td : Nat → Nat} {L : Nat} {tn : Bool} {ts nd hd : Nat} (h : fitR k fr td L = some (ts, nd)) (hh : hd = li &&& (if tn then orB lv (min nd n) else 2 ^ k - 1)) : FitP n k li fr lv td L tn true ts hd := by
  unfold FitP; rw [h]; exact ⟨rfl, rfl, hh⟩
/-- what a reading allows -/
def alw (po : Bool) (ts hd x : Nat) : Bool := po && decide (x &&& hd = ts)
def allI (f : Nat → Nat) (P : Nat → Bool) : Nat → Int32
  | 0 => -1
  | i + 1 => if P i then allI f P i &&& nI (f i) else allI f P i
def orI (f : Nat → Nat) (P : Nat → Bool) : Nat → Nat
  | 0 => 0
  | i + 1 => if P i then orI f P i ||| f i else orI f P i
/-- a path's steps and nodes as bits -/
def bs (p : List Nat) : Nat := p.foldl (fun a e => a ||| 1 <<< e) 0
def nb (to : Nat → Nat) (p : List Nat) : Nat := p.foldl (fun a e => a ||| 1 <<< to e) 1
theorem bs_a (p : List Nat) (e : Nat) : bs (p ++ [e]) = bs p ||| 1 <<< e := by unfold bs; rw [List.foldl_append]; rfl
theorem nb_a (to : Nat → Nat) (p : List Nat) (e : Nat) : nb to (p ++ [e]) = nb to p ||| 1 <<< to e := by unfold nb; rw [List.foldl_append]; rfl
/-- what Routes hold of a row of ways -/
def Rep (to : Nat → Nat) (ws : List (List Nat)) (num : Nat) (tm : Bool) (ss ns : Nat → Nat) : Prop :=
  num = min 200 ws.length ∧ tm = decide (200 < ws.length) ∧ ∀ i, i < num → ∀ p, ws[i]? = some p → ss i = bs p ∧ ns i = nb to p
theorem Rep_add {to : Nat → Nat} {ws : List (List Nat)} {num : Nat} {tm : Bool} {ss ns : Nat → Nat} {p : List Nat} (h : Rep to ws num tm ss ns) (hn : num < 200) : Rep to (ws ++ [p]) (num + 1) tm (uN ss num (bs p)) (uN ns num (nb to p)) := by
  obtain ⟨h1, h2, h3⟩ := h
  have hl : num = ws.length := by omega
  refine ⟨by rw [List.length_append]; simp; omega, ?_, fun i hi q hq => ?_⟩
  · rw [h2, List.length_append]; simp; omega
  · rcases Nat.lt_or_ge i num with h4 | h4
    · rw [List.getElem?_append_left (by omega)] at hq
      rw [uN_n _ _ (by omega), uN_n _ _ (by omega)]
      exact h3 i h4 q hq
    · have h5 : i = num := by omega
      subst h5
      rw [List.getElem?_append_right (by omega), hl, Nat.sub_self] at hq
      simp at hq
      subst hq
      exact ⟨uN_s _ _ _, uN_s _ _ _⟩
theorem Rep_full {to : Nat → Nat} {ws : List (List Nat)} {num : Nat} {tm : Bool} {ss ns : Nat → Nat} {ps : List (List Nat)} (h : Rep to ws num tm ss ns) (hn : ¬ num < 200) (hp : ps ≠ []) : Rep to (ws ++ ps) num true ss ns := by
  obtain ⟨h1, h2, h3⟩ := h
  have hp1 : 0 < ps.length := List.length_pos_iff.mpr hp
  refine ⟨by rw [List.length_append]; omega, ?_, fun i hi q hq => ?_⟩
  · rw [List.length_append]; simp; omega
  · rw [List.getElem?_append_left (by omega)] at hq
    exact h3 i hi q hq
theorem Rep_more {to : Nat → Nat} {ws : List (List Nat)} {num : Nat} {ss ns : Nat → Nat} (ps : List (List Nat)) (h : Rep to ws num true ss ns) : Rep to (ws ++ ps) num true ss ns := by
  obtain ⟨h1, h2, h3⟩ := h
  have h4 : 200 < ws.length := of_decide_eq_true h2.symm
  refine ⟨by rw [List.length_append]; omega, ?_, fun i hi q hq => ?_⟩
  · rw [List.length_append]; simp; omega
  · rw [List.getElem?_append_left (by omega)] at hq
    exact h3 i hi q hq
/-- the first place below i with P, else i -/
def lfst (P : Nat → Bool) (i : Nat) : Nat := ((List.range i).find? P).getD i
theorem lfst_lt {P : Nat → Bool} {r i : Nat} (hr : r < i) (hP : P r = true) (hb : ∀ j, j < r → P j = false) : lfst P i = r := by
  unfold lfst
  obtain ⟨d, rfl⟩ : ∃ d, i = r + (d + 1) := ⟨i - r - 1, by omega⟩
  have : (List.range (r + (d + 1))).find? P = some r := by
    rw [List.find?_eq_some_iff_append]
    refine ⟨hP, List.range r, (List.range' (r + 1) d), ?_, ?_⟩
    · rw [List.range_eq_range', List.range_eq_range', ← List.range'_append_1, List.range'_succ, Nat.zero_add]
    · intro a ha; rw [List.mem_range] at ha; simp [hb a ha]
  rw [this]; rfl
theorem lfst_no {P : Nat → Bool} {i : Nat} (hb : ∀ j, j < i → P j = false) : lfst P i = i := by
  unfold lfst
  have : (List.range i).find? P = none := by
    rw [List.find?_eq_none]; intro a ha; rw [List.mem_range] at ha; simp [hb a ha]
  rw [this]; rfl
theorem lfst_sp (P : Nat → Bool) (i : Nat) : lfst P i ≤ i ∧ (lfst P i < i → P (lfst P i) = true) ∧ ∀ j, j < lfst P i → P j = false := by
  by_cases h : ∃ r, r < i ∧ P r = true
  · obtain ⟨r, ⟨h1, h2⟩, h3⟩ := pk_least (fun r => r < i ∧ P r = true) h
    have hb : ∀ j, j < r → P j = false := fun j hj => by
      cases hq : P j
      · rfl
      · exact absurd ⟨by omega, hq⟩ (h3 j hj)
    rw [lfst_lt h1 h2 hb]
    exact ⟨by omega, fun _ => h2, hb⟩
  · have hb : ∀ j, j < i → P j = false := fun j hj => by
      cases hq : P j
      · rfl
      · exact absurd ⟨j, hj, hq⟩ h
    rw [lfst_no hb]
    exact ⟨Nat.le_refl _, fun h => absurd h (Nat.lt_irrefl _), hb⟩
def like (ss : Nat → Nat) (li i : Nat) : Nat → Bool := fun j => decide (ss j &&& li = ss i &&& li)
def hpsN (ss : Nat → Nat) (li c : Nat) : Nat := (fl (fun i => decide (lfst (like ss li i) i = i)) c).length
/-- how many bits -/
def pop (x : Nat) : Nat := (fl (Nat.testBit x) 16).length
def bc1 (x : Nat) : Nat := x - (x / 2 &&& 1431655765)
def bc2 (x : Nat) : Nat := (bc1 x &&& 858993459) + (bc1 x / 4 &&& 858993459)
def bc3 (x : Nat) : Nat := (bc2 x + bc2 x / 16) &&& 252645135
def bc4 (x : Nat) : Nat := bc3 x + bc3 x / 256
def bc5 (x : Nat) : Nat := bc4 x + bc4 x / 65536
def popR (x : Nat) : Nat := x % 2 + x / 2 % 2 + x / 4 % 2 + x / 8 % 2 + x / 16 % 2 + x / 32 % 2 + x / 64 % 2 + x / 128 % 2 + x / 256 % 2 + x / 512 % 2 + x / 1024 % 2 + x / 2048 % 2 + x / 4096 % 2 + x / 8192 % 2 + x / 16384 % 2 + x / 32768 % 2
theorem land_split (x y : Nat) : x &&& y = 256 * ((x / 256) &&& (y / 256)) + ((x % 256) &&& (y % 256)) := by
  have h1 : (x &&& y) / 2 ^ 8 = (x / 2 ^ 8) &&& (y / 2 ^ 8) := Nat.and_div_two_pow
  have h2 : (x &&& y) % 2 ^ 8 = (x % 2 ^ 8) &&& (y % 2 ^ 8) := Nat.and_mod_two_pow
  simp only [Nat.reducePow] at h1 h2
  omega
def b8u (l : Nat) : Nat := l - (l / 2 &&& 85)
def b8v (l : Nat) : Nat := (b8u l &&& 51) + (b8u l / 4 &&& 51)
def b8t (l : Nat) : Nat := (b8v l + b8v l / 16) &&& 15
def b8p (x : Nat) : Nat := x % 2 + x / 2 % 2 + x / 4 % 2 + x / 8 % 2 + x / 16 % 2 + x / 32 % 2 + x / 64 % 2 + x / 128 % 2
theorem b8_0 : ∀ l, l < 256 → (l / 2 &&& 5592405 = l / 2 &&& 85) ∧ (128 + l / 2 &&& 85 = l / 2 &&& 85) ∧ b8u l < 256 := by decide +kernel
theorem b8_1 : ∀ b, b < 256 → (b &&& 3355443 = b &&& 51) ∧ (b / 4 &&& 3355443 = b / 4 &&& 51) ∧ (64 + b / 4 &&& 51 = b / 4 &&& 51) ∧ (128 + b / 4 &&& 51 = b / 4 &&& 51) ∧ (192 + b / 4 &&& 51 = b / 4 &&& 51) := by decide +kernel
theorem b8_2 : ∀ l, l < 256 → b8v l ≤ 68 ∧ b8v l % 16 ≤ 4 ∧ b8t l = b8p l ∧ b8t l ≤ 8 ∧ ((b8v l + b8v l / 16) &&& 986895 = b8t l) := by decide +kernel
theorem b8_3 : ∀ d, d < 256 → ∀ q, q < 5 → (16 * q + d &&& 15) = (d &&& 15) := by decide +kernel
theorem bc1_s {h l : Nat} (hh : h < 256) (hl : l < 256) : bc1 (256 * h + l) = 256 * b8u h + b8u l := by
  have e : ((256 * h + l) / 2) &&& 1431655765 = 256 * (h / 2 &&& 85) + (l / 2 &&& 85) := by
    rw [land_split, show (256 * h + l) / 2 / 256 = h / 2 by omega, show (256 * h + l) / 2 % 256 = 128 * (h % 2) + l / 2 by omega, show 1431655765 / 256 = 5592405 from rfl, show 1431655765 % 256 = 85 from rfl, (b8_0 h hh).1]
    rcases Nat.mod_two_eq_zero_or_one h with q | q
    · rw [q]; simp
    · rw [q]; simp [(b8_0 l hl).2.1]
  have h1 : h / 2 &&& 85 ≤ h := Nat.le_trans Nat.and_le_left (Nat.div_le_self _ _)
  have h2 : l / 2 &&& 85 ≤ l := Nat.le_trans Nat.and_le_left (Nat.div_le_self _ _)
  unfold bc1 b8u
  rw [e]; omega
theorem bc2_s {h l : Nat} (hh : h < 256) (hl : l < 256) : bc2 (256 * h + l) = 256 * b8v h + b8v l := by
  unfold bc2 b8v
  rw [bc1_s hh hl]
  have ha := (b8_0 h hh).2.2
  have hb := (b8_0 l hl).2.2
  generalize b8u h = a at ha ⊢
  generalize b8u l = b at hb ⊢
  have e1 : (256 * a + b) &&& 858993459 = 256 * (a &&& 51) + (b &&& 51) := by
    rw [land_split, show (256 * a + b) / 256 = a by omega, show (256 * a + b) % 256 = b by omega, show 858993459 / 256 = 3355443 from rfl, show 858993459 % 256 = 51 from rfl, (b8_1 a ha).1]
  have e2 : (256 * a + b) / 4 &&& 858993459 = 256 * (a / 4 &&& 51) + (b / 4 &&& 51) := by
    rw [land_split, show (256 * a + b) / 4 / 256 = a / 4 by omega, show (256 * a + b) / 4 % 256 = 64 * (a % 4) + b / 4 by omega, show 858993459 / 256 = 3355443 from rfl, show 858993459 % 256 = 51 from rfl, (b8_1 a ha).2.1]
    rcases (show a % 4 = 0 ∨ a % 4 = 1 ∨ a % 4 = 2 ∨ a % 4 = 3 by omega) with q | q | q | q <;> rw [q]
    · simp
    · rw [(b8_1 b hb).2.2.1]
    · rw [(b8_1 b hb).2.2.2.1]
    · rw [(b8_1 b hb).2.2.2.2]
  rw [e1, e2]; omega
theorem bc3_s {h l : Nat} (hh : h < 256) (hl : l < 256) : bc3 (256 * h + l) = 256 * b8t h + b8t l := by
  unfold bc3
  rw [bc2_s hh hl]
  obtain ⟨h1, h2, -, -, h5⟩ := b8_2 h hh
  obtain ⟨l1, -, -, -, -⟩ := b8_2 l hl
  rw [← h5]
  unfold b8t
  generalize b8v h = a at h1 h2 ⊢
  generalize b8v l = b at l1 ⊢
  rw [land_split, show (256 * a + b + (256 * a + b) / 16) / 256 = a + a / 16 by omega, show (256 * a + b + (256 * a + b) / 16) % 256 = 16 * (a % 16) + (b + b / 16) by omega, show 252645135 / 256 = 986895 from rfl, show 252645135 % 256 = 15 from rfl, b8_3 (b + b / 16) (by omega) (a % 16) (by omega)]
theorem pop_R (x : Nat) : pop x = popR x := by
  have h : ∀ k, (fl (Nat.testBit x) (k + 1)).length = (fl (Nat.testBit x) k).length + x / 2 ^ k % 2 := fun k => by
    have e := Nat.testBit_eq_decide_div_mod_eq (x := x) (i := k)
    have hm : x / 2 ^ k % 2 < 2 := Nat.mod_lt _ (by decide)
    cases hb : Nat.testBit x k
    · rw [fl_f hb]; rw [hb] at e; have := of_decide_eq_false e.symm; omega
    · rw [fl_t hb]; rw [hb] at e; have := of_decide_eq_true e.symm; simp; omega
  unfold pop popR
  have h0 : (fl (Nat.testBit x) 0).length = 0 := rfl
  have a0 := h 0; have a1 := h 1; have a2 := h 2; have a3 := h 3; have a4 := h 4; have a5 := h 5; have a6 := h 6; have a7 := h 7
  have a8 := h 8; have a9 := h 9; have b0 := h 10; have b1 := h 11; have b2 := h 12; have b3 := h 13; have b4 := h 14; have b5 := h 15
  simp only [Nat.zero_add, Nat.reduceAdd, Nat.reducePow, Nat.div_one] at a0 a1 a2 a3 a4 a5 a6 a7 a8 a9 b0 b1 b2 b3 b4 b5
  rw [b5, b4, b3, b2, b1, b0, a9, a8, a7, a6, a5, a4, a3, a2, a1, a0, h0, Nat.zero_add]
theorem bc_ok {x : Nat} (hx : x < 65536) : bc5 x &&& 63 = pop x := by
  have e := bc3_s (h := x / 256) (l := x % 256) (by omega) (by omega)
  rw [show 256 * (x / 256) + x % 256 = x by omega] at e
  obtain ⟨-, -, h3, h4, -⟩ := b8_2 (x / 256) (by omega)
  obtain ⟨-, -, l3, l4, -⟩ := b8_2 (x % 256) (by omega)
  have e5 : bc5 x = 256 * b8t (x / 256) + b8t (x % 256) + b8t (x / 256) := by
    unfold bc5 bc4; rw [e]; omega
  rw [e5, show (63 : Nat) = 2 ^ 6 - 1 from rfl, Nat.and_two_pow_sub_one_eq_mod, show (2 : Nat) ^ 6 = 64 from rfl, pop_R]
  have ep : popR x = b8p (x % 256) + b8p (x / 256) := by
    unfold popR b8p
    have r0 : x % 256 % 2 = x % 2 := by omega
    have r1 : x % 256 / 2 % 2 = x / 2 % 2 := by omega
    have r2 : x % 256 / 4 % 2 = x / 4 % 2 := by omega
    have r3 : x % 256 / 8 % 2 = x / 8 % 2 := by omega
    have r4 : x % 256 / 16 % 2 = x / 16 % 2 := by omega
    have r5 : x % 256 / 32 % 2 = x / 32 % 2 := by omega
    have r6 : x % 256 / 64 % 2 = x / 64 % 2 := by omega
    have r7 : x % 256 / 128 % 2 = x / 128 % 2 := by omega
    have q1 : x / 256 / 2 = x / 512 := by omega
    have q2 : x / 256 / 4 = x / 1024 := by omega
    have q3 : x / 256 / 8 = x / 2048 := by omega
    have q4 : x / 256 / 16 = x / 4096 := by omega
    have q5 : x / 256 / 32 = x / 8192 := by omega
    have q6 : x / 256 / 64 = x / 16384 := by omega
    have q7 : x / 256 / 128 = x / 32768 := by omega
    rw [r0, r1, r2, r3, r4, r5, r6, r7, q1, q2, q3, q4, q5, q6, q7]
    simp only [Nat.add_assoc]
  rw [ep, ← h3, ← l3]
  omega
theorem bc1_le (x : Nat) : x / 2 &&& 1431655765 ≤ x := Nat.le_trans Nat.and_le_left (Nat.div_le_self _ _)
theorem bc2_lt (x : Nat) : bc2 x < 2 ^ 31 := by
  have h1 : bc1 x &&& 858993459 ≤ 858993459 := Nat.and_le_right
  have h2 : bc1 x / 4 &&& 858993459 ≤ 858993459 := Nat.and_le_right
  unfold bc2; omega
theorem bc3_lt (x : Nat) : bc3 x ≤ 252645135 := by unfold bc3; exact Nat.and_le_right
theorem bc4_lt (x : Nat) : bc4 x < 2 ^ 31 := by have := bc3_lt x; unfold bc4; omega
