/-! PURE for the law: what holds between two calls -/
def RdI (ird : Bool) (rl : Int32) (tn itn : Bool) (lsz : Nat) (td : Nat → Nat) (lg : Nat → Int32) : Prop := (ird = false ∧ rl = -1) ∨ (ird = true ∧ rl = nI lsz ∧ tn = itn ∧ lsz ≤ 16 ∧ ∀ j, j < lsz → lg j = sgb (td j) ∧ td j < 256)
def LI (i n k li fa : Nat) (fr to ct lv : Nat → Nat) (num : Nat) (tm sl : Bool) (ss ns : Nat → Nat) (cap : Nat) (z : Nat → Nat) (pn : Nat) (slk : Bool) (capj : Nat) (y : Nat → Nat) (qn : Nat) (slj : Bool) (tl : Nat) (tb : Nat → Nat) (tp : Nat → Int32) (ird : Bool) (rl : Int32) (tn itn : Bool) (lsz : Nat) (td : Nat → Nat) (lg : Nat → Int32) (tu : Nat) (sn : Nat → Nat) : Prop :=
  Flow n k fr to ct ∧ Leav k fr lv ∧ li < 2 ^ k ∧ fa < 2 ^ 12 ∧ (sl = false → Rep to (WL n k fr to) num tm ss ns) ∧ (pn ≤ cap ∧ 32 ≤ cap ∧ cap ≤ 80800 ∧ (slk = false → PVk n k fr to true fa z pn)) ∧ (qn ≤ capj ∧ 32 ≤ capj ∧ capj ≤ 80800 ∧ (slj = false → PVk n k fr to false fa y qn)) ∧ (tl ≤ 40 ∧ ∀ j, j < tl → tp j = sgb (tb j) ∧ tb j < 256) ∧ RdI ird rl tn itn lsz td lg ∧ (tu ≤ 65536 * i ∧ ∀ l, l < 65536 → sn l ≤ tu)
theorem sub_gt {L i : Nat} (hL : L < 2 ^ 30) (hi : i < 2 ^ 30) : nI L - nI 6 < nI i ↔ L < i + 6 := by
  rw [Int32.lt_iff_toInt_lt, pk_sub_toInt hL (by decide), nI_toInt (by omega)]; omega
theorem and31 (x : Int32) : ∃ j : Nat, j < 32 ∧ x &&& nI 31 = nI j := pk_andE x 5 (by decide)
