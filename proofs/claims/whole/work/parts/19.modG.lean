theorem inB_y {j n : Nat} (h : j < n) (hn : n < 2 ^ 31) : inB (nI j) n = true := by rw [inB_n (by omega)]; exact decide_eq_true h
def stepOK (n k : Nat) (a b c : Int32) : Bool := inB a n && inB b n && decide (a.toInt < b.toInt) && inB c 1000001 && decide (k < 16)
theorem stepOK_t {n k : Nat} {a b c : Int32} (h1 : inB a n = true) (h2 : inB b n = true) (h3 : ¬ b ≤ a) (h4 : inB c 1000001 = true) (h5 : k < 16) : stepOK n k a b c = true := by
  have h6 : a.toInt < b.toInt := by
    have := mt Int32.le_iff_toInt_le.mpr h3; omega
  unfold stepOK; simp [h1, h2, h4, h5, h6]
def sPrice (k : Nat) (ct : Nat → Nat) (v : Int32) : Int64 := if inB v (2 ^ k) then lN (prc ct v.toNatClampNeg k) else -1
theorem pmask {k : Nat} {v : Int32} (hk : k ≤ 16) : v &&& (nI (2 ^ k - 1) ^^^ (-1)) = 0 ↔ ∃ j, j < 2 ^ k ∧ v = nI j := by
  have hp : (2 : Nat) ^ k ≤ 2 ^ 16 := Nat.pow_le_pow_right (by decide) hk
  have hb : ∀ i, i < 32 → (v &&& (nI (2 ^ k - 1) ^^^ (-1))).toBitVec.getLsbD i = (v.toBitVec.getLsbD i && !decide (i < k)) := by
    intro i hi
    rw [Int32.toBitVec_and, Int32.toBitVec_xor]
    show (v.toBitVec &&& (BitVec.ofNat 32 (2 ^ k - 1) ^^^ BitVec.allOnes 32)).getLsbD i = _
    rw [BitVec.getLsbD_and, BitVec.getLsbD_xor, BitVec.getLsbD_ofNat, Nat.testBit_two_pow_sub_one, BitVec.getLsbD_allOnes]
    simp [hi]
  constructor
  · intro h
    refine ⟨v.toBitVec.toNat, ?_, Int32.toBitVec_inj.mp ?_⟩
    · apply Nat.lt_pow_two_of_testBit
      intro i hi
      rcases Nat.lt_or_ge i 32 with h1 | h1
      · have h2 := hb i h1
        rw [h] at h2
        have h3 : (0 : Int32).toBitVec.getLsbD i = false := by
          show (BitVec.ofNat 32 0).getLsbD i = false
          simp
        rw [h3] at h2
        have h4 : decide (i < k) = false := decide_eq_false (by omega)
        rw [h4] at h2
        show v.toBitVec.getLsbD i = false
        simpa using h2.symm
      · exact Nat.testBit_lt_two_pow (Nat.lt_of_lt_of_le v.toBitVec.isLt (Nat.pow_le_pow_right (by decide) h1))
    · show v.toBitVec = BitVec.ofNat 32 v.toBitVec.toNat
      rw [BitVec.ofNat_toNat]; simp
  · rintro ⟨j, hj, rfl⟩
    apply Int32.toBitVec_inj.mp
    apply BitVec.eq_of_getLsbD_eq
    intro i hi
    rw [hb i hi]
    have h3 : (0 : Int32).toBitVec.getLsbD i = false := by
      show (BitVec.ofNat 32 0).getLsbD i = false
      simp
    rw [h3]
    show ((BitVec.ofNat 32 j).getLsbD i && !decide (i < k)) = false
    rw [BitVec.getLsbD_ofNat]
    by_cases h1 : i < k
    · simp [h1]
    · rw [Nat.testBit_lt_two_pow (Nat.lt_of_lt_of_le hj (Nat.pow_le_pow_right (by decide) (by omega)))]; simp
theorem sPrice_t {k : Nat} {ct : Nat → Nat} {j : Nat} (hk : k ≤ 16) (hj : j < 2 ^ k) : sPrice k ct (nI j) = lN (prc ct j k) := by
  have hp : (2 : Nat) ^ k ≤ 2 ^ 16 := Nat.pow_le_pow_right (by decide) hk
  rw [sPrice, inB_y hj (by omega), if_pos rfl, nI_clamp (by omega)]
theorem sPrice_f {k : Nat} {ct : Nat → Nat} {v : Int32} (hk : k ≤ 16) (h : ¬ v &&& (nI (2 ^ k - 1) ^^^ (-1)) = 0) : sPrice k ct v = -1 := by
  have hp : (2 : Nat) ^ k ≤ 2 ^ 16 := Nat.pow_le_pow_right (by decide) hk
  rw [sPrice, if_neg]
  intro h2
  obtain ⟨j, hj, rfl⟩ := inB_of (by omega) h2
  exact h ((pmask hk).mpr ⟨j, hj, rfl⟩)
/-- the tape behind a feed -/
def feedP (tl : Nat) (tb g : Nat → Nat) (a b c d e : Int32) : Prop := (∀ j, j < tl → g j = tb j) ∧ ∀ q, q < 20 → g (tl + q) = byt (if q < 4 then a else if q < 8 then b else if q < 12 then c else if q < 16 then d else e) (3 - q % 4)
theorem feedP_5 {tl : Nat} {tb g1 g2 g3 g4 g5 : Nat → Nat} {a b c d e : Int32} (p1 : ∀ j, j < tl → g1 j = tb j) (q1 : ∀ q, q < 4 → g1 (tl + q) = byt a (3 - q)) (p2 : ∀ j, j < tl + 4 → g2 j = g1 j) (q2 : ∀ q, q < 4 → g2 (tl + 4 + q) = byt b (3 - q)) (p3 : ∀ j, j < tl + 4 + 4 → g3 j = g2 j) (q3 : ∀ q, q < 4 → g3 (tl + 4 + 4 + q) = byt c (3 - q)) (p4 : ∀ j, j < tl + 4 + 4 + 4 → g4 j = g3 j) (q4 : ∀ q, q < 4 → g4 (tl + 4 + 4 + 4 + q) = byt d (3 - q)) (p5 : ∀ j, j < tl + 4 + 4 + 4 + 4 → g5 j = g4 j) (q5 : ∀ q, q < 4 → g5 (tl + 4 + 4 + 4 + 4 + q) = byt e (3 - q)) : feedP tl tb g5 a b c d e := by
  refine ⟨fun j hj => by rw [p5 j (by omega), p4 j (by omega), p3 j (by omega), p2 j (by omega), p1 j hj], fun q hq => ?_⟩
  by_cases h1 : q < 4
  · rw [if_pos h1, p5 _ (by omega), p4 _ (by omega), p3 _ (by omega), p2 _ (by omega), q1 q h1, Nat.mod_eq_of_lt h1]
  rw [if_neg h1]
  by_cases h2 : q < 8
  · rw [if_pos h2, p5 _ (by omega), p4 _ (by omega), p3 _ (by omega), show tl + q = tl + 4 + (q - 4) by omega, q2 (q - 4) (by omega), show q % 4 = q - 4 by omega]
  rw [if_neg h2]
  by_cases h3 : q < 12
  · rw [if_pos h3, p5 _ (by omega), p4 _ (by omega), show tl + q = tl + 4 + 4 + (q - 8) by omega, q3 (q - 8) (by omega), show q % 4 = q - 8 by omega]
  rw [if_neg h3]
  by_cases h4 : q < 16
  · rw [if_pos h4, p5 _ (by omega), show tl + q = tl + 4 + 4 + 4 + (q - 12) by omega, q4 (q - 12) (by omega), show q % 4 = q - 12 by omega]
  rw [if_neg h4, show tl + q = tl + 4 + 4 + 4 + 4 + (q - 16) by omega, q5 (q - 16) (by omega), show q % 4 = q - 16 by omega]
def sLook (k li : Nat) (fr to ct : Nat → Nat) (x y : Int32) : Int32 := if inB x k then (if y.toInt = 0 then nI (fr x.toNatClampNeg) else if y.toInt = 1 then nI (to x.toNatClampNeg) else if y.toInt = 2 then nI (ct x.toNatClampNeg) else if y.toInt = 3 then bI (Nat.testBit li x.toNatClampNeg) else -1) else -1
theorem sLook_0 {k li : Nat} {fr to ct : Nat → Nat} {j : Nat} {y : Int32} (h : inB (nI j) k = true) (hy : y.toInt = 0) (hj : j < 2 ^ 31) : sLook k li fr to ct (nI j) y = nI (fr j) := by rw [sLook, h, if_pos rfl, if_pos hy, nI_clamp hj]
theorem sLook_1 {k li : Nat} {fr to ct : Nat → Nat} {j : Nat} {y : Int32} (h : inB (nI j) k = true) (hy : y.toInt = 1) (hj : j < 2 ^ 31) : sLook k li fr to ct (nI j) y = nI (to j) := by rw [sLook, h, if_pos rfl, if_neg (by omega), if_pos hy, nI_clamp hj]
theorem sLook_2 {k li : Nat} {fr to ct : Nat → Nat} {j : Nat} {y : Int32} (h : inB (nI j) k = true) (hy : y.toInt = 2) (hj : j < 2 ^ 31) : sLook k li fr to ct (nI j) y = nI (ct j) := by rw [sLook, h, if_pos rfl, if_neg (by omega), if_neg (by omega), if_pos hy, nI_clamp hj]
theorem sLook_3 {k li : Nat} {fr to ct : Nat → Nat} {j : Nat} {y : Int32} (h : inB (nI j) k = true) (hy : y.toInt = 3) (hj : j < 2 ^ 31) : sLook k li fr to ct (nI j) y = bI (Nat.testBit li j) := by rw [sLook, h, if_pos rfl, if_neg (by omega), if_neg (by omega), if_neg (by omega), if_pos hy, nI_clamp hj]
theorem sLook_x {k li : Nat} {fr to ct : Nat → Nat} {x y : Int32} (h : inB x k = true) (hy : y.toInt < 0 ∨ 3 < y.toInt) : sLook k li fr to ct x y = -1 := by rw [sLook, h, if_pos rfl, if_neg (by omega), if_neg (by omega), if_neg (by omega), if_neg (by omega)]
def sCount (n k li fa : Nat) (ct : Nat → Nat) (tl : Nat) (y : Int32) : Int64 := if y.toInt = 0 then lN n else if y.toInt = 1 then lN k else if y.toInt = 2 then lN (pop li) else if y.toInt = 3 then lN (pop fa) else if y.toInt = 4 then lN (prc ct li k) else if y.toInt = 5 then lN tl else -1
theorem sCount_x {n k li fa : Nat} {ct : Nat → Nat} {tl : Nat} {y : Int32} (h : y.toInt < 0 ∨ 5 < y.toInt) : sCount n k li fa ct tl y = -1 := by
  rw [sCount, if_neg (by omega), if_neg (by omega), if_neg (by omega), if_neg (by omega), if_neg (by omega), if_neg (by omega)]
set_option maxHeartbeats 4000000 in
set_option maxRecDepth 100000 in
theorem c_X6_flow_t (l : Launch) (G : ga_G) (aO : Nat) (aP : Nat) (aW : Nat) (aK : Nat) (aJ : Nat) (aH : Nat) (aB : Nat) (aR : Nat) (aF : Nat) (aT : Nat) (aC : Nat) (aL : Nat) (n : Nat) (k : Nat) (li : Nat) (fa : Nat) (lv : Nat → Nat) (aS : Nat) (aQ : Nat) (num : Nat) (tm : Bool) (sl : Bool) (ss : Nat → Nat) (ns : Nat → Nat) (aZ : Nat) (pn : Nat) (slk : Bool) (aY : Nat) (qn : Nat) (slj : Bool) (aD : Nat) (rl : Int32) (tn : Bool) (po : Bool) (ts : Nat) (hd : Nat) (j : Nat) (hj : 2 ≤ j ∧ j ≤ 12) : ga_M l G yX6_flow cX6_flow 2 (Option.some Jvm.ClassFile.FieldType.boolean) 2 44 0 0 [.ref aO, .int (nI j)] [(aO, .inr (6, [.ref aP, .ref aW, .ref aK, .ref aJ, .ref aH, .ref aB, .ref aR])), (aP, .inr (1, [.ref aF, .ref aT, .ref aC, .ref aL, .int (nI n), .int (nI k), .int (nI li), .int (nI fa)])), (aL, .inl (G.2.2, 12, .inl (aN lv))), (aR, .inr (2, [.ref aD, .int rl, .int (bI tn), .int (bI po), .int (nI ts), .int (nI hd)])), (aW, .inr (3, [.ref aS, .ref aQ, .int (nI num), .int (bI tm), .int (bI sl)])), (aK, .inr (0, [.ref aZ, .int (nI pn), .int (bI slk)])), (aJ, .inr (0, [.ref aY, .int (nI qn), .int (bI slj)]))] (fun r w => ∃ (g : Nat → Nat), (∀ u, u < 12 → g u = 0) ∧ r = some (.int (nI 1)) ∧ w = [(aO, .inr (6, [.ref aP, .ref aW, .ref aK, .ref aJ, .ref aH, .ref aB, .ref aR])), (aP, .inr (1, [.ref aF, .ref aT, .ref aC, .ref aL, .int (nI j), .int (nI 0), .int (nI 0), .int (nI 0)])), (aL, .inl (G.2.2, 12, .inl (aN g))), (aR, .inr (2, [.ref aD, .int (-1), .int (bI tn), .int (bI po), .int (nI ts), .int (nI hd)])), (aW, .inr (3, [.ref aS, .ref aQ, .int (nI num), .int (bI tm), .int (bI true)])), (aK, .inr (0, [.ref aZ, .int (nI pn), .int (bI true)])), (aJ, .inr (0, [.ref aY, .int (nI qn), .int (bI true)]))]) := by
  refine ga_M.intro (by decide) (Nat.le_of_ble_eq_true rfl) (fun p_ e_ s_ m_ below meth c_ A_ H_ locs_ ls cx hr hlk hnm hA hK hl w => ?_)
  have hx := cx.1
  have hb := cx.2.1
  have hl : lv_has ls 2 [(0, .ref aO), (1, .int (nI j))] := hl
  refine lv_iload_n hx hb dX6_flow_0 rfl (lv_at hl 1 rfl) ?_
  refine lv_iconst (v := nI 2) hx hb dX6_flow_1 (by decide) ?_
  refine r_icmp_lt hx hb dX6_flow_2 (tgt := 11) (by decide) (by omega) (by omega) (fun c2 => ?_) (fun c2 => ?_)
  · omega
  · refine lv_iload_n hx hb dX6_flow_5 rfl (lv_at hl 1 rfl) ?_
    refine lv_bipush (v := nI 12) hx hb dX6_flow_6 (by decide) ?_
    refine r_icmp_le hx hb dX6_flow_8 (tgt := 13) (by decide) (by omega) (by omega) (fun c8 => ?_) (fun c8 => ?_)
    · refine lv_aload_n hx hb dX6_flow_13 rfl (lv_at hl 0 rfl) ?_
      refine gf_X6_12 cx hK w 0 rfl rfl dX6_flow_14 ?_
      refine lv_iload_n hx hb dX6_flow_17 rfl (lv_at hl 1 rfl) ?_
      refine ga_callV (rest := []) (wr := [(aO, .inr (6, [.ref aP, .ref aW, .ref aK, .ref aJ, .ref aH, .ref aB, .ref aR])), (aR, .inr (2, [.ref aD, .int rl, .int (bI tn), .int (bI po), .int (nI ts), .int (nI hd)])), (aW, .inr (3, [.ref aS, .ref aQ, .int (nI num), .int (bI tm), .int (bI sl)])), (aK, .inr (0, [.ref aZ, .int (nI pn), .int (bI slk)])), (aJ, .inr (0, [.ref aY, .int (nI qn), .int (bI slj)]))]) cx hK hA w hl lk_X6_56 (c_X1_restart l G aP aF aT aC aL n k li fa lv j ) ⟨Nat.le_of_ble_eq_true rfl, Nat.le_of_ble_eq_true rfl⟩ [1, 2] [0, 3, 4, 5, 6] rfl rfl (by decide) (by decide) (by decide) 1 1 rfl rfl rfl rfl (Nat.le_of_ble_eq_true rfl) dX6_flow_18 ⟨Nat.le_refl _, Nat.le_refl _⟩ rfl (fun r w1_ H_ locs_ hp w => ?_)
      obtain ⟨g, hg, rfl, rfl⟩ := hp
      have w : ga_wd G A_ s_ H_ locs_ [(aO, .inr (6, [.ref aP, .ref aW, .ref aK, .ref aJ, .ref aH, .ref aB, .ref aR])), (aP, .inr (1, [.ref aF, .ref aT, .ref aC, .ref aL, .int (nI j), .int (nI 0), .int (nI 0), .int (nI 0)])), (aL, .inl (G.2.2, 12, .inl (aN g))), (aR, .inr (2, [.ref aD, .int rl, .int (bI tn), .int (bI po), .int (nI ts), .int (nI hd)])), (aW, .inr (3, [.ref aS, .ref aQ, .int (nI num), .int (bI tm), .int (bI sl)])), (aK, .inr (0, [.ref aZ, .int (nI pn), .int (bI slk)])), (aJ, .inr (0, [.ref aY, .int (nI qn), .int (bI slj)]))] := ga_perm w [0, 5, 6, 1, 2, 3, 4] (by decide) rfl
      refine W.eq (g2 := F0 m_ 21 ls []) rfl ?_
      refine lv_aload_n hx hb dX6_flow_21 rfl (lv_at hl 0 rfl) ?_
      refine gf_X6_52 cx hK w 0 rfl rfl dX6_flow_22 ?_
      refine ga_callV (rest := []) (wr := [(aO, .inr (6, [.ref aP, .ref aW, .ref aK, .ref aJ, .ref aH, .ref aB, .ref aR])), (aP, .inr (1, [.ref aF, .ref aT, .ref aC, .ref aL, .int (nI j), .int (nI 0), .int (nI 0), .int (nI 0)])), (aL, .inl (G.2.2, 12, .inl (aN g))), (aW, .inr (3, [.ref aS, .ref aQ, .int (nI num), .int (bI tm), .int (bI sl)])), (aK, .inr (0, [.ref aZ, .int (nI pn), .int (bI slk)])), (aJ, .inr (0, [.ref aY, .int (nI qn), .int (bI slj)]))]) cx hK hA w hl lk_X6_60 (c_X2_forget l G aR aD rl tn po ts hd ) ⟨Nat.le_of_ble_eq_true rfl, Nat.le_of_ble_eq_true rfl⟩ [3] [0, 1, 2, 4, 5, 6] rfl rfl (by decide) (by decide) (by decide) 3 2 rfl rfl rfl rfl (Nat.le_of_ble_eq_true rfl) dX6_flow_25 ⟨Nat.le_refl _, Nat.le_refl _⟩ rfl (fun r w1_ H_ locs_ hp w => ?_)
      obtain ⟨rfl, rfl⟩ := hp
      have w : ga_wd G A_ s_ H_ locs_ [(aO, .inr (6, [.ref aP, .ref aW, .ref aK, .ref aJ, .ref aH, .ref aB, .ref aR])), (aP, .inr (1, [.ref aF, .ref aT, .ref aC, .ref aL, .int (nI j), .int (nI 0), .int (nI 0), .int (nI 0)])), (aL, .inl (G.2.2, 12, .inl (aN g))), (aR, .inr (2, [.ref aD, .int (-1), .int (bI tn), .int (bI po), .int (nI ts), .int (nI hd)])), (aW, .inr (3, [.ref aS, .ref aQ, .int (nI num), .int (bI tm), .int (bI sl)])), (aK, .inr (0, [.ref aZ, .int (nI pn), .int (bI slk)])), (aJ, .inr (0, [.ref aY, .int (nI qn), .int (bI slj)]))] := ga_perm w [0, 1, 2, 6, 3, 4, 5] (by decide) rfl
      refine W.eq (g2 := F0 m_ 28 ls []) rfl ?_
      refine lv_aload_n hx hb dX6_flow_28 rfl (lv_at hl 0 rfl) ?_
      refine ga_callV (rest := []) (wr := [(aP, .inr (1, [.ref aF, .ref aT, .ref aC, .ref aL, .int (nI j), .int (nI 0), .int (nI 0), .int (nI 0)])), (aL, .inl (G.2.2, 12, .inl (aN g))), (aR, .inr (2, [.ref aD, .int (-1), .int (bI tn), .int (bI po), .int (nI ts), .int (nI hd)]))]) cx hK hA w hl lk_X6_63 (c_X6_forgetWays l G aO aP aW aK aJ aH aB aR aS aQ num tm sl ss ns aZ pn slk aY qn slj ) ⟨Nat.le_of_ble_eq_true rfl, Nat.le_of_ble_eq_true rfl⟩ [0, 4, 5, 6] [1, 2, 3] rfl rfl (by decide) (by decide) (by decide) 0 6 rfl rfl rfl rfl (Nat.le_of_ble_eq_true rfl) dX6_flow_29 ⟨Nat.le_refl _, Nat.le_refl _⟩ rfl (fun r w1_ H_ locs_ hp w => ?_)
      obtain ⟨rfl, rfl⟩ := hp
      have w : ga_wd G A_ s_ H_ locs_ [(aO, .inr (6, [.ref aP, .ref aW, .ref aK, .ref aJ, .ref aH, .ref aB, .ref aR])), (aP, .inr (1, [.ref aF, .ref aT, .ref aC, .ref aL, .int (nI j), .int (nI 0), .int (nI 0), .int (nI 0)])), (aL, .inl (G.2.2, 12, .inl (aN g))), (aR, .inr (2, [.ref aD, .int (-1), .int (bI tn), .int (bI po), .int (nI ts), .int (nI hd)])), (aW, .inr (3, [.ref aS, .ref aQ, .int (nI num), .int (bI tm), .int (bI true)])), (aK, .inr (0, [.ref aZ, .int (nI pn), .int (bI true)])), (aJ, .inr (0, [.ref aY, .int (nI qn), .int (bI true)]))] := ga_perm w [3, 0, 1, 2, 4, 5, 6] (by decide) rfl
      refine W.eq (g2 := F0 m_ 32 ls []) rfl ?_
      refine lv_iconst (v := nI 1) hx hb dX6_flow_32 (by decide) ?_
      exact ga_zret cx hr hlk w rfl dX6_flow_33 ⟨Nat.le_refl _, Nat.le_refl _⟩ (⟨g, hg, rfl, rfl⟩)
    · omega

set_option maxHeartbeats 4000000 in
set_option maxRecDepth 100000 in
theorem c_X6_flow_f (l : Launch) (G : ga_G) (aO : Nat) (v : Int32) (hj : ¬ (2 ≤ v.toInt ∧ v.toInt ≤ 12)) : ga_M l G yX6_flow cX6_flow 2 (Option.some Jvm.ClassFile.FieldType.boolean) 0 0 0 0 [.ref aO, .int v] [] (fun r w => r = some (.int (nI 0)) ∧ w = []) := by
  refine ga_M.intro (by decide) (Nat.le_of_ble_eq_true rfl) (fun p_ e_ s_ m_ below meth c_ A_ H_ locs_ ls cx hr hlk hnm hA hK hl w => ?_)
  have hx := cx.1
  have hb := cx.2.1
  have hl : lv_has ls 2 [(0, .ref aO), (1, .int v)] := hl
  refine lv_iload_n hx hb dX6_flow_0 rfl (lv_at hl 1 rfl) ?_
  refine lv_iconst (v := nI 2) hx hb dX6_flow_1 (by decide) ?_
  refine lv_icmp_lt hx hb dX6_flow_2 (tgt := 11) (by decide) (fun c2 => ?_) (fun c2 => ?_)
  · refine lv_iconst (v := nI 0) hx hb dX6_flow_11 (by decide) ?_
    exact ga_zret cx hr hlk w rfl dX6_flow_12 ⟨Nat.le_refl _, Nat.le_refl _⟩ (⟨rfl, rfl⟩)
  · refine lv_iload_n hx hb dX6_flow_5 rfl (lv_at hl 1 rfl) ?_
    refine lv_bipush (v := nI 12) hx hb dX6_flow_6 (by decide) ?_
    refine lv_icmp_le hx hb dX6_flow_8 (tgt := 13) (by decide) (fun c8 => ?_) (fun c8 => ?_)
    · exact absurd ⟨by have h := mt Int32.lt_iff_toInt_lt.mpr c2; rw [nI_toInt (by decide)] at h; omega, by have h := Int32.le_iff_toInt_le.mp c8; rw [nI_toInt (by decide)] at h; omega⟩ hj
    · refine lv_iconst (v := nI 0) hx hb dX6_flow_11 (by decide) ?_
      exact ga_zret cx hr hlk w rfl dX6_flow_12 ⟨Nat.le_refl _, Nat.le_refl _⟩ (⟨rfl, rfl⟩)

set_option maxHeartbeats 4000000 in
set_option maxRecDepth 100000 in
theorem c_X6_step_t (l : Launch) (G : ga_G) (aO : Nat) (aP : Nat) (aW : Nat) (aK : Nat) (aJ : Nat) (aH : Nat) (aB : Nat) (aR : Nat) (aF : Nat) (aT : Nat) (aC : Nat) (aL : Nat) (n : Nat) (k : Nat) (li : Nat) (fa : Nat) (fr : Nat → Nat) (to : Nat → Nat) (ct : Nat → Nat) (lv : Nat → Nat) (aS : Nat) (aQ : Nat) (num : Nat) (tm : Bool) (sl : Bool) (ss : Nat → Nat) (ns : Nat → Nat) (aZ : Nat) (pn : Nat) (slk : Bool) (aY : Nat) (qn : Nat) (slj : Bool) (va : Nat) (vb : Nat) (vc : Nat) (hn : n ≤ 12) (hk : k < 16) (hab : va < vb) (hbn : vb < n) (hvc : vc ≤ 1000000) : ga_M l G yX6_step cX6_step 5 (Option.some Jvm.ClassFile.FieldType.int) 1 24 0 0 [.ref aO, .int (nI va), .int (nI vb), .int (nI vc)] [(aO, .inr (6, [.ref aP, .ref aW, .ref aK, .ref aJ, .ref aH, .ref aB, .ref aR])), (aP, .inr (1, [.ref aF, .ref aT, .ref aC, .ref aL, .int (nI n), .int (nI k), .int (nI li), .int (nI fa)])), (aF, .inl (G.2.2, 16, .inl (aN fr))), (aT, .inl (G.2.2, 16, .inl (aN to))), (aC, .inl (G.2.2, 16, .inl (aN ct))), (aL, .inl (G.2.2, 12, .inl (aN lv))), (aW, .inr (3, [.ref aS, .ref aQ, .int (nI num), .int (bI tm), .int (bI sl)])), (aK, .inr (0, [.ref aZ, .int (nI pn), .int (bI slk)])), (aJ, .inr (0, [.ref aY, .int (nI qn), .int (bI slj)]))] (fun r w => r = some (.int (nI k)) ∧ w = [(aO, .inr (6, [.ref aP, .ref aW, .ref aK, .ref aJ, .ref aH, .ref aB, .ref aR])), (aP, .inr (1, [.ref aF, .ref aT, .ref aC, .ref aL, .int (nI n), .int (nI (k + 1)), .int (nI li), .int (nI fa)])), (aF, .inl (G.2.2, 16, .inl (aN (uN fr k va)))), (aT, .inl (G.2.2, 16, .inl (aN (uN to k vb)))), (aC, .inl (G.2.2, 16, .inl (aN (uN ct k vc)))), (aL, .inl (G.2.2, 12, .inl (aN (uN lv va ((lv va) ||| (1 <<< k)))))), (aW, .inr (3, [.ref aS, .ref aQ, .int (nI num), .int (bI tm), .int (bI true)])), (aK, .inr (0, [.ref aZ, .int (nI pn), .int (bI true)])), (aJ, .inr (0, [.ref aY, .int (nI qn), .int (bI true)]))]) := by
  refine ga_M.intro (by decide) (Nat.le_of_ble_eq_true rfl) (fun p_ e_ s_ m_ below meth c_ A_ H_ locs_ ls cx hr hlk hnm hA hK hl w => ?_)
  have hx := cx.1
  have hb := cx.2.1
  have hl : lv_has ls 5 [(0, .ref aO), (1, .int (nI va)), (2, .int (nI vb)), (3, .int (nI vc))] := hl
  refine lv_aload_n hx hb dX6_step_0 rfl (lv_at hl 0 rfl) ?_
  refine gf_X6_12 cx hK w 0 rfl rfl dX6_step_1 ?_
  refine lv_iload_n hx hb dX6_step_4 rfl (lv_at hl 1 rfl) ?_
  refine ga_callV (rest := []) (wr := [(aO, .inr (6, [.ref aP, .ref aW, .ref aK, .ref aJ, .ref aH, .ref aB, .ref aR])), (aF, .inl (G.2.2, 16, .inl (aN fr))), (aT, .inl (G.2.2, 16, .inl (aN to))), (aC, .inl (G.2.2, 16, .inl (aN ct))), (aL, .inl (G.2.2, 12, .inl (aN lv))), (aW, .inr (3, [.ref aS, .ref aQ, .int (nI num), .int (bI tm), .int (bI sl)])), (aK, .inr (0, [.ref aZ, .int (nI pn), .int (bI slk)])), (aJ, .inr (0, [.ref aY, .int (nI qn), .int (bI slj)]))]) cx hK hA w hl lk_X6_66 (c_X1_hasNode l G aP aF aT aC aL n (nI k) (nI li) (nI fa) (nI va) (by omega)) ⟨Nat.le_of_ble_eq_true rfl, Nat.le_of_ble_eq_true rfl⟩ [1] [0, 2, 3, 4, 5, 6, 7, 8] rfl rfl (by decide) (by decide) (by decide) 1 1 rfl rfl rfl rfl (Nat.le_of_ble_eq_true rfl) dX6_step_5 ⟨Nat.le_refl _, Nat.le_refl _⟩ rfl (fun r w1_ H_ locs_ hp w => ?_)
  obtain ⟨rfl, rfl⟩ := hp
  have w : ga_wd G A_ s_ H_ locs_ [(aO, .inr (6, [.ref aP, .ref aW, .ref aK, .ref aJ, .ref aH, .ref aB, .ref aR])), (aP, .inr (1, [.ref aF, .ref aT, .ref aC, .ref aL, .int (nI n), .int (nI k), .int (nI li), .int (nI fa)])), (aF, .inl (G.2.2, 16, .inl (aN fr))), (aT, .inl (G.2.2, 16, .inl (aN to))), (aC, .inl (G.2.2, 16, .inl (aN ct))), (aL, .inl (G.2.2, 12, .inl (aN lv))), (aW, .inr (3, [.ref aS, .ref aQ, .int (nI num), .int (bI tm), .int (bI sl)])), (aK, .inr (0, [.ref aZ, .int (nI pn), .int (bI slk)])), (aJ, .inr (0, [.ref aY, .int (nI qn), .int (bI slj)]))] := ga_perm w [0, 8, 1, 2, 3, 4, 5, 6, 7] (by decide) rfl
  refine W.eq (g2 := F0 m_ 8 ls [.int (bI (inB (nI va) n))]) rfl ?_
  refine r_ifb_eq hx hb dX6_step_8 (tgt := 31) (by decide) (fun c8 => ?_) (fun c8 => ?_)
  · rw [inB_y (by omega) (by omega)] at c8; cases c8
  · refine lv_aload_n hx hb dX6_step_11 rfl (lv_at hl 0 rfl) ?_
    refine gf_X6_12 cx hK w 0 rfl rfl dX6_step_12 ?_
    refine lv_iload_n hx hb dX6_step_15 rfl (lv_at hl 2 rfl) ?_
    refine ga_callV (rest := []) (wr := [(aO, .inr (6, [.ref aP, .ref aW, .ref aK, .ref aJ, .ref aH, .ref aB, .ref aR])), (aF, .inl (G.2.2, 16, .inl (aN fr))), (aT, .inl (G.2.2, 16, .inl (aN to))), (aC, .inl (G.2.2, 16, .inl (aN ct))), (aL, .inl (G.2.2, 12, .inl (aN lv))), (aW, .inr (3, [.ref aS, .ref aQ, .int (nI num), .int (bI tm), .int (bI sl)])), (aK, .inr (0, [.ref aZ, .int (nI pn), .int (bI slk)])), (aJ, .inr (0, [.ref aY, .int (nI qn), .int (bI slj)]))]) cx hK hA w hl lk_X6_66 (c_X1_hasNode l G aP aF aT aC aL n (nI k) (nI li) (nI fa) (nI vb) (by omega)) ⟨Nat.le_of_ble_eq_true rfl, Nat.le_of_ble_eq_true rfl⟩ [1] [0, 2, 3, 4, 5, 6, 7, 8] rfl rfl (by decide) (by decide) (by decide) 1 1 rfl rfl rfl rfl (Nat.le_of_ble_eq_true rfl) dX6_step_16 ⟨Nat.le_refl _, Nat.le_refl _⟩ rfl (fun r w1_ H_ locs_ hp w => ?_)
    obtain ⟨rfl, rfl⟩ := hp
    have w : ga_wd G A_ s_ H_ locs_ [(aO, .inr (6, [.ref aP, .ref aW, .ref aK, .ref aJ, .ref aH, .ref aB, .ref aR])), (aP, .inr (1, [.ref aF, .ref aT, .ref aC, .ref aL, .int (nI n), .int (nI k), .int (nI li), .int (nI fa)])), (aF, .inl (G.2.2, 16, .inl (aN fr))), (aT, .inl (G.2.2, 16, .inl (aN to))), (aC, .inl (G.2.2, 16, .inl (aN ct))), (aL, .inl (G.2.2, 12, .inl (aN lv))), (aW, .inr (3, [.ref aS, .ref aQ, .int (nI num), .int (bI tm), .int (bI sl)])), (aK, .inr (0, [.ref aZ, .int (nI pn), .int (bI slk)])), (aJ, .inr (0, [.ref aY, .int (nI qn), .int (bI slj)]))] := ga_perm w [0, 8, 1, 2, 3, 4, 5, 6, 7] (by decide) rfl
    refine W.eq (g2 := F0 m_ 19 ls [.int (bI (inB (nI vb) n))]) rfl ?_
    refine r_ifb_eq hx hb dX6_step_19 (tgt := 31) (by decide) (fun c19 => ?_) (fun c19 => ?_)
    · rw [inB_y (by omega) (by omega)] at c19; cases c19
    · refine lv_iload_n hx hb dX6_step_22 rfl (lv_at hl 2 rfl) ?_
      refine lv_iload_n hx hb dX6_step_23 rfl (lv_at hl 1 rfl) ?_
      refine r_icmp_le hx hb dX6_step_24 (tgt := 31) (by decide) (by omega) (by omega) (fun c24 => ?_) (fun c24 => ?_)
      · omega
      · refine lv_iconst (v := nI 1) hx hb dX6_step_27 (by decide) ?_
        refine lv_goto (tgt := 32) hx hb dX6_step_28 (by decide) ?_
        refine lv_istore (lv' := [(4, .int (nI 1)), (0, .ref aO), (1, .int (nI va)), (2, .int (nI vb)), (3, .int (nI vc))]) hx hb dX6_step_32 hl (by decide) rfl (fun ls hl => ?_)
        refine lv_iload hx hb dX6_step_34 (lv_at hl 0 rfl) ?_
        refine r_if_eq hx hb dX6_step_36 (tgt := 58) (by decide) (by decide) (fun c36 => ?_) (fun c36 => ?_)
        · exact absurd c36 (by decide)
        · refine lv_iload_n hx hb dX6_step_39 rfl (lv_at hl 4 rfl) ?_
          refine ga_callS (rest := []) (wr := [(aO, .inr (6, [.ref aP, .ref aW, .ref aK, .ref aJ, .ref aH, .ref aB, .ref aR])), (aP, .inr (1, [.ref aF, .ref aT, .ref aC, .ref aL, .int (nI n), .int (nI k), .int (nI li), .int (nI fa)])), (aF, .inl (G.2.2, 16, .inl (aN fr))), (aT, .inl (G.2.2, 16, .inl (aN to))), (aC, .inl (G.2.2, 16, .inl (aN ct))), (aL, .inl (G.2.2, 12, .inl (aN lv))), (aW, .inr (3, [.ref aS, .ref aQ, .int (nI num), .int (bI tm), .int (bI sl)])), (aK, .inr (0, [.ref aZ, .int (nI pn), .int (bI slk)])), (aJ, .inr (0, [.ref aY, .int (nI qn), .int (bI slj)]))]) cx hK hA w hl lk_X6_70 (c_X6_canBeCounted l G (nI vc) ) ⟨Nat.le_of_ble_eq_true rfl, Nat.le_of_ble_eq_true rfl⟩ [] [0, 1, 2, 3, 4, 5, 6, 7, 8] rfl rfl (by decide) (by decide) (by decide) rfl (Nat.le_of_ble_eq_true rfl) dX6_step_40 ⟨Nat.le_refl _, Nat.le_refl _⟩ rfl (fun r w1_ H_ locs_ hp w => ?_)
          obtain ⟨rfl, rfl⟩ := hp
          have w : ga_wd G A_ s_ H_ locs_ [(aO, .inr (6, [.ref aP, .ref aW, .ref aK, .ref aJ, .ref aH, .ref aB, .ref aR])), (aP, .inr (1, [.ref aF, .ref aT, .ref aC, .ref aL, .int (nI n), .int (nI k), .int (nI li), .int (nI fa)])), (aF, .inl (G.2.2, 16, .inl (aN fr))), (aT, .inl (G.2.2, 16, .inl (aN to))), (aC, .inl (G.2.2, 16, .inl (aN ct))), (aL, .inl (G.2.2, 12, .inl (aN lv))), (aW, .inr (3, [.ref aS, .ref aQ, .int (nI num), .int (bI tm), .int (bI sl)])), (aK, .inr (0, [.ref aZ, .int (nI pn), .int (bI slk)])), (aJ, .inr (0, [.ref aY, .int (nI qn), .int (bI slj)]))] := ga_perm w [0, 1, 2, 3, 4, 5, 6, 7, 8] (by decide) rfl
          refine W.eq (g2 := F0 m_ 43 ls [.int (bI (inB (nI vc) 1000001))]) rfl ?_
          refine r_ifb_eq hx hb dX6_step_43 (tgt := 58) (by decide) (fun c43 => ?_) (fun c43 => ?_)
          · rw [inB_y (by omega) (by omega)] at c43; cases c43
          · refine lv_aload_n hx hb dX6_step_46 rfl (lv_at hl 1 rfl) ?_
            refine gf_X6_12 cx hK w 0 rfl rfl dX6_step_47 ?_
            refine gf_X6_73 cx hK w 1 rfl rfl dX6_step_50 ?_
            refine lv_bipush (v := nI 16) hx hb dX6_step_53 (by decide) ?_
            refine r_icmp_lt hx hb dX6_step_55 (tgt := 60) (by decide) (by omega) (by omega) (fun c55 => ?_) (fun c55 => ?_)
            · refine lv_aload_n hx hb dX6_step_60 rfl (lv_at hl 1 rfl) ?_
              refine ga_callV (rest := []) (wr := [(aP, .inr (1, [.ref aF, .ref aT, .ref aC, .ref aL, .int (nI n), .int (nI k), .int (nI li), .int (nI fa)])), (aF, .inl (G.2.2, 16, .inl (aN fr))), (aT, .inl (G.2.2, 16, .inl (aN to))), (aC, .inl (G.2.2, 16, .inl (aN ct))), (aL, .inl (G.2.2, 12, .inl (aN lv)))]) cx hK hA w hl lk_X6_63 (c_X6_forgetWays l G aO aP aW aK aJ aH aB aR aS aQ num tm sl ss ns aZ pn slk aY qn slj ) ⟨Nat.le_of_ble_eq_true rfl, Nat.le_of_ble_eq_true rfl⟩ [0, 6, 7, 8] [1, 2, 3, 4, 5] rfl rfl (by decide) (by decide) (by decide) 0 6 rfl rfl rfl rfl (Nat.le_of_ble_eq_true rfl) dX6_step_61 ⟨Nat.le_refl _, Nat.le_refl _⟩ rfl (fun r w1_ H_ locs_ hp w => ?_)
              obtain ⟨rfl, rfl⟩ := hp
              have w : ga_wd G A_ s_ H_ locs_ [(aO, .inr (6, [.ref aP, .ref aW, .ref aK, .ref aJ, .ref aH, .ref aB, .ref aR])), (aP, .inr (1, [.ref aF, .ref aT, .ref aC, .ref aL, .int (nI n), .int (nI k), .int (nI li), .int (nI fa)])), (aF, .inl (G.2.2, 16, .inl (aN fr))), (aT, .inl (G.2.2, 16, .inl (aN to))), (aC, .inl (G.2.2, 16, .inl (aN ct))), (aL, .inl (G.2.2, 12, .inl (aN lv))), (aW, .inr (3, [.ref aS, .ref aQ, .int (nI num), .int (bI tm), .int (bI true)])), (aK, .inr (0, [.ref aZ, .int (nI pn), .int (bI true)])), (aJ, .inr (0, [.ref aY, .int (nI qn), .int (bI true)]))] := ga_perm w [5, 0, 1, 2, 3, 4, 6, 7, 8] (by decide) rfl
              refine W.eq (g2 := F0 m_ 64 ls []) rfl ?_
              refine lv_aload_n hx hb dX6_step_64 rfl (lv_at hl 1 rfl) ?_
              refine gf_X6_12 cx hK w 0 rfl rfl dX6_step_65 ?_
              refine lv_iload_n hx hb dX6_step_68 rfl (lv_at hl 2 rfl) ?_
              refine lv_iload_n hx hb dX6_step_69 rfl (lv_at hl 3 rfl) ?_
              refine lv_iload_n hx hb dX6_step_70 rfl (lv_at hl 4 rfl) ?_
              refine ga_callV (rest := []) (wr := [(aO, .inr (6, [.ref aP, .ref aW, .ref aK, .ref aJ, .ref aH, .ref aB, .ref aR])), (aW, .inr (3, [.ref aS, .ref aQ, .int (nI num), .int (bI tm), .int (bI true)])), (aK, .inr (0, [.ref aZ, .int (nI pn), .int (bI true)])), (aJ, .inr (0, [.ref aY, .int (nI qn), .int (bI true)]))]) cx hK hA w hl lk_X6_77 (c_X1_addStep l G aP aF aT aC aL n k li fa fr to ct lv va vb vc (by omega) (by omega)) ⟨Nat.le_of_ble_eq_true rfl, Nat.le_of_ble_eq_true rfl⟩ [1, 2, 3, 4, 5] [0, 6, 7, 8] rfl rfl (by decide) (by decide) (by decide) 1 1 rfl rfl rfl rfl (Nat.le_of_ble_eq_true rfl) dX6_step_71 ⟨Nat.le_refl _, Nat.le_refl _⟩ rfl (fun r w1_ H_ locs_ hp w => ?_)
              obtain ⟨rfl, rfl⟩ := hp
              have w : ga_wd G A_ s_ H_ locs_ [(aO, .inr (6, [.ref aP, .ref aW, .ref aK, .ref aJ, .ref aH, .ref aB, .ref aR])), (aP, .inr (1, [.ref aF, .ref aT, .ref aC, .ref aL, .int (nI n), .int (nI (k + 1)), .int (nI li), .int (nI fa)])), (aF, .inl (G.2.2, 16, .inl (aN (uN fr k va)))), (aT, .inl (G.2.2, 16, .inl (aN (uN to k vb)))), (aC, .inl (G.2.2, 16, .inl (aN (uN ct k vc)))), (aL, .inl (G.2.2, 12, .inl (aN (uN lv va ((lv va) ||| (1 <<< k)))))), (aW, .inr (3, [.ref aS, .ref aQ, .int (nI num), .int (bI tm), .int (bI true)])), (aK, .inr (0, [.ref aZ, .int (nI pn), .int (bI true)])), (aJ, .inr (0, [.ref aY, .int (nI qn), .int (bI true)]))] := ga_perm w [0, 4, 5, 6, 7, 8, 1, 2, 3] (by decide) rfl
              refine W.eq (g2 := F0 m_ 74 ls [.int (nI k)]) rfl ?_
              exact ga_iret cx hr hlk w dX6_step_74 ⟨Nat.le_refl _, Nat.le_refl _⟩ (⟨rfl, rfl⟩)
            · omega

set_option maxHeartbeats 4000000 in
set_option maxRecDepth 100000 in
theorem c_X6_step_f (l : Launch) (G : ga_G) (aO : Nat) (aP : Nat) (aW : Nat) (aK : Nat) (aJ : Nat) (aH : Nat) (aB : Nat) (aR : Nat) (aF : Nat) (aT : Nat) (aC : Nat) (aL : Nat) (n : Nat) (k : Nat) (li : Nat) (fa : Nat) (va : Int32) (vb : Int32) (vc : Int32) (hn : n ≤ 12) (hk : k ≤ 16) (hno : stepOK n k va vb vc = false) : ga_M l G yX6_step cX6_step 5 (Option.some Jvm.ClassFile.FieldType.int) 1 21 0 0 [.ref aO, .int va, .int vb, .int vc] [(aO, .inr (6, [.ref aP, .ref aW, .ref aK, .ref aJ, .ref aH, .ref aB, .ref aR])), (aP, .inr (1, [.ref aF, .ref aT, .ref aC, .ref aL, .int (nI n), .int (nI k), .int (nI li), .int (nI fa)]))] (fun r w => r = some (.int (-1)) ∧ w = [(aO, .inr (6, [.ref aP, .ref aW, .ref aK, .ref aJ, .ref aH, .ref aB, .ref aR])), (aP, .inr (1, [.ref aF, .ref aT, .ref aC, .ref aL, .int (nI n), .int (nI k), .int (nI li), .int (nI fa)]))]) := by
  refine ga_M.intro (by decide) (Nat.le_of_ble_eq_true rfl) (fun p_ e_ s_ m_ below meth c_ A_ H_ locs_ ls cx hr hlk hnm hA hK hl w => ?_)
  have hx := cx.1
  have hb := cx.2.1
  have hl : lv_has ls 5 [(0, .ref aO), (1, .int va), (2, .int vb), (3, .int vc)] := hl
  refine lv_aload_n hx hb dX6_step_0 rfl (lv_at hl 0 rfl) ?_
  refine gf_X6_12 cx hK w 0 rfl rfl dX6_step_1 ?_
  refine lv_iload_n hx hb dX6_step_4 rfl (lv_at hl 1 rfl) ?_
  refine ga_callV (rest := []) (wr := [(aO, .inr (6, [.ref aP, .ref aW, .ref aK, .ref aJ, .ref aH, .ref aB, .ref aR]))]) cx hK hA w hl lk_X6_66 (c_X1_hasNode l G aP aF aT aC aL n (nI k) (nI li) (nI fa) va (by omega)) ⟨Nat.le_of_ble_eq_true rfl, Nat.le_of_ble_eq_true rfl⟩ [1] [0] rfl rfl (by decide) (by decide) (by decide) 1 1 rfl rfl rfl rfl (Nat.le_of_ble_eq_true rfl) dX6_step_5 ⟨Nat.le_refl _, Nat.le_refl _⟩ rfl (fun r w1_ H_ locs_ hp w => ?_)
  obtain ⟨rfl, rfl⟩ := hp
  have w : ga_wd G A_ s_ H_ locs_ [(aO, .inr (6, [.ref aP, .ref aW, .ref aK, .ref aJ, .ref aH, .ref aB, .ref aR])), (aP, .inr (1, [.ref aF, .ref aT, .ref aC, .ref aL, .int (nI n), .int (nI k), .int (nI li), .int (nI fa)]))] := ga_perm w [0, 1] (by decide) rfl
  refine W.eq (g2 := F0 m_ 8 ls [.int (bI (inB va n))]) rfl ?_
  refine r_ifb_eq hx hb dX6_step_8 (tgt := 31) (by decide) (fun c8 => ?_) (fun c8 => ?_)
  · refine lv_iconst (v := nI 0) hx hb dX6_step_31 (by decide) ?_
    refine lv_istore (lv' := [(4, .int (nI 0)), (0, .ref aO), (1, .int va), (2, .int vb), (3, .int vc)]) hx hb dX6_step_32 hl (by decide) rfl (fun ls hl => ?_)
    refine lv_iload hx hb dX6_step_34 (lv_at hl 0 rfl) ?_
    refine r_if_eq hx hb dX6_step_36 (tgt := 58) (by decide) (by decide) (fun c36 => ?_) (fun c36 => ?_)
    · refine lv_iconst (v := (-1)) hx hb dX6_step_58 (by decide) ?_
      exact ga_iret cx hr hlk w dX6_step_59 ⟨Nat.le_refl _, Nat.le_refl _⟩ (⟨rfl, rfl⟩)
    · exact absurd rfl c36
  · refine lv_aload_n hx hb dX6_step_11 rfl (lv_at hl 0 rfl) ?_
    refine gf_X6_12 cx hK w 0 rfl rfl dX6_step_12 ?_
    refine lv_iload_n hx hb dX6_step_15 rfl (lv_at hl 2 rfl) ?_
    refine ga_callV (rest := []) (wr := [(aO, .inr (6, [.ref aP, .ref aW, .ref aK, .ref aJ, .ref aH, .ref aB, .ref aR]))]) cx hK hA w hl lk_X6_66 (c_X1_hasNode l G aP aF aT aC aL n (nI k) (nI li) (nI fa) vb (by omega)) ⟨Nat.le_of_ble_eq_true rfl, Nat.le_of_ble_eq_true rfl⟩ [1] [0] rfl rfl (by decide) (by decide) (by decide) 1 1 rfl rfl rfl rfl (Nat.le_of_ble_eq_true rfl) dX6_step_16 ⟨Nat.le_refl _, Nat.le_refl _⟩ rfl (fun r w1_ H_ locs_ hp w => ?_)
    obtain ⟨rfl, rfl⟩ := hp
    have w : ga_wd G A_ s_ H_ locs_ [(aO, .inr (6, [.ref aP, .ref aW, .ref aK, .ref aJ, .ref aH, .ref aB, .ref aR])), (aP, .inr (1, [.ref aF, .ref aT, .ref aC, .ref aL, .int (nI n), .int (nI k), .int (nI li), .int (nI fa)]))] := ga_perm w [0, 1] (by decide) rfl
    refine W.eq (g2 := F0 m_ 19 ls [.int (bI (inB vb n))]) rfl ?_
    refine r_ifb_eq hx hb dX6_step_19 (tgt := 31) (by decide) (fun c19 => ?_) (fun c19 => ?_)
    · refine lv_iconst (v := nI 0) hx hb dX6_step_31 (by decide) ?_
      refine lv_istore (lv' := [(4, .int (nI 0)), (0, .ref aO), (1, .int va), (2, .int vb), (3, .int vc)]) hx hb dX6_step_32 hl (by decide) rfl (fun ls hl => ?_)
      refine lv_iload hx hb dX6_step_34 (lv_at hl 0 rfl) ?_
      refine r_if_eq hx hb dX6_step_36 (tgt := 58) (by decide) (by decide) (fun c36 => ?_) (fun c36 => ?_)
      · refine lv_iconst (v := (-1)) hx hb dX6_step_58 (by decide) ?_
        exact ga_iret cx hr hlk w dX6_step_59 ⟨Nat.le_refl _, Nat.le_refl _⟩ (⟨rfl, rfl⟩)
      · exact absurd rfl c36
    · refine lv_iload_n hx hb dX6_step_22 rfl (lv_at hl 2 rfl) ?_
      refine lv_iload_n hx hb dX6_step_23 rfl (lv_at hl 1 rfl) ?_
      refine lv_icmp_le hx hb dX6_step_24 (tgt := 31) (by decide) (fun c24 => ?_) (fun c24 => ?_)
      · refine lv_iconst (v := nI 0) hx hb dX6_step_31 (by decide) ?_
        refine lv_istore (lv' := [(4, .int (nI 0)), (0, .ref aO), (1, .int va), (2, .int vb), (3, .int vc)]) hx hb dX6_step_32 hl (by decide) rfl (fun ls hl => ?_)
        refine lv_iload hx hb dX6_step_34 (lv_at hl 0 rfl) ?_
        refine r_if_eq hx hb dX6_step_36 (tgt := 58) (by decide) (by decide) (fun c36 => ?_) (fun c36 => ?_)
        · refine lv_iconst (v := (-1)) hx hb dX6_step_58 (by decide) ?_
          exact ga_iret cx hr hlk w dX6_step_59 ⟨Nat.le_refl _, Nat.le_refl _⟩ (⟨rfl, rfl⟩)
        · exact absurd rfl c36
      · refine lv_iconst (v := nI 1) hx hb dX6_step_27 (by decide) ?_
        refine lv_goto (tgt := 32) hx hb dX6_step_28 (by decide) ?_
        refine lv_istore (lv' := [(4, .int (nI 1)), (0, .ref aO), (1, .int va), (2, .int vb), (3, .int vc)]) hx hb dX6_step_32 hl (by decide) rfl (fun ls hl => ?_)
        refine lv_iload hx hb dX6_step_34 (lv_at hl 0 rfl) ?_
        refine r_if_eq hx hb dX6_step_36 (tgt := 58) (by decide) (by decide) (fun c36 => ?_) (fun c36 => ?_)
        · exact absurd c36 (by decide)
        · refine lv_iload_n hx hb dX6_step_39 rfl (lv_at hl 4 rfl) ?_
          refine ga_callS (rest := []) (wr := [(aO, .inr (6, [.ref aP, .ref aW, .ref aK, .ref aJ, .ref aH, .ref aB, .ref aR])), (aP, .inr (1, [.ref aF, .ref aT, .ref aC, .ref aL, .int (nI n), .int (nI k), .int (nI li), .int (nI fa)]))]) cx hK hA w hl lk_X6_70 (c_X6_canBeCounted l G vc ) ⟨Nat.le_of_ble_eq_true rfl, Nat.le_of_ble_eq_true rfl⟩ [] [0, 1] rfl rfl (by decide) (by decide) (by decide) rfl (Nat.le_of_ble_eq_true rfl) dX6_step_40 ⟨Nat.le_refl _, Nat.le_refl _⟩ rfl (fun r w1_ H_ locs_ hp w => ?_)
          obtain ⟨rfl, rfl⟩ := hp
          have w : ga_wd G A_ s_ H_ locs_ [(aO, .inr (6, [.ref aP, .ref aW, .ref aK, .ref aJ, .ref aH, .ref aB, .ref aR])), (aP, .inr (1, [.ref aF, .ref aT, .ref aC, .ref aL, .int (nI n), .int (nI k), .int (nI li), .int (nI fa)]))] := ga_perm w [0, 1] (by decide) rfl
          refine W.eq (g2 := F0 m_ 43 ls [.int (bI (inB vc 1000001))]) rfl ?_
          refine r_ifb_eq hx hb dX6_step_43 (tgt := 58) (by decide) (fun c43 => ?_) (fun c43 => ?_)
          · refine lv_iconst (v := (-1)) hx hb dX6_step_58 (by decide) ?_
            exact ga_iret cx hr hlk w dX6_step_59 ⟨Nat.le_refl _, Nat.le_refl _⟩ (⟨rfl, rfl⟩)
          · refine lv_aload_n hx hb dX6_step_46 rfl (lv_at hl 1 rfl) ?_
            refine gf_X6_12 cx hK w 0 rfl rfl dX6_step_47 ?_
            refine gf_X6_73 cx hK w 1 rfl rfl dX6_step_50 ?_
            refine lv_bipush (v := nI 16) hx hb dX6_step_53 (by decide) ?_
            refine r_icmp_lt hx hb dX6_step_55 (tgt := 60) (by decide) (by omega) (by omega) (fun c55 => ?_) (fun c55 => ?_)
            · exact absurd hno (by rw [stepOK_t (by assumption) (by assumption) (by assumption) (by assumption) (by assumption)]; decide)
            · refine lv_iconst (v := (-1)) hx hb dX6_step_58 (by decide) ?_
              exact ga_iret cx hr hlk w dX6_step_59 ⟨Nat.le_refl _, Nat.le_refl _⟩ (⟨rfl, rfl⟩)

set_option maxHeartbeats 4000000 in
set_option maxRecDepth 100000 in
theorem c_X6_counted_t (l : Launch) (G : ga_G) (aO : Nat) (aP : Nat) (aW : Nat) (aK : Nat) (aJ : Nat) (aH : Nat) (aB : Nat) (aR : Nat) (aF : Nat) (aT : Nat) (aC : Nat) (aL : Nat) (n : Nat) (k : Nat) (li : Nat) (fa : Nat) (ct : Nat → Nat) (j : Nat) (v : Nat) (hk : k ≤ 16) (hj : j < k) (hv : v ≤ 1000000) : ga_M l G yX6_counted cX6_counted 3 (Option.some Jvm.ClassFile.FieldType.boolean) 1 21 0 0 [.ref aO, .int (nI j), .int (nI v)] [(aO, .inr (6, [.ref aP, .ref aW, .ref aK, .ref aJ, .ref aH, .ref aB, .ref aR])), (aP, .inr (1, [.ref aF, .ref aT, .ref aC, .ref aL, .int (nI n), .int (nI k), .int (nI li), .int (nI fa)])), (aC, .inl (G.2.2, 16, .inl (aN ct)))] (fun r w => r = some (.int (nI 1)) ∧ w = [(aO, .inr (6, [.ref aP, .ref aW, .ref aK, .ref aJ, .ref aH, .ref aB, .ref aR])), (aP, .inr (1, [.ref aF, .ref aT, .ref aC, .ref aL, .int (nI n), .int (nI k), .int (nI li), .int (nI fa)])), (aC, .inl (G.2.2, 16, .inl (aN (uN ct j v))))]) := by
  refine ga_M.intro (by decide) (Nat.le_of_ble_eq_true rfl) (fun p_ e_ s_ m_ below meth c_ A_ H_ locs_ ls cx hr hlk hnm hA hK hl w => ?_)
  have hx := cx.1
  have hb := cx.2.1
  have hl : lv_has ls 3 [(0, .ref aO), (1, .int (nI j)), (2, .int (nI v))] := hl
  refine lv_aload_n hx hb dX6_counted_0 rfl (lv_at hl 0 rfl) ?_
  refine gf_X6_12 cx hK w 0 rfl rfl dX6_counted_1 ?_
  refine lv_iload_n hx hb dX6_counted_4 rfl (lv_at hl 1 rfl) ?_
  refine ga_callV (rest := []) (wr := [(aO, .inr (6, [.ref aP, .ref aW, .ref aK, .ref aJ, .ref aH, .ref aB, .ref aR])), (aC, .inl (G.2.2, 16, .inl (aN ct)))]) cx hK hA w hl lk_X6_81 (c_X1_hasStep l G aP aF aT aC aL (nI n) k (nI li) (nI fa) (nI j) (by omega)) ⟨Nat.le_of_ble_eq_true rfl, Nat.le_of_ble_eq_true rfl⟩ [1] [0, 2] rfl rfl (by decide) (by decide) (by decide) 1 1 rfl rfl rfl rfl (Nat.le_of_ble_eq_true rfl) dX6_counted_5 ⟨Nat.le_refl _, Nat.le_refl _⟩ rfl (fun r w1_ H_ locs_ hp w => ?_)
  obtain ⟨rfl, rfl⟩ := hp
  have w : ga_wd G A_ s_ H_ locs_ [(aO, .inr (6, [.ref aP, .ref aW, .ref aK, .ref aJ, .ref aH, .ref aB, .ref aR])), (aP, .inr (1, [.ref aF, .ref aT, .ref aC, .ref aL, .int (nI n), .int (nI k), .int (nI li), .int (nI fa)])), (aC, .inl (G.2.2, 16, .inl (aN ct)))] := ga_perm w [0, 2, 1] (by decide) rfl
  refine W.eq (g2 := F0 m_ 8 ls [.int (bI (inB (nI j) k))]) rfl ?_
  refine r_ifb_eq hx hb dX6_counted_8 (tgt := 18) (by decide) (fun c8 => ?_) (fun c8 => ?_)
  · rw [inB_y (by omega) (by omega)] at c8; cases c8
  · refine lv_iload_n hx hb dX6_counted_11 rfl (lv_at hl 2 rfl) ?_
    refine ga_callS (rest := []) (wr := [(aO, .inr (6, [.ref aP, .ref aW, .ref aK, .ref aJ, .ref aH, .ref aB, .ref aR])), (aP, .inr (1, [.ref aF, .ref aT, .ref aC, .ref aL, .int (nI n), .int (nI k), .int (nI li), .int (nI fa)])), (aC, .inl (G.2.2, 16, .inl (aN ct)))]) cx hK hA w hl lk_X6_70 (c_X6_canBeCounted l G (nI v) ) ⟨Nat.le_of_ble_eq_true rfl, Nat.le_of_ble_eq_true rfl⟩ [] [0, 1, 2] rfl rfl (by decide) (by decide) (by decide) rfl (Nat.le_of_ble_eq_true rfl) dX6_counted_12 ⟨Nat.le_refl _, Nat.le_refl _⟩ rfl (fun r w1_ H_ locs_ hp w => ?_)
    obtain ⟨rfl, rfl⟩ := hp
    have w : ga_wd G A_ s_ H_ locs_ [(aO, .inr (6, [.ref aP, .ref aW, .ref aK, .ref aJ, .ref aH, .ref aB, .ref aR])), (aP, .inr (1, [.ref aF, .ref aT, .ref aC, .ref aL, .int (nI n), .int (nI k), .int (nI li), .int (nI fa)])), (aC, .inl (G.2.2, 16, .inl (aN ct)))] := ga_perm w [0, 1, 2] (by decide) rfl
    refine W.eq (g2 := F0 m_ 15 ls [.int (bI (inB (nI v) 1000001))]) rfl ?_
    refine r_ifb_ne hx hb dX6_counted_15 (tgt := 20) (by decide) (fun c15 => ?_) (fun c15 => ?_)
    · refine lv_aload_n hx hb dX6_counted_20 rfl (lv_at hl 0 rfl) ?_
      refine gf_X6_12 cx hK w 0 rfl rfl dX6_counted_21 ?_
      refine gf_X6_84 cx hK w 1 rfl rfl dX6_counted_24 ?_
      refine lv_iload_n hx hb dX6_counted_27 rfl (lv_at hl 1 rfl) ?_
      refine lv_iload_n hx hb dX6_counted_28 rfl (lv_at hl 2 rfl) ?_
      refine r_iastN hx hb hK w 2 rfl dX6_counted_29 (by omega) (by decide) (fun H_ locs_ w => ?_)
      have w : ga_wd G A_ s_ H_ locs_ [(aO, .inr (6, [.ref aP, .ref aW, .ref aK, .ref aJ, .ref aH, .ref aB, .ref aR])), (aP, .inr (1, [.ref aF, .ref aT, .ref aC, .ref aL, .int (nI n), .int (nI k), .int (nI li), .int (nI fa)])), (aC, .inl (G.2.2, 16, .inl (aN (uN ct j v))))] := w
      refine lv_iconst (v := nI 1) hx hb dX6_counted_30 (by decide) ?_
      exact ga_zret cx hr hlk w rfl dX6_counted_31 ⟨Nat.le_refl _, Nat.le_refl _⟩ (⟨rfl, rfl⟩)
    · rw [inB_y (by omega) (by omega)] at c15; cases c15

set_option maxHeartbeats 4000000 in
set_option maxRecDepth 100000 in
theorem c_X6_counted_f (l : Launch) (G : ga_G) (aO : Nat) (aP : Nat) (aW : Nat) (aK : Nat) (aJ : Nat) (aH : Nat) (aB : Nat) (aR : Nat) (aF : Nat) (aT : Nat) (aC : Nat) (aL : Nat) (n : Nat) (k : Nat) (li : Nat) (fa : Nat) (x : Int32) (v : Int32) (hk : k ≤ 16) (hno : (inB x k && inB v 1000001) = false) : ga_M l G yX6_counted cX6_counted 3 (Option.some Jvm.ClassFile.FieldType.boolean) 1 21 0 0 [.ref aO, .int x, .int v] [(aO, .inr (6, [.ref aP, .ref aW, .ref aK, .ref aJ, .ref aH, .ref aB, .ref aR])), (aP, .inr (1, [.ref aF, .ref aT, .ref aC, .ref aL, .int (nI n), .int (nI k), .int (nI li), .int (nI fa)]))] (fun r w => r = some (.int (nI 0)) ∧ w = [(aO, .inr (6, [.ref aP, .ref aW, .ref aK, .ref aJ, .ref aH, .ref aB, .ref aR])), (aP, .inr (1, [.ref aF, .ref aT, .ref aC, .ref aL, .int (nI n), .int (nI k), .int (nI li), .int (nI fa)]))]) := by
  refine ga_M.intro (by decide) (Nat.le_of_ble_eq_true rfl) (fun p_ e_ s_ m_ below meth c_ A_ H_ locs_ ls cx hr hlk hnm hA hK hl w => ?_)
  have hx := cx.1
  have hb := cx.2.1
  have hl : lv_has ls 3 [(0, .ref aO), (1, .int x), (2, .int v)] := hl
  refine lv_aload_n hx hb dX6_counted_0 rfl (lv_at hl 0 rfl) ?_
  refine gf_X6_12 cx hK w 0 rfl rfl dX6_counted_1 ?_
  refine lv_iload_n hx hb dX6_counted_4 rfl (lv_at hl 1 rfl) ?_
  refine ga_callV (rest := []) (wr := [(aO, .inr (6, [.ref aP, .ref aW, .ref aK, .ref aJ, .ref aH, .ref aB, .ref aR]))]) cx hK hA w hl lk_X6_81 (c_X1_hasStep l G aP aF aT aC aL (nI n) k (nI li) (nI fa) x (by omega)) ⟨Nat.le_of_ble_eq_true rfl, Nat.le_of_ble_eq_true rfl⟩ [1] [0] rfl rfl (by decide) (by decide) (by decide) 1 1 rfl rfl rfl rfl (Nat.le_of_ble_eq_true rfl) dX6_counted_5 ⟨Nat.le_refl _, Nat.le_refl _⟩ rfl (fun r w1_ H_ locs_ hp w => ?_)
  obtain ⟨rfl, rfl⟩ := hp
  have w : ga_wd G A_ s_ H_ locs_ [(aO, .inr (6, [.ref aP, .ref aW, .ref aK, .ref aJ, .ref aH, .ref aB, .ref aR])), (aP, .inr (1, [.ref aF, .ref aT, .ref aC, .ref aL, .int (nI n), .int (nI k), .int (nI li), .int (nI fa)]))] := ga_perm w [0, 1] (by decide) rfl
  refine W.eq (g2 := F0 m_ 8 ls [.int (bI (inB x k))]) rfl ?_
  refine r_ifb_eq hx hb dX6_counted_8 (tgt := 18) (by decide) (fun c8 => ?_) (fun c8 => ?_)
  · refine lv_iconst (v := nI 0) hx hb dX6_counted_18 (by decide) ?_
    exact ga_zret cx hr hlk w rfl dX6_counted_19 ⟨Nat.le_refl _, Nat.le_refl _⟩ (⟨rfl, rfl⟩)
  · refine lv_iload_n hx hb dX6_counted_11 rfl (lv_at hl 2 rfl) ?_
    refine ga_callS (rest := []) (wr := [(aO, .inr (6, [.ref aP, .ref aW, .ref aK, .ref aJ, .ref aH, .ref aB, .ref aR])), (aP, .inr (1, [.ref aF, .ref aT, .ref aC, .ref aL, .int (nI n), .int (nI k), .int (nI li), .int (nI fa)]))]) cx hK hA w hl lk_X6_70 (c_X6_canBeCounted l G v ) ⟨Nat.le_of_ble_eq_true rfl, Nat.le_of_ble_eq_true rfl⟩ [] [0, 1] rfl rfl (by decide) (by decide) (by decide) rfl (Nat.le_of_ble_eq_true rfl) dX6_counted_12 ⟨Nat.le_refl _, Nat.le_refl _⟩ rfl (fun r w1_ H_ locs_ hp w => ?_)
    obtain ⟨rfl, rfl⟩ := hp
    have w : ga_wd G A_ s_ H_ locs_ [(aO, .inr (6, [.ref aP, .ref aW, .ref aK, .ref aJ, .ref aH, .ref aB, .ref aR])), (aP, .inr (1, [.ref aF, .ref aT, .ref aC, .ref aL, .int (nI n), .int (nI k), .int (nI li), .int (nI fa)]))] := ga_perm w [0, 1] (by decide) rfl
    refine W.eq (g2 := F0 m_ 15 ls [.int (bI (inB v 1000001))]) rfl ?_
    refine r_ifb_ne hx hb dX6_counted_15 (tgt := 20) (by decide) (fun c15 => ?_) (fun c15 => ?_)
    · rw [c8, c15] at hno; cases hno
    · refine lv_iconst (v := nI 0) hx hb dX6_counted_18 (by decide) ?_
      exact ga_zret cx hr hlk w rfl dX6_counted_19 ⟨Nat.le_refl _, Nat.le_refl _⟩ (⟨rfl, rfl⟩)

set_option maxHeartbeats 4000000 in
set_option maxRecDepth 100000 in
theorem c_X6_line_t (l : Launch) (G : ga_G) (aO : Nat) (aP : Nat) (aW : Nat) (aK : Nat) (aJ : Nat) (aH : Nat) (aB : Nat) (aR : Nat) (aF : Nat) (aT : Nat) (aC : Nat) (aL : Nat) (n : Nat) (k : Nat) (li : Nat) (fa : Nat) (j : Nat) (is : Bool) (hk : k ≤ 16) (hj : j < k) (hli : li < 65536) (hne : ¬ Nat.testBit li j = is) : ga_M l G yX6_line cX6_line 3 (Option.some Jvm.ClassFile.FieldType.boolean) 1 21 0 0 [.ref aO, .int (nI j), .int (bI is)] [(aO, .inr (6, [.ref aP, .ref aW, .ref aK, .ref aJ, .ref aH, .ref aB, .ref aR])), (aP, .inr (1, [.ref aF, .ref aT, .ref aC, .ref aL, .int (nI n), .int (nI k), .int (nI li), .int (nI fa)]))] (fun r w => r = some (.int (nI 1)) ∧ w = [(aO, .inr (6, [.ref aP, .ref aW, .ref aK, .ref aJ, .ref aH, .ref aB, .ref aR])), (aP, .inr (1, [.ref aF, .ref aT, .ref aC, .ref aL, .int (nI n), .int (nI k), .int (nI (li ^^^ (1 <<< j))), .int (nI fa)]))]) := by
  refine ga_M.intro (by decide) (Nat.le_of_ble_eq_true rfl) (fun p_ e_ s_ m_ below meth c_ A_ H_ locs_ ls cx hr hlk hnm hA hK hl w => ?_)
  have hx := cx.1
  have hb := cx.2.1
  have hl : lv_has ls 3 [(0, .ref aO), (1, .int (nI j)), (2, .int (bI is))] := hl
  refine lv_aload_n hx hb dX6_line_0 rfl (lv_at hl 0 rfl) ?_
  refine gf_X6_12 cx hK w 0 rfl rfl dX6_line_1 ?_
  refine lv_iload_n hx hb dX6_line_4 rfl (lv_at hl 1 rfl) ?_
  refine ga_callV (rest := []) (wr := [(aO, .inr (6, [.ref aP, .ref aW, .ref aK, .ref aJ, .ref aH, .ref aB, .ref aR]))]) cx hK hA w hl lk_X6_81 (c_X1_hasStep l G aP aF aT aC aL (nI n) k (nI li) (nI fa) (nI j) (by omega)) ⟨Nat.le_of_ble_eq_true rfl, Nat.le_of_ble_eq_true rfl⟩ [1] [0] rfl rfl (by decide) (by decide) (by decide) 1 1 rfl rfl rfl rfl (Nat.le_of_ble_eq_true rfl) dX6_line_5 ⟨Nat.le_refl _, Nat.le_refl _⟩ rfl (fun r w1_ H_ locs_ hp w => ?_)
  obtain ⟨rfl, rfl⟩ := hp
  have w : ga_wd G A_ s_ H_ locs_ [(aO, .inr (6, [.ref aP, .ref aW, .ref aK, .ref aJ, .ref aH, .ref aB, .ref aR])), (aP, .inr (1, [.ref aF, .ref aT, .ref aC, .ref aL, .int (nI n), .int (nI k), .int (nI li), .int (nI fa)]))] := ga_perm w [0, 1] (by decide) rfl
  refine W.eq (g2 := F0 m_ 8 ls [.int (bI (inB (nI j) k))]) rfl ?_
  refine r_ifb_eq hx hb dX6_line_8 (tgt := 26) (by decide) (fun c8 => ?_) (fun c8 => ?_)
  · rw [inB_y (by omega) (by omega)] at c8; cases c8
  · refine lv_aload_n hx hb dX6_line_11 rfl (lv_at hl 0 rfl) ?_
    refine gf_X6_12 cx hK w 0 rfl rfl dX6_line_12 ?_
    refine gf_X6_88 cx hK w 1 rfl rfl dX6_line_15 ?_
    refine lv_iload_n hx hb dX6_line_18 rfl (lv_at hl 1 rfl) ?_
    refine ga_callS (rest := []) (wr := [(aO, .inr (6, [.ref aP, .ref aW, .ref aK, .ref aJ, .ref aH, .ref aB, .ref aR])), (aP, .inr (1, [.ref aF, .ref aT, .ref aC, .ref aL, .int (nI n), .int (nI k), .int (nI li), .int (nI fa)]))]) cx hK hA w hl lk_X6_91 (c_X6_has l G li j (by omega) (by omega)) ⟨Nat.le_of_ble_eq_true rfl, Nat.le_of_ble_eq_true rfl⟩ [] [0, 1] rfl rfl (by decide) (by decide) (by decide) rfl (Nat.le_of_ble_eq_true rfl) dX6_line_19 ⟨Nat.le_refl _, Nat.le_refl _⟩ rfl (fun r w1_ H_ locs_ hp w => ?_)
    obtain ⟨rfl, rfl⟩ := hp
    have w : ga_wd G A_ s_ H_ locs_ [(aO, .inr (6, [.ref aP, .ref aW, .ref aK, .ref aJ, .ref aH, .ref aB, .ref aR])), (aP, .inr (1, [.ref aF, .ref aT, .ref aC, .ref aL, .int (nI n), .int (nI k), .int (nI li), .int (nI fa)]))] := ga_perm w [0, 1] (by decide) rfl
    refine W.eq (g2 := F0 m_ 22 ls [.int (bI (Nat.testBit li j))]) rfl ?_
    refine lv_iload_n hx hb dX6_line_22 rfl (lv_at hl 2 rfl) ?_
    refine lv_icmp_ne hx hb dX6_line_23 (tgt := 28) (by decide) (fun c23 => ?_) (fun c23 => ?_)
    · refine lv_aload_n hx hb dX6_line_28 rfl (lv_at hl 0 rfl) ?_
      refine gf_X6_12 cx hK w 0 rfl rfl dX6_line_29 ?_
      refine lv_dup hx hb dX6_line_32 rfl ?_
      refine gf_X6_88 cx hK w 1 rfl rfl dX6_line_33 ?_
      refine lv_iconst (v := nI 1) hx hb dX6_line_36 (by decide) ?_
      refine lv_iload_n hx hb dX6_line_37 rfl (lv_at hl 1 rfl) ?_
      refine r_ishl hx hb dX6_line_38 (by omega) ?_
      refine r_ixor hx hb dX6_line_39 ?_
      refine pf_X6_88 cx hK w 1 rfl rfl rfl (Nat.le_of_ble_eq_true rfl) dX6_line_40 (fun H_ locs_ w => ?_)
      have w : ga_wd G A_ s_ H_ locs_ [(aO, .inr (6, [.ref aP, .ref aW, .ref aK, .ref aJ, .ref aH, .ref aB, .ref aR])), (aP, .inr (1, [.ref aF, .ref aT, .ref aC, .ref aL, .int (nI n), .int (nI k), .int (nI (li ^^^ (1 <<< j))), .int (nI fa)]))] := w
      refine lv_iconst (v := nI 1) hx hb dX6_line_43 (by decide) ?_
      exact ga_zret cx hr hlk w rfl dX6_line_44 ⟨Nat.le_refl _, Nat.le_refl _⟩ (⟨rfl, rfl⟩)
    · exact absurd ((bI_inj _ _).mp c23) hne

set_option maxHeartbeats 4000000 in
set_option maxRecDepth 100000 in
theorem c_X6_line_f (l : Launch) (G : ga_G) (aO : Nat) (aP : Nat) (aW : Nat) (aK : Nat) (aJ : Nat) (aH : Nat) (aB : Nat) (aR : Nat) (aF : Nat) (aT : Nat) (aC : Nat) (aL : Nat) (n : Nat) (k : Nat) (li : Nat) (fa : Nat) (x : Int32) (is : Bool) (hk : k ≤ 16) (hli : li < 65536) (hno : ∀ j, j < k → x = nI j → Nat.testBit li j = is) : ga_M l G yX6_line cX6_line 3 (Option.some Jvm.ClassFile.FieldType.boolean) 1 21 0 0 [.ref aO, .int x, .int (bI is)] [(aO, .inr (6, [.ref aP, .ref aW, .ref aK, .ref aJ, .ref aH, .ref aB, .ref aR])), (aP, .inr (1, [.ref aF, .ref aT, .ref aC, .ref aL, .int (nI n), .int (nI k), .int (nI li), .int (nI fa)]))] (fun r w => r = some (.int (nI 0)) ∧ w = [(aO, .inr (6, [.ref aP, .ref aW, .ref aK, .ref aJ, .ref aH, .ref aB, .ref aR])), (aP, .inr (1, [.ref aF, .ref aT, .ref aC, .ref aL, .int (nI n), .int (nI k), .int (nI li), .int (nI fa)]))]) := by
  refine ga_M.intro (by decide) (Nat.le_of_ble_eq_true rfl) (fun p_ e_ s_ m_ below meth c_ A_ H_ locs_ ls cx hr hlk hnm hA hK hl w => ?_)
  have hx := cx.1
  have hb := cx.2.1
  have hl : lv_has ls 3 [(0, .ref aO), (1, .int x), (2, .int (bI is))] := hl
  refine lv_aload_n hx hb dX6_line_0 rfl (lv_at hl 0 rfl) ?_
  refine gf_X6_12 cx hK w 0 rfl rfl dX6_line_1 ?_
  refine lv_iload_n hx hb dX6_line_4 rfl (lv_at hl 1 rfl) ?_
  refine ga_callV (rest := []) (wr := [(aO, .inr (6, [.ref aP, .ref aW, .ref aK, .ref aJ, .ref aH, .ref aB, .ref aR]))]) cx hK hA w hl lk_X6_81 (c_X1_hasStep l G aP aF aT aC aL (nI n) k (nI li) (nI fa) x (by omega)) ⟨Nat.le_of_ble_eq_true rfl, Nat.le_of_ble_eq_true rfl⟩ [1] [0] rfl rfl (by decide) (by decide) (by decide) 1 1 rfl rfl rfl rfl (Nat.le_of_ble_eq_true rfl) dX6_line_5 ⟨Nat.le_refl _, Nat.le_refl _⟩ rfl (fun r w1_ H_ locs_ hp w => ?_)
  obtain ⟨rfl, rfl⟩ := hp
  have w : ga_wd G A_ s_ H_ locs_ [(aO, .inr (6, [.ref aP, .ref aW, .ref aK, .ref aJ, .ref aH, .ref aB, .ref aR])), (aP, .inr (1, [.ref aF, .ref aT, .ref aC, .ref aL, .int (nI n), .int (nI k), .int (nI li), .int (nI fa)]))] := ga_perm w [0, 1] (by decide) rfl
  refine W.eq (g2 := F0 m_ 8 ls [.int (bI (inB x k))]) rfl ?_
  refine r_ifb_eq hx hb dX6_line_8 (tgt := 26) (by decide) (fun c8 => ?_) (fun c8 => ?_)
  · refine lv_iconst (v := nI 0) hx hb dX6_line_26 (by decide) ?_
    exact ga_zret cx hr hlk w rfl dX6_line_27 ⟨Nat.le_refl _, Nat.le_refl _⟩ (⟨rfl, rfl⟩)
  · obtain ⟨j, hj, rfl⟩ := inB_of (by omega) c8
    refine lv_aload_n hx hb dX6_line_11 rfl (lv_at hl 0 rfl) ?_
    refine gf_X6_12 cx hK w 0 rfl rfl dX6_line_12 ?_
    refine gf_X6_88 cx hK w 1 rfl rfl dX6_line_15 ?_
    refine lv_iload_n hx hb dX6_line_18 rfl (lv_at hl 1 rfl) ?_
    refine ga_callS (rest := []) (wr := [(aO, .inr (6, [.ref aP, .ref aW, .ref aK, .ref aJ, .ref aH, .ref aB, .ref aR])), (aP, .inr (1, [.ref aF, .ref aT, .ref aC, .ref aL, .int (nI n), .int (nI k), .int (nI li), .int (nI fa)]))]) cx hK hA w hl lk_X6_91 (c_X6_has l G li j (by omega) (by omega)) ⟨Nat.le_of_ble_eq_true rfl, Nat.le_of_ble_eq_true rfl⟩ [] [0, 1] rfl rfl (by decide) (by decide) (by decide) rfl (Nat.le_of_ble_eq_true rfl) dX6_line_19 ⟨Nat.le_refl _, Nat.le_refl _⟩ rfl (fun r w1_ H_ locs_ hp w => ?_)
    obtain ⟨rfl, rfl⟩ := hp
    have w : ga_wd G A_ s_ H_ locs_ [(aO, .inr (6, [.ref aP, .ref aW, .ref aK, .ref aJ, .ref aH, .ref aB, .ref aR])), (aP, .inr (1, [.ref aF, .ref aT, .ref aC, .ref aL, .int (nI n), .int (nI k), .int (nI li), .int (nI fa)]))] := ga_perm w [0, 1] (by decide) rfl
    refine W.eq (g2 := F0 m_ 22 ls [.int (bI (Nat.testBit li j))]) rfl ?_
    refine lv_iload_n hx hb dX6_line_22 rfl (lv_at hl 2 rfl) ?_
    refine lv_icmp_ne hx hb dX6_line_23 (tgt := 28) (by decide) (fun c23 => ?_) (fun c23 => ?_)
    · exact absurd (congrArg bI (hno j hj rfl)) c23
    · refine lv_iconst (v := nI 0) hx hb dX6_line_26 (by decide) ?_
      exact ga_zret cx hr hlk w rfl dX6_line_27 ⟨Nat.le_refl _, Nat.le_refl _⟩ (⟨rfl, rfl⟩)

set_option maxHeartbeats 4000000 in
set_option maxRecDepth 100000 in
theorem c_X6_fault_t (l : Launch) (G : ga_G) (aO : Nat) (aP : Nat) (aW : Nat) (aK : Nat) (aJ : Nat) (aH : Nat) (aB : Nat) (aR : Nat) (aF : Nat) (aT : Nat) (aC : Nat) (aL : Nat) (n : Nat) (k : Nat) (li : Nat) (fa : Nat) (aZ : Nat) (pn : Nat) (slk : Bool) (aY : Nat) (qn : Nat) (slj : Bool) (j : Nat) (is : Bool) (hn : n ≤ 12) (hj : j < n) (hfa : fa < 65536) (hne : ¬ Nat.testBit fa j = is) : ga_M l G yX6_fault cX6_fault 3 (Option.some Jvm.ClassFile.FieldType.boolean) 1 21 0 0 [.ref aO, .int (nI j), .int (bI is)] [(aO, .inr (6, [.ref aP, .ref aW, .ref aK, .ref aJ, .ref aH, .ref aB, .ref aR])), (aP, .inr (1, [.ref aF, .ref aT, .ref aC, .ref aL, .int (nI n), .int (nI k), .int (nI li), .int (nI fa)])), (aJ, .inr (0, [.ref aY, .int (nI qn), .int (bI slj)]))] (fun r w => r = some (.int (nI 1)) ∧ w = [(aO, .inr (6, [.ref aP, .ref aW, .ref aK, .ref aJ, .ref aH, .ref aB, .ref aR])), (aP, .inr (1, [.ref aF, .ref aT, .ref aC, .ref aL, .int (nI n), .int (nI k), .int (nI li), .int (nI (fa ^^^ (1 <<< j)))])), (aJ, .inr (0, [.ref aY, .int (nI qn), .int (bI true)]))]) := by
  refine ga_M.intro (by decide) (Nat.le_of_ble_eq_true rfl) (fun p_ e_ s_ m_ below meth c_ A_ H_ locs_ ls cx hr hlk hnm hA hK hl w => ?_)
  have hx := cx.1
  have hb := cx.2.1
  have hl : lv_has ls 3 [(0, .ref aO), (1, .int (nI j)), (2, .int (bI is))] := hl
  refine lv_aload_n hx hb dX6_fault_0 rfl (lv_at hl 0 rfl) ?_
  refine gf_X6_12 cx hK w 0 rfl rfl dX6_fault_1 ?_
  refine lv_iload_n hx hb dX6_fault_4 rfl (lv_at hl 1 rfl) ?_
  refine ga_callV (rest := []) (wr := [(aO, .inr (6, [.ref aP, .ref aW, .ref aK, .ref aJ, .ref aH, .ref aB, .ref aR])), (aJ, .inr (0, [.ref aY, .int (nI qn), .int (bI slj)]))]) cx hK hA w hl lk_X6_66 (c_X1_hasNode l G aP aF aT aC aL n (nI k) (nI li) (nI fa) (nI j) (by omega)) ⟨Nat.le_of_ble_eq_true rfl, Nat.le_of_ble_eq_true rfl⟩ [1] [0, 2] rfl rfl (by decide) (by decide) (by decide) 1 1 rfl rfl rfl rfl (Nat.le_of_ble_eq_true rfl) dX6_fault_5 ⟨Nat.le_refl _, Nat.le_refl _⟩ rfl (fun r w1_ H_ locs_ hp w => ?_)
  obtain ⟨rfl, rfl⟩ := hp
  have w : ga_wd G A_ s_ H_ locs_ [(aO, .inr (6, [.ref aP, .ref aW, .ref aK, .ref aJ, .ref aH, .ref aB, .ref aR])), (aP, .inr (1, [.ref aF, .ref aT, .ref aC, .ref aL, .int (nI n), .int (nI k), .int (nI li), .int (nI fa)])), (aJ, .inr (0, [.ref aY, .int (nI qn), .int (bI slj)]))] := ga_perm w [0, 2, 1] (by decide) rfl
  refine W.eq (g2 := F0 m_ 8 ls [.int (bI (inB (nI j) n))]) rfl ?_
  refine r_ifb_eq hx hb dX6_fault_8 (tgt := 26) (by decide) (fun c8 => ?_) (fun c8 => ?_)
  · rw [inB_y (by omega) (by omega)] at c8; cases c8
  · refine lv_aload_n hx hb dX6_fault_11 rfl (lv_at hl 0 rfl) ?_
    refine gf_X6_12 cx hK w 0 rfl rfl dX6_fault_12 ?_
    refine gf_X6_95 cx hK w 1 rfl rfl dX6_fault_15 ?_
    refine lv_iload_n hx hb dX6_fault_18 rfl (lv_at hl 1 rfl) ?_
    refine ga_callS (rest := []) (wr := [(aO, .inr (6, [.ref aP, .ref aW, .ref aK, .ref aJ, .ref aH, .ref aB, .ref aR])), (aP, .inr (1, [.ref aF, .ref aT, .ref aC, .ref aL, .int (nI n), .int (nI k), .int (nI li), .int (nI fa)])), (aJ, .inr (0, [.ref aY, .int (nI qn), .int (bI slj)]))]) cx hK hA w hl lk_X6_91 (c_X6_has l G fa j (by omega) (by omega)) ⟨Nat.le_of_ble_eq_true rfl, Nat.le_of_ble_eq_true rfl⟩ [] [0, 1, 2] rfl rfl (by decide) (by decide) (by decide) rfl (Nat.le_of_ble_eq_true rfl) dX6_fault_19 ⟨Nat.le_refl _, Nat.le_refl _⟩ rfl (fun r w1_ H_ locs_ hp w => ?_)
    obtain ⟨rfl, rfl⟩ := hp
    have w : ga_wd G A_ s_ H_ locs_ [(aO, .inr (6, [.ref aP, .ref aW, .ref aK, .ref aJ, .ref aH, .ref aB, .ref aR])), (aP, .inr (1, [.ref aF, .ref aT, .ref aC, .ref aL, .int (nI n), .int (nI k), .int (nI li), .int (nI fa)])), (aJ, .inr (0, [.ref aY, .int (nI qn), .int (bI slj)]))] := ga_perm w [0, 1, 2] (by decide) rfl
    refine W.eq (g2 := F0 m_ 22 ls [.int (bI (Nat.testBit fa j))]) rfl ?_
    refine lv_iload_n hx hb dX6_fault_22 rfl (lv_at hl 2 rfl) ?_
    refine lv_icmp_ne hx hb dX6_fault_23 (tgt := 28) (by decide) (fun c23 => ?_) (fun c23 => ?_)
    · refine lv_aload_n hx hb dX6_fault_28 rfl (lv_at hl 0 rfl) ?_
      refine gf_X6_12 cx hK w 0 rfl rfl dX6_fault_29 ?_
      refine lv_dup hx hb dX6_fault_32 rfl ?_
      refine gf_X6_95 cx hK w 1 rfl rfl dX6_fault_33 ?_
      refine lv_iconst (v := nI 1) hx hb dX6_fault_36 (by decide) ?_
      refine lv_iload_n hx hb dX6_fault_37 rfl (lv_at hl 1 rfl) ?_
      refine r_ishl hx hb dX6_fault_38 (by omega) ?_
      refine r_ixor hx hb dX6_fault_39 ?_
      refine pf_X6_95 cx hK w 1 rfl rfl rfl (Nat.le_of_ble_eq_true rfl) dX6_fault_40 (fun H_ locs_ w => ?_)
      have w : ga_wd G A_ s_ H_ locs_ [(aO, .inr (6, [.ref aP, .ref aW, .ref aK, .ref aJ, .ref aH, .ref aB, .ref aR])), (aP, .inr (1, [.ref aF, .ref aT, .ref aC, .ref aL, .int (nI n), .int (nI k), .int (nI li), .int (nI (fa ^^^ (1 <<< j)))])), (aJ, .inr (0, [.ref aY, .int (nI qn), .int (bI slj)]))] := w
      refine lv_aload_n hx hb dX6_fault_43 rfl (lv_at hl 0 rfl) ?_
      refine gf_X6_30 cx hK w 0 rfl rfl dX6_fault_44 ?_
      refine lv_iconst (v := nI 1) hx hb dX6_fault_47 (by decide) ?_
      refine pf_X6_98 cx hK w 2 rfl rfl rfl (Nat.le_of_ble_eq_true rfl) dX6_fault_48 (fun H_ locs_ w => ?_)
      have w : ga_wd G A_ s_ H_ locs_ [(aO, .inr (6, [.ref aP, .ref aW, .ref aK, .ref aJ, .ref aH, .ref aB, .ref aR])), (aP, .inr (1, [.ref aF, .ref aT, .ref aC, .ref aL, .int (nI n), .int (nI k), .int (nI li), .int (nI (fa ^^^ (1 <<< j)))])), (aJ, .inr (0, [.ref aY, .int (nI qn), .int (nI 1)]))] := w
      refine lv_iconst (v := nI 1) hx hb dX6_fault_51 (by decide) ?_
      exact ga_zret cx hr hlk w rfl dX6_fault_52 ⟨Nat.le_refl _, Nat.le_refl _⟩ (⟨rfl, rfl⟩)
    · exact absurd ((bI_inj _ _).mp c23) hne

set_option maxHeartbeats 4000000 in
set_option maxRecDepth 100000 in
theorem c_X6_fault_f (l : Launch) (G : ga_G) (aO : Nat) (aP : Nat) (aW : Nat) (aK : Nat) (aJ : Nat) (aH : Nat) (aB : Nat) (aR : Nat) (aF : Nat) (aT : Nat) (aC : Nat) (aL : Nat) (n : Nat) (k : Nat) (li : Nat) (fa : Nat) (x : Int32) (is : Bool) (hn : n ≤ 12) (hfa : fa < 65536) (hno : ∀ j, j < n → x = nI j → Nat.testBit fa j = is) : ga_M l G yX6_fault cX6_fault 3 (Option.some Jvm.ClassFile.FieldType.boolean) 1 21 0 0 [.ref aO, .int x, .int (bI is)] [(aO, .inr (6, [.ref aP, .ref aW, .ref aK, .ref aJ, .ref aH, .ref aB, .ref aR])), (aP, .inr (1, [.ref aF, .ref aT, .ref aC, .ref aL, .int (nI n), .int (nI k), .int (nI li), .int (nI fa)]))] (fun r w => r = some (.int (nI 0)) ∧ w = [(aO, .inr (6, [.ref aP, .ref aW, .ref aK, .ref aJ, .ref aH, .ref aB, .ref aR])), (aP, .inr (1, [.ref aF, .ref aT, .ref aC, .ref aL, .int (nI n), .int (nI k), .int (nI li), .int (nI fa)]))]) := by
  refine ga_M.intro (by decide) (Nat.le_of_ble_eq_true rfl) (fun p_ e_ s_ m_ below meth c_ A_ H_ locs_ ls cx hr hlk hnm hA hK hl w => ?_)
  have hx := cx.1
  have hb := cx.2.1
  have hl : lv_has ls 3 [(0, .ref aO), (1, .int x), (2, .int (bI is))] := hl
  refine lv_aload_n hx hb dX6_fault_0 rfl (lv_at hl 0 rfl) ?_
  refine gf_X6_12 cx hK w 0 rfl rfl dX6_fault_1 ?_
  refine lv_iload_n hx hb dX6_fault_4 rfl (lv_at hl 1 rfl) ?_
  refine ga_callV (rest := []) (wr := [(aO, .inr (6, [.ref aP, .ref aW, .ref aK, .ref aJ, .ref aH, .ref aB, .ref aR]))]) cx hK hA w hl lk_X6_66 (c_X1_hasNode l G aP aF aT aC aL n (nI k) (nI li) (nI fa) x (by omega)) ⟨Nat.le_of_ble_eq_true rfl, Nat.le_of_ble_eq_true rfl⟩ [1] [0] rfl rfl (by decide) (by decide) (by decide) 1 1 rfl rfl rfl rfl (Nat.le_of_ble_eq_true rfl) dX6_fault_5 ⟨Nat.le_refl _, Nat.le_refl _⟩ rfl (fun r w1_ H_ locs_ hp w => ?_)
  obtain ⟨rfl, rfl⟩ := hp
  have w : ga_wd G A_ s_ H_ locs_ [(aO, .inr (6, [.ref aP, .ref aW, .ref aK, .ref aJ, .ref aH, .ref aB, .ref aR])), (aP, .inr (1, [.ref aF, .ref aT, .ref aC, .ref aL, .int (nI n), .int (nI k), .int (nI li), .int (nI fa)]))] := ga_perm w [0, 1] (by decide) rfl
  refine W.eq (g2 := F0 m_ 8 ls [.int (bI (inB x n))]) rfl ?_
  refine r_ifb_eq hx hb dX6_fault_8 (tgt := 26) (by decide) (fun c8 => ?_) (fun c8 => ?_)
  · refine lv_iconst (v := nI 0) hx hb dX6_fault_26 (by decide) ?_
    exact ga_zret cx hr hlk w rfl dX6_fault_27 ⟨Nat.le_refl _, Nat.le_refl _⟩ (⟨rfl, rfl⟩)
  · obtain ⟨j, hj, rfl⟩ := inB_of (by omega) c8
    refine lv_aload_n hx hb dX6_fault_11 rfl (lv_at hl 0 rfl) ?_
    refine gf_X6_12 cx hK w 0 rfl rfl dX6_fault_12 ?_
    refine gf_X6_95 cx hK w 1 rfl rfl dX6_fault_15 ?_
    refine lv_iload_n hx hb dX6_fault_18 rfl (lv_at hl 1 rfl) ?_
    refine ga_callS (rest := []) (wr := [(aO, .inr (6, [.ref aP, .ref aW, .ref aK, .ref aJ, .ref aH, .ref aB, .ref aR])), (aP, .inr (1, [.ref aF, .ref aT, .ref aC, .ref aL, .int (nI n), .int (nI k), .int (nI li), .int (nI fa)]))]) cx hK hA w hl lk_X6_91 (c_X6_has l G fa j (by omega) (by omega)) ⟨Nat.le_of_ble_eq_true rfl, Nat.le_of_ble_eq_true rfl⟩ [] [0, 1] rfl rfl (by decide) (by decide) (by decide) rfl (Nat.le_of_ble_eq_true rfl) dX6_fault_19 ⟨Nat.le_refl _, Nat.le_refl _⟩ rfl (fun r w1_ H_ locs_ hp w => ?_)
    obtain ⟨rfl, rfl⟩ := hp
    have w : ga_wd G A_ s_ H_ locs_ [(aO, .inr (6, [.ref aP, .ref aW, .ref aK, .ref aJ, .ref aH, .ref aB, .ref aR])), (aP, .inr (1, [.ref aF, .ref aT, .ref aC, .ref aL, .int (nI n), .int (nI k), .int (nI li), .int (nI fa)]))] := ga_perm w [0, 1] (by decide) rfl
    refine W.eq (g2 := F0 m_ 22 ls [.int (bI (Nat.testBit fa j))]) rfl ?_
    refine lv_iload_n hx hb dX6_fault_22 rfl (lv_at hl 2 rfl) ?_
    refine lv_icmp_ne hx hb dX6_fault_23 (tgt := 28) (by decide) (fun c23 => ?_) (fun c23 => ?_)
    · exact absurd (congrArg bI (hno j hj rfl)) c23
    · refine lv_iconst (v := nI 0) hx hb dX6_fault_26 (by decide) ?_
      exact ga_zret cx hr hlk w rfl dX6_fault_27 ⟨Nat.le_refl _, Nat.le_refl _⟩ (⟨rfl, rfl⟩)

set_option maxHeartbeats 4000000 in
set_option maxRecDepth 100000 in
theorem c_X6_price (l : Launch) (G : ga_G) (aO : Nat) (aP : Nat) (aW : Nat) (aK : Nat) (aJ : Nat) (aH : Nat) (aB : Nat) (aR : Nat) (aF : Nat) (aT : Nat) (aC : Nat) (aL : Nat) (n : Nat) (k : Nat) (li : Nat) (fa : Nat) (ct : Nat → Nat) (x : Int32) (hk : k ≤ 16) (hc : ∀ e, e < k → ct e ≤ 1000000) : ga_M l G yX6_price cX6_price 2 (Option.some Jvm.ClassFile.FieldType.long) 2 45 0 0 [.ref aO, .int x] [(aO, .inr (6, [.ref aP, .ref aW, .ref aK, .ref aJ, .ref aH, .ref aB, .ref aR])), (aP, .inr (1, [.ref aF, .ref aT, .ref aC, .ref aL, .int (nI n), .int (nI k), .int (nI li), .int (nI fa)])), (aC, .inl (G.2.2, 16, .inl (aN ct)))] (fun r w => r = some (.long (sPrice k ct x)) ∧ w = [(aO, .inr (6, [.ref aP, .ref aW, .ref aK, .ref aJ, .ref aH, .ref aB, .ref aR])), (aP, .inr (1, [.ref aF, .ref aT, .ref aC, .ref aL, .int (nI n), .int (nI k), .int (nI li), .int (nI fa)])), (aC, .inl (G.2.2, 16, .inl (aN ct)))]) := by
  refine ga_M.intro (by decide) (Nat.le_of_ble_eq_true rfl) (fun p_ e_ s_ m_ below meth c_ A_ H_ locs_ ls cx hr hlk hnm hA hK hl w => ?_)
  have hx := cx.1
  have hb := cx.2.1
  have hl : lv_has ls 2 [(0, .ref aO), (1, .int x)] := hl
  refine lv_iload_n hx hb dX6_price_0 rfl (lv_at hl 1 rfl) ?_
  refine lv_aload_n hx hb dX6_price_1 rfl (lv_at hl 0 rfl) ?_
  refine gf_X6_12 cx hK w 0 rfl rfl dX6_price_2 ?_
  refine ga_callV (rest := [.int x]) (wr := [(aO, .inr (6, [.ref aP, .ref aW, .ref aK, .ref aJ, .ref aH, .ref aB, .ref aR])), (aC, .inl (G.2.2, 16, .inl (aN ct)))]) cx hK hA w hl lk_X6_140 (c_X1_allSteps l G aP aF aT aC aL (nI n) k (nI li) (nI fa) (hk)) ⟨Nat.le_of_ble_eq_true rfl, Nat.le_of_ble_eq_true rfl⟩ [1] [0, 2] rfl rfl (by decide) (by decide) (by decide) 1 1 rfl rfl rfl rfl (Nat.le_of_ble_eq_true rfl) dX6_price_5 ⟨Nat.le_refl _, Nat.le_refl _⟩ rfl (fun r w1_ H_ locs_ hp w => ?_)
  obtain ⟨rfl, rfl⟩ := hp
  have w : ga_wd G A_ s_ H_ locs_ [(aO, .inr (6, [.ref aP, .ref aW, .ref aK, .ref aJ, .ref aH, .ref aB, .ref aR])), (aP, .inr (1, [.ref aF, .ref aT, .ref aC, .ref aL, .int (nI n), .int (nI k), .int (nI li), .int (nI fa)])), (aC, .inl (G.2.2, 16, .inl (aN ct)))] := ga_perm w [0, 2, 1] (by decide) rfl
  refine W.eq (g2 := F0 m_ 8 ls [.int (nI (2 ^ k - 1)), .int x]) rfl ?_
  refine lv_iconst (v := (-1)) hx hb dX6_price_8 (by decide) ?_
  refine lv_ixor hx hb dX6_price_9 ?_
  refine lv_iand hx hb dX6_price_10 ?_
  refine lv_if_ne hx hb dX6_price_11 (tgt := 25) (by decide) (fun c11 => ?_) (fun c11 => ?_)
  · refine lv_ldc2 hx hb cx.2.2.2.1 (cx.2.2.2.2 _ tm_410) dX6_price_25 ?_
    exact ga_lret cx hr hlk w dX6_price_28 ⟨Nat.le_refl _, Nat.le_refl _⟩ (⟨ga_rl (sPrice_f hk c11).symm, rfl⟩)
  · obtain ⟨j, hj, rfl⟩ := (pmask hk).mp c11
    have hp2 : 2 ^ k ≤ 2 ^ 16 := Nat.pow_le_pow_right (by decide) hk
    refine lv_aload_n hx hb dX6_price_14 rfl (lv_at hl 0 rfl) ?_
    refine gf_X6_12 cx hK w 0 rfl rfl dX6_price_15 ?_
    refine lv_iload_n hx hb dX6_price_18 rfl (lv_at hl 1 rfl) ?_
    refine ga_callV (rest := []) (wr := [(aO, .inr (6, [.ref aP, .ref aW, .ref aK, .ref aJ, .ref aH, .ref aB, .ref aR]))]) cx hK hA w hl lk_X6_144 (c_X1_priceOf l G aP aF aT aC aL n k li fa ct j (hk) (by omega) (hc)) ⟨Nat.le_of_ble_eq_true rfl, Nat.le_of_ble_eq_true rfl⟩ [1, 2] [0] rfl rfl (by decide) (by decide) (by decide) 1 1 rfl rfl rfl rfl (Nat.le_of_ble_eq_true rfl) dX6_price_19 ⟨Nat.le_refl _, Nat.le_refl _⟩ rfl (fun r w1_ H_ locs_ hp w => ?_)
    obtain ⟨rfl, rfl⟩ := hp
    have w : ga_wd G A_ s_ H_ locs_ [(aO, .inr (6, [.ref aP, .ref aW, .ref aK, .ref aJ, .ref aH, .ref aB, .ref aR])), (aP, .inr (1, [.ref aF, .ref aT, .ref aC, .ref aL, .int (nI n), .int (nI k), .int (nI li), .int (nI fa)])), (aC, .inl (G.2.2, 16, .inl (aN ct)))] := ga_perm w [0, 1, 2] (by decide) rfl
    refine W.eq (g2 := F0 m_ 22 ls [.long (lN (prc ct j k))]) rfl ?_
    refine lv_goto (tgt := 28) hx hb dX6_price_22 (by decide) ?_
    exact ga_lret cx hr hlk w dX6_price_28 ⟨Nat.le_refl _, Nat.le_refl _⟩ (⟨ga_rl (sPrice_t hk hj).symm, rfl⟩)

set_option maxHeartbeats 4000000 in
set_option maxRecDepth 100000 in
theorem c_X6_feed_t (l : Launch) (G : ga_G) (aO : Nat) (aP : Nat) (aW : Nat) (aK : Nat) (aJ : Nat) (aH : Nat) (aB : Nat) (aR : Nat) (aE : Nat) (tl : Nat) (tb : Nat → Nat) (wa : Int32) (wb : Int32) (wc : Int32) (we : Int32) (wf : Int32) (ht : tl ≤ 20) : ga_M l G yX6_feed cX6_feed 6 (Option.some Jvm.ClassFile.FieldType.int) 1 22 0 0 [.ref aO, .int wa, .int wb, .int wc, .int we, .int wf] [(aO, .inr (6, [.ref aP, .ref aW, .ref aK, .ref aJ, .ref aH, .ref aB, .ref aR])), (aB, .inr (5, [.ref aE, .int (nI tl)])), (aE, .inl (G.2.2, 40, .inl (aN tb)))] (fun r w => ∃ (g : Nat → Nat), (feedP tl tb g wa wb wc we wf) ∧ r = some (.int (nI (tl + 20))) ∧ w = [(aO, .inr (6, [.ref aP, .ref aW, .ref aK, .ref aJ, .ref aH, .ref aB, .ref aR])), (aB, .inr (5, [.ref aE, .int (nI (tl + 20))])), (aE, .inl (G.2.2, 40, .inl (aN g)))]) := by
  refine ga_M.intro (by decide) (Nat.le_of_ble_eq_true rfl) (fun p_ e_ s_ m_ below meth c_ A_ H_ locs_ ls cx hr hlk hnm hA hK hl w => ?_)
  have hx := cx.1
  have hb := cx.2.1
  have hl : lv_has ls 6 [(0, .ref aO), (1, .int wa), (2, .int wb), (3, .int wc), (4, .int we), (5, .int wf)] := hl
  refine lv_aload_n hx hb dX6_feed_0 rfl (lv_at hl 0 rfl) ?_
  refine gf_X6_45 cx hK w 0 rfl rfl dX6_feed_1 ?_
  refine gf_X6_162 cx hK w 1 rfl rfl dX6_feed_4 ?_
  refine lv_bipush (v := nI 20) hx hb dX6_feed_7 (by decide) ?_
  refine r_iadd hx hb dX6_feed_9 ?_
  refine lv_bipush (v := nI 40) hx hb dX6_feed_10 (by decide) ?_
  refine r_icmp_le hx hb dX6_feed_12 (tgt := 17) (by decide) (by omega) (by omega) (fun c12 => ?_) (fun c12 => ?_)
  · refine lv_aload_n hx hb dX6_feed_17 rfl (lv_at hl 0 rfl) ?_
    refine gf_X6_45 cx hK w 0 rfl rfl dX6_feed_18 ?_
    refine lv_iload_n hx hb dX6_feed_21 rfl (lv_at hl 1 rfl) ?_
    refine ga_callV (rest := []) (wr := [(aO, .inr (6, [.ref aP, .ref aW, .ref aK, .ref aJ, .ref aH, .ref aB, .ref aR]))]) cx hK hA w hl lk_X6_165 (c_X5_put l G aB aE tl tb wa (by omega)) ⟨Nat.le_of_ble_eq_true rfl, Nat.le_of_ble_eq_true rfl⟩ [1, 2] [0] rfl rfl (by decide) (by decide) (by decide) 1 5 rfl rfl rfl rfl (Nat.le_of_ble_eq_true rfl) dX6_feed_22 ⟨Nat.le_refl _, Nat.le_refl _⟩ rfl (fun r w1_ H_ locs_ hp w => ?_)
    obtain ⟨g1, p1, q1, rfl, rfl⟩ := hp
    have w : ga_wd G A_ s_ H_ locs_ [(aO, .inr (6, [.ref aP, .ref aW, .ref aK, .ref aJ, .ref aH, .ref aB, .ref aR])), (aB, .inr (5, [.ref aE, .int (nI (tl + 4))])), (aE, .inl (G.2.2, 40, .inl (aN g1)))] := ga_perm w [0, 1, 2] (by decide) rfl
    refine W.eq (g2 := F0 m_ 25 ls []) rfl ?_
    refine lv_aload_n hx hb dX6_feed_25 rfl (lv_at hl 0 rfl) ?_
    refine gf_X6_45 cx hK w 0 rfl rfl dX6_feed_26 ?_
    refine lv_iload_n hx hb dX6_feed_29 rfl (lv_at hl 2 rfl) ?_
    refine ga_callV (rest := []) (wr := [(aO, .inr (6, [.ref aP, .ref aW, .ref aK, .ref aJ, .ref aH, .ref aB, .ref aR]))]) cx hK hA w hl lk_X6_165 (c_X5_put l G aB aE (tl + 4) g1 wb (by omega)) ⟨Nat.le_of_ble_eq_true rfl, Nat.le_of_ble_eq_true rfl⟩ [1, 2] [0] rfl rfl (by decide) (by decide) (by decide) 1 5 rfl rfl rfl rfl (Nat.le_of_ble_eq_true rfl) dX6_feed_30 ⟨Nat.le_refl _, Nat.le_refl _⟩ rfl (fun r w1_ H_ locs_ hp w => ?_)
    obtain ⟨g2, p2, q2, rfl, rfl⟩ := hp
    have w : ga_wd G A_ s_ H_ locs_ [(aO, .inr (6, [.ref aP, .ref aW, .ref aK, .ref aJ, .ref aH, .ref aB, .ref aR])), (aB, .inr (5, [.ref aE, .int (nI ((tl + 4) + 4))])), (aE, .inl (G.2.2, 40, .inl (aN g2)))] := ga_perm w [0, 1, 2] (by decide) rfl
    refine W.eq (g2 := F0 m_ 33 ls []) rfl ?_
    refine lv_aload_n hx hb dX6_feed_33 rfl (lv_at hl 0 rfl) ?_
    refine gf_X6_45 cx hK w 0 rfl rfl dX6_feed_34 ?_
    refine lv_iload_n hx hb dX6_feed_37 rfl (lv_at hl 3 rfl) ?_
    refine ga_callV (rest := []) (wr := [(aO, .inr (6, [.ref aP, .ref aW, .ref aK, .ref aJ, .ref aH, .ref aB, .ref aR]))]) cx hK hA w hl lk_X6_165 (c_X5_put l G aB aE ((tl + 4) + 4) g2 wc (by omega)) ⟨Nat.le_of_ble_eq_true rfl, Nat.le_of_ble_eq_true rfl⟩ [1, 2] [0] rfl rfl (by decide) (by decide) (by decide) 1 5 rfl rfl rfl rfl (Nat.le_of_ble_eq_true rfl) dX6_feed_38 ⟨Nat.le_refl _, Nat.le_refl _⟩ rfl (fun r w1_ H_ locs_ hp w => ?_)
    obtain ⟨g3, p3, q3, rfl, rfl⟩ := hp
    have w : ga_wd G A_ s_ H_ locs_ [(aO, .inr (6, [.ref aP, .ref aW, .ref aK, .ref aJ, .ref aH, .ref aB, .ref aR])), (aB, .inr (5, [.ref aE, .int (nI (((tl + 4) + 4) + 4))])), (aE, .inl (G.2.2, 40, .inl (aN g3)))] := ga_perm w [0, 1, 2] (by decide) rfl
    refine W.eq (g2 := F0 m_ 41 ls []) rfl ?_
    refine lv_aload_n hx hb dX6_feed_41 rfl (lv_at hl 0 rfl) ?_
    refine gf_X6_45 cx hK w 0 rfl rfl dX6_feed_42 ?_
    refine lv_iload hx hb dX6_feed_45 (lv_at hl 4 rfl) ?_
    refine ga_callV (rest := []) (wr := [(aO, .inr (6, [.ref aP, .ref aW, .ref aK, .ref aJ, .ref aH, .ref aB, .ref aR]))]) cx hK hA w hl lk_X6_165 (c_X5_put l G aB aE (((tl + 4) + 4) + 4) g3 we (by omega)) ⟨Nat.le_of_ble_eq_true rfl, Nat.le_of_ble_eq_true rfl⟩ [1, 2] [0] rfl rfl (by decide) (by decide) (by decide) 1 5 rfl rfl rfl rfl (Nat.le_of_ble_eq_true rfl) dX6_feed_47 ⟨Nat.le_refl _, Nat.le_refl _⟩ rfl (fun r w1_ H_ locs_ hp w => ?_)
    obtain ⟨g4, p4, q4, rfl, rfl⟩ := hp
    have w : ga_wd G A_ s_ H_ locs_ [(aO, .inr (6, [.ref aP, .ref aW, .ref aK, .ref aJ, .ref aH, .ref aB, .ref aR])), (aB, .inr (5, [.ref aE, .int (nI ((((tl + 4) + 4) + 4) + 4))])), (aE, .inl (G.2.2, 40, .inl (aN g4)))] := ga_perm w [0, 1, 2] (by decide) rfl
    refine W.eq (g2 := F0 m_ 50 ls []) rfl ?_
    refine lv_aload_n hx hb dX6_feed_50 rfl (lv_at hl 0 rfl) ?_
    refine gf_X6_45 cx hK w 0 rfl rfl dX6_feed_51 ?_
    refine lv_iload hx hb dX6_feed_54 (lv_at hl 5 rfl) ?_
    refine ga_callV (rest := []) (wr := [(aO, .inr (6, [.ref aP, .ref aW, .ref aK, .ref aJ, .ref aH, .ref aB, .ref aR]))]) cx hK hA w hl lk_X6_165 (c_X5_put l G aB aE ((((tl + 4) + 4) + 4) + 4) g4 wf (by omega)) ⟨Nat.le_of_ble_eq_true rfl, Nat.le_of_ble_eq_true rfl⟩ [1, 2] [0] rfl rfl (by decide) (by decide) (by decide) 1 5 rfl rfl rfl rfl (Nat.le_of_ble_eq_true rfl) dX6_feed_56 ⟨Nat.le_refl _, Nat.le_refl _⟩ rfl (fun r w1_ H_ locs_ hp w => ?_)
    obtain ⟨g5, p5, q5, rfl, rfl⟩ := hp
    have w : ga_wd G A_ s_ H_ locs_ [(aO, .inr (6, [.ref aP, .ref aW, .ref aK, .ref aJ, .ref aH, .ref aB, .ref aR])), (aB, .inr (5, [.ref aE, .int (nI (((((tl + 4) + 4) + 4) + 4) + 4))])), (aE, .inl (G.2.2, 40, .inl (aN g5)))] := ga_perm w [0, 1, 2] (by decide) rfl
    refine W.eq (g2 := F0 m_ 59 ls []) rfl ?_
    refine lv_aload_n hx hb dX6_feed_59 rfl (lv_at hl 0 rfl) ?_
    refine gf_X6_45 cx hK w 0 rfl rfl dX6_feed_60 ?_
    refine gf_X6_162 cx hK w 1 rfl rfl dX6_feed_63 ?_
    exact ga_iret cx hr hlk w dX6_feed_66 ⟨Nat.le_refl _, Nat.le_refl _⟩ (⟨g5, feedP_5 p1 q1 p2 q2 p3 q3 p4 q4 p5 q5, rfl, rfl⟩)
  · omega

set_option maxHeartbeats 4000000 in
set_option maxRecDepth 100000 in
theorem c_X6_feed_f (l : Launch) (G : ga_G) (aO : Nat) (aP : Nat) (aW : Nat) (aK : Nat) (aJ : Nat) (aH : Nat) (aB : Nat) (aR : Nat) (aE : Nat) (tl : Nat) (tb : Nat → Nat) (wa : Int32) (wb : Int32) (wc : Int32) (we : Int32) (wf : Int32) (ht : ¬ tl ≤ 20) (ht2 : tl ≤ 40) : ga_M l G yX6_feed cX6_feed 6 (Option.some Jvm.ClassFile.FieldType.int) 0 0 0 0 [.ref aO, .int wa, .int wb, .int wc, .int we, .int wf] [(aO, .inr (6, [.ref aP, .ref aW, .ref aK, .ref aJ, .ref aH, .ref aB, .ref aR])), (aB, .inr (5, [.ref aE, .int (nI tl)]))] (fun r w => r = some (.int (-1)) ∧ w = [(aO, .inr (6, [.ref aP, .ref aW, .ref aK, .ref aJ, .ref aH, .ref aB, .ref aR])), (aB, .inr (5, [.ref aE, .int (nI tl)]))]) := by
  refine ga_M.intro (by decide) (Nat.le_of_ble_eq_true rfl) (fun p_ e_ s_ m_ below meth c_ A_ H_ locs_ ls cx hr hlk hnm hA hK hl w => ?_)
  have hx := cx.1
  have hb := cx.2.1
  have hl : lv_has ls 6 [(0, .ref aO), (1, .int wa), (2, .int wb), (3, .int wc), (4, .int we), (5, .int wf)] := hl
  refine lv_aload_n hx hb dX6_feed_0 rfl (lv_at hl 0 rfl) ?_
  refine gf_X6_45 cx hK w 0 rfl rfl dX6_feed_1 ?_
  refine gf_X6_162 cx hK w 1 rfl rfl dX6_feed_4 ?_
  refine lv_bipush (v := nI 20) hx hb dX6_feed_7 (by decide) ?_
  refine r_iadd hx hb dX6_feed_9 ?_
  refine lv_bipush (v := nI 40) hx hb dX6_feed_10 (by decide) ?_
  refine r_icmp_le hx hb dX6_feed_12 (tgt := 17) (by decide) (by omega) (by omega) (fun c12 => ?_) (fun c12 => ?_)
  · omega
  · refine lv_iconst (v := (-1)) hx hb dX6_feed_15 (by decide) ?_
    exact ga_iret cx hr hlk w dX6_feed_16 ⟨Nat.le_refl _, Nat.le_refl _⟩ (⟨rfl, rfl⟩)

set_option maxHeartbeats 4000000 in
set_option maxRecDepth 100000 in
theorem c_X6_look (l : Launch) (G : ga_G) (aO : Nat) (aP : Nat) (aW : Nat) (aK : Nat) (aJ : Nat) (aH : Nat) (aB : Nat) (aR : Nat) (aF : Nat) (aT : Nat) (aC : Nat) (aL : Nat) (n : Nat) (k : Nat) (li : Nat) (fa : Nat) (fr : Nat → Nat) (to : Nat → Nat) (ct : Nat → Nat) (x : Int32) (y : Int32) (hk : k ≤ 16) (hli : li < 65536) : ga_M l G yX6_look cX6_look 3 (Option.some Jvm.ClassFile.FieldType.int) 1 21 0 0 [.ref aO, .int x, .int y] [(aO, .inr (6, [.ref aP, .ref aW, .ref aK, .ref aJ, .ref aH, .ref aB, .ref aR])), (aP, .inr (1, [.ref aF, .ref aT, .ref aC, .ref aL, .int (nI n), .int (nI k), .int (nI li), .int (nI fa)])), (aF, .inl (G.2.2, 16, .inl (aN fr))), (aT, .inl (G.2.2, 16, .inl (aN to))), (aC, .inl (G.2.2, 16, .inl (aN ct)))] (fun r w => r = some (.int (sLook k li fr to ct x y)) ∧ w = [(aO, .inr (6, [.ref aP, .ref aW, .ref aK, .ref aJ, .ref aH, .ref aB, .ref aR])), (aP, .inr (1, [.ref aF, .ref aT, .ref aC, .ref aL, .int (nI n), .int (nI k), .int (nI li), .int (nI fa)])), (aF, .inl (G.2.2, 16, .inl (aN fr))), (aT, .inl (G.2.2, 16, .inl (aN to))), (aC, .inl (G.2.2, 16, .inl (aN ct)))]) := by
  refine ga_M.intro (by decide) (Nat.le_of_ble_eq_true rfl) (fun p_ e_ s_ m_ below meth c_ A_ H_ locs_ ls cx hr hlk hnm hA hK hl w => ?_)
  have hx := cx.1
  have hb := cx.2.1
  have hl : lv_has ls 3 [(0, .ref aO), (1, .int x), (2, .int y)] := hl
  refine lv_aload_n hx hb dX6_look_0 rfl (lv_at hl 0 rfl) ?_
  refine gf_X6_12 cx hK w 0 rfl rfl dX6_look_1 ?_
  refine lv_iload_n hx hb dX6_look_4 rfl (lv_at hl 1 rfl) ?_
  refine ga_callV (rest := []) (wr := [(aO, .inr (6, [.ref aP, .ref aW, .ref aK, .ref aJ, .ref aH, .ref aB, .ref aR])), (aF, .inl (G.2.2, 16, .inl (aN fr))), (aT, .inl (G.2.2, 16, .inl (aN to))), (aC, .inl (G.2.2, 16, .inl (aN ct)))]) cx hK hA w hl lk_X6_81 (c_X1_hasStep l G aP aF aT aC aL (nI n) k (nI li) (nI fa) x (by omega)) ⟨Nat.le_of_ble_eq_true rfl, Nat.le_of_ble_eq_true rfl⟩ [1] [0, 2, 3, 4] rfl rfl (by decide) (by decide) (by decide) 1 1 rfl rfl rfl rfl (Nat.le_of_ble_eq_true rfl) dX6_look_5 ⟨Nat.le_refl _, Nat.le_refl _⟩ rfl (fun r w1_ H_ locs_ hp w => ?_)
  obtain ⟨rfl, rfl⟩ := hp
  have w : ga_wd G A_ s_ H_ locs_ [(aO, .inr (6, [.ref aP, .ref aW, .ref aK, .ref aJ, .ref aH, .ref aB, .ref aR])), (aP, .inr (1, [.ref aF, .ref aT, .ref aC, .ref aL, .int (nI n), .int (nI k), .int (nI li), .int (nI fa)])), (aF, .inl (G.2.2, 16, .inl (aN fr))), (aT, .inl (G.2.2, 16, .inl (aN to))), (aC, .inl (G.2.2, 16, .inl (aN ct)))] := ga_perm w [0, 4, 1, 2, 3] (by decide) rfl
  refine W.eq (g2 := F0 m_ 8 ls [.int (bI (inB x k))]) rfl ?_
  refine r_ifb_ne hx hb dX6_look_8 (tgt := 13) (by decide) (fun c8 => ?_) (fun c8 => ?_)
  · obtain ⟨j, hj, rfl⟩ := inB_of (by omega) c8
    have hjx : inB (nI j) k = true := c8
    refine lv_iload_n hx hb dX6_look_13 rfl (lv_at hl 2 rfl) ?_
    by_cases t14 : y.toInt < 0 ∨ 3 < y.toInt
    · refine lv_tableOut (tgt := 94) hx hb dX6_look_14 t14 (by decide) ?_
      refine lv_iconst (v := (-1)) hx hb dX6_look_94 (by decide) ?_
      exact ga_iret cx hr hlk w dX6_look_95 ⟨Nat.le_refl _, Nat.le_refl _⟩ (⟨ga_rv (sLook_x hjx t14).symm, rfl⟩)
    · have t14n : y.toInt = 0 ∨ y.toInt = 1 ∨ y.toInt = 2 ∨ y.toInt = 3 := by omega
      rcases t14n with t14j | t14j | t14j | t14j
      · refine lv_tableIn (tgt := 44) hx hb dX6_look_14 (by rw [t14j]; decide) (by rw [t14j]; decide) (off := 30) (by rw [t14j]; rfl) (by decide) ?_
        refine lv_aload_n hx hb dX6_look_44 rfl (lv_at hl 0 rfl) ?_
        refine gf_X6_12 cx hK w 0 rfl rfl dX6_look_45 ?_
        refine gf_X6_193 cx hK w 1 rfl rfl dX6_look_48 ?_
        refine lv_iload_n hx hb dX6_look_51 rfl (lv_at hl 1 rfl) ?_
        refine r_ialdN hx hb hK w 2 rfl dX6_look_52 (by omega) (by decide) ?_
        exact ga_iret cx hr hlk w dX6_look_53 ⟨Nat.le_refl _, Nat.le_refl _⟩ (⟨ga_rv (sLook_0 hjx t14j (by omega)).symm, rfl⟩)
      · refine lv_tableIn (tgt := 54) hx hb dX6_look_14 (by rw [t14j]; decide) (by rw [t14j]; decide) (off := 40) (by rw [t14j]; rfl) (by decide) ?_
        refine lv_aload_n hx hb dX6_look_54 rfl (lv_at hl 0 rfl) ?_
        refine gf_X6_12 cx hK w 0 rfl rfl dX6_look_55 ?_
        refine gf_X6_196 cx hK w 1 rfl rfl dX6_look_58 ?_
        refine lv_iload_n hx hb dX6_look_61 rfl (lv_at hl 1 rfl) ?_
        refine r_ialdN hx hb hK w 3 rfl dX6_look_62 (by omega) (by decide) ?_
        exact ga_iret cx hr hlk w dX6_look_63 ⟨Nat.le_refl _, Nat.le_refl _⟩ (⟨ga_rv (sLook_1 hjx t14j (by omega)).symm, rfl⟩)
      · refine lv_tableIn (tgt := 64) hx hb dX6_look_14 (by rw [t14j]; decide) (by rw [t14j]; decide) (off := 50) (by rw [t14j]; rfl) (by decide) ?_
        refine lv_aload_n hx hb dX6_look_64 rfl (lv_at hl 0 rfl) ?_
        refine gf_X6_12 cx hK w 0 rfl rfl dX6_look_65 ?_
        refine gf_X6_84 cx hK w 1 rfl rfl dX6_look_68 ?_
        refine lv_iload_n hx hb dX6_look_71 rfl (lv_at hl 1 rfl) ?_
        refine r_ialdN hx hb hK w 4 rfl dX6_look_72 (by omega) (by decide) ?_
        exact ga_iret cx hr hlk w dX6_look_73 ⟨Nat.le_refl _, Nat.le_refl _⟩ (⟨ga_rv (sLook_2 hjx t14j (by omega)).symm, rfl⟩)
      · refine lv_tableIn (tgt := 74) hx hb dX6_look_14 (by rw [t14j]; decide) (by rw [t14j]; decide) (off := 60) (by rw [t14j]; rfl) (by decide) ?_
        refine lv_aload_n hx hb dX6_look_74 rfl (lv_at hl 0 rfl) ?_
        refine gf_X6_12 cx hK w 0 rfl rfl dX6_look_75 ?_
        refine gf_X6_88 cx hK w 1 rfl rfl dX6_look_78 ?_
        refine lv_iload_n hx hb dX6_look_81 rfl (lv_at hl 1 rfl) ?_
        refine ga_callS (rest := []) (wr := [(aO, .inr (6, [.ref aP, .ref aW, .ref aK, .ref aJ, .ref aH, .ref aB, .ref aR])), (aP, .inr (1, [.ref aF, .ref aT, .ref aC, .ref aL, .int (nI n), .int (nI k), .int (nI li), .int (nI fa)])), (aF, .inl (G.2.2, 16, .inl (aN fr))), (aT, .inl (G.2.2, 16, .inl (aN to))), (aC, .inl (G.2.2, 16, .inl (aN ct)))]) cx hK hA w hl lk_X6_91 (c_X6_has l G li j (by omega) (by omega)) ⟨Nat.le_of_ble_eq_true rfl, Nat.le_of_ble_eq_true rfl⟩ [] [0, 1, 2, 3, 4] rfl rfl (by decide) (by decide) (by decide) rfl (Nat.le_of_ble_eq_true rfl) dX6_look_82 ⟨Nat.le_refl _, Nat.le_refl _⟩ rfl (fun r w1_ H_ locs_ hp w => ?_)
        obtain ⟨rfl, rfl⟩ := hp
        have w : ga_wd G A_ s_ H_ locs_ [(aO, .inr (6, [.ref aP, .ref aW, .ref aK, .ref aJ, .ref aH, .ref aB, .ref aR])), (aP, .inr (1, [.ref aF, .ref aT, .ref aC, .ref aL, .int (nI n), .int (nI k), .int (nI li), .int (nI fa)])), (aF, .inl (G.2.2, 16, .inl (aN fr))), (aT, .inl (G.2.2, 16, .inl (aN to))), (aC, .inl (G.2.2, 16, .inl (aN ct)))] := ga_perm w [0, 1, 2, 3, 4] (by decide) rfl
        refine W.eq (g2 := F0 m_ 85 ls [.int (bI (Nat.testBit li j))]) rfl ?_
        refine r_ifb_eq hx hb dX6_look_85 (tgt := 92) (by decide) (fun c85 => ?_) (fun c85 => ?_)
        · refine lv_iconst (v := nI 0) hx hb dX6_look_92 (by decide) ?_
          exact ga_iret cx hr hlk w dX6_look_93 ⟨Nat.le_refl _, Nat.le_refl _⟩ (⟨ga_rv (by rw [sLook_3 hjx t14j (by omega), c85]; rfl), rfl⟩)
        · refine lv_iconst (v := nI 1) hx hb dX6_look_88 (by decide) ?_
          refine lv_goto (tgt := 93) hx hb dX6_look_89 (by decide) ?_
          exact ga_iret cx hr hlk w dX6_look_93 ⟨Nat.le_refl _, Nat.le_refl _⟩ (⟨ga_rv (by rw [sLook_3 hjx t14j (by omega), c85]; rfl), rfl⟩)
  · refine lv_iconst (v := (-1)) hx hb dX6_look_11 (by decide) ?_
    exact ga_iret cx hr hlk w dX6_look_12 ⟨Nat.le_refl _, Nat.le_refl _⟩ (⟨ga_rv (by rw [sLook, c8]; rfl), rfl⟩)

set_option maxHeartbeats 4000000 in
set_option maxRecDepth 100000 in
theorem c_X6_count (l : Launch) (G : ga_G) (aO : Nat) (aP : Nat) (aW : Nat) (aK : Nat) (aJ : Nat) (aH : Nat) (aB : Nat) (aR : Nat) (aF : Nat) (aT : Nat) (aC : Nat) (aL : Nat) (n : Nat) (k : Nat) (li : Nat) (fa : Nat) (ct : Nat → Nat) (aE : Nat) (tl : Nat) (tb : Nat → Nat) (y : Int32) (hk : k ≤ 16) (hn : n ≤ 12) (hc : ∀ e, e < k → ct e ≤ 1000000) (hli : li < 65536) (hfa : fa < 65536) (htl : tl ≤ 40) : ga_M l G yX6_count cX6_count 2 (Option.some Jvm.ClassFile.FieldType.long) 2 45 0 0 [.ref aO, .int y] [(aO, .inr (6, [.ref aP, .ref aW, .ref aK, .ref aJ, .ref aH, .ref aB, .ref aR])), (aP, .inr (1, [.ref aF, .ref aT, .ref aC, .ref aL, .int (nI n), .int (nI k), .int (nI li), .int (nI fa)])), (aC, .inl (G.2.2, 16, .inl (aN ct))), (aB, .inr (5, [.ref aE, .int (nI tl)]))] (fun r w => r = some (.long (sCount n k li fa ct tl y)) ∧ w = [(aO, .inr (6, [.ref aP, .ref aW, .ref aK, .ref aJ, .ref aH, .ref aB, .ref aR])), (aP, .inr (1, [.ref aF, .ref aT, .ref aC, .ref aL, .int (nI n), .int (nI k), .int (nI li), .int (nI fa)])), (aC, .inl (G.2.2, 16, .inl (aN ct))), (aB, .inr (5, [.ref aE, .int (nI tl)]))]) := by
  refine ga_M.intro (by decide) (Nat.le_of_ble_eq_true rfl) (fun p_ e_ s_ m_ below meth c_ A_ H_ locs_ ls cx hr hlk hnm hA hK hl w => ?_)
  have hx := cx.1
  have hb := cx.2.1
  have hl : lv_has ls 2 [(0, .ref aO), (1, .int y)] := hl
  refine lv_iload_n hx hb dX6_count_0 rfl (lv_at hl 1 rfl) ?_
  by_cases t1 : y.toInt < 0 ∨ 5 < y.toInt
  · refine lv_tableOut (tgt := 106) hx hb dX6_count_1 t1 (by decide) ?_
    refine lv_ldc2 hx hb cx.2.2.2.1 (cx.2.2.2.2 _ tm_410) dX6_count_106 ?_
    exact ga_lret cx hr hlk w dX6_count_109 ⟨Nat.le_refl _, Nat.le_refl _⟩ (⟨ga_rl (sCount_x t1).symm, rfl⟩)
  · have t1n : y.toInt = 0 ∨ y.toInt = 1 ∨ y.toInt = 2 ∨ y.toInt = 3 ∨ y.toInt = 4 ∨ y.toInt = 5 := by omega
    rcases t1n with t1j | t1j | t1j | t1j | t1j | t1j
    · refine lv_tableIn (tgt := 40) hx hb dX6_count_1 (by rw [t1j]; decide) (by rw [t1j]; decide) (off := 39) (by rw [t1j]; rfl) (by decide) ?_
      refine lv_aload_n hx hb dX6_count_40 rfl (lv_at hl 0 rfl) ?_
      refine gf_X6_12 cx hK w 0 rfl rfl dX6_count_41 ?_
      refine gf_X6_199 cx hK w 1 rfl rfl dX6_count_44 ?_
      refine r_i2l hx hb dX6_count_47 (by omega) ?_
      exact ga_lret cx hr hlk w dX6_count_48 ⟨Nat.le_refl _, Nat.le_refl _⟩ (⟨ga_rl (by rw [sCount, t1j]; rfl), rfl⟩)
    · refine lv_tableIn (tgt := 49) hx hb dX6_count_1 (by rw [t1j]; decide) (by rw [t1j]; decide) (off := 48) (by rw [t1j]; rfl) (by decide) ?_
      refine lv_aload_n hx hb dX6_count_49 rfl (lv_at hl 0 rfl) ?_
      refine gf_X6_12 cx hK w 0 rfl rfl dX6_count_50 ?_
      refine gf_X6_73 cx hK w 1 rfl rfl dX6_count_53 ?_
      refine r_i2l hx hb dX6_count_56 (by omega) ?_
      exact ga_lret cx hr hlk w dX6_count_57 ⟨Nat.le_refl _, Nat.le_refl _⟩ (⟨ga_rl (by rw [sCount, t1j]; rfl), rfl⟩)
    · refine lv_tableIn (tgt := 58) hx hb dX6_count_1 (by rw [t1j]; decide) (by rw [t1j]; decide) (off := 57) (by rw [t1j]; rfl) (by decide) ?_
      refine lv_aload_n hx hb dX6_count_58 rfl (lv_at hl 0 rfl) ?_
      refine gf_X6_12 cx hK w 0 rfl rfl dX6_count_59 ?_
      refine gf_X6_88 cx hK w 1 rfl rfl dX6_count_62 ?_
      refine ga_callS (rest := []) (wr := [(aO, .inr (6, [.ref aP, .ref aW, .ref aK, .ref aJ, .ref aH, .ref aB, .ref aR])), (aP, .inr (1, [.ref aF, .ref aT, .ref aC, .ref aL, .int (nI n), .int (nI k), .int (nI li), .int (nI fa)])), (aC, .inl (G.2.2, 16, .inl (aN ct))), (aB, .inr (5, [.ref aE, .int (nI tl)]))]) cx hK hA w hl lk_X6_202 (c_J6_bitCount_0f7a4 l G li (by omega)) ⟨Nat.le_of_ble_eq_true rfl, Nat.le_of_ble_eq_true rfl⟩ [] [0, 1, 2, 3] rfl rfl (by decide) (by decide) (by decide) rfl (Nat.le_of_ble_eq_true rfl) dX6_count_65 ⟨Nat.le_refl _, Nat.le_refl _⟩ rfl (fun r w1_ H_ locs_ hp w => ?_)
      obtain ⟨rfl, rfl⟩ := hp
      have w : ga_wd G A_ s_ H_ locs_ [(aO, .inr (6, [.ref aP, .ref aW, .ref aK, .ref aJ, .ref aH, .ref aB, .ref aR])), (aP, .inr (1, [.ref aF, .ref aT, .ref aC, .ref aL, .int (nI n), .int (nI k), .int (nI li), .int (nI fa)])), (aC, .inl (G.2.2, 16, .inl (aN ct))), (aB, .inr (5, [.ref aE, .int (nI tl)]))] := ga_perm w [0, 1, 2, 3] (by decide) rfl
      refine W.eq (g2 := F0 m_ 68 ls [.int (nI (pop li))]) rfl ?_
      refine r_i2l hx hb dX6_count_68 (by have := pop_lt li; omega) ?_
      exact ga_lret cx hr hlk w dX6_count_69 ⟨Nat.le_refl _, Nat.le_refl _⟩ (⟨ga_rl (by rw [sCount, t1j]; rfl), rfl⟩)
    · refine lv_tableIn (tgt := 70) hx hb dX6_count_1 (by rw [t1j]; decide) (by rw [t1j]; decide) (off := 69) (by rw [t1j]; rfl) (by decide) ?_
      refine lv_aload_n hx hb dX6_count_70 rfl (lv_at hl 0 rfl) ?_
      refine gf_X6_12 cx hK w 0 rfl rfl dX6_count_71 ?_
      refine gf_X6_95 cx hK w 1 rfl rfl dX6_count_74 ?_
      refine ga_callS (rest := []) (wr := [(aO, .inr (6, [.ref aP, .ref aW, .ref aK, .ref aJ, .ref aH, .ref aB, .ref aR])), (aP, .inr (1, [.ref aF, .ref aT, .ref aC, .ref aL, .int (nI n), .int (nI k), .int (nI li), .int (nI fa)])), (aC, .inl (G.2.2, 16, .inl (aN ct))), (aB, .inr (5, [.ref aE, .int (nI tl)]))]) cx hK hA w hl lk_X6_202 (c_J6_bitCount_0f7a4 l G fa (by omega)) ⟨Nat.le_of_ble_eq_true rfl, Nat.le_of_ble_eq_true rfl⟩ [] [0, 1, 2, 3] rfl rfl (by decide) (by decide) (by decide) rfl (Nat.le_of_ble_eq_true rfl) dX6_count_77 ⟨Nat.le_refl _, Nat.le_refl _⟩ rfl (fun r w1_ H_ locs_ hp w => ?_)
      obtain ⟨rfl, rfl⟩ := hp
      have w : ga_wd G A_ s_ H_ locs_ [(aO, .inr (6, [.ref aP, .ref aW, .ref aK, .ref aJ, .ref aH, .ref aB, .ref aR])), (aP, .inr (1, [.ref aF, .ref aT, .ref aC, .ref aL, .int (nI n), .int (nI k), .int (nI li), .int (nI fa)])), (aC, .inl (G.2.2, 16, .inl (aN ct))), (aB, .inr (5, [.ref aE, .int (nI tl)]))] := ga_perm w [0, 1, 2, 3] (by decide) rfl
      refine W.eq (g2 := F0 m_ 80 ls [.int (nI (pop fa))]) rfl ?_
      refine r_i2l hx hb dX6_count_80 (by have := pop_lt fa; omega) ?_
      exact ga_lret cx hr hlk w dX6_count_81 ⟨Nat.le_refl _, Nat.le_refl _⟩ (⟨ga_rl (by rw [sCount, t1j]; rfl), rfl⟩)
    · refine lv_tableIn (tgt := 82) hx hb dX6_count_1 (by rw [t1j]; decide) (by rw [t1j]; decide) (off := 81) (by rw [t1j]; rfl) (by decide) ?_
      refine lv_aload_n hx hb dX6_count_82 rfl (lv_at hl 0 rfl) ?_
      refine gf_X6_12 cx hK w 0 rfl rfl dX6_count_83 ?_
      refine lv_aload_n hx hb dX6_count_86 rfl (lv_at hl 0 rfl) ?_
      refine gf_X6_12 cx hK w 0 rfl rfl dX6_count_87 ?_
      refine gf_X6_88 cx hK w 1 rfl rfl dX6_count_90 ?_
      refine ga_callV (rest := []) (wr := [(aO, .inr (6, [.ref aP, .ref aW, .ref aK, .ref aJ, .ref aH, .ref aB, .ref aR])), (aB, .inr (5, [.ref aE, .int (nI tl)]))]) cx hK hA w hl lk_X6_144 (c_X1_priceOf l G aP aF aT aC aL n k li fa ct li (hk) (by omega) (hc)) ⟨Nat.le_of_ble_eq_true rfl, Nat.le_of_ble_eq_true rfl⟩ [1, 2] [0, 3] rfl rfl (by decide) (by decide) (by decide) 1 1 rfl rfl rfl rfl (Nat.le_of_ble_eq_true rfl) dX6_count_93 ⟨Nat.le_refl _, Nat.le_refl _⟩ rfl (fun r w1_ H_ locs_ hp w => ?_)
      obtain ⟨rfl, rfl⟩ := hp
      have w : ga_wd G A_ s_ H_ locs_ [(aO, .inr (6, [.ref aP, .ref aW, .ref aK, .ref aJ, .ref aH, .ref aB, .ref aR])), (aP, .inr (1, [.ref aF, .ref aT, .ref aC, .ref aL, .int (nI n), .int (nI k), .int (nI li), .int (nI fa)])), (aC, .inl (G.2.2, 16, .inl (aN ct))), (aB, .inr (5, [.ref aE, .int (nI tl)]))] := ga_perm w [0, 2, 3, 1] (by decide) rfl
      refine W.eq (g2 := F0 m_ 96 ls [.long (lN (prc ct li k))]) rfl ?_
      exact ga_lret cx hr hlk w dX6_count_96 ⟨Nat.le_refl _, Nat.le_refl _⟩ (⟨ga_rl (by rw [sCount, t1j]; rfl), rfl⟩)
    · refine lv_tableIn (tgt := 97) hx hb dX6_count_1 (by rw [t1j]; decide) (by rw [t1j]; decide) (off := 96) (by rw [t1j]; rfl) (by decide) ?_
      refine lv_aload_n hx hb dX6_count_97 rfl (lv_at hl 0 rfl) ?_
      refine gf_X6_45 cx hK w 0 rfl rfl dX6_count_98 ?_
      refine gf_X6_162 cx hK w 3 rfl rfl dX6_count_101 ?_
      refine r_i2l hx hb dX6_count_104 (by omega) ?_
      exact ga_lret cx hr hlk w dX6_count_105 ⟨Nat.le_refl _, Nat.le_refl _⟩ (⟨ga_rl (by rw [sCount, t1j]; rfl), rfl⟩)
