def feedM (tl : Nat) (tb g : Nat → Int32) (a b c d e : Int32) : Prop := (∀ j, j < tl → g j = tb j) ∧ ∀ q, q < 20 → g (tl + q) = sgb (byt (if q < 4 then a else if q < 8 then b else if q < 12 then c else if q < 16 then d else e) (3 - q % 4))
theorem feedM_5 {tl : Nat} {tb g1 g2 g3 g4 g5 : Nat → Int32} {a b c d e : Int32} (p1 : ∀ j, j < tl → g1 j = tb j) (q1 : ∀ q, q < 4 → g1 (tl + q) = sgb (byt a (3 - q))) (p2 : ∀ j, j < tl + 4 → g2 j = g1 j) (q2 : ∀ q, q < 4 → g2 (tl + 4 + q) = sgb (byt b (3 - q))) (p3 : ∀ j, j < tl + 4 + 4 → g3 j = g2 j) (q3 : ∀ q, q < 4 → g3 (tl + 4 + 4 + q) = sgb (byt c (3 - q))) (p4 : ∀ j, j < tl + 4 + 4 + 4 → g4 j = g3 j) (q4 : ∀ q, q < 4 → g4 (tl + 4 + 4 + 4 + q) = sgb (byt d (3 - q))) (p5 : ∀ j, j < tl + 4 + 4 + 4 + 4 → g5 j = g4 j) (q5 : ∀ q, q < 4 → g5 (tl + 4 + 4 + 4 + 4 + q) = sgb (byt e (3 - q))) : feedM tl tb g5 a b c d e := by
  refine ⟨fun j hj => by rw [p5 j (by omega), p4 j (by omega), p3 j (by omega), p2 j (by omega), p1 j hj], fun q hq => ?_⟩
  by_cases h1 : q < 4
  · rw [if_pos h1, p5 _ (by omega), p4 _ (by omega), p3 _ (by omega), p2 _ (by omega), q1 q h1, Nat.mod_eq_of_lt h1]
  rw [if_neg h1]
  by_cases h2 : q < 8
  · rw [if_pos h2, p5 _ (by omega), p4 _ (by omega), p3 _ (by omega), show tl + q = tl + 4 + (q - 4) by omega, q2 (q - 4) (by omega), show q % 4 = q - 4 by omega]
  rw [if_neg h2]
  by_cases h3 : q < 12
  · rw [if_pos h3, p5 _ (by omega), p4 _ (by omega), show tl + q = tl + 4 + 4 + (q - 8) by omega, q3 (q - 8) (by omega), show q % 4 = q - 8 by omega]
  rw [if_neg h3]
  by_cases h4 : q < 16
  · rw [if_pos h4, p5 _ (by omega), show tl + q = tl + 4 + 4 + 4 + (q - 12) by omega, q4 (q - 12) (by omega), show q % 4 = q - 12 by omega]
  rw [if_neg h4, show tl + q = tl + 4 + 4 + 4 + 4 + (q - 16) by omega, q5 (q - 16) (by omega), show q % 4 = q - 16 by omega]
set_option maxHeartbeats 4000000 in
set_option maxRecDepth 100000 in
theorem c_X7_lies (l : Launch) (G : ga_G) (v : Int64) (lo : Int64) (hi : Int64)  : ga_M l G yX7_lies cX7_lies 6 (Option.some Jvm.ClassFile.FieldType.boolean) 0 0 0 0 [.long v, .long lo, .long hi] [] (fun r w => r = some (.int (bI (lsB v lo hi))) ∧ w = []) := by
  refine ga_M.intro (by decide) (Nat.le_of_ble_eq_true rfl) (fun p_ e_ s_ m_ below meth c_ A_ H_ locs_ ls cx hr hlk hnm hA hK hl w => ?_)
  have hx := cx.1
  have hb := cx.2.1
  have hl : lv_has ls 6 [(0, .long v), (2, .long lo), (4, .long hi)] := hl
  refine lv_lload_n hx hb dX7_lies_0 rfl (lv_at hl 0 rfl) ?_
  refine lv_lload_n hx hb dX7_lies_1 rfl (lv_at hl 1 rfl) ?_
  refine W.lcmp hx hb dX7_lies_2 ?_
  refine r_lc_lt hx hb dX7_lies_3 (tgt := 17) (by decide) (fun c3 => ?_) (fun c3 => ?_)
  · refine lv_iconst (v := nI 0) hx hb dX7_lies_17 (by decide) ?_
    exact ga_zret cx hr hlk w rfl dX7_lies_18 ⟨Nat.le_refl _, Nat.le_refl _⟩ (⟨ga_r0 (by first | exact lsB_a c3 | exact lsB_b c10 | exact lsB_1 c3 c10), rfl⟩)
  · refine lv_lload_n hx hb dX7_lies_6 rfl (lv_at hl 0 rfl) ?_
    refine lv_lload hx hb dX7_lies_7 (lv_at hl 2 rfl) ?_
    refine W.lcmp hx hb dX7_lies_9 ?_
    refine r_lc_gt hx hb dX7_lies_10 (tgt := 17) (by decide) (fun c10 => ?_) (fun c10 => ?_)
    · refine lv_iconst (v := nI 0) hx hb dX7_lies_17 (by decide) ?_
      exact ga_zret cx hr hlk w rfl dX7_lies_18 ⟨Nat.le_refl _, Nat.le_refl _⟩ (⟨ga_r0 (by first | exact lsB_a c3 | exact lsB_b c10 | exact lsB_1 c3 c10), rfl⟩)
    · refine lv_iconst (v := nI 1) hx hb dX7_lies_13 (by decide) ?_
      refine lv_goto (tgt := 18) hx hb dX7_lies_14 (by decide) ?_
      exact ga_zret cx hr hlk w rfl dX7_lies_18 ⟨Nat.le_refl _, Nat.le_refl _⟩ (⟨ga_r1 (by first | exact lsB_a c3 | exact lsB_b c10 | exact lsB_1 c3 c10), rfl⟩)

set_option maxHeartbeats 4000000 in
set_option maxRecDepth 100000 in
theorem c_X7_isIn (l : Launch) (G : ga_G) (st : Nat) (e : Nat) (h1 : st < 2 ^ 31) (h2 : e < 32) : ga_M l G yX7_isIn cX7_isIn 2 (Option.some Jvm.ClassFile.FieldType.boolean) 0 0 0 0 [.int (nI st), .int (nI e)] [] (fun r w => r = some (.int (bI (Nat.testBit st e))) ∧ w = []) := by
  refine ga_M.intro (by decide) (Nat.le_of_ble_eq_true rfl) (fun p_ e_ s_ m_ below meth c_ A_ H_ locs_ ls cx hr hlk hnm hA hK hl w => ?_)
  have hx := cx.1
  have hb := cx.2.1
  have hl : lv_has ls 2 [(0, .int (nI st)), (1, .int (nI e))] := hl
  refine lv_iload_n hx hb dX7_isIn_0 rfl (lv_at hl 0 rfl) ?_
  refine lv_iload_n hx hb dX7_isIn_1 rfl (lv_at hl 1 rfl) ?_
  refine r_ishr hx hb dX7_isIn_2 (by omega) (by omega) ?_
  refine lv_iconst (v := nI 1) hx hb dX7_isIn_3 (by decide) ?_
  refine r_iand hx hb dX7_isIn_4 ?_
  refine lv_iconst (v := nI 1) hx hb dX7_isIn_5 (by decide) ?_
  refine r_icmp_ne hx hb dX7_isIn_6 (tgt := 13) (by decide) (and1_lt _) (by decide) (fun c6 => ?_) (fun c6 => ?_)
  · refine lv_iconst (v := nI 0) hx hb dX7_isIn_13 (by decide) ?_
    exact ga_zret cx hr hlk w rfl dX7_isIn_14 ⟨Nat.le_refl _, Nat.le_refl _⟩ (⟨ga_r0 (by first | exact (tb_and _ _).mp (by omega) | (cases hb2 : Nat.testBit st e; rfl; exact absurd ((tb_and _ _).mpr hb2) (by omega))), rfl⟩)
  · refine lv_iconst (v := nI 1) hx hb dX7_isIn_9 (by decide) ?_
    refine lv_goto (tgt := 14) hx hb dX7_isIn_10 (by decide) ?_
    exact ga_zret cx hr hlk w rfl dX7_isIn_14 ⟨Nat.le_refl _, Nat.le_refl _⟩ (⟨ga_r1 (by first | exact (tb_and _ _).mp (by omega) | (cases hb2 : Nat.testBit st e; rfl; exact absurd ((tb_and _ _).mpr hb2) (by omega))), rfl⟩)

set_option maxHeartbeats 4000000 in
set_option maxRecDepth 100000 in
theorem c_X7_isStep (l : Launch) (G : ga_G) (aM : Nat) (mT : Nat) (mF : Nat) (mO : Nat) (mC : Nat) (mR : Nat) (mZ : Nat) (mS : Nat) (mH : Nat) (mL : Nat) (mN : Nat) (mX : Nat) (mY : Nat) (tl : Nat) (n : Nat) (k : Nat) (li : Nat) (fa : Nat) (mm : Nat) (im : Bool) (ird : Bool) (itn : Bool) (lsz : Nat) (tu : Nat) (x : Int32) (hk : k ≤ 16) : ga_M l G yX7_isStep cX7_isStep 2 (Option.some Jvm.ClassFile.FieldType.boolean) 1 25 0 0 [.ref aM, .int x] [(aM, .inr (7, [.ref mT, .int (nI tl), .int (nI n), .int (nI k), .ref mF, .ref mO, .ref mC, .int (nI li), .int (nI fa), .int (nI mm), .int (bI im), .ref mR, .ref mZ, .ref mS, .ref mH, .int (bI ird), .int (bI itn), .int (nI lsz), .ref mL, .ref mN, .ref mX, .ref mY, .int (nI tu)]))] (fun r w => r = some (.int (bI (inB x k))) ∧ w = [(aM, .inr (7, [.ref mT, .int (nI tl), .int (nI n), .int (nI k), .ref mF, .ref mO, .ref mC, .int (nI li), .int (nI fa), .int (nI mm), .int (bI im), .ref mR, .ref mZ, .ref mS, .ref mH, .int (bI ird), .int (bI itn), .int (nI lsz), .ref mL, .ref mN, .ref mX, .ref mY, .int (nI tu)]))]) := by
  refine ga_M.intro (by decide) (Nat.le_of_ble_eq_true rfl) (fun p_ e_ s_ m_ below meth c_ A_ H_ locs_ ls cx hr hlk hnm hA hK hl w => ?_)
  have hx := cx.1
  have hb := cx.2.1
  have hl : lv_has ls 2 [(0, .ref aM), (1, .int x)] := hl
  refine lv_iload_n hx hb dX7_isStep_0 rfl (lv_at hl 1 rfl) ?_
  refine lv_i2l hx hb dX7_isStep_1 rfl ?_
  refine lv_lconst (v := lN 0) hx hb dX7_isStep_2 (by decide) ?_
  refine lv_aload_n hx hb dX7_isStep_3 rfl (lv_at hl 0 rfl) ?_
  refine gf_X7_52 cx hK w 0 rfl rfl dX7_isStep_4 ?_
  refine lv_iconst (v := nI 1) hx hb dX7_isStep_7 (by decide) ?_
  refine lv_isub hx hb dX7_isStep_8 ?_
  refine lv_i2l hx hb dX7_isStep_9 rfl ?_
  refine ga_callS (rest := []) (wr := [(aM, .inr (7, [.ref mT, .int (nI tl), .int (nI n), .int (nI k), .ref mF, .ref mO, .ref mC, .int (nI li), .int (nI fa), .int (nI mm), .int (bI im), .ref mR, .ref mZ, .ref mS, .ref mH, .int (bI ird), .int (bI itn), .int (nI lsz), .ref mL, .ref mN, .ref mX, .ref mY, .int (nI tu)]))]) cx hK hA w hl lk_X7_55 (c_X7_lies l G x.toInt64 (lN 0) (((nI k) - (nI 1)).toInt64) ) ⟨Nat.le_of_ble_eq_true rfl, Nat.le_of_ble_eq_true rfl⟩ [] [0] rfl rfl (by decide) (by decide) (by decide) rfl (Nat.le_of_ble_eq_true rfl) dX7_isStep_10 ⟨Nat.le_refl _, Nat.le_refl _⟩ rfl (fun r w1_ H_ locs_ hp w => ?_)
  obtain ⟨rfl, rfl⟩ := hp
  have w : ga_wd G A_ s_ H_ locs_ [(aM, .inr (7, [.ref mT, .int (nI tl), .int (nI n), .int (nI k), .ref mF, .ref mO, .ref mC, .int (nI li), .int (nI fa), .int (nI mm), .int (bI im), .ref mR, .ref mZ, .ref mS, .ref mH, .int (bI ird), .int (bI itn), .int (nI lsz), .ref mL, .ref mN, .ref mX, .ref mY, .int (nI tu)]))] := ga_perm w [0] (by decide) rfl
  refine W.eq (g2 := F0 m_ 13 ls [.int (bI (lsB x.toInt64 (lN 0) (((nI k) - (nI 1)).toInt64)))]) rfl ?_
  refine r_topi (y := bI (inB x k)) (congrArg bI (lsB_in (by omega))) ?_
  exact ga_zret cx hr hlk w (bI_nar _) dX7_isStep_13 ⟨Nat.le_refl _, Nat.le_refl _⟩ (⟨rfl, rfl⟩)

set_option maxHeartbeats 4000000 in
set_option maxRecDepth 100000 in
theorem c_X7_sizeOf (l : Launch) (G : ga_G) (st : Nat) (h1 : st < 65536) : ga_M l G yX7_sizeOf cX7_sizeOf 3 (Option.some Jvm.ClassFile.FieldType.int) 0 0 0 0 [.int (nI st)] [] (fun r w => r = some (.int (nI (pop st))) ∧ w = []) := by
  refine ga_M.intro (by decide) (Nat.le_of_ble_eq_true rfl) (fun p_ e_ s_ m_ below meth c_ A_ H_ locs_ ls cx hr hlk hnm hA hK hl w => ?_)
  have hx := cx.1
  have hb := cx.2.1
  have hl : lv_has ls 3 [(0, .int (nI st))] := hl
  refine lv_iconst (v := nI 0) hx hb dX7_sizeOf_0 (by decide) ?_
  refine lv_istore_n (lv' := [(1, .int (nI 0)), (0, .int (nI st))]) hx hb dX7_sizeOf_1 rfl hl (by decide) rfl (fun ls hl => ?_)
  refine lv_iload_n hx hb dX7_sizeOf_2 rfl (lv_at hl 1 rfl) ?_
  refine lv_istore_n (lv' := [(2, .int (nI st)), (1, .int (nI 0)), (0, .int (nI st))]) hx hb dX7_sizeOf_3 rfl hl (by decide) rfl (fun ls hl => ?_)
  have loop4 : ∀ (n_ : Nat) (v : Nat) (t : Nat) (hv : v < 65536) (ht : t + pop v = pop st) (hm : pop v < n_) (H_ : Heap) (locs_ : List Loc) (ls : Array Slot) (hl : lv_has ls 3 [(2, .int (nI v)), (1, .int (nI t)), (0, .int (nI st))]) (w : ga_wd G A_ s_ H_ locs_ []), W p_ l e_ { frames := 0, cells := 0, slots := 0, locals := 0 } s_ m_ [.int (nI st)].toArray below meth c_ H_ locs_ (0) (0) (MQ below (ga_Q G A_ (fun r w => r = some (.int (nI (pop st))) ∧ w = [])) [.int (nI st)].toArray s_ 0 0 A_) (F0 m_ 4 ls []) := by
    intro n_
    induction n_ with
    | zero => intro v t hv ht hm; exact absurd hm (Nat.not_lt_zero _)
    | succ n_ ih4 =>
      intro v t hv ht hm4 H_ locs_ ls hl w
      refine lv_iload_n hx hb dX7_sizeOf_4 rfl (lv_at hl 0 rfl) ?_
      refine r_if_eq hx hb dX7_sizeOf_5 (tgt := 20) (by decide) (by omega) (fun c5 => ?_) (fun c5 => ?_)
      · refine lv_iload_n hx hb dX7_sizeOf_20 rfl (lv_at hl 1 rfl) ?_
        exact ga_iret cx hr hlk w dX7_sizeOf_21 ⟨Nat.le_refl _, Nat.le_refl _⟩ (⟨ga_rv (congrArg nI (by rw [c5, pop_0] at ht; omega)), rfl⟩)
      · have hpv := pop_clr hv c5
        refine r_iinc (d := 1) (k := 1) (lv' := [(1, .int (nI (t + 1))), (2, .int (nI v)), (0, .int (nI st))]) hx hb dX7_sizeOf_8 hl rfl (by decide) (by decide) rfl (fun ls hl => ?_)
        refine lv_iload_n hx hb dX7_sizeOf_11 rfl (lv_at hl 1 rfl) ?_
        refine lv_iload_n hx hb dX7_sizeOf_12 rfl (lv_at hl 1 rfl) ?_
        refine lv_iconst (v := nI 1) hx hb dX7_sizeOf_13 (by decide) ?_
        refine r_isub hx hb dX7_sizeOf_14 (by omega) ?_
        refine r_iand hx hb dX7_sizeOf_15 ?_
        refine lv_istore_n (lv' := [(2, .int (nI (v &&& (v - 1)))), (1, .int (nI (t + 1))), (0, .int (nI st))]) hx hb dX7_sizeOf_16 rfl hl (by decide) rfl (fun ls hl => ?_)
        refine lv_goto (tgt := 4) hx hb dX7_sizeOf_17 (by decide) ?_
        exact ih4 (v &&& (v - 1)) (t + 1) (andL_lt hv) (by omega) (by omega) _ _ _ (lv_sub hl [0, 1, 2] rfl) w
  exact loop4 _ st 0 (h1) (by omega) (Nat.lt_succ_self _) _ _ _ (lv_sub hl [0, 1, 2] rfl) w

set_option maxHeartbeats 4000000 in
set_option maxRecDepth 100000 in
theorem c_X7_flow_t (l : Launch) (G : ga_G) (aM : Nat) (mT : Nat) (mF : Nat) (mO : Nat) (mC : Nat) (mR : Nat) (mZ : Nat) (mS : Nat) (mH : Nat) (mL : Nat) (mN : Nat) (mX : Nat) (mY : Nat) (tl : Nat) (n : Nat) (k : Nat) (li : Nat) (fa : Nat) (mm : Nat) (im : Bool) (ird : Bool) (itn : Bool) (lsz : Nat) (tu : Nat) (j : Nat) (hj : 2 ≤ j ∧ j ≤ 12) : ga_M l G yX7_flow cX7_flow 2 (Option.some Jvm.ClassFile.FieldType.boolean) 1 25 0 0 [.ref aM, .int (nI j)] [(aM, .inr (7, [.ref mT, .int (nI tl), .int (nI n), .int (nI k), .ref mF, .ref mO, .ref mC, .int (nI li), .int (nI fa), .int (nI mm), .int (bI im), .ref mR, .ref mZ, .ref mS, .ref mH, .int (bI ird), .int (bI itn), .int (nI lsz), .ref mL, .ref mN, .ref mX, .ref mY, .int (nI tu)]))] (fun r w => r = some (.int (nI 1)) ∧ w = [(aM, .inr (7, [.ref mT, .int (nI tl), .int (nI j), .int (nI 0), .ref mF, .ref mO, .ref mC, .int (nI 0), .int (nI 0), .int (nI mm), .int (bI im), .ref mR, .ref mZ, .ref mS, .ref mH, .int (bI false), .int (bI itn), .int (nI lsz), .ref mL, .ref mN, .ref mX, .ref mY, .int (nI tu)]))]) := by
  refine ga_M.intro (by decide) (Nat.le_of_ble_eq_true rfl) (fun p_ e_ s_ m_ below meth c_ A_ H_ locs_ ls cx hr hlk hnm hA hK hl w => ?_)
  have hx := cx.1
  have hb := cx.2.1
  have hl : lv_has ls 2 [(0, .ref aM), (1, .int (nI j))] := hl
  refine lv_iload_n hx hb dX7_flow_0 rfl (lv_at hl 1 rfl) ?_
  refine r_i2l hx hb dX7_flow_1 (by omega) ?_
  refine lv_ldc2 hx hb cx.2.2.2.1 (cx.2.2.2.2 _ tm_577) dX7_flow_2 ?_
  refine r_topl (y := lN 2) rfl ?_
  refine lv_ldc2 hx hb cx.2.2.2.1 (cx.2.2.2.2 _ tm_578) dX7_flow_5 ?_
  refine r_topl (y := lN 12) rfl ?_
  refine ga_callS (rest := []) (wr := [(aM, .inr (7, [.ref mT, .int (nI tl), .int (nI n), .int (nI k), .ref mF, .ref mO, .ref mC, .int (nI li), .int (nI fa), .int (nI mm), .int (bI im), .ref mR, .ref mZ, .ref mS, .ref mH, .int (bI ird), .int (bI itn), .int (nI lsz), .ref mL, .ref mN, .ref mX, .ref mY, .int (nI tu)]))]) cx hK hA w hl lk_X7_55 (c_X7_lies l G (lN j) (lN 2) (lN 12) ) ⟨Nat.le_of_ble_eq_true rfl, Nat.le_of_ble_eq_true rfl⟩ [] [0] rfl rfl (by decide) (by decide) (by decide) rfl (Nat.le_of_ble_eq_true rfl) dX7_flow_8 ⟨Nat.le_refl _, Nat.le_refl _⟩ rfl (fun r w1_ H_ locs_ hp w => ?_)
  obtain ⟨rfl, rfl⟩ := hp
  have w : ga_wd G A_ s_ H_ locs_ [(aM, .inr (7, [.ref mT, .int (nI tl), .int (nI n), .int (nI k), .ref mF, .ref mO, .ref mC, .int (nI li), .int (nI fa), .int (nI mm), .int (bI im), .ref mR, .ref mZ, .ref mS, .ref mH, .int (bI ird), .int (bI itn), .int (nI lsz), .ref mL, .ref mN, .ref mX, .ref mY, .int (nI tu)]))] := ga_perm w [0] (by decide) rfl
  refine W.eq (g2 := F0 m_ 11 ls [.int (bI (lsB (lN j) (lN 2) (lN 12)))]) rfl ?_
  refine r_ifb_ne hx hb dX7_flow_11 (tgt := 16) (by decide) (fun c11 => ?_) (fun c11 => ?_)
  · refine lv_aload_n hx hb dX7_flow_16 rfl (lv_at hl 0 rfl) ?_
    refine lv_iload_n hx hb dX7_flow_17 rfl (lv_at hl 1 rfl) ?_
    refine pf_X7_13 cx hK w 0 rfl rfl rfl (Nat.le_of_ble_eq_true rfl) dX7_flow_18 (fun H_ locs_ w => ?_)
    have w : ga_wd G A_ s_ H_ locs_ [(aM, .inr (7, [.ref mT, .int (nI tl), .int (nI j), .int (nI k), .ref mF, .ref mO, .ref mC, .int (nI li), .int (nI fa), .int (nI mm), .int (bI im), .ref mR, .ref mZ, .ref mS, .ref mH, .int (bI ird), .int (bI itn), .int (nI lsz), .ref mL, .ref mN, .ref mX, .ref mY, .int (nI tu)]))] := w
    refine lv_aload_n hx hb dX7_flow_21 rfl (lv_at hl 0 rfl) ?_
    refine lv_iconst (v := nI 0) hx hb dX7_flow_22 (by decide) ?_
    refine pf_X7_52 cx hK w 0 rfl rfl rfl (Nat.le_of_ble_eq_true rfl) dX7_flow_23 (fun H_ locs_ w => ?_)
    have w : ga_wd G A_ s_ H_ locs_ [(aM, .inr (7, [.ref mT, .int (nI tl), .int (nI j), .int (nI 0), .ref mF, .ref mO, .ref mC, .int (nI li), .int (nI fa), .int (nI mm), .int (bI im), .ref mR, .ref mZ, .ref mS, .ref mH, .int (bI ird), .int (bI itn), .int (nI lsz), .ref mL, .ref mN, .ref mX, .ref mY, .int (nI tu)]))] := w
    refine lv_aload_n hx hb dX7_flow_26 rfl (lv_at hl 0 rfl) ?_
    refine lv_iconst (v := nI 0) hx hb dX7_flow_27 (by decide) ?_
    refine pf_X7_63 cx hK w 0 rfl rfl rfl (Nat.le_of_ble_eq_true rfl) dX7_flow_28 (fun H_ locs_ w => ?_)
    have w : ga_wd G A_ s_ H_ locs_ [(aM, .inr (7, [.ref mT, .int (nI tl), .int (nI j), .int (nI 0), .ref mF, .ref mO, .ref mC, .int (nI 0), .int (nI fa), .int (nI mm), .int (bI im), .ref mR, .ref mZ, .ref mS, .ref mH, .int (bI ird), .int (bI itn), .int (nI lsz), .ref mL, .ref mN, .ref mX, .ref mY, .int (nI tu)]))] := w
    refine lv_aload_n hx hb dX7_flow_31 rfl (lv_at hl 0 rfl) ?_
    refine lv_iconst (v := nI 0) hx hb dX7_flow_32 (by decide) ?_
    refine pf_X7_66 cx hK w 0 rfl rfl rfl (Nat.le_of_ble_eq_true rfl) dX7_flow_33 (fun H_ locs_ w => ?_)
    have w : ga_wd G A_ s_ H_ locs_ [(aM, .inr (7, [.ref mT, .int (nI tl), .int (nI j), .int (nI 0), .ref mF, .ref mO, .ref mC, .int (nI 0), .int (nI 0), .int (nI mm), .int (bI im), .ref mR, .ref mZ, .ref mS, .ref mH, .int (bI ird), .int (bI itn), .int (nI lsz), .ref mL, .ref mN, .ref mX, .ref mY, .int (nI tu)]))] := w
    refine lv_aload_n hx hb dX7_flow_36 rfl (lv_at hl 0 rfl) ?_
    refine lv_iconst (v := nI 0) hx hb dX7_flow_37 (by decide) ?_
    refine pf_X7_69 cx hK w 0 rfl rfl rfl (Nat.le_of_ble_eq_true rfl) dX7_flow_38 (fun H_ locs_ w => ?_)
    have w : ga_wd G A_ s_ H_ locs_ [(aM, .inr (7, [.ref mT, .int (nI tl), .int (nI j), .int (nI 0), .ref mF, .ref mO, .ref mC, .int (nI 0), .int (nI 0), .int (nI mm), .int (bI im), .ref mR, .ref mZ, .ref mS, .ref mH, .int (nI 0), .int (bI itn), .int (nI lsz), .ref mL, .ref mN, .ref mX, .ref mY, .int (nI tu)]))] := w
    refine lv_iconst (v := nI 1) hx hb dX7_flow_41 (by decide) ?_
    exact ga_zret cx hr hlk w rfl dX7_flow_42 ⟨Nat.le_refl _, Nat.le_refl _⟩ (⟨rfl, rfl⟩)
  · rw [show (lN j : Int64) = (nI j).toInt64 from (nI_l (by omega)).symm, lsB_N _ (by decide) (by decide), nI_toInt (by omega)] at c11; have := of_decide_eq_false c11; omega

set_option maxHeartbeats 4000000 in
set_option maxRecDepth 100000 in
theorem c_X7_flow_f (l : Launch) (G : ga_G) (aM : Nat) (v : Int32) (hj : ¬ (2 ≤ v.toInt ∧ v.toInt ≤ 12)) : ga_M l G yX7_flow cX7_flow 2 (Option.some Jvm.ClassFile.FieldType.boolean) 1 25 0 0 [.ref aM, .int v] [] (fun r w => r = some (.int (nI 0)) ∧ w = []) := by
  refine ga_M.intro (by decide) (Nat.le_of_ble_eq_true rfl) (fun p_ e_ s_ m_ below meth c_ A_ H_ locs_ ls cx hr hlk hnm hA hK hl w => ?_)
  have hx := cx.1
  have hb := cx.2.1
  have hl : lv_has ls 2 [(0, .ref aM), (1, .int v)] := hl
  refine lv_iload_n hx hb dX7_flow_0 rfl (lv_at hl 1 rfl) ?_
  refine lv_i2l hx hb dX7_flow_1 rfl ?_
  refine lv_ldc2 hx hb cx.2.2.2.1 (cx.2.2.2.2 _ tm_577) dX7_flow_2 ?_
  refine r_topl (y := lN 2) rfl ?_
  refine lv_ldc2 hx hb cx.2.2.2.1 (cx.2.2.2.2 _ tm_578) dX7_flow_5 ?_
  refine r_topl (y := lN 12) rfl ?_
  refine ga_callS (rest := []) (wr := []) cx hK hA w hl lk_X7_55 (c_X7_lies l G v.toInt64 (lN 2) (lN 12) ) ⟨Nat.le_of_ble_eq_true rfl, Nat.le_of_ble_eq_true rfl⟩ [] [] rfl rfl (by decide) (by decide) (by decide) rfl (Nat.le_of_ble_eq_true rfl) dX7_flow_8 ⟨Nat.le_refl _, Nat.le_refl _⟩ rfl (fun r w1_ H_ locs_ hp w => ?_)
  obtain ⟨rfl, rfl⟩ := hp
  have w : ga_wd G A_ s_ H_ locs_ [] := ga_perm w [] (by decide) rfl
  refine W.eq (g2 := F0 m_ 11 ls [.int (bI (lsB v.toInt64 (lN 2) (lN 12)))]) rfl ?_
  refine r_ifb_ne hx hb dX7_flow_11 (tgt := 16) (by decide) (fun c11 => ?_) (fun c11 => ?_)
  · rw [lsB_N _ (by decide) (by decide)] at c11; exact absurd (of_decide_eq_true c11) hj
  · refine lv_iconst (v := nI 0) hx hb dX7_flow_14 (by decide) ?_
    exact ga_zret cx hr hlk w rfl dX7_flow_15 ⟨Nat.le_refl _, Nat.le_refl _⟩ (⟨rfl, rfl⟩)

set_option maxHeartbeats 4000000 in
set_option maxRecDepth 100000 in
theorem c_X7_step_t (l : Launch) (G : ga_G) (aM : Nat) (mT : Nat) (mF : Nat) (mO : Nat) (mC : Nat) (mR : Nat) (mZ : Nat) (mS : Nat) (mH : Nat) (mL : Nat) (mN : Nat) (mX : Nat) (mY : Nat) (tl : Nat) (n : Nat) (k : Nat) (li : Nat) (fa : Nat) (mm : Nat) (im : Bool) (ird : Bool) (itn : Bool) (lsz : Nat) (tu : Nat) (fr : Nat → Nat) (to : Nat → Nat) (ct : Nat → Nat) (va : Nat) (vb : Nat) (vc : Nat) (hn : n ≤ 12) (hk : k < 16) (hab : va < vb) (hbn : vb < n) (hvc : vc ≤ 1000000) : ga_M l G yX7_step cX7_step 4 (Option.some Jvm.ClassFile.FieldType.int) 1 25 0 0 [.ref aM, .int (nI va), .int (nI vb), .int (nI vc)] [(aM, .inr (7, [.ref mT, .int (nI tl), .int (nI n), .int (nI k), .ref mF, .ref mO, .ref mC, .int (nI li), .int (nI fa), .int (nI mm), .int (bI im), .ref mR, .ref mZ, .ref mS, .ref mH, .int (bI ird), .int (bI itn), .int (nI lsz), .ref mL, .ref mN, .ref mX, .ref mY, .int (nI tu)])), (mF, .inl (G.2.2, 16, .inl (aN fr))), (mO, .inl (G.2.2, 16, .inl (aN to))), (mC, .inl (G.2.2, 16, .inl (aN ct)))] (fun r w => r = some (.int (nI k)) ∧ w = [(aM, .inr (7, [.ref mT, .int (nI tl), .int (nI n), .int (nI (k + 1)), .ref mF, .ref mO, .ref mC, .int (nI li), .int (nI fa), .int (nI mm), .int (bI im), .ref mR, .ref mZ, .ref mS, .ref mH, .int (bI ird), .int (bI itn), .int (nI lsz), .ref mL, .ref mN, .ref mX, .ref mY, .int (nI tu)])), (mF, .inl (G.2.2, 16, .inl (aN (uN fr k va)))), (mO, .inl (G.2.2, 16, .inl (aN (uN to k vb)))), (mC, .inl (G.2.2, 16, .inl (aN (uN ct k vc))))]) := by
  refine ga_M.intro (by decide) (Nat.le_of_ble_eq_true rfl) (fun p_ e_ s_ m_ below meth c_ A_ H_ locs_ ls cx hr hlk hnm hA hK hl w => ?_)
  have hx := cx.1
  have hb := cx.2.1
  have hl : lv_has ls 4 [(0, .ref aM), (1, .int (nI va)), (2, .int (nI vb)), (3, .int (nI vc))] := hl
  refine lv_aload_n hx hb dX7_step_0 rfl (lv_at hl 0 rfl) ?_
  refine gf_X7_52 cx hK w 0 rfl rfl dX7_step_1 ?_
  refine lv_bipush (v := nI 16) hx hb dX7_step_4 (by decide) ?_
  refine r_icmp_eq hx hb dX7_step_6 (tgt := 56) (by decide) (by omega) (by omega) (fun c6 => ?_) (fun c6 => ?_)
  · omega
  · refine lv_iload_n hx hb dX7_step_9 rfl (lv_at hl 1 rfl) ?_
    refine r_i2l hx hb dX7_step_10 (by omega) ?_
    refine lv_lconst (v := lN 0) hx hb dX7_step_11 (by decide) ?_
    refine lv_aload_n hx hb dX7_step_12 rfl (lv_at hl 0 rfl) ?_
    refine gf_X7_13 cx hK w 0 rfl rfl dX7_step_13 ?_
    refine lv_iconst (v := nI 1) hx hb dX7_step_16 (by decide) ?_
    refine lv_isub hx hb dX7_step_17 ?_
    refine lv_i2l hx hb dX7_step_18 rfl ?_
    refine ga_callS (rest := []) (wr := [(aM, .inr (7, [.ref mT, .int (nI tl), .int (nI n), .int (nI k), .ref mF, .ref mO, .ref mC, .int (nI li), .int (nI fa), .int (nI mm), .int (bI im), .ref mR, .ref mZ, .ref mS, .ref mH, .int (bI ird), .int (bI itn), .int (nI lsz), .ref mL, .ref mN, .ref mX, .ref mY, .int (nI tu)])), (mF, .inl (G.2.2, 16, .inl (aN fr))), (mO, .inl (G.2.2, 16, .inl (aN to))), (mC, .inl (G.2.2, 16, .inl (aN ct)))]) cx hK hA w hl lk_X7_55 (c_X7_lies l G (lN va) (lN 0) (((nI n) - (nI 1)).toInt64) ) ⟨Nat.le_of_ble_eq_true rfl, Nat.le_of_ble_eq_true rfl⟩ [] [0, 1, 2, 3] rfl rfl (by decide) (by decide) (by decide) rfl (Nat.le_of_ble_eq_true rfl) dX7_step_19 ⟨Nat.le_refl _, Nat.le_refl _⟩ rfl (fun r w1_ H_ locs_ hp w => ?_)
    obtain ⟨rfl, rfl⟩ := hp
    have w : ga_wd G A_ s_ H_ locs_ [(aM, .inr (7, [.ref mT, .int (nI tl), .int (nI n), .int (nI k), .ref mF, .ref mO, .ref mC, .int (nI li), .int (nI fa), .int (nI mm), .int (bI im), .ref mR, .ref mZ, .ref mS, .ref mH, .int (bI ird), .int (bI itn), .int (nI lsz), .ref mL, .ref mN, .ref mX, .ref mY, .int (nI tu)])), (mF, .inl (G.2.2, 16, .inl (aN fr))), (mO, .inl (G.2.2, 16, .inl (aN to))), (mC, .inl (G.2.2, 16, .inl (aN ct)))] := ga_perm w [0, 1, 2, 3] (by decide) rfl
    refine W.eq (g2 := F0 m_ 22 ls [.int (bI (lsB (lN va) (lN 0) (((nI n) - (nI 1)).toInt64)))]) rfl ?_
    refine r_ifb_eq hx hb dX7_step_22 (tgt := 56) (by decide) (fun c22 => ?_) (fun c22 => ?_)
    · rw [show (lN va : Int64) = (nI va).toInt64 from (nI_l (by omega)).symm, lsB_in (by omega), inB_y (by omega) (by omega)] at c22; cases c22
    · refine lv_iload_n hx hb dX7_step_25 rfl (lv_at hl 2 rfl) ?_
      refine r_i2l hx hb dX7_step_26 (by omega) ?_
      refine lv_iload_n hx hb dX7_step_27 rfl (lv_at hl 1 rfl) ?_
      refine lv_iconst (v := nI 1) hx hb dX7_step_28 (by decide) ?_
      refine r_iadd hx hb dX7_step_29 ?_
      refine r_i2l hx hb dX7_step_30 (by omega) ?_
      refine lv_aload_n hx hb dX7_step_31 rfl (lv_at hl 0 rfl) ?_
      refine gf_X7_13 cx hK w 0 rfl rfl dX7_step_32 ?_
      refine lv_iconst (v := nI 1) hx hb dX7_step_35 (by decide) ?_
      refine lv_isub hx hb dX7_step_36 ?_
      refine lv_i2l hx hb dX7_step_37 rfl ?_
      refine ga_callS (rest := []) (wr := [(aM, .inr (7, [.ref mT, .int (nI tl), .int (nI n), .int (nI k), .ref mF, .ref mO, .ref mC, .int (nI li), .int (nI fa), .int (nI mm), .int (bI im), .ref mR, .ref mZ, .ref mS, .ref mH, .int (bI ird), .int (bI itn), .int (nI lsz), .ref mL, .ref mN, .ref mX, .ref mY, .int (nI tu)])), (mF, .inl (G.2.2, 16, .inl (aN fr))), (mO, .inl (G.2.2, 16, .inl (aN to))), (mC, .inl (G.2.2, 16, .inl (aN ct)))]) cx hK hA w hl lk_X7_55 (c_X7_lies l G (lN vb) (lN (va + 1)) (((nI n) - (nI 1)).toInt64) ) ⟨Nat.le_of_ble_eq_true rfl, Nat.le_of_ble_eq_true rfl⟩ [] [0, 1, 2, 3] rfl rfl (by decide) (by decide) (by decide) rfl (Nat.le_of_ble_eq_true rfl) dX7_step_38 ⟨Nat.le_refl _, Nat.le_refl _⟩ rfl (fun r w1_ H_ locs_ hp w => ?_)
      obtain ⟨rfl, rfl⟩ := hp
      have w : ga_wd G A_ s_ H_ locs_ [(aM, .inr (7, [.ref mT, .int (nI tl), .int (nI n), .int (nI k), .ref mF, .ref mO, .ref mC, .int (nI li), .int (nI fa), .int (nI mm), .int (bI im), .ref mR, .ref mZ, .ref mS, .ref mH, .int (bI ird), .int (bI itn), .int (nI lsz), .ref mL, .ref mN, .ref mX, .ref mY, .int (nI tu)])), (mF, .inl (G.2.2, 16, .inl (aN fr))), (mO, .inl (G.2.2, 16, .inl (aN to))), (mC, .inl (G.2.2, 16, .inl (aN ct)))] := ga_perm w [0, 1, 2, 3] (by decide) rfl
      refine W.eq (g2 := F0 m_ 41 ls [.int (bI (lsB (lN vb) (lN (va + 1)) (((nI n) - (nI 1)).toInt64)))]) rfl ?_
      refine r_ifb_eq hx hb dX7_step_41 (tgt := 56) (by decide) (fun c41 => ?_) (fun c41 => ?_)
      · rw [show (lN vb : Int64) = (nI vb).toInt64 from (nI_l (by omega)).symm, lsB_ab (by omega) (by omega) (by omega), inB_y (by omega) (by omega), nI_toInt (by omega)] at c41; have := of_decide_eq_false (by simpa using c41 : decide ((va : Int) < vb) = false); omega
      · refine lv_iload_n hx hb dX7_step_44 rfl (lv_at hl 3 rfl) ?_
        refine r_i2l hx hb dX7_step_45 (by omega) ?_
        refine lv_lconst (v := lN 0) hx hb dX7_step_46 (by decide) ?_
        refine lv_ldc2 hx hb cx.2.2.2.1 (cx.2.2.2.2 _ tm_586) dX7_step_47 ?_
        refine r_topl (y := lN 1000000) rfl ?_
        refine ga_callS (rest := []) (wr := [(aM, .inr (7, [.ref mT, .int (nI tl), .int (nI n), .int (nI k), .ref mF, .ref mO, .ref mC, .int (nI li), .int (nI fa), .int (nI mm), .int (bI im), .ref mR, .ref mZ, .ref mS, .ref mH, .int (bI ird), .int (bI itn), .int (nI lsz), .ref mL, .ref mN, .ref mX, .ref mY, .int (nI tu)])), (mF, .inl (G.2.2, 16, .inl (aN fr))), (mO, .inl (G.2.2, 16, .inl (aN to))), (mC, .inl (G.2.2, 16, .inl (aN ct)))]) cx hK hA w hl lk_X7_55 (c_X7_lies l G (lN vc) (lN 0) (lN 1000000) ) ⟨Nat.le_of_ble_eq_true rfl, Nat.le_of_ble_eq_true rfl⟩ [] [0, 1, 2, 3] rfl rfl (by decide) (by decide) (by decide) rfl (Nat.le_of_ble_eq_true rfl) dX7_step_50 ⟨Nat.le_refl _, Nat.le_refl _⟩ rfl (fun r w1_ H_ locs_ hp w => ?_)
        obtain ⟨rfl, rfl⟩ := hp
        have w : ga_wd G A_ s_ H_ locs_ [(aM, .inr (7, [.ref mT, .int (nI tl), .int (nI n), .int (nI k), .ref mF, .ref mO, .ref mC, .int (nI li), .int (nI fa), .int (nI mm), .int (bI im), .ref mR, .ref mZ, .ref mS, .ref mH, .int (bI ird), .int (bI itn), .int (nI lsz), .ref mL, .ref mN, .ref mX, .ref mY, .int (nI tu)])), (mF, .inl (G.2.2, 16, .inl (aN fr))), (mO, .inl (G.2.2, 16, .inl (aN to))), (mC, .inl (G.2.2, 16, .inl (aN ct)))] := ga_perm w [0, 1, 2, 3] (by decide) rfl
        refine W.eq (g2 := F0 m_ 53 ls [.int (bI (lsB (lN vc) (lN 0) (lN 1000000)))]) rfl ?_
        refine r_ifb_ne hx hb dX7_step_53 (tgt := 58) (by decide) (fun c53 => ?_) (fun c53 => ?_)
        · refine lv_aload_n hx hb dX7_step_58 rfl (lv_at hl 0 rfl) ?_
          refine gf_X7_17 cx hK w 0 rfl rfl dX7_step_59 ?_
          refine lv_aload_n hx hb dX7_step_62 rfl (lv_at hl 0 rfl) ?_
          refine gf_X7_52 cx hK w 0 rfl rfl dX7_step_63 ?_
          refine lv_iload_n hx hb dX7_step_66 rfl (lv_at hl 1 rfl) ?_
          refine r_iastN hx hb hK w 1 rfl dX7_step_67 (by omega) (by decide) (fun H_ locs_ w => ?_)
          have w : ga_wd G A_ s_ H_ locs_ [(aM, .inr (7, [.ref mT, .int (nI tl), .int (nI n), .int (nI k), .ref mF, .ref mO, .ref mC, .int (nI li), .int (nI fa), .int (nI mm), .int (bI im), .ref mR, .ref mZ, .ref mS, .ref mH, .int (bI ird), .int (bI itn), .int (nI lsz), .ref mL, .ref mN, .ref mX, .ref mY, .int (nI tu)])), (mF, .inl (G.2.2, 16, .inl (aN (uN fr k va)))), (mO, .inl (G.2.2, 16, .inl (aN to))), (mC, .inl (G.2.2, 16, .inl (aN ct)))] := w
          refine lv_aload_n hx hb dX7_step_68 rfl (lv_at hl 0 rfl) ?_
          refine gf_X7_21 cx hK w 0 rfl rfl dX7_step_69 ?_
          refine lv_aload_n hx hb dX7_step_72 rfl (lv_at hl 0 rfl) ?_
          refine gf_X7_52 cx hK w 0 rfl rfl dX7_step_73 ?_
          refine lv_iload_n hx hb dX7_step_76 rfl (lv_at hl 2 rfl) ?_
          refine r_iastN hx hb hK w 2 rfl dX7_step_77 (by omega) (by decide) (fun H_ locs_ w => ?_)
          have w : ga_wd G A_ s_ H_ locs_ [(aM, .inr (7, [.ref mT, .int (nI tl), .int (nI n), .int (nI k), .ref mF, .ref mO, .ref mC, .int (nI li), .int (nI fa), .int (nI mm), .int (bI im), .ref mR, .ref mZ, .ref mS, .ref mH, .int (bI ird), .int (bI itn), .int (nI lsz), .ref mL, .ref mN, .ref mX, .ref mY, .int (nI tu)])), (mF, .inl (G.2.2, 16, .inl (aN (uN fr k va)))), (mO, .inl (G.2.2, 16, .inl (aN (uN to k vb)))), (mC, .inl (G.2.2, 16, .inl (aN ct)))] := w
          refine lv_aload_n hx hb dX7_step_78 rfl (lv_at hl 0 rfl) ?_
          refine gf_X7_24 cx hK w 0 rfl rfl dX7_step_79 ?_
          refine lv_aload_n hx hb dX7_step_82 rfl (lv_at hl 0 rfl) ?_
          refine gf_X7_52 cx hK w 0 rfl rfl dX7_step_83 ?_
          refine lv_iload_n hx hb dX7_step_86 rfl (lv_at hl 3 rfl) ?_
          refine r_iastN hx hb hK w 3 rfl dX7_step_87 (by omega) (by decide) (fun H_ locs_ w => ?_)
          have w : ga_wd G A_ s_ H_ locs_ [(aM, .inr (7, [.ref mT, .int (nI tl), .int (nI n), .int (nI k), .ref mF, .ref mO, .ref mC, .int (nI li), .int (nI fa), .int (nI mm), .int (bI im), .ref mR, .ref mZ, .ref mS, .ref mH, .int (bI ird), .int (bI itn), .int (nI lsz), .ref mL, .ref mN, .ref mX, .ref mY, .int (nI tu)])), (mF, .inl (G.2.2, 16, .inl (aN (uN fr k va)))), (mO, .inl (G.2.2, 16, .inl (aN (uN to k vb)))), (mC, .inl (G.2.2, 16, .inl (aN (uN ct k vc))))] := w
          refine lv_aload_n hx hb dX7_step_88 rfl (lv_at hl 0 rfl) ?_
          refine lv_dup hx hb dX7_step_89 rfl ?_
          refine gf_X7_52 cx hK w 0 rfl rfl dX7_step_90 ?_
          refine lv_iconst (v := nI 1) hx hb dX7_step_93 (by decide) ?_
          refine r_iadd hx hb dX7_step_94 ?_
          refine pf_X7_52 cx hK w 0 rfl rfl rfl (Nat.le_of_ble_eq_true rfl) dX7_step_95 (fun H_ locs_ w => ?_)
          have w : ga_wd G A_ s_ H_ locs_ [(aM, .inr (7, [.ref mT, .int (nI tl), .int (nI n), .int (nI (k + 1)), .ref mF, .ref mO, .ref mC, .int (nI li), .int (nI fa), .int (nI mm), .int (bI im), .ref mR, .ref mZ, .ref mS, .ref mH, .int (bI ird), .int (bI itn), .int (nI lsz), .ref mL, .ref mN, .ref mX, .ref mY, .int (nI tu)])), (mF, .inl (G.2.2, 16, .inl (aN (uN fr k va)))), (mO, .inl (G.2.2, 16, .inl (aN (uN to k vb)))), (mC, .inl (G.2.2, 16, .inl (aN (uN ct k vc))))] := w
          refine lv_aload_n hx hb dX7_step_98 rfl (lv_at hl 0 rfl) ?_
          refine gf_X7_52 cx hK w 0 rfl rfl dX7_step_99 ?_
          refine lv_iconst (v := nI 1) hx hb dX7_step_102 (by decide) ?_
          refine r_isub hx hb dX7_step_103 (by omega) ?_
          refine r_topi (y := nI k) (rfl) ?_
          exact ga_iret cx hr hlk w dX7_step_104 ⟨Nat.le_refl _, Nat.le_refl _⟩ (⟨rfl, rfl⟩)
        · rw [show (lN vc : Int64) = (nI vc).toInt64 from (nI_l (by omega)).symm, lsB_n _ (by decide), inB_y (by omega) (by decide)] at c53; cases c53

set_option maxHeartbeats 4000000 in
set_option maxRecDepth 100000 in
theorem c_X7_step_f (l : Launch) (G : ga_G) (aM : Nat) (mT : Nat) (mF : Nat) (mO : Nat) (mC : Nat) (mR : Nat) (mZ : Nat) (mS : Nat) (mH : Nat) (mL : Nat) (mN : Nat) (mX : Nat) (mY : Nat) (tl : Nat) (n : Nat) (k : Nat) (li : Nat) (fa : Nat) (mm : Nat) (im : Bool) (ird : Bool) (itn : Bool) (lsz : Nat) (tu : Nat) (va : Int32) (vb : Int32) (vc : Int32) (hn : n ≤ 12 ∧ 2 ≤ n) (hk : k ≤ 16) (hno : stepOK n k va vb vc = false) : ga_M l G yX7_step cX7_step 4 (Option.some Jvm.ClassFile.FieldType.int) 1 25 0 0 [.ref aM, .int va, .int vb, .int vc] [(aM, .inr (7, [.ref mT, .int (nI tl), .int (nI n), .int (nI k), .ref mF, .ref mO, .ref mC, .int (nI li), .int (nI fa), .int (nI mm), .int (bI im), .ref mR, .ref mZ, .ref mS, .ref mH, .int (bI ird), .int (bI itn), .int (nI lsz), .ref mL, .ref mN, .ref mX, .ref mY, .int (nI tu)]))] (fun r w => r = some (.int (-1)) ∧ w = [(aM, .inr (7, [.ref mT, .int (nI tl), .int (nI n), .int (nI k), .ref mF, .ref mO, .ref mC, .int (nI li), .int (nI fa), .int (nI mm), .int (bI im), .ref mR, .ref mZ, .ref mS, .ref mH, .int (bI ird), .int (bI itn), .int (nI lsz), .ref mL, .ref mN, .ref mX, .ref mY, .int (nI tu)]))]) := by
  refine ga_M.intro (by decide) (Nat.le_of_ble_eq_true rfl) (fun p_ e_ s_ m_ below meth c_ A_ H_ locs_ ls cx hr hlk hnm hA hK hl w => ?_)
  have hx := cx.1
  have hb := cx.2.1
  have hl : lv_has ls 4 [(0, .ref aM), (1, .int va), (2, .int vb), (3, .int vc)] := hl
  refine lv_aload_n hx hb dX7_step_0 rfl (lv_at hl 0 rfl) ?_
  refine gf_X7_52 cx hK w 0 rfl rfl dX7_step_1 ?_
  refine lv_bipush (v := nI 16) hx hb dX7_step_4 (by decide) ?_
  refine r_icmp_eq hx hb dX7_step_6 (tgt := 56) (by decide) (by omega) (by omega) (fun c6 => ?_) (fun c6 => ?_)
  · refine lv_iconst (v := (-1)) hx hb dX7_step_56 (by decide) ?_
    exact ga_iret cx hr hlk w dX7_step_57 ⟨Nat.le_refl _, Nat.le_refl _⟩ (⟨rfl, rfl⟩)
  · refine lv_iload_n hx hb dX7_step_9 rfl (lv_at hl 1 rfl) ?_
    refine lv_i2l hx hb dX7_step_10 rfl ?_
    refine lv_lconst (v := lN 0) hx hb dX7_step_11 (by decide) ?_
    refine lv_aload_n hx hb dX7_step_12 rfl (lv_at hl 0 rfl) ?_
    refine gf_X7_13 cx hK w 0 rfl rfl dX7_step_13 ?_
    refine lv_iconst (v := nI 1) hx hb dX7_step_16 (by decide) ?_
    refine lv_isub hx hb dX7_step_17 ?_
    refine lv_i2l hx hb dX7_step_18 rfl ?_
    refine ga_callS (rest := []) (wr := [(aM, .inr (7, [.ref mT, .int (nI tl), .int (nI n), .int (nI k), .ref mF, .ref mO, .ref mC, .int (nI li), .int (nI fa), .int (nI mm), .int (bI im), .ref mR, .ref mZ, .ref mS, .ref mH, .int (bI ird), .int (bI itn), .int (nI lsz), .ref mL, .ref mN, .ref mX, .ref mY, .int (nI tu)]))]) cx hK hA w hl lk_X7_55 (c_X7_lies l G va.toInt64 (lN 0) (((nI n) - (nI 1)).toInt64) ) ⟨Nat.le_of_ble_eq_true rfl, Nat.le_of_ble_eq_true rfl⟩ [] [0] rfl rfl (by decide) (by decide) (by decide) rfl (Nat.le_of_ble_eq_true rfl) dX7_step_19 ⟨Nat.le_refl _, Nat.le_refl _⟩ rfl (fun r w1_ H_ locs_ hp w => ?_)
    obtain ⟨rfl, rfl⟩ := hp
    have w : ga_wd G A_ s_ H_ locs_ [(aM, .inr (7, [.ref mT, .int (nI tl), .int (nI n), .int (nI k), .ref mF, .ref mO, .ref mC, .int (nI li), .int (nI fa), .int (nI mm), .int (bI im), .ref mR, .ref mZ, .ref mS, .ref mH, .int (bI ird), .int (bI itn), .int (nI lsz), .ref mL, .ref mN, .ref mX, .ref mY, .int (nI tu)]))] := ga_perm w [0] (by decide) rfl
    refine W.eq (g2 := F0 m_ 22 ls [.int (bI (lsB va.toInt64 (lN 0) (((nI n) - (nI 1)).toInt64)))]) rfl ?_
    refine r_ifb_eq hx hb dX7_step_22 (tgt := 56) (by decide) (fun c22 => ?_) (fun c22 => ?_)
    · refine lv_iconst (v := (-1)) hx hb dX7_step_56 (by decide) ?_
      exact ga_iret cx hr hlk w dX7_step_57 ⟨Nat.le_refl _, Nat.le_refl _⟩ (⟨rfl, rfl⟩)
    · rw [lsB_in (by omega)] at c22
      have h22 := c22
      obtain ⟨ja, hja, rfl⟩ := inB_of (by omega) c22
      refine lv_iload_n hx hb dX7_step_25 rfl (lv_at hl 2 rfl) ?_
      refine lv_i2l hx hb dX7_step_26 rfl ?_
      refine lv_iload_n hx hb dX7_step_27 rfl (lv_at hl 1 rfl) ?_
      refine lv_iconst (v := nI 1) hx hb dX7_step_28 (by decide) ?_
      refine r_iadd hx hb dX7_step_29 ?_
      refine r_i2l hx hb dX7_step_30 (by omega) ?_
      refine lv_aload_n hx hb dX7_step_31 rfl (lv_at hl 0 rfl) ?_
      refine gf_X7_13 cx hK w 0 rfl rfl dX7_step_32 ?_
      refine lv_iconst (v := nI 1) hx hb dX7_step_35 (by decide) ?_
      refine lv_isub hx hb dX7_step_36 ?_
      refine lv_i2l hx hb dX7_step_37 rfl ?_
      refine ga_callS (rest := []) (wr := [(aM, .inr (7, [.ref mT, .int (nI tl), .int (nI n), .int (nI k), .ref mF, .ref mO, .ref mC, .int (nI li), .int (nI fa), .int (nI mm), .int (bI im), .ref mR, .ref mZ, .ref mS, .ref mH, .int (bI ird), .int (bI itn), .int (nI lsz), .ref mL, .ref mN, .ref mX, .ref mY, .int (nI tu)]))]) cx hK hA w hl lk_X7_55 (c_X7_lies l G vb.toInt64 (lN (ja + 1)) (((nI n) - (nI 1)).toInt64) ) ⟨Nat.le_of_ble_eq_true rfl, Nat.le_of_ble_eq_true rfl⟩ [] [0] rfl rfl (by decide) (by decide) (by decide) rfl (Nat.le_of_ble_eq_true rfl) dX7_step_38 ⟨Nat.le_refl _, Nat.le_refl _⟩ rfl (fun r w1_ H_ locs_ hp w => ?_)
      obtain ⟨rfl, rfl⟩ := hp
      have w : ga_wd G A_ s_ H_ locs_ [(aM, .inr (7, [.ref mT, .int (nI tl), .int (nI n), .int (nI k), .ref mF, .ref mO, .ref mC, .int (nI li), .int (nI fa), .int (nI mm), .int (bI im), .ref mR, .ref mZ, .ref mS, .ref mH, .int (bI ird), .int (bI itn), .int (nI lsz), .ref mL, .ref mN, .ref mX, .ref mY, .int (nI tu)]))] := ga_perm w [0] (by decide) rfl
      refine W.eq (g2 := F0 m_ 41 ls [.int (bI (lsB vb.toInt64 (lN (ja + 1)) (((nI n) - (nI 1)).toInt64)))]) rfl ?_
      refine r_ifb_eq hx hb dX7_step_41 (tgt := 56) (by decide) (fun c41 => ?_) (fun c41 => ?_)
      · refine lv_iconst (v := (-1)) hx hb dX7_step_56 (by decide) ?_
        exact ga_iret cx hr hlk w dX7_step_57 ⟨Nat.le_refl _, Nat.le_refl _⟩ (⟨rfl, rfl⟩)
      · refine lv_iload_n hx hb dX7_step_44 rfl (lv_at hl 3 rfl) ?_
        refine lv_i2l hx hb dX7_step_45 rfl ?_
        refine lv_lconst (v := lN 0) hx hb dX7_step_46 (by decide) ?_
        refine lv_ldc2 hx hb cx.2.2.2.1 (cx.2.2.2.2 _ tm_586) dX7_step_47 ?_
        refine r_topl (y := lN 1000000) rfl ?_
        refine ga_callS (rest := []) (wr := [(aM, .inr (7, [.ref mT, .int (nI tl), .int (nI n), .int (nI k), .ref mF, .ref mO, .ref mC, .int (nI li), .int (nI fa), .int (nI mm), .int (bI im), .ref mR, .ref mZ, .ref mS, .ref mH, .int (bI ird), .int (bI itn), .int (nI lsz), .ref mL, .ref mN, .ref mX, .ref mY, .int (nI tu)]))]) cx hK hA w hl lk_X7_55 (c_X7_lies l G vc.toInt64 (lN 0) (lN 1000000) ) ⟨Nat.le_of_ble_eq_true rfl, Nat.le_of_ble_eq_true rfl⟩ [] [0] rfl rfl (by decide) (by decide) (by decide) rfl (Nat.le_of_ble_eq_true rfl) dX7_step_50 ⟨Nat.le_refl _, Nat.le_refl _⟩ rfl (fun r w1_ H_ locs_ hp w => ?_)
        obtain ⟨rfl, rfl⟩ := hp
        have w : ga_wd G A_ s_ H_ locs_ [(aM, .inr (7, [.ref mT, .int (nI tl), .int (nI n), .int (nI k), .ref mF, .ref mO, .ref mC, .int (nI li), .int (nI fa), .int (nI mm), .int (bI im), .ref mR, .ref mZ, .ref mS, .ref mH, .int (bI ird), .int (bI itn), .int (nI lsz), .ref mL, .ref mN, .ref mX, .ref mY, .int (nI tu)]))] := ga_perm w [0] (by decide) rfl
        refine W.eq (g2 := F0 m_ 53 ls [.int (bI (lsB vc.toInt64 (lN 0) (lN 1000000)))]) rfl ?_
        refine r_ifb_ne hx hb dX7_step_53 (tgt := 58) (by decide) (fun c53 => ?_) (fun c53 => ?_)
        · rw [lsB_ab (by omega) (by omega) (by omega), Bool.and_eq_true] at c41; rw [lsB_n _ (by decide)] at c53; unfold stepOK at hno; rw [h22, c41.1, c53, nI_toInt (by omega), c41.2, decide_eq_true (show k < 16 by omega)] at hno; cases hno
        · refine lv_iconst (v := (-1)) hx hb dX7_step_56 (by decide) ?_
          exact ga_iret cx hr hlk w dX7_step_57 ⟨Nat.le_refl _, Nat.le_refl _⟩ (⟨rfl, rfl⟩)

set_option maxHeartbeats 4000000 in
set_option maxRecDepth 100000 in
theorem c_X7_counted_t (l : Launch) (G : ga_G) (aM : Nat) (mT : Nat) (mF : Nat) (mO : Nat) (mC : Nat) (mR : Nat) (mZ : Nat) (mS : Nat) (mH : Nat) (mL : Nat) (mN : Nat) (mX : Nat) (mY : Nat) (tl : Nat) (n : Nat) (k : Nat) (li : Nat) (fa : Nat) (mm : Nat) (im : Bool) (ird : Bool) (itn : Bool) (lsz : Nat) (tu : Nat) (ct : Nat → Nat) (j : Nat) (v : Nat) (hk : k ≤ 16) (hj : j < k) (hv : v ≤ 1000000) : ga_M l G yX7_counted cX7_counted 3 (Option.some Jvm.ClassFile.FieldType.boolean) 2 46 0 0 [.ref aM, .int (nI j), .int (nI v)] [(aM, .inr (7, [.ref mT, .int (nI tl), .int (nI n), .int (nI k), .ref mF, .ref mO, .ref mC, .int (nI li), .int (nI fa), .int (nI mm), .int (bI im), .ref mR, .ref mZ, .ref mS, .ref mH, .int (bI ird), .int (bI itn), .int (nI lsz), .ref mL, .ref mN, .ref mX, .ref mY, .int (nI tu)])), (mC, .inl (G.2.2, 16, .inl (aN ct)))] (fun r w => r = some (.int (nI 1)) ∧ w = [(aM, .inr (7, [.ref mT, .int (nI tl), .int (nI n), .int (nI k), .ref mF, .ref mO, .ref mC, .int (nI li), .int (nI fa), .int (nI mm), .int (bI im), .ref mR, .ref mZ, .ref mS, .ref mH, .int (bI ird), .int (bI itn), .int (nI lsz), .ref mL, .ref mN, .ref mX, .ref mY, .int (nI tu)])), (mC, .inl (G.2.2, 16, .inl (aN (uN ct j v))))]) := by
  refine ga_M.intro (by decide) (Nat.le_of_ble_eq_true rfl) (fun p_ e_ s_ m_ below meth c_ A_ H_ locs_ ls cx hr hlk hnm hA hK hl w => ?_)
  have hx := cx.1
  have hb := cx.2.1
  have hl : lv_has ls 3 [(0, .ref aM), (1, .int (nI j)), (2, .int (nI v))] := hl
  refine lv_aload_n hx hb dX7_counted_0 rfl (lv_at hl 0 rfl) ?_
  refine lv_iload_n hx hb dX7_counted_1 rfl (lv_at hl 1 rfl) ?_
  refine ga_callV (rest := []) (wr := [(mC, .inl (G.2.2, 16, .inl (aN ct)))]) cx hK hA w hl lk_X7_75 (c_X7_isStep l G aM mT mF mO mC mR mZ mS mH mL mN mX mY tl n k li fa mm im ird itn lsz tu (nI j) (by omega)) ⟨Nat.le_of_ble_eq_true rfl, Nat.le_of_ble_eq_true rfl⟩ [0] [1] rfl rfl (by decide) (by decide) (by decide) 0 7 rfl rfl rfl rfl (Nat.le_of_ble_eq_true rfl) dX7_counted_2 ⟨Nat.le_refl _, Nat.le_refl _⟩ rfl (fun r w1_ H_ locs_ hp w => ?_)
  obtain ⟨rfl, rfl⟩ := hp
  have w : ga_wd G A_ s_ H_ locs_ [(aM, .inr (7, [.ref mT, .int (nI tl), .int (nI n), .int (nI k), .ref mF, .ref mO, .ref mC, .int (nI li), .int (nI fa), .int (nI mm), .int (bI im), .ref mR, .ref mZ, .ref mS, .ref mH, .int (bI ird), .int (bI itn), .int (nI lsz), .ref mL, .ref mN, .ref mX, .ref mY, .int (nI tu)])), (mC, .inl (G.2.2, 16, .inl (aN ct)))] := ga_perm w [1, 0] (by decide) rfl
  refine W.eq (g2 := F0 m_ 5 ls [.int (bI (inB (nI j) k))]) rfl ?_
  refine r_ifb_eq hx hb dX7_counted_5 (tgt := 20) (by decide) (fun c5 => ?_) (fun c5 => ?_)
  · rw [inB_y (by omega) (by omega)] at c5; cases c5
  · refine lv_iload_n hx hb dX7_counted_8 rfl (lv_at hl 2 rfl) ?_
    refine r_i2l hx hb dX7_counted_9 (by omega) ?_
    refine lv_lconst (v := lN 0) hx hb dX7_counted_10 (by decide) ?_
    refine lv_ldc2 hx hb cx.2.2.2.1 (cx.2.2.2.2 _ tm_586) dX7_counted_11 ?_
    refine r_topl (y := lN 1000000) rfl ?_
    refine ga_callS (rest := []) (wr := [(aM, .inr (7, [.ref mT, .int (nI tl), .int (nI n), .int (nI k), .ref mF, .ref mO, .ref mC, .int (nI li), .int (nI fa), .int (nI mm), .int (bI im), .ref mR, .ref mZ, .ref mS, .ref mH, .int (bI ird), .int (bI itn), .int (nI lsz), .ref mL, .ref mN, .ref mX, .ref mY, .int (nI tu)])), (mC, .inl (G.2.2, 16, .inl (aN ct)))]) cx hK hA w hl lk_X7_55 (c_X7_lies l G (lN v) (lN 0) (lN 1000000) ) ⟨Nat.le_of_ble_eq_true rfl, Nat.le_of_ble_eq_true rfl⟩ [] [0, 1] rfl rfl (by decide) (by decide) (by decide) rfl (Nat.le_of_ble_eq_true rfl) dX7_counted_14 ⟨Nat.le_refl _, Nat.le_refl _⟩ rfl (fun r w1_ H_ locs_ hp w => ?_)
    obtain ⟨rfl, rfl⟩ := hp
    have w : ga_wd G A_ s_ H_ locs_ [(aM, .inr (7, [.ref mT, .int (nI tl), .int (nI n), .int (nI k), .ref mF, .ref mO, .ref mC, .int (nI li), .int (nI fa), .int (nI mm), .int (bI im), .ref mR, .ref mZ, .ref mS, .ref mH, .int (bI ird), .int (bI itn), .int (nI lsz), .ref mL, .ref mN, .ref mX, .ref mY, .int (nI tu)])), (mC, .inl (G.2.2, 16, .inl (aN ct)))] := ga_perm w [0, 1] (by decide) rfl
    refine W.eq (g2 := F0 m_ 17 ls [.int (bI (lsB (lN v) (lN 0) (lN 1000000)))]) rfl ?_
    refine r_ifb_ne hx hb dX7_counted_17 (tgt := 22) (by decide) (fun c17 => ?_) (fun c17 => ?_)
    · refine lv_aload_n hx hb dX7_counted_22 rfl (lv_at hl 0 rfl) ?_
      refine gf_X7_24 cx hK w 0 rfl rfl dX7_counted_23 ?_
      refine lv_iload_n hx hb dX7_counted_26 rfl (lv_at hl 1 rfl) ?_
      refine lv_iload_n hx hb dX7_counted_27 rfl (lv_at hl 2 rfl) ?_
      refine r_iastN hx hb hK w 1 rfl dX7_counted_28 (by omega) (by decide) (fun H_ locs_ w => ?_)
      have w : ga_wd G A_ s_ H_ locs_ [(aM, .inr (7, [.ref mT, .int (nI tl), .int (nI n), .int (nI k), .ref mF, .ref mO, .ref mC, .int (nI li), .int (nI fa), .int (nI mm), .int (bI im), .ref mR, .ref mZ, .ref mS, .ref mH, .int (bI ird), .int (bI itn), .int (nI lsz), .ref mL, .ref mN, .ref mX, .ref mY, .int (nI tu)])), (mC, .inl (G.2.2, 16, .inl (aN (uN ct j v))))] := w
      refine lv_iconst (v := nI 1) hx hb dX7_counted_29 (by decide) ?_
      exact ga_zret cx hr hlk w rfl dX7_counted_30 ⟨Nat.le_refl _, Nat.le_refl _⟩ (⟨rfl, rfl⟩)
    · rw [show (lN v : Int64) = (nI v).toInt64 from (nI_l (by omega)).symm, lsB_n _ (by decide), inB_y (by omega) (by decide)] at c17; cases c17

set_option maxHeartbeats 4000000 in
set_option maxRecDepth 100000 in
theorem c_X7_counted_f (l : Launch) (G : ga_G) (aM : Nat) (mT : Nat) (mF : Nat) (mO : Nat) (mC : Nat) (mR : Nat) (mZ : Nat) (mS : Nat) (mH : Nat) (mL : Nat) (mN : Nat) (mX : Nat) (mY : Nat) (tl : Nat) (n : Nat) (k : Nat) (li : Nat) (fa : Nat) (mm : Nat) (im : Bool) (ird : Bool) (itn : Bool) (lsz : Nat) (tu : Nat) (x : Int32) (v : Int32) (hk : k ≤ 16) (hno : (inB x k && inB v 1000001) = false) : ga_M l G yX7_counted cX7_counted 3 (Option.some Jvm.ClassFile.FieldType.boolean) 2 46 0 0 [.ref aM, .int x, .int v] [(aM, .inr (7, [.ref mT, .int (nI tl), .int (nI n), .int (nI k), .ref mF, .ref mO, .ref mC, .int (nI li), .int (nI fa), .int (nI mm), .int (bI im), .ref mR, .ref mZ, .ref mS, .ref mH, .int (bI ird), .int (bI itn), .int (nI lsz), .ref mL, .ref mN, .ref mX, .ref mY, .int (nI tu)]))] (fun r w => r = some (.int (nI 0)) ∧ w = [(aM, .inr (7, [.ref mT, .int (nI tl), .int (nI n), .int (nI k), .ref mF, .ref mO, .ref mC, .int (nI li), .int (nI fa), .int (nI mm), .int (bI im), .ref mR, .ref mZ, .ref mS, .ref mH, .int (bI ird), .int (bI itn), .int (nI lsz), .ref mL, .ref mN, .ref mX, .ref mY, .int (nI tu)]))]) := by
  refine ga_M.intro (by decide) (Nat.le_of_ble_eq_true rfl) (fun p_ e_ s_ m_ below meth c_ A_ H_ locs_ ls cx hr hlk hnm hA hK hl w => ?_)
  have hx := cx.1
  have hb := cx.2.1
  have hl : lv_has ls 3 [(0, .ref aM), (1, .int x), (2, .int v)] := hl
  refine lv_aload_n hx hb dX7_counted_0 rfl (lv_at hl 0 rfl) ?_
  refine lv_iload_n hx hb dX7_counted_1 rfl (lv_at hl 1 rfl) ?_
  refine ga_callV (rest := []) (wr := []) cx hK hA w hl lk_X7_75 (c_X7_isStep l G aM mT mF mO mC mR mZ mS mH mL mN mX mY tl n k li fa mm im ird itn lsz tu x (by omega)) ⟨Nat.le_of_ble_eq_true rfl, Nat.le_of_ble_eq_true rfl⟩ [0] [] rfl rfl (by decide) (by decide) (by decide) 0 7 rfl rfl rfl rfl (Nat.le_of_ble_eq_true rfl) dX7_counted_2 ⟨Nat.le_refl _, Nat.le_refl _⟩ rfl (fun r w1_ H_ locs_ hp w => ?_)
  obtain ⟨rfl, rfl⟩ := hp
  have w : ga_wd G A_ s_ H_ locs_ [(aM, .inr (7, [.ref mT, .int (nI tl), .int (nI n), .int (nI k), .ref mF, .ref mO, .ref mC, .int (nI li), .int (nI fa), .int (nI mm), .int (bI im), .ref mR, .ref mZ, .ref mS, .ref mH, .int (bI ird), .int (bI itn), .int (nI lsz), .ref mL, .ref mN, .ref mX, .ref mY, .int (nI tu)]))] := ga_perm w [0] (by decide) rfl
  refine W.eq (g2 := F0 m_ 5 ls [.int (bI (inB x k))]) rfl ?_
  refine r_ifb_eq hx hb dX7_counted_5 (tgt := 20) (by decide) (fun c5 => ?_) (fun c5 => ?_)
  · refine lv_iconst (v := nI 0) hx hb dX7_counted_20 (by decide) ?_
    exact ga_zret cx hr hlk w rfl dX7_counted_21 ⟨Nat.le_refl _, Nat.le_refl _⟩ (⟨rfl, rfl⟩)
  · refine lv_iload_n hx hb dX7_counted_8 rfl (lv_at hl 2 rfl) ?_
    refine lv_i2l hx hb dX7_counted_9 rfl ?_
    refine lv_lconst (v := lN 0) hx hb dX7_counted_10 (by decide) ?_
    refine lv_ldc2 hx hb cx.2.2.2.1 (cx.2.2.2.2 _ tm_586) dX7_counted_11 ?_
    refine r_topl (y := lN 1000000) rfl ?_
    refine ga_callS (rest := []) (wr := [(aM, .inr (7, [.ref mT, .int (nI tl), .int (nI n), .int (nI k), .ref mF, .ref mO, .ref mC, .int (nI li), .int (nI fa), .int (nI mm), .int (bI im), .ref mR, .ref mZ, .ref mS, .ref mH, .int (bI ird), .int (bI itn), .int (nI lsz), .ref mL, .ref mN, .ref mX, .ref mY, .int (nI tu)]))]) cx hK hA w hl lk_X7_55 (c_X7_lies l G v.toInt64 (lN 0) (lN 1000000) ) ⟨Nat.le_of_ble_eq_true rfl, Nat.le_of_ble_eq_true rfl⟩ [] [0] rfl rfl (by decide) (by decide) (by decide) rfl (Nat.le_of_ble_eq_true rfl) dX7_counted_14 ⟨Nat.le_refl _, Nat.le_refl _⟩ rfl (fun r w1_ H_ locs_ hp w => ?_)
    obtain ⟨rfl, rfl⟩ := hp
    have w : ga_wd G A_ s_ H_ locs_ [(aM, .inr (7, [.ref mT, .int (nI tl), .int (nI n), .int (nI k), .ref mF, .ref mO, .ref mC, .int (nI li), .int (nI fa), .int (nI mm), .int (bI im), .ref mR, .ref mZ, .ref mS, .ref mH, .int (bI ird), .int (bI itn), .int (nI lsz), .ref mL, .ref mN, .ref mX, .ref mY, .int (nI tu)]))] := ga_perm w [0] (by decide) rfl
    refine W.eq (g2 := F0 m_ 17 ls [.int (bI (lsB v.toInt64 (lN 0) (lN 1000000)))]) rfl ?_
    refine r_ifb_ne hx hb dX7_counted_17 (tgt := 22) (by decide) (fun c17 => ?_) (fun c17 => ?_)
    · rw [lsB_n _ (by decide)] at c17; rw [c5, c17] at hno; cases hno
    · refine lv_iconst (v := nI 0) hx hb dX7_counted_20 (by decide) ?_
      exact ga_zret cx hr hlk w rfl dX7_counted_21 ⟨Nat.le_refl _, Nat.le_refl _⟩ (⟨rfl, rfl⟩)

set_option maxHeartbeats 4000000 in
set_option maxRecDepth 100000 in
theorem c_X7_line_t (l : Launch) (G : ga_G) (aM : Nat) (mT : Nat) (mF : Nat) (mO : Nat) (mC : Nat) (mR : Nat) (mZ : Nat) (mS : Nat) (mH : Nat) (mL : Nat) (mN : Nat) (mX : Nat) (mY : Nat) (tl : Nat) (n : Nat) (k : Nat) (li : Nat) (fa : Nat) (mm : Nat) (im : Bool) (ird : Bool) (itn : Bool) (lsz : Nat) (tu : Nat) (j : Nat) (is : Bool) (hk : k ≤ 16) (hj : j < k) (hli : li < 65536) (hne : ¬ Nat.testBit li j = is) : ga_M l G yX7_line cX7_line 3 (Option.some Jvm.ClassFile.FieldType.boolean) 2 46 0 0 [.ref aM, .int (nI j), .int (bI is)] [(aM, .inr (7, [.ref mT, .int (nI tl), .int (nI n), .int (nI k), .ref mF, .ref mO, .ref mC, .int (nI li), .int (nI fa), .int (nI mm), .int (bI im), .ref mR, .ref mZ, .ref mS, .ref mH, .int (bI ird), .int (bI itn), .int (nI lsz), .ref mL, .ref mN, .ref mX, .ref mY, .int (nI tu)]))] (fun r w => r = some (.int (nI 1)) ∧ w = [(aM, .inr (7, [.ref mT, .int (nI tl), .int (nI n), .int (nI k), .ref mF, .ref mO, .ref mC, .int (nI (li ^^^ (1 <<< j))), .int (nI fa), .int (nI mm), .int (bI im), .ref mR, .ref mZ, .ref mS, .ref mH, .int (bI ird), .int (bI itn), .int (nI lsz), .ref mL, .ref mN, .ref mX, .ref mY, .int (nI tu)]))]) := by
  refine ga_M.intro (by decide) (Nat.le_of_ble_eq_true rfl) (fun p_ e_ s_ m_ below meth c_ A_ H_ locs_ ls cx hr hlk hnm hA hK hl w => ?_)
  have hx := cx.1
  have hb := cx.2.1
  have hl : lv_has ls 3 [(0, .ref aM), (1, .int (nI j)), (2, .int (bI is))] := hl
  refine lv_aload_n hx hb dX7_line_0 rfl (lv_at hl 0 rfl) ?_
  refine lv_iload_n hx hb dX7_line_1 rfl (lv_at hl 1 rfl) ?_
  refine ga_callV (rest := []) (wr := []) cx hK hA w hl lk_X7_75 (c_X7_isStep l G aM mT mF mO mC mR mZ mS mH mL mN mX mY tl n k li fa mm im ird itn lsz tu (nI j) (by omega)) ⟨Nat.le_of_ble_eq_true rfl, Nat.le_of_ble_eq_true rfl⟩ [0] [] rfl rfl (by decide) (by decide) (by decide) 0 7 rfl rfl rfl rfl (Nat.le_of_ble_eq_true rfl) dX7_line_2 ⟨Nat.le_refl _, Nat.le_refl _⟩ rfl (fun r w1_ H_ locs_ hp w => ?_)
  obtain ⟨rfl, rfl⟩ := hp
  have w : ga_wd G A_ s_ H_ locs_ [(aM, .inr (7, [.ref mT, .int (nI tl), .int (nI n), .int (nI k), .ref mF, .ref mO, .ref mC, .int (nI li), .int (nI fa), .int (nI mm), .int (bI im), .ref mR, .ref mZ, .ref mS, .ref mH, .int (bI ird), .int (bI itn), .int (nI lsz), .ref mL, .ref mN, .ref mX, .ref mY, .int (nI tu)]))] := ga_perm w [0] (by decide) rfl
  refine W.eq (g2 := F0 m_ 5 ls [.int (bI (inB (nI j) k))]) rfl ?_
  refine r_ifb_eq hx hb dX7_line_5 (tgt := 20) (by decide) (fun c5 => ?_) (fun c5 => ?_)
  · rw [inB_y (by omega) (by omega)] at c5; cases c5
  · refine lv_aload_n hx hb dX7_line_8 rfl (lv_at hl 0 rfl) ?_
    refine gf_X7_63 cx hK w 0 rfl rfl dX7_line_9 ?_
    refine lv_iload_n hx hb dX7_line_12 rfl (lv_at hl 1 rfl) ?_
    refine ga_callS (rest := []) (wr := [(aM, .inr (7, [.ref mT, .int (nI tl), .int (nI n), .int (nI k), .ref mF, .ref mO, .ref mC, .int (nI li), .int (nI fa), .int (nI mm), .int (bI im), .ref mR, .ref mZ, .ref mS, .ref mH, .int (bI ird), .int (bI itn), .int (nI lsz), .ref mL, .ref mN, .ref mX, .ref mY, .int (nI tu)]))]) cx hK hA w hl lk_X7_79 (c_X7_isIn l G li j (by omega) (by omega)) ⟨Nat.le_of_ble_eq_true rfl, Nat.le_of_ble_eq_true rfl⟩ [] [0] rfl rfl (by decide) (by decide) (by decide) rfl (Nat.le_of_ble_eq_true rfl) dX7_line_13 ⟨Nat.le_refl _, Nat.le_refl _⟩ rfl (fun r w1_ H_ locs_ hp w => ?_)
    obtain ⟨rfl, rfl⟩ := hp
    have w : ga_wd G A_ s_ H_ locs_ [(aM, .inr (7, [.ref mT, .int (nI tl), .int (nI n), .int (nI k), .ref mF, .ref mO, .ref mC, .int (nI li), .int (nI fa), .int (nI mm), .int (bI im), .ref mR, .ref mZ, .ref mS, .ref mH, .int (bI ird), .int (bI itn), .int (nI lsz), .ref mL, .ref mN, .ref mX, .ref mY, .int (nI tu)]))] := ga_perm w [0] (by decide) rfl
    refine W.eq (g2 := F0 m_ 16 ls [.int (bI (Nat.testBit li j))]) rfl ?_
    refine lv_iload_n hx hb dX7_line_16 rfl (lv_at hl 2 rfl) ?_
    refine lv_icmp_ne hx hb dX7_line_17 (tgt := 22) (by decide) (fun c17 => ?_) (fun c17 => ?_)
    · refine lv_aload_n hx hb dX7_line_22 rfl (lv_at hl 0 rfl) ?_
      refine lv_dup hx hb dX7_line_23 rfl ?_
      refine gf_X7_63 cx hK w 0 rfl rfl dX7_line_24 ?_
      refine lv_iconst (v := nI 1) hx hb dX7_line_27 (by decide) ?_
      refine lv_iload_n hx hb dX7_line_28 rfl (lv_at hl 1 rfl) ?_
      refine r_ishl hx hb dX7_line_29 (by omega) ?_
      refine r_ixor hx hb dX7_line_30 ?_
      refine pf_X7_63 cx hK w 0 rfl rfl rfl (Nat.le_of_ble_eq_true rfl) dX7_line_31 (fun H_ locs_ w => ?_)
      have w : ga_wd G A_ s_ H_ locs_ [(aM, .inr (7, [.ref mT, .int (nI tl), .int (nI n), .int (nI k), .ref mF, .ref mO, .ref mC, .int (nI (li ^^^ (1 <<< j))), .int (nI fa), .int (nI mm), .int (bI im), .ref mR, .ref mZ, .ref mS, .ref mH, .int (bI ird), .int (bI itn), .int (nI lsz), .ref mL, .ref mN, .ref mX, .ref mY, .int (nI tu)]))] := w
      refine lv_iconst (v := nI 1) hx hb dX7_line_34 (by decide) ?_
      exact ga_zret cx hr hlk w rfl dX7_line_35 ⟨Nat.le_refl _, Nat.le_refl _⟩ (⟨rfl, rfl⟩)
    · exact absurd ((bI_inj _ _).mp c17) hne

set_option maxHeartbeats 4000000 in
set_option maxRecDepth 100000 in
theorem c_X7_line_f (l : Launch) (G : ga_G) (aM : Nat) (mT : Nat) (mF : Nat) (mO : Nat) (mC : Nat) (mR : Nat) (mZ : Nat) (mS : Nat) (mH : Nat) (mL : Nat) (mN : Nat) (mX : Nat) (mY : Nat) (tl : Nat) (n : Nat) (k : Nat) (li : Nat) (fa : Nat) (mm : Nat) (im : Bool) (ird : Bool) (itn : Bool) (lsz : Nat) (tu : Nat) (x : Int32) (is : Bool) (hk : k ≤ 16) (hli : li < 65536) (hno : ∀ j, j < k → x = nI j → Nat.testBit li j = is) : ga_M l G yX7_line cX7_line 3 (Option.some Jvm.ClassFile.FieldType.boolean) 2 46 0 0 [.ref aM, .int x, .int (bI is)] [(aM, .inr (7, [.ref mT, .int (nI tl), .int (nI n), .int (nI k), .ref mF, .ref mO, .ref mC, .int (nI li), .int (nI fa), .int (nI mm), .int (bI im), .ref mR, .ref mZ, .ref mS, .ref mH, .int (bI ird), .int (bI itn), .int (nI lsz), .ref mL, .ref mN, .ref mX, .ref mY, .int (nI tu)]))] (fun r w => r = some (.int (nI 0)) ∧ w = [(aM, .inr (7, [.ref mT, .int (nI tl), .int (nI n), .int (nI k), .ref mF, .ref mO, .ref mC, .int (nI li), .int (nI fa), .int (nI mm), .int (bI im), .ref mR, .ref mZ, .ref mS, .ref mH, .int (bI ird), .int (bI itn), .int (nI lsz), .ref mL, .ref mN, .ref mX, .ref mY, .int (nI tu)]))]) := by
  refine ga_M.intro (by decide) (Nat.le_of_ble_eq_true rfl) (fun p_ e_ s_ m_ below meth c_ A_ H_ locs_ ls cx hr hlk hnm hA hK hl w => ?_)
  have hx := cx.1
  have hb := cx.2.1
  have hl : lv_has ls 3 [(0, .ref aM), (1, .int x), (2, .int (bI is))] := hl
  refine lv_aload_n hx hb dX7_line_0 rfl (lv_at hl 0 rfl) ?_
  refine lv_iload_n hx hb dX7_line_1 rfl (lv_at hl 1 rfl) ?_
  refine ga_callV (rest := []) (wr := []) cx hK hA w hl lk_X7_75 (c_X7_isStep l G aM mT mF mO mC mR mZ mS mH mL mN mX mY tl n k li fa mm im ird itn lsz tu x (by omega)) ⟨Nat.le_of_ble_eq_true rfl, Nat.le_of_ble_eq_true rfl⟩ [0] [] rfl rfl (by decide) (by decide) (by decide) 0 7 rfl rfl rfl rfl (Nat.le_of_ble_eq_true rfl) dX7_line_2 ⟨Nat.le_refl _, Nat.le_refl _⟩ rfl (fun r w1_ H_ locs_ hp w => ?_)
  obtain ⟨rfl, rfl⟩ := hp
  have w : ga_wd G A_ s_ H_ locs_ [(aM, .inr (7, [.ref mT, .int (nI tl), .int (nI n), .int (nI k), .ref mF, .ref mO, .ref mC, .int (nI li), .int (nI fa), .int (nI mm), .int (bI im), .ref mR, .ref mZ, .ref mS, .ref mH, .int (bI ird), .int (bI itn), .int (nI lsz), .ref mL, .ref mN, .ref mX, .ref mY, .int (nI tu)]))] := ga_perm w [0] (by decide) rfl
  refine W.eq (g2 := F0 m_ 5 ls [.int (bI (inB x k))]) rfl ?_
  refine r_ifb_eq hx hb dX7_line_5 (tgt := 20) (by decide) (fun c5 => ?_) (fun c5 => ?_)
  · refine lv_iconst (v := nI 0) hx hb dX7_line_20 (by decide) ?_
    exact ga_zret cx hr hlk w rfl dX7_line_21 ⟨Nat.le_refl _, Nat.le_refl _⟩ (⟨rfl, rfl⟩)
  · obtain ⟨j, hj, rfl⟩ := inB_of (by omega) c5
    refine lv_aload_n hx hb dX7_line_8 rfl (lv_at hl 0 rfl) ?_
    refine gf_X7_63 cx hK w 0 rfl rfl dX7_line_9 ?_
    refine lv_iload_n hx hb dX7_line_12 rfl (lv_at hl 1 rfl) ?_
    refine ga_callS (rest := []) (wr := [(aM, .inr (7, [.ref mT, .int (nI tl), .int (nI n), .int (nI k), .ref mF, .ref mO, .ref mC, .int (nI li), .int (nI fa), .int (nI mm), .int (bI im), .ref mR, .ref mZ, .ref mS, .ref mH, .int (bI ird), .int (bI itn), .int (nI lsz), .ref mL, .ref mN, .ref mX, .ref mY, .int (nI tu)]))]) cx hK hA w hl lk_X7_79 (c_X7_isIn l G li j (by omega) (by omega)) ⟨Nat.le_of_ble_eq_true rfl, Nat.le_of_ble_eq_true rfl⟩ [] [0] rfl rfl (by decide) (by decide) (by decide) rfl (Nat.le_of_ble_eq_true rfl) dX7_line_13 ⟨Nat.le_refl _, Nat.le_refl _⟩ rfl (fun r w1_ H_ locs_ hp w => ?_)
    obtain ⟨rfl, rfl⟩ := hp
    have w : ga_wd G A_ s_ H_ locs_ [(aM, .inr (7, [.ref mT, .int (nI tl), .int (nI n), .int (nI k), .ref mF, .ref mO, .ref mC, .int (nI li), .int (nI fa), .int (nI mm), .int (bI im), .ref mR, .ref mZ, .ref mS, .ref mH, .int (bI ird), .int (bI itn), .int (nI lsz), .ref mL, .ref mN, .ref mX, .ref mY, .int (nI tu)]))] := ga_perm w [0] (by decide) rfl
    refine W.eq (g2 := F0 m_ 16 ls [.int (bI (Nat.testBit li j))]) rfl ?_
    refine lv_iload_n hx hb dX7_line_16 rfl (lv_at hl 2 rfl) ?_
    refine lv_icmp_ne hx hb dX7_line_17 (tgt := 22) (by decide) (fun c17 => ?_) (fun c17 => ?_)
    · exact absurd (congrArg bI (hno j hj rfl)) c17
    · refine lv_iconst (v := nI 0) hx hb dX7_line_20 (by decide) ?_
      exact ga_zret cx hr hlk w rfl dX7_line_21 ⟨Nat.le_refl _, Nat.le_refl _⟩ (⟨rfl, rfl⟩)

set_option maxHeartbeats 4000000 in
set_option maxRecDepth 100000 in
theorem c_X7_fault_t (l : Launch) (G : ga_G) (aM : Nat) (mT : Nat) (mF : Nat) (mO : Nat) (mC : Nat) (mR : Nat) (mZ : Nat) (mS : Nat) (mH : Nat) (mL : Nat) (mN : Nat) (mX : Nat) (mY : Nat) (tl : Nat) (n : Nat) (k : Nat) (li : Nat) (fa : Nat) (mm : Nat) (im : Bool) (ird : Bool) (itn : Bool) (lsz : Nat) (tu : Nat) (j : Nat) (is : Bool) (hn : n ≤ 12) (hj : j < n) (hfa : fa < 65536) (hne : ¬ Nat.testBit fa j = is) : ga_M l G yX7_fault cX7_fault 3 (Option.some Jvm.ClassFile.FieldType.boolean) 1 25 0 0 [.ref aM, .int (nI j), .int (bI is)] [(aM, .inr (7, [.ref mT, .int (nI tl), .int (nI n), .int (nI k), .ref mF, .ref mO, .ref mC, .int (nI li), .int (nI fa), .int (nI mm), .int (bI im), .ref mR, .ref mZ, .ref mS, .ref mH, .int (bI ird), .int (bI itn), .int (nI lsz), .ref mL, .ref mN, .ref mX, .ref mY, .int (nI tu)]))] (fun r w => r = some (.int (nI 1)) ∧ w = [(aM, .inr (7, [.ref mT, .int (nI tl), .int (nI n), .int (nI k), .ref mF, .ref mO, .ref mC, .int (nI li), .int (nI (fa ^^^ (1 <<< j))), .int (nI mm), .int (bI im), .ref mR, .ref mZ, .ref mS, .ref mH, .int (bI ird), .int (bI itn), .int (nI lsz), .ref mL, .ref mN, .ref mX, .ref mY, .int (nI tu)]))]) := by
  refine ga_M.intro (by decide) (Nat.le_of_ble_eq_true rfl) (fun p_ e_ s_ m_ below meth c_ A_ H_ locs_ ls cx hr hlk hnm hA hK hl w => ?_)
  have hx := cx.1
  have hb := cx.2.1
  have hl : lv_has ls 3 [(0, .ref aM), (1, .int (nI j)), (2, .int (bI is))] := hl
  refine lv_iload_n hx hb dX7_fault_0 rfl (lv_at hl 1 rfl) ?_
  refine r_i2l hx hb dX7_fault_1 (by omega) ?_
  refine lv_lconst (v := lN 0) hx hb dX7_fault_2 (by decide) ?_
  refine lv_aload_n hx hb dX7_fault_3 rfl (lv_at hl 0 rfl) ?_
  refine gf_X7_13 cx hK w 0 rfl rfl dX7_fault_4 ?_
  refine lv_iconst (v := nI 1) hx hb dX7_fault_7 (by decide) ?_
  refine lv_isub hx hb dX7_fault_8 ?_
  refine lv_i2l hx hb dX7_fault_9 rfl ?_
  refine ga_callS (rest := []) (wr := [(aM, .inr (7, [.ref mT, .int (nI tl), .int (nI n), .int (nI k), .ref mF, .ref mO, .ref mC, .int (nI li), .int (nI fa), .int (nI mm), .int (bI im), .ref mR, .ref mZ, .ref mS, .ref mH, .int (bI ird), .int (bI itn), .int (nI lsz), .ref mL, .ref mN, .ref mX, .ref mY, .int (nI tu)]))]) cx hK hA w hl lk_X7_55 (c_X7_lies l G (lN j) (lN 0) (((nI n) - (nI 1)).toInt64) ) ⟨Nat.le_of_ble_eq_true rfl, Nat.le_of_ble_eq_true rfl⟩ [] [0] rfl rfl (by decide) (by decide) (by decide) rfl (Nat.le_of_ble_eq_true rfl) dX7_fault_10 ⟨Nat.le_refl _, Nat.le_refl _⟩ rfl (fun r w1_ H_ locs_ hp w => ?_)
  obtain ⟨rfl, rfl⟩ := hp
  have w : ga_wd G A_ s_ H_ locs_ [(aM, .inr (7, [.ref mT, .int (nI tl), .int (nI n), .int (nI k), .ref mF, .ref mO, .ref mC, .int (nI li), .int (nI fa), .int (nI mm), .int (bI im), .ref mR, .ref mZ, .ref mS, .ref mH, .int (bI ird), .int (bI itn), .int (nI lsz), .ref mL, .ref mN, .ref mX, .ref mY, .int (nI tu)]))] := ga_perm w [0] (by decide) rfl
  refine W.eq (g2 := F0 m_ 13 ls [.int (bI (lsB (lN j) (lN 0) (((nI n) - (nI 1)).toInt64)))]) rfl ?_
  refine r_ifb_eq hx hb dX7_fault_13 (tgt := 28) (by decide) (fun c13 => ?_) (fun c13 => ?_)
  · rw [show (lN j : Int64) = (nI j).toInt64 from (nI_l (by omega)).symm, lsB_in (by omega), inB_y (by omega) (by omega)] at c13; cases c13
  · refine lv_aload_n hx hb dX7_fault_16 rfl (lv_at hl 0 rfl) ?_
    refine gf_X7_66 cx hK w 0 rfl rfl dX7_fault_17 ?_
    refine lv_iload_n hx hb dX7_fault_20 rfl (lv_at hl 1 rfl) ?_
    refine ga_callS (rest := []) (wr := [(aM, .inr (7, [.ref mT, .int (nI tl), .int (nI n), .int (nI k), .ref mF, .ref mO, .ref mC, .int (nI li), .int (nI fa), .int (nI mm), .int (bI im), .ref mR, .ref mZ, .ref mS, .ref mH, .int (bI ird), .int (bI itn), .int (nI lsz), .ref mL, .ref mN, .ref mX, .ref mY, .int (nI tu)]))]) cx hK hA w hl lk_X7_79 (c_X7_isIn l G fa j (by omega) (by omega)) ⟨Nat.le_of_ble_eq_true rfl, Nat.le_of_ble_eq_true rfl⟩ [] [0] rfl rfl (by decide) (by decide) (by decide) rfl (Nat.le_of_ble_eq_true rfl) dX7_fault_21 ⟨Nat.le_refl _, Nat.le_refl _⟩ rfl (fun r w1_ H_ locs_ hp w => ?_)
    obtain ⟨rfl, rfl⟩ := hp
    have w : ga_wd G A_ s_ H_ locs_ [(aM, .inr (7, [.ref mT, .int (nI tl), .int (nI n), .int (nI k), .ref mF, .ref mO, .ref mC, .int (nI li), .int (nI fa), .int (nI mm), .int (bI im), .ref mR, .ref mZ, .ref mS, .ref mH, .int (bI ird), .int (bI itn), .int (nI lsz), .ref mL, .ref mN, .ref mX, .ref mY, .int (nI tu)]))] := ga_perm w [0] (by decide) rfl
    refine W.eq (g2 := F0 m_ 24 ls [.int (bI (Nat.testBit fa j))]) rfl ?_
    refine lv_iload_n hx hb dX7_fault_24 rfl (lv_at hl 2 rfl) ?_
    refine lv_icmp_ne hx hb dX7_fault_25 (tgt := 30) (by decide) (fun c25 => ?_) (fun c25 => ?_)
    · refine lv_aload_n hx hb dX7_fault_30 rfl (lv_at hl 0 rfl) ?_
      refine lv_dup hx hb dX7_fault_31 rfl ?_
      refine gf_X7_66 cx hK w 0 rfl rfl dX7_fault_32 ?_
      refine lv_iconst (v := nI 1) hx hb dX7_fault_35 (by decide) ?_
      refine lv_iload_n hx hb dX7_fault_36 rfl (lv_at hl 1 rfl) ?_
      refine r_ishl hx hb dX7_fault_37 (by omega) ?_
      refine r_ixor hx hb dX7_fault_38 ?_
      refine pf_X7_66 cx hK w 0 rfl rfl rfl (Nat.le_of_ble_eq_true rfl) dX7_fault_39 (fun H_ locs_ w => ?_)
      have w : ga_wd G A_ s_ H_ locs_ [(aM, .inr (7, [.ref mT, .int (nI tl), .int (nI n), .int (nI k), .ref mF, .ref mO, .ref mC, .int (nI li), .int (nI (fa ^^^ (1 <<< j))), .int (nI mm), .int (bI im), .ref mR, .ref mZ, .ref mS, .ref mH, .int (bI ird), .int (bI itn), .int (nI lsz), .ref mL, .ref mN, .ref mX, .ref mY, .int (nI tu)]))] := w
      refine lv_iconst (v := nI 1) hx hb dX7_fault_42 (by decide) ?_
      exact ga_zret cx hr hlk w rfl dX7_fault_43 ⟨Nat.le_refl _, Nat.le_refl _⟩ (⟨rfl, rfl⟩)
    · exact absurd ((bI_inj _ _).mp c25) hne

set_option maxHeartbeats 4000000 in
set_option maxRecDepth 100000 in
theorem c_X7_fault_f (l : Launch) (G : ga_G) (aM : Nat) (mT : Nat) (mF : Nat) (mO : Nat) (mC : Nat) (mR : Nat) (mZ : Nat) (mS : Nat) (mH : Nat) (mL : Nat) (mN : Nat) (mX : Nat) (mY : Nat) (tl : Nat) (n : Nat) (k : Nat) (li : Nat) (fa : Nat) (mm : Nat) (im : Bool) (ird : Bool) (itn : Bool) (lsz : Nat) (tu : Nat) (x : Int32) (is : Bool) (hn : n ≤ 12) (hfa : fa < 65536) (hno : ∀ j, j < n → x = nI j → Nat.testBit fa j = is) : ga_M l G yX7_fault cX7_fault 3 (Option.some Jvm.ClassFile.FieldType.boolean) 1 25 0 0 [.ref aM, .int x, .int (bI is)] [(aM, .inr (7, [.ref mT, .int (nI tl), .int (nI n), .int (nI k), .ref mF, .ref mO, .ref mC, .int (nI li), .int (nI fa), .int (nI mm), .int (bI im), .ref mR, .ref mZ, .ref mS, .ref mH, .int (bI ird), .int (bI itn), .int (nI lsz), .ref mL, .ref mN, .ref mX, .ref mY, .int (nI tu)]))] (fun r w => r = some (.int (nI 0)) ∧ w = [(aM, .inr (7, [.ref mT, .int (nI tl), .int (nI n), .int (nI k), .ref mF, .ref mO, .ref mC, .int (nI li), .int (nI fa), .int (nI mm), .int (bI im), .ref mR, .ref mZ, .ref mS, .ref mH, .int (bI ird), .int (bI itn), .int (nI lsz), .ref mL, .ref mN, .ref mX, .ref mY, .int (nI tu)]))]) := by
  refine ga_M.intro (by decide) (Nat.le_of_ble_eq_true rfl) (fun p_ e_ s_ m_ below meth c_ A_ H_ locs_ ls cx hr hlk hnm hA hK hl w => ?_)
  have hx := cx.1
  have hb := cx.2.1
  have hl : lv_has ls 3 [(0, .ref aM), (1, .int x), (2, .int (bI is))] := hl
  refine lv_iload_n hx hb dX7_fault_0 rfl (lv_at hl 1 rfl) ?_
  refine lv_i2l hx hb dX7_fault_1 rfl ?_
  refine lv_lconst (v := lN 0) hx hb dX7_fault_2 (by decide) ?_
  refine lv_aload_n hx hb dX7_fault_3 rfl (lv_at hl 0 rfl) ?_
  refine gf_X7_13 cx hK w 0 rfl rfl dX7_fault_4 ?_
  refine lv_iconst (v := nI 1) hx hb dX7_fault_7 (by decide) ?_
  refine lv_isub hx hb dX7_fault_8 ?_
  refine lv_i2l hx hb dX7_fault_9 rfl ?_
  refine ga_callS (rest := []) (wr := [(aM, .inr (7, [.ref mT, .int (nI tl), .int (nI n), .int (nI k), .ref mF, .ref mO, .ref mC, .int (nI li), .int (nI fa), .int (nI mm), .int (bI im), .ref mR, .ref mZ, .ref mS, .ref mH, .int (bI ird), .int (bI itn), .int (nI lsz), .ref mL, .ref mN, .ref mX, .ref mY, .int (nI tu)]))]) cx hK hA w hl lk_X7_55 (c_X7_lies l G x.toInt64 (lN 0) (((nI n) - (nI 1)).toInt64) ) ⟨Nat.le_of_ble_eq_true rfl, Nat.le_of_ble_eq_true rfl⟩ [] [0] rfl rfl (by decide) (by decide) (by decide) rfl (Nat.le_of_ble_eq_true rfl) dX7_fault_10 ⟨Nat.le_refl _, Nat.le_refl _⟩ rfl (fun r w1_ H_ locs_ hp w => ?_)
  obtain ⟨rfl, rfl⟩ := hp
  have w : ga_wd G A_ s_ H_ locs_ [(aM, .inr (7, [.ref mT, .int (nI tl), .int (nI n), .int (nI k), .ref mF, .ref mO, .ref mC, .int (nI li), .int (nI fa), .int (nI mm), .int (bI im), .ref mR, .ref mZ, .ref mS, .ref mH, .int (bI ird), .int (bI itn), .int (nI lsz), .ref mL, .ref mN, .ref mX, .ref mY, .int (nI tu)]))] := ga_perm w [0] (by decide) rfl
  refine W.eq (g2 := F0 m_ 13 ls [.int (bI (lsB x.toInt64 (lN 0) (((nI n) - (nI 1)).toInt64)))]) rfl ?_
  refine r_ifb_eq hx hb dX7_fault_13 (tgt := 28) (by decide) (fun c13 => ?_) (fun c13 => ?_)
  · refine lv_iconst (v := nI 0) hx hb dX7_fault_28 (by decide) ?_
    exact ga_zret cx hr hlk w rfl dX7_fault_29 ⟨Nat.le_refl _, Nat.le_refl _⟩ (⟨rfl, rfl⟩)
  · rw [lsB_in (by omega)] at c13
    obtain ⟨j, hj, rfl⟩ := inB_of (by omega) c13
    refine lv_aload_n hx hb dX7_fault_16 rfl (lv_at hl 0 rfl) ?_
    refine gf_X7_66 cx hK w 0 rfl rfl dX7_fault_17 ?_
    refine lv_iload_n hx hb dX7_fault_20 rfl (lv_at hl 1 rfl) ?_
    refine ga_callS (rest := []) (wr := [(aM, .inr (7, [.ref mT, .int (nI tl), .int (nI n), .int (nI k), .ref mF, .ref mO, .ref mC, .int (nI li), .int (nI fa), .int (nI mm), .int (bI im), .ref mR, .ref mZ, .ref mS, .ref mH, .int (bI ird), .int (bI itn), .int (nI lsz), .ref mL, .ref mN, .ref mX, .ref mY, .int (nI tu)]))]) cx hK hA w hl lk_X7_79 (c_X7_isIn l G fa j (by omega) (by omega)) ⟨Nat.le_of_ble_eq_true rfl, Nat.le_of_ble_eq_true rfl⟩ [] [0] rfl rfl (by decide) (by decide) (by decide) rfl (Nat.le_of_ble_eq_true rfl) dX7_fault_21 ⟨Nat.le_refl _, Nat.le_refl _⟩ rfl (fun r w1_ H_ locs_ hp w => ?_)
    obtain ⟨rfl, rfl⟩ := hp
    have w : ga_wd G A_ s_ H_ locs_ [(aM, .inr (7, [.ref mT, .int (nI tl), .int (nI n), .int (nI k), .ref mF, .ref mO, .ref mC, .int (nI li), .int (nI fa), .int (nI mm), .int (bI im), .ref mR, .ref mZ, .ref mS, .ref mH, .int (bI ird), .int (bI itn), .int (nI lsz), .ref mL, .ref mN, .ref mX, .ref mY, .int (nI tu)]))] := ga_perm w [0] (by decide) rfl
    refine W.eq (g2 := F0 m_ 24 ls [.int (bI (Nat.testBit fa j))]) rfl ?_
    refine lv_iload_n hx hb dX7_fault_24 rfl (lv_at hl 2 rfl) ?_
    refine lv_icmp_ne hx hb dX7_fault_25 (tgt := 30) (by decide) (fun c25 => ?_) (fun c25 => ?_)
    · exact absurd (congrArg bI (hno j hj rfl)) c25
    · refine lv_iconst (v := nI 0) hx hb dX7_fault_28 (by decide) ?_
      exact ga_zret cx hr hlk w rfl dX7_fault_29 ⟨Nat.le_refl _, Nat.le_refl _⟩ (⟨rfl, rfl⟩)

set_option maxHeartbeats 4000000 in
set_option maxRecDepth 100000 in
theorem c_X7_priceOf (l : Launch) (G : ga_G) (aM : Nat) (mT : Nat) (mF : Nat) (mO : Nat) (mC : Nat) (mR : Nat) (mZ : Nat) (mS : Nat) (mH : Nat) (mL : Nat) (mN : Nat) (mX : Nat) (mY : Nat) (tl : Nat) (n : Nat) (k : Nat) (li : Nat) (fa : Nat) (mm : Nat) (im : Bool) (ird : Bool) (itn : Bool) (lsz : Nat) (tu : Nat) (ct : Nat → Nat) (s0 : Nat) (hk : k ≤ 16) (hs : s0 < 2 ^ 31) (hc : ∀ e, e < k → ct e ≤ 1000000) : ga_M l G yX7_priceOf cX7_priceOf 5 (Option.some Jvm.ClassFile.FieldType.long) 1 21 0 0 [.ref aM, .int (nI s0)] [(aM, .inr (7, [.ref mT, .int (nI tl), .int (nI n), .int (nI k), .ref mF, .ref mO, .ref mC, .int (nI li), .int (nI fa), .int (nI mm), .int (bI im), .ref mR, .ref mZ, .ref mS, .ref mH, .int (bI ird), .int (bI itn), .int (nI lsz), .ref mL, .ref mN, .ref mX, .ref mY, .int (nI tu)])), (mC, .inl (G.2.2, 16, .inl (aN ct)))] (fun r w => r = some (.long (lN (prc ct s0 k))) ∧ w = [(aM, .inr (7, [.ref mT, .int (nI tl), .int (nI n), .int (nI k), .ref mF, .ref mO, .ref mC, .int (nI li), .int (nI fa), .int (nI mm), .int (bI im), .ref mR, .ref mZ, .ref mS, .ref mH, .int (bI ird), .int (bI itn), .int (nI lsz), .ref mL, .ref mN, .ref mX, .ref mY, .int (nI tu)])), (mC, .inl (G.2.2, 16, .inl (aN ct)))]) := by
  refine ga_M.intro (by decide) (Nat.le_of_ble_eq_true rfl) (fun p_ e_ s_ m_ below meth c_ A_ H_ locs_ ls cx hr hlk hnm hA hK hl w => ?_)
  have hx := cx.1
  have hb := cx.2.1
  have hl : lv_has ls 5 [(0, .ref aM), (1, .int (nI s0))] := hl
  refine lv_lconst (v := lN 0) hx hb dX7_priceOf_0 (by decide) ?_
  refine lv_lstore_n (lv' := [(2, .long (lN 0)), (0, .ref aM), (1, .int (nI s0))]) hx hb dX7_priceOf_1 rfl hl (by decide) rfl (fun ls hl => ?_)
  refine lv_iconst (v := nI 0) hx hb dX7_priceOf_2 (by decide) ?_
  refine lv_istore (lv' := [(4, .int (nI 0)), (2, .long (lN 0)), (0, .ref aM), (1, .int (nI s0))]) hx hb dX7_priceOf_3 hl (by decide) rfl (fun ls hl => ?_)
  have loop5 : ∀ (n_ : Nat) (ee : Nat) (sm : Nat) (he : ee ≤ k) (hm1 : sm = prc ct s0 ee) (hm : 16 - ee < n_) (H_ : Heap) (locs_ : List Loc) (ls : Array Slot) (hl : lv_has ls 5 [(4, .int (nI ee)), (2, .long (lN sm)), (0, .ref aM), (1, .int (nI s0))]) (w : ga_wd G A_ s_ H_ locs_ [(aM, .inr (7, [.ref mT, .int (nI tl), .int (nI n), .int (nI k), .ref mF, .ref mO, .ref mC, .int (nI li), .int (nI fa), .int (nI mm), .int (bI im), .ref mR, .ref mZ, .ref mS, .ref mH, .int (bI ird), .int (bI itn), .int (nI lsz), .ref mL, .ref mN, .ref mX, .ref mY, .int (nI tu)])), (mC, .inl (G.2.2, 16, .inl (aN ct)))]), W p_ l e_ { frames := 1, cells := 0, slots := 0, locals := 21 } s_ m_ [.ref aM, .int (nI s0)].toArray below meth c_ H_ locs_ (0) (0) (MQ below (ga_Q G A_ (fun r w => r = some (.long (lN (prc ct s0 k))) ∧ w = [(aM, .inr (7, [.ref mT, .int (nI tl), .int (nI n), .int (nI k), .ref mF, .ref mO, .ref mC, .int (nI li), .int (nI fa), .int (nI mm), .int (bI im), .ref mR, .ref mZ, .ref mS, .ref mH, .int (bI ird), .int (bI itn), .int (nI lsz), .ref mL, .ref mN, .ref mX, .ref mY, .int (nI tu)])), (mC, .inl (G.2.2, 16, .inl (aN ct)))])) [.ref aM, .int (nI s0)].toArray s_ 0 0 A_) (F0 m_ 5 ls []) := by
    intro n_
    induction n_ with
    | zero => intro ee sm he hm1 hm; exact absurd hm (Nat.not_lt_zero _)
    | succ n_ ih5 =>
      intro ee sm he hm1 hm5 H_ locs_ ls hl w
      refine lv_iload hx hb dX7_priceOf_5 (lv_at hl 0 rfl) ?_
      refine lv_aload_n hx hb dX7_priceOf_7 rfl (lv_at hl 2 rfl) ?_
      refine gf_X7_52 cx hK w 0 rfl rfl dX7_priceOf_8 ?_
      refine r_icmp_ge hx hb dX7_priceOf_11 (tgt := 46) (by decide) (by omega) (by omega) (fun c11 => ?_) (fun c11 => ?_)
      · refine lv_lload_n hx hb dX7_priceOf_46 rfl (lv_at hl 1 rfl) ?_
        exact ga_lret cx hr hlk w dX7_priceOf_47 ⟨Nat.le_refl _, Nat.le_refl _⟩ (⟨ga_rl (by rw [hm1, show ee = k by omega]), rfl⟩)
      · refine lv_lload_n hx hb dX7_priceOf_14 rfl (lv_at hl 1 rfl) ?_
        refine lv_iload_n hx hb dX7_priceOf_15 rfl (lv_at hl 3 rfl) ?_
        refine lv_iload hx hb dX7_priceOf_16 (lv_at hl 0 rfl) ?_
        refine ga_callS (rest := [.long (lN sm)]) (wr := [(aM, .inr (7, [.ref mT, .int (nI tl), .int (nI n), .int (nI k), .ref mF, .ref mO, .ref mC, .int (nI li), .int (nI fa), .int (nI mm), .int (bI im), .ref mR, .ref mZ, .ref mS, .ref mH, .int (bI ird), .int (bI itn), .int (nI lsz), .ref mL, .ref mN, .ref mX, .ref mY, .int (nI tu)])), (mC, .inl (G.2.2, 16, .inl (aN ct)))]) cx hK hA w hl lk_X7_79 (c_X7_isIn l G s0 ee (by omega) (by omega)) ⟨Nat.le_of_ble_eq_true rfl, Nat.le_of_ble_eq_true rfl⟩ [] [0, 1] rfl rfl (by decide) (by decide) (by decide) rfl (Nat.le_of_ble_eq_true rfl) dX7_priceOf_18 ⟨Nat.le_refl _, Nat.le_refl _⟩ rfl (fun r w1_ H_ locs_ hp w => ?_)
        obtain ⟨rfl, rfl⟩ := hp
        have w : ga_wd G A_ s_ H_ locs_ [(aM, .inr (7, [.ref mT, .int (nI tl), .int (nI n), .int (nI k), .ref mF, .ref mO, .ref mC, .int (nI li), .int (nI fa), .int (nI mm), .int (bI im), .ref mR, .ref mZ, .ref mS, .ref mH, .int (bI ird), .int (bI itn), .int (nI lsz), .ref mL, .ref mN, .ref mX, .ref mY, .int (nI tu)])), (mC, .inl (G.2.2, 16, .inl (aN ct)))] := ga_perm w [0, 1] (by decide) rfl
        refine W.eq (g2 := F0 m_ 21 ls [.int (bI (Nat.testBit s0 ee)), .long (lN sm)]) rfl ?_
        refine r_ifb_eq hx hb dX7_priceOf_21 (tgt := 37) (by decide) (fun c21 => ?_) (fun c21 => ?_)
        · refine lv_lconst (v := lN 0) hx hb dX7_priceOf_37 (by decide) ?_
          refine r_ladd hx hb dX7_priceOf_38 ?_
          refine lv_lstore_n (lv' := [(2, .long (lN (sm + 0))), (4, .int (nI ee)), (0, .ref aM), (1, .int (nI s0))]) hx hb dX7_priceOf_39 rfl hl (by decide) rfl (fun ls hl => ?_)
          refine r_iinc (d := 1) (k := 1) (lv' := [(4, .int (nI (ee + 1))), (2, .long (lN (sm + 0))), (0, .ref aM), (1, .int (nI s0))]) hx hb dX7_priceOf_40 hl rfl (by decide) (by decide) rfl (fun ls hl => ?_)
          refine lv_goto (tgt := 5) hx hb dX7_priceOf_43 (by decide) ?_
          exact ih5 (ee + 1) (sm + 0) (by omega) (by rw [prc, c21, hm1]; rfl) (by omega) _ _ _ (lv_sub hl [0, 1, 2, 3] rfl) w
        · refine lv_aload_n hx hb dX7_priceOf_24 rfl (lv_at hl 2 rfl) ?_
          refine gf_X7_24 cx hK w 0 rfl rfl dX7_priceOf_25 ?_
          refine lv_iload hx hb dX7_priceOf_28 (lv_at hl 0 rfl) ?_
          refine r_ialdN hx hb hK w 1 rfl dX7_priceOf_30 (by omega) (by decide) ?_
          have hce := hc ee (by omega)
          refine r_i2l hx hb dX7_priceOf_31 (by omega) ?_
          refine lv_lconst (v := lN 1) hx hb dX7_priceOf_32 (by decide) ?_
          refine r_ladd hx hb dX7_priceOf_33 ?_
          refine lv_goto (tgt := 38) hx hb dX7_priceOf_34 (by decide) ?_
          refine r_ladd hx hb dX7_priceOf_38 ?_
          refine lv_lstore_n (lv' := [(2, .long (lN (sm + ((ct ee) + 1)))), (4, .int (nI ee)), (0, .ref aM), (1, .int (nI s0))]) hx hb dX7_priceOf_39 rfl hl (by decide) rfl (fun ls hl => ?_)
          refine r_iinc (d := 1) (k := 1) (lv' := [(4, .int (nI (ee + 1))), (2, .long (lN (sm + ((ct ee) + 1)))), (0, .ref aM), (1, .int (nI s0))]) hx hb dX7_priceOf_40 hl rfl (by decide) (by decide) rfl (fun ls hl => ?_)
          refine lv_goto (tgt := 5) hx hb dX7_priceOf_43 (by decide) ?_
          exact ih5 (ee + 1) (sm + ((ct ee) + 1)) (by omega) (by rw [prc, c21, hm1, if_pos rfl]) (by omega) _ _ _ (lv_sub hl [0, 1, 2, 3] rfl) w
  exact loop5 _ 0 0 (by omega) (rfl) (Nat.lt_succ_self _) _ _ _ (lv_sub hl [0, 1, 2, 3] rfl) w

set_option maxHeartbeats 4000000 in
set_option maxRecDepth 100000 in
theorem c_X7_price (l : Launch) (G : ga_G) (aM : Nat) (mT : Nat) (mF : Nat) (mO : Nat) (mC : Nat) (mR : Nat) (mZ : Nat) (mS : Nat) (mH : Nat) (mL : Nat) (mN : Nat) (mX : Nat) (mY : Nat) (tl : Nat) (n : Nat) (k : Nat) (li : Nat) (fa : Nat) (mm : Nat) (im : Bool) (ird : Bool) (itn : Bool) (lsz : Nat) (tu : Nat) (ct : Nat → Nat) (x : Int32) (hk : k ≤ 16) (hc : ∀ e, e < k → ct e ≤ 1000000) : ga_M l G yX7_price cX7_price 2 (Option.some Jvm.ClassFile.FieldType.long) 2 45 0 0 [.ref aM, .int x] [(aM, .inr (7, [.ref mT, .int (nI tl), .int (nI n), .int (nI k), .ref mF, .ref mO, .ref mC, .int (nI li), .int (nI fa), .int (nI mm), .int (bI im), .ref mR, .ref mZ, .ref mS, .ref mH, .int (bI ird), .int (bI itn), .int (nI lsz), .ref mL, .ref mN, .ref mX, .ref mY, .int (nI tu)])), (mC, .inl (G.2.2, 16, .inl (aN ct)))] (fun r w => r = some (.long (sPrice k ct x)) ∧ w = [(aM, .inr (7, [.ref mT, .int (nI tl), .int (nI n), .int (nI k), .ref mF, .ref mO, .ref mC, .int (nI li), .int (nI fa), .int (nI mm), .int (bI im), .ref mR, .ref mZ, .ref mS, .ref mH, .int (bI ird), .int (bI itn), .int (nI lsz), .ref mL, .ref mN, .ref mX, .ref mY, .int (nI tu)])), (mC, .inl (G.2.2, 16, .inl (aN ct)))]) := by
  refine ga_M.intro (by decide) (Nat.le_of_ble_eq_true rfl) (fun p_ e_ s_ m_ below meth c_ A_ H_ locs_ ls cx hr hlk hnm hA hK hl w => ?_)
  have hx := cx.1
  have hb := cx.2.1
  have hl : lv_has ls 2 [(0, .ref aM), (1, .int x)] := hl
  have hp2 : 2 ^ k ≤ 2 ^ 16 := Nat.pow_le_pow_right (by decide) hk
  refine lv_iload_n hx hb dX7_price_0 rfl (lv_at hl 1 rfl) ?_
  refine lv_i2l hx hb dX7_price_1 rfl ?_
  refine lv_lconst (v := lN 0) hx hb dX7_price_2 (by decide) ?_
  refine lv_iconst (v := nI 1) hx hb dX7_price_3 (by decide) ?_
  refine lv_aload_n hx hb dX7_price_4 rfl (lv_at hl 0 rfl) ?_
  refine gf_X7_52 cx hK w 0 rfl rfl dX7_price_5 ?_
  refine r_ishl hx hb dX7_price_8 (by omega) ?_
  refine lv_iconst (v := nI 1) hx hb dX7_price_9 (by decide) ?_
  refine lv_isub hx hb dX7_price_10 ?_
  refine lv_i2l hx hb dX7_price_11 rfl ?_
  refine ga_callS (rest := []) (wr := [(aM, .inr (7, [.ref mT, .int (nI tl), .int (nI n), .int (nI k), .ref mF, .ref mO, .ref mC, .int (nI li), .int (nI fa), .int (nI mm), .int (bI im), .ref mR, .ref mZ, .ref mS, .ref mH, .int (bI ird), .int (bI itn), .int (nI lsz), .ref mL, .ref mN, .ref mX, .ref mY, .int (nI tu)])), (mC, .inl (G.2.2, 16, .inl (aN ct)))]) cx hK hA w hl lk_X7_55 (c_X7_lies l G x.toInt64 (lN 0) (((nI (1 <<< k)) - (nI 1)).toInt64) ) ⟨Nat.le_of_ble_eq_true rfl, Nat.le_of_ble_eq_true rfl⟩ [] [0, 1] rfl rfl (by decide) (by decide) (by decide) rfl (Nat.le_of_ble_eq_true rfl) dX7_price_12 ⟨Nat.le_refl _, Nat.le_refl _⟩ rfl (fun r w1_ H_ locs_ hp w => ?_)
  obtain ⟨rfl, rfl⟩ := hp
  have w : ga_wd G A_ s_ H_ locs_ [(aM, .inr (7, [.ref mT, .int (nI tl), .int (nI n), .int (nI k), .ref mF, .ref mO, .ref mC, .int (nI li), .int (nI fa), .int (nI mm), .int (bI im), .ref mR, .ref mZ, .ref mS, .ref mH, .int (bI ird), .int (bI itn), .int (nI lsz), .ref mL, .ref mN, .ref mX, .ref mY, .int (nI tu)])), (mC, .inl (G.2.2, 16, .inl (aN ct)))] := ga_perm w [0, 1] (by decide) rfl
  refine W.eq (g2 := F0 m_ 15 ls [.int (bI (lsB x.toInt64 (lN 0) (((nI (1 <<< k)) - (nI 1)).toInt64)))]) rfl ?_
  refine r_ifb_eq hx hb dX7_price_15 (tgt := 26) (by decide) (fun c15 => ?_) (fun c15 => ?_)
  · rw [Nat.one_shiftLeft, lsB_in (by omega)] at c15
    refine lv_ldc2 hx hb cx.2.2.2.1 (cx.2.2.2.2 _ tm_670) dX7_price_26 ?_
    exact ga_lret cx hr hlk w dX7_price_29 ⟨Nat.le_refl _, Nat.le_refl _⟩ (⟨ga_rl (by rw [sPrice, c15]; rfl), rfl⟩)
  · rw [Nat.one_shiftLeft, lsB_in (by omega)] at c15
    obtain ⟨j, hj, rfl⟩ := inB_of (by omega) c15
    refine lv_aload_n hx hb dX7_price_18 rfl (lv_at hl 0 rfl) ?_
    refine lv_iload_n hx hb dX7_price_19 rfl (lv_at hl 1 rfl) ?_
    refine ga_callV (rest := []) (wr := []) cx hK hA w hl lk_X7_121 (c_X7_priceOf l G aM mT mF mO mC mR mZ mS mH mL mN mX mY tl n k li fa mm im ird itn lsz tu ct j (by omega) (by omega) (by omega)) ⟨Nat.le_of_ble_eq_true rfl, Nat.le_of_ble_eq_true rfl⟩ [0, 1] [] rfl rfl (by decide) (by decide) (by decide) 0 7 rfl rfl rfl rfl (Nat.le_of_ble_eq_true rfl) dX7_price_20 ⟨Nat.le_refl _, Nat.le_refl _⟩ rfl (fun r w1_ H_ locs_ hp w => ?_)
    obtain ⟨rfl, rfl⟩ := hp
    have w : ga_wd G A_ s_ H_ locs_ [(aM, .inr (7, [.ref mT, .int (nI tl), .int (nI n), .int (nI k), .ref mF, .ref mO, .ref mC, .int (nI li), .int (nI fa), .int (nI mm), .int (bI im), .ref mR, .ref mZ, .ref mS, .ref mH, .int (bI ird), .int (bI itn), .int (nI lsz), .ref mL, .ref mN, .ref mX, .ref mY, .int (nI tu)])), (mC, .inl (G.2.2, 16, .inl (aN ct)))] := ga_perm w [0, 1] (by decide) rfl
    refine W.eq (g2 := F0 m_ 23 ls [.long (lN (prc ct j k))]) rfl ?_
    refine lv_goto (tgt := 29) hx hb dX7_price_23 (by decide) ?_
    exact ga_lret cx hr hlk w dX7_price_29 ⟨Nat.le_refl _, Nat.le_refl _⟩ (⟨ga_rl (sPrice_t hk hj).symm, rfl⟩)

set_option maxHeartbeats 4000000 in
set_option maxRecDepth 100000 in
theorem c_X7_isBetter (l : Launch) (G : ga_G) (a : Nat) (b : Nat) (ha1 : a < 65536) (hb1 : b < 65536) : ga_M l G yX7_isBetter cX7_isBetter 3 (Option.some Jvm.ClassFile.FieldType.boolean) 1 22 0 0 [.int (nI a), .int (nI b)] [] (fun r w => r = some (.int (bI (rat a b))) ∧ w = []) := by
  refine ga_M.intro (by decide) (Nat.le_of_ble_eq_true rfl) (fun p_ e_ s_ m_ below meth c_ A_ H_ locs_ ls cx hr hlk hnm hA hK hl w => ?_)
  have hx := cx.1
  have hb := cx.2.1
  have hl : lv_has ls 3 [(0, .int (nI a)), (1, .int (nI b))] := hl
  have pa := pop_lt a
  have pb := pop_lt b
  refine lv_iload_n hx hb dX7_isBetter_0 rfl (lv_at hl 0 rfl) ?_
  refine ga_callS (rest := []) (wr := []) cx hK hA w hl lk_X7_127 (c_X7_sizeOf l G a (by omega)) ⟨Nat.le_of_ble_eq_true rfl, Nat.le_of_ble_eq_true rfl⟩ [] [] rfl rfl (by decide) (by decide) (by decide) rfl (Nat.le_of_ble_eq_true rfl) dX7_isBetter_1 ⟨Nat.le_refl _, Nat.le_refl _⟩ rfl (fun r w1_ H_ locs_ hp w => ?_)
  obtain ⟨rfl, rfl⟩ := hp
  have w : ga_wd G A_ s_ H_ locs_ [] := ga_perm w [] (by decide) rfl
  refine W.eq (g2 := F0 m_ 4 ls [.int (nI (pop a))]) rfl ?_
  refine lv_iload_n hx hb dX7_isBetter_4 rfl (lv_at hl 1 rfl) ?_
  refine ga_callS (rest := [.int (nI (pop a))]) (wr := []) cx hK hA w hl lk_X7_127 (c_X7_sizeOf l G b (by omega)) ⟨Nat.le_of_ble_eq_true rfl, Nat.le_of_ble_eq_true rfl⟩ [] [] rfl rfl (by decide) (by decide) (by decide) rfl (Nat.le_of_ble_eq_true rfl) dX7_isBetter_5 ⟨Nat.le_refl _, Nat.le_refl _⟩ rfl (fun r w1_ H_ locs_ hp w => ?_)
  obtain ⟨rfl, rfl⟩ := hp
  have w : ga_wd G A_ s_ H_ locs_ [] := ga_perm w [] (by decide) rfl
  refine W.eq (g2 := F0 m_ 8 ls [.int (nI (pop b)), .int (nI (pop a))]) rfl ?_
  refine r_icmp_eq hx hb dX7_isBetter_8 (tgt := 28) (by decide) (by omega) (by omega) (fun c8 => ?_) (fun c8 => ?_)
  · refine lv_iload_n hx hb dX7_isBetter_28 rfl (lv_at hl 0 rfl) ?_
    refine lv_iload_n hx hb dX7_isBetter_29 rfl (lv_at hl 1 rfl) ?_
    refine r_ixor hx hb dX7_isBetter_30 ?_
    refine lv_iload_n hx hb dX7_isBetter_31 rfl (lv_at hl 0 rfl) ?_
    refine lv_iload_n hx hb dX7_isBetter_32 rfl (lv_at hl 1 rfl) ?_
    refine r_ixor hx hb dX7_isBetter_33 ?_
    refine lv_ineg hx hb dX7_isBetter_34 ?_
    refine lv_iand hx hb dX7_isBetter_35 ?_
    refine r_topi (y := nI (lowb (a ^^^ b))) (lowb_ok (xor_lt 16 ha1 hb1)) ?_
    refine lv_istore_n (lv' := [(2, .int (nI (lowb (a ^^^ b)))), (0, .int (nI a)), (1, .int (nI b))]) hx hb dX7_isBetter_36 rfl hl (by decide) rfl (fun ls hl => ?_)
    refine lv_iload_n hx hb dX7_isBetter_37 rfl (lv_at hl 1 rfl) ?_
    refine lv_iload_n hx hb dX7_isBetter_38 rfl (lv_at hl 0 rfl) ?_
    refine r_iand hx hb dX7_isBetter_39 ?_
    refine r_if_eq hx hb dX7_isBetter_40 (tgt := 47) (by decide) (andL_lt (by omega)) (fun c40 => ?_) (fun c40 => ?_)
    · refine lv_iconst (v := nI 0) hx hb dX7_isBetter_47 (by decide) ?_
      exact ga_zret cx hr hlk w rfl dX7_isBetter_48 ⟨Nat.le_refl _, Nat.le_refl _⟩ (⟨ga_r0 (by unfold rat; first | exact decide_eq_true (Or.inr ⟨c8, c40⟩) | exact decide_eq_false (fun z => by rcases z with z | z; omega; exact z.2 c40) | exact decide_eq_true (Or.inl (by omega)) | exact decide_eq_false (by omega)), rfl⟩)
    · refine lv_iconst (v := nI 1) hx hb dX7_isBetter_43 (by decide) ?_
      refine lv_goto (tgt := 48) hx hb dX7_isBetter_44 (by decide) ?_
      exact ga_zret cx hr hlk w rfl dX7_isBetter_48 ⟨Nat.le_refl _, Nat.le_refl _⟩ (⟨ga_r1 (by unfold rat; first | exact decide_eq_true (Or.inr ⟨c8, c40⟩) | exact decide_eq_false (fun z => by rcases z with z | z; omega; exact z.2 c40) | exact decide_eq_true (Or.inl (by omega)) | exact decide_eq_false (by omega)), rfl⟩)
  · refine lv_iload_n hx hb dX7_isBetter_11 rfl (lv_at hl 0 rfl) ?_
    refine ga_callS (rest := []) (wr := []) cx hK hA w hl lk_X7_127 (c_X7_sizeOf l G a (by omega)) ⟨Nat.le_of_ble_eq_true rfl, Nat.le_of_ble_eq_true rfl⟩ [] [] rfl rfl (by decide) (by decide) (by decide) rfl (Nat.le_of_ble_eq_true rfl) dX7_isBetter_12 ⟨Nat.le_refl _, Nat.le_refl _⟩ rfl (fun r w1_ H_ locs_ hp w => ?_)
    obtain ⟨rfl, rfl⟩ := hp
    have w : ga_wd G A_ s_ H_ locs_ [] := ga_perm w [] (by decide) rfl
    refine W.eq (g2 := F0 m_ 15 ls [.int (nI (pop a))]) rfl ?_
    refine lv_iload_n hx hb dX7_isBetter_15 rfl (lv_at hl 1 rfl) ?_
    refine ga_callS (rest := [.int (nI (pop a))]) (wr := []) cx hK hA w hl lk_X7_127 (c_X7_sizeOf l G b (by omega)) ⟨Nat.le_of_ble_eq_true rfl, Nat.le_of_ble_eq_true rfl⟩ [] [] rfl rfl (by decide) (by decide) (by decide) rfl (Nat.le_of_ble_eq_true rfl) dX7_isBetter_16 ⟨Nat.le_refl _, Nat.le_refl _⟩ rfl (fun r w1_ H_ locs_ hp w => ?_)
    obtain ⟨rfl, rfl⟩ := hp
    have w : ga_wd G A_ s_ H_ locs_ [] := ga_perm w [] (by decide) rfl
    refine W.eq (g2 := F0 m_ 19 ls [.int (nI (pop b)), .int (nI (pop a))]) rfl ?_
    refine r_icmp_ge hx hb dX7_isBetter_19 (tgt := 26) (by decide) (by omega) (by omega) (fun c19 => ?_) (fun c19 => ?_)
    · refine lv_iconst (v := nI 0) hx hb dX7_isBetter_26 (by decide) ?_
      exact ga_zret cx hr hlk w rfl dX7_isBetter_27 ⟨Nat.le_refl _, Nat.le_refl _⟩ (⟨ga_r0 (by unfold rat; first | exact decide_eq_true (Or.inr ⟨c8, c40⟩) | exact decide_eq_false (fun z => by rcases z with z | z; omega; exact z.2 c40) | exact decide_eq_true (Or.inl (by omega)) | exact decide_eq_false (by omega)), rfl⟩)
    · refine lv_iconst (v := nI 1) hx hb dX7_isBetter_22 (by decide) ?_
      refine lv_goto (tgt := 27) hx hb dX7_isBetter_23 (by decide) ?_
      exact ga_zret cx hr hlk w rfl dX7_isBetter_27 ⟨Nat.le_refl _, Nat.le_refl _⟩ (⟨ga_r1 (by unfold rat; first | exact decide_eq_true (Or.inr ⟨c8, c40⟩) | exact decide_eq_false (fun z => by rcases z with z | z; omega; exact z.2 c40) | exact decide_eq_true (Or.inl (by omega)) | exact decide_eq_false (by omega)), rfl⟩)

set_option maxHeartbeats 4000000 in
set_option maxRecDepth 100000 in
theorem c_X7_push (l : Launch) (G : ga_G) (aM : Nat) (mT : Nat) (mF : Nat) (mO : Nat) (mC : Nat) (mR : Nat) (mZ : Nat) (mS : Nat) (mH : Nat) (mL : Nat) (mN : Nat) (mX : Nat) (mY : Nat) (tl : Nat) (n : Nat) (k : Nat) (li : Nat) (fa : Nat) (mm : Nat) (im : Bool) (ird : Bool) (itn : Bool) (lsz : Nat) (tu : Nat) (tm : Nat → Int32) (wd : Int32) (ht : tl ≤ 36) : ga_M l G yX7_push cX7_push 3 (Option.none : Option Jvm.ClassFile.FieldType) 0 0 0 0 [.ref aM, .int wd] [(aM, .inr (7, [.ref mT, .int (nI tl), .int (nI n), .int (nI k), .ref mF, .ref mO, .ref mC, .int (nI li), .int (nI fa), .int (nI mm), .int (bI im), .ref mR, .ref mZ, .ref mS, .ref mH, .int (bI ird), .int (bI itn), .int (nI lsz), .ref mL, .ref mN, .ref mX, .ref mY, .int (nI tu)])), (mT, .inl (G.2.1, 40, .inl tm))] (fun r w => ∃ (g : Nat → Int32), (∀ j, j < tl → g j = tm j) ∧ (∀ q, q < 4 → g (tl + q) = sgb (byt wd (3 - q))) ∧ r = none ∧ w = [(aM, .inr (7, [.ref mT, .int (nI (tl + 4)), .int (nI n), .int (nI k), .ref mF, .ref mO, .ref mC, .int (nI li), .int (nI fa), .int (nI mm), .int (bI im), .ref mR, .ref mZ, .ref mS, .ref mH, .int (bI ird), .int (bI itn), .int (nI lsz), .ref mL, .ref mN, .ref mX, .ref mY, .int (nI tu)])), (mT, .inl (G.2.1, 40, .inl g))]) := by
  refine ga_M.intro (by decide) (Nat.le_of_ble_eq_true rfl) (fun p_ e_ s_ m_ below meth c_ A_ H_ locs_ ls cx hr hlk hnm hA hK hl w => ?_)
  have hx := cx.1
  have hb := cx.2.1
  have hl : lv_has ls 3 [(0, .ref aM), (1, .int wd)] := hl
  refine lv_bipush (v := nI 24) hx hb dX7_push_0 (by decide) ?_
  refine lv_istore_n (lv' := [(2, .int (nI 24)), (0, .ref aM), (1, .int wd)]) hx hb dX7_push_2 rfl hl (by decide) rfl (fun ls hl => ?_)
  have loop3 : ∀ (n_ : Nat) (q : Nat) (x : Int32) (g : Nat → Int32) (hq : q ≤ 4) (hx3 : x = nI 24 - nI (8 * q)) (h1 : ∀ j, j < tl → g j = tm j) (h2 : ∀ u, u < q → g (tl + u) = sgb (byt wd (3 - u))) (hm : 4 - q < n_) (H_ : Heap) (locs_ : List Loc) (ls : Array Slot) (hl : lv_has ls 3 [(2, .int x), (0, .ref aM), (1, .int wd)]) (w : ga_wd G A_ s_ H_ locs_ [(aM, .inr (7, [.ref mT, .int (nI (tl + q)), .int (nI n), .int (nI k), .ref mF, .ref mO, .ref mC, .int (nI li), .int (nI fa), .int (nI mm), .int (bI im), .ref mR, .ref mZ, .ref mS, .ref mH, .int (bI ird), .int (bI itn), .int (nI lsz), .ref mL, .ref mN, .ref mX, .ref mY, .int (nI tu)])), (mT, .inl (G.2.1, 40, .inl g))]), W p_ l e_ { frames := 0, cells := 0, slots := 0, locals := 0 } s_ m_ [.ref aM, .int wd].toArray below meth c_ H_ locs_ (0) (0) (MQ below (ga_Q G A_ (fun r w => ∃ (g : Nat → Int32), (∀ j, j < tl → g j = tm j) ∧ (∀ q, q < 4 → g (tl + q) = sgb (byt wd (3 - q))) ∧ r = none ∧ w = [(aM, .inr (7, [.ref mT, .int (nI (tl + 4)), .int (nI n), .int (nI k), .ref mF, .ref mO, .ref mC, .int (nI li), .int (nI fa), .int (nI mm), .int (bI im), .ref mR, .ref mZ, .ref mS, .ref mH, .int (bI ird), .int (bI itn), .int (nI lsz), .ref mL, .ref mN, .ref mX, .ref mY, .int (nI tu)])), (mT, .inl (G.2.1, 40, .inl g))])) [.ref aM, .int wd].toArray s_ 0 0 A_) (F0 m_ 3 ls []) := by
    intro n_
    induction n_ with
    | zero => intro q x g hq hx3 h1 h2 hm; exact absurd hm (Nat.not_lt_zero _)
    | succ n_ ih3 =>
      intro q x g hq hx3 h1 h2 hm3 H_ locs_ ls hl w
      refine lv_iload_n hx hb dX7_push_3 rfl (lv_at hl 0 rfl) ?_
      rcases Nat.lt_or_ge q 4 with hq0 | hq0
      · have hx4 : x = nI (8 * (3 - q)) := by rw [hx3, pk_sub (by omega)]; congr 1; omega
        subst hx4
        refine r_if_lt hx hb dX7_push_4 (tgt := 36) (by decide) (by omega) (fun c4 => ?_) (fun c4 => ?_)
        · omega
        · refine lv_aload_n hx hb dX7_push_7 rfl (lv_at hl 1 rfl) ?_
          refine gf_X7_7 cx hK w 0 rfl rfl dX7_push_8 ?_
          refine lv_aload_n hx hb dX7_push_11 rfl (lv_at hl 1 rfl) ?_
          refine gf_X7_136 cx hK w 0 rfl rfl dX7_push_12 ?_
          refine lv_iload_n hx hb dX7_push_15 rfl (lv_at hl 2 rfl) ?_
          refine lv_iload_n hx hb dX7_push_16 rfl (lv_at hl 0 rfl) ?_
          refine lv_ishr hx hb dX7_push_17 ?_
          refine lv_i2b hx hb dX7_push_18 rfl ?_
          refine r_bast hx hb hK w 1 rfl dX7_push_19 (by omega) (by decide) (fun H_ locs_ w => ?_)
          have w : ga_wd G A_ s_ H_ locs_ [(aM, .inr (7, [.ref mT, .int (nI (tl + q)), .int (nI n), .int (nI k), .ref mF, .ref mO, .ref mC, .int (nI li), .int (nI fa), .int (nI mm), .int (bI im), .ref mR, .ref mZ, .ref mS, .ref mH, .int (bI ird), .int (bI itn), .int (nI lsz), .ref mL, .ref mN, .ref mX, .ref mY, .int (nI tu)])), (mT, .inl (G.2.1, 40, .inl (upd g (tl + q) (vp_nar .byte ((wd >>> ((nI (8 * (3 - q))) &&& 31)).toInt8.toInt32)))))] := w
          refine lv_aload_n hx hb dX7_push_20 rfl (lv_at hl 1 rfl) ?_
          refine lv_dup hx hb dX7_push_21 rfl ?_
          refine gf_X7_136 cx hK w 0 rfl rfl dX7_push_22 ?_
          refine lv_iconst (v := nI 1) hx hb dX7_push_25 (by decide) ?_
          refine r_iadd hx hb dX7_push_26 ?_
          refine pf_X7_136 cx hK w 0 rfl rfl rfl (Nat.le_of_ble_eq_true rfl) dX7_push_27 (fun H_ locs_ w => ?_)
          have w : ga_wd G A_ s_ H_ locs_ [(aM, .inr (7, [.ref mT, .int (nI ((tl + q) + 1)), .int (nI n), .int (nI k), .ref mF, .ref mO, .ref mC, .int (nI li), .int (nI fa), .int (nI mm), .int (bI im), .ref mR, .ref mZ, .ref mS, .ref mH, .int (bI ird), .int (bI itn), .int (nI lsz), .ref mL, .ref mN, .ref mX, .ref mY, .int (nI tu)])), (mT, .inl (G.2.1, 40, .inl (upd g (tl + q) (vp_nar .byte ((wd >>> ((nI (8 * (3 - q))) &&& 31)).toInt8.toInt32)))))] := w
          refine lv_iinc (k := 0) (lv' := [(2, .int (nI (8 * (3 - q)) + Int32.ofInt (-8))), (0, .ref aM), (1, .int wd)]) hx hb dX7_push_30 hl rfl rfl (by decide) rfl (fun ls hl => ?_)
          refine lv_goto (tgt := 3) hx hb dX7_push_33 (by decide) ?_
          exact ih3 (q + 1) (nI (8 * (3 - q)) + Int32.ofInt (-8)) (upd g (tl + q) (vp_nar .byte ((wd >>> ((nI (8 * (3 - q))) &&& 31)).toInt8.toInt32))) (by omega) (dec_8 hq0) (fun j hj => by rw [pk_un (by omega)]; exact h1 j hj) (fun u hu => by rcases Nat.lt_or_ge u q with h | h; (rw [pk_un (by omega)]; exact h2 u h); (rw [show u = q by omega, pk_us, sgb_byt wd (by omega)])) (by omega) _ _ _ (lv_sub hl [0, 1, 2] rfl) w
      · have hx4 : x = -8 := by rw [hx3, show q = 4 by omega]; decide
        subst hx4
        refine lv_if_lt hx hb dX7_push_4 (tgt := 36) (by decide) (fun c4 => ?_) (fun c4 => ?_)
        · exact ga_vret cx hr hlk w dX7_push_36 ⟨Nat.le_refl _, Nat.le_refl _⟩ (⟨g, h1, fun u hu => h2 u (by omega), rfl, by rw [show q = 4 by omega]⟩)
        · exact absurd (by decide) c4
  exact loop3 _ 0 (nI 24) tm (by omega) (by decide) (fun j _ => rfl) (fun u h => absurd h (Nat.not_lt_zero _)) (Nat.lt_succ_self _) _ _ _ (lv_sub hl [0, 1, 2] rfl) w

set_option maxHeartbeats 4000000 in
set_option maxRecDepth 100000 in
theorem c_X7_feed_t (l : Launch) (G : ga_G) (aM : Nat) (mT : Nat) (mF : Nat) (mO : Nat) (mC : Nat) (mR : Nat) (mZ : Nat) (mS : Nat) (mH : Nat) (mL : Nat) (mN : Nat) (mX : Nat) (mY : Nat) (tl : Nat) (n : Nat) (k : Nat) (li : Nat) (fa : Nat) (mm : Nat) (im : Bool) (ird : Bool) (itn : Bool) (lsz : Nat) (tu : Nat) (tm : Nat → Int32) (wa : Int32) (wb : Int32) (wc : Int32) (we : Int32) (wf : Int32) (ht : tl ≤ 20) : ga_M l G yX7_feed cX7_feed 6 (Option.some Jvm.ClassFile.FieldType.int) 1 22 0 0 [.ref aM, .int wa, .int wb, .int wc, .int we, .int wf] [(aM, .inr (7, [.ref mT, .int (nI tl), .int (nI n), .int (nI k), .ref mF, .ref mO, .ref mC, .int (nI li), .int (nI fa), .int (nI mm), .int (bI im), .ref mR, .ref mZ, .ref mS, .ref mH, .int (bI ird), .int (bI itn), .int (nI lsz), .ref mL, .ref mN, .ref mX, .ref mY, .int (nI tu)])), (mT, .inl (G.2.1, 40, .inl tm))] (fun r w => ∃ (g : Nat → Int32), (feedM tl tm g wa wb wc we wf) ∧ r = some (.int (nI (tl + 20))) ∧ w = [(aM, .inr (7, [.ref mT, .int (nI (tl + 20)), .int (nI n), .int (nI k), .ref mF, .ref mO, .ref mC, .int (nI li), .int (nI fa), .int (nI mm), .int (bI im), .ref mR, .ref mZ, .ref mS, .ref mH, .int (bI ird), .int (bI itn), .int (nI lsz), .ref mL, .ref mN, .ref mX, .ref mY, .int (nI tu)])), (mT, .inl (G.2.1, 40, .inl g))]) := by
  refine ga_M.intro (by decide) (Nat.le_of_ble_eq_true rfl) (fun p_ e_ s_ m_ below meth c_ A_ H_ locs_ ls cx hr hlk hnm hA hK hl w => ?_)
  have hx := cx.1
  have hb := cx.2.1
  have hl : lv_has ls 6 [(0, .ref aM), (1, .int wa), (2, .int wb), (3, .int wc), (4, .int we), (5, .int wf)] := hl
  refine lv_aload_n hx hb dX7_feed_0 rfl (lv_at hl 0 rfl) ?_
  refine gf_X7_136 cx hK w 0 rfl rfl dX7_feed_1 ?_
  refine lv_bipush (v := nI 20) hx hb dX7_feed_4 (by decide) ?_
  refine r_iadd hx hb dX7_feed_6 ?_
  refine lv_bipush (v := nI 40) hx hb dX7_feed_7 (by decide) ?_
  refine r_icmp_le hx hb dX7_feed_9 (tgt := 14) (by decide) (by omega) (by omega) (fun c9 => ?_) (fun c9 => ?_)
  · refine lv_aload_n hx hb dX7_feed_14 rfl (lv_at hl 0 rfl) ?_
    refine lv_iload_n hx hb dX7_feed_15 rfl (lv_at hl 1 rfl) ?_
    refine ga_callV (rest := []) (wr := []) cx hK hA w hl lk_X7_139 (c_X7_push l G aM mT mF mO mC mR mZ mS mH mL mN mX mY tl n k li fa mm im ird itn lsz tu tm wa (by omega)) ⟨Nat.le_of_ble_eq_true rfl, Nat.le_of_ble_eq_true rfl⟩ [0, 1] [] rfl rfl (by decide) (by decide) (by decide) 0 7 rfl rfl rfl rfl (Nat.le_of_ble_eq_true rfl) dX7_feed_16 ⟨Nat.le_refl _, Nat.le_refl _⟩ rfl (fun r w1_ H_ locs_ hp w => ?_)
    obtain ⟨g1, p1, q1, rfl, rfl⟩ := hp
    have w : ga_wd G A_ s_ H_ locs_ [(aM, .inr (7, [.ref mT, .int (nI (tl + 4)), .int (nI n), .int (nI k), .ref mF, .ref mO, .ref mC, .int (nI li), .int (nI fa), .int (nI mm), .int (bI im), .ref mR, .ref mZ, .ref mS, .ref mH, .int (bI ird), .int (bI itn), .int (nI lsz), .ref mL, .ref mN, .ref mX, .ref mY, .int (nI tu)])), (mT, .inl (G.2.1, 40, .inl g1))] := ga_perm w [0, 1] (by decide) rfl
    refine W.eq (g2 := F0 m_ 19 ls []) rfl ?_
    refine lv_aload_n hx hb dX7_feed_19 rfl (lv_at hl 0 rfl) ?_
    refine lv_iload_n hx hb dX7_feed_20 rfl (lv_at hl 2 rfl) ?_
    refine ga_callV (rest := []) (wr := []) cx hK hA w hl lk_X7_139 (c_X7_push l G aM mT mF mO mC mR mZ mS mH mL mN mX mY (tl + 4) n k li fa mm im ird itn lsz tu g1 wb (by omega)) ⟨Nat.le_of_ble_eq_true rfl, Nat.le_of_ble_eq_true rfl⟩ [0, 1] [] rfl rfl (by decide) (by decide) (by decide) 0 7 rfl rfl rfl rfl (Nat.le_of_ble_eq_true rfl) dX7_feed_21 ⟨Nat.le_refl _, Nat.le_refl _⟩ rfl (fun r w1_ H_ locs_ hp w => ?_)
    obtain ⟨g2, p2, q2, rfl, rfl⟩ := hp
    have w : ga_wd G A_ s_ H_ locs_ [(aM, .inr (7, [.ref mT, .int (nI ((tl + 4) + 4)), .int (nI n), .int (nI k), .ref mF, .ref mO, .ref mC, .int (nI li), .int (nI fa), .int (nI mm), .int (bI im), .ref mR, .ref mZ, .ref mS, .ref mH, .int (bI ird), .int (bI itn), .int (nI lsz), .ref mL, .ref mN, .ref mX, .ref mY, .int (nI tu)])), (mT, .inl (G.2.1, 40, .inl g2))] := ga_perm w [0, 1] (by decide) rfl
    refine W.eq (g2 := F0 m_ 24 ls []) rfl ?_
    refine lv_aload_n hx hb dX7_feed_24 rfl (lv_at hl 0 rfl) ?_
    refine lv_iload_n hx hb dX7_feed_25 rfl (lv_at hl 3 rfl) ?_
    refine ga_callV (rest := []) (wr := []) cx hK hA w hl lk_X7_139 (c_X7_push l G aM mT mF mO mC mR mZ mS mH mL mN mX mY ((tl + 4) + 4) n k li fa mm im ird itn lsz tu g2 wc (by omega)) ⟨Nat.le_of_ble_eq_true rfl, Nat.le_of_ble_eq_true rfl⟩ [0, 1] [] rfl rfl (by decide) (by decide) (by decide) 0 7 rfl rfl rfl rfl (Nat.le_of_ble_eq_true rfl) dX7_feed_26 ⟨Nat.le_refl _, Nat.le_refl _⟩ rfl (fun r w1_ H_ locs_ hp w => ?_)
    obtain ⟨g3, p3, q3, rfl, rfl⟩ := hp
    have w : ga_wd G A_ s_ H_ locs_ [(aM, .inr (7, [.ref mT, .int (nI (((tl + 4) + 4) + 4)), .int (nI n), .int (nI k), .ref mF, .ref mO, .ref mC, .int (nI li), .int (nI fa), .int (nI mm), .int (bI im), .ref mR, .ref mZ, .ref mS, .ref mH, .int (bI ird), .int (bI itn), .int (nI lsz), .ref mL, .ref mN, .ref mX, .ref mY, .int (nI tu)])), (mT, .inl (G.2.1, 40, .inl g3))] := ga_perm w [0, 1] (by decide) rfl
    refine W.eq (g2 := F0 m_ 29 ls []) rfl ?_
    refine lv_aload_n hx hb dX7_feed_29 rfl (lv_at hl 0 rfl) ?_
    refine lv_iload hx hb dX7_feed_30 (lv_at hl 4 rfl) ?_
    refine ga_callV (rest := []) (wr := []) cx hK hA w hl lk_X7_139 (c_X7_push l G aM mT mF mO mC mR mZ mS mH mL mN mX mY (((tl + 4) + 4) + 4) n k li fa mm im ird itn lsz tu g3 we (by omega)) ⟨Nat.le_of_ble_eq_true rfl, Nat.le_of_ble_eq_true rfl⟩ [0, 1] [] rfl rfl (by decide) (by decide) (by decide) 0 7 rfl rfl rfl rfl (Nat.le_of_ble_eq_true rfl) dX7_feed_32 ⟨Nat.le_refl _, Nat.le_refl _⟩ rfl (fun r w1_ H_ locs_ hp w => ?_)
    obtain ⟨g4, p4, q4, rfl, rfl⟩ := hp
    have w : ga_wd G A_ s_ H_ locs_ [(aM, .inr (7, [.ref mT, .int (nI ((((tl + 4) + 4) + 4) + 4)), .int (nI n), .int (nI k), .ref mF, .ref mO, .ref mC, .int (nI li), .int (nI fa), .int (nI mm), .int (bI im), .ref mR, .ref mZ, .ref mS, .ref mH, .int (bI ird), .int (bI itn), .int (nI lsz), .ref mL, .ref mN, .ref mX, .ref mY, .int (nI tu)])), (mT, .inl (G.2.1, 40, .inl g4))] := ga_perm w [0, 1] (by decide) rfl
    refine W.eq (g2 := F0 m_ 35 ls []) rfl ?_
    refine lv_aload_n hx hb dX7_feed_35 rfl (lv_at hl 0 rfl) ?_
    refine lv_iload hx hb dX7_feed_36 (lv_at hl 5 rfl) ?_
    refine ga_callV (rest := []) (wr := []) cx hK hA w hl lk_X7_139 (c_X7_push l G aM mT mF mO mC mR mZ mS mH mL mN mX mY ((((tl + 4) + 4) + 4) + 4) n k li fa mm im ird itn lsz tu g4 wf (by omega)) ⟨Nat.le_of_ble_eq_true rfl, Nat.le_of_ble_eq_true rfl⟩ [0, 1] [] rfl rfl (by decide) (by decide) (by decide) 0 7 rfl rfl rfl rfl (Nat.le_of_ble_eq_true rfl) dX7_feed_38 ⟨Nat.le_refl _, Nat.le_refl _⟩ rfl (fun r w1_ H_ locs_ hp w => ?_)
    obtain ⟨g5, p5, q5, rfl, rfl⟩ := hp
    have w : ga_wd G A_ s_ H_ locs_ [(aM, .inr (7, [.ref mT, .int (nI (((((tl + 4) + 4) + 4) + 4) + 4)), .int (nI n), .int (nI k), .ref mF, .ref mO, .ref mC, .int (nI li), .int (nI fa), .int (nI mm), .int (bI im), .ref mR, .ref mZ, .ref mS, .ref mH, .int (bI ird), .int (bI itn), .int (nI lsz), .ref mL, .ref mN, .ref mX, .ref mY, .int (nI tu)])), (mT, .inl (G.2.1, 40, .inl g5))] := ga_perm w [0, 1] (by decide) rfl
    refine W.eq (g2 := F0 m_ 41 ls []) rfl ?_
    refine lv_aload_n hx hb dX7_feed_41 rfl (lv_at hl 0 rfl) ?_
    refine gf_X7_136 cx hK w 0 rfl rfl dX7_feed_42 ?_
    exact ga_iret cx hr hlk w dX7_feed_45 ⟨Nat.le_refl _, Nat.le_refl _⟩ (⟨g5, feedM_5 p1 q1 p2 q2 p3 q3 p4 q4 p5 q5, rfl, rfl⟩)
  · omega

set_option maxHeartbeats 4000000 in
set_option maxRecDepth 100000 in
theorem c_X7_feed_f (l : Launch) (G : ga_G) (aM : Nat) (mT : Nat) (mF : Nat) (mO : Nat) (mC : Nat) (mR : Nat) (mZ : Nat) (mS : Nat) (mH : Nat) (mL : Nat) (mN : Nat) (mX : Nat) (mY : Nat) (tl : Nat) (n : Nat) (k : Nat) (li : Nat) (fa : Nat) (mm : Nat) (im : Bool) (ird : Bool) (itn : Bool) (lsz : Nat) (tu : Nat) (wa : Int32) (wb : Int32) (wc : Int32) (we : Int32) (wf : Int32) (ht : ¬ tl ≤ 20) (ht2 : tl ≤ 40) : ga_M l G yX7_feed cX7_feed 6 (Option.some Jvm.ClassFile.FieldType.int) 0 0 0 0 [.ref aM, .int wa, .int wb, .int wc, .int we, .int wf] [(aM, .inr (7, [.ref mT, .int (nI tl), .int (nI n), .int (nI k), .ref mF, .ref mO, .ref mC, .int (nI li), .int (nI fa), .int (nI mm), .int (bI im), .ref mR, .ref mZ, .ref mS, .ref mH, .int (bI ird), .int (bI itn), .int (nI lsz), .ref mL, .ref mN, .ref mX, .ref mY, .int (nI tu)]))] (fun r w => r = some (.int (-1)) ∧ w = [(aM, .inr (7, [.ref mT, .int (nI tl), .int (nI n), .int (nI k), .ref mF, .ref mO, .ref mC, .int (nI li), .int (nI fa), .int (nI mm), .int (bI im), .ref mR, .ref mZ, .ref mS, .ref mH, .int (bI ird), .int (bI itn), .int (nI lsz), .ref mL, .ref mN, .ref mX, .ref mY, .int (nI tu)]))]) := by
  refine ga_M.intro (by decide) (Nat.le_of_ble_eq_true rfl) (fun p_ e_ s_ m_ below meth c_ A_ H_ locs_ ls cx hr hlk hnm hA hK hl w => ?_)
  have hx := cx.1
  have hb := cx.2.1
  have hl : lv_has ls 6 [(0, .ref aM), (1, .int wa), (2, .int wb), (3, .int wc), (4, .int we), (5, .int wf)] := hl
  refine lv_aload_n hx hb dX7_feed_0 rfl (lv_at hl 0 rfl) ?_
  refine gf_X7_136 cx hK w 0 rfl rfl dX7_feed_1 ?_
  refine lv_bipush (v := nI 20) hx hb dX7_feed_4 (by decide) ?_
  refine r_iadd hx hb dX7_feed_6 ?_
  refine lv_bipush (v := nI 40) hx hb dX7_feed_7 (by decide) ?_
  refine r_icmp_le hx hb dX7_feed_9 (tgt := 14) (by decide) (by omega) (by omega) (fun c9 => ?_) (fun c9 => ?_)
  · omega
  · refine lv_iconst (v := (-1)) hx hb dX7_feed_12 (by decide) ?_
    exact ga_iret cx hr hlk w dX7_feed_13 ⟨Nat.le_refl _, Nat.le_refl _⟩ (⟨rfl, rfl⟩)

set_option maxHeartbeats 4000000 in
set_option maxRecDepth 100000 in
theorem c_X7_look (l : Launch) (G : ga_G) (aM : Nat) (mT : Nat) (mF : Nat) (mO : Nat) (mC : Nat) (mR : Nat) (mZ : Nat) (mS : Nat) (mH : Nat) (mL : Nat) (mN : Nat) (mX : Nat) (mY : Nat) (tl : Nat) (n : Nat) (k : Nat) (li : Nat) (fa : Nat) (mm : Nat) (im : Bool) (ird : Bool) (itn : Bool) (lsz : Nat) (tu : Nat) (fr : Nat → Nat) (to : Nat → Nat) (ct : Nat → Nat) (x : Int32) (y : Int32) (hk : k ≤ 16) (hli : li < 65536) : ga_M l G yX7_look cX7_look 3 (Option.some Jvm.ClassFile.FieldType.int) 2 46 0 0 [.ref aM, .int x, .int y] [(aM, .inr (7, [.ref mT, .int (nI tl), .int (nI n), .int (nI k), .ref mF, .ref mO, .ref mC, .int (nI li), .int (nI fa), .int (nI mm), .int (bI im), .ref mR, .ref mZ, .ref mS, .ref mH, .int (bI ird), .int (bI itn), .int (nI lsz), .ref mL, .ref mN, .ref mX, .ref mY, .int (nI tu)])), (mF, .inl (G.2.2, 16, .inl (aN fr))), (mO, .inl (G.2.2, 16, .inl (aN to))), (mC, .inl (G.2.2, 16, .inl (aN ct)))] (fun r w => r = some (.int (sLook k li fr to ct x y)) ∧ w = [(aM, .inr (7, [.ref mT, .int (nI tl), .int (nI n), .int (nI k), .ref mF, .ref mO, .ref mC, .int (nI li), .int (nI fa), .int (nI mm), .int (bI im), .ref mR, .ref mZ, .ref mS, .ref mH, .int (bI ird), .int (bI itn), .int (nI lsz), .ref mL, .ref mN, .ref mX, .ref mY, .int (nI tu)])), (mF, .inl (G.2.2, 16, .inl (aN fr))), (mO, .inl (G.2.2, 16, .inl (aN to))), (mC, .inl (G.2.2, 16, .inl (aN ct)))]) := by
  refine ga_M.intro (by decide) (Nat.le_of_ble_eq_true rfl) (fun p_ e_ s_ m_ below meth c_ A_ H_ locs_ ls cx hr hlk hnm hA hK hl w => ?_)
  have hx := cx.1
  have hb := cx.2.1
  have hl : lv_has ls 3 [(0, .ref aM), (1, .int x), (2, .int y)] := hl
  refine lv_aload_n hx hb dX7_look_0 rfl (lv_at hl 0 rfl) ?_
  refine lv_iload_n hx hb dX7_look_1 rfl (lv_at hl 1 rfl) ?_
  refine ga_callV (rest := []) (wr := [(mF, .inl (G.2.2, 16, .inl (aN fr))), (mO, .inl (G.2.2, 16, .inl (aN to))), (mC, .inl (G.2.2, 16, .inl (aN ct)))]) cx hK hA w hl lk_X7_75 (c_X7_isStep l G aM mT mF mO mC mR mZ mS mH mL mN mX mY tl n k li fa mm im ird itn lsz tu x (by omega)) ⟨Nat.le_of_ble_eq_true rfl, Nat.le_of_ble_eq_true rfl⟩ [0] [1, 2, 3] rfl rfl (by decide) (by decide) (by decide) 0 7 rfl rfl rfl rfl (Nat.le_of_ble_eq_true rfl) dX7_look_2 ⟨Nat.le_refl _, Nat.le_refl _⟩ rfl (fun r w1_ H_ locs_ hp w => ?_)
  obtain ⟨rfl, rfl⟩ := hp
  have w : ga_wd G A_ s_ H_ locs_ [(aM, .inr (7, [.ref mT, .int (nI tl), .int (nI n), .int (nI k), .ref mF, .ref mO, .ref mC, .int (nI li), .int (nI fa), .int (nI mm), .int (bI im), .ref mR, .ref mZ, .ref mS, .ref mH, .int (bI ird), .int (bI itn), .int (nI lsz), .ref mL, .ref mN, .ref mX, .ref mY, .int (nI tu)])), (mF, .inl (G.2.2, 16, .inl (aN fr))), (mO, .inl (G.2.2, 16, .inl (aN to))), (mC, .inl (G.2.2, 16, .inl (aN ct)))] := ga_perm w [3, 0, 1, 2] (by decide) rfl
  refine W.eq (g2 := F0 m_ 5 ls [.int (bI (inB x k))]) rfl ?_
  refine r_ifb_ne hx hb dX7_look_5 (tgt := 10) (by decide) (fun c5 => ?_) (fun c5 => ?_)
  · obtain ⟨j, hj, rfl⟩ := inB_of (by omega) c5
    have hjx : inB (nI j) k = true := c5
    refine lv_iload_n hx hb dX7_look_10 rfl (lv_at hl 2 rfl) ?_
    by_cases t11 : y.toInt < 0 ∨ 3 < y.toInt
    · refine lv_tableOut (tgt := 78) hx hb dX7_look_11 t11 (by decide) ?_
      refine lv_iconst (v := (-1)) hx hb dX7_look_78 (by decide) ?_
      exact ga_iret cx hr hlk w dX7_look_79 ⟨Nat.le_refl _, Nat.le_refl _⟩ (⟨ga_rv (sLook_x hjx t11).symm, rfl⟩)
    · have t11n : y.toInt = 0 ∨ y.toInt = 1 ∨ y.toInt = 2 ∨ y.toInt = 3 := by omega
      rcases t11n with t11j | t11j | t11j | t11j
      · refine lv_tableIn (tgt := 40) hx hb dX7_look_11 (by rw [t11j]; decide) (by rw [t11j]; decide) (off := 29) (by rw [t11j]; rfl) (by decide) ?_
        refine lv_aload_n hx hb dX7_look_40 rfl (lv_at hl 0 rfl) ?_
        refine gf_X7_17 cx hK w 0 rfl rfl dX7_look_41 ?_
        refine lv_iload_n hx hb dX7_look_44 rfl (lv_at hl 1 rfl) ?_
        refine r_ialdN hx hb hK w 1 rfl dX7_look_45 (by omega) (by decide) ?_
        exact ga_iret cx hr hlk w dX7_look_46 ⟨Nat.le_refl _, Nat.le_refl _⟩ (⟨ga_rv (sLook_0 hjx t11j (by omega)).symm, rfl⟩)
      · refine lv_tableIn (tgt := 47) hx hb dX7_look_11 (by rw [t11j]; decide) (by rw [t11j]; decide) (off := 36) (by rw [t11j]; rfl) (by decide) ?_
        refine lv_aload_n hx hb dX7_look_47 rfl (lv_at hl 0 rfl) ?_
        refine gf_X7_21 cx hK w 0 rfl rfl dX7_look_48 ?_
        refine lv_iload_n hx hb dX7_look_51 rfl (lv_at hl 1 rfl) ?_
        refine r_ialdN hx hb hK w 2 rfl dX7_look_52 (by omega) (by decide) ?_
        exact ga_iret cx hr hlk w dX7_look_53 ⟨Nat.le_refl _, Nat.le_refl _⟩ (⟨ga_rv (sLook_1 hjx t11j (by omega)).symm, rfl⟩)
      · refine lv_tableIn (tgt := 54) hx hb dX7_look_11 (by rw [t11j]; decide) (by rw [t11j]; decide) (off := 43) (by rw [t11j]; rfl) (by decide) ?_
        refine lv_aload_n hx hb dX7_look_54 rfl (lv_at hl 0 rfl) ?_
        refine gf_X7_24 cx hK w 0 rfl rfl dX7_look_55 ?_
        refine lv_iload_n hx hb dX7_look_58 rfl (lv_at hl 1 rfl) ?_
        refine r_ialdN hx hb hK w 3 rfl dX7_look_59 (by omega) (by decide) ?_
        exact ga_iret cx hr hlk w dX7_look_60 ⟨Nat.le_refl _, Nat.le_refl _⟩ (⟨ga_rv (sLook_2 hjx t11j (by omega)).symm, rfl⟩)
      · refine lv_tableIn (tgt := 61) hx hb dX7_look_11 (by rw [t11j]; decide) (by rw [t11j]; decide) (off := 50) (by rw [t11j]; rfl) (by decide) ?_
        refine lv_aload_n hx hb dX7_look_61 rfl (lv_at hl 0 rfl) ?_
        refine gf_X7_63 cx hK w 0 rfl rfl dX7_look_62 ?_
        refine lv_iload_n hx hb dX7_look_65 rfl (lv_at hl 1 rfl) ?_
        refine ga_callS (rest := []) (wr := [(aM, .inr (7, [.ref mT, .int (nI tl), .int (nI n), .int (nI k), .ref mF, .ref mO, .ref mC, .int (nI li), .int (nI fa), .int (nI mm), .int (bI im), .ref mR, .ref mZ, .ref mS, .ref mH, .int (bI ird), .int (bI itn), .int (nI lsz), .ref mL, .ref mN, .ref mX, .ref mY, .int (nI tu)])), (mF, .inl (G.2.2, 16, .inl (aN fr))), (mO, .inl (G.2.2, 16, .inl (aN to))), (mC, .inl (G.2.2, 16, .inl (aN ct)))]) cx hK hA w hl lk_X7_79 (c_X7_isIn l G li j (by omega) (by omega)) ⟨Nat.le_of_ble_eq_true rfl, Nat.le_of_ble_eq_true rfl⟩ [] [0, 1, 2, 3] rfl rfl (by decide) (by decide) (by decide) rfl (Nat.le_of_ble_eq_true rfl) dX7_look_66 ⟨Nat.le_refl _, Nat.le_refl _⟩ rfl (fun r w1_ H_ locs_ hp w => ?_)
        obtain ⟨rfl, rfl⟩ := hp
        have w : ga_wd G A_ s_ H_ locs_ [(aM, .inr (7, [.ref mT, .int (nI tl), .int (nI n), .int (nI k), .ref mF, .ref mO, .ref mC, .int (nI li), .int (nI fa), .int (nI mm), .int (bI im), .ref mR, .ref mZ, .ref mS, .ref mH, .int (bI ird), .int (bI itn), .int (nI lsz), .ref mL, .ref mN, .ref mX, .ref mY, .int (nI tu)])), (mF, .inl (G.2.2, 16, .inl (aN fr))), (mO, .inl (G.2.2, 16, .inl (aN to))), (mC, .inl (G.2.2, 16, .inl (aN ct)))] := ga_perm w [0, 1, 2, 3] (by decide) rfl
        refine W.eq (g2 := F0 m_ 69 ls [.int (bI (Nat.testBit li j))]) rfl ?_
        refine r_ifb_eq hx hb dX7_look_69 (tgt := 76) (by decide) (fun c69 => ?_) (fun c69 => ?_)
        · refine lv_iconst (v := nI 0) hx hb dX7_look_76 (by decide) ?_
          exact ga_iret cx hr hlk w dX7_look_77 ⟨Nat.le_refl _, Nat.le_refl _⟩ (⟨ga_rv (by rw [sLook_3 hjx t11j (by omega), c69]; rfl), rfl⟩)
        · refine lv_iconst (v := nI 1) hx hb dX7_look_72 (by decide) ?_
          refine lv_goto (tgt := 77) hx hb dX7_look_73 (by decide) ?_
          exact ga_iret cx hr hlk w dX7_look_77 ⟨Nat.le_refl _, Nat.le_refl _⟩ (⟨ga_rv (by rw [sLook_3 hjx t11j (by omega), c69]; rfl), rfl⟩)
  · refine lv_iconst (v := (-1)) hx hb dX7_look_8 (by decide) ?_
    exact ga_iret cx hr hlk w dX7_look_9 ⟨Nat.le_refl _, Nat.le_refl _⟩ (⟨ga_rv (by rw [sLook, c5]; rfl), rfl⟩)

set_option maxHeartbeats 4000000 in
set_option maxRecDepth 100000 in
theorem c_X7_count (l : Launch) (G : ga_G) (aM : Nat) (mT : Nat) (mF : Nat) (mO : Nat) (mC : Nat) (mR : Nat) (mZ : Nat) (mS : Nat) (mH : Nat) (mL : Nat) (mN : Nat) (mX : Nat) (mY : Nat) (tl : Nat) (n : Nat) (k : Nat) (li : Nat) (fa : Nat) (mm : Nat) (im : Bool) (ird : Bool) (itn : Bool) (lsz : Nat) (tu : Nat) (ct : Nat → Nat) (y : Int32) (hk : k ≤ 16) (hn : n ≤ 12) (hc : ∀ e, e < k → ct e ≤ 1000000) (hli : li < 65536) (hfa : fa < 65536) (htl : tl ≤ 40) : ga_M l G yX7_count cX7_count 2 (Option.some Jvm.ClassFile.FieldType.long) 2 45 0 0 [.ref aM, .int y] [(aM, .inr (7, [.ref mT, .int (nI tl), .int (nI n), .int (nI k), .ref mF, .ref mO, .ref mC, .int (nI li), .int (nI fa), .int (nI mm), .int (bI im), .ref mR, .ref mZ, .ref mS, .ref mH, .int (bI ird), .int (bI itn), .int (nI lsz), .ref mL, .ref mN, .ref mX, .ref mY, .int (nI tu)])), (mC, .inl (G.2.2, 16, .inl (aN ct)))] (fun r w => r = some (.long (sCount n k li fa ct tl y)) ∧ w = [(aM, .inr (7, [.ref mT, .int (nI tl), .int (nI n), .int (nI k), .ref mF, .ref mO, .ref mC, .int (nI li), .int (nI fa), .int (nI mm), .int (bI im), .ref mR, .ref mZ, .ref mS, .ref mH, .int (bI ird), .int (bI itn), .int (nI lsz), .ref mL, .ref mN, .ref mX, .ref mY, .int (nI tu)])), (mC, .inl (G.2.2, 16, .inl (aN ct)))]) := by
  refine ga_M.intro (by decide) (Nat.le_of_ble_eq_true rfl) (fun p_ e_ s_ m_ below meth c_ A_ H_ locs_ ls cx hr hlk hnm hA hK hl w => ?_)
  have hx := cx.1
  have hb := cx.2.1
  have hl : lv_has ls 2 [(0, .ref aM), (1, .int y)] := hl
  refine lv_iload_n hx hb dX7_count_0 rfl (lv_at hl 1 rfl) ?_
  by_cases t1 : y.toInt < 0 ∨ 5 < y.toInt
  · refine lv_tableOut (tgt := 85) hx hb dX7_count_1 t1 (by decide) ?_
    refine lv_ldc2 hx hb cx.2.2.2.1 (cx.2.2.2.2 _ tm_670) dX7_count_85 ?_
    exact ga_lret cx hr hlk w dX7_count_88 ⟨Nat.le_refl _, Nat.le_refl _⟩ (⟨ga_rl (sCount_x t1).symm, rfl⟩)
  · have t1n : y.toInt = 0 ∨ y.toInt = 1 ∨ y.toInt = 2 ∨ y.toInt = 3 ∨ y.toInt = 4 ∨ y.toInt = 5 := by omega
    rcases t1n with t1j | t1j | t1j | t1j | t1j | t1j
    · refine lv_tableIn (tgt := 40) hx hb dX7_count_1 (by rw [t1j]; decide) (by rw [t1j]; decide) (off := 39) (by rw [t1j]; rfl) (by decide) ?_
      refine lv_aload_n hx hb dX7_count_40 rfl (lv_at hl 0 rfl) ?_
      refine gf_X7_13 cx hK w 0 rfl rfl dX7_count_41 ?_
      refine r_i2l hx hb dX7_count_44 (by omega) ?_
      exact ga_lret cx hr hlk w dX7_count_45 ⟨Nat.le_refl _, Nat.le_refl _⟩ (⟨ga_rl (by rw [sCount, t1j]; rfl), rfl⟩)
    · refine lv_tableIn (tgt := 46) hx hb dX7_count_1 (by rw [t1j]; decide) (by rw [t1j]; decide) (off := 45) (by rw [t1j]; rfl) (by decide) ?_
      refine lv_aload_n hx hb dX7_count_46 rfl (lv_at hl 0 rfl) ?_
      refine gf_X7_52 cx hK w 0 rfl rfl dX7_count_47 ?_
      refine r_i2l hx hb dX7_count_50 (by omega) ?_
      exact ga_lret cx hr hlk w dX7_count_51 ⟨Nat.le_refl _, Nat.le_refl _⟩ (⟨ga_rl (by rw [sCount, t1j]; rfl), rfl⟩)
    · refine lv_tableIn (tgt := 52) hx hb dX7_count_1 (by rw [t1j]; decide) (by rw [t1j]; decide) (off := 51) (by rw [t1j]; rfl) (by decide) ?_
      refine lv_aload_n hx hb dX7_count_52 rfl (lv_at hl 0 rfl) ?_
      refine gf_X7_63 cx hK w 0 rfl rfl dX7_count_53 ?_
      refine ga_callS (rest := []) (wr := [(aM, .inr (7, [.ref mT, .int (nI tl), .int (nI n), .int (nI k), .ref mF, .ref mO, .ref mC, .int (nI li), .int (nI fa), .int (nI mm), .int (bI im), .ref mR, .ref mZ, .ref mS, .ref mH, .int (bI ird), .int (bI itn), .int (nI lsz), .ref mL, .ref mN, .ref mX, .ref mY, .int (nI tu)])), (mC, .inl (G.2.2, 16, .inl (aN ct)))]) cx hK hA w hl lk_X7_127 (c_X7_sizeOf l G li (by omega)) ⟨Nat.le_of_ble_eq_true rfl, Nat.le_of_ble_eq_true rfl⟩ [] [0, 1] rfl rfl (by decide) (by decide) (by decide) rfl (Nat.le_of_ble_eq_true rfl) dX7_count_56 ⟨Nat.le_refl _, Nat.le_refl _⟩ rfl (fun r w1_ H_ locs_ hp w => ?_)
      obtain ⟨rfl, rfl⟩ := hp
      have w : ga_wd G A_ s_ H_ locs_ [(aM, .inr (7, [.ref mT, .int (nI tl), .int (nI n), .int (nI k), .ref mF, .ref mO, .ref mC, .int (nI li), .int (nI fa), .int (nI mm), .int (bI im), .ref mR, .ref mZ, .ref mS, .ref mH, .int (bI ird), .int (bI itn), .int (nI lsz), .ref mL, .ref mN, .ref mX, .ref mY, .int (nI tu)])), (mC, .inl (G.2.2, 16, .inl (aN ct)))] := ga_perm w [0, 1] (by decide) rfl
      refine W.eq (g2 := F0 m_ 59 ls [.int (nI (pop li))]) rfl ?_
      refine r_i2l hx hb dX7_count_59 (by have := pop_lt li; omega) ?_
      exact ga_lret cx hr hlk w dX7_count_60 ⟨Nat.le_refl _, Nat.le_refl _⟩ (⟨ga_rl (by rw [sCount, t1j]; rfl), rfl⟩)
    · refine lv_tableIn (tgt := 61) hx hb dX7_count_1 (by rw [t1j]; decide) (by rw [t1j]; decide) (off := 60) (by rw [t1j]; rfl) (by decide) ?_
      refine lv_aload_n hx hb dX7_count_61 rfl (lv_at hl 0 rfl) ?_
      refine gf_X7_66 cx hK w 0 rfl rfl dX7_count_62 ?_
      refine ga_callS (rest := []) (wr := [(aM, .inr (7, [.ref mT, .int (nI tl), .int (nI n), .int (nI k), .ref mF, .ref mO, .ref mC, .int (nI li), .int (nI fa), .int (nI mm), .int (bI im), .ref mR, .ref mZ, .ref mS, .ref mH, .int (bI ird), .int (bI itn), .int (nI lsz), .ref mL, .ref mN, .ref mX, .ref mY, .int (nI tu)])), (mC, .inl (G.2.2, 16, .inl (aN ct)))]) cx hK hA w hl lk_X7_127 (c_X7_sizeOf l G fa (by omega)) ⟨Nat.le_of_ble_eq_true rfl, Nat.le_of_ble_eq_true rfl⟩ [] [0, 1] rfl rfl (by decide) (by decide) (by decide) rfl (Nat.le_of_ble_eq_true rfl) dX7_count_65 ⟨Nat.le_refl _, Nat.le_refl _⟩ rfl (fun r w1_ H_ locs_ hp w => ?_)
      obtain ⟨rfl, rfl⟩ := hp
      have w : ga_wd G A_ s_ H_ locs_ [(aM, .inr (7, [.ref mT, .int (nI tl), .int (nI n), .int (nI k), .ref mF, .ref mO, .ref mC, .int (nI li), .int (nI fa), .int (nI mm), .int (bI im), .ref mR, .ref mZ, .ref mS, .ref mH, .int (bI ird), .int (bI itn), .int (nI lsz), .ref mL, .ref mN, .ref mX, .ref mY, .int (nI tu)])), (mC, .inl (G.2.2, 16, .inl (aN ct)))] := ga_perm w [0, 1] (by decide) rfl
      refine W.eq (g2 := F0 m_ 68 ls [.int (nI (pop fa))]) rfl ?_
      refine r_i2l hx hb dX7_count_68 (by have := pop_lt fa; omega) ?_
      exact ga_lret cx hr hlk w dX7_count_69 ⟨Nat.le_refl _, Nat.le_refl _⟩ (⟨ga_rl (by rw [sCount, t1j]; rfl), rfl⟩)
    · refine lv_tableIn (tgt := 70) hx hb dX7_count_1 (by rw [t1j]; decide) (by rw [t1j]; decide) (off := 69) (by rw [t1j]; rfl) (by decide) ?_
      refine lv_aload_n hx hb dX7_count_70 rfl (lv_at hl 0 rfl) ?_
      refine lv_aload_n hx hb dX7_count_71 rfl (lv_at hl 0 rfl) ?_
      refine gf_X7_63 cx hK w 0 rfl rfl dX7_count_72 ?_
      refine ga_callV (rest := []) (wr := []) cx hK hA w hl lk_X7_121 (c_X7_priceOf l G aM mT mF mO mC mR mZ mS mH mL mN mX mY tl n k li fa mm im ird itn lsz tu ct li (hk) (by omega) (hc)) ⟨Nat.le_of_ble_eq_true rfl, Nat.le_of_ble_eq_true rfl⟩ [0, 1] [] rfl rfl (by decide) (by decide) (by decide) 0 7 rfl rfl rfl rfl (Nat.le_of_ble_eq_true rfl) dX7_count_75 ⟨Nat.le_refl _, Nat.le_refl _⟩ rfl (fun r w1_ H_ locs_ hp w => ?_)
      obtain ⟨rfl, rfl⟩ := hp
      have w : ga_wd G A_ s_ H_ locs_ [(aM, .inr (7, [.ref mT, .int (nI tl), .int (nI n), .int (nI k), .ref mF, .ref mO, .ref mC, .int (nI li), .int (nI fa), .int (nI mm), .int (bI im), .ref mR, .ref mZ, .ref mS, .ref mH, .int (bI ird), .int (bI itn), .int (nI lsz), .ref mL, .ref mN, .ref mX, .ref mY, .int (nI tu)])), (mC, .inl (G.2.2, 16, .inl (aN ct)))] := ga_perm w [0, 1] (by decide) rfl
      refine W.eq (g2 := F0 m_ 78 ls [.long (lN (prc ct li k))]) rfl ?_
      exact ga_lret cx hr hlk w dX7_count_78 ⟨Nat.le_refl _, Nat.le_refl _⟩ (⟨ga_rl (by rw [sCount, t1j]; rfl), rfl⟩)
    · refine lv_tableIn (tgt := 79) hx hb dX7_count_1 (by rw [t1j]; decide) (by rw [t1j]; decide) (off := 78) (by rw [t1j]; rfl) (by decide) ?_
      refine lv_aload_n hx hb dX7_count_79 rfl (lv_at hl 0 rfl) ?_
      refine gf_X7_136 cx hK w 0 rfl rfl dX7_count_80 ?_
      refine r_i2l hx hb dX7_count_83 (by omega) ?_
      exact ga_lret cx hr hlk w dX7_count_84 ⟨Nat.le_refl _, Nat.le_refl _⟩ (⟨ga_rl (by rw [sCount, t1j]; rfl), rfl⟩)
