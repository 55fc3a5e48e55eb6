set_option maxHeartbeats 4000000 in
set_option maxRecDepth 100000 in
theorem c_X7_apart_x (l : Launch) (G : ga_G) (aM : Nat) (v : Int32) (hno : inB v 2 = false) : ga_M l G yX7_apart cX7_apart 2 (Option.some Jvm.ClassFile.FieldType.int) 1 25 0 0 [.ref aM, .int v] [] (fun r w => r = some (.int (-1)) ∧ w = []) := by
  refine ga_M.intro (by decide) (Nat.le_of_ble_eq_true rfl) (fun p_ e_ s_ m_ below meth c_ A_ H_ locs_ ls cx hr hlk hnm hA hK hl w => ?_)
  have hx := cx.1
  have hb := cx.2.1
  have hl : lv_has ls 2 [(0, .ref aM), (1, .int v)] := hl
  refine lv_iload_n hx hb dX7_apart_0 rfl (lv_at hl 1 rfl) ?_
  refine lv_i2l hx hb dX7_apart_1 rfl ?_
  refine lv_lconst (v := lN 0) hx hb dX7_apart_2 (by decide) ?_
  refine lv_lconst (v := lN 1) hx hb dX7_apart_3 (by decide) ?_
  refine ga_callS (rest := []) (wr := []) cx hK hA w hl lk_X7_55 (c_X7_lies l G v.toInt64 (lN 0) (lN 1) ) ⟨Nat.le_of_ble_eq_true rfl, Nat.le_of_ble_eq_true rfl⟩ [] [] rfl rfl (by decide) (by decide) (by decide) rfl (Nat.le_of_ble_eq_true rfl) dX7_apart_4 ⟨Nat.le_refl _, Nat.le_refl _⟩ rfl (fun r w1_ H_ locs_ hp w => ?_)
  obtain ⟨rfl, rfl⟩ := hp
  have w : ga_wd G A_ s_ H_ locs_ [] := ga_perm w [] (by decide) rfl
  refine W.eq (g2 := F0 m_ 7 ls [.int (bI (lsB v.toInt64 (lN 0) (lN 1)))]) rfl ?_
  refine r_ifb_ne hx hb dX7_apart_7 (tgt := 12) (by decide) (fun c7 => ?_) (fun c7 => ?_)
  · rw [lsB_n _ (by decide), hno] at c7; cases c7
  · refine lv_iconst (v := (-1)) hx hb dX7_apart_10 (by decide) ?_
    exact ga_iret cx hr hlk w dX7_apart_11 ⟨Nat.le_refl _, Nat.le_refl _⟩ (⟨rfl, rfl⟩)

set_option maxHeartbeats 4000000 in
set_option maxRecDepth 100000 in
theorem c_X7_apart_m (l : Launch) (G : ga_G) (aM : Nat) (mT : Nat) (mF : Nat) (mO : Nat) (mC : Nat) (mR : Nat) (mZ : Nat) (mS : Nat) (mH : Nat) (mL : Nat) (mN : Nat) (mX : Nat) (mY : Nat) (tl : Nat) (n : Nat) (k : Nat) (li : Nat) (fa : Nat) (mm : Nat) (im : Bool) (ird : Bool) (itn : Bool) (lsz : Nat) (tu : Nat) (fr : Nat → Nat) (to : Nat → Nat) (ct : Nat → Nat) (sz : Nat → Nat) (st : Nat → Nat) (hs : Nat → Nat) (rw : Nat → Nat) (nw : Nat → Nat) (yy : Nat) (hF : Flow n k fr to ct) (hyy : yy < 2) (hbig : 200 < (WL n k fr to).length) : ga_M l G yX7_apart cX7_apart 2 (Option.some Jvm.ClassFile.FieldType.int) 3 65 0 0 [.ref aM, .int (nI yy)] [(aM, .inr (7, [.ref mT, .int (nI tl), .int (nI n), .int (nI k), .ref mF, .ref mO, .ref mC, .int (nI li), .int (nI fa), .int (nI mm), .int (bI im), .ref mR, .ref mZ, .ref mS, .ref mH, .int (bI ird), .int (bI itn), .int (nI lsz), .ref mL, .ref mN, .ref mX, .ref mY, .int (nI tu)])), (mF, .inl (G.2.2, 16, .inl (aN fr))), (mO, .inl (G.2.2, 16, .inl (aN to))), (mR, .inl (G.2.2, 3200, .inl (aN rw))), (mZ, .inl (G.2.2, 200, .inl (aN sz))), (mS, .inl (G.2.2, 200, .inl (aN st))), (mH, .inl (G.2.2, 200, .inl (aN hs))), (mN, .inl (G.2.2, 16, .inl (aN nw)))] (fun r w => ∃ (mm2 : Nat), ∃ (im2 : Bool), ∃ (rw2 : Nat → Nat), ∃ (sz2 : Nat → Nat), ∃ (st2 : Nat → Nat), ∃ (hs2 : Nat → Nat), ∃ (nw2 : Nat → Nat), (RepM to fa (WL n k fr to) mm2 im2 rw2 sz2 st2 hs2) ∧ r = some (.int (-2)) ∧ w = [(aM, .inr (7, [.ref mT, .int (nI tl), .int (nI n), .int (nI k), .ref mF, .ref mO, .ref mC, .int (nI li), .int (nI fa), .int (nI mm2), .int (bI im2), .ref mR, .ref mZ, .ref mS, .ref mH, .int (bI ird), .int (bI itn), .int (nI lsz), .ref mL, .ref mN, .ref mX, .ref mY, .int (nI tu)])), (mF, .inl (G.2.2, 16, .inl (aN fr))), (mO, .inl (G.2.2, 16, .inl (aN to))), (mR, .inl (G.2.2, 3200, .inl (aN rw2))), (mZ, .inl (G.2.2, 200, .inl (aN sz2))), (mS, .inl (G.2.2, 200, .inl (aN st2))), (mH, .inl (G.2.2, 200, .inl (aN hs2))), (mN, .inl (G.2.2, 16, .inl (aN nw2)))]) := by
  refine ga_M.intro (by decide) (Nat.le_of_ble_eq_true rfl) (fun p_ e_ s_ m_ below meth c_ A_ H_ locs_ ls cx hr hlk hnm hA hK hl w => ?_)
  have hx := cx.1
  have hb := cx.2.1
  have hl : lv_has ls 2 [(0, .ref aM), (1, .int (nI yy))] := hl
  refine lv_iload_n hx hb dX7_apart_0 rfl (lv_at hl 1 rfl) ?_
  refine r_i2l hx hb dX7_apart_1 (by omega) ?_
  refine lv_lconst (v := lN 0) hx hb dX7_apart_2 (by decide) ?_
  refine lv_lconst (v := lN 1) hx hb dX7_apart_3 (by decide) ?_
  refine ga_callS (rest := []) (wr := [(aM, .inr (7, [.ref mT, .int (nI tl), .int (nI n), .int (nI k), .ref mF, .ref mO, .ref mC, .int (nI li), .int (nI fa), .int (nI mm), .int (bI im), .ref mR, .ref mZ, .ref mS, .ref mH, .int (bI ird), .int (bI itn), .int (nI lsz), .ref mL, .ref mN, .ref mX, .ref mY, .int (nI tu)])), (mF, .inl (G.2.2, 16, .inl (aN fr))), (mO, .inl (G.2.2, 16, .inl (aN to))), (mR, .inl (G.2.2, 3200, .inl (aN rw))), (mZ, .inl (G.2.2, 200, .inl (aN sz))), (mS, .inl (G.2.2, 200, .inl (aN st))), (mH, .inl (G.2.2, 200, .inl (aN hs))), (mN, .inl (G.2.2, 16, .inl (aN nw)))]) cx hK hA w hl lk_X7_55 (c_X7_lies l G (lN yy) (lN 0) (lN 1) ) ⟨Nat.le_of_ble_eq_true rfl, Nat.le_of_ble_eq_true rfl⟩ [] [0, 1, 2, 3, 4, 5, 6, 7] rfl rfl (by decide) (by decide) (by decide) rfl (Nat.le_of_ble_eq_true rfl) dX7_apart_4 ⟨Nat.le_refl _, Nat.le_refl _⟩ rfl (fun r w1_ H_ locs_ hp w => ?_)
  obtain ⟨rfl, rfl⟩ := hp
  have w : ga_wd G A_ s_ H_ locs_ [(aM, .inr (7, [.ref mT, .int (nI tl), .int (nI n), .int (nI k), .ref mF, .ref mO, .ref mC, .int (nI li), .int (nI fa), .int (nI mm), .int (bI im), .ref mR, .ref mZ, .ref mS, .ref mH, .int (bI ird), .int (bI itn), .int (nI lsz), .ref mL, .ref mN, .ref mX, .ref mY, .int (nI tu)])), (mF, .inl (G.2.2, 16, .inl (aN fr))), (mO, .inl (G.2.2, 16, .inl (aN to))), (mR, .inl (G.2.2, 3200, .inl (aN rw))), (mZ, .inl (G.2.2, 200, .inl (aN sz))), (mS, .inl (G.2.2, 200, .inl (aN st))), (mH, .inl (G.2.2, 200, .inl (aN hs))), (mN, .inl (G.2.2, 16, .inl (aN nw)))] := ga_perm w [0, 1, 2, 3, 4, 5, 6, 7] (by decide) rfl
  refine W.eq (g2 := F0 m_ 7 ls [.int (bI (lsB (lN yy) (lN 0) (lN 1)))]) rfl ?_
  refine r_ifb_ne hx hb dX7_apart_7 (tgt := 12) (by decide) (fun c7 => ?_) (fun c7 => ?_)
  · refine lv_aload_n hx hb dX7_apart_12 rfl (lv_at hl 0 rfl) ?_
    refine ga_callV (rest := []) (wr := []) cx hK hA w hl lk_X7_96 (c_X7_isTooMany l G aM mT mF mO mC mR mZ mS mH mL mN mX mY tl n k li fa mm im ird itn lsz tu fr to ct sz st hs rw nw (hF)) ⟨Nat.le_of_ble_eq_true rfl, Nat.le_of_ble_eq_true rfl⟩ [0, 1, 2, 3, 4, 5, 6, 7] [] rfl rfl (by decide) (by decide) (by decide) 0 7 rfl rfl rfl rfl (Nat.le_of_ble_eq_true rfl) dX7_apart_13 ⟨Nat.le_refl _, Nat.le_refl _⟩ rfl (fun r w1_ H_ locs_ hp w => ?_)
    obtain ⟨mm9, im9, rw9, sz9, st9, hs9, nw9, hR9, rfl, rfl⟩ := hp
    have w : ga_wd G A_ s_ H_ locs_ [(aM, .inr (7, [.ref mT, .int (nI tl), .int (nI n), .int (nI k), .ref mF, .ref mO, .ref mC, .int (nI li), .int (nI fa), .int (nI mm9), .int (bI im9), .ref mR, .ref mZ, .ref mS, .ref mH, .int (bI ird), .int (bI itn), .int (nI lsz), .ref mL, .ref mN, .ref mX, .ref mY, .int (nI tu)])), (mF, .inl (G.2.2, 16, .inl (aN fr))), (mO, .inl (G.2.2, 16, .inl (aN to))), (mR, .inl (G.2.2, 3200, .inl (aN rw9))), (mZ, .inl (G.2.2, 200, .inl (aN sz9))), (mS, .inl (G.2.2, 200, .inl (aN st9))), (mH, .inl (G.2.2, 200, .inl (aN hs9))), (mN, .inl (G.2.2, 16, .inl (aN nw9)))] := ga_perm w [0, 1, 2, 3, 4, 5, 6, 7] (by decide) rfl
    refine W.eq (g2 := F0 m_ 16 ls [.int (bI im9)]) rfl ?_
    have hr9 := RepM_f hR9
    refine r_ifb_eq hx hb dX7_apart_16 (tgt := 24) (by decide) (fun c16 => ?_) (fun c16 => ?_)
    · exact absurd hbig (of_decide_eq_false (by rw [← hr9.2.1]; exact c16))
    · refine lv_bipush (v := (-2)) hx hb dX7_apart_19 (by decide) ?_
      refine lv_goto (tgt := 41) hx hb dX7_apart_21 (by decide) ?_
      exact ga_iret cx hr hlk w dX7_apart_41 ⟨Nat.le_refl _, Nat.le_refl _⟩ (⟨mm9, im9, rw9, sz9, st9, hs9, nw9, hR9, rfl, rfl⟩)
  · rw [show (lN yy : Int64) = (nI yy).toInt64 from (nI_l (by omega)).symm, lsB_n _ (by decide), inB_y (by omega) (by decide)] at c7; cases c7

set_option maxHeartbeats 4000000 in
set_option maxRecDepth 100000 in
theorem c_X7_cheapest_x (l : Launch) (G : ga_G) (aM : Nat) (v : Int32) (bes : Bool) (hno : inB v 2 = false) : ga_M l G yX7_cheapest cX7_cheapest 10 (Option.some Jvm.ClassFile.FieldType.int) 1 25 0 0 [.ref aM, .int v, .int (bI bes)] [] (fun r w => r = some (.int (-1)) ∧ w = []) := by
  refine ga_M.intro (by decide) (Nat.le_of_ble_eq_true rfl) (fun p_ e_ s_ m_ below meth c_ A_ H_ locs_ ls cx hr hlk hnm hA hK hl w => ?_)
  have hx := cx.1
  have hb := cx.2.1
  have hl : lv_has ls 10 [(0, .ref aM), (1, .int v), (2, .int (bI bes))] := hl
  refine lv_iload_n hx hb dX7_cheapest_0 rfl (lv_at hl 1 rfl) ?_
  refine lv_i2l hx hb dX7_cheapest_1 rfl ?_
  refine lv_lconst (v := lN 0) hx hb dX7_cheapest_2 (by decide) ?_
  refine lv_lconst (v := lN 1) hx hb dX7_cheapest_3 (by decide) ?_
  refine ga_callS (rest := []) (wr := []) cx hK hA w hl lk_X7_55 (c_X7_lies l G v.toInt64 (lN 0) (lN 1) ) ⟨Nat.le_of_ble_eq_true rfl, Nat.le_of_ble_eq_true rfl⟩ [] [] rfl rfl (by decide) (by decide) (by decide) rfl (Nat.le_of_ble_eq_true rfl) dX7_cheapest_4 ⟨Nat.le_refl _, Nat.le_refl _⟩ rfl (fun r w1_ H_ locs_ hp w => ?_)
  obtain ⟨rfl, rfl⟩ := hp
  have w : ga_wd G A_ s_ H_ locs_ [] := ga_perm w [] (by decide) rfl
  refine W.eq (g2 := F0 m_ 7 ls [.int (bI (lsB v.toInt64 (lN 0) (lN 1)))]) rfl ?_
  refine r_ifb_ne hx hb dX7_cheapest_7 (tgt := 12) (by decide) (fun c7 => ?_) (fun c7 => ?_)
  · rw [lsB_n _ (by decide), hno] at c7; cases c7
  · refine lv_iconst (v := (-1)) hx hb dX7_cheapest_10 (by decide) ?_
    exact ga_iret cx hr hlk w dX7_cheapest_11 ⟨Nat.le_refl _, Nat.le_refl _⟩ (⟨rfl, rfl⟩)

set_option maxHeartbeats 4000000 in
set_option maxRecDepth 100000 in
theorem c_X7_cheapest_m (l : Launch) (G : ga_G) (aM : Nat) (mT : Nat) (mF : Nat) (mO : Nat) (mC : Nat) (mR : Nat) (mZ : Nat) (mS : Nat) (mH : Nat) (mL : Nat) (mN : Nat) (mX : Nat) (mY : Nat) (tl : Nat) (n : Nat) (k : Nat) (li : Nat) (fa : Nat) (mm : Nat) (im : Bool) (ird : Bool) (itn : Bool) (lsz : Nat) (tu : Nat) (fr : Nat → Nat) (to : Nat → Nat) (ct : Nat → Nat) (sz : Nat → Nat) (st : Nat → Nat) (hs : Nat → Nat) (rw : Nat → Nat) (nw : Nat → Nat) (yy : Nat) (bes : Bool) (hF : Flow n k fr to ct) (hyy : yy < 2) (hbig : 200 < (WL n k fr to).length) : ga_M l G yX7_cheapest cX7_cheapest 10 (Option.some Jvm.ClassFile.FieldType.int) 3 65 0 0 [.ref aM, .int (nI yy), .int (bI bes)] [(aM, .inr (7, [.ref mT, .int (nI tl), .int (nI n), .int (nI k), .ref mF, .ref mO, .ref mC, .int (nI li), .int (nI fa), .int (nI mm), .int (bI im), .ref mR, .ref mZ, .ref mS, .ref mH, .int (bI ird), .int (bI itn), .int (nI lsz), .ref mL, .ref mN, .ref mX, .ref mY, .int (nI tu)])), (mF, .inl (G.2.2, 16, .inl (aN fr))), (mO, .inl (G.2.2, 16, .inl (aN to))), (mR, .inl (G.2.2, 3200, .inl (aN rw))), (mZ, .inl (G.2.2, 200, .inl (aN sz))), (mS, .inl (G.2.2, 200, .inl (aN st))), (mH, .inl (G.2.2, 200, .inl (aN hs))), (mN, .inl (G.2.2, 16, .inl (aN nw)))] (fun r w => ∃ (mm2 : Nat), ∃ (im2 : Bool), ∃ (rw2 : Nat → Nat), ∃ (sz2 : Nat → Nat), ∃ (st2 : Nat → Nat), ∃ (hs2 : Nat → Nat), ∃ (nw2 : Nat → Nat), (RepM to fa (WL n k fr to) mm2 im2 rw2 sz2 st2 hs2) ∧ r = some (.int (-2)) ∧ w = [(aM, .inr (7, [.ref mT, .int (nI tl), .int (nI n), .int (nI k), .ref mF, .ref mO, .ref mC, .int (nI li), .int (nI fa), .int (nI mm2), .int (bI im2), .ref mR, .ref mZ, .ref mS, .ref mH, .int (bI ird), .int (bI itn), .int (nI lsz), .ref mL, .ref mN, .ref mX, .ref mY, .int (nI tu)])), (mF, .inl (G.2.2, 16, .inl (aN fr))), (mO, .inl (G.2.2, 16, .inl (aN to))), (mR, .inl (G.2.2, 3200, .inl (aN rw2))), (mZ, .inl (G.2.2, 200, .inl (aN sz2))), (mS, .inl (G.2.2, 200, .inl (aN st2))), (mH, .inl (G.2.2, 200, .inl (aN hs2))), (mN, .inl (G.2.2, 16, .inl (aN nw2)))]) := by
  refine ga_M.intro (by decide) (Nat.le_of_ble_eq_true rfl) (fun p_ e_ s_ m_ below meth c_ A_ H_ locs_ ls cx hr hlk hnm hA hK hl w => ?_)
  have hx := cx.1
  have hb := cx.2.1
  have hl : lv_has ls 10 [(0, .ref aM), (1, .int (nI yy)), (2, .int (bI bes))] := hl
  refine lv_iload_n hx hb dX7_cheapest_0 rfl (lv_at hl 1 rfl) ?_
  refine r_i2l hx hb dX7_cheapest_1 (by omega) ?_
  refine lv_lconst (v := lN 0) hx hb dX7_cheapest_2 (by decide) ?_
  refine lv_lconst (v := lN 1) hx hb dX7_cheapest_3 (by decide) ?_
  refine ga_callS (rest := []) (wr := [(aM, .inr (7, [.ref mT, .int (nI tl), .int (nI n), .int (nI k), .ref mF, .ref mO, .ref mC, .int (nI li), .int (nI fa), .int (nI mm), .int (bI im), .ref mR, .ref mZ, .ref mS, .ref mH, .int (bI ird), .int (bI itn), .int (nI lsz), .ref mL, .ref mN, .ref mX, .ref mY, .int (nI tu)])), (mF, .inl (G.2.2, 16, .inl (aN fr))), (mO, .inl (G.2.2, 16, .inl (aN to))), (mR, .inl (G.2.2, 3200, .inl (aN rw))), (mZ, .inl (G.2.2, 200, .inl (aN sz))), (mS, .inl (G.2.2, 200, .inl (aN st))), (mH, .inl (G.2.2, 200, .inl (aN hs))), (mN, .inl (G.2.2, 16, .inl (aN nw)))]) cx hK hA w hl lk_X7_55 (c_X7_lies l G (lN yy) (lN 0) (lN 1) ) ⟨Nat.le_of_ble_eq_true rfl, Nat.le_of_ble_eq_true rfl⟩ [] [0, 1, 2, 3, 4, 5, 6, 7] rfl rfl (by decide) (by decide) (by decide) rfl (Nat.le_of_ble_eq_true rfl) dX7_cheapest_4 ⟨Nat.le_refl _, Nat.le_refl _⟩ rfl (fun r w1_ H_ locs_ hp w => ?_)
  obtain ⟨rfl, rfl⟩ := hp
  have w : ga_wd G A_ s_ H_ locs_ [(aM, .inr (7, [.ref mT, .int (nI tl), .int (nI n), .int (nI k), .ref mF, .ref mO, .ref mC, .int (nI li), .int (nI fa), .int (nI mm), .int (bI im), .ref mR, .ref mZ, .ref mS, .ref mH, .int (bI ird), .int (bI itn), .int (nI lsz), .ref mL, .ref mN, .ref mX, .ref mY, .int (nI tu)])), (mF, .inl (G.2.2, 16, .inl (aN fr))), (mO, .inl (G.2.2, 16, .inl (aN to))), (mR, .inl (G.2.2, 3200, .inl (aN rw))), (mZ, .inl (G.2.2, 200, .inl (aN sz))), (mS, .inl (G.2.2, 200, .inl (aN st))), (mH, .inl (G.2.2, 200, .inl (aN hs))), (mN, .inl (G.2.2, 16, .inl (aN nw)))] := ga_perm w [0, 1, 2, 3, 4, 5, 6, 7] (by decide) rfl
  refine W.eq (g2 := F0 m_ 7 ls [.int (bI (lsB (lN yy) (lN 0) (lN 1)))]) rfl ?_
  refine r_ifb_ne hx hb dX7_cheapest_7 (tgt := 12) (by decide) (fun c7 => ?_) (fun c7 => ?_)
  · refine lv_aload_n hx hb dX7_cheapest_12 rfl (lv_at hl 0 rfl) ?_
    refine ga_callV (rest := []) (wr := []) cx hK hA w hl lk_X7_96 (c_X7_isTooMany l G aM mT mF mO mC mR mZ mS mH mL mN mX mY tl n k li fa mm im ird itn lsz tu fr to ct sz st hs rw nw (hF)) ⟨Nat.le_of_ble_eq_true rfl, Nat.le_of_ble_eq_true rfl⟩ [0, 1, 2, 3, 4, 5, 6, 7] [] rfl rfl (by decide) (by decide) (by decide) 0 7 rfl rfl rfl rfl (Nat.le_of_ble_eq_true rfl) dX7_cheapest_13 ⟨Nat.le_refl _, Nat.le_refl _⟩ rfl (fun r w1_ H_ locs_ hp w => ?_)
    obtain ⟨mm9, im9, rw9, sz9, st9, hs9, nw9, hR9, rfl, rfl⟩ := hp
    have w : ga_wd G A_ s_ H_ locs_ [(aM, .inr (7, [.ref mT, .int (nI tl), .int (nI n), .int (nI k), .ref mF, .ref mO, .ref mC, .int (nI li), .int (nI fa), .int (nI mm9), .int (bI im9), .ref mR, .ref mZ, .ref mS, .ref mH, .int (bI ird), .int (bI itn), .int (nI lsz), .ref mL, .ref mN, .ref mX, .ref mY, .int (nI tu)])), (mF, .inl (G.2.2, 16, .inl (aN fr))), (mO, .inl (G.2.2, 16, .inl (aN to))), (mR, .inl (G.2.2, 3200, .inl (aN rw9))), (mZ, .inl (G.2.2, 200, .inl (aN sz9))), (mS, .inl (G.2.2, 200, .inl (aN st9))), (mH, .inl (G.2.2, 200, .inl (aN hs9))), (mN, .inl (G.2.2, 16, .inl (aN nw9)))] := ga_perm w [0, 1, 2, 3, 4, 5, 6, 7] (by decide) rfl
    refine W.eq (g2 := F0 m_ 16 ls [.int (bI im9)]) rfl ?_
    have hr9 := RepM_f hR9
    refine r_ifb_eq hx hb dX7_cheapest_16 (tgt := 22) (by decide) (fun c16 => ?_) (fun c16 => ?_)
    · exact absurd hbig (of_decide_eq_false (by rw [← hr9.2.1]; exact c16))
    · refine lv_bipush (v := (-2)) hx hb dX7_cheapest_19 (by decide) ?_
      exact ga_iret cx hr hlk w dX7_cheapest_21 ⟨Nat.le_refl _, Nat.le_refl _⟩ (⟨mm9, im9, rw9, sz9, st9, hs9, nw9, hR9, rfl, rfl⟩)
  · rw [show (lN yy : Int64) = (nI yy).toInt64 from (nI_l (by omega)).symm, lsB_n _ (by decide), inB_y (by omega) (by decide)] at c7; cases c7

set_option maxHeartbeats 4000000 in
set_option maxRecDepth 100000 in
theorem c_X7_apart (l : Launch) (G : ga_G) (aM : Nat) (mT : Nat) (mF : Nat) (mO : Nat) (mC : Nat) (mR : Nat) (mZ : Nat) (mS : Nat) (mH : Nat) (mL : Nat) (mN : Nat) (mX : Nat) (mY : Nat) (tl : Nat) (n : Nat) (k : Nat) (li : Nat) (fa : Nat) (mm : Nat) (im : Bool) (ird : Bool) (itn : Bool) (lsz : Nat) (tu : Nat) (fr : Nat → Nat) (to : Nat → Nat) (ct : Nat → Nat) (sz : Nat → Nat) (st : Nat → Nat) (hs : Nat → Nat) (rw : Nat → Nat) (nw : Nat → Nat) (sn : Nat → Nat) (sb : Nat → Nat) (yy : Nat) (hF : Flow n k fr to ct) (hyy : yy < 2) (hbig : ¬ 200 < (WL n k fr to).length) (hfa : fa < 65536) (hsn : ∀ l, l < 65536 → sn l ≤ tu) (hli : li < 65536) (htu : tu < 2 ^ 30) : ga_M l G yX7_apart cX7_apart 2 (Option.some Jvm.ClassFile.FieldType.int) 3 65 0 0 [.ref aM, .int (nI yy)] [(aM, .inr (7, [.ref mT, .int (nI tl), .int (nI n), .int (nI k), .ref mF, .ref mO, .ref mC, .int (nI li), .int (nI fa), .int (nI mm), .int (bI im), .ref mR, .ref mZ, .ref mS, .ref mH, .int (bI ird), .int (bI itn), .int (nI lsz), .ref mL, .ref mN, .ref mX, .ref mY, .int (nI tu)])), (mF, .inl (G.2.2, 16, .inl (aN fr))), (mO, .inl (G.2.2, 16, .inl (aN to))), (mR, .inl (G.2.2, 3200, .inl (aN rw))), (mZ, .inl (G.2.2, 200, .inl (aN sz))), (mS, .inl (G.2.2, 200, .inl (aN st))), (mH, .inl (G.2.2, 200, .inl (aN hs))), (mN, .inl (G.2.2, 16, .inl (aN nw))), (mX, .inl (G.2.2, 65536, .inl (aN sn))), (mY, .inl (G.2.2, 65536, .inl (aN sb)))] (fun r w => ∃ (mm2 : Nat), ∃ (im2 : Bool), ∃ (rw2 : Nat → Nat), ∃ (sz2 : Nat → Nat), ∃ (st2 : Nat → Nat), ∃ (hs2 : Nat → Nat), ∃ (nw2 : Nat → Nat), ∃ (tu2 : Nat), ∃ (sn2 : Nat → Nat), ∃ (sb2 : Nat → Nat), (RepM to fa (WL n k fr to) mm2 im2 rw2 sz2 st2 hs2) ∧ (tu2 ≤ tu + 65536) ∧ (∀ l, l < 65536 → sn2 l ≤ tu2) ∧ r = some (.int (bI (sApart n k fr to (decide (yy = 0)) fa li))) ∧ w = [(aM, .inr (7, [.ref mT, .int (nI tl), .int (nI n), .int (nI k), .ref mF, .ref mO, .ref mC, .int (nI li), .int (nI fa), .int (nI mm2), .int (bI im2), .ref mR, .ref mZ, .ref mS, .ref mH, .int (bI ird), .int (bI itn), .int (nI lsz), .ref mL, .ref mN, .ref mX, .ref mY, .int (nI tu2)])), (mF, .inl (G.2.2, 16, .inl (aN fr))), (mO, .inl (G.2.2, 16, .inl (aN to))), (mR, .inl (G.2.2, 3200, .inl (aN rw2))), (mZ, .inl (G.2.2, 200, .inl (aN sz2))), (mS, .inl (G.2.2, 200, .inl (aN st2))), (mH, .inl (G.2.2, 200, .inl (aN hs2))), (mN, .inl (G.2.2, 16, .inl (aN nw2))), (mX, .inl (G.2.2, 65536, .inl (aN sn2))), (mY, .inl (G.2.2, 65536, .inl (aN sb2)))]) := by
  refine ga_M.intro (by decide) (Nat.le_of_ble_eq_true rfl) (fun p_ e_ s_ m_ below meth c_ A_ H_ locs_ ls cx hr hlk hnm hA hK hl w => ?_)
  have hx := cx.1
  have hb := cx.2.1
  have hl : lv_has ls 2 [(0, .ref aM), (1, .int (nI yy))] := hl
  refine lv_iload_n hx hb dX7_apart_0 rfl (lv_at hl 1 rfl) ?_
  refine r_i2l hx hb dX7_apart_1 (by omega) ?_
  refine lv_lconst (v := lN 0) hx hb dX7_apart_2 (by decide) ?_
  refine lv_lconst (v := lN 1) hx hb dX7_apart_3 (by decide) ?_
  refine ga_callS (rest := []) (wr := [(aM, .inr (7, [.ref mT, .int (nI tl), .int (nI n), .int (nI k), .ref mF, .ref mO, .ref mC, .int (nI li), .int (nI fa), .int (nI mm), .int (bI im), .ref mR, .ref mZ, .ref mS, .ref mH, .int (bI ird), .int (bI itn), .int (nI lsz), .ref mL, .ref mN, .ref mX, .ref mY, .int (nI tu)])), (mF, .inl (G.2.2, 16, .inl (aN fr))), (mO, .inl (G.2.2, 16, .inl (aN to))), (mR, .inl (G.2.2, 3200, .inl (aN rw))), (mZ, .inl (G.2.2, 200, .inl (aN sz))), (mS, .inl (G.2.2, 200, .inl (aN st))), (mH, .inl (G.2.2, 200, .inl (aN hs))), (mN, .inl (G.2.2, 16, .inl (aN nw))), (mX, .inl (G.2.2, 65536, .inl (aN sn))), (mY, .inl (G.2.2, 65536, .inl (aN sb)))]) cx hK hA w hl lk_X7_55 (c_X7_lies l G (lN yy) (lN 0) (lN 1) ) ⟨Nat.le_of_ble_eq_true rfl, Nat.le_of_ble_eq_true rfl⟩ [] [0, 1, 2, 3, 4, 5, 6, 7, 8, 9] rfl rfl (by decide) (by decide) (by decide) rfl (Nat.le_of_ble_eq_true rfl) dX7_apart_4 ⟨Nat.le_refl _, Nat.le_refl _⟩ rfl (fun r w1_ H_ locs_ hp w => ?_)
  obtain ⟨rfl, rfl⟩ := hp
  have w : ga_wd G A_ s_ H_ locs_ [(aM, .inr (7, [.ref mT, .int (nI tl), .int (nI n), .int (nI k), .ref mF, .ref mO, .ref mC, .int (nI li), .int (nI fa), .int (nI mm), .int (bI im), .ref mR, .ref mZ, .ref mS, .ref mH, .int (bI ird), .int (bI itn), .int (nI lsz), .ref mL, .ref mN, .ref mX, .ref mY, .int (nI tu)])), (mF, .inl (G.2.2, 16, .inl (aN fr))), (mO, .inl (G.2.2, 16, .inl (aN to))), (mR, .inl (G.2.2, 3200, .inl (aN rw))), (mZ, .inl (G.2.2, 200, .inl (aN sz))), (mS, .inl (G.2.2, 200, .inl (aN st))), (mH, .inl (G.2.2, 200, .inl (aN hs))), (mN, .inl (G.2.2, 16, .inl (aN nw))), (mX, .inl (G.2.2, 65536, .inl (aN sn))), (mY, .inl (G.2.2, 65536, .inl (aN sb)))] := ga_perm w [0, 1, 2, 3, 4, 5, 6, 7, 8, 9] (by decide) rfl
  refine W.eq (g2 := F0 m_ 7 ls [.int (bI (lsB (lN yy) (lN 0) (lN 1)))]) rfl ?_
  refine r_ifb_ne hx hb dX7_apart_7 (tgt := 12) (by decide) (fun c7 => ?_) (fun c7 => ?_)
  · refine lv_aload_n hx hb dX7_apart_12 rfl (lv_at hl 0 rfl) ?_
    refine ga_callV (rest := []) (wr := [(mX, .inl (G.2.2, 65536, .inl (aN sn))), (mY, .inl (G.2.2, 65536, .inl (aN sb)))]) cx hK hA w hl lk_X7_96 (c_X7_isTooMany l G aM mT mF mO mC mR mZ mS mH mL mN mX mY tl n k li fa mm im ird itn lsz tu fr to ct sz st hs rw nw (hF)) ⟨Nat.le_of_ble_eq_true rfl, Nat.le_of_ble_eq_true rfl⟩ [0, 1, 2, 3, 4, 5, 6, 7] [8, 9] rfl rfl (by decide) (by decide) (by decide) 0 7 rfl rfl rfl rfl (Nat.le_of_ble_eq_true rfl) dX7_apart_13 ⟨Nat.le_refl _, Nat.le_refl _⟩ rfl (fun r w1_ H_ locs_ hp w => ?_)
    obtain ⟨mm9, im9, rw9, sz9, st9, hs9, nw9, hR9, rfl, rfl⟩ := hp
    have w : ga_wd G A_ s_ H_ locs_ [(aM, .inr (7, [.ref mT, .int (nI tl), .int (nI n), .int (nI k), .ref mF, .ref mO, .ref mC, .int (nI li), .int (nI fa), .int (nI mm9), .int (bI im9), .ref mR, .ref mZ, .ref mS, .ref mH, .int (bI ird), .int (bI itn), .int (nI lsz), .ref mL, .ref mN, .ref mX, .ref mY, .int (nI tu)])), (mF, .inl (G.2.2, 16, .inl (aN fr))), (mO, .inl (G.2.2, 16, .inl (aN to))), (mR, .inl (G.2.2, 3200, .inl (aN rw9))), (mZ, .inl (G.2.2, 200, .inl (aN sz9))), (mS, .inl (G.2.2, 200, .inl (aN st9))), (mH, .inl (G.2.2, 200, .inl (aN hs9))), (mN, .inl (G.2.2, 16, .inl (aN nw9))), (mX, .inl (G.2.2, 65536, .inl (aN sn))), (mY, .inl (G.2.2, 65536, .inl (aN sb)))] := ga_perm w [2, 3, 4, 5, 6, 7, 8, 9, 0, 1] (by decide) rfl
    refine W.eq (g2 := F0 m_ 16 ls [.int (bI im9)]) rfl ?_
    have hr9 := RepM_f hR9
    refine r_ifb_eq hx hb dX7_apart_16 (tgt := 24) (by decide) (fun c16 => ?_) (fun c16 => ?_)
    · have htm : ¬ 200 < (WL n k fr to).length := of_decide_eq_false (by rw [← hr9.2.1]; exact c16)
      have hnc := hr9.2.2.1 c16
      have hap : ∀ X, apM st9 hs9 mm9 (decide (yy = 0)) X = sApart n k fr to (decide (yy = 0)) fa X := fun X => by rw [apM_aptB (S := sS (WL n k fr to)) (T := sN to (WL n k fr to)) (fun i hi => ⟨(hr9.2.2.2.2 i hi).2.2.1, (hr9.2.2.2.2 i hi).2.2.2.1⟩), hnc]; rfl
      refine lv_aload_n hx hb dX7_apart_24 rfl (lv_at hl 0 rfl) ?_
      refine lv_iload_n hx hb dX7_apart_25 rfl (lv_at hl 1 rfl) ?_
      refine lv_aload_n hx hb dX7_apart_26 rfl (lv_at hl 0 rfl) ?_
      refine gf_X7_63 cx hK w 0 rfl rfl dX7_apart_27 ?_
      refine ga_callV (rest := []) (wr := [(mF, .inl (G.2.2, 16, .inl (aN fr))), (mO, .inl (G.2.2, 16, .inl (aN to))), (mR, .inl (G.2.2, 3200, .inl (aN rw9))), (mZ, .inl (G.2.2, 200, .inl (aN sz9))), (mN, .inl (G.2.2, 16, .inl (aN nw9)))]) cx hK hA w hl lk_X7_118 (c_X7_isApart l G aM mT mF mO mC mR mZ mS mH mL mN mX mY tl n k li fa mm9 im9 ird itn lsz tu st9 hs9 sn sb yy li (by omega) (hli) (htu) (hyy) (hsn) (fun i hi => by rw [(hr9.2.2.2.2 i hi).2.2.2.1]; exact andL_lt hfa)) ⟨Nat.le_of_ble_eq_true rfl, Nat.le_of_ble_eq_true rfl⟩ [0, 5, 6, 8, 9] [1, 2, 3, 4, 7] rfl rfl (by decide) (by decide) (by decide) 0 7 rfl rfl rfl rfl (Nat.le_of_ble_eq_true rfl) dX7_apart_30 ⟨Nat.le_refl _, Nat.le_refl _⟩ rfl (fun r w1_ H_ locs_ hp w => ?_)
      obtain ⟨sn5, sb5, hs5, rfl, rfl⟩ := hp
      have w : ga_wd G A_ s_ H_ locs_ [(aM, .inr (7, [.ref mT, .int (nI tl), .int (nI n), .int (nI k), .ref mF, .ref mO, .ref mC, .int (nI li), .int (nI fa), .int (nI mm9), .int (bI im9), .ref mR, .ref mZ, .ref mS, .ref mH, .int (bI ird), .int (bI itn), .int (nI lsz), .ref mL, .ref mN, .ref mX, .ref mY, .int (nI (tu + 1))])), (mF, .inl (G.2.2, 16, .inl (aN fr))), (mO, .inl (G.2.2, 16, .inl (aN to))), (mR, .inl (G.2.2, 3200, .inl (aN rw9))), (mZ, .inl (G.2.2, 200, .inl (aN sz9))), (mS, .inl (G.2.2, 200, .inl (aN st9))), (mH, .inl (G.2.2, 200, .inl (aN hs9))), (mN, .inl (G.2.2, 16, .inl (aN nw9))), (mX, .inl (G.2.2, 65536, .inl (aN sn5))), (mY, .inl (G.2.2, 65536, .inl (aN sb5)))] := ga_perm w [5, 0, 1, 2, 3, 6, 7, 4, 8, 9] (by decide) rfl
      refine W.eq (g2 := F0 m_ 33 ls [.int (bI (apM st9 hs9 mm9 (decide (yy = 0)) li))]) rfl ?_
      refine r_ifb_eq hx hb dX7_apart_33 (tgt := 40) (by decide) (fun c33 => ?_) (fun c33 => ?_)
      · refine lv_iconst (v := nI 0) hx hb dX7_apart_40 (by decide) ?_
        exact ga_iret cx hr hlk w dX7_apart_41 ⟨Nat.le_refl _, Nat.le_refl _⟩ (⟨mm9, im9, rw9, sz9, st9, hs9, nw9, tu + 1, sn5, sb5, hR9, by omega, hs5, ga_r0 (by rw [← hap]; exact c33), rfl⟩)
      · refine lv_iconst (v := nI 1) hx hb dX7_apart_36 (by decide) ?_
        refine lv_goto (tgt := 41) hx hb dX7_apart_37 (by decide) ?_
        exact ga_iret cx hr hlk w dX7_apart_41 ⟨Nat.le_refl _, Nat.le_refl _⟩ (⟨mm9, im9, rw9, sz9, st9, hs9, nw9, tu + 1, sn5, sb5, hR9, by omega, hs5, ga_r1 (by rw [← hap]; exact c33), rfl⟩)
    · exact absurd (of_decide_eq_true (by rw [← hr9.2.1]; exact c16)) hbig
  · rw [show (lN yy : Int64) = (nI yy).toInt64 from (nI_l (by omega)).symm, lsB_n _ (by decide), inB_y (by omega) (by decide)] at c7; cases c7

set_option maxHeartbeats 4000000 in
set_option maxRecDepth 100000 in
theorem c_X7_cheapest (l : Launch) (G : ga_G) (aM : Nat) (mT : Nat) (mF : Nat) (mO : Nat) (mC : Nat) (mR : Nat) (mZ : Nat) (mS : Nat) (mH : Nat) (mL : Nat) (mN : Nat) (mX : Nat) (mY : Nat) (tl : Nat) (n : Nat) (k : Nat) (li : Nat) (fa : Nat) (mm : Nat) (im : Bool) (ird : Bool) (itn : Bool) (lsz : Nat) (tu : Nat) (fr : Nat → Nat) (to : Nat → Nat) (ct : Nat → Nat) (sz : Nat → Nat) (st : Nat → Nat) (hs : Nat → Nat) (rw : Nat → Nat) (nw : Nat → Nat) (sn : Nat → Nat) (sb : Nat → Nat) (yy : Nat) (bes : Bool) (hF : Flow n k fr to ct) (hyy : yy < 2) (hbig : ¬ 200 < (WL n k fr to).length) (hfa : fa < 65536) (hsn : ∀ l, l < 65536 → sn l ≤ tu) (hli : li < 2 ^ k) (htu : tu < 2 ^ 29) : ga_M l G yX7_cheapest cX7_cheapest 10 (Option.some Jvm.ClassFile.FieldType.int) 3 65 0 0 [.ref aM, .int (nI yy), .int (bI bes)] [(aM, .inr (7, [.ref mT, .int (nI tl), .int (nI n), .int (nI k), .ref mF, .ref mO, .ref mC, .int (nI li), .int (nI fa), .int (nI mm), .int (bI im), .ref mR, .ref mZ, .ref mS, .ref mH, .int (bI ird), .int (bI itn), .int (nI lsz), .ref mL, .ref mN, .ref mX, .ref mY, .int (nI tu)])), (mF, .inl (G.2.2, 16, .inl (aN fr))), (mO, .inl (G.2.2, 16, .inl (aN to))), (mR, .inl (G.2.2, 3200, .inl (aN rw))), (mZ, .inl (G.2.2, 200, .inl (aN sz))), (mS, .inl (G.2.2, 200, .inl (aN st))), (mH, .inl (G.2.2, 200, .inl (aN hs))), (mN, .inl (G.2.2, 16, .inl (aN nw))), (mX, .inl (G.2.2, 65536, .inl (aN sn))), (mY, .inl (G.2.2, 65536, .inl (aN sb))), (mC, .inl (G.2.2, 16, .inl (aN ct)))] (fun r w => ∃ (mm2 : Nat), ∃ (im2 : Bool), ∃ (rw2 : Nat → Nat), ∃ (sz2 : Nat → Nat), ∃ (st2 : Nat → Nat), ∃ (hs2 : Nat → Nat), ∃ (nw2 : Nat → Nat), ∃ (tu2 : Nat), ∃ (sn2 : Nat → Nat), ∃ (sb2 : Nat → Nat), ∃ (xx : Nat), (RepM to fa (WL n k fr to) mm2 im2 rw2 sz2 st2 hs2) ∧ (tu2 ≤ tu + 65536) ∧ (∀ l, l < 65536 → sn2 l ≤ tu2) ∧ (Opt k ct (sApart n k fr to (decide (yy = 0)) fa) (if bes then li else 0) xx) ∧ r = some (.int (nI xx)) ∧ w = [(aM, .inr (7, [.ref mT, .int (nI tl), .int (nI n), .int (nI k), .ref mF, .ref mO, .ref mC, .int (nI li), .int (nI fa), .int (nI mm2), .int (bI im2), .ref mR, .ref mZ, .ref mS, .ref mH, .int (bI ird), .int (bI itn), .int (nI lsz), .ref mL, .ref mN, .ref mX, .ref mY, .int (nI tu2)])), (mF, .inl (G.2.2, 16, .inl (aN fr))), (mO, .inl (G.2.2, 16, .inl (aN to))), (mR, .inl (G.2.2, 3200, .inl (aN rw2))), (mZ, .inl (G.2.2, 200, .inl (aN sz2))), (mS, .inl (G.2.2, 200, .inl (aN st2))), (mH, .inl (G.2.2, 200, .inl (aN hs2))), (mN, .inl (G.2.2, 16, .inl (aN nw2))), (mX, .inl (G.2.2, 65536, .inl (aN sn2))), (mY, .inl (G.2.2, 65536, .inl (aN sb2))), (mC, .inl (G.2.2, 16, .inl (aN ct)))]) := by
  refine ga_M.intro (by decide) (Nat.le_of_ble_eq_true rfl) (fun p_ e_ s_ m_ below meth c_ A_ H_ locs_ ls cx hr hlk hnm hA hK hl w => ?_)
  have hx := cx.1
  have hb := cx.2.1
  have hl : lv_has ls 10 [(0, .ref aM), (1, .int (nI yy)), (2, .int (bI bes))] := hl
  refine lv_iload_n hx hb dX7_cheapest_0 rfl (lv_at hl 1 rfl) ?_
  refine r_i2l hx hb dX7_cheapest_1 (by omega) ?_
  refine lv_lconst (v := lN 0) hx hb dX7_cheapest_2 (by decide) ?_
  refine lv_lconst (v := lN 1) hx hb dX7_cheapest_3 (by decide) ?_
  refine ga_callS (rest := []) (wr := [(aM, .inr (7, [.ref mT, .int (nI tl), .int (nI n), .int (nI k), .ref mF, .ref mO, .ref mC, .int (nI li), .int (nI fa), .int (nI mm), .int (bI im), .ref mR, .ref mZ, .ref mS, .ref mH, .int (bI ird), .int (bI itn), .int (nI lsz), .ref mL, .ref mN, .ref mX, .ref mY, .int (nI tu)])), (mF, .inl (G.2.2, 16, .inl (aN fr))), (mO, .inl (G.2.2, 16, .inl (aN to))), (mR, .inl (G.2.2, 3200, .inl (aN rw))), (mZ, .inl (G.2.2, 200, .inl (aN sz))), (mS, .inl (G.2.2, 200, .inl (aN st))), (mH, .inl (G.2.2, 200, .inl (aN hs))), (mN, .inl (G.2.2, 16, .inl (aN nw))), (mX, .inl (G.2.2, 65536, .inl (aN sn))), (mY, .inl (G.2.2, 65536, .inl (aN sb))), (mC, .inl (G.2.2, 16, .inl (aN ct)))]) cx hK hA w hl lk_X7_55 (c_X7_lies l G (lN yy) (lN 0) (lN 1) ) ⟨Nat.le_of_ble_eq_true rfl, Nat.le_of_ble_eq_true rfl⟩ [] [0, 1, 2, 3, 4, 5, 6, 7, 8, 9, 10] rfl rfl (by decide) (by decide) (by decide) rfl (Nat.le_of_ble_eq_true rfl) dX7_cheapest_4 ⟨Nat.le_refl _, Nat.le_refl _⟩ rfl (fun r w1_ H_ locs_ hp w => ?_)
  obtain ⟨rfl, rfl⟩ := hp
  have w : ga_wd G A_ s_ H_ locs_ [(aM, .inr (7, [.ref mT, .int (nI tl), .int (nI n), .int (nI k), .ref mF, .ref mO, .ref mC, .int (nI li), .int (nI fa), .int (nI mm), .int (bI im), .ref mR, .ref mZ, .ref mS, .ref mH, .int (bI ird), .int (bI itn), .int (nI lsz), .ref mL, .ref mN, .ref mX, .ref mY, .int (nI tu)])), (mF, .inl (G.2.2, 16, .inl (aN fr))), (mO, .inl (G.2.2, 16, .inl (aN to))), (mR, .inl (G.2.2, 3200, .inl (aN rw))), (mZ, .inl (G.2.2, 200, .inl (aN sz))), (mS, .inl (G.2.2, 200, .inl (aN st))), (mH, .inl (G.2.2, 200, .inl (aN hs))), (mN, .inl (G.2.2, 16, .inl (aN nw))), (mX, .inl (G.2.2, 65536, .inl (aN sn))), (mY, .inl (G.2.2, 65536, .inl (aN sb))), (mC, .inl (G.2.2, 16, .inl (aN ct)))] := ga_perm w [0, 1, 2, 3, 4, 5, 6, 7, 8, 9, 10] (by decide) rfl
  refine W.eq (g2 := F0 m_ 7 ls [.int (bI (lsB (lN yy) (lN 0) (lN 1)))]) rfl ?_
  refine r_ifb_ne hx hb dX7_cheapest_7 (tgt := 12) (by decide) (fun c7 => ?_) (fun c7 => ?_)
  · refine lv_aload_n hx hb dX7_cheapest_12 rfl (lv_at hl 0 rfl) ?_
    refine ga_callV (rest := []) (wr := [(mX, .inl (G.2.2, 65536, .inl (aN sn))), (mY, .inl (G.2.2, 65536, .inl (aN sb))), (mC, .inl (G.2.2, 16, .inl (aN ct)))]) cx hK hA w hl lk_X7_96 (c_X7_isTooMany l G aM mT mF mO mC mR mZ mS mH mL mN mX mY tl n k li fa mm im ird itn lsz tu fr to ct sz st hs rw nw (hF)) ⟨Nat.le_of_ble_eq_true rfl, Nat.le_of_ble_eq_true rfl⟩ [0, 1, 2, 3, 4, 5, 6, 7] [8, 9, 10] rfl rfl (by decide) (by decide) (by decide) 0 7 rfl rfl rfl rfl (Nat.le_of_ble_eq_true rfl) dX7_cheapest_13 ⟨Nat.le_refl _, Nat.le_refl _⟩ rfl (fun r w1_ H_ locs_ hp w => ?_)
    obtain ⟨mm9, im9, rw9, sz9, st9, hs9, nw9, hR9, rfl, rfl⟩ := hp
    have w : ga_wd G A_ s_ H_ locs_ [(aM, .inr (7, [.ref mT, .int (nI tl), .int (nI n), .int (nI k), .ref mF, .ref mO, .ref mC, .int (nI li), .int (nI fa), .int (nI mm9), .int (bI im9), .ref mR, .ref mZ, .ref mS, .ref mH, .int (bI ird), .int (bI itn), .int (nI lsz), .ref mL, .ref mN, .ref mX, .ref mY, .int (nI tu)])), (mF, .inl (G.2.2, 16, .inl (aN fr))), (mO, .inl (G.2.2, 16, .inl (aN to))), (mR, .inl (G.2.2, 3200, .inl (aN rw9))), (mZ, .inl (G.2.2, 200, .inl (aN sz9))), (mS, .inl (G.2.2, 200, .inl (aN st9))), (mH, .inl (G.2.2, 200, .inl (aN hs9))), (mN, .inl (G.2.2, 16, .inl (aN nw9))), (mX, .inl (G.2.2, 65536, .inl (aN sn))), (mY, .inl (G.2.2, 65536, .inl (aN sb))), (mC, .inl (G.2.2, 16, .inl (aN ct)))] := ga_perm w [3, 4, 5, 6, 7, 8, 9, 10, 0, 1, 2] (by decide) rfl
    refine W.eq (g2 := F0 m_ 16 ls [.int (bI im9)]) rfl ?_
    have hr9 := RepM_f hR9
    refine r_ifb_eq hx hb dX7_cheapest_16 (tgt := 22) (by decide) (fun c16 => ?_) (fun c16 => ?_)
    · have htm : ¬ 200 < (WL n k fr to).length := of_decide_eq_false (by rw [← hr9.2.1]; exact c16)
      have hnc := hr9.2.2.1 c16
      have hap : ∀ X, apM st9 hs9 mm9 (decide (yy = 0)) X = sApart n k fr to (decide (yy = 0)) fa X := fun X => by rw [apM_aptB (S := sS (WL n k fr to)) (T := sN to (WL n k fr to)) (fun i hi => ⟨(hr9.2.2.2.2 i hi).2.2.1, (hr9.2.2.2.2 i hi).2.2.2.1⟩), hnc]; rfl
      have hp2 : 2 ^ k ≤ 2 ^ 16 := Nat.pow_le_pow_right (by decide) hF.2.2.1
      have hsh : 1 <<< k = 2 ^ k := Nat.one_shiftLeft k
      have hk16 := hF.2.2.1
      refine lv_iload_n hx hb dX7_cheapest_22 rfl (lv_at hl 2 rfl) ?_
      refine r_ifb_eq hx hb dX7_cheapest_23 (tgt := 33) (by decide) (fun c23 => ?_) (fun c23 => ?_)
      · refine lv_iconst (v := nI 0) hx hb dX7_cheapest_33 (by decide) ?_
        refine lv_istore_n (lv' := [(3, .int (nI 0)), (0, .ref aM), (1, .int (nI yy)), (2, .int (bI bes))]) hx hb dX7_cheapest_34 rfl hl (by decide) rfl (fun ls hl => ?_)
        refine lv_iconst (v := (-1)) hx hb dX7_cheapest_35 (by decide) ?_
        refine lv_istore (lv' := [(4, .int (-1)), (3, .int (nI 0)), (0, .ref aM), (1, .int (nI yy)), (2, .int (bI bes))]) hx hb dX7_cheapest_36 hl (by decide) rfl (fun ls hl => ?_)
        refine lv_lconst (v := lN 0) hx hb dX7_cheapest_38 (by decide) ?_
        refine lv_lstore (lv' := [(5, .long (lN 0)), (4, .int (-1)), (3, .int (nI 0)), (0, .ref aM), (1, .int (nI yy)), (2, .int (bI bes))]) hx hb dX7_cheapest_39 hl (by decide) rfl (fun ls hl => ?_)
        refine lv_iconst (v := nI 0) hx hb dX7_cheapest_41 (by decide) ?_
        refine lv_istore (lv' := [(7, .int (nI 0)), (5, .long (lN 0)), (4, .int (-1)), (3, .int (nI 0)), (0, .ref aM), (1, .int (nI yy)), (2, .int (bI bes))]) hx hb dX7_cheapest_42 hl (by decide) rfl (fun ls hl => ?_)
        have loop44 : ∀ (n_ : Nat) (ss : Nat) (mu : Nat) (bb : Bool) (bx : Nat) (x : Int32) (ll : Nat) (tv : Nat) (sv : Nat → Nat) (bv : Nat → Nat) (hss : ss ≤ 2 ^ k) (hmu : mu = (if bes then li else 0)) (hx0 : x = (if bb then nI bx else -1)) (hll : bb = true → ll = prc ct bx k) (hO : OptS k ct (sApart n k fr to (decide (yy = 0)) fa) mu bb bx ss) (htv : tv ≤ tu + ss) (hsv : ∀ l, l < 65536 → sv l ≤ tv) (hm : 2 ^ k - ss < n_) (H_ : Heap) (locs_ : List Loc) (ls : Array Slot) (hl : lv_has ls 10 [(7, .int (nI ss)), (5, .long (lN ll)), (4, .int x), (3, .int (nI mu)), (0, .ref aM), (1, .int (nI yy)), (2, .int (bI bes))]) (w : ga_wd G A_ s_ H_ locs_ [(aM, .inr (7, [.ref mT, .int (nI tl), .int (nI n), .int (nI k), .ref mF, .ref mO, .ref mC, .int (nI li), .int (nI fa), .int (nI mm9), .int (bI im9), .ref mR, .ref mZ, .ref mS, .ref mH, .int (bI ird), .int (bI itn), .int (nI lsz), .ref mL, .ref mN, .ref mX, .ref mY, .int (nI tv)])), (mF, .inl (G.2.2, 16, .inl (aN fr))), (mO, .inl (G.2.2, 16, .inl (aN to))), (mR, .inl (G.2.2, 3200, .inl (aN rw9))), (mZ, .inl (G.2.2, 200, .inl (aN sz9))), (mS, .inl (G.2.2, 200, .inl (aN st9))), (mH, .inl (G.2.2, 200, .inl (aN hs9))), (mN, .inl (G.2.2, 16, .inl (aN nw9))), (mX, .inl (G.2.2, 65536, .inl (aN sv))), (mY, .inl (G.2.2, 65536, .inl (aN bv))), (mC, .inl (G.2.2, 16, .inl (aN ct)))]), W p_ l e_ { frames := 3, cells := 0, slots := 0, locals := 65 } s_ m_ [.ref aM, .int (nI yy), .int (bI bes)].toArray below meth c_ H_ locs_ (0) (0) (MQ below (ga_Q G A_ (fun r w => ∃ (mm2 : Nat), ∃ (im2 : Bool), ∃ (rw2 : Nat → Nat), ∃ (sz2 : Nat → Nat), ∃ (st2 : Nat → Nat), ∃ (hs2 : Nat → Nat), ∃ (nw2 : Nat → Nat), ∃ (tu2 : Nat), ∃ (sn2 : Nat → Nat), ∃ (sb2 : Nat → Nat), ∃ (xx : Nat), (RepM to fa (WL n k fr to) mm2 im2 rw2 sz2 st2 hs2) ∧ (tu2 ≤ tu + 65536) ∧ (∀ l, l < 65536 → sn2 l ≤ tu2) ∧ (Opt k ct (sApart n k fr to (decide (yy = 0)) fa) (if bes then li else 0) xx) ∧ r = some (.int (nI xx)) ∧ w = [(aM, .inr (7, [.ref mT, .int (nI tl), .int (nI n), .int (nI k), .ref mF, .ref mO, .ref mC, .int (nI li), .int (nI fa), .int (nI mm2), .int (bI im2), .ref mR, .ref mZ, .ref mS, .ref mH, .int (bI ird), .int (bI itn), .int (nI lsz), .ref mL, .ref mN, .ref mX, .ref mY, .int (nI tu2)])), (mF, .inl (G.2.2, 16, .inl (aN fr))), (mO, .inl (G.2.2, 16, .inl (aN to))), (mR, .inl (G.2.2, 3200, .inl (aN rw2))), (mZ, .inl (G.2.2, 200, .inl (aN sz2))), (mS, .inl (G.2.2, 200, .inl (aN st2))), (mH, .inl (G.2.2, 200, .inl (aN hs2))), (mN, .inl (G.2.2, 16, .inl (aN nw2))), (mX, .inl (G.2.2, 65536, .inl (aN sn2))), (mY, .inl (G.2.2, 65536, .inl (aN sb2))), (mC, .inl (G.2.2, 16, .inl (aN ct)))])) [.ref aM, .int (nI yy), .int (bI bes)].toArray s_ 0 0 A_) (F0 m_ 44 ls []) := by
          intro n_
          induction n_ with
          | zero => intro ss mu bb bx x ll tv sv bv hss hmu hx0 hll hO htv hsv hm; exact absurd hm (Nat.not_lt_zero _)
          | succ n_ ih44 =>
            intro ss mu bb bx x ll tv sv bv hss hmu hx0 hll hO htv hsv hm44 H_ locs_ ls hl w
            refine lv_iload hx hb dX7_cheapest_44 (lv_at hl 0 rfl) ?_
            refine lv_iconst (v := nI 1) hx hb dX7_cheapest_46 (by decide) ?_
            refine lv_aload_n hx hb dX7_cheapest_47 rfl (lv_at hl 4 rfl) ?_
            refine gf_X7_52 cx hK w 0 rfl rfl dX7_cheapest_48 ?_
            refine r_ishl hx hb dX7_cheapest_51 (by omega) ?_
            refine r_icmp_ge hx hb dX7_cheapest_52 (tgt := 133) (by decide) (by omega) (by omega) (fun c52 => ?_) (fun c52 => ?_)
            · obtain ⟨hbt, hopt⟩ := OptS_end (k := k) (ct := ct) (A := (sApart n k fr to (decide (yy = 0)) fa)) (mu := mu) (bb := bb) (bx := bx) (by rw [hmu]; split <;> omega) (apt_full hF _ _ _) (by rw [show 2 ^ k = ss by omega]; exact hO)
              subst hbt
              have hx1 : x = nI bx := hx0
              subst hx1
              have hbx : bx < 2 ^ k := hopt.1
              refine lv_iload hx hb dX7_cheapest_133 (lv_at hl 2 rfl) ?_
              exact ga_iret cx hr hlk w dX7_cheapest_135 ⟨Nat.le_refl _, Nat.le_refl _⟩ (⟨mm9, im9, rw9, sz9, st9, hs9, nw9, tv, sv, bv, bx, hR9, by omega, hsv, (by rw [← hmu]; exact hopt), rfl, rfl⟩)
            · have hs16 : ss < 65536 := by omega
              refine lv_iload hx hb dX7_cheapest_55 (lv_at hl 0 rfl) ?_
              refine lv_iload_n hx hb dX7_cheapest_57 rfl (lv_at hl 3 rfl) ?_
              refine r_iand hx hb dX7_cheapest_58 ?_
              refine lv_iload_n hx hb dX7_cheapest_59 rfl (lv_at hl 3 rfl) ?_
              refine r_icmp_eq hx hb dX7_cheapest_60 (tgt := 66) (by decide) (andL_lt (by omega)) (by rw [hmu]; split <;> omega) (fun c60 => ?_) (fun c60 => ?_)
              · cases bb
                · have hx1 : x = -1 := hx0
                  subst hx1
                  refine lv_aload_n hx hb dX7_cheapest_66 rfl (lv_at hl 4 rfl) ?_
                  refine lv_iload hx hb dX7_cheapest_67 (lv_at hl 0 rfl) ?_
                  refine ga_callV (rest := []) (wr := [(mF, .inl (G.2.2, 16, .inl (aN fr))), (mO, .inl (G.2.2, 16, .inl (aN to))), (mR, .inl (G.2.2, 3200, .inl (aN rw9))), (mZ, .inl (G.2.2, 200, .inl (aN sz9))), (mS, .inl (G.2.2, 200, .inl (aN st9))), (mH, .inl (G.2.2, 200, .inl (aN hs9))), (mN, .inl (G.2.2, 16, .inl (aN nw9))), (mX, .inl (G.2.2, 65536, .inl (aN sv))), (mY, .inl (G.2.2, 65536, .inl (aN bv)))]) cx hK hA w hl lk_X7_121 (c_X7_priceOf l G aM mT mF mO mC mR mZ mS mH mL mN mX mY tl n k li fa mm9 im9 ird itn lsz tv ct ss (hF.2.2.1) (by omega) (hF.2.2.2.2)) ⟨Nat.le_of_ble_eq_true rfl, Nat.le_of_ble_eq_true rfl⟩ [0, 10] [1, 2, 3, 4, 5, 6, 7, 8, 9] rfl rfl (by decide) (by decide) (by decide) 0 7 rfl rfl rfl rfl (Nat.le_of_ble_eq_true rfl) dX7_cheapest_69 ⟨Nat.le_refl _, Nat.le_refl _⟩ rfl (fun r w1_ H_ locs_ hp w => ?_)
                  obtain ⟨rfl, rfl⟩ := hp
                  have w : ga_wd G A_ s_ H_ locs_ [(aM, .inr (7, [.ref mT, .int (nI tl), .int (nI n), .int (nI k), .ref mF, .ref mO, .ref mC, .int (nI li), .int (nI fa), .int (nI mm9), .int (bI im9), .ref mR, .ref mZ, .ref mS, .ref mH, .int (bI ird), .int (bI itn), .int (nI lsz), .ref mL, .ref mN, .ref mX, .ref mY, .int (nI tv)])), (mF, .inl (G.2.2, 16, .inl (aN fr))), (mO, .inl (G.2.2, 16, .inl (aN to))), (mR, .inl (G.2.2, 3200, .inl (aN rw9))), (mZ, .inl (G.2.2, 200, .inl (aN sz9))), (mS, .inl (G.2.2, 200, .inl (aN st9))), (mH, .inl (G.2.2, 200, .inl (aN hs9))), (mN, .inl (G.2.2, 16, .inl (aN nw9))), (mX, .inl (G.2.2, 65536, .inl (aN sv))), (mY, .inl (G.2.2, 65536, .inl (aN bv))), (mC, .inl (G.2.2, 16, .inl (aN ct)))] := ga_perm w [9, 0, 1, 2, 3, 4, 5, 6, 7, 8, 10] (by decide) rfl
                  refine W.eq (g2 := F0 m_ 72 ls [.long (lN (prc ct ss k))]) rfl ?_
                  refine lv_lstore (lv' := [(8, .long (lN (prc ct ss k))), (7, .int (nI ss)), (5, .long (lN ll)), (4, .int (-1)), (3, .int (nI mu)), (0, .ref aM), (1, .int (nI yy)), (2, .int (bI bes))]) hx hb dX7_cheapest_72 hl (by decide) rfl (fun ls hl => ?_)
                  have hpl := prc_le (ct := ct) (st := ss) (k := k) hF.2.2.2.2
                  refine lv_iload hx hb dX7_cheapest_74 (lv_at hl 3 rfl) ?_
                  refine lv_iconst (v := (-1)) hx hb dX7_cheapest_76 (by decide) ?_
                  refine lv_icmp_eq hx hb dX7_cheapest_77 (tgt := 106) (by decide) (fun c77 => ?_) (fun c77 => ?_)
                  · refine lv_aload_n hx hb dX7_cheapest_106 rfl (lv_at hl 5 rfl) ?_
                    refine lv_iload_n hx hb dX7_cheapest_107 rfl (lv_at hl 6 rfl) ?_
                    refine lv_iload hx hb dX7_cheapest_108 (lv_at hl 1 rfl) ?_
                    refine ga_callV (rest := []) (wr := [(mF, .inl (G.2.2, 16, .inl (aN fr))), (mO, .inl (G.2.2, 16, .inl (aN to))), (mR, .inl (G.2.2, 3200, .inl (aN rw9))), (mZ, .inl (G.2.2, 200, .inl (aN sz9))), (mN, .inl (G.2.2, 16, .inl (aN nw9))), (mC, .inl (G.2.2, 16, .inl (aN ct)))]) cx hK hA w hl lk_X7_118 (c_X7_isApart l G aM mT mF mO mC mR mZ mS mH mL mN mX mY tl n k li fa mm9 im9 ird itn lsz tv st9 hs9 sv bv yy ss (by omega) (hs16) (by omega) (hyy) (hsv) (fun i hi => by rw [(hr9.2.2.2.2 i hi).2.2.2.1]; exact andL_lt hfa)) ⟨Nat.le_of_ble_eq_true rfl, Nat.le_of_ble_eq_true rfl⟩ [0, 5, 6, 8, 9] [1, 2, 3, 4, 7, 10] rfl rfl (by decide) (by decide) (by decide) 0 7 rfl rfl rfl rfl (Nat.le_of_ble_eq_true rfl) dX7_cheapest_110 ⟨Nat.le_refl _, Nat.le_refl _⟩ rfl (fun r w1_ H_ locs_ hp w => ?_)
                    obtain ⟨sn5, sb5, hs5, rfl, rfl⟩ := hp
                    have w : ga_wd G A_ s_ H_ locs_ [(aM, .inr (7, [.ref mT, .int (nI tl), .int (nI n), .int (nI k), .ref mF, .ref mO, .ref mC, .int (nI li), .int (nI fa), .int (nI mm9), .int (bI im9), .ref mR, .ref mZ, .ref mS, .ref mH, .int (bI ird), .int (bI itn), .int (nI lsz), .ref mL, .ref mN, .ref mX, .ref mY, .int (nI (tv + 1))])), (mF, .inl (G.2.2, 16, .inl (aN fr))), (mO, .inl (G.2.2, 16, .inl (aN to))), (mR, .inl (G.2.2, 3200, .inl (aN rw9))), (mZ, .inl (G.2.2, 200, .inl (aN sz9))), (mS, .inl (G.2.2, 200, .inl (aN st9))), (mH, .inl (G.2.2, 200, .inl (aN hs9))), (mN, .inl (G.2.2, 16, .inl (aN nw9))), (mX, .inl (G.2.2, 65536, .inl (aN sn5))), (mY, .inl (G.2.2, 65536, .inl (aN sb5))), (mC, .inl (G.2.2, 16, .inl (aN ct)))] := ga_perm w [6, 0, 1, 2, 3, 7, 8, 4, 9, 10, 5] (by decide) rfl
                    refine W.eq (g2 := F0 m_ 113 ls [.int (bI (apM st9 hs9 mm9 (decide (yy = 0)) ss))]) rfl ?_
                    refine r_ifb_ne hx hb dX7_cheapest_113 (tgt := 119) (by decide) (fun c113 => ?_) (fun c113 => ?_)
                    · refine lv_iload hx hb dX7_cheapest_119 (lv_at hl 1 rfl) ?_
                      refine lv_istore (lv' := [(4, .int (nI ss)), (8, .long (lN (prc ct ss k))), (7, .int (nI ss)), (5, .long (lN ll)), (3, .int (nI mu)), (0, .ref aM), (1, .int (nI yy)), (2, .int (bI bes))]) hx hb dX7_cheapest_121 hl (by decide) rfl (fun ls hl => ?_)
                      refine lv_lload hx hb dX7_cheapest_123 (lv_at hl 1 rfl) ?_
                      refine lv_lstore (lv' := [(5, .long (lN (prc ct ss k))), (4, .int (nI ss)), (8, .long (lN (prc ct ss k))), (7, .int (nI ss)), (3, .int (nI mu)), (0, .ref aM), (1, .int (nI yy)), (2, .int (bI bes))]) hx hb dX7_cheapest_125 hl (by decide) rfl (fun ls hl => ?_)
                      refine r_iinc (d := 1) (k := 3) (lv' := [(7, .int (nI (ss + 1))), (5, .long (lN (prc ct ss k))), (4, .int (nI ss)), (8, .long (lN (prc ct ss k))), (3, .int (nI mu)), (0, .ref aM), (1, .int (nI yy)), (2, .int (bI bes))]) hx hb dX7_cheapest_127 hl rfl (by decide) (by decide) rfl (fun ls hl => ?_)
                      refine lv_goto (tgt := 44) hx hb dX7_cheapest_130 (by decide) ?_
                      exact ih44 (ss + 1) mu true ss (nI ss) (prc ct ss k) (tv + 1) sn5 sb5 (by omega) (hmu) (rfl) (fun _ => rfl) (OptS_first hO (and_cm c60) (by rw [← hap]; exact c113)) (by omega) (hs5) (by omega) _ _ _ (lv_sub hl [0, 1, 2, 4, 5, 6, 7] rfl) w
                    · refine lv_goto (tgt := 127) hx hb dX7_cheapest_116 (by decide) ?_
                      refine r_iinc (d := 1) (k := 1) (lv' := [(7, .int (nI (ss + 1))), (8, .long (lN (prc ct ss k))), (5, .long (lN ll)), (4, .int (-1)), (3, .int (nI mu)), (0, .ref aM), (1, .int (nI yy)), (2, .int (bI bes))]) hx hb dX7_cheapest_127 hl rfl (by decide) (by decide) rfl (fun ls hl => ?_)
                      refine lv_goto (tgt := 44) hx hb dX7_cheapest_130 (by decide) ?_
                      exact ih44 (ss + 1) mu false bx (-1) ll (tv + 1) sn5 sb5 (by omega) (hmu) (rfl) (fun h => by cases h) (OptS_no hO (by intro z; rw [← hap, c113] at z; cases z.2)) (by omega) (hs5) (by omega) _ _ _ (lv_sub hl [0, 2, 3, 4, 5, 6, 7] rfl) w
                  · exact absurd rfl c77
                · have hx1 : x = nI bx := hx0
                  subst hx1
                  have hll := hll rfl
                  have hbx : bx < ss := hO.1
                  have hpb := prc_le (ct := ct) (st := bx) (k := k) hF.2.2.2.2
                  refine lv_aload_n hx hb dX7_cheapest_66 rfl (lv_at hl 4 rfl) ?_
                  refine lv_iload hx hb dX7_cheapest_67 (lv_at hl 0 rfl) ?_
                  refine ga_callV (rest := []) (wr := [(mF, .inl (G.2.2, 16, .inl (aN fr))), (mO, .inl (G.2.2, 16, .inl (aN to))), (mR, .inl (G.2.2, 3200, .inl (aN rw9))), (mZ, .inl (G.2.2, 200, .inl (aN sz9))), (mS, .inl (G.2.2, 200, .inl (aN st9))), (mH, .inl (G.2.2, 200, .inl (aN hs9))), (mN, .inl (G.2.2, 16, .inl (aN nw9))), (mX, .inl (G.2.2, 65536, .inl (aN sv))), (mY, .inl (G.2.2, 65536, .inl (aN bv)))]) cx hK hA w hl lk_X7_121 (c_X7_priceOf l G aM mT mF mO mC mR mZ mS mH mL mN mX mY tl n k li fa mm9 im9 ird itn lsz tv ct ss (hF.2.2.1) (by omega) (hF.2.2.2.2)) ⟨Nat.le_of_ble_eq_true rfl, Nat.le_of_ble_eq_true rfl⟩ [0, 10] [1, 2, 3, 4, 5, 6, 7, 8, 9] rfl rfl (by decide) (by decide) (by decide) 0 7 rfl rfl rfl rfl (Nat.le_of_ble_eq_true rfl) dX7_cheapest_69 ⟨Nat.le_refl _, Nat.le_refl _⟩ rfl (fun r w1_ H_ locs_ hp w => ?_)
                  obtain ⟨rfl, rfl⟩ := hp
                  have w : ga_wd G A_ s_ H_ locs_ [(aM, .inr (7, [.ref mT, .int (nI tl), .int (nI n), .int (nI k), .ref mF, .ref mO, .ref mC, .int (nI li), .int (nI fa), .int (nI mm9), .int (bI im9), .ref mR, .ref mZ, .ref mS, .ref mH, .int (bI ird), .int (bI itn), .int (nI lsz), .ref mL, .ref mN, .ref mX, .ref mY, .int (nI tv)])), (mF, .inl (G.2.2, 16, .inl (aN fr))), (mO, .inl (G.2.2, 16, .inl (aN to))), (mR, .inl (G.2.2, 3200, .inl (aN rw9))), (mZ, .inl (G.2.2, 200, .inl (aN sz9))), (mS, .inl (G.2.2, 200, .inl (aN st9))), (mH, .inl (G.2.2, 200, .inl (aN hs9))), (mN, .inl (G.2.2, 16, .inl (aN nw9))), (mX, .inl (G.2.2, 65536, .inl (aN sv))), (mY, .inl (G.2.2, 65536, .inl (aN bv))), (mC, .inl (G.2.2, 16, .inl (aN ct)))] := ga_perm w [9, 0, 1, 2, 3, 4, 5, 6, 7, 8, 10] (by decide) rfl
                  refine W.eq (g2 := F0 m_ 72 ls [.long (lN (prc ct ss k))]) rfl ?_
                  refine lv_lstore (lv' := [(8, .long (lN (prc ct ss k))), (7, .int (nI ss)), (5, .long (lN ll)), (4, .int (nI bx)), (3, .int (nI mu)), (0, .ref aM), (1, .int (nI yy)), (2, .int (bI bes))]) hx hb dX7_cheapest_72 hl (by decide) rfl (fun ls hl => ?_)
                  have hpl := prc_le (ct := ct) (st := ss) (k := k) hF.2.2.2.2
                  refine lv_iload hx hb dX7_cheapest_74 (lv_at hl 3 rfl) ?_
                  refine lv_iconst (v := (-1)) hx hb dX7_cheapest_76 (by decide) ?_
                  refine lv_icmp_eq hx hb dX7_cheapest_77 (tgt := 106) (by decide) (fun c77 => ?_) (fun c77 => ?_)
                  · exact absurd c77 (nI_nm1 (by omega))
                  · refine lv_lload hx hb dX7_cheapest_80 (lv_at hl 0 rfl) ?_
                    refine lv_lload hx hb dX7_cheapest_82 (lv_at hl 2 rfl) ?_
                    refine W.lcmp hx hb dX7_cheapest_84 ?_
                    refine r_lcN_gt hx hb dX7_cheapest_85 (tgt := 127) (by decide) (by omega) (by omega) (fun c85 => ?_) (fun c85 => ?_)
                    · refine r_iinc (d := 1) (k := 1) (lv' := [(7, .int (nI (ss + 1))), (8, .long (lN (prc ct ss k))), (5, .long (lN ll)), (4, .int (nI bx)), (3, .int (nI mu)), (0, .ref aM), (1, .int (nI yy)), (2, .int (bI bes))]) hx hb dX7_cheapest_127 hl rfl (by decide) (by decide) rfl (fun ls hl => ?_)
                      refine lv_goto (tgt := 44) hx hb dX7_cheapest_130 (by decide) ?_
                      exact ih44 (ss + 1) mu true bx (nI bx) ll tv sv bv (by omega) (hmu) (rfl) (fun _ => hll) (OptS_keep hs16 hO (by rw [← hll]; intro z; rcases z with z | ⟨z, _⟩ <;> omega)) (by omega) (hsv) (by omega) _ _ _ (lv_sub hl [0, 2, 3, 4, 5, 6, 7] rfl) w
                    · refine lv_lload hx hb dX7_cheapest_88 (lv_at hl 0 rfl) ?_
                      refine lv_lload hx hb dX7_cheapest_90 (lv_at hl 2 rfl) ?_
                      refine W.lcmp hx hb dX7_cheapest_92 ?_
                      refine r_lcN_ne hx hb dX7_cheapest_93 (tgt := 106) (by decide) (by omega) (by omega) (fun c93 => ?_) (fun c93 => ?_)
                      · refine lv_aload_n hx hb dX7_cheapest_106 rfl (lv_at hl 5 rfl) ?_
                        refine lv_iload_n hx hb dX7_cheapest_107 rfl (lv_at hl 6 rfl) ?_
                        refine lv_iload hx hb dX7_cheapest_108 (lv_at hl 1 rfl) ?_
                        refine ga_callV (rest := []) (wr := [(mF, .inl (G.2.2, 16, .inl (aN fr))), (mO, .inl (G.2.2, 16, .inl (aN to))), (mR, .inl (G.2.2, 3200, .inl (aN rw9))), (mZ, .inl (G.2.2, 200, .inl (aN sz9))), (mN, .inl (G.2.2, 16, .inl (aN nw9))), (mC, .inl (G.2.2, 16, .inl (aN ct)))]) cx hK hA w hl lk_X7_118 (c_X7_isApart l G aM mT mF mO mC mR mZ mS mH mL mN mX mY tl n k li fa mm9 im9 ird itn lsz tv st9 hs9 sv bv yy ss (by omega) (hs16) (by omega) (hyy) (hsv) (fun i hi => by rw [(hr9.2.2.2.2 i hi).2.2.2.1]; exact andL_lt hfa)) ⟨Nat.le_of_ble_eq_true rfl, Nat.le_of_ble_eq_true rfl⟩ [0, 5, 6, 8, 9] [1, 2, 3, 4, 7, 10] rfl rfl (by decide) (by decide) (by decide) 0 7 rfl rfl rfl rfl (Nat.le_of_ble_eq_true rfl) dX7_cheapest_110 ⟨Nat.le_refl _, Nat.le_refl _⟩ rfl (fun r w1_ H_ locs_ hp w => ?_)
                        obtain ⟨sn5, sb5, hs5, rfl, rfl⟩ := hp
                        have w : ga_wd G A_ s_ H_ locs_ [(aM, .inr (7, [.ref mT, .int (nI tl), .int (nI n), .int (nI k), .ref mF, .ref mO, .ref mC, .int (nI li), .int (nI fa), .int (nI mm9), .int (bI im9), .ref mR, .ref mZ, .ref mS, .ref mH, .int (bI ird), .int (bI itn), .int (nI lsz), .ref mL, .ref mN, .ref mX, .ref mY, .int (nI (tv + 1))])), (mF, .inl (G.2.2, 16, .inl (aN fr))), (mO, .inl (G.2.2, 16, .inl (aN to))), (mR, .inl (G.2.2, 3200, .inl (aN rw9))), (mZ, .inl (G.2.2, 200, .inl (aN sz9))), (mS, .inl (G.2.2, 200, .inl (aN st9))), (mH, .inl (G.2.2, 200, .inl (aN hs9))), (mN, .inl (G.2.2, 16, .inl (aN nw9))), (mX, .inl (G.2.2, 65536, .inl (aN sn5))), (mY, .inl (G.2.2, 65536, .inl (aN sb5))), (mC, .inl (G.2.2, 16, .inl (aN ct)))] := ga_perm w [6, 0, 1, 2, 3, 7, 8, 4, 9, 10, 5] (by decide) rfl
                        refine W.eq (g2 := F0 m_ 113 ls [.int (bI (apM st9 hs9 mm9 (decide (yy = 0)) ss))]) rfl ?_
                        refine r_ifb_ne hx hb dX7_cheapest_113 (tgt := 119) (by decide) (fun c113 => ?_) (fun c113 => ?_)
                        · refine lv_iload hx hb dX7_cheapest_119 (lv_at hl 1 rfl) ?_
                          refine lv_istore (lv' := [(4, .int (nI ss)), (8, .long (lN (prc ct ss k))), (7, .int (nI ss)), (5, .long (lN ll)), (3, .int (nI mu)), (0, .ref aM), (1, .int (nI yy)), (2, .int (bI bes))]) hx hb dX7_cheapest_121 hl (by decide) rfl (fun ls hl => ?_)
                          refine lv_lload hx hb dX7_cheapest_123 (lv_at hl 1 rfl) ?_
                          refine lv_lstore (lv' := [(5, .long (lN (prc ct ss k))), (4, .int (nI ss)), (8, .long (lN (prc ct ss k))), (7, .int (nI ss)), (3, .int (nI mu)), (0, .ref aM), (1, .int (nI yy)), (2, .int (bI bes))]) hx hb dX7_cheapest_125 hl (by decide) rfl (fun ls hl => ?_)
                          refine r_iinc (d := 1) (k := 3) (lv' := [(7, .int (nI (ss + 1))), (5, .long (lN (prc ct ss k))), (4, .int (nI ss)), (8, .long (lN (prc ct ss k))), (3, .int (nI mu)), (0, .ref aM), (1, .int (nI yy)), (2, .int (bI bes))]) hx hb dX7_cheapest_127 hl rfl (by decide) (by decide) rfl (fun ls hl => ?_)
                          refine lv_goto (tgt := 44) hx hb dX7_cheapest_130 (by decide) ?_
                          exact ih44 (ss + 1) mu true ss (nI ss) (prc ct ss k) (tv + 1) sn5 sb5 (by omega) (hmu) (rfl) (fun _ => rfl) (OptS_rep hs16 hO (and_cm c60) (by rw [← hap]; exact c113) (Or.inl (by rw [← hll]; omega))) (by omega) (hs5) (by omega) _ _ _ (lv_sub hl [0, 1, 2, 4, 5, 6, 7] rfl) w
                        · refine lv_goto (tgt := 127) hx hb dX7_cheapest_116 (by decide) ?_
                          refine r_iinc (d := 1) (k := 1) (lv' := [(7, .int (nI (ss + 1))), (8, .long (lN (prc ct ss k))), (5, .long (lN ll)), (4, .int (nI bx)), (3, .int (nI mu)), (0, .ref aM), (1, .int (nI yy)), (2, .int (bI bes))]) hx hb dX7_cheapest_127 hl rfl (by decide) (by decide) rfl (fun ls hl => ?_)
                          refine lv_goto (tgt := 44) hx hb dX7_cheapest_130 (by decide) ?_
                          exact ih44 (ss + 1) mu true bx (nI bx) ll (tv + 1) sn5 sb5 (by omega) (hmu) (rfl) (fun _ => hll) (OptS_no hO (by intro z; rw [← hap, c113] at z; cases z.2)) (by omega) (hs5) (by omega) _ _ _ (lv_sub hl [0, 2, 3, 4, 5, 6, 7] rfl) w
                      · refine lv_iload hx hb dX7_cheapest_96 (lv_at hl 1 rfl) ?_
                        refine lv_iload hx hb dX7_cheapest_98 (lv_at hl 3 rfl) ?_
                        refine ga_callS (rest := []) (wr := [(aM, .inr (7, [.ref mT, .int (nI tl), .int (nI n), .int (nI k), .ref mF, .ref mO, .ref mC, .int (nI li), .int (nI fa), .int (nI mm9), .int (bI im9), .ref mR, .ref mZ, .ref mS, .ref mH, .int (bI ird), .int (bI itn), .int (nI lsz), .ref mL, .ref mN, .ref mX, .ref mY, .int (nI tv)])), (mF, .inl (G.2.2, 16, .inl (aN fr))), (mO, .inl (G.2.2, 16, .inl (aN to))), (mR, .inl (G.2.2, 3200, .inl (aN rw9))), (mZ, .inl (G.2.2, 200, .inl (aN sz9))), (mS, .inl (G.2.2, 200, .inl (aN st9))), (mH, .inl (G.2.2, 200, .inl (aN hs9))), (mN, .inl (G.2.2, 16, .inl (aN nw9))), (mX, .inl (G.2.2, 65536, .inl (aN sv))), (mY, .inl (G.2.2, 65536, .inl (aN bv))), (mC, .inl (G.2.2, 16, .inl (aN ct)))]) cx hK hA w hl lk_X7_130 (c_X7_isBetter l G ss bx (hs16) (by omega)) ⟨Nat.le_of_ble_eq_true rfl, Nat.le_of_ble_eq_true rfl⟩ [] [0, 1, 2, 3, 4, 5, 6, 7, 8, 9, 10] rfl rfl (by decide) (by decide) (by decide) rfl (Nat.le_of_ble_eq_true rfl) dX7_cheapest_100 ⟨Nat.le_refl _, Nat.le_refl _⟩ rfl (fun r w1_ H_ locs_ hp w => ?_)
                        obtain ⟨rfl, rfl⟩ := hp
                        have w : ga_wd G A_ s_ H_ locs_ [(aM, .inr (7, [.ref mT, .int (nI tl), .int (nI n), .int (nI k), .ref mF, .ref mO, .ref mC, .int (nI li), .int (nI fa), .int (nI mm9), .int (bI im9), .ref mR, .ref mZ, .ref mS, .ref mH, .int (bI ird), .int (bI itn), .int (nI lsz), .ref mL, .ref mN, .ref mX, .ref mY, .int (nI tv)])), (mF, .inl (G.2.2, 16, .inl (aN fr))), (mO, .inl (G.2.2, 16, .inl (aN to))), (mR, .inl (G.2.2, 3200, .inl (aN rw9))), (mZ, .inl (G.2.2, 200, .inl (aN sz9))), (mS, .inl (G.2.2, 200, .inl (aN st9))), (mH, .inl (G.2.2, 200, .inl (aN hs9))), (mN, .inl (G.2.2, 16, .inl (aN nw9))), (mX, .inl (G.2.2, 65536, .inl (aN sv))), (mY, .inl (G.2.2, 65536, .inl (aN bv))), (mC, .inl (G.2.2, 16, .inl (aN ct)))] := ga_perm w [0, 1, 2, 3, 4, 5, 6, 7, 8, 9, 10] (by decide) rfl
                        refine W.eq (g2 := F0 m_ 103 ls [.int (bI (rat ss bx))]) rfl ?_
                        refine r_ifb_eq hx hb dX7_cheapest_103 (tgt := 127) (by decide) (fun c103 => ?_) (fun c103 => ?_)
                        · refine r_iinc (d := 1) (k := 1) (lv' := [(7, .int (nI (ss + 1))), (8, .long (lN (prc ct ss k))), (5, .long (lN ll)), (4, .int (nI bx)), (3, .int (nI mu)), (0, .ref aM), (1, .int (nI yy)), (2, .int (bI bes))]) hx hb dX7_cheapest_127 hl rfl (by decide) (by decide) rfl (fun ls hl => ?_)
                          refine lv_goto (tgt := 44) hx hb dX7_cheapest_130 (by decide) ?_
                          exact ih44 (ss + 1) mu true bx (nI bx) ll tv sv bv (by omega) (hmu) (rfl) (fun _ => hll) (OptS_keep hs16 hO (by rw [c103]; intro z; rcases z with z | z; (rw [← hll] at z; omega); cases z.2)) (by omega) (hsv) (by omega) _ _ _ (lv_sub hl [0, 2, 3, 4, 5, 6, 7] rfl) w
                        · refine lv_aload_n hx hb dX7_cheapest_106 rfl (lv_at hl 5 rfl) ?_
                          refine lv_iload_n hx hb dX7_cheapest_107 rfl (lv_at hl 6 rfl) ?_
                          refine lv_iload hx hb dX7_cheapest_108 (lv_at hl 1 rfl) ?_
                          refine ga_callV (rest := []) (wr := [(mF, .inl (G.2.2, 16, .inl (aN fr))), (mO, .inl (G.2.2, 16, .inl (aN to))), (mR, .inl (G.2.2, 3200, .inl (aN rw9))), (mZ, .inl (G.2.2, 200, .inl (aN sz9))), (mN, .inl (G.2.2, 16, .inl (aN nw9))), (mC, .inl (G.2.2, 16, .inl (aN ct)))]) cx hK hA w hl lk_X7_118 (c_X7_isApart l G aM mT mF mO mC mR mZ mS mH mL mN mX mY tl n k li fa mm9 im9 ird itn lsz tv st9 hs9 sv bv yy ss (by omega) (hs16) (by omega) (hyy) (hsv) (fun i hi => by rw [(hr9.2.2.2.2 i hi).2.2.2.1]; exact andL_lt hfa)) ⟨Nat.le_of_ble_eq_true rfl, Nat.le_of_ble_eq_true rfl⟩ [0, 5, 6, 8, 9] [1, 2, 3, 4, 7, 10] rfl rfl (by decide) (by decide) (by decide) 0 7 rfl rfl rfl rfl (Nat.le_of_ble_eq_true rfl) dX7_cheapest_110 ⟨Nat.le_refl _, Nat.le_refl _⟩ rfl (fun r w1_ H_ locs_ hp w => ?_)
                          obtain ⟨sn5, sb5, hs5, rfl, rfl⟩ := hp
                          have w : ga_wd G A_ s_ H_ locs_ [(aM, .inr (7, [.ref mT, .int (nI tl), .int (nI n), .int (nI k), .ref mF, .ref mO, .ref mC, .int (nI li), .int (nI fa), .int (nI mm9), .int (bI im9), .ref mR, .ref mZ, .ref mS, .ref mH, .int (bI ird), .int (bI itn), .int (nI lsz), .ref mL, .ref mN, .ref mX, .ref mY, .int (nI (tv + 1))])), (mF, .inl (G.2.2, 16, .inl (aN fr))), (mO, .inl (G.2.2, 16, .inl (aN to))), (mR, .inl (G.2.2, 3200, .inl (aN rw9))), (mZ, .inl (G.2.2, 200, .inl (aN sz9))), (mS, .inl (G.2.2, 200, .inl (aN st9))), (mH, .inl (G.2.2, 200, .inl (aN hs9))), (mN, .inl (G.2.2, 16, .inl (aN nw9))), (mX, .inl (G.2.2, 65536, .inl (aN sn5))), (mY, .inl (G.2.2, 65536, .inl (aN sb5))), (mC, .inl (G.2.2, 16, .inl (aN ct)))] := ga_perm w [6, 0, 1, 2, 3, 7, 8, 4, 9, 10, 5] (by decide) rfl
                          refine W.eq (g2 := F0 m_ 113 ls [.int (bI (apM st9 hs9 mm9 (decide (yy = 0)) ss))]) rfl ?_
                          refine r_ifb_ne hx hb dX7_cheapest_113 (tgt := 119) (by decide) (fun c113 => ?_) (fun c113 => ?_)
                          · refine lv_iload hx hb dX7_cheapest_119 (lv_at hl 1 rfl) ?_
                            refine lv_istore (lv' := [(4, .int (nI ss)), (8, .long (lN (prc ct ss k))), (7, .int (nI ss)), (5, .long (lN ll)), (3, .int (nI mu)), (0, .ref aM), (1, .int (nI yy)), (2, .int (bI bes))]) hx hb dX7_cheapest_121 hl (by decide) rfl (fun ls hl => ?_)
                            refine lv_lload hx hb dX7_cheapest_123 (lv_at hl 1 rfl) ?_
                            refine lv_lstore (lv' := [(5, .long (lN (prc ct ss k))), (4, .int (nI ss)), (8, .long (lN (prc ct ss k))), (7, .int (nI ss)), (3, .int (nI mu)), (0, .ref aM), (1, .int (nI yy)), (2, .int (bI bes))]) hx hb dX7_cheapest_125 hl (by decide) rfl (fun ls hl => ?_)
                            refine r_iinc (d := 1) (k := 3) (lv' := [(7, .int (nI (ss + 1))), (5, .long (lN (prc ct ss k))), (4, .int (nI ss)), (8, .long (lN (prc ct ss k))), (3, .int (nI mu)), (0, .ref aM), (1, .int (nI yy)), (2, .int (bI bes))]) hx hb dX7_cheapest_127 hl rfl (by decide) (by decide) rfl (fun ls hl => ?_)
                            refine lv_goto (tgt := 44) hx hb dX7_cheapest_130 (by decide) ?_
                            exact ih44 (ss + 1) mu true ss (nI ss) (prc ct ss k) (tv + 1) sn5 sb5 (by omega) (hmu) (rfl) (fun _ => rfl) (OptS_rep hs16 hO (and_cm c60) (by rw [← hap]; exact c113) (Or.inr ⟨by rw [← hll]; exact c93, c103⟩)) (by omega) (hs5) (by omega) _ _ _ (lv_sub hl [0, 1, 2, 4, 5, 6, 7] rfl) w
                          · refine lv_goto (tgt := 127) hx hb dX7_cheapest_116 (by decide) ?_
                            refine r_iinc (d := 1) (k := 1) (lv' := [(7, .int (nI (ss + 1))), (8, .long (lN (prc ct ss k))), (5, .long (lN ll)), (4, .int (nI bx)), (3, .int (nI mu)), (0, .ref aM), (1, .int (nI yy)), (2, .int (bI bes))]) hx hb dX7_cheapest_127 hl rfl (by decide) (by decide) rfl (fun ls hl => ?_)
                            refine lv_goto (tgt := 44) hx hb dX7_cheapest_130 (by decide) ?_
                            exact ih44 (ss + 1) mu true bx (nI bx) ll (tv + 1) sn5 sb5 (by omega) (hmu) (rfl) (fun _ => hll) (OptS_no hO (by intro z; rw [← hap, c113] at z; cases z.2)) (by omega) (hs5) (by omega) _ _ _ (lv_sub hl [0, 2, 3, 4, 5, 6, 7] rfl) w
              · refine lv_goto (tgt := 127) hx hb dX7_cheapest_63 (by decide) ?_
                refine r_iinc (d := 1) (k := 0) (lv' := [(7, .int (nI (ss + 1))), (5, .long (lN ll)), (4, .int x), (3, .int (nI mu)), (0, .ref aM), (1, .int (nI yy)), (2, .int (bI bes))]) hx hb dX7_cheapest_127 hl rfl (by decide) (by decide) rfl (fun ls hl => ?_)
                refine lv_goto (tgt := 44) hx hb dX7_cheapest_130 (by decide) ?_
                exact ih44 (ss + 1) mu bb bx x ll tv sv bv (by omega) (hmu) (hx0) (hll) (OptS_no hO (and_ncm c60)) (by omega) (hsv) (by omega) _ _ _ (lv_sub hl [0, 1, 2, 3, 4, 5, 6] rfl) w
        exact loop44 _ 0 0 false 0 (-1) 0 tu sn sb (Nat.zero_le _) (by rw [c23]; rfl) (rfl) (fun h => by cases h) (fun Y hY => absurd hY (Nat.not_lt_zero _)) (by omega) (hsn) (Nat.lt_succ_self _) _ _ _ (lv_sub hl [0, 1, 2, 3, 4, 5, 6] rfl) w
      · refine lv_aload_n hx hb dX7_cheapest_26 rfl (lv_at hl 0 rfl) ?_
        refine gf_X7_63 cx hK w 0 rfl rfl dX7_cheapest_27 ?_
        refine lv_goto (tgt := 34) hx hb dX7_cheapest_30 (by decide) ?_
        refine lv_istore_n (lv' := [(3, .int (nI li)), (0, .ref aM), (1, .int (nI yy)), (2, .int (bI bes))]) hx hb dX7_cheapest_34 rfl hl (by decide) rfl (fun ls hl => ?_)
        refine lv_iconst (v := (-1)) hx hb dX7_cheapest_35 (by decide) ?_
        refine lv_istore (lv' := [(4, .int (-1)), (3, .int (nI li)), (0, .ref aM), (1, .int (nI yy)), (2, .int (bI bes))]) hx hb dX7_cheapest_36 hl (by decide) rfl (fun ls hl => ?_)
        refine lv_lconst (v := lN 0) hx hb dX7_cheapest_38 (by decide) ?_
        refine lv_lstore (lv' := [(5, .long (lN 0)), (4, .int (-1)), (3, .int (nI li)), (0, .ref aM), (1, .int (nI yy)), (2, .int (bI bes))]) hx hb dX7_cheapest_39 hl (by decide) rfl (fun ls hl => ?_)
        refine lv_iconst (v := nI 0) hx hb dX7_cheapest_41 (by decide) ?_
        refine lv_istore (lv' := [(7, .int (nI 0)), (5, .long (lN 0)), (4, .int (-1)), (3, .int (nI li)), (0, .ref aM), (1, .int (nI yy)), (2, .int (bI bes))]) hx hb dX7_cheapest_42 hl (by decide) rfl (fun ls hl => ?_)
        have loop44 : ∀ (n_ : Nat) (ss : Nat) (mu : Nat) (bb : Bool) (bx : Nat) (x : Int32) (ll : Nat) (tv : Nat) (sv : Nat → Nat) (bv : Nat → Nat) (hss : ss ≤ 2 ^ k) (hmu : mu = (if bes then li else 0)) (hx0 : x = (if bb then nI bx else -1)) (hll : bb = true → ll = prc ct bx k) (hO : OptS k ct (sApart n k fr to (decide (yy = 0)) fa) mu bb bx ss) (htv : tv ≤ tu + ss) (hsv : ∀ l, l < 65536 → sv l ≤ tv) (hm : 2 ^ k - ss < n_) (H_ : Heap) (locs_ : List Loc) (ls : Array Slot) (hl : lv_has ls 10 [(7, .int (nI ss)), (5, .long (lN ll)), (4, .int x), (3, .int (nI mu)), (0, .ref aM), (1, .int (nI yy)), (2, .int (bI bes))]) (w : ga_wd G A_ s_ H_ locs_ [(aM, .inr (7, [.ref mT, .int (nI tl), .int (nI n), .int (nI k), .ref mF, .ref mO, .ref mC, .int (nI li), .int (nI fa), .int (nI mm9), .int (bI im9), .ref mR, .ref mZ, .ref mS, .ref mH, .int (bI ird), .int (bI itn), .int (nI lsz), .ref mL, .ref mN, .ref mX, .ref mY, .int (nI tv)])), (mF, .inl (G.2.2, 16, .inl (aN fr))), (mO, .inl (G.2.2, 16, .inl (aN to))), (mR, .inl (G.2.2, 3200, .inl (aN rw9))), (mZ, .inl (G.2.2, 200, .inl (aN sz9))), (mS, .inl (G.2.2, 200, .inl (aN st9))), (mH, .inl (G.2.2, 200, .inl (aN hs9))), (mN, .inl (G.2.2, 16, .inl (aN nw9))), (mX, .inl (G.2.2, 65536, .inl (aN sv))), (mY, .inl (G.2.2, 65536, .inl (aN bv))), (mC, .inl (G.2.2, 16, .inl (aN ct)))]), W p_ l e_ { frames := 3, cells := 0, slots := 0, locals := 65 } s_ m_ [.ref aM, .int (nI yy), .int (bI bes)].toArray below meth c_ H_ locs_ (0) (0) (MQ below (ga_Q G A_ (fun r w => ∃ (mm2 : Nat), ∃ (im2 : Bool), ∃ (rw2 : Nat → Nat), ∃ (sz2 : Nat → Nat), ∃ (st2 : Nat → Nat), ∃ (hs2 : Nat → Nat), ∃ (nw2 : Nat → Nat), ∃ (tu2 : Nat), ∃ (sn2 : Nat → Nat), ∃ (sb2 : Nat → Nat), ∃ (xx : Nat), (RepM to fa (WL n k fr to) mm2 im2 rw2 sz2 st2 hs2) ∧ (tu2 ≤ tu + 65536) ∧ (∀ l, l < 65536 → sn2 l ≤ tu2) ∧ (Opt k ct (sApart n k fr to (decide (yy = 0)) fa) (if bes then li else 0) xx) ∧ r = some (.int (nI xx)) ∧ w = [(aM, .inr (7, [.ref mT, .int (nI tl), .int (nI n), .int (nI k), .ref mF, .ref mO, .ref mC, .int (nI li), .int (nI fa), .int (nI mm2), .int (bI im2), .ref mR, .ref mZ, .ref mS, .ref mH, .int (bI ird), .int (bI itn), .int (nI lsz), .ref mL, .ref mN, .ref mX, .ref mY, .int (nI tu2)])), (mF, .inl (G.2.2, 16, .inl (aN fr))), (mO, .inl (G.2.2, 16, .inl (aN to))), (mR, .inl (G.2.2, 3200, .inl (aN rw2))), (mZ, .inl (G.2.2, 200, .inl (aN sz2))), (mS, .inl (G.2.2, 200, .inl (aN st2))), (mH, .inl (G.2.2, 200, .inl (aN hs2))), (mN, .inl (G.2.2, 16, .inl (aN nw2))), (mX, .inl (G.2.2, 65536, .inl (aN sn2))), (mY, .inl (G.2.2, 65536, .inl (aN sb2))), (mC, .inl (G.2.2, 16, .inl (aN ct)))])) [.ref aM, .int (nI yy), .int (bI bes)].toArray s_ 0 0 A_) (F0 m_ 44 ls []) := by
          intro n_
          induction n_ with
          | zero => intro ss mu bb bx x ll tv sv bv hss hmu hx0 hll hO htv hsv hm; exact absurd hm (Nat.not_lt_zero _)
          | succ n_ ih44 =>
            intro ss mu bb bx x ll tv sv bv hss hmu hx0 hll hO htv hsv hm44 H_ locs_ ls hl w
            refine lv_iload hx hb dX7_cheapest_44 (lv_at hl 0 rfl) ?_
            refine lv_iconst (v := nI 1) hx hb dX7_cheapest_46 (by decide) ?_
            refine lv_aload_n hx hb dX7_cheapest_47 rfl (lv_at hl 4 rfl) ?_
            refine gf_X7_52 cx hK w 0 rfl rfl dX7_cheapest_48 ?_
            refine r_ishl hx hb dX7_cheapest_51 (by omega) ?_
            refine r_icmp_ge hx hb dX7_cheapest_52 (tgt := 133) (by decide) (by omega) (by omega) (fun c52 => ?_) (fun c52 => ?_)
            · obtain ⟨hbt, hopt⟩ := OptS_end (k := k) (ct := ct) (A := (sApart n k fr to (decide (yy = 0)) fa)) (mu := mu) (bb := bb) (bx := bx) (by rw [hmu]; split <;> omega) (apt_full hF _ _ _) (by rw [show 2 ^ k = ss by omega]; exact hO)
              subst hbt
              have hx1 : x = nI bx := hx0
              subst hx1
              have hbx : bx < 2 ^ k := hopt.1
              refine lv_iload hx hb dX7_cheapest_133 (lv_at hl 2 rfl) ?_
              exact ga_iret cx hr hlk w dX7_cheapest_135 ⟨Nat.le_refl _, Nat.le_refl _⟩ (⟨mm9, im9, rw9, sz9, st9, hs9, nw9, tv, sv, bv, bx, hR9, by omega, hsv, (by rw [← hmu]; exact hopt), rfl, rfl⟩)
            · have hs16 : ss < 65536 := by omega
              refine lv_iload hx hb dX7_cheapest_55 (lv_at hl 0 rfl) ?_
              refine lv_iload_n hx hb dX7_cheapest_57 rfl (lv_at hl 3 rfl) ?_
              refine r_iand hx hb dX7_cheapest_58 ?_
              refine lv_iload_n hx hb dX7_cheapest_59 rfl (lv_at hl 3 rfl) ?_
              refine r_icmp_eq hx hb dX7_cheapest_60 (tgt := 66) (by decide) (andL_lt (by omega)) (by rw [hmu]; split <;> omega) (fun c60 => ?_) (fun c60 => ?_)
              · cases bb
                · have hx1 : x = -1 := hx0
                  subst hx1
                  refine lv_aload_n hx hb dX7_cheapest_66 rfl (lv_at hl 4 rfl) ?_
                  refine lv_iload hx hb dX7_cheapest_67 (lv_at hl 0 rfl) ?_
                  refine ga_callV (rest := []) (wr := [(mF, .inl (G.2.2, 16, .inl (aN fr))), (mO, .inl (G.2.2, 16, .inl (aN to))), (mR, .inl (G.2.2, 3200, .inl (aN rw9))), (mZ, .inl (G.2.2, 200, .inl (aN sz9))), (mS, .inl (G.2.2, 200, .inl (aN st9))), (mH, .inl (G.2.2, 200, .inl (aN hs9))), (mN, .inl (G.2.2, 16, .inl (aN nw9))), (mX, .inl (G.2.2, 65536, .inl (aN sv))), (mY, .inl (G.2.2, 65536, .inl (aN bv)))]) cx hK hA w hl lk_X7_121 (c_X7_priceOf l G aM mT mF mO mC mR mZ mS mH mL mN mX mY tl n k li fa mm9 im9 ird itn lsz tv ct ss (hF.2.2.1) (by omega) (hF.2.2.2.2)) ⟨Nat.le_of_ble_eq_true rfl, Nat.le_of_ble_eq_true rfl⟩ [0, 10] [1, 2, 3, 4, 5, 6, 7, 8, 9] rfl rfl (by decide) (by decide) (by decide) 0 7 rfl rfl rfl rfl (Nat.le_of_ble_eq_true rfl) dX7_cheapest_69 ⟨Nat.le_refl _, Nat.le_refl _⟩ rfl (fun r w1_ H_ locs_ hp w => ?_)
                  obtain ⟨rfl, rfl⟩ := hp
                  have w : ga_wd G A_ s_ H_ locs_ [(aM, .inr (7, [.ref mT, .int (nI tl), .int (nI n), .int (nI k), .ref mF, .ref mO, .ref mC, .int (nI li), .int (nI fa), .int (nI mm9), .int (bI im9), .ref mR, .ref mZ, .ref mS, .ref mH, .int (bI ird), .int (bI itn), .int (nI lsz), .ref mL, .ref mN, .ref mX, .ref mY, .int (nI tv)])), (mF, .inl (G.2.2, 16, .inl (aN fr))), (mO, .inl (G.2.2, 16, .inl (aN to))), (mR, .inl (G.2.2, 3200, .inl (aN rw9))), (mZ, .inl (G.2.2, 200, .inl (aN sz9))), (mS, .inl (G.2.2, 200, .inl (aN st9))), (mH, .inl (G.2.2, 200, .inl (aN hs9))), (mN, .inl (G.2.2, 16, .inl (aN nw9))), (mX, .inl (G.2.2, 65536, .inl (aN sv))), (mY, .inl (G.2.2, 65536, .inl (aN bv))), (mC, .inl (G.2.2, 16, .inl (aN ct)))] := ga_perm w [9, 0, 1, 2, 3, 4, 5, 6, 7, 8, 10] (by decide) rfl
                  refine W.eq (g2 := F0 m_ 72 ls [.long (lN (prc ct ss k))]) rfl ?_
                  refine lv_lstore (lv' := [(8, .long (lN (prc ct ss k))), (7, .int (nI ss)), (5, .long (lN ll)), (4, .int (-1)), (3, .int (nI mu)), (0, .ref aM), (1, .int (nI yy)), (2, .int (bI bes))]) hx hb dX7_cheapest_72 hl (by decide) rfl (fun ls hl => ?_)
                  have hpl := prc_le (ct := ct) (st := ss) (k := k) hF.2.2.2.2
                  refine lv_iload hx hb dX7_cheapest_74 (lv_at hl 3 rfl) ?_
                  refine lv_iconst (v := (-1)) hx hb dX7_cheapest_76 (by decide) ?_
                  refine lv_icmp_eq hx hb dX7_cheapest_77 (tgt := 106) (by decide) (fun c77 => ?_) (fun c77 => ?_)
                  · refine lv_aload_n hx hb dX7_cheapest_106 rfl (lv_at hl 5 rfl) ?_
                    refine lv_iload_n hx hb dX7_cheapest_107 rfl (lv_at hl 6 rfl) ?_
                    refine lv_iload hx hb dX7_cheapest_108 (lv_at hl 1 rfl) ?_
                    refine ga_callV (rest := []) (wr := [(mF, .inl (G.2.2, 16, .inl (aN fr))), (mO, .inl (G.2.2, 16, .inl (aN to))), (mR, .inl (G.2.2, 3200, .inl (aN rw9))), (mZ, .inl (G.2.2, 200, .inl (aN sz9))), (mN, .inl (G.2.2, 16, .inl (aN nw9))), (mC, .inl (G.2.2, 16, .inl (aN ct)))]) cx hK hA w hl lk_X7_118 (c_X7_isApart l G aM mT mF mO mC mR mZ mS mH mL mN mX mY tl n k li fa mm9 im9 ird itn lsz tv st9 hs9 sv bv yy ss (by omega) (hs16) (by omega) (hyy) (hsv) (fun i hi => by rw [(hr9.2.2.2.2 i hi).2.2.2.1]; exact andL_lt hfa)) ⟨Nat.le_of_ble_eq_true rfl, Nat.le_of_ble_eq_true rfl⟩ [0, 5, 6, 8, 9] [1, 2, 3, 4, 7, 10] rfl rfl (by decide) (by decide) (by decide) 0 7 rfl rfl rfl rfl (Nat.le_of_ble_eq_true rfl) dX7_cheapest_110 ⟨Nat.le_refl _, Nat.le_refl _⟩ rfl (fun r w1_ H_ locs_ hp w => ?_)
                    obtain ⟨sn5, sb5, hs5, rfl, rfl⟩ := hp
                    have w : ga_wd G A_ s_ H_ locs_ [(aM, .inr (7, [.ref mT, .int (nI tl), .int (nI n), .int (nI k), .ref mF, .ref mO, .ref mC, .int (nI li), .int (nI fa), .int (nI mm9), .int (bI im9), .ref mR, .ref mZ, .ref mS, .ref mH, .int (bI ird), .int (bI itn), .int (nI lsz), .ref mL, .ref mN, .ref mX, .ref mY, .int (nI (tv + 1))])), (mF, .inl (G.2.2, 16, .inl (aN fr))), (mO, .inl (G.2.2, 16, .inl (aN to))), (mR, .inl (G.2.2, 3200, .inl (aN rw9))), (mZ, .inl (G.2.2, 200, .inl (aN sz9))), (mS, .inl (G.2.2, 200, .inl (aN st9))), (mH, .inl (G.2.2, 200, .inl (aN hs9))), (mN, .inl (G.2.2, 16, .inl (aN nw9))), (mX, .inl (G.2.2, 65536, .inl (aN sn5))), (mY, .inl (G.2.2, 65536, .inl (aN sb5))), (mC, .inl (G.2.2, 16, .inl (aN ct)))] := ga_perm w [6, 0, 1, 2, 3, 7, 8, 4, 9, 10, 5] (by decide) rfl
                    refine W.eq (g2 := F0 m_ 113 ls [.int (bI (apM st9 hs9 mm9 (decide (yy = 0)) ss))]) rfl ?_
                    refine r_ifb_ne hx hb dX7_cheapest_113 (tgt := 119) (by decide) (fun c113 => ?_) (fun c113 => ?_)
                    · refine lv_iload hx hb dX7_cheapest_119 (lv_at hl 1 rfl) ?_
                      refine lv_istore (lv' := [(4, .int (nI ss)), (8, .long (lN (prc ct ss k))), (7, .int (nI ss)), (5, .long (lN ll)), (3, .int (nI mu)), (0, .ref aM), (1, .int (nI yy)), (2, .int (bI bes))]) hx hb dX7_cheapest_121 hl (by decide) rfl (fun ls hl => ?_)
                      refine lv_lload hx hb dX7_cheapest_123 (lv_at hl 1 rfl) ?_
                      refine lv_lstore (lv' := [(5, .long (lN (prc ct ss k))), (4, .int (nI ss)), (8, .long (lN (prc ct ss k))), (7, .int (nI ss)), (3, .int (nI mu)), (0, .ref aM), (1, .int (nI yy)), (2, .int (bI bes))]) hx hb dX7_cheapest_125 hl (by decide) rfl (fun ls hl => ?_)
                      refine r_iinc (d := 1) (k := 3) (lv' := [(7, .int (nI (ss + 1))), (5, .long (lN (prc ct ss k))), (4, .int (nI ss)), (8, .long (lN (prc ct ss k))), (3, .int (nI mu)), (0, .ref aM), (1, .int (nI yy)), (2, .int (bI bes))]) hx hb dX7_cheapest_127 hl rfl (by decide) (by decide) rfl (fun ls hl => ?_)
                      refine lv_goto (tgt := 44) hx hb dX7_cheapest_130 (by decide) ?_
                      exact ih44 (ss + 1) mu true ss (nI ss) (prc ct ss k) (tv + 1) sn5 sb5 (by omega) (hmu) (rfl) (fun _ => rfl) (OptS_first hO (and_cm c60) (by rw [← hap]; exact c113)) (by omega) (hs5) (by omega) _ _ _ (lv_sub hl [0, 1, 2, 4, 5, 6, 7] rfl) w
                    · refine lv_goto (tgt := 127) hx hb dX7_cheapest_116 (by decide) ?_
                      refine r_iinc (d := 1) (k := 1) (lv' := [(7, .int (nI (ss + 1))), (8, .long (lN (prc ct ss k))), (5, .long (lN ll)), (4, .int (-1)), (3, .int (nI mu)), (0, .ref aM), (1, .int (nI yy)), (2, .int (bI bes))]) hx hb dX7_cheapest_127 hl rfl (by decide) (by decide) rfl (fun ls hl => ?_)
                      refine lv_goto (tgt := 44) hx hb dX7_cheapest_130 (by decide) ?_
                      exact ih44 (ss + 1) mu false bx (-1) ll (tv + 1) sn5 sb5 (by omega) (hmu) (rfl) (fun h => by cases h) (OptS_no hO (by intro z; rw [← hap, c113] at z; cases z.2)) (by omega) (hs5) (by omega) _ _ _ (lv_sub hl [0, 2, 3, 4, 5, 6, 7] rfl) w
                  · exact absurd rfl c77
                · have hx1 : x = nI bx := hx0
                  subst hx1
                  have hll := hll rfl
                  have hbx : bx < ss := hO.1
                  have hpb := prc_le (ct := ct) (st := bx) (k := k) hF.2.2.2.2
                  refine lv_aload_n hx hb dX7_cheapest_66 rfl (lv_at hl 4 rfl) ?_
                  refine lv_iload hx hb dX7_cheapest_67 (lv_at hl 0 rfl) ?_
                  refine ga_callV (rest := []) (wr := [(mF, .inl (G.2.2, 16, .inl (aN fr))), (mO, .inl (G.2.2, 16, .inl (aN to))), (mR, .inl (G.2.2, 3200, .inl (aN rw9))), (mZ, .inl (G.2.2, 200, .inl (aN sz9))), (mS, .inl (G.2.2, 200, .inl (aN st9))), (mH, .inl (G.2.2, 200, .inl (aN hs9))), (mN, .inl (G.2.2, 16, .inl (aN nw9))), (mX, .inl (G.2.2, 65536, .inl (aN sv))), (mY, .inl (G.2.2, 65536, .inl (aN bv)))]) cx hK hA w hl lk_X7_121 (c_X7_priceOf l G aM mT mF mO mC mR mZ mS mH mL mN mX mY tl n k li fa mm9 im9 ird itn lsz tv ct ss (hF.2.2.1) (by omega) (hF.2.2.2.2)) ⟨Nat.le_of_ble_eq_true rfl, Nat.le_of_ble_eq_true rfl⟩ [0, 10] [1, 2, 3, 4, 5, 6, 7, 8, 9] rfl rfl (by decide) (by decide) (by decide) 0 7 rfl rfl rfl rfl (Nat.le_of_ble_eq_true rfl) dX7_cheapest_69 ⟨Nat.le_refl _, Nat.le_refl _⟩ rfl (fun r w1_ H_ locs_ hp w => ?_)
                  obtain ⟨rfl, rfl⟩ := hp
                  have w : ga_wd G A_ s_ H_ locs_ [(aM, .inr (7, [.ref mT, .int (nI tl), .int (nI n), .int (nI k), .ref mF, .ref mO, .ref mC, .int (nI li), .int (nI fa), .int (nI mm9), .int (bI im9), .ref mR, .ref mZ, .ref mS, .ref mH, .int (bI ird), .int (bI itn), .int (nI lsz), .ref mL, .ref mN, .ref mX, .ref mY, .int (nI tv)])), (mF, .inl (G.2.2, 16, .inl (aN fr))), (mO, .inl (G.2.2, 16, .inl (aN to))), (mR, .inl (G.2.2, 3200, .inl (aN rw9))), (mZ, .inl (G.2.2, 200, .inl (aN sz9))), (mS, .inl (G.2.2, 200, .inl (aN st9))), (mH, .inl (G.2.2, 200, .inl (aN hs9))), (mN, .inl (G.2.2, 16, .inl (aN nw9))), (mX, .inl (G.2.2, 65536, .inl (aN sv))), (mY, .inl (G.2.2, 65536, .inl (aN bv))), (mC, .inl (G.2.2, 16, .inl (aN ct)))] := ga_perm w [9, 0, 1, 2, 3, 4, 5, 6, 7, 8, 10] (by decide) rfl
                  refine W.eq (g2 := F0 m_ 72 ls [.long (lN (prc ct ss k))]) rfl ?_
                  refine lv_lstore (lv' := [(8, .long (lN (prc ct ss k))), (7, .int (nI ss)), (5, .long (lN ll)), (4, .int (nI bx)), (3, .int (nI mu)), (0, .ref aM), (1, .int (nI yy)), (2, .int (bI bes))]) hx hb dX7_cheapest_72 hl (by decide) rfl (fun ls hl => ?_)
                  have hpl := prc_le (ct := ct) (st := ss) (k := k) hF.2.2.2.2
                  refine lv_iload hx hb dX7_cheapest_74 (lv_at hl 3 rfl) ?_
                  refine lv_iconst (v := (-1)) hx hb dX7_cheapest_76 (by decide) ?_
                  refine lv_icmp_eq hx hb dX7_cheapest_77 (tgt := 106) (by decide) (fun c77 => ?_) (fun c77 => ?_)
                  · exact absurd c77 (nI_nm1 (by omega))
                  · refine lv_lload hx hb dX7_cheapest_80 (lv_at hl 0 rfl) ?_
                    refine lv_lload hx hb dX7_cheapest_82 (lv_at hl 2 rfl) ?_
                    refine W.lcmp hx hb dX7_cheapest_84 ?_
                    refine r_lcN_gt hx hb dX7_cheapest_85 (tgt := 127) (by decide) (by omega) (by omega) (fun c85 => ?_) (fun c85 => ?_)
                    · refine r_iinc (d := 1) (k := 1) (lv' := [(7, .int (nI (ss + 1))), (8, .long (lN (prc ct ss k))), (5, .long (lN ll)), (4, .int (nI bx)), (3, .int (nI mu)), (0, .ref aM), (1, .int (nI yy)), (2, .int (bI bes))]) hx hb dX7_cheapest_127 hl rfl (by decide) (by decide) rfl (fun ls hl => ?_)
                      refine lv_goto (tgt := 44) hx hb dX7_cheapest_130 (by decide) ?_
                      exact ih44 (ss + 1) mu true bx (nI bx) ll tv sv bv (by omega) (hmu) (rfl) (fun _ => hll) (OptS_keep hs16 hO (by rw [← hll]; intro z; rcases z with z | ⟨z, _⟩ <;> omega)) (by omega) (hsv) (by omega) _ _ _ (lv_sub hl [0, 2, 3, 4, 5, 6, 7] rfl) w
                    · refine lv_lload hx hb dX7_cheapest_88 (lv_at hl 0 rfl) ?_
                      refine lv_lload hx hb dX7_cheapest_90 (lv_at hl 2 rfl) ?_
                      refine W.lcmp hx hb dX7_cheapest_92 ?_
                      refine r_lcN_ne hx hb dX7_cheapest_93 (tgt := 106) (by decide) (by omega) (by omega) (fun c93 => ?_) (fun c93 => ?_)
                      · refine lv_aload_n hx hb dX7_cheapest_106 rfl (lv_at hl 5 rfl) ?_
                        refine lv_iload_n hx hb dX7_cheapest_107 rfl (lv_at hl 6 rfl) ?_
                        refine lv_iload hx hb dX7_cheapest_108 (lv_at hl 1 rfl) ?_
                        refine ga_callV (rest := []) (wr := [(mF, .inl (G.2.2, 16, .inl (aN fr))), (mO, .inl (G.2.2, 16, .inl (aN to))), (mR, .inl (G.2.2, 3200, .inl (aN rw9))), (mZ, .inl (G.2.2, 200, .inl (aN sz9))), (mN, .inl (G.2.2, 16, .inl (aN nw9))), (mC, .inl (G.2.2, 16, .inl (aN ct)))]) cx hK hA w hl lk_X7_118 (c_X7_isApart l G aM mT mF mO mC mR mZ mS mH mL mN mX mY tl n k li fa mm9 im9 ird itn lsz tv st9 hs9 sv bv yy ss (by omega) (hs16) (by omega) (hyy) (hsv) (fun i hi => by rw [(hr9.2.2.2.2 i hi).2.2.2.1]; exact andL_lt hfa)) ⟨Nat.le_of_ble_eq_true rfl, Nat.le_of_ble_eq_true rfl⟩ [0, 5, 6, 8, 9] [1, 2, 3, 4, 7, 10] rfl rfl (by decide) (by decide) (by decide) 0 7 rfl rfl rfl rfl (Nat.le_of_ble_eq_true rfl) dX7_cheapest_110 ⟨Nat.le_refl _, Nat.le_refl _⟩ rfl (fun r w1_ H_ locs_ hp w => ?_)
                        obtain ⟨sn5, sb5, hs5, rfl, rfl⟩ := hp
                        have w : ga_wd G A_ s_ H_ locs_ [(aM, .inr (7, [.ref mT, .int (nI tl), .int (nI n), .int (nI k), .ref mF, .ref mO, .ref mC, .int (nI li), .int (nI fa), .int (nI mm9), .int (bI im9), .ref mR, .ref mZ, .ref mS, .ref mH, .int (bI ird), .int (bI itn), .int (nI lsz), .ref mL, .ref mN, .ref mX, .ref mY, .int (nI (tv + 1))])), (mF, .inl (G.2.2, 16, .inl (aN fr))), (mO, .inl (G.2.2, 16, .inl (aN to))), (mR, .inl (G.2.2, 3200, .inl (aN rw9))), (mZ, .inl (G.2.2, 200, .inl (aN sz9))), (mS, .inl (G.2.2, 200, .inl (aN st9))), (mH, .inl (G.2.2, 200, .inl (aN hs9))), (mN, .inl (G.2.2, 16, .inl (aN nw9))), (mX, .inl (G.2.2, 65536, .inl (aN sn5))), (mY, .inl (G.2.2, 65536, .inl (aN sb5))), (mC, .inl (G.2.2, 16, .inl (aN ct)))] := ga_perm w [6, 0, 1, 2, 3, 7, 8, 4, 9, 10, 5] (by decide) rfl
                        refine W.eq (g2 := F0 m_ 113 ls [.int (bI (apM st9 hs9 mm9 (decide (yy = 0)) ss))]) rfl ?_
                        refine r_ifb_ne hx hb dX7_cheapest_113 (tgt := 119) (by decide) (fun c113 => ?_) (fun c113 => ?_)
                        · refine lv_iload hx hb dX7_cheapest_119 (lv_at hl 1 rfl) ?_
                          refine lv_istore (lv' := [(4, .int (nI ss)), (8, .long (lN (prc ct ss k))), (7, .int (nI ss)), (5, .long (lN ll)), (3, .int (nI mu)), (0, .ref aM), (1, .int (nI yy)), (2, .int (bI bes))]) hx hb dX7_cheapest_121 hl (by decide) rfl (fun ls hl => ?_)
                          refine lv_lload hx hb dX7_cheapest_123 (lv_at hl 1 rfl) ?_
                          refine lv_lstore (lv' := [(5, .long (lN (prc ct ss k))), (4, .int (nI ss)), (8, .long (lN (prc ct ss k))), (7, .int (nI ss)), (3, .int (nI mu)), (0, .ref aM), (1, .int (nI yy)), (2, .int (bI bes))]) hx hb dX7_cheapest_125 hl (by decide) rfl (fun ls hl => ?_)
                          refine r_iinc (d := 1) (k := 3) (lv' := [(7, .int (nI (ss + 1))), (5, .long (lN (prc ct ss k))), (4, .int (nI ss)), (8, .long (lN (prc ct ss k))), (3, .int (nI mu)), (0, .ref aM), (1, .int (nI yy)), (2, .int (bI bes))]) hx hb dX7_cheapest_127 hl rfl (by decide) (by decide) rfl (fun ls hl => ?_)
                          refine lv_goto (tgt := 44) hx hb dX7_cheapest_130 (by decide) ?_
                          exact ih44 (ss + 1) mu true ss (nI ss) (prc ct ss k) (tv + 1) sn5 sb5 (by omega) (hmu) (rfl) (fun _ => rfl) (OptS_rep hs16 hO (and_cm c60) (by rw [← hap]; exact c113) (Or.inl (by rw [← hll]; omega))) (by omega) (hs5) (by omega) _ _ _ (lv_sub hl [0, 1, 2, 4, 5, 6, 7] rfl) w
                        · refine lv_goto (tgt := 127) hx hb dX7_cheapest_116 (by decide) ?_
                          refine r_iinc (d := 1) (k := 1) (lv' := [(7, .int (nI (ss + 1))), (8, .long (lN (prc ct ss k))), (5, .long (lN ll)), (4, .int (nI bx)), (3, .int (nI mu)), (0, .ref aM), (1, .int (nI yy)), (2, .int (bI bes))]) hx hb dX7_cheapest_127 hl rfl (by decide) (by decide) rfl (fun ls hl => ?_)
                          refine lv_goto (tgt := 44) hx hb dX7_cheapest_130 (by decide) ?_
                          exact ih44 (ss + 1) mu true bx (nI bx) ll (tv + 1) sn5 sb5 (by omega) (hmu) (rfl) (fun _ => hll) (OptS_no hO (by intro z; rw [← hap, c113] at z; cases z.2)) (by omega) (hs5) (by omega) _ _ _ (lv_sub hl [0, 2, 3, 4, 5, 6, 7] rfl) w
                      · refine lv_iload hx hb dX7_cheapest_96 (lv_at hl 1 rfl) ?_
                        refine lv_iload hx hb dX7_cheapest_98 (lv_at hl 3 rfl) ?_
                        refine ga_callS (rest := []) (wr := [(aM, .inr (7, [.ref mT, .int (nI tl), .int (nI n), .int (nI k), .ref mF, .ref mO, .ref mC, .int (nI li), .int (nI fa), .int (nI mm9), .int (bI im9), .ref mR, .ref mZ, .ref mS, .ref mH, .int (bI ird), .int (bI itn), .int (nI lsz), .ref mL, .ref mN, .ref mX, .ref mY, .int (nI tv)])), (mF, .inl (G.2.2, 16, .inl (aN fr))), (mO, .inl (G.2.2, 16, .inl (aN to))), (mR, .inl (G.2.2, 3200, .inl (aN rw9))), (mZ, .inl (G.2.2, 200, .inl (aN sz9))), (mS, .inl (G.2.2, 200, .inl (aN st9))), (mH, .inl (G.2.2, 200, .inl (aN hs9))), (mN, .inl (G.2.2, 16, .inl (aN nw9))), (mX, .inl (G.2.2, 65536, .inl (aN sv))), (mY, .inl (G.2.2, 65536, .inl (aN bv))), (mC, .inl (G.2.2, 16, .inl (aN ct)))]) cx hK hA w hl lk_X7_130 (c_X7_isBetter l G ss bx (hs16) (by omega)) ⟨Nat.le_of_ble_eq_true rfl, Nat.le_of_ble_eq_true rfl⟩ [] [0, 1, 2, 3, 4, 5, 6, 7, 8, 9, 10] rfl rfl (by decide) (by decide) (by decide) rfl (Nat.le_of_ble_eq_true rfl) dX7_cheapest_100 ⟨Nat.le_refl _, Nat.le_refl _⟩ rfl (fun r w1_ H_ locs_ hp w => ?_)
                        obtain ⟨rfl, rfl⟩ := hp
                        have w : ga_wd G A_ s_ H_ locs_ [(aM, .inr (7, [.ref mT, .int (nI tl), .int (nI n), .int (nI k), .ref mF, .ref mO, .ref mC, .int (nI li), .int (nI fa), .int (nI mm9), .int (bI im9), .ref mR, .ref mZ, .ref mS, .ref mH, .int (bI ird), .int (bI itn), .int (nI lsz), .ref mL, .ref mN, .ref mX, .ref mY, .int (nI tv)])), (mF, .inl (G.2.2, 16, .inl (aN fr))), (mO, .inl (G.2.2, 16, .inl (aN to))), (mR, .inl (G.2.2, 3200, .inl (aN rw9))), (mZ, .inl (G.2.2, 200, .inl (aN sz9))), (mS, .inl (G.2.2, 200, .inl (aN st9))), (mH, .inl (G.2.2, 200, .inl (aN hs9))), (mN, .inl (G.2.2, 16, .inl (aN nw9))), (mX, .inl (G.2.2, 65536, .inl (aN sv))), (mY, .inl (G.2.2, 65536, .inl (aN bv))), (mC, .inl (G.2.2, 16, .inl (aN ct)))] := ga_perm w [0, 1, 2, 3, 4, 5, 6, 7, 8, 9, 10] (by decide) rfl
                        refine W.eq (g2 := F0 m_ 103 ls [.int (bI (rat ss bx))]) rfl ?_
                        refine r_ifb_eq hx hb dX7_cheapest_103 (tgt := 127) (by decide) (fun c103 => ?_) (fun c103 => ?_)
                        · refine r_iinc (d := 1) (k := 1) (lv' := [(7, .int (nI (ss + 1))), (8, .long (lN (prc ct ss k))), (5, .long (lN ll)), (4, .int (nI bx)), (3, .int (nI mu)), (0, .ref aM), (1, .int (nI yy)), (2, .int (bI bes))]) hx hb dX7_cheapest_127 hl rfl (by decide) (by decide) rfl (fun ls hl => ?_)
                          refine lv_goto (tgt := 44) hx hb dX7_cheapest_130 (by decide) ?_
                          exact ih44 (ss + 1) mu true bx (nI bx) ll tv sv bv (by omega) (hmu) (rfl) (fun _ => hll) (OptS_keep hs16 hO (by rw [c103]; intro z; rcases z with z | z; (rw [← hll] at z; omega); cases z.2)) (by omega) (hsv) (by omega) _ _ _ (lv_sub hl [0, 2, 3, 4, 5, 6, 7] rfl) w
                        · refine lv_aload_n hx hb dX7_cheapest_106 rfl (lv_at hl 5 rfl) ?_
                          refine lv_iload_n hx hb dX7_cheapest_107 rfl (lv_at hl 6 rfl) ?_
                          refine lv_iload hx hb dX7_cheapest_108 (lv_at hl 1 rfl) ?_
                          refine ga_callV (rest := []) (wr := [(mF, .inl (G.2.2, 16, .inl (aN fr))), (mO, .inl (G.2.2, 16, .inl (aN to))), (mR, .inl (G.2.2, 3200, .inl (aN rw9))), (mZ, .inl (G.2.2, 200, .inl (aN sz9))), (mN, .inl (G.2.2, 16, .inl (aN nw9))), (mC, .inl (G.2.2, 16, .inl (aN ct)))]) cx hK hA w hl lk_X7_118 (c_X7_isApart l G aM mT mF mO mC mR mZ mS mH mL mN mX mY tl n k li fa mm9 im9 ird itn lsz tv st9 hs9 sv bv yy ss (by omega) (hs16) (by omega) (hyy) (hsv) (fun i hi => by rw [(hr9.2.2.2.2 i hi).2.2.2.1]; exact andL_lt hfa)) ⟨Nat.le_of_ble_eq_true rfl, Nat.le_of_ble_eq_true rfl⟩ [0, 5, 6, 8, 9] [1, 2, 3, 4, 7, 10] rfl rfl (by decide) (by decide) (by decide) 0 7 rfl rfl rfl rfl (Nat.le_of_ble_eq_true rfl) dX7_cheapest_110 ⟨Nat.le_refl _, Nat.le_refl _⟩ rfl (fun r w1_ H_ locs_ hp w => ?_)
                          obtain ⟨sn5, sb5, hs5, rfl, rfl⟩ := hp
                          have w : ga_wd G A_ s_ H_ locs_ [(aM, .inr (7, [.ref mT, .int (nI tl), .int (nI n), .int (nI k), .ref mF, .ref mO, .ref mC, .int (nI li), .int (nI fa), .int (nI mm9), .int (bI im9), .ref mR, .ref mZ, .ref mS, .ref mH, .int (bI ird), .int (bI itn), .int (nI lsz), .ref mL, .ref mN, .ref mX, .ref mY, .int (nI (tv + 1))])), (mF, .inl (G.2.2, 16, .inl (aN fr))), (mO, .inl (G.2.2, 16, .inl (aN to))), (mR, .inl (G.2.2, 3200, .inl (aN rw9))), (mZ, .inl (G.2.2, 200, .inl (aN sz9))), (mS, .inl (G.2.2, 200, .inl (aN st9))), (mH, .inl (G.2.2, 200, .inl (aN hs9))), (mN, .inl (G.2.2, 16, .inl (aN nw9))), (mX, .inl (G.2.2, 65536, .inl (aN sn5))), (mY, .inl (G.2.2, 65536, .inl (aN sb5))), (mC, .inl (G.2.2, 16, .inl (aN ct)))] := ga_perm w [6, 0, 1, 2, 3, 7, 8, 4, 9, 10, 5] (by decide) rfl
                          refine W.eq (g2 := F0 m_ 113 ls [.int (bI (apM st9 hs9 mm9 (decide (yy = 0)) ss))]) rfl ?_
                          refine r_ifb_ne hx hb dX7_cheapest_113 (tgt := 119) (by decide) (fun c113 => ?_) (fun c113 => ?_)
                          · refine lv_iload hx hb dX7_cheapest_119 (lv_at hl 1 rfl) ?_
                            refine lv_istore (lv' := [(4, .int (nI ss)), (8, .long (lN (prc ct ss k))), (7, .int (nI ss)), (5, .long (lN ll)), (3, .int (nI mu)), (0, .ref aM), (1, .int (nI yy)), (2, .int (bI bes))]) hx hb dX7_cheapest_121 hl (by decide) rfl (fun ls hl => ?_)
                            refine lv_lload hx hb dX7_cheapest_123 (lv_at hl 1 rfl) ?_
                            refine lv_lstore (lv' := [(5, .long (lN (prc ct ss k))), (4, .int (nI ss)), (8, .long (lN (prc ct ss k))), (7, .int (nI ss)), (3, .int (nI mu)), (0, .ref aM), (1, .int (nI yy)), (2, .int (bI bes))]) hx hb dX7_cheapest_125 hl (by decide) rfl (fun ls hl => ?_)
                            refine r_iinc (d := 1) (k := 3) (lv' := [(7, .int (nI (ss + 1))), (5, .long (lN (prc ct ss k))), (4, .int (nI ss)), (8, .long (lN (prc ct ss k))), (3, .int (nI mu)), (0, .ref aM), (1, .int (nI yy)), (2, .int (bI bes))]) hx hb dX7_cheapest_127 hl rfl (by decide) (by decide) rfl (fun ls hl => ?_)
                            refine lv_goto (tgt := 44) hx hb dX7_cheapest_130 (by decide) ?_
                            exact ih44 (ss + 1) mu true ss (nI ss) (prc ct ss k) (tv + 1) sn5 sb5 (by omega) (hmu) (rfl) (fun _ => rfl) (OptS_rep hs16 hO (and_cm c60) (by rw [← hap]; exact c113) (Or.inr ⟨by rw [← hll]; exact c93, c103⟩)) (by omega) (hs5) (by omega) _ _ _ (lv_sub hl [0, 1, 2, 4, 5, 6, 7] rfl) w
                          · refine lv_goto (tgt := 127) hx hb dX7_cheapest_116 (by decide) ?_
                            refine r_iinc (d := 1) (k := 1) (lv' := [(7, .int (nI (ss + 1))), (8, .long (lN (prc ct ss k))), (5, .long (lN ll)), (4, .int (nI bx)), (3, .int (nI mu)), (0, .ref aM), (1, .int (nI yy)), (2, .int (bI bes))]) hx hb dX7_cheapest_127 hl rfl (by decide) (by decide) rfl (fun ls hl => ?_)
                            refine lv_goto (tgt := 44) hx hb dX7_cheapest_130 (by decide) ?_
                            exact ih44 (ss + 1) mu true bx (nI bx) ll (tv + 1) sn5 sb5 (by omega) (hmu) (rfl) (fun _ => hll) (OptS_no hO (by intro z; rw [← hap, c113] at z; cases z.2)) (by omega) (hs5) (by omega) _ _ _ (lv_sub hl [0, 2, 3, 4, 5, 6, 7] rfl) w
              · refine lv_goto (tgt := 127) hx hb dX7_cheapest_63 (by decide) ?_
                refine r_iinc (d := 1) (k := 0) (lv' := [(7, .int (nI (ss + 1))), (5, .long (lN ll)), (4, .int x), (3, .int (nI mu)), (0, .ref aM), (1, .int (nI yy)), (2, .int (bI bes))]) hx hb dX7_cheapest_127 hl rfl (by decide) (by decide) rfl (fun ls hl => ?_)
                refine lv_goto (tgt := 44) hx hb dX7_cheapest_130 (by decide) ?_
                exact ih44 (ss + 1) mu bb bx x ll tv sv bv (by omega) (hmu) (hx0) (hll) (OptS_no hO (and_ncm c60)) (by omega) (hsv) (by omega) _ _ _ (lv_sub hl [0, 1, 2, 3, 4, 5, 6] rfl) w
        exact loop44 _ 0 li false 0 (-1) 0 tu sn sb (Nat.zero_le _) (by rw [c23]; rfl) (rfl) (fun h => by cases h) (fun Y hY => absurd hY (Nat.not_lt_zero _)) (by omega) (hsn) (Nat.lt_succ_self _) _ _ _ (lv_sub hl [0, 1, 2, 3, 4, 5, 6] rfl) w
    · exact absurd (of_decide_eq_true (by rw [← hr9.2.1]; exact c16)) hbig
  · rw [show (lN yy : Int64) = (nI yy).toInt64 from (nI_l (by omega)).symm, lsB_n _ (by decide), inB_y (by omega) (by decide)] at c7; cases c7
