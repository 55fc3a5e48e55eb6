theorem path16 {n k : Nat} {fr to ct : Nat → Nat} (hF : Flow n k fr to ct) {i u : Nat} (hi : i < (WL n k fr to).length) (hu : u < ((WL n k fr to).getD i []).length) : ((WL n k fr to).getD i []).getD u 0 < 16 := by
  have h0 := (WL_pth hF (getD_mem hi)).1
  generalize (WL n k fr to).getD i [] = p at h0 hu ⊢
  have h1 := h0 (p.getD u 0) (by rw [List.getD_eq_getElem?_getD, List.getElem?_eq_getElem hu]; exact List.getElem_mem hu)
  have := hF.2.2.1; omega
set_option maxHeartbeats 4000000 in
set_option maxRecDepth 100000 in
theorem c_X7_ways (l : Launch) (G : ga_G) (aM : Nat) (mT : Nat) (mF : Nat) (mO : Nat) (mC : Nat) (mR : Nat) (mZ : Nat) (mS : Nat) (mH : Nat) (mL : Nat) (mN : Nat) (mX : Nat) (mY : Nat) (tl : Nat) (n : Nat) (k : Nat) (li : Nat) (fa : Nat) (mm : Nat) (im : Bool) (ird : Bool) (itn : Bool) (lsz : Nat) (tu : Nat) (fr : Nat → Nat) (to : Nat → Nat) (ct : Nat → Nat) (sz : Nat → Nat) (st : Nat → Nat) (hs : Nat → Nat) (rw : Nat → Nat) (nw : Nat → Nat) (hF : Flow n k fr to ct) : ga_M l G yX7_ways cX7_ways 1 (Option.some Jvm.ClassFile.FieldType.int) 3 65 0 0 [.ref aM] [(aM, .inr (7, [.ref mT, .int (nI tl), .int (nI n), .int (nI k), .ref mF, .ref mO, .ref mC, .int (nI li), .int (nI fa), .int (nI mm), .int (bI im), .ref mR, .ref mZ, .ref mS, .ref mH, .int (bI ird), .int (bI itn), .int (nI lsz), .ref mL, .ref mN, .ref mX, .ref mY, .int (nI tu)])), (mF, .inl (G.2.2, 16, .inl (aN fr))), (mO, .inl (G.2.2, 16, .inl (aN to))), (mR, .inl (G.2.2, 3200, .inl (aN rw))), (mZ, .inl (G.2.2, 200, .inl (aN sz))), (mS, .inl (G.2.2, 200, .inl (aN st))), (mH, .inl (G.2.2, 200, .inl (aN hs))), (mN, .inl (G.2.2, 16, .inl (aN nw)))] (fun r w => ∃ (mm2 : Nat), ∃ (im2 : Bool), ∃ (rw2 : Nat → Nat), ∃ (sz2 : Nat → Nat), ∃ (st2 : Nat → Nat), ∃ (hs2 : Nat → Nat), ∃ (nw2 : Nat → Nat), (RepM to fa (WL n k fr to) mm2 im2 rw2 sz2 st2 hs2) ∧ r = some (.int (sWays (WL n k fr to))) ∧ w = [(aM, .inr (7, [.ref mT, .int (nI tl), .int (nI n), .int (nI k), .ref mF, .ref mO, .ref mC, .int (nI li), .int (nI fa), .int (nI mm2), .int (bI im2), .ref mR, .ref mZ, .ref mS, .ref mH, .int (bI ird), .int (bI itn), .int (nI lsz), .ref mL, .ref mN, .ref mX, .ref mY, .int (nI tu)])), (mF, .inl (G.2.2, 16, .inl (aN fr))), (mO, .inl (G.2.2, 16, .inl (aN to))), (mR, .inl (G.2.2, 3200, .inl (aN rw2))), (mZ, .inl (G.2.2, 200, .inl (aN sz2))), (mS, .inl (G.2.2, 200, .inl (aN st2))), (mH, .inl (G.2.2, 200, .inl (aN hs2))), (mN, .inl (G.2.2, 16, .inl (aN nw2)))]) := by
  refine ga_M.intro (by decide) (Nat.le_of_ble_eq_true rfl) (fun p_ e_ s_ m_ below meth c_ A_ H_ locs_ ls cx hr hlk hnm hA hK hl w => ?_)
  have hx := cx.1
  have hb := cx.2.1
  have hl : lv_has ls 1 [(0, .ref aM)] := hl
  refine lv_aload_n hx hb dX7_ways_0 rfl (lv_at hl 0 rfl) ?_
  refine ga_callV (rest := []) (wr := []) cx hK hA w hl lk_X7_96 (c_X7_isTooMany l G aM mT mF mO mC mR mZ mS mH mL mN mX mY tl n k li fa mm im ird itn lsz tu fr to ct sz st hs rw nw (hF)) ⟨Nat.le_of_ble_eq_true rfl, Nat.le_of_ble_eq_true rfl⟩ [0, 1, 2, 3, 4, 5, 6, 7] [] rfl rfl (by decide) (by decide) (by decide) 0 7 rfl rfl rfl rfl (Nat.le_of_ble_eq_true rfl) dX7_ways_1 ⟨Nat.le_refl _, Nat.le_refl _⟩ rfl (fun r w1_ H_ locs_ hp w => ?_)
  obtain ⟨mm9, im9, rw9, sz9, st9, hs9, nw9, hR9, rfl, rfl⟩ := hp
  have w : ga_wd G A_ s_ H_ locs_ [(aM, .inr (7, [.ref mT, .int (nI tl), .int (nI n), .int (nI k), .ref mF, .ref mO, .ref mC, .int (nI li), .int (nI fa), .int (nI mm9), .int (bI im9), .ref mR, .ref mZ, .ref mS, .ref mH, .int (bI ird), .int (bI itn), .int (nI lsz), .ref mL, .ref mN, .ref mX, .ref mY, .int (nI tu)])), (mF, .inl (G.2.2, 16, .inl (aN fr))), (mO, .inl (G.2.2, 16, .inl (aN to))), (mR, .inl (G.2.2, 3200, .inl (aN rw9))), (mZ, .inl (G.2.2, 200, .inl (aN sz9))), (mS, .inl (G.2.2, 200, .inl (aN st9))), (mH, .inl (G.2.2, 200, .inl (aN hs9))), (mN, .inl (G.2.2, 16, .inl (aN nw9)))] := ga_perm w [0, 1, 2, 3, 4, 5, 6, 7] (by decide) rfl
  refine W.eq (g2 := F0 m_ 4 ls [.int (bI im9)]) rfl ?_
  have hr9 := RepM_f hR9
  refine r_ifb_eq hx hb dX7_ways_4 (tgt := 12) (by decide) (fun c4 => ?_) (fun c4 => ?_)
  · have htm : ¬ 200 < (WL n k fr to).length := of_decide_eq_false (by rw [← hr9.2.1]; exact c4)
    have hnc := hr9.2.2.1 c4
    refine lv_aload_n hx hb dX7_ways_12 rfl (lv_at hl 0 rfl) ?_
    refine gf_X7_83 cx hK w 0 rfl rfl dX7_ways_13 ?_
    exact ga_iret cx hr hlk w dX7_ways_16 ⟨Nat.le_refl _, Nat.le_refl _⟩ (⟨mm9, im9, rw9, sz9, st9, hs9, nw9, hR9, ga_rv (by rw [sWays, if_neg htm, hnc]), rfl⟩)
  · have htm : 200 < (WL n k fr to).length := of_decide_eq_true (by rw [← hr9.2.1]; exact c4)
    refine lv_bipush (v := (-2)) hx hb dX7_ways_7 (by decide) ?_
    refine lv_goto (tgt := 16) hx hb dX7_ways_9 (by decide) ?_
    exact ga_iret cx hr hlk w dX7_ways_16 ⟨Nat.le_refl _, Nat.le_refl _⟩ (⟨mm9, im9, rw9, sz9, st9, hs9, nw9, hR9, ga_rv (by rw [sWays, if_pos htm]), rfl⟩)

set_option maxHeartbeats 4000000 in
set_option maxRecDepth 100000 in
theorem c_X7_way (l : Launch) (G : ga_G) (aM : Nat) (mT : Nat) (mF : Nat) (mO : Nat) (mC : Nat) (mR : Nat) (mZ : Nat) (mS : Nat) (mH : Nat) (mL : Nat) (mN : Nat) (mX : Nat) (mY : Nat) (tl : Nat) (n : Nat) (k : Nat) (li : Nat) (fa : Nat) (mm : Nat) (im : Bool) (ird : Bool) (itn : Bool) (lsz : Nat) (tu : Nat) (fr : Nat → Nat) (to : Nat → Nat) (ct : Nat → Nat) (sz : Nat → Nat) (st : Nat → Nat) (hs : Nat → Nat) (rw : Nat → Nat) (nw : Nat → Nat) (v : Int32) (x : Int32) (hF : Flow n k fr to ct) : ga_M l G yX7_way cX7_way 3 (Option.some Jvm.ClassFile.FieldType.int) 3 65 0 0 [.ref aM, .int v, .int x] [(aM, .inr (7, [.ref mT, .int (nI tl), .int (nI n), .int (nI k), .ref mF, .ref mO, .ref mC, .int (nI li), .int (nI fa), .int (nI mm), .int (bI im), .ref mR, .ref mZ, .ref mS, .ref mH, .int (bI ird), .int (bI itn), .int (nI lsz), .ref mL, .ref mN, .ref mX, .ref mY, .int (nI tu)])), (mF, .inl (G.2.2, 16, .inl (aN fr))), (mO, .inl (G.2.2, 16, .inl (aN to))), (mR, .inl (G.2.2, 3200, .inl (aN rw))), (mZ, .inl (G.2.2, 200, .inl (aN sz))), (mS, .inl (G.2.2, 200, .inl (aN st))), (mH, .inl (G.2.2, 200, .inl (aN hs))), (mN, .inl (G.2.2, 16, .inl (aN nw)))] (fun r w => ∃ (mm2 : Nat), ∃ (im2 : Bool), ∃ (rw2 : Nat → Nat), ∃ (sz2 : Nat → Nat), ∃ (st2 : Nat → Nat), ∃ (hs2 : Nat → Nat), ∃ (nw2 : Nat → Nat), (RepM to fa (WL n k fr to) mm2 im2 rw2 sz2 st2 hs2) ∧ r = some (.int (sWay (WL n k fr to) v x)) ∧ w = [(aM, .inr (7, [.ref mT, .int (nI tl), .int (nI n), .int (nI k), .ref mF, .ref mO, .ref mC, .int (nI li), .int (nI fa), .int (nI mm2), .int (bI im2), .ref mR, .ref mZ, .ref mS, .ref mH, .int (bI ird), .int (bI itn), .int (nI lsz), .ref mL, .ref mN, .ref mX, .ref mY, .int (nI tu)])), (mF, .inl (G.2.2, 16, .inl (aN fr))), (mO, .inl (G.2.2, 16, .inl (aN to))), (mR, .inl (G.2.2, 3200, .inl (aN rw2))), (mZ, .inl (G.2.2, 200, .inl (aN sz2))), (mS, .inl (G.2.2, 200, .inl (aN st2))), (mH, .inl (G.2.2, 200, .inl (aN hs2))), (mN, .inl (G.2.2, 16, .inl (aN nw2)))]) := by
  refine ga_M.intro (by decide) (Nat.le_of_ble_eq_true rfl) (fun p_ e_ s_ m_ below meth c_ A_ H_ locs_ ls cx hr hlk hnm hA hK hl w => ?_)
  have hx := cx.1
  have hb := cx.2.1
  have hl : lv_has ls 3 [(0, .ref aM), (1, .int v), (2, .int x)] := hl
  refine lv_aload_n hx hb dX7_way_0 rfl (lv_at hl 0 rfl) ?_
  refine ga_callV (rest := []) (wr := []) cx hK hA w hl lk_X7_96 (c_X7_isTooMany l G aM mT mF mO mC mR mZ mS mH mL mN mX mY tl n k li fa mm im ird itn lsz tu fr to ct sz st hs rw nw (hF)) ⟨Nat.le_of_ble_eq_true rfl, Nat.le_of_ble_eq_true rfl⟩ [0, 1, 2, 3, 4, 5, 6, 7] [] rfl rfl (by decide) (by decide) (by decide) 0 7 rfl rfl rfl rfl (Nat.le_of_ble_eq_true rfl) dX7_way_1 ⟨Nat.le_refl _, Nat.le_refl _⟩ rfl (fun r w1_ H_ locs_ hp w => ?_)
  obtain ⟨mm9, im9, rw9, sz9, st9, hs9, nw9, hR9, rfl, rfl⟩ := hp
  have w : ga_wd G A_ s_ H_ locs_ [(aM, .inr (7, [.ref mT, .int (nI tl), .int (nI n), .int (nI k), .ref mF, .ref mO, .ref mC, .int (nI li), .int (nI fa), .int (nI mm9), .int (bI im9), .ref mR, .ref mZ, .ref mS, .ref mH, .int (bI ird), .int (bI itn), .int (nI lsz), .ref mL, .ref mN, .ref mX, .ref mY, .int (nI tu)])), (mF, .inl (G.2.2, 16, .inl (aN fr))), (mO, .inl (G.2.2, 16, .inl (aN to))), (mR, .inl (G.2.2, 3200, .inl (aN rw9))), (mZ, .inl (G.2.2, 200, .inl (aN sz9))), (mS, .inl (G.2.2, 200, .inl (aN st9))), (mH, .inl (G.2.2, 200, .inl (aN hs9))), (mN, .inl (G.2.2, 16, .inl (aN nw9)))] := ga_perm w [0, 1, 2, 3, 4, 5, 6, 7] (by decide) rfl
  refine W.eq (g2 := F0 m_ 4 ls [.int (bI im9)]) rfl ?_
  have hr9 := RepM_f hR9
  refine r_ifb_ne hx hb dX7_way_4 (tgt := 41) (by decide) (fun c4 => ?_) (fun c4 => ?_)
  · have htm : 200 < (WL n k fr to).length := of_decide_eq_true (by rw [← hr9.2.1]; exact c4)
    refine lv_iconst (v := (-1)) hx hb dX7_way_41 (by decide) ?_
    exact ga_iret cx hr hlk w dX7_way_42 ⟨Nat.le_refl _, Nat.le_refl _⟩ (⟨mm9, im9, rw9, sz9, st9, hs9, nw9, hR9, ga_rv (by rw [sWay, if_pos htm]), rfl⟩)
  · have htm : ¬ 200 < (WL n k fr to).length := of_decide_eq_false (by rw [← hr9.2.1]; exact c4)
    have hnc := hr9.2.2.1 c4
    refine lv_iload_n hx hb dX7_way_7 rfl (lv_at hl 1 rfl) ?_
    refine lv_i2l hx hb dX7_way_8 rfl ?_
    refine lv_lconst (v := lN 0) hx hb dX7_way_9 (by decide) ?_
    refine lv_aload_n hx hb dX7_way_10 rfl (lv_at hl 0 rfl) ?_
    refine gf_X7_83 cx hK w 0 rfl rfl dX7_way_11 ?_
    refine lv_iconst (v := nI 1) hx hb dX7_way_14 (by decide) ?_
    refine lv_isub hx hb dX7_way_15 ?_
    refine lv_i2l hx hb dX7_way_16 rfl ?_
    refine ga_callS (rest := []) (wr := [(aM, .inr (7, [.ref mT, .int (nI tl), .int (nI n), .int (nI k), .ref mF, .ref mO, .ref mC, .int (nI li), .int (nI fa), .int (nI mm9), .int (bI im9), .ref mR, .ref mZ, .ref mS, .ref mH, .int (bI ird), .int (bI itn), .int (nI lsz), .ref mL, .ref mN, .ref mX, .ref mY, .int (nI tu)])), (mF, .inl (G.2.2, 16, .inl (aN fr))), (mO, .inl (G.2.2, 16, .inl (aN to))), (mR, .inl (G.2.2, 3200, .inl (aN rw9))), (mZ, .inl (G.2.2, 200, .inl (aN sz9))), (mS, .inl (G.2.2, 200, .inl (aN st9))), (mH, .inl (G.2.2, 200, .inl (aN hs9))), (mN, .inl (G.2.2, 16, .inl (aN nw9)))]) cx hK hA w hl lk_X7_55 (c_X7_lies l G v.toInt64 (lN 0) (((nI mm9) - (nI 1)).toInt64) ) ⟨Nat.le_of_ble_eq_true rfl, Nat.le_of_ble_eq_true rfl⟩ [] [0, 1, 2, 3, 4, 5, 6, 7] rfl rfl (by decide) (by decide) (by decide) rfl (Nat.le_of_ble_eq_true rfl) dX7_way_17 ⟨Nat.le_refl _, Nat.le_refl _⟩ rfl (fun r w1_ H_ locs_ hp w => ?_)
    obtain ⟨rfl, rfl⟩ := hp
    have w : ga_wd G A_ s_ H_ locs_ [(aM, .inr (7, [.ref mT, .int (nI tl), .int (nI n), .int (nI k), .ref mF, .ref mO, .ref mC, .int (nI li), .int (nI fa), .int (nI mm9), .int (bI im9), .ref mR, .ref mZ, .ref mS, .ref mH, .int (bI ird), .int (bI itn), .int (nI lsz), .ref mL, .ref mN, .ref mX, .ref mY, .int (nI tu)])), (mF, .inl (G.2.2, 16, .inl (aN fr))), (mO, .inl (G.2.2, 16, .inl (aN to))), (mR, .inl (G.2.2, 3200, .inl (aN rw9))), (mZ, .inl (G.2.2, 200, .inl (aN sz9))), (mS, .inl (G.2.2, 200, .inl (aN st9))), (mH, .inl (G.2.2, 200, .inl (aN hs9))), (mN, .inl (G.2.2, 16, .inl (aN nw9)))] := ga_perm w [0, 1, 2, 3, 4, 5, 6, 7] (by decide) rfl
    refine W.eq (g2 := F0 m_ 20 ls [.int (bI (lsB v.toInt64 (lN 0) (((nI mm9) - (nI 1)).toInt64)))]) rfl ?_
    refine r_ifb_eq hx hb dX7_way_20 (tgt := 41) (by decide) (fun c20 => ?_) (fun c20 => ?_)
    · rw [lsB_in (by omega), hnc] at c20
      refine lv_iconst (v := (-1)) hx hb dX7_way_41 (by decide) ?_
      exact ga_iret cx hr hlk w dX7_way_42 ⟨Nat.le_refl _, Nat.le_refl _⟩ (⟨mm9, im9, rw9, sz9, st9, hs9, nw9, hR9, ga_rv (by rw [sWay, if_neg htm, if_neg (by rw [c20]; decide)]), rfl⟩)
    · rw [lsB_in (by omega)] at c20
      have hiw : inB v (WL n k fr to).length = true := by rw [← hnc]; exact c20
      obtain ⟨j, hj, rfl⟩ := inB_of (by omega) c20
      have hw9 := hr9.2.2.2.2 j hj
      refine lv_iload_n hx hb dX7_way_23 rfl (lv_at hl 2 rfl) ?_
      refine lv_i2l hx hb dX7_way_24 rfl ?_
      refine lv_lconst (v := lN 0) hx hb dX7_way_25 (by decide) ?_
      refine lv_aload_n hx hb dX7_way_26 rfl (lv_at hl 0 rfl) ?_
      refine gf_X7_30 cx hK w 0 rfl rfl dX7_way_27 ?_
      refine lv_iload_n hx hb dX7_way_30 rfl (lv_at hl 1 rfl) ?_
      refine r_ialdN hx hb hK w 4 rfl dX7_way_31 (by omega) (by decide) ?_
      refine lv_iconst (v := nI 1) hx hb dX7_way_32 (by decide) ?_
      refine lv_isub hx hb dX7_way_33 ?_
      refine lv_i2l hx hb dX7_way_34 rfl ?_
      refine ga_callS (rest := []) (wr := [(aM, .inr (7, [.ref mT, .int (nI tl), .int (nI n), .int (nI k), .ref mF, .ref mO, .ref mC, .int (nI li), .int (nI fa), .int (nI mm9), .int (bI im9), .ref mR, .ref mZ, .ref mS, .ref mH, .int (bI ird), .int (bI itn), .int (nI lsz), .ref mL, .ref mN, .ref mX, .ref mY, .int (nI tu)])), (mF, .inl (G.2.2, 16, .inl (aN fr))), (mO, .inl (G.2.2, 16, .inl (aN to))), (mR, .inl (G.2.2, 3200, .inl (aN rw9))), (mZ, .inl (G.2.2, 200, .inl (aN sz9))), (mS, .inl (G.2.2, 200, .inl (aN st9))), (mH, .inl (G.2.2, 200, .inl (aN hs9))), (mN, .inl (G.2.2, 16, .inl (aN nw9)))]) cx hK hA w hl lk_X7_55 (c_X7_lies l G x.toInt64 (lN 0) (((nI (sz9 j)) - (nI 1)).toInt64) ) ⟨Nat.le_of_ble_eq_true rfl, Nat.le_of_ble_eq_true rfl⟩ [] [0, 1, 2, 3, 4, 5, 6, 7] rfl rfl (by decide) (by decide) (by decide) rfl (Nat.le_of_ble_eq_true rfl) dX7_way_35 ⟨Nat.le_refl _, Nat.le_refl _⟩ rfl (fun r w1_ H_ locs_ hp w => ?_)
      obtain ⟨rfl, rfl⟩ := hp
      have w : ga_wd G A_ s_ H_ locs_ [(aM, .inr (7, [.ref mT, .int (nI tl), .int (nI n), .int (nI k), .ref mF, .ref mO, .ref mC, .int (nI li), .int (nI fa), .int (nI mm9), .int (bI im9), .ref mR, .ref mZ, .ref mS, .ref mH, .int (bI ird), .int (bI itn), .int (nI lsz), .ref mL, .ref mN, .ref mX, .ref mY, .int (nI tu)])), (mF, .inl (G.2.2, 16, .inl (aN fr))), (mO, .inl (G.2.2, 16, .inl (aN to))), (mR, .inl (G.2.2, 3200, .inl (aN rw9))), (mZ, .inl (G.2.2, 200, .inl (aN sz9))), (mS, .inl (G.2.2, 200, .inl (aN st9))), (mH, .inl (G.2.2, 200, .inl (aN hs9))), (mN, .inl (G.2.2, 16, .inl (aN nw9)))] := ga_perm w [0, 1, 2, 3, 4, 5, 6, 7] (by decide) rfl
      refine W.eq (g2 := F0 m_ 38 ls [.int (bI (lsB x.toInt64 (lN 0) (((nI (sz9 j)) - (nI 1)).toInt64)))]) rfl ?_
      refine r_ifb_ne hx hb dX7_way_38 (tgt := 43) (by decide) (fun c38 => ?_) (fun c38 => ?_)
      · rw [hw9.2.1, lsB_in (by omega)] at c38
        obtain ⟨u, hu, rfl⟩ := inB_of (by omega) c38
        refine lv_aload_n hx hb dX7_way_43 rfl (lv_at hl 0 rfl) ?_
        refine gf_X7_27 cx hK w 0 rfl rfl dX7_way_44 ?_
        refine lv_bipush (v := nI 16) hx hb dX7_way_47 (by decide) ?_
        refine lv_iload_n hx hb dX7_way_49 rfl (lv_at hl 1 rfl) ?_
        refine r_imul hx hb dX7_way_50 ?_
        refine lv_iload_n hx hb dX7_way_51 rfl (lv_at hl 2 rfl) ?_
        refine r_iadd hx hb dX7_way_52 ?_
        refine r_ialdN hx hb hK w 3 rfl dX7_way_53 (by omega) (by decide) ?_
        exact ga_iret cx hr hlk w dX7_way_54 ⟨Nat.le_refl _, Nat.le_refl _⟩ (⟨mm9, im9, rw9, sz9, st9, hs9, nw9, hR9, ga_rv (by rw [sWay, if_neg htm, if_pos hiw, nI_clamp (by omega), nth_nI (by omega), if_pos hu, hw9.2.2.2.2 u hu]), rfl⟩)
      · rw [hw9.2.1, lsB_in (by omega)] at c38
        refine lv_iconst (v := (-1)) hx hb dX7_way_41 (by decide) ?_
        exact ga_iret cx hr hlk w dX7_way_42 ⟨Nat.le_refl _, Nat.le_refl _⟩ (⟨mm9, im9, rw9, sz9, st9, hs9, nw9, hR9, ga_rv (by rw [sWay, if_neg htm, if_pos hiw, nI_clamp (by omega), nth_out (by rw [List.length_map]; omega) (by rw [List.length_map]; exact c38)]), rfl⟩)

set_option maxHeartbeats 4000000 in
set_option maxRecDepth 100000 in
theorem c_X7_logOf (l : Launch) (G : ga_G) (aM : Nat) (mT : Nat) (mF : Nat) (mO : Nat) (mC : Nat) (mR : Nat) (mZ : Nat) (mS : Nat) (mH : Nat) (mL : Nat) (mN : Nat) (mX : Nat) (mY : Nat) (tl : Nat) (n : Nat) (k : Nat) (li : Nat) (fa : Nat) (mm : Nat) (im : Bool) (ird : Bool) (itn : Bool) (lsz : Nat) (tu : Nat) (sz : Nat → Nat) (rw : Nat → Nat) (i : Nat) (x : Int32) (hi : i < 200) (hsz : sz i ≤ 16) (hrw : ∀ j, j < sz i → rw (16 * i + j) < 16) (hli : li < 65536) : ga_M l G yX7_logOf cX7_logOf 5 (Option.some Jvm.ClassFile.FieldType.int) 1 21 0 0 [.ref aM, .int (nI i), .int x] [(aM, .inr (7, [.ref mT, .int (nI tl), .int (nI n), .int (nI k), .ref mF, .ref mO, .ref mC, .int (nI li), .int (nI fa), .int (nI mm), .int (bI im), .ref mR, .ref mZ, .ref mS, .ref mH, .int (bI ird), .int (bI itn), .int (nI lsz), .ref mL, .ref mN, .ref mX, .ref mY, .int (nI tu)])), (mR, .inl (G.2.2, 3200, .inl (aN rw))), (mZ, .inl (G.2.2, 200, .inl (aN sz)))] (fun r w => r = some (.int (nth (lgl li rw sz i) x)) ∧ w = [(aM, .inr (7, [.ref mT, .int (nI tl), .int (nI n), .int (nI k), .ref mF, .ref mO, .ref mC, .int (nI li), .int (nI fa), .int (nI mm), .int (bI im), .ref mR, .ref mZ, .ref mS, .ref mH, .int (bI ird), .int (bI itn), .int (nI lsz), .ref mL, .ref mN, .ref mX, .ref mY, .int (nI tu)])), (mR, .inl (G.2.2, 3200, .inl (aN rw))), (mZ, .inl (G.2.2, 200, .inl (aN sz)))]) := by
  refine ga_M.intro (by decide) (Nat.le_of_ble_eq_true rfl) (fun p_ e_ s_ m_ below meth c_ A_ H_ locs_ ls cx hr hlk hnm hA hK hl w => ?_)
  have hx := cx.1
  have hb := cx.2.1
  have hl : lv_has ls 5 [(0, .ref aM), (1, .int (nI i)), (2, .int x)] := hl
  refine lv_iconst (v := nI 0) hx hb dX7_logOf_0 (by decide) ?_
  refine lv_istore_n (lv' := [(3, .int (nI 0)), (0, .ref aM), (1, .int (nI i)), (2, .int x)]) hx hb dX7_logOf_1 rfl hl (by decide) rfl (fun ls hl => ?_)
  refine lv_iconst (v := nI 0) hx hb dX7_logOf_2 (by decide) ?_
  refine lv_istore (lv' := [(4, .int (nI 0)), (3, .int (nI 0)), (0, .ref aM), (1, .int (nI i)), (2, .int x)]) hx hb dX7_logOf_3 hl (by decide) rfl (fun ls hl => ?_)
  have loop5 : ∀ (n_ : Nat) (j : Nat) (t : Nat) (hj : j ≤ sz i) (hz : scU (fun j => Nat.testBit li (rw (16 * i + j))) x t j) (hm : sz i - j < n_) (H_ : Heap) (locs_ : List Loc) (ls : Array Slot) (hl : lv_has ls 5 [(4, .int (nI j)), (3, .int (nI t)), (0, .ref aM), (1, .int (nI i)), (2, .int x)]) (w : ga_wd G A_ s_ H_ locs_ [(aM, .inr (7, [.ref mT, .int (nI tl), .int (nI n), .int (nI k), .ref mF, .ref mO, .ref mC, .int (nI li), .int (nI fa), .int (nI mm), .int (bI im), .ref mR, .ref mZ, .ref mS, .ref mH, .int (bI ird), .int (bI itn), .int (nI lsz), .ref mL, .ref mN, .ref mX, .ref mY, .int (nI tu)])), (mR, .inl (G.2.2, 3200, .inl (aN rw))), (mZ, .inl (G.2.2, 200, .inl (aN sz)))]), W p_ l e_ { frames := 1, cells := 0, slots := 0, locals := 21 } s_ m_ [.ref aM, .int (nI i), .int x].toArray below meth c_ H_ locs_ (0) (0) (MQ below (ga_Q G A_ (fun r w => r = some (.int (nth (lgl li rw sz i) x)) ∧ w = [(aM, .inr (7, [.ref mT, .int (nI tl), .int (nI n), .int (nI k), .ref mF, .ref mO, .ref mC, .int (nI li), .int (nI fa), .int (nI mm), .int (bI im), .ref mR, .ref mZ, .ref mS, .ref mH, .int (bI ird), .int (bI itn), .int (nI lsz), .ref mL, .ref mN, .ref mX, .ref mY, .int (nI tu)])), (mR, .inl (G.2.2, 3200, .inl (aN rw))), (mZ, .inl (G.2.2, 200, .inl (aN sz)))])) [.ref aM, .int (nI i), .int x].toArray s_ 0 0 A_) (F0 m_ 5 ls []) := by
    intro n_
    induction n_ with
    | zero => intro j t hj hz hm; exact absurd hm (Nat.not_lt_zero _)
    | succ n_ ih5 =>
      intro j t hj hz hm5 H_ locs_ ls hl w
      refine lv_iload hx hb dX7_logOf_5 (lv_at hl 0 rfl) ?_
      refine lv_aload_n hx hb dX7_logOf_7 rfl (lv_at hl 2 rfl) ?_
      refine gf_X7_30 cx hK w 0 rfl rfl dX7_logOf_8 ?_
      refine lv_iload_n hx hb dX7_logOf_11 rfl (lv_at hl 3 rfl) ?_
      refine r_ialdN hx hb hK w 2 rfl dX7_logOf_12 (by omega) (by decide) ?_
      refine r_icmp_ge hx hb dX7_logOf_13 (tgt := 68) (by decide) (by omega) (by omega) (fun c13 => ?_) (fun c13 => ?_)
      · refine lv_iconst (v := (-1)) hx hb dX7_logOf_68 (by decide) ?_
        exact ga_iret cx hr hlk w dX7_logOf_69 ⟨Nat.le_refl _, Nat.le_refl _⟩ (⟨ga_rv (scU_end (fun j => nI (rw (16 * i + j))) (by rw [show sz i = j by omega]; exact hz) (by omega)).symm, rfl⟩)
      · have hrj := hrw j (by omega)
        refine lv_aload_n hx hb dX7_logOf_16 rfl (lv_at hl 2 rfl) ?_
        refine gf_X7_63 cx hK w 0 rfl rfl dX7_logOf_17 ?_
        refine lv_aload_n hx hb dX7_logOf_20 rfl (lv_at hl 2 rfl) ?_
        refine gf_X7_27 cx hK w 0 rfl rfl dX7_logOf_21 ?_
        refine lv_bipush (v := nI 16) hx hb dX7_logOf_24 (by decide) ?_
        refine lv_iload_n hx hb dX7_logOf_26 rfl (lv_at hl 3 rfl) ?_
        refine r_imul hx hb dX7_logOf_27 ?_
        refine lv_iload hx hb dX7_logOf_28 (lv_at hl 0 rfl) ?_
        refine r_iadd hx hb dX7_logOf_30 ?_
        refine r_ialdN hx hb hK w 1 rfl dX7_logOf_31 (by omega) (by decide) ?_
        refine ga_callS (rest := []) (wr := [(aM, .inr (7, [.ref mT, .int (nI tl), .int (nI n), .int (nI k), .ref mF, .ref mO, .ref mC, .int (nI li), .int (nI fa), .int (nI mm), .int (bI im), .ref mR, .ref mZ, .ref mS, .ref mH, .int (bI ird), .int (bI itn), .int (nI lsz), .ref mL, .ref mN, .ref mX, .ref mY, .int (nI tu)])), (mR, .inl (G.2.2, 3200, .inl (aN rw))), (mZ, .inl (G.2.2, 200, .inl (aN sz)))]) cx hK hA w hl lk_X7_79 (c_X7_isIn l G li (rw ((16 * i) + j)) (by omega) (by omega)) ⟨Nat.le_of_ble_eq_true rfl, Nat.le_of_ble_eq_true rfl⟩ [] [0, 1, 2] rfl rfl (by decide) (by decide) (by decide) rfl (Nat.le_of_ble_eq_true rfl) dX7_logOf_32 ⟨Nat.le_refl _, Nat.le_refl _⟩ rfl (fun r w1_ H_ locs_ hp w => ?_)
        obtain ⟨rfl, rfl⟩ := hp
        have w : ga_wd G A_ s_ H_ locs_ [(aM, .inr (7, [.ref mT, .int (nI tl), .int (nI n), .int (nI k), .ref mF, .ref mO, .ref mC, .int (nI li), .int (nI fa), .int (nI mm), .int (bI im), .ref mR, .ref mZ, .ref mS, .ref mH, .int (bI ird), .int (bI itn), .int (nI lsz), .ref mL, .ref mN, .ref mX, .ref mY, .int (nI tu)])), (mR, .inl (G.2.2, 3200, .inl (aN rw))), (mZ, .inl (G.2.2, 200, .inl (aN sz)))] := ga_perm w [0, 1, 2] (by decide) rfl
        refine W.eq (g2 := F0 m_ 35 ls [.int (bI (Nat.testBit li (rw ((16 * i) + j))))]) rfl ?_
        refine r_ifb_ne hx hb dX7_logOf_35 (tgt := 41) (by decide) (fun c35 => ?_) (fun c35 => ?_)
        · refine lv_iload_n hx hb dX7_logOf_41 rfl (lv_at hl 1 rfl) ?_
          refine lv_iload_n hx hb dX7_logOf_42 rfl (lv_at hl 4 rfl) ?_
          refine lv_icmp_ne hx hb dX7_logOf_43 (tgt := 59) (by decide) (fun c43 => ?_) (fun c43 => ?_)
          · refine r_iinc (d := 1) (k := 1) (lv' := [(3, .int (nI (t + 1))), (4, .int (nI j)), (0, .ref aM), (1, .int (nI i)), (2, .int x)]) hx hb dX7_logOf_59 hl rfl (by decide) (by decide) rfl (fun ls hl => ?_)
            refine r_iinc (d := 1) (k := 1) (lv' := [(4, .int (nI (j + 1))), (3, .int (nI (t + 1))), (0, .ref aM), (1, .int (nI i)), (2, .int x)]) hx hb dX7_logOf_62 hl rfl (by decide) (by decide) rfl (fun ls hl => ?_)
            refine lv_goto (tgt := 5) hx hb dX7_logOf_65 (by decide) ?_
            exact ih5 (j + 1) (t + 1) (by omega) (scU_t hz c35 c43) (by omega) _ _ _ (lv_sub hl [0, 1, 2, 3, 4] rfl) w
          · refine lv_aload_n hx hb dX7_logOf_46 rfl (lv_at hl 2 rfl) ?_
            refine gf_X7_27 cx hK w 0 rfl rfl dX7_logOf_47 ?_
            refine lv_bipush (v := nI 16) hx hb dX7_logOf_50 (by decide) ?_
            refine lv_iload_n hx hb dX7_logOf_52 rfl (lv_at hl 3 rfl) ?_
            refine r_imul hx hb dX7_logOf_53 ?_
            refine lv_iload hx hb dX7_logOf_54 (lv_at hl 0 rfl) ?_
            refine r_iadd hx hb dX7_logOf_56 ?_
            refine r_ialdN hx hb hK w 1 rfl dX7_logOf_57 (by omega) (by decide) ?_
            exact ga_iret cx hr hlk w dX7_logOf_58 ⟨Nat.le_refl _, Nat.le_refl _⟩ (⟨ga_rv (scU_hit (fun j => nI (rw (16 * i + j))) hz c35 (by omega) (by omega) c43).symm, rfl⟩)
        · refine lv_goto (tgt := 62) hx hb dX7_logOf_38 (by decide) ?_
          refine r_iinc (d := 1) (k := 0) (lv' := [(4, .int (nI (j + 1))), (3, .int (nI t)), (0, .ref aM), (1, .int (nI i)), (2, .int x)]) hx hb dX7_logOf_62 hl rfl (by decide) (by decide) rfl (fun ls hl => ?_)
          refine lv_goto (tgt := 5) hx hb dX7_logOf_65 (by decide) ?_
          exact ih5 (j + 1) t (by omega) (scU_f hz c35) (by omega) _ _ _ (lv_sub hl [0, 1, 2, 3, 4] rfl) w
  exact loop5 _ 0 0 (by omega) (scU_0 _ _) (Nat.lt_succ_self _) _ _ _ (lv_sub hl [0, 1, 2, 3, 4] rfl) w

set_option maxHeartbeats 4000000 in
set_option maxRecDepth 100000 in
theorem c_X7_log (l : Launch) (G : ga_G) (aM : Nat) (mT : Nat) (mF : Nat) (mO : Nat) (mC : Nat) (mR : Nat) (mZ : Nat) (mS : Nat) (mH : Nat) (mL : Nat) (mN : Nat) (mX : Nat) (mY : Nat) (tl : Nat) (n : Nat) (k : Nat) (li : Nat) (fa : Nat) (mm : Nat) (im : Bool) (ird : Bool) (itn : Bool) (lsz : Nat) (tu : Nat) (fr : Nat → Nat) (to : Nat → Nat) (ct : Nat → Nat) (sz : Nat → Nat) (st : Nat → Nat) (hs : Nat → Nat) (rw : Nat → Nat) (nw : Nat → Nat) (v : Int32) (x : Int32) (hF : Flow n k fr to ct) (hli : li < 65536) : ga_M l G yX7_log cX7_log 3 (Option.some Jvm.ClassFile.FieldType.int) 3 65 0 0 [.ref aM, .int v, .int x] [(aM, .inr (7, [.ref mT, .int (nI tl), .int (nI n), .int (nI k), .ref mF, .ref mO, .ref mC, .int (nI li), .int (nI fa), .int (nI mm), .int (bI im), .ref mR, .ref mZ, .ref mS, .ref mH, .int (bI ird), .int (bI itn), .int (nI lsz), .ref mL, .ref mN, .ref mX, .ref mY, .int (nI tu)])), (mF, .inl (G.2.2, 16, .inl (aN fr))), (mO, .inl (G.2.2, 16, .inl (aN to))), (mR, .inl (G.2.2, 3200, .inl (aN rw))), (mZ, .inl (G.2.2, 200, .inl (aN sz))), (mS, .inl (G.2.2, 200, .inl (aN st))), (mH, .inl (G.2.2, 200, .inl (aN hs))), (mN, .inl (G.2.2, 16, .inl (aN nw)))] (fun r w => ∃ (mm2 : Nat), ∃ (im2 : Bool), ∃ (rw2 : Nat → Nat), ∃ (sz2 : Nat → Nat), ∃ (st2 : Nat → Nat), ∃ (hs2 : Nat → Nat), ∃ (nw2 : Nat → Nat), (RepM to fa (WL n k fr to) mm2 im2 rw2 sz2 st2 hs2) ∧ r = some (.int (sLog (WL n k fr to) li v x)) ∧ w = [(aM, .inr (7, [.ref mT, .int (nI tl), .int (nI n), .int (nI k), .ref mF, .ref mO, .ref mC, .int (nI li), .int (nI fa), .int (nI mm2), .int (bI im2), .ref mR, .ref mZ, .ref mS, .ref mH, .int (bI ird), .int (bI itn), .int (nI lsz), .ref mL, .ref mN, .ref mX, .ref mY, .int (nI tu)])), (mF, .inl (G.2.2, 16, .inl (aN fr))), (mO, .inl (G.2.2, 16, .inl (aN to))), (mR, .inl (G.2.2, 3200, .inl (aN rw2))), (mZ, .inl (G.2.2, 200, .inl (aN sz2))), (mS, .inl (G.2.2, 200, .inl (aN st2))), (mH, .inl (G.2.2, 200, .inl (aN hs2))), (mN, .inl (G.2.2, 16, .inl (aN nw2)))]) := by
  refine ga_M.intro (by decide) (Nat.le_of_ble_eq_true rfl) (fun p_ e_ s_ m_ below meth c_ A_ H_ locs_ ls cx hr hlk hnm hA hK hl w => ?_)
  have hx := cx.1
  have hb := cx.2.1
  have hl : lv_has ls 3 [(0, .ref aM), (1, .int v), (2, .int x)] := hl
  refine lv_aload_n hx hb dX7_log_0 rfl (lv_at hl 0 rfl) ?_
  refine ga_callV (rest := []) (wr := []) cx hK hA w hl lk_X7_96 (c_X7_isTooMany l G aM mT mF mO mC mR mZ mS mH mL mN mX mY tl n k li fa mm im ird itn lsz tu fr to ct sz st hs rw nw (hF)) ⟨Nat.le_of_ble_eq_true rfl, Nat.le_of_ble_eq_true rfl⟩ [0, 1, 2, 3, 4, 5, 6, 7] [] rfl rfl (by decide) (by decide) (by decide) 0 7 rfl rfl rfl rfl (Nat.le_of_ble_eq_true rfl) dX7_log_1 ⟨Nat.le_refl _, Nat.le_refl _⟩ rfl (fun r w1_ H_ locs_ hp w => ?_)
  obtain ⟨mm9, im9, rw9, sz9, st9, hs9, nw9, hR9, rfl, rfl⟩ := hp
  have w : ga_wd G A_ s_ H_ locs_ [(aM, .inr (7, [.ref mT, .int (nI tl), .int (nI n), .int (nI k), .ref mF, .ref mO, .ref mC, .int (nI li), .int (nI fa), .int (nI mm9), .int (bI im9), .ref mR, .ref mZ, .ref mS, .ref mH, .int (bI ird), .int (bI itn), .int (nI lsz), .ref mL, .ref mN, .ref mX, .ref mY, .int (nI tu)])), (mF, .inl (G.2.2, 16, .inl (aN fr))), (mO, .inl (G.2.2, 16, .inl (aN to))), (mR, .inl (G.2.2, 3200, .inl (aN rw9))), (mZ, .inl (G.2.2, 200, .inl (aN sz9))), (mS, .inl (G.2.2, 200, .inl (aN st9))), (mH, .inl (G.2.2, 200, .inl (aN hs9))), (mN, .inl (G.2.2, 16, .inl (aN nw9)))] := ga_perm w [0, 1, 2, 3, 4, 5, 6, 7] (by decide) rfl
  refine W.eq (g2 := F0 m_ 4 ls [.int (bI im9)]) rfl ?_
  have hr9 := RepM_f hR9
  refine r_ifb_ne hx hb dX7_log_4 (tgt := 27) (by decide) (fun c4 => ?_) (fun c4 => ?_)
  · have htm : 200 < (WL n k fr to).length := of_decide_eq_true (by rw [← hr9.2.1]; exact c4)
    refine lv_iconst (v := (-1)) hx hb dX7_log_27 (by decide) ?_
    refine lv_goto (tgt := 37) hx hb dX7_log_28 (by decide) ?_
    exact ga_iret cx hr hlk w dX7_log_37 ⟨Nat.le_refl _, Nat.le_refl _⟩ (⟨mm9, im9, rw9, sz9, st9, hs9, nw9, hR9, ga_rv (by rw [sLog, if_pos htm]), rfl⟩)
  · have htm : ¬ 200 < (WL n k fr to).length := of_decide_eq_false (by rw [← hr9.2.1]; exact c4)
    have hnc := hr9.2.2.1 c4
    refine lv_iload_n hx hb dX7_log_7 rfl (lv_at hl 1 rfl) ?_
    refine lv_i2l hx hb dX7_log_8 rfl ?_
    refine lv_lconst (v := lN 0) hx hb dX7_log_9 (by decide) ?_
    refine lv_aload_n hx hb dX7_log_10 rfl (lv_at hl 0 rfl) ?_
    refine gf_X7_83 cx hK w 0 rfl rfl dX7_log_11 ?_
    refine lv_iconst (v := nI 1) hx hb dX7_log_14 (by decide) ?_
    refine lv_isub hx hb dX7_log_15 ?_
    refine lv_i2l hx hb dX7_log_16 rfl ?_
    refine ga_callS (rest := []) (wr := [(aM, .inr (7, [.ref mT, .int (nI tl), .int (nI n), .int (nI k), .ref mF, .ref mO, .ref mC, .int (nI li), .int (nI fa), .int (nI mm9), .int (bI im9), .ref mR, .ref mZ, .ref mS, .ref mH, .int (bI ird), .int (bI itn), .int (nI lsz), .ref mL, .ref mN, .ref mX, .ref mY, .int (nI tu)])), (mF, .inl (G.2.2, 16, .inl (aN fr))), (mO, .inl (G.2.2, 16, .inl (aN to))), (mR, .inl (G.2.2, 3200, .inl (aN rw9))), (mZ, .inl (G.2.2, 200, .inl (aN sz9))), (mS, .inl (G.2.2, 200, .inl (aN st9))), (mH, .inl (G.2.2, 200, .inl (aN hs9))), (mN, .inl (G.2.2, 16, .inl (aN nw9)))]) cx hK hA w hl lk_X7_55 (c_X7_lies l G v.toInt64 (lN 0) (((nI mm9) - (nI 1)).toInt64) ) ⟨Nat.le_of_ble_eq_true rfl, Nat.le_of_ble_eq_true rfl⟩ [] [0, 1, 2, 3, 4, 5, 6, 7] rfl rfl (by decide) (by decide) (by decide) rfl (Nat.le_of_ble_eq_true rfl) dX7_log_17 ⟨Nat.le_refl _, Nat.le_refl _⟩ rfl (fun r w1_ H_ locs_ hp w => ?_)
    obtain ⟨rfl, rfl⟩ := hp
    have w : ga_wd G A_ s_ H_ locs_ [(aM, .inr (7, [.ref mT, .int (nI tl), .int (nI n), .int (nI k), .ref mF, .ref mO, .ref mC, .int (nI li), .int (nI fa), .int (nI mm9), .int (bI im9), .ref mR, .ref mZ, .ref mS, .ref mH, .int (bI ird), .int (bI itn), .int (nI lsz), .ref mL, .ref mN, .ref mX, .ref mY, .int (nI tu)])), (mF, .inl (G.2.2, 16, .inl (aN fr))), (mO, .inl (G.2.2, 16, .inl (aN to))), (mR, .inl (G.2.2, 3200, .inl (aN rw9))), (mZ, .inl (G.2.2, 200, .inl (aN sz9))), (mS, .inl (G.2.2, 200, .inl (aN st9))), (mH, .inl (G.2.2, 200, .inl (aN hs9))), (mN, .inl (G.2.2, 16, .inl (aN nw9)))] := ga_perm w [0, 1, 2, 3, 4, 5, 6, 7] (by decide) rfl
    refine W.eq (g2 := F0 m_ 20 ls [.int (bI (lsB v.toInt64 (lN 0) (((nI mm9) - (nI 1)).toInt64)))]) rfl ?_
    refine r_ifb_eq hx hb dX7_log_20 (tgt := 27) (by decide) (fun c20 => ?_) (fun c20 => ?_)
    · rw [lsB_in (by omega), hnc] at c20
      refine lv_iconst (v := (-1)) hx hb dX7_log_27 (by decide) ?_
      refine lv_goto (tgt := 37) hx hb dX7_log_28 (by decide) ?_
      exact ga_iret cx hr hlk w dX7_log_37 ⟨Nat.le_refl _, Nat.le_refl _⟩ (⟨mm9, im9, rw9, sz9, st9, hs9, nw9, hR9, ga_rv (by rw [sLog, if_neg htm, if_neg (by rw [c20]; decide)]), rfl⟩)
    · rw [lsB_in (by omega)] at c20
      have hiw : inB v (WL n k fr to).length = true := by rw [← hnc]; exact c20
      obtain ⟨j, hj, rfl⟩ := inB_of (by omega) c20
      have hw9 := hr9.2.2.2.2 j hj
      refine lv_iload_n hx hb dX7_log_23 rfl (lv_at hl 2 rfl) ?_
      refine lv_if_ge hx hb dX7_log_24 (tgt := 31) (by decide) (fun c24 => ?_) (fun c24 => ?_)
      · refine lv_aload_n hx hb dX7_log_31 rfl (lv_at hl 0 rfl) ?_
        refine lv_iload_n hx hb dX7_log_32 rfl (lv_at hl 1 rfl) ?_
        refine lv_iload_n hx hb dX7_log_33 rfl (lv_at hl 2 rfl) ?_
        refine ga_callV (rest := []) (wr := [(mF, .inl (G.2.2, 16, .inl (aN fr))), (mO, .inl (G.2.2, 16, .inl (aN to))), (mS, .inl (G.2.2, 200, .inl (aN st9))), (mH, .inl (G.2.2, 200, .inl (aN hs9))), (mN, .inl (G.2.2, 16, .inl (aN nw9)))]) cx hK hA w hl lk_X7_100 (c_X7_logOf l G aM mT mF mO mC mR mZ mS mH mL mN mX mY tl n k li fa mm9 im9 ird itn lsz tu sz9 rw9 j x (by omega) (by rw [hw9.2.1]; exact hw9.1) (fun u hu => by rw [hw9.2.1] at hu; rw [hw9.2.2.2.2 u hu]; exact path16 hF (by omega) hu) (hli)) ⟨Nat.le_of_ble_eq_true rfl, Nat.le_of_ble_eq_true rfl⟩ [0, 3, 4] [1, 2, 5, 6, 7] rfl rfl (by decide) (by decide) (by decide) 0 7 rfl rfl rfl rfl (Nat.le_of_ble_eq_true rfl) dX7_log_34 ⟨Nat.le_refl _, Nat.le_refl _⟩ rfl (fun r w1_ H_ locs_ hp w => ?_)
        obtain ⟨rfl, rfl⟩ := hp
        have w : ga_wd G A_ s_ H_ locs_ [(aM, .inr (7, [.ref mT, .int (nI tl), .int (nI n), .int (nI k), .ref mF, .ref mO, .ref mC, .int (nI li), .int (nI fa), .int (nI mm9), .int (bI im9), .ref mR, .ref mZ, .ref mS, .ref mH, .int (bI ird), .int (bI itn), .int (nI lsz), .ref mL, .ref mN, .ref mX, .ref mY, .int (nI tu)])), (mF, .inl (G.2.2, 16, .inl (aN fr))), (mO, .inl (G.2.2, 16, .inl (aN to))), (mR, .inl (G.2.2, 3200, .inl (aN rw9))), (mZ, .inl (G.2.2, 200, .inl (aN sz9))), (mS, .inl (G.2.2, 200, .inl (aN st9))), (mH, .inl (G.2.2, 200, .inl (aN hs9))), (mN, .inl (G.2.2, 16, .inl (aN nw9)))] := ga_perm w [5, 0, 1, 6, 7, 2, 3, 4] (by decide) rfl
        refine W.eq (g2 := F0 m_ 37 ls [.int (nth (lgl li rw9 sz9 j) x)]) rfl ?_
        exact ga_iret cx hr hlk w dX7_log_37 ⟨Nat.le_refl _, Nat.le_refl _⟩ (⟨mm9, im9, rw9, sz9, st9, hs9, nw9, hR9, ga_rv (by rw [sLog, if_neg htm, if_pos hiw, nI_clamp (by omega), lgl_eq hR9 hj]), rfl⟩)
      · refine lv_iconst (v := (-1)) hx hb dX7_log_27 (by decide) ?_
        refine lv_goto (tgt := 37) hx hb dX7_log_28 (by decide) ?_
        exact ga_iret cx hr hlk w dX7_log_37 ⟨Nat.le_refl _, Nat.le_refl _⟩ (⟨mm9, im9, rw9, sz9, st9, hs9, nw9, hR9, ga_rv (by rw [sLog, if_neg htm, if_pos hiw, nth_neg (Int32.not_le.mp c24)]), rfl⟩)

set_option maxHeartbeats 4000000 in
set_option maxRecDepth 100000 in
theorem c_X7_areParted (l : Launch) (G : ga_G) (aM : Nat) (mT : Nat) (mF : Nat) (mO : Nat) (mC : Nat) (mR : Nat) (mZ : Nat) (mS : Nat) (mH : Nat) (mL : Nat) (mN : Nat) (mX : Nat) (mY : Nat) (tl : Nat) (n : Nat) (k : Nat) (li : Nat) (fa : Nat) (mm : Nat) (im : Bool) (ird : Bool) (itn : Bool) (lsz : Nat) (tu : Nat) (st : Nat → Nat) (i : Nat) (j : Nat) (y : Nat) (hi : i < 200) (hj : j < 200) (hy : y < 2 ^ 31) : ga_M l G yX7_areParted cX7_areParted 4 (Option.some Jvm.ClassFile.FieldType.boolean) 0 0 0 0 [.ref aM, .int (nI i), .int (nI j), .int (nI y)] [(aM, .inr (7, [.ref mT, .int (nI tl), .int (nI n), .int (nI k), .ref mF, .ref mO, .ref mC, .int (nI li), .int (nI fa), .int (nI mm), .int (bI im), .ref mR, .ref mZ, .ref mS, .ref mH, .int (bI ird), .int (bI itn), .int (nI lsz), .ref mL, .ref mN, .ref mX, .ref mY, .int (nI tu)])), (mS, .inl (G.2.2, 200, .inl (aN st)))] (fun r w => r = some (.int (bI (!decide (st i &&& y = st j &&& y)))) ∧ w = [(aM, .inr (7, [.ref mT, .int (nI tl), .int (nI n), .int (nI k), .ref mF, .ref mO, .ref mC, .int (nI li), .int (nI fa), .int (nI mm), .int (bI im), .ref mR, .ref mZ, .ref mS, .ref mH, .int (bI ird), .int (bI itn), .int (nI lsz), .ref mL, .ref mN, .ref mX, .ref mY, .int (nI tu)])), (mS, .inl (G.2.2, 200, .inl (aN st)))]) := by
  refine ga_M.intro (by decide) (Nat.le_of_ble_eq_true rfl) (fun p_ e_ s_ m_ below meth c_ A_ H_ locs_ ls cx hr hlk hnm hA hK hl w => ?_)
  have hx := cx.1
  have hb := cx.2.1
  have hl : lv_has ls 4 [(0, .ref aM), (1, .int (nI i)), (2, .int (nI j)), (3, .int (nI y))] := hl
  refine lv_aload_n hx hb dX7_areParted_0 rfl (lv_at hl 0 rfl) ?_
  refine gf_X7_33 cx hK w 0 rfl rfl dX7_areParted_1 ?_
  refine lv_iload_n hx hb dX7_areParted_4 rfl (lv_at hl 1 rfl) ?_
  refine r_ialdN hx hb hK w 1 rfl dX7_areParted_5 (by omega) (by decide) ?_
  refine lv_iload_n hx hb dX7_areParted_6 rfl (lv_at hl 3 rfl) ?_
  refine r_iand hx hb dX7_areParted_7 ?_
  refine lv_aload_n hx hb dX7_areParted_8 rfl (lv_at hl 0 rfl) ?_
  refine gf_X7_33 cx hK w 0 rfl rfl dX7_areParted_9 ?_
  refine lv_iload_n hx hb dX7_areParted_12 rfl (lv_at hl 2 rfl) ?_
  refine r_ialdN hx hb hK w 1 rfl dX7_areParted_13 (by omega) (by decide) ?_
  refine lv_iload_n hx hb dX7_areParted_14 rfl (lv_at hl 3 rfl) ?_
  refine r_iand hx hb dX7_areParted_15 ?_
  refine r_icmp_eq hx hb dX7_areParted_16 (tgt := 23) (by decide) (andR_lt hy) (andR_lt hy) (fun c16 => ?_) (fun c16 => ?_)
  · refine lv_iconst (v := nI 0) hx hb dX7_areParted_23 (by decide) ?_
    exact ga_zret cx hr hlk w rfl dX7_areParted_24 ⟨Nat.le_refl _, Nat.le_refl _⟩ (⟨ga_r0 (by simp [c16]), rfl⟩)
  · refine lv_iconst (v := nI 1) hx hb dX7_areParted_19 (by decide) ?_
    refine lv_goto (tgt := 24) hx hb dX7_areParted_20 (by decide) ?_
    exact ga_zret cx hr hlk w rfl dX7_areParted_24 ⟨Nat.le_refl _, Nat.le_refl _⟩ (⟨ga_r1 (by simp [c16]), rfl⟩)

set_option maxHeartbeats 4000000 in
set_option maxRecDepth 100000 in
theorem c_X7_firstOf (l : Launch) (G : ga_G) (aM : Nat) (mT : Nat) (mF : Nat) (mO : Nat) (mC : Nat) (mR : Nat) (mZ : Nat) (mS : Nat) (mH : Nat) (mL : Nat) (mN : Nat) (mX : Nat) (mY : Nat) (tl : Nat) (n : Nat) (k : Nat) (li : Nat) (fa : Nat) (mm : Nat) (im : Bool) (ird : Bool) (itn : Bool) (lsz : Nat) (tu : Nat) (st : Nat → Nat) (i : Nat) (y : Nat) (hi : i < 200) (hy : y < 2 ^ 31) : ga_M l G yX7_firstOf cX7_firstOf 4 (Option.some Jvm.ClassFile.FieldType.int) 1 23 0 0 [.ref aM, .int (nI i), .int (nI y)] [(aM, .inr (7, [.ref mT, .int (nI tl), .int (nI n), .int (nI k), .ref mF, .ref mO, .ref mC, .int (nI li), .int (nI fa), .int (nI mm), .int (bI im), .ref mR, .ref mZ, .ref mS, .ref mH, .int (bI ird), .int (bI itn), .int (nI lsz), .ref mL, .ref mN, .ref mX, .ref mY, .int (nI tu)])), (mS, .inl (G.2.2, 200, .inl (aN st)))] (fun r w => r = some (.int (nI (lfst (like st y i) i))) ∧ w = [(aM, .inr (7, [.ref mT, .int (nI tl), .int (nI n), .int (nI k), .ref mF, .ref mO, .ref mC, .int (nI li), .int (nI fa), .int (nI mm), .int (bI im), .ref mR, .ref mZ, .ref mS, .ref mH, .int (bI ird), .int (bI itn), .int (nI lsz), .ref mL, .ref mN, .ref mX, .ref mY, .int (nI tu)])), (mS, .inl (G.2.2, 200, .inl (aN st)))]) := by
  refine ga_M.intro (by decide) (Nat.le_of_ble_eq_true rfl) (fun p_ e_ s_ m_ below meth c_ A_ H_ locs_ ls cx hr hlk hnm hA hK hl w => ?_)
  have hx := cx.1
  have hb := cx.2.1
  have hl : lv_has ls 4 [(0, .ref aM), (1, .int (nI i)), (2, .int (nI y))] := hl
  refine lv_iconst (v := nI 0) hx hb dX7_firstOf_0 (by decide) ?_
  refine lv_istore_n (lv' := [(3, .int (nI 0)), (0, .ref aM), (1, .int (nI i)), (2, .int (nI y))]) hx hb dX7_firstOf_1 rfl hl (by decide) rfl (fun ls hl => ?_)
  have loop2 : ∀ (n_ : Nat) (j : Nat) (hj : j ≤ i) (hbf : ∀ u, u < j → like st y i u = false) (hm : i + 1 - j < n_) (H_ : Heap) (locs_ : List Loc) (ls : Array Slot) (hl : lv_has ls 4 [(3, .int (nI j)), (0, .ref aM), (1, .int (nI i)), (2, .int (nI y))]) (w : ga_wd G A_ s_ H_ locs_ [(aM, .inr (7, [.ref mT, .int (nI tl), .int (nI n), .int (nI k), .ref mF, .ref mO, .ref mC, .int (nI li), .int (nI fa), .int (nI mm), .int (bI im), .ref mR, .ref mZ, .ref mS, .ref mH, .int (bI ird), .int (bI itn), .int (nI lsz), .ref mL, .ref mN, .ref mX, .ref mY, .int (nI tu)])), (mS, .inl (G.2.2, 200, .inl (aN st)))]), W p_ l e_ { frames := 1, cells := 0, slots := 0, locals := 23 } s_ m_ [.ref aM, .int (nI i), .int (nI y)].toArray below meth c_ H_ locs_ (0) (0) (MQ below (ga_Q G A_ (fun r w => r = some (.int (nI (lfst (like st y i) i))) ∧ w = [(aM, .inr (7, [.ref mT, .int (nI tl), .int (nI n), .int (nI k), .ref mF, .ref mO, .ref mC, .int (nI li), .int (nI fa), .int (nI mm), .int (bI im), .ref mR, .ref mZ, .ref mS, .ref mH, .int (bI ird), .int (bI itn), .int (nI lsz), .ref mL, .ref mN, .ref mX, .ref mY, .int (nI tu)])), (mS, .inl (G.2.2, 200, .inl (aN st)))])) [.ref aM, .int (nI i), .int (nI y)].toArray s_ 0 0 A_) (F0 m_ 2 ls []) := by
    intro n_
    induction n_ with
    | zero => intro j hj hbf hm; exact absurd hm (Nat.not_lt_zero _)
    | succ n_ ih2 =>
      intro j hj hbf hm2 H_ locs_ ls hl w
      refine lv_aload_n hx hb dX7_firstOf_2 rfl (lv_at hl 1 rfl) ?_
      refine lv_iload_n hx hb dX7_firstOf_3 rfl (lv_at hl 2 rfl) ?_
      refine lv_iload_n hx hb dX7_firstOf_4 rfl (lv_at hl 0 rfl) ?_
      refine lv_iload_n hx hb dX7_firstOf_5 rfl (lv_at hl 3 rfl) ?_
      refine ga_callV (rest := []) (wr := []) cx hK hA w hl lk_X7_104 (c_X7_areParted l G aM mT mF mO mC mR mZ mS mH mL mN mX mY tl n k li fa mm im ird itn lsz tu st i j y (by omega) (by omega) (by omega)) ⟨Nat.le_of_ble_eq_true rfl, Nat.le_of_ble_eq_true rfl⟩ [0, 1] [] rfl rfl (by decide) (by decide) (by decide) 0 7 rfl rfl rfl rfl (Nat.le_of_ble_eq_true rfl) dX7_firstOf_6 ⟨Nat.le_refl _, Nat.le_refl _⟩ rfl (fun r w1_ H_ locs_ hp w => ?_)
      obtain ⟨rfl, rfl⟩ := hp
      have w : ga_wd G A_ s_ H_ locs_ [(aM, .inr (7, [.ref mT, .int (nI tl), .int (nI n), .int (nI k), .ref mF, .ref mO, .ref mC, .int (nI li), .int (nI fa), .int (nI mm), .int (bI im), .ref mR, .ref mZ, .ref mS, .ref mH, .int (bI ird), .int (bI itn), .int (nI lsz), .ref mL, .ref mN, .ref mX, .ref mY, .int (nI tu)])), (mS, .inl (G.2.2, 200, .inl (aN st)))] := ga_perm w [0, 1] (by decide) rfl
      refine W.eq (g2 := F0 m_ 9 ls [.int (bI (!decide (st i &&& y = st j &&& y)))]) rfl ?_
      refine r_ifb_eq hx hb dX7_firstOf_9 (tgt := 18) (by decide) (fun c9 => ?_) (fun c9 => ?_)
      · refine lv_iload_n hx hb dX7_firstOf_18 rfl (lv_at hl 0 rfl) ?_
        exact ga_iret cx hr hlk w dX7_firstOf_19 ⟨Nat.le_refl _, Nat.le_refl _⟩ (⟨ga_rv (congrArg nI (by rcases Nat.lt_or_ge j i with h | h; (exact (lfst_lt h (by unfold like; have h9 : decide (st i &&& y = st j &&& y) = true := (by simpa using c9); exact decide_eq_true (of_decide_eq_true h9).symm) hbf).symm); (rw [show j = i by omega] at hbf ⊢; exact (lfst_no hbf).symm))), rfl⟩)
      · have hji : j < i := by rcases Nat.lt_or_ge j i with h | h; exact h; (rw [show j = i by omega] at c9; simp at c9)
        refine r_iinc (d := 1) (k := 0) (lv' := [(3, .int (nI (j + 1))), (0, .ref aM), (1, .int (nI i)), (2, .int (nI y))]) hx hb dX7_firstOf_12 hl rfl (by decide) (by decide) rfl (fun ls hl => ?_)
        refine lv_goto (tgt := 2) hx hb dX7_firstOf_15 (by decide) ?_
        exact ih2 (j + 1) (by rcases Nat.lt_or_ge j i with h | h; omega; (rw [show j = i by omega] at c9; simp at c9)) (fun u hu => by rcases Nat.lt_or_ge u j with h | h; exact hbf u h; (rw [show u = j by omega]; unfold like; refine decide_eq_false (fun hq => ?_); rw [hq] at c9; simp at c9)) (by omega) _ _ _ (lv_sub hl [0, 1, 2, 3] rfl) w
  exact loop2 _ 0 (by omega) (fun u h => absurd h (Nat.not_lt_zero _)) (Nat.lt_succ_self _) _ _ _ (lv_sub hl [0, 1, 2, 3] rfl) w

set_option maxHeartbeats 4000000 in
set_option maxRecDepth 100000 in
theorem c_X7_heapsBy (l : Launch) (G : ga_G) (aM : Nat) (mT : Nat) (mF : Nat) (mO : Nat) (mC : Nat) (mR : Nat) (mZ : Nat) (mS : Nat) (mH : Nat) (mL : Nat) (mN : Nat) (mX : Nat) (mY : Nat) (tl : Nat) (n : Nat) (k : Nat) (li : Nat) (fa : Nat) (mm : Nat) (im : Bool) (ird : Bool) (itn : Bool) (lsz : Nat) (tu : Nat) (st : Nat → Nat) (y : Nat) (hmm : mm ≤ 200) (hy : y < 2 ^ 31) : ga_M l G yX7_heapsBy cX7_heapsBy 4 (Option.some Jvm.ClassFile.FieldType.int) 2 46 0 0 [.ref aM, .int (nI y)] [(aM, .inr (7, [.ref mT, .int (nI tl), .int (nI n), .int (nI k), .ref mF, .ref mO, .ref mC, .int (nI li), .int (nI fa), .int (nI mm), .int (bI im), .ref mR, .ref mZ, .ref mS, .ref mH, .int (bI ird), .int (bI itn), .int (nI lsz), .ref mL, .ref mN, .ref mX, .ref mY, .int (nI tu)])), (mS, .inl (G.2.2, 200, .inl (aN st)))] (fun r w => r = some (.int (nI (hpsN st y mm))) ∧ w = [(aM, .inr (7, [.ref mT, .int (nI tl), .int (nI n), .int (nI k), .ref mF, .ref mO, .ref mC, .int (nI li), .int (nI fa), .int (nI mm), .int (bI im), .ref mR, .ref mZ, .ref mS, .ref mH, .int (bI ird), .int (bI itn), .int (nI lsz), .ref mL, .ref mN, .ref mX, .ref mY, .int (nI tu)])), (mS, .inl (G.2.2, 200, .inl (aN st)))]) := by
  refine ga_M.intro (by decide) (Nat.le_of_ble_eq_true rfl) (fun p_ e_ s_ m_ below meth c_ A_ H_ locs_ ls cx hr hlk hnm hA hK hl w => ?_)
  have hx := cx.1
  have hb := cx.2.1
  have hl : lv_has ls 4 [(0, .ref aM), (1, .int (nI y))] := hl
  refine lv_iconst (v := nI 0) hx hb dX7_heapsBy_0 (by decide) ?_
  refine lv_istore_n (lv' := [(2, .int (nI 0)), (0, .ref aM), (1, .int (nI y))]) hx hb dX7_heapsBy_1 rfl hl (by decide) rfl (fun ls hl => ?_)
  refine lv_iconst (v := nI 0) hx hb dX7_heapsBy_2 (by decide) ?_
  refine lv_istore_n (lv' := [(3, .int (nI 0)), (2, .int (nI 0)), (0, .ref aM), (1, .int (nI y))]) hx hb dX7_heapsBy_3 rfl hl (by decide) rfl (fun ls hl => ?_)
  have loop4 : ∀ (n_ : Nat) (i : Nat) (t : Nat) (hi : i ≤ mm) (ht : t = (fl (fun i => decide (lfst (like st y i) i = i)) i).length) (hm : mm - i < n_) (H_ : Heap) (locs_ : List Loc) (ls : Array Slot) (hl : lv_has ls 4 [(3, .int (nI i)), (2, .int (nI t)), (0, .ref aM), (1, .int (nI y))]) (w : ga_wd G A_ s_ H_ locs_ [(aM, .inr (7, [.ref mT, .int (nI tl), .int (nI n), .int (nI k), .ref mF, .ref mO, .ref mC, .int (nI li), .int (nI fa), .int (nI mm), .int (bI im), .ref mR, .ref mZ, .ref mS, .ref mH, .int (bI ird), .int (bI itn), .int (nI lsz), .ref mL, .ref mN, .ref mX, .ref mY, .int (nI tu)])), (mS, .inl (G.2.2, 200, .inl (aN st)))]), W p_ l e_ { frames := 2, cells := 0, slots := 0, locals := 46 } s_ m_ [.ref aM, .int (nI y)].toArray below meth c_ H_ locs_ (0) (0) (MQ below (ga_Q G A_ (fun r w => r = some (.int (nI (hpsN st y mm))) ∧ w = [(aM, .inr (7, [.ref mT, .int (nI tl), .int (nI n), .int (nI k), .ref mF, .ref mO, .ref mC, .int (nI li), .int (nI fa), .int (nI mm), .int (bI im), .ref mR, .ref mZ, .ref mS, .ref mH, .int (bI ird), .int (bI itn), .int (nI lsz), .ref mL, .ref mN, .ref mX, .ref mY, .int (nI tu)])), (mS, .inl (G.2.2, 200, .inl (aN st)))])) [.ref aM, .int (nI y)].toArray s_ 0 0 A_) (F0 m_ 4 ls []) := by
    intro n_
    induction n_ with
    | zero => intro i t hi ht hm; exact absurd hm (Nat.not_lt_zero _)
    | succ n_ ih4 =>
      intro i t hi ht hm4 H_ locs_ ls hl w
      refine lv_iload_n hx hb dX7_heapsBy_4 rfl (lv_at hl 0 rfl) ?_
      refine lv_aload_n hx hb dX7_heapsBy_5 rfl (lv_at hl 2 rfl) ?_
      refine gf_X7_83 cx hK w 0 rfl rfl dX7_heapsBy_6 ?_
      refine r_icmp_ge hx hb dX7_heapsBy_9 (tgt := 36) (by decide) (by omega) (by omega) (fun c9 => ?_) (fun c9 => ?_)
      · refine lv_iload_n hx hb dX7_heapsBy_36 rfl (lv_at hl 1 rfl) ?_
        exact ga_iret cx hr hlk w dX7_heapsBy_37 ⟨Nat.le_refl _, Nat.le_refl _⟩ (⟨ga_rv (by rw [ht, show i = mm by omega]; rfl), rfl⟩)
      · refine lv_iload_n hx hb dX7_heapsBy_12 rfl (lv_at hl 1 rfl) ?_
        refine lv_aload_n hx hb dX7_heapsBy_13 rfl (lv_at hl 2 rfl) ?_
        refine lv_iload_n hx hb dX7_heapsBy_14 rfl (lv_at hl 0 rfl) ?_
        refine lv_iload_n hx hb dX7_heapsBy_15 rfl (lv_at hl 3 rfl) ?_
        refine ga_callV (rest := [.int (nI t)]) (wr := []) cx hK hA w hl lk_X7_108 (c_X7_firstOf l G aM mT mF mO mC mR mZ mS mH mL mN mX mY tl n k li fa mm im ird itn lsz tu st i y (by omega) (by omega)) ⟨Nat.le_of_ble_eq_true rfl, Nat.le_of_ble_eq_true rfl⟩ [0, 1] [] rfl rfl (by decide) (by decide) (by decide) 0 7 rfl rfl rfl rfl (Nat.le_of_ble_eq_true rfl) dX7_heapsBy_16 ⟨Nat.le_refl _, Nat.le_refl _⟩ rfl (fun r w1_ H_ locs_ hp w => ?_)
        obtain ⟨rfl, rfl⟩ := hp
        have w : ga_wd G A_ s_ H_ locs_ [(aM, .inr (7, [.ref mT, .int (nI tl), .int (nI n), .int (nI k), .ref mF, .ref mO, .ref mC, .int (nI li), .int (nI fa), .int (nI mm), .int (bI im), .ref mR, .ref mZ, .ref mS, .ref mH, .int (bI ird), .int (bI itn), .int (nI lsz), .ref mL, .ref mN, .ref mX, .ref mY, .int (nI tu)])), (mS, .inl (G.2.2, 200, .inl (aN st)))] := ga_perm w [0, 1] (by decide) rfl
        refine W.eq (g2 := F0 m_ 19 ls [.int (nI (lfst (like st y i) i)), .int (nI t)]) rfl ?_
        refine lv_iload_n hx hb dX7_heapsBy_19 rfl (lv_at hl 0 rfl) ?_
        refine r_icmp_ne hx hb dX7_heapsBy_20 (tgt := 27) (by decide) (by have := (lfst_sp (like st y i) i).1; omega) (by omega) (fun c20 => ?_) (fun c20 => ?_)
        · refine lv_iconst (v := nI 0) hx hb dX7_heapsBy_27 (by decide) ?_
          refine r_iadd hx hb dX7_heapsBy_28 ?_
          refine lv_istore_n (lv' := [(2, .int (nI (t + 0))), (3, .int (nI i)), (0, .ref aM), (1, .int (nI y))]) hx hb dX7_heapsBy_29 rfl hl (by decide) rfl (fun ls hl => ?_)
          refine r_iinc (d := 1) (k := 1) (lv' := [(3, .int (nI (i + 1))), (2, .int (nI (t + 0))), (0, .ref aM), (1, .int (nI y))]) hx hb dX7_heapsBy_30 hl rfl (by decide) (by decide) rfl (fun ls hl => ?_)
          refine lv_goto (tgt := 4) hx hb dX7_heapsBy_33 (by decide) ?_
          exact ih4 (i + 1) (t + 0) (by omega) (by rw [fl_f (P := fun i => decide (lfst (like st y i) i = i)) (by simp [c20])]; exact ht) (by omega) _ _ _ (lv_sub hl [0, 1, 2, 3] rfl) w
        · refine lv_iconst (v := nI 1) hx hb dX7_heapsBy_23 (by decide) ?_
          refine lv_goto (tgt := 28) hx hb dX7_heapsBy_24 (by decide) ?_
          refine r_iadd hx hb dX7_heapsBy_28 ?_
          refine lv_istore_n (lv' := [(2, .int (nI (t + 1))), (3, .int (nI i)), (0, .ref aM), (1, .int (nI y))]) hx hb dX7_heapsBy_29 rfl hl (by decide) rfl (fun ls hl => ?_)
          refine r_iinc (d := 1) (k := 1) (lv' := [(3, .int (nI (i + 1))), (2, .int (nI (t + 1))), (0, .ref aM), (1, .int (nI y))]) hx hb dX7_heapsBy_30 hl rfl (by decide) (by decide) rfl (fun ls hl => ?_)
          refine lv_goto (tgt := 4) hx hb dX7_heapsBy_33 (by decide) ?_
          exact ih4 (i + 1) (t + 1) (by omega) (by rw [fl_t (P := fun i => decide (lfst (like st y i) i = i)) (by simp [c20]), List.length_append, ← ht]; rfl) (by omega) _ _ _ (lv_sub hl [0, 1, 2, 3] rfl) w
  exact loop4 _ 0 0 (by omega) (rfl) (Nat.lt_succ_self _) _ _ _ (lv_sub hl [0, 1, 2, 3] rfl) w

set_option maxHeartbeats 4000000 in
set_option maxRecDepth 100000 in
theorem c_X7_heaps (l : Launch) (G : ga_G) (aM : Nat) (mT : Nat) (mF : Nat) (mO : Nat) (mC : Nat) (mR : Nat) (mZ : Nat) (mS : Nat) (mH : Nat) (mL : Nat) (mN : Nat) (mX : Nat) (mY : Nat) (tl : Nat) (n : Nat) (k : Nat) (li : Nat) (fa : Nat) (mm : Nat) (im : Bool) (ird : Bool) (itn : Bool) (lsz : Nat) (tu : Nat) (fr : Nat → Nat) (to : Nat → Nat) (ct : Nat → Nat) (sz : Nat → Nat) (st : Nat → Nat) (hs : Nat → Nat) (rw : Nat → Nat) (nw : Nat → Nat) (hF : Flow n k fr to ct) (hli : li < 65536) : ga_M l G yX7_heaps cX7_heaps 1 (Option.some Jvm.ClassFile.FieldType.int) 3 69 0 0 [.ref aM] [(aM, .inr (7, [.ref mT, .int (nI tl), .int (nI n), .int (nI k), .ref mF, .ref mO, .ref mC, .int (nI li), .int (nI fa), .int (nI mm), .int (bI im), .ref mR, .ref mZ, .ref mS, .ref mH, .int (bI ird), .int (bI itn), .int (nI lsz), .ref mL, .ref mN, .ref mX, .ref mY, .int (nI tu)])), (mF, .inl (G.2.2, 16, .inl (aN fr))), (mO, .inl (G.2.2, 16, .inl (aN to))), (mR, .inl (G.2.2, 3200, .inl (aN rw))), (mZ, .inl (G.2.2, 200, .inl (aN sz))), (mS, .inl (G.2.2, 200, .inl (aN st))), (mH, .inl (G.2.2, 200, .inl (aN hs))), (mN, .inl (G.2.2, 16, .inl (aN nw)))] (fun r w => ∃ (mm2 : Nat), ∃ (im2 : Bool), ∃ (rw2 : Nat → Nat), ∃ (sz2 : Nat → Nat), ∃ (st2 : Nat → Nat), ∃ (hs2 : Nat → Nat), ∃ (nw2 : Nat → Nat), (RepM to fa (WL n k fr to) mm2 im2 rw2 sz2 st2 hs2) ∧ r = some (.int (sHeaps (WL n k fr to) li)) ∧ w = [(aM, .inr (7, [.ref mT, .int (nI tl), .int (nI n), .int (nI k), .ref mF, .ref mO, .ref mC, .int (nI li), .int (nI fa), .int (nI mm2), .int (bI im2), .ref mR, .ref mZ, .ref mS, .ref mH, .int (bI ird), .int (bI itn), .int (nI lsz), .ref mL, .ref mN, .ref mX, .ref mY, .int (nI tu)])), (mF, .inl (G.2.2, 16, .inl (aN fr))), (mO, .inl (G.2.2, 16, .inl (aN to))), (mR, .inl (G.2.2, 3200, .inl (aN rw2))), (mZ, .inl (G.2.2, 200, .inl (aN sz2))), (mS, .inl (G.2.2, 200, .inl (aN st2))), (mH, .inl (G.2.2, 200, .inl (aN hs2))), (mN, .inl (G.2.2, 16, .inl (aN nw2)))]) := by
  refine ga_M.intro (by decide) (Nat.le_of_ble_eq_true rfl) (fun p_ e_ s_ m_ below meth c_ A_ H_ locs_ ls cx hr hlk hnm hA hK hl w => ?_)
  have hx := cx.1
  have hb := cx.2.1
  have hl : lv_has ls 1 [(0, .ref aM)] := hl
  refine lv_aload_n hx hb dX7_heaps_0 rfl (lv_at hl 0 rfl) ?_
  refine ga_callV (rest := []) (wr := []) cx hK hA w hl lk_X7_96 (c_X7_isTooMany l G aM mT mF mO mC mR mZ mS mH mL mN mX mY tl n k li fa mm im ird itn lsz tu fr to ct sz st hs rw nw (hF)) ⟨Nat.le_of_ble_eq_true rfl, Nat.le_of_ble_eq_true rfl⟩ [0, 1, 2, 3, 4, 5, 6, 7] [] rfl rfl (by decide) (by decide) (by decide) 0 7 rfl rfl rfl rfl (Nat.le_of_ble_eq_true rfl) dX7_heaps_1 ⟨Nat.le_refl _, Nat.le_refl _⟩ rfl (fun r w1_ H_ locs_ hp w => ?_)
  obtain ⟨mm9, im9, rw9, sz9, st9, hs9, nw9, hR9, rfl, rfl⟩ := hp
  have w : ga_wd G A_ s_ H_ locs_ [(aM, .inr (7, [.ref mT, .int (nI tl), .int (nI n), .int (nI k), .ref mF, .ref mO, .ref mC, .int (nI li), .int (nI fa), .int (nI mm9), .int (bI im9), .ref mR, .ref mZ, .ref mS, .ref mH, .int (bI ird), .int (bI itn), .int (nI lsz), .ref mL, .ref mN, .ref mX, .ref mY, .int (nI tu)])), (mF, .inl (G.2.2, 16, .inl (aN fr))), (mO, .inl (G.2.2, 16, .inl (aN to))), (mR, .inl (G.2.2, 3200, .inl (aN rw9))), (mZ, .inl (G.2.2, 200, .inl (aN sz9))), (mS, .inl (G.2.2, 200, .inl (aN st9))), (mH, .inl (G.2.2, 200, .inl (aN hs9))), (mN, .inl (G.2.2, 16, .inl (aN nw9)))] := ga_perm w [0, 1, 2, 3, 4, 5, 6, 7] (by decide) rfl
  refine W.eq (g2 := F0 m_ 4 ls [.int (bI im9)]) rfl ?_
  have hr9 := RepM_f hR9
  refine r_ifb_eq hx hb dX7_heaps_4 (tgt := 12) (by decide) (fun c4 => ?_) (fun c4 => ?_)
  · have htm : ¬ 200 < (WL n k fr to).length := of_decide_eq_false (by rw [← hr9.2.1]; exact c4)
    have hnc := hr9.2.2.1 c4
    refine lv_aload_n hx hb dX7_heaps_12 rfl (lv_at hl 0 rfl) ?_
    refine lv_aload_n hx hb dX7_heaps_13 rfl (lv_at hl 0 rfl) ?_
    refine gf_X7_63 cx hK w 0 rfl rfl dX7_heaps_14 ?_
    refine ga_callV (rest := []) (wr := [(mF, .inl (G.2.2, 16, .inl (aN fr))), (mO, .inl (G.2.2, 16, .inl (aN to))), (mR, .inl (G.2.2, 3200, .inl (aN rw9))), (mZ, .inl (G.2.2, 200, .inl (aN sz9))), (mH, .inl (G.2.2, 200, .inl (aN hs9))), (mN, .inl (G.2.2, 16, .inl (aN nw9)))]) cx hK hA w hl lk_X7_111 (c_X7_heapsBy l G aM mT mF mO mC mR mZ mS mH mL mN mX mY tl n k li fa mm9 im9 ird itn lsz tu st9 li (by omega) (by omega)) ⟨Nat.le_of_ble_eq_true rfl, Nat.le_of_ble_eq_true rfl⟩ [0, 5] [1, 2, 3, 4, 6, 7] rfl rfl (by decide) (by decide) (by decide) 0 7 rfl rfl rfl rfl (Nat.le_of_ble_eq_true rfl) dX7_heaps_17 ⟨Nat.le_refl _, Nat.le_refl _⟩ rfl (fun r w1_ H_ locs_ hp w => ?_)
    obtain ⟨rfl, rfl⟩ := hp
    have w : ga_wd G A_ s_ H_ locs_ [(aM, .inr (7, [.ref mT, .int (nI tl), .int (nI n), .int (nI k), .ref mF, .ref mO, .ref mC, .int (nI li), .int (nI fa), .int (nI mm9), .int (bI im9), .ref mR, .ref mZ, .ref mS, .ref mH, .int (bI ird), .int (bI itn), .int (nI lsz), .ref mL, .ref mN, .ref mX, .ref mY, .int (nI tu)])), (mF, .inl (G.2.2, 16, .inl (aN fr))), (mO, .inl (G.2.2, 16, .inl (aN to))), (mR, .inl (G.2.2, 3200, .inl (aN rw9))), (mZ, .inl (G.2.2, 200, .inl (aN sz9))), (mS, .inl (G.2.2, 200, .inl (aN st9))), (mH, .inl (G.2.2, 200, .inl (aN hs9))), (mN, .inl (G.2.2, 16, .inl (aN nw9)))] := ga_perm w [6, 0, 1, 2, 3, 7, 4, 5] (by decide) rfl
    refine W.eq (g2 := F0 m_ 20 ls [.int (nI (hpsN st9 li mm9))]) rfl ?_
    exact ga_iret cx hr hlk w dX7_heaps_20 ⟨Nat.le_refl _, Nat.le_refl _⟩ (⟨mm9, im9, rw9, sz9, st9, hs9, nw9, hR9, ga_rv (by rw [sHeaps, if_neg htm, ← hnc]; exact congrArg nI (hpsN_congr (fun u hu => (hr9.2.2.2.2 u hu).2.2.1))), rfl⟩)
  · have htm : 200 < (WL n k fr to).length := of_decide_eq_true (by rw [← hr9.2.1]; exact c4)
    refine lv_bipush (v := (-2)) hx hb dX7_heaps_7 (by decide) ?_
    refine lv_goto (tgt := 20) hx hb dX7_heaps_9 (by decide) ?_
    exact ga_iret cx hr hlk w dX7_heaps_20 ⟨Nat.le_refl _, Nat.le_refl _⟩ (⟨mm9, im9, rw9, sz9, st9, hs9, nw9, hR9, ga_rv (by rw [sHeaps, if_pos htm]), rfl⟩)

set_option maxHeartbeats 4000000 in
set_option maxRecDepth 100000 in
theorem c_X7_heap (l : Launch) (G : ga_G) (aM : Nat) (mT : Nat) (mF : Nat) (mO : Nat) (mC : Nat) (mR : Nat) (mZ : Nat) (mS : Nat) (mH : Nat) (mL : Nat) (mN : Nat) (mX : Nat) (mY : Nat) (tl : Nat) (n : Nat) (k : Nat) (li : Nat) (fa : Nat) (mm : Nat) (im : Bool) (ird : Bool) (itn : Bool) (lsz : Nat) (tu : Nat) (fr : Nat → Nat) (to : Nat → Nat) (ct : Nat → Nat) (sz : Nat → Nat) (st : Nat → Nat) (hs : Nat → Nat) (rw : Nat → Nat) (nw : Nat → Nat) (v : Int32) (hF : Flow n k fr to ct) (hli : li < 65536) : ga_M l G yX7_heap cX7_heap 2 (Option.some Jvm.ClassFile.FieldType.int) 3 65 0 0 [.ref aM, .int v] [(aM, .inr (7, [.ref mT, .int (nI tl), .int (nI n), .int (nI k), .ref mF, .ref mO, .ref mC, .int (nI li), .int (nI fa), .int (nI mm), .int (bI im), .ref mR, .ref mZ, .ref mS, .ref mH, .int (bI ird), .int (bI itn), .int (nI lsz), .ref mL, .ref mN, .ref mX, .ref mY, .int (nI tu)])), (mF, .inl (G.2.2, 16, .inl (aN fr))), (mO, .inl (G.2.2, 16, .inl (aN to))), (mR, .inl (G.2.2, 3200, .inl (aN rw))), (mZ, .inl (G.2.2, 200, .inl (aN sz))), (mS, .inl (G.2.2, 200, .inl (aN st))), (mH, .inl (G.2.2, 200, .inl (aN hs))), (mN, .inl (G.2.2, 16, .inl (aN nw)))] (fun r w => ∃ (mm2 : Nat), ∃ (im2 : Bool), ∃ (rw2 : Nat → Nat), ∃ (sz2 : Nat → Nat), ∃ (st2 : Nat → Nat), ∃ (hs2 : Nat → Nat), ∃ (nw2 : Nat → Nat), (RepM to fa (WL n k fr to) mm2 im2 rw2 sz2 st2 hs2) ∧ r = some (.int (sHeap (WL n k fr to) li v)) ∧ w = [(aM, .inr (7, [.ref mT, .int (nI tl), .int (nI n), .int (nI k), .ref mF, .ref mO, .ref mC, .int (nI li), .int (nI fa), .int (nI mm2), .int (bI im2), .ref mR, .ref mZ, .ref mS, .ref mH, .int (bI ird), .int (bI itn), .int (nI lsz), .ref mL, .ref mN, .ref mX, .ref mY, .int (nI tu)])), (mF, .inl (G.2.2, 16, .inl (aN fr))), (mO, .inl (G.2.2, 16, .inl (aN to))), (mR, .inl (G.2.2, 3200, .inl (aN rw2))), (mZ, .inl (G.2.2, 200, .inl (aN sz2))), (mS, .inl (G.2.2, 200, .inl (aN st2))), (mH, .inl (G.2.2, 200, .inl (aN hs2))), (mN, .inl (G.2.2, 16, .inl (aN nw2)))]) := by
  refine ga_M.intro (by decide) (Nat.le_of_ble_eq_true rfl) (fun p_ e_ s_ m_ below meth c_ A_ H_ locs_ ls cx hr hlk hnm hA hK hl w => ?_)
  have hx := cx.1
  have hb := cx.2.1
  have hl : lv_has ls 2 [(0, .ref aM), (1, .int v)] := hl
  refine lv_aload_n hx hb dX7_heap_0 rfl (lv_at hl 0 rfl) ?_
  refine ga_callV (rest := []) (wr := []) cx hK hA w hl lk_X7_96 (c_X7_isTooMany l G aM mT mF mO mC mR mZ mS mH mL mN mX mY tl n k li fa mm im ird itn lsz tu fr to ct sz st hs rw nw (hF)) ⟨Nat.le_of_ble_eq_true rfl, Nat.le_of_ble_eq_true rfl⟩ [0, 1, 2, 3, 4, 5, 6, 7] [] rfl rfl (by decide) (by decide) (by decide) 0 7 rfl rfl rfl rfl (Nat.le_of_ble_eq_true rfl) dX7_heap_1 ⟨Nat.le_refl _, Nat.le_refl _⟩ rfl (fun r w1_ H_ locs_ hp w => ?_)
  obtain ⟨mm9, im9, rw9, sz9, st9, hs9, nw9, hR9, rfl, rfl⟩ := hp
  have w : ga_wd G A_ s_ H_ locs_ [(aM, .inr (7, [.ref mT, .int (nI tl), .int (nI n), .int (nI k), .ref mF, .ref mO, .ref mC, .int (nI li), .int (nI fa), .int (nI mm9), .int (bI im9), .ref mR, .ref mZ, .ref mS, .ref mH, .int (bI ird), .int (bI itn), .int (nI lsz), .ref mL, .ref mN, .ref mX, .ref mY, .int (nI tu)])), (mF, .inl (G.2.2, 16, .inl (aN fr))), (mO, .inl (G.2.2, 16, .inl (aN to))), (mR, .inl (G.2.2, 3200, .inl (aN rw9))), (mZ, .inl (G.2.2, 200, .inl (aN sz9))), (mS, .inl (G.2.2, 200, .inl (aN st9))), (mH, .inl (G.2.2, 200, .inl (aN hs9))), (mN, .inl (G.2.2, 16, .inl (aN nw9)))] := ga_perm w [0, 1, 2, 3, 4, 5, 6, 7] (by decide) rfl
  refine W.eq (g2 := F0 m_ 4 ls [.int (bI im9)]) rfl ?_
  have hr9 := RepM_f hR9
  refine r_ifb_ne hx hb dX7_heap_4 (tgt := 23) (by decide) (fun c4 => ?_) (fun c4 => ?_)
  · have htm : 200 < (WL n k fr to).length := of_decide_eq_true (by rw [← hr9.2.1]; exact c4)
    refine lv_iconst (v := (-1)) hx hb dX7_heap_23 (by decide) ?_
    refine lv_goto (tgt := 36) hx hb dX7_heap_24 (by decide) ?_
    exact ga_iret cx hr hlk w dX7_heap_36 ⟨Nat.le_refl _, Nat.le_refl _⟩ (⟨mm9, im9, rw9, sz9, st9, hs9, nw9, hR9, ga_rv (by rw [sHeap, if_pos htm]), rfl⟩)
  · have htm : ¬ 200 < (WL n k fr to).length := of_decide_eq_false (by rw [← hr9.2.1]; exact c4)
    have hnc := hr9.2.2.1 c4
    refine lv_iload_n hx hb dX7_heap_7 rfl (lv_at hl 1 rfl) ?_
    refine lv_i2l hx hb dX7_heap_8 rfl ?_
    refine lv_lconst (v := lN 0) hx hb dX7_heap_9 (by decide) ?_
    refine lv_aload_n hx hb dX7_heap_10 rfl (lv_at hl 0 rfl) ?_
    refine gf_X7_83 cx hK w 0 rfl rfl dX7_heap_11 ?_
    refine lv_iconst (v := nI 1) hx hb dX7_heap_14 (by decide) ?_
    refine lv_isub hx hb dX7_heap_15 ?_
    refine lv_i2l hx hb dX7_heap_16 rfl ?_
    refine ga_callS (rest := []) (wr := [(aM, .inr (7, [.ref mT, .int (nI tl), .int (nI n), .int (nI k), .ref mF, .ref mO, .ref mC, .int (nI li), .int (nI fa), .int (nI mm9), .int (bI im9), .ref mR, .ref mZ, .ref mS, .ref mH, .int (bI ird), .int (bI itn), .int (nI lsz), .ref mL, .ref mN, .ref mX, .ref mY, .int (nI tu)])), (mF, .inl (G.2.2, 16, .inl (aN fr))), (mO, .inl (G.2.2, 16, .inl (aN to))), (mR, .inl (G.2.2, 3200, .inl (aN rw9))), (mZ, .inl (G.2.2, 200, .inl (aN sz9))), (mS, .inl (G.2.2, 200, .inl (aN st9))), (mH, .inl (G.2.2, 200, .inl (aN hs9))), (mN, .inl (G.2.2, 16, .inl (aN nw9)))]) cx hK hA w hl lk_X7_55 (c_X7_lies l G v.toInt64 (lN 0) (((nI mm9) - (nI 1)).toInt64) ) ⟨Nat.le_of_ble_eq_true rfl, Nat.le_of_ble_eq_true rfl⟩ [] [0, 1, 2, 3, 4, 5, 6, 7] rfl rfl (by decide) (by decide) (by decide) rfl (Nat.le_of_ble_eq_true rfl) dX7_heap_17 ⟨Nat.le_refl _, Nat.le_refl _⟩ rfl (fun r w1_ H_ locs_ hp w => ?_)
    obtain ⟨rfl, rfl⟩ := hp
    have w : ga_wd G A_ s_ H_ locs_ [(aM, .inr (7, [.ref mT, .int (nI tl), .int (nI n), .int (nI k), .ref mF, .ref mO, .ref mC, .int (nI li), .int (nI fa), .int (nI mm9), .int (bI im9), .ref mR, .ref mZ, .ref mS, .ref mH, .int (bI ird), .int (bI itn), .int (nI lsz), .ref mL, .ref mN, .ref mX, .ref mY, .int (nI tu)])), (mF, .inl (G.2.2, 16, .inl (aN fr))), (mO, .inl (G.2.2, 16, .inl (aN to))), (mR, .inl (G.2.2, 3200, .inl (aN rw9))), (mZ, .inl (G.2.2, 200, .inl (aN sz9))), (mS, .inl (G.2.2, 200, .inl (aN st9))), (mH, .inl (G.2.2, 200, .inl (aN hs9))), (mN, .inl (G.2.2, 16, .inl (aN nw9)))] := ga_perm w [0, 1, 2, 3, 4, 5, 6, 7] (by decide) rfl
    refine W.eq (g2 := F0 m_ 20 ls [.int (bI (lsB v.toInt64 (lN 0) (((nI mm9) - (nI 1)).toInt64)))]) rfl ?_
    refine r_ifb_ne hx hb dX7_heap_20 (tgt := 27) (by decide) (fun c20 => ?_) (fun c20 => ?_)
    · rw [lsB_in (by omega)] at c20
      have hiw : inB v (WL n k fr to).length = true := by rw [← hnc]; exact c20
      obtain ⟨j, hj, rfl⟩ := inB_of (by omega) c20
      have hw9 := hr9.2.2.2.2 j hj
      refine lv_aload_n hx hb dX7_heap_27 rfl (lv_at hl 0 rfl) ?_
      refine lv_iload_n hx hb dX7_heap_28 rfl (lv_at hl 1 rfl) ?_
      refine lv_aload_n hx hb dX7_heap_29 rfl (lv_at hl 0 rfl) ?_
      refine gf_X7_63 cx hK w 0 rfl rfl dX7_heap_30 ?_
      refine ga_callV (rest := []) (wr := [(mF, .inl (G.2.2, 16, .inl (aN fr))), (mO, .inl (G.2.2, 16, .inl (aN to))), (mR, .inl (G.2.2, 3200, .inl (aN rw9))), (mZ, .inl (G.2.2, 200, .inl (aN sz9))), (mH, .inl (G.2.2, 200, .inl (aN hs9))), (mN, .inl (G.2.2, 16, .inl (aN nw9)))]) cx hK hA w hl lk_X7_108 (c_X7_firstOf l G aM mT mF mO mC mR mZ mS mH mL mN mX mY tl n k li fa mm9 im9 ird itn lsz tu st9 j li (by omega) (by omega)) ⟨Nat.le_of_ble_eq_true rfl, Nat.le_of_ble_eq_true rfl⟩ [0, 5] [1, 2, 3, 4, 6, 7] rfl rfl (by decide) (by decide) (by decide) 0 7 rfl rfl rfl rfl (Nat.le_of_ble_eq_true rfl) dX7_heap_33 ⟨Nat.le_refl _, Nat.le_refl _⟩ rfl (fun r w1_ H_ locs_ hp w => ?_)
      obtain ⟨rfl, rfl⟩ := hp
      have w : ga_wd G A_ s_ H_ locs_ [(aM, .inr (7, [.ref mT, .int (nI tl), .int (nI n), .int (nI k), .ref mF, .ref mO, .ref mC, .int (nI li), .int (nI fa), .int (nI mm9), .int (bI im9), .ref mR, .ref mZ, .ref mS, .ref mH, .int (bI ird), .int (bI itn), .int (nI lsz), .ref mL, .ref mN, .ref mX, .ref mY, .int (nI tu)])), (mF, .inl (G.2.2, 16, .inl (aN fr))), (mO, .inl (G.2.2, 16, .inl (aN to))), (mR, .inl (G.2.2, 3200, .inl (aN rw9))), (mZ, .inl (G.2.2, 200, .inl (aN sz9))), (mS, .inl (G.2.2, 200, .inl (aN st9))), (mH, .inl (G.2.2, 200, .inl (aN hs9))), (mN, .inl (G.2.2, 16, .inl (aN nw9)))] := ga_perm w [6, 0, 1, 2, 3, 7, 4, 5] (by decide) rfl
      refine W.eq (g2 := F0 m_ 36 ls [.int (nI (lfst (like st9 li j) j))]) rfl ?_
      exact ga_iret cx hr hlk w dX7_heap_36 ⟨Nat.le_refl _, Nat.le_refl _⟩ (⟨mm9, im9, rw9, sz9, st9, hs9, nw9, hR9, ga_rv (by rw [sHeap, if_neg htm, if_pos hiw, nI_clamp (by omega)]; refine congrArg nI (lfst_congr (fun u hu => ?_)); unfold like; rw [(hr9.2.2.2.2 u (by omega)).2.2.1, hw9.2.2.1]), rfl⟩)
    · rw [lsB_in (by omega), hnc] at c20
      refine lv_iconst (v := (-1)) hx hb dX7_heap_23 (by decide) ?_
      refine lv_goto (tgt := 36) hx hb dX7_heap_24 (by decide) ?_
      exact ga_iret cx hr hlk w dX7_heap_36 ⟨Nat.le_refl _, Nat.le_refl _⟩ (⟨mm9, im9, rw9, sz9, st9, hs9, nw9, hR9, ga_rv (by rw [sHeap, if_neg htm, if_neg (by rw [c20]; decide)]), rfl⟩)

set_option maxHeartbeats 4000000 in
set_option maxRecDepth 100000 in
theorem c_X7_isApart (l : Launch) (G : ga_G) (aM : Nat) (mT : Nat) (mF : Nat) (mO : Nat) (mC : Nat) (mR : Nat) (mZ : Nat) (mS : Nat) (mH : Nat) (mL : Nat) (mN : Nat) (mX : Nat) (mY : Nat) (tl : Nat) (n : Nat) (k : Nat) (li : Nat) (fa : Nat) (mm : Nat) (im : Bool) (ird : Bool) (itn : Bool) (lsz : Nat) (tu : Nat) (st : Nat → Nat) (hs : Nat → Nat) (sn : Nat → Nat) (sb : Nat → Nat) (wh : Nat) (X : Nat) (hmm : mm ≤ 200) (hX : X < 65536) (htu : tu < 2 ^ 30) (hwh : wh < 2) (hsn : ∀ l, l < 65536 → sn l ≤ tu) (hhs : ∀ i, i < mm → hs i < 65536) : ga_M l G yX7_isApart cX7_isApart 5 (Option.some Jvm.ClassFile.FieldType.boolean) 0 0 0 0 [.ref aM, .int (nI wh), .int (nI X)] [(aM, .inr (7, [.ref mT, .int (nI tl), .int (nI n), .int (nI k), .ref mF, .ref mO, .ref mC, .int (nI li), .int (nI fa), .int (nI mm), .int (bI im), .ref mR, .ref mZ, .ref mS, .ref mH, .int (bI ird), .int (bI itn), .int (nI lsz), .ref mL, .ref mN, .ref mX, .ref mY, .int (nI tu)])), (mS, .inl (G.2.2, 200, .inl (aN st))), (mH, .inl (G.2.2, 200, .inl (aN hs))), (mX, .inl (G.2.2, 65536, .inl (aN sn))), (mY, .inl (G.2.2, 65536, .inl (aN sb)))] (fun r w => ∃ (sn2 : Nat → Nat), ∃ (sb2 : Nat → Nat), (∀ l, l < 65536 → sn2 l ≤ tu + 1) ∧ r = some (.int (bI (apM st hs mm (decide (wh = 0)) X))) ∧ w = [(aM, .inr (7, [.ref mT, .int (nI tl), .int (nI n), .int (nI k), .ref mF, .ref mO, .ref mC, .int (nI li), .int (nI fa), .int (nI mm), .int (bI im), .ref mR, .ref mZ, .ref mS, .ref mH, .int (bI ird), .int (bI itn), .int (nI lsz), .ref mL, .ref mN, .ref mX, .ref mY, .int (nI (tu + 1))])), (mS, .inl (G.2.2, 200, .inl (aN st))), (mH, .inl (G.2.2, 200, .inl (aN hs))), (mX, .inl (G.2.2, 65536, .inl (aN sn2))), (mY, .inl (G.2.2, 65536, .inl (aN sb2)))]) := by
  refine ga_M.intro (by decide) (Nat.le_of_ble_eq_true rfl) (fun p_ e_ s_ m_ below meth c_ A_ H_ locs_ ls cx hr hlk hnm hA hK hl w => ?_)
  have hx := cx.1
  have hb := cx.2.1
  have hl : lv_has ls 5 [(0, .ref aM), (1, .int (nI wh)), (2, .int (nI X))] := hl
  refine lv_aload_n hx hb dX7_isApart_0 rfl (lv_at hl 0 rfl) ?_
  refine lv_dup hx hb dX7_isApart_1 rfl ?_
  refine gf_X7_115 cx hK w 0 rfl rfl dX7_isApart_2 ?_
  refine lv_iconst (v := nI 1) hx hb dX7_isApart_5 (by decide) ?_
  refine r_iadd hx hb dX7_isApart_6 ?_
  refine pf_X7_115 cx hK w 0 rfl rfl rfl (Nat.le_of_ble_eq_true rfl) dX7_isApart_7 (fun H_ locs_ w => ?_)
  have w : ga_wd G A_ s_ H_ locs_ [(aM, .inr (7, [.ref mT, .int (nI tl), .int (nI n), .int (nI k), .ref mF, .ref mO, .ref mC, .int (nI li), .int (nI fa), .int (nI mm), .int (bI im), .ref mR, .ref mZ, .ref mS, .ref mH, .int (bI ird), .int (bI itn), .int (nI lsz), .ref mL, .ref mN, .ref mX, .ref mY, .int (nI (tu + 1))])), (mS, .inl (G.2.2, 200, .inl (aN st))), (mH, .inl (G.2.2, 200, .inl (aN hs))), (mX, .inl (G.2.2, 65536, .inl (aN sn))), (mY, .inl (G.2.2, 65536, .inl (aN sb)))] := w
  refine lv_iconst (v := nI 0) hx hb dX7_isApart_10 (by decide) ?_
  refine lv_istore_n (lv' := [(3, .int (nI 0)), (0, .ref aM), (1, .int (nI wh)), (2, .int (nI X))]) hx hb dX7_isApart_11 rfl hl (by decide) rfl (fun ls hl => ?_)
  have loop12 : ∀ (n_ : Nat) (i : Nat) (sv : Nat → Nat) (bv : Nat → Nat) (hi : i ≤ mm) (hI : SnI st hs (decide (wh = 0)) X (tu + 1) sv bv i) (hm : mm - i < n_) (H_ : Heap) (locs_ : List Loc) (ls : Array Slot) (hl : lv_has ls 5 [(3, .int (nI i)), (0, .ref aM), (1, .int (nI wh)), (2, .int (nI X))]) (w : ga_wd G A_ s_ H_ locs_ [(aM, .inr (7, [.ref mT, .int (nI tl), .int (nI n), .int (nI k), .ref mF, .ref mO, .ref mC, .int (nI li), .int (nI fa), .int (nI mm), .int (bI im), .ref mR, .ref mZ, .ref mS, .ref mH, .int (bI ird), .int (bI itn), .int (nI lsz), .ref mL, .ref mN, .ref mX, .ref mY, .int (nI (tu + 1))])), (mS, .inl (G.2.2, 200, .inl (aN st))), (mH, .inl (G.2.2, 200, .inl (aN hs))), (mX, .inl (G.2.2, 65536, .inl (aN sv))), (mY, .inl (G.2.2, 65536, .inl (aN bv)))]), W p_ l e_ { frames := 0, cells := 0, slots := 0, locals := 0 } s_ m_ [.ref aM, .int (nI wh), .int (nI X)].toArray below meth c_ H_ locs_ (0) (0) (MQ below (ga_Q G A_ (fun r w => ∃ (sn2 : Nat → Nat), ∃ (sb2 : Nat → Nat), (∀ l, l < 65536 → sn2 l ≤ tu + 1) ∧ r = some (.int (bI (apM st hs mm (decide (wh = 0)) X))) ∧ w = [(aM, .inr (7, [.ref mT, .int (nI tl), .int (nI n), .int (nI k), .ref mF, .ref mO, .ref mC, .int (nI li), .int (nI fa), .int (nI mm), .int (bI im), .ref mR, .ref mZ, .ref mS, .ref mH, .int (bI ird), .int (bI itn), .int (nI lsz), .ref mL, .ref mN, .ref mX, .ref mY, .int (nI (tu + 1))])), (mS, .inl (G.2.2, 200, .inl (aN st))), (mH, .inl (G.2.2, 200, .inl (aN hs))), (mX, .inl (G.2.2, 65536, .inl (aN sn2))), (mY, .inl (G.2.2, 65536, .inl (aN sb2)))])) [.ref aM, .int (nI wh), .int (nI X)].toArray s_ 0 0 A_) (F0 m_ 12 ls []) := by
    intro n_
    induction n_ with
    | zero => intro i sv bv hi hI hm; exact absurd hm (Nat.not_lt_zero _)
    | succ n_ ih12 =>
      intro i sv bv hi hI hm12 H_ locs_ ls hl w
      refine lv_iload_n hx hb dX7_isApart_12 rfl (lv_at hl 0 rfl) ?_
      refine lv_aload_n hx hb dX7_isApart_13 rfl (lv_at hl 1 rfl) ?_
      refine gf_X7_83 cx hK w 0 rfl rfl dX7_isApart_14 ?_
      refine r_icmp_ge hx hb dX7_isApart_17 (tgt := 96) (by decide) (by omega) (by omega) (fun c17 => ?_) (fun c17 => ?_)
      · refine lv_iconst (v := nI 1) hx hb dX7_isApart_96 (by decide) ?_
        exact ga_zret cx hr hlk w rfl dX7_isApart_97 ⟨Nat.le_refl _, Nat.le_refl _⟩ (⟨sv, bv, hI.2.1, ga_r1 (apM_iff.mpr (by rw [show mm = i by omega]; exact hI.1)), rfl⟩)
      · refine lv_aload_n hx hb dX7_isApart_20 rfl (lv_at hl 1 rfl) ?_
        refine gf_X7_33 cx hK w 0 rfl rfl dX7_isApart_21 ?_
        refine lv_iload_n hx hb dX7_isApart_24 rfl (lv_at hl 0 rfl) ?_
        refine r_ialdN hx hb hK w 1 rfl dX7_isApart_25 (by omega) (by decide) ?_
        refine lv_iload_n hx hb dX7_isApart_26 rfl (lv_at hl 3 rfl) ?_
        refine r_iand hx hb dX7_isApart_27 ?_
        refine lv_istore (lv' := [(4, .int (nI ((st i) &&& X))), (3, .int (nI i)), (0, .ref aM), (1, .int (nI wh)), (2, .int (nI X))]) hx hb dX7_isApart_28 hl (by decide) rfl (fun ls hl => ?_)
        have hlX : st i &&& X < 65536 := andR_lt hX
        have hsl := hI.2.1 _ hlX
        refine lv_aload_n hx hb dX7_isApart_30 rfl (lv_at hl 2 rfl) ?_
        refine gf_X7_46 cx hK w 0 rfl rfl dX7_isApart_31 ?_
        refine lv_iload hx hb dX7_isApart_34 (lv_at hl 0 rfl) ?_
        refine r_ialdN hx hb hK w 3 rfl dX7_isApart_36 (hlX) (by decide) ?_
        refine lv_aload_n hx hb dX7_isApart_37 rfl (lv_at hl 2 rfl) ?_
        refine gf_X7_115 cx hK w 0 rfl rfl dX7_isApart_38 ?_
        refine r_icmp_ne hx hb dX7_isApart_41 (tgt := 71) (by decide) (by omega) (by omega) (fun c41 => ?_) (fun c41 => ?_)
        · refine lv_aload_n hx hb dX7_isApart_71 rfl (lv_at hl 2 rfl) ?_
          refine gf_X7_46 cx hK w 0 rfl rfl dX7_isApart_72 ?_
          refine lv_iload hx hb dX7_isApart_75 (lv_at hl 0 rfl) ?_
          refine lv_aload_n hx hb dX7_isApart_77 rfl (lv_at hl 2 rfl) ?_
          refine gf_X7_115 cx hK w 0 rfl rfl dX7_isApart_78 ?_
          refine r_iastN hx hb hK w 3 rfl dX7_isApart_81 (hlX) (by decide) (fun H_ locs_ w => ?_)
          have w : ga_wd G A_ s_ H_ locs_ [(aM, .inr (7, [.ref mT, .int (nI tl), .int (nI n), .int (nI k), .ref mF, .ref mO, .ref mC, .int (nI li), .int (nI fa), .int (nI mm), .int (bI im), .ref mR, .ref mZ, .ref mS, .ref mH, .int (bI ird), .int (bI itn), .int (nI lsz), .ref mL, .ref mN, .ref mX, .ref mY, .int (nI (tu + 1))])), (mS, .inl (G.2.2, 200, .inl (aN st))), (mH, .inl (G.2.2, 200, .inl (aN hs))), (mX, .inl (G.2.2, 65536, .inl (aN (uN sv ((st i) &&& X) (tu + 1))))), (mY, .inl (G.2.2, 65536, .inl (aN bv)))] := w
          refine lv_aload_n hx hb dX7_isApart_82 rfl (lv_at hl 2 rfl) ?_
          refine gf_X7_49 cx hK w 0 rfl rfl dX7_isApart_83 ?_
          refine lv_iload hx hb dX7_isApart_86 (lv_at hl 0 rfl) ?_
          refine lv_iload_n hx hb dX7_isApart_88 rfl (lv_at hl 1 rfl) ?_
          refine r_iastN hx hb hK w 4 rfl dX7_isApart_89 (hlX) (by decide) (fun H_ locs_ w => ?_)
          have w : ga_wd G A_ s_ H_ locs_ [(aM, .inr (7, [.ref mT, .int (nI tl), .int (nI n), .int (nI k), .ref mF, .ref mO, .ref mC, .int (nI li), .int (nI fa), .int (nI mm), .int (bI im), .ref mR, .ref mZ, .ref mS, .ref mH, .int (bI ird), .int (bI itn), .int (nI lsz), .ref mL, .ref mN, .ref mX, .ref mY, .int (nI (tu + 1))])), (mS, .inl (G.2.2, 200, .inl (aN st))), (mH, .inl (G.2.2, 200, .inl (aN hs))), (mX, .inl (G.2.2, 65536, .inl (aN (uN sv ((st i) &&& X) (tu + 1))))), (mY, .inl (G.2.2, 65536, .inl (aN (uN bv ((st i) &&& X) i))))] := w
          refine r_iinc (d := 1) (k := 1) (lv' := [(3, .int (nI (i + 1))), (4, .int (nI ((st i) &&& X))), (0, .ref aM), (1, .int (nI wh)), (2, .int (nI X))]) hx hb dX7_isApart_90 hl rfl (by decide) (by decide) rfl (fun ls hl => ?_)
          refine lv_goto (tgt := 12) hx hb dX7_isApart_93 (by decide) ?_
          exact ih12 (i + 1) (uN sv ((st i) &&& X) (tu + 1)) (uN bv ((st i) &&& X) i) (by omega) (SnI_s hI (fun h => absurd h c41) hlX) (by omega) _ _ _ (lv_sub hl [0, 2, 3, 4] rfl) w
        · have hbb := hI.2.2.1 _ hlX c41
          refine lv_iload_n hx hb dX7_isApart_44 rfl (lv_at hl 3 rfl) ?_
          refine r_if_eq hx hb dX7_isApart_45 (tgt := 69) (by decide) (by omega) (fun c45 => ?_) (fun c45 => ?_)
          · refine lv_iconst (v := nI 0) hx hb dX7_isApart_69 (by decide) ?_
            exact ga_zret cx hr hlk w rfl dX7_isApart_70 ⟨Nat.le_refl _, Nat.le_refl _⟩ (⟨sv, bv, hI.2.1, ga_r0 (by cases hap : apM st hs mm (decide (wh = 0)) X; rfl; (have h9 := (apM_iff.mp hap) _ i hbb.1 (by omega) hbb.2; rw [decide_eq_true c45] at h9; cases h9.1)), rfl⟩)
          · have hh1 := hhs _ (show bv (st i &&& X) < mm by omega)
            have hh2 := hhs i (by omega)
            refine lv_aload_n hx hb dX7_isApart_48 rfl (lv_at hl 2 rfl) ?_
            refine gf_X7_36 cx hK w 0 rfl rfl dX7_isApart_49 ?_
            refine lv_aload_n hx hb dX7_isApart_52 rfl (lv_at hl 2 rfl) ?_
            refine gf_X7_49 cx hK w 0 rfl rfl dX7_isApart_53 ?_
            refine lv_iload hx hb dX7_isApart_56 (lv_at hl 0 rfl) ?_
            refine r_ialdN hx hb hK w 4 rfl dX7_isApart_58 (hlX) (by decide) ?_
            refine r_ialdN hx hb hK w 2 rfl dX7_isApart_59 (by omega) (by decide) ?_
            refine lv_aload_n hx hb dX7_isApart_60 rfl (lv_at hl 2 rfl) ?_
            refine gf_X7_36 cx hK w 0 rfl rfl dX7_isApart_61 ?_
            refine lv_iload_n hx hb dX7_isApart_64 rfl (lv_at hl 1 rfl) ?_
            refine r_ialdN hx hb hK w 2 rfl dX7_isApart_65 (by omega) (by decide) ?_
            refine r_icmp_eq hx hb dX7_isApart_66 (tgt := 71) (by decide) (by omega) (by omega) (fun c66 => ?_) (fun c66 => ?_)
            · refine lv_aload_n hx hb dX7_isApart_71 rfl (lv_at hl 2 rfl) ?_
              refine gf_X7_46 cx hK w 0 rfl rfl dX7_isApart_72 ?_
              refine lv_iload hx hb dX7_isApart_75 (lv_at hl 0 rfl) ?_
              refine lv_aload_n hx hb dX7_isApart_77 rfl (lv_at hl 2 rfl) ?_
              refine gf_X7_115 cx hK w 0 rfl rfl dX7_isApart_78 ?_
              refine r_iastN hx hb hK w 3 rfl dX7_isApart_81 (hlX) (by decide) (fun H_ locs_ w => ?_)
              have w : ga_wd G A_ s_ H_ locs_ [(aM, .inr (7, [.ref mT, .int (nI tl), .int (nI n), .int (nI k), .ref mF, .ref mO, .ref mC, .int (nI li), .int (nI fa), .int (nI mm), .int (bI im), .ref mR, .ref mZ, .ref mS, .ref mH, .int (bI ird), .int (bI itn), .int (nI lsz), .ref mL, .ref mN, .ref mX, .ref mY, .int (nI (tu + 1))])), (mS, .inl (G.2.2, 200, .inl (aN st))), (mH, .inl (G.2.2, 200, .inl (aN hs))), (mX, .inl (G.2.2, 65536, .inl (aN (uN sv ((st i) &&& X) (tu + 1))))), (mY, .inl (G.2.2, 65536, .inl (aN bv)))] := w
              refine lv_aload_n hx hb dX7_isApart_82 rfl (lv_at hl 2 rfl) ?_
              refine gf_X7_49 cx hK w 0 rfl rfl dX7_isApart_83 ?_
              refine lv_iload hx hb dX7_isApart_86 (lv_at hl 0 rfl) ?_
              refine lv_iload_n hx hb dX7_isApart_88 rfl (lv_at hl 1 rfl) ?_
              refine r_iastN hx hb hK w 4 rfl dX7_isApart_89 (hlX) (by decide) (fun H_ locs_ w => ?_)
              have w : ga_wd G A_ s_ H_ locs_ [(aM, .inr (7, [.ref mT, .int (nI tl), .int (nI n), .int (nI k), .ref mF, .ref mO, .ref mC, .int (nI li), .int (nI fa), .int (nI mm), .int (bI im), .ref mR, .ref mZ, .ref mS, .ref mH, .int (bI ird), .int (bI itn), .int (nI lsz), .ref mL, .ref mN, .ref mX, .ref mY, .int (nI (tu + 1))])), (mS, .inl (G.2.2, 200, .inl (aN st))), (mH, .inl (G.2.2, 200, .inl (aN hs))), (mX, .inl (G.2.2, 65536, .inl (aN (uN sv ((st i) &&& X) (tu + 1))))), (mY, .inl (G.2.2, 65536, .inl (aN (uN bv ((st i) &&& X) i))))] := w
              refine r_iinc (d := 1) (k := 1) (lv' := [(3, .int (nI (i + 1))), (4, .int (nI ((st i) &&& X))), (0, .ref aM), (1, .int (nI wh)), (2, .int (nI X))]) hx hb dX7_isApart_90 hl rfl (by decide) (by decide) rfl (fun ls hl => ?_)
              refine lv_goto (tgt := 12) hx hb dX7_isApart_93 (by decide) ?_
              exact ih12 (i + 1) (uN sv ((st i) &&& X) (tu + 1)) (uN bv ((st i) &&& X) i) (by omega) (SnI_s hI (fun _ => ⟨decide_eq_false c45, c66⟩) hlX) (by omega) _ _ _ (lv_sub hl [0, 2, 3, 4] rfl) w
            · refine lv_iconst (v := nI 0) hx hb dX7_isApart_69 (by decide) ?_
              exact ga_zret cx hr hlk w rfl dX7_isApart_70 ⟨Nat.le_refl _, Nat.le_refl _⟩ (⟨sv, bv, hI.2.1, ga_r0 (by cases hap : apM st hs mm (decide (wh = 0)) X; rfl; (have h9 := (apM_iff.mp hap) _ i hbb.1 (by omega) hbb.2; exact absurd h9.2 c66)), rfl⟩)
  exact loop12 _ 0 sn sb (by omega) (SnI_0 hsn) (Nat.lt_succ_self _) _ _ _ (lv_sub hl [0, 1, 2, 3] rfl) w
