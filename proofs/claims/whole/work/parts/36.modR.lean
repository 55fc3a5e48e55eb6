set_option maxHeartbeats 4000000 in
set_option maxRecDepth 100000 in
theorem c_X7_read_t (l : Launch) (G : ga_G) (aM : Nat) (mT : Nat) (mF : Nat) (mO : Nat) (mC : Nat) (mR : Nat) (mZ : Nat) (mS : Nat) (mH : Nat) (mL : Nat) (mN : Nat) (mX : Nat) (mY : Nat) (tl : Nat) (n : Nat) (k : Nat) (li : Nat) (fa : Nat) (mm : Nat) (im : Bool) (ird : Bool) (itn : Bool) (lsz : Nat) (tu : Nat) (fr : Nat → Nat) (to : Nat → Nat) (ct : Nat → Nat) (sz : Nat → Nat) (st : Nat → Nat) (hs : Nat → Nat) (rw : Nat → Nat) (nw : Nat → Nat) (tm : Nat → Int32) (lg : Nat → Int32) (nn : Nat) (tn2 : Bool) (tb : Nat → Nat) (hF : Flow n k fr to ct) (hli : li < 2 ^ k) (hnn : nn ≤ 16 ∧ nn ≤ tl) (htl : tl ≤ 40) (htb : ∀ j, j < tl → tm j = sgb (tb j) ∧ tb j < 256) : ga_M l G yX7_read cX7_read 5 (Option.some Jvm.ClassFile.FieldType.int) 3 67 0 0 [.ref aM, .int (nI nn), .int (bI tn2)] [(aM, .inr (7, [.ref mT, .int (nI tl), .int (nI n), .int (nI k), .ref mF, .ref mO, .ref mC, .int (nI li), .int (nI fa), .int (nI mm), .int (bI im), .ref mR, .ref mZ, .ref mS, .ref mH, .int (bI ird), .int (bI itn), .int (nI lsz), .ref mL, .ref mN, .ref mX, .ref mY, .int (nI tu)])), (mF, .inl (G.2.2, 16, .inl (aN fr))), (mO, .inl (G.2.2, 16, .inl (aN to))), (mR, .inl (G.2.2, 3200, .inl (aN rw))), (mZ, .inl (G.2.2, 200, .inl (aN sz))), (mS, .inl (G.2.2, 200, .inl (aN st))), (mH, .inl (G.2.2, 200, .inl (aN hs))), (mN, .inl (G.2.2, 16, .inl (aN nw))), (mT, .inl (G.2.1, 40, .inl tm)), (mL, .inl (G.2.2, 16, .inl lg))] (fun r w => ∃ (mm2 : Nat), ∃ (im2 : Bool), ∃ (rw2 : Nat → Nat), ∃ (sz2 : Nat → Nat), ∃ (st2 : Nat → Nat), ∃ (hs2 : Nat → Nat), ∃ (nw2 : Nat → Nat), ∃ (lg2 : Nat → Int32), (∀ j, j < nn → lg2 j = sgb (tb j)) ∧ r = some (.int (sRead (WL n k fr to) li nn tn2 tb)) ∧ w = [(aM, .inr (7, [.ref mT, .int (nI 0), .int (nI n), .int (nI k), .ref mF, .ref mO, .ref mC, .int (nI li), .int (nI fa), .int (nI mm2), .int (bI im2), .ref mR, .ref mZ, .ref mS, .ref mH, .int (bI true), .int (bI tn2), .int (nI nn), .ref mL, .ref mN, .ref mX, .ref mY, .int (nI tu)])), (mF, .inl (G.2.2, 16, .inl (aN fr))), (mO, .inl (G.2.2, 16, .inl (aN to))), (mR, .inl (G.2.2, 3200, .inl (aN rw2))), (mZ, .inl (G.2.2, 200, .inl (aN sz2))), (mS, .inl (G.2.2, 200, .inl (aN st2))), (mH, .inl (G.2.2, 200, .inl (aN hs2))), (mN, .inl (G.2.2, 16, .inl (aN nw2))), (mT, .inl (G.2.1, 40, .inl tm)), (mL, .inl (G.2.2, 16, .inl lg2))]) := by
  refine ga_M.intro (by decide) (Nat.le_of_ble_eq_true rfl) (fun p_ e_ s_ m_ below meth c_ A_ H_ locs_ ls cx hr hlk hnm hA hK hl w => ?_)
  have hx := cx.1
  have hb := cx.2.1
  have hl : lv_has ls 5 [(0, .ref aM), (1, .int (nI nn)), (2, .int (bI tn2))] := hl
  have hk16 := hF.2.2.1
  have hl16 : li < 65536 := Nat.lt_of_lt_of_le hli (Nat.pow_le_pow_right (by decide) hF.2.2.1)
  refine lv_iload_n hx hb dX7_read_0 rfl (lv_at hl 1 rfl) ?_
  refine r_i2l hx hb dX7_read_1 (by omega) ?_
  refine lv_lconst (v := lN 0) hx hb dX7_read_2 (by decide) ?_
  refine lv_ldc2 hx hb cx.2.2.2.1 (cx.2.2.2.2 _ tm_705) dX7_read_3 ?_
  refine r_topl (y := lN 16) rfl ?_
  refine ga_callS (rest := []) (wr := [(aM, .inr (7, [.ref mT, .int (nI tl), .int (nI n), .int (nI k), .ref mF, .ref mO, .ref mC, .int (nI li), .int (nI fa), .int (nI mm), .int (bI im), .ref mR, .ref mZ, .ref mS, .ref mH, .int (bI ird), .int (bI itn), .int (nI lsz), .ref mL, .ref mN, .ref mX, .ref mY, .int (nI tu)])), (mF, .inl (G.2.2, 16, .inl (aN fr))), (mO, .inl (G.2.2, 16, .inl (aN to))), (mR, .inl (G.2.2, 3200, .inl (aN rw))), (mZ, .inl (G.2.2, 200, .inl (aN sz))), (mS, .inl (G.2.2, 200, .inl (aN st))), (mH, .inl (G.2.2, 200, .inl (aN hs))), (mN, .inl (G.2.2, 16, .inl (aN nw))), (mT, .inl (G.2.1, 40, .inl tm)), (mL, .inl (G.2.2, 16, .inl lg))]) cx hK hA w hl lk_X7_55 (c_X7_lies l G (lN nn) (lN 0) (lN 16) ) ⟨Nat.le_of_ble_eq_true rfl, Nat.le_of_ble_eq_true rfl⟩ [] [0, 1, 2, 3, 4, 5, 6, 7, 8, 9] rfl rfl (by decide) (by decide) (by decide) rfl (Nat.le_of_ble_eq_true rfl) dX7_read_6 ⟨Nat.le_refl _, Nat.le_refl _⟩ rfl (fun r w1_ H_ locs_ hp w => ?_)
  obtain ⟨rfl, rfl⟩ := hp
  have w : ga_wd G A_ s_ H_ locs_ [(aM, .inr (7, [.ref mT, .int (nI tl), .int (nI n), .int (nI k), .ref mF, .ref mO, .ref mC, .int (nI li), .int (nI fa), .int (nI mm), .int (bI im), .ref mR, .ref mZ, .ref mS, .ref mH, .int (bI ird), .int (bI itn), .int (nI lsz), .ref mL, .ref mN, .ref mX, .ref mY, .int (nI tu)])), (mF, .inl (G.2.2, 16, .inl (aN fr))), (mO, .inl (G.2.2, 16, .inl (aN to))), (mR, .inl (G.2.2, 3200, .inl (aN rw))), (mZ, .inl (G.2.2, 200, .inl (aN sz))), (mS, .inl (G.2.2, 200, .inl (aN st))), (mH, .inl (G.2.2, 200, .inl (aN hs))), (mN, .inl (G.2.2, 16, .inl (aN nw))), (mT, .inl (G.2.1, 40, .inl tm)), (mL, .inl (G.2.2, 16, .inl lg))] := ga_perm w [0, 1, 2, 3, 4, 5, 6, 7, 8, 9] (by decide) rfl
  refine W.eq (g2 := F0 m_ 9 ls [.int (bI (lsB (lN nn) (lN 0) (lN 16)))]) rfl ?_
  refine r_ifb_eq hx hb dX7_read_9 (tgt := 20) (by decide) (fun c9 => ?_) (fun c9 => ?_)
  · rw [show (lN nn : Int64) = (nI nn).toInt64 from (nI_l (by omega)).symm, lsB_n _ (by decide), inB_y (by omega) (by decide)] at c9; cases c9
  · refine lv_iload_n hx hb dX7_read_12 rfl (lv_at hl 1 rfl) ?_
    refine lv_aload_n hx hb dX7_read_13 rfl (lv_at hl 0 rfl) ?_
    refine gf_X7_136 cx hK w 0 rfl rfl dX7_read_14 ?_
    refine r_icmp_le hx hb dX7_read_17 (tgt := 22) (by decide) (by omega) (by omega) (fun c17 => ?_) (fun c17 => ?_)
    · refine lv_aload_n hx hb dX7_read_22 rfl (lv_at hl 0 rfl) ?_
      refine lv_iconst (v := nI 0) hx hb dX7_read_23 (by decide) ?_
      refine pf_X7_136 cx hK w 0 rfl rfl rfl (Nat.le_of_ble_eq_true rfl) dX7_read_24 (fun H_ locs_ w => ?_)
      have w : ga_wd G A_ s_ H_ locs_ [(aM, .inr (7, [.ref mT, .int (nI 0), .int (nI n), .int (nI k), .ref mF, .ref mO, .ref mC, .int (nI li), .int (nI fa), .int (nI mm), .int (bI im), .ref mR, .ref mZ, .ref mS, .ref mH, .int (bI ird), .int (bI itn), .int (nI lsz), .ref mL, .ref mN, .ref mX, .ref mY, .int (nI tu)])), (mF, .inl (G.2.2, 16, .inl (aN fr))), (mO, .inl (G.2.2, 16, .inl (aN to))), (mR, .inl (G.2.2, 3200, .inl (aN rw))), (mZ, .inl (G.2.2, 200, .inl (aN sz))), (mS, .inl (G.2.2, 200, .inl (aN st))), (mH, .inl (G.2.2, 200, .inl (aN hs))), (mN, .inl (G.2.2, 16, .inl (aN nw))), (mT, .inl (G.2.1, 40, .inl tm)), (mL, .inl (G.2.2, 16, .inl lg))] := w
      refine lv_aload_n hx hb dX7_read_27 rfl (lv_at hl 0 rfl) ?_
      refine lv_iconst (v := nI 1) hx hb dX7_read_28 (by decide) ?_
      refine pf_X7_69 cx hK w 0 rfl rfl rfl (Nat.le_of_ble_eq_true rfl) dX7_read_29 (fun H_ locs_ w => ?_)
      have w : ga_wd G A_ s_ H_ locs_ [(aM, .inr (7, [.ref mT, .int (nI 0), .int (nI n), .int (nI k), .ref mF, .ref mO, .ref mC, .int (nI li), .int (nI fa), .int (nI mm), .int (bI im), .ref mR, .ref mZ, .ref mS, .ref mH, .int (nI 1), .int (bI itn), .int (nI lsz), .ref mL, .ref mN, .ref mX, .ref mY, .int (nI tu)])), (mF, .inl (G.2.2, 16, .inl (aN fr))), (mO, .inl (G.2.2, 16, .inl (aN to))), (mR, .inl (G.2.2, 3200, .inl (aN rw))), (mZ, .inl (G.2.2, 200, .inl (aN sz))), (mS, .inl (G.2.2, 200, .inl (aN st))), (mH, .inl (G.2.2, 200, .inl (aN hs))), (mN, .inl (G.2.2, 16, .inl (aN nw))), (mT, .inl (G.2.1, 40, .inl tm)), (mL, .inl (G.2.2, 16, .inl lg))] := w
      refine lv_aload_n hx hb dX7_read_32 rfl (lv_at hl 0 rfl) ?_
      refine lv_iload_n hx hb dX7_read_33 rfl (lv_at hl 2 rfl) ?_
      refine pf_X7_145 cx hK w 0 rfl (bI_nar _) (bI_fit _) (Nat.le_of_ble_eq_true rfl) dX7_read_34 (fun H_ locs_ w => ?_)
      have w : ga_wd G A_ s_ H_ locs_ [(aM, .inr (7, [.ref mT, .int (nI 0), .int (nI n), .int (nI k), .ref mF, .ref mO, .ref mC, .int (nI li), .int (nI fa), .int (nI mm), .int (bI im), .ref mR, .ref mZ, .ref mS, .ref mH, .int (nI 1), .int (bI tn2), .int (nI lsz), .ref mL, .ref mN, .ref mX, .ref mY, .int (nI tu)])), (mF, .inl (G.2.2, 16, .inl (aN fr))), (mO, .inl (G.2.2, 16, .inl (aN to))), (mR, .inl (G.2.2, 3200, .inl (aN rw))), (mZ, .inl (G.2.2, 200, .inl (aN sz))), (mS, .inl (G.2.2, 200, .inl (aN st))), (mH, .inl (G.2.2, 200, .inl (aN hs))), (mN, .inl (G.2.2, 16, .inl (aN nw))), (mT, .inl (G.2.1, 40, .inl tm)), (mL, .inl (G.2.2, 16, .inl lg))] := w
      refine lv_aload_n hx hb dX7_read_37 rfl (lv_at hl 0 rfl) ?_
      refine lv_iload_n hx hb dX7_read_38 rfl (lv_at hl 1 rfl) ?_
      refine pf_X7_142 cx hK w 0 rfl rfl rfl (Nat.le_of_ble_eq_true rfl) dX7_read_39 (fun H_ locs_ w => ?_)
      have w : ga_wd G A_ s_ H_ locs_ [(aM, .inr (7, [.ref mT, .int (nI 0), .int (nI n), .int (nI k), .ref mF, .ref mO, .ref mC, .int (nI li), .int (nI fa), .int (nI mm), .int (bI im), .ref mR, .ref mZ, .ref mS, .ref mH, .int (nI 1), .int (bI tn2), .int (nI nn), .ref mL, .ref mN, .ref mX, .ref mY, .int (nI tu)])), (mF, .inl (G.2.2, 16, .inl (aN fr))), (mO, .inl (G.2.2, 16, .inl (aN to))), (mR, .inl (G.2.2, 3200, .inl (aN rw))), (mZ, .inl (G.2.2, 200, .inl (aN sz))), (mS, .inl (G.2.2, 200, .inl (aN st))), (mH, .inl (G.2.2, 200, .inl (aN hs))), (mN, .inl (G.2.2, 16, .inl (aN nw))), (mT, .inl (G.2.1, 40, .inl tm)), (mL, .inl (G.2.2, 16, .inl lg))] := w
      refine lv_iconst (v := nI 0) hx hb dX7_read_42 (by decide) ?_
      refine lv_istore_n (lv' := [(3, .int (nI 0)), (0, .ref aM), (1, .int (nI nn)), (2, .int (bI tn2))]) hx hb dX7_read_43 rfl hl (by decide) rfl (fun ls hl => ?_)
      have loop44 : ∀ (n_ : Nat) (i : Nat) (lv : Nat → Int32) (hi : i ≤ nn) (hlv : ∀ j, j < i → lv j = sgb (tb j)) (hm : nn - i < n_) (H_ : Heap) (locs_ : List Loc) (ls : Array Slot) (hl : lv_has ls 5 [(3, .int (nI i)), (0, .ref aM), (1, .int (nI nn)), (2, .int (bI tn2))]) (w : ga_wd G A_ s_ H_ locs_ [(aM, .inr (7, [.ref mT, .int (nI 0), .int (nI n), .int (nI k), .ref mF, .ref mO, .ref mC, .int (nI li), .int (nI fa), .int (nI mm), .int (bI im), .ref mR, .ref mZ, .ref mS, .ref mH, .int (nI 1), .int (bI tn2), .int (nI nn), .ref mL, .ref mN, .ref mX, .ref mY, .int (nI tu)])), (mF, .inl (G.2.2, 16, .inl (aN fr))), (mO, .inl (G.2.2, 16, .inl (aN to))), (mR, .inl (G.2.2, 3200, .inl (aN rw))), (mZ, .inl (G.2.2, 200, .inl (aN sz))), (mS, .inl (G.2.2, 200, .inl (aN st))), (mH, .inl (G.2.2, 200, .inl (aN hs))), (mN, .inl (G.2.2, 16, .inl (aN nw))), (mT, .inl (G.2.1, 40, .inl tm)), (mL, .inl (G.2.2, 16, .inl lv))]), W p_ l e_ { frames := 3, cells := 0, slots := 0, locals := 67 } s_ m_ [.ref aM, .int (nI nn), .int (bI tn2)].toArray below meth c_ H_ locs_ (0) (0) (MQ below (ga_Q G A_ (fun r w => ∃ (mm2 : Nat), ∃ (im2 : Bool), ∃ (rw2 : Nat → Nat), ∃ (sz2 : Nat → Nat), ∃ (st2 : Nat → Nat), ∃ (hs2 : Nat → Nat), ∃ (nw2 : Nat → Nat), ∃ (lg2 : Nat → Int32), (∀ j, j < nn → lg2 j = sgb (tb j)) ∧ r = some (.int (sRead (WL n k fr to) li nn tn2 tb)) ∧ w = [(aM, .inr (7, [.ref mT, .int (nI 0), .int (nI n), .int (nI k), .ref mF, .ref mO, .ref mC, .int (nI li), .int (nI fa), .int (nI mm2), .int (bI im2), .ref mR, .ref mZ, .ref mS, .ref mH, .int (bI true), .int (bI tn2), .int (nI nn), .ref mL, .ref mN, .ref mX, .ref mY, .int (nI tu)])), (mF, .inl (G.2.2, 16, .inl (aN fr))), (mO, .inl (G.2.2, 16, .inl (aN to))), (mR, .inl (G.2.2, 3200, .inl (aN rw2))), (mZ, .inl (G.2.2, 200, .inl (aN sz2))), (mS, .inl (G.2.2, 200, .inl (aN st2))), (mH, .inl (G.2.2, 200, .inl (aN hs2))), (mN, .inl (G.2.2, 16, .inl (aN nw2))), (mT, .inl (G.2.1, 40, .inl tm)), (mL, .inl (G.2.2, 16, .inl lg2))])) [.ref aM, .int (nI nn), .int (bI tn2)].toArray s_ 0 0 A_) (F0 m_ 44 ls []) := by
        intro n_
        induction n_ with
        | zero => intro i lv hi hlv hm; exact absurd hm (Nat.not_lt_zero _)
        | succ n_ ih44 =>
          intro i lv hi hlv hm44 H_ locs_ ls hl w
          refine lv_iload_n hx hb dX7_read_44 rfl (lv_at hl 0 rfl) ?_
          refine lv_iload_n hx hb dX7_read_45 rfl (lv_at hl 2 rfl) ?_
          refine r_icmp_ge hx hb dX7_read_46 (tgt := 67) (by decide) (by omega) (by omega) (fun c46 => ?_) (fun c46 => ?_)
          · refine lv_aload_n hx hb dX7_read_67 rfl (lv_at hl 1 rfl) ?_
            refine ga_callV (rest := []) (wr := [(mT, .inl (G.2.1, 40, .inl tm)), (mL, .inl (G.2.2, 16, .inl lv))]) cx hK hA w hl lk_X7_96 (c_X7_isTooMany l G aM mT mF mO mC mR mZ mS mH mL mN mX mY 0 n k li fa mm im true tn2 nn tu fr to ct sz st hs rw nw (hF)) ⟨Nat.le_of_ble_eq_true rfl, Nat.le_of_ble_eq_true rfl⟩ [0, 1, 2, 3, 4, 5, 6, 7] [8, 9] rfl rfl (by decide) (by decide) (by decide) 0 7 rfl rfl rfl rfl (Nat.le_of_ble_eq_true rfl) dX7_read_68 ⟨Nat.le_refl _, Nat.le_refl _⟩ rfl (fun r w1_ H_ locs_ hp w => ?_)
            obtain ⟨mm9, im9, rw9, sz9, st9, hs9, nw9, hR9, rfl, rfl⟩ := hp
            have w : ga_wd G A_ s_ H_ locs_ [(aM, .inr (7, [.ref mT, .int (nI 0), .int (nI n), .int (nI k), .ref mF, .ref mO, .ref mC, .int (nI li), .int (nI fa), .int (nI mm9), .int (bI im9), .ref mR, .ref mZ, .ref mS, .ref mH, .int (bI true), .int (bI tn2), .int (nI nn), .ref mL, .ref mN, .ref mX, .ref mY, .int (nI tu)])), (mF, .inl (G.2.2, 16, .inl (aN fr))), (mO, .inl (G.2.2, 16, .inl (aN to))), (mR, .inl (G.2.2, 3200, .inl (aN rw9))), (mZ, .inl (G.2.2, 200, .inl (aN sz9))), (mS, .inl (G.2.2, 200, .inl (aN st9))), (mH, .inl (G.2.2, 200, .inl (aN hs9))), (mN, .inl (G.2.2, 16, .inl (aN nw9))), (mT, .inl (G.2.1, 40, .inl tm)), (mL, .inl (G.2.2, 16, .inl lv))] := ga_perm w [2, 3, 4, 5, 6, 7, 8, 9, 0, 1] (by decide) rfl
            refine W.eq (g2 := F0 m_ 71 ls [.int (bI im9)]) rfl ?_
            have hr9 := RepM_f hR9
            refine r_ifb_eq hx hb dX7_read_71 (tgt := 77) (by decide) (fun c71 => ?_) (fun c71 => ?_)
            · have htm : ¬ 200 < (WL n k fr to).length := of_decide_eq_false (by rw [← hr9.2.1]; exact c71)
              have hnc := hr9.2.2.1 c71
              refine lv_iconst (v := nI 0) hx hb dX7_read_77 (by decide) ?_
              refine lv_istore_n (lv' := [(3, .int (nI 0)), (0, .ref aM), (1, .int (nI nn)), (2, .int (bI tn2))]) hx hb dX7_read_78 rfl hl (by decide) rfl (fun ls hl => ?_)
              refine lv_iconst (v := nI 0) hx hb dX7_read_79 (by decide) ?_
              refine lv_istore (lv' := [(4, .int (nI 0)), (3, .int (nI 0)), (0, .ref aM), (1, .int (nI nn)), (2, .int (bI tn2))]) hx hb dX7_read_80 hl (by decide) rfl (fun ls hl => ?_)
              have loop82 : ∀ (n_ : Nat) (q : Nat) (t : Nat) (hq : q ≤ mm9) (ht : t = (fl (fun i => alS li nn tn2 tb ((WL n k fr to).getD i [])) q).length) (hm : mm9 - q < n_) (H_ : Heap) (locs_ : List Loc) (ls : Array Slot) (hl : lv_has ls 5 [(4, .int (nI q)), (3, .int (nI t)), (0, .ref aM), (1, .int (nI nn)), (2, .int (bI tn2))]) (w : ga_wd G A_ s_ H_ locs_ [(aM, .inr (7, [.ref mT, .int (nI 0), .int (nI n), .int (nI k), .ref mF, .ref mO, .ref mC, .int (nI li), .int (nI fa), .int (nI mm9), .int (bI im9), .ref mR, .ref mZ, .ref mS, .ref mH, .int (bI true), .int (bI tn2), .int (nI nn), .ref mL, .ref mN, .ref mX, .ref mY, .int (nI tu)])), (mF, .inl (G.2.2, 16, .inl (aN fr))), (mO, .inl (G.2.2, 16, .inl (aN to))), (mR, .inl (G.2.2, 3200, .inl (aN rw9))), (mZ, .inl (G.2.2, 200, .inl (aN sz9))), (mS, .inl (G.2.2, 200, .inl (aN st9))), (mH, .inl (G.2.2, 200, .inl (aN hs9))), (mN, .inl (G.2.2, 16, .inl (aN nw9))), (mT, .inl (G.2.1, 40, .inl tm)), (mL, .inl (G.2.2, 16, .inl lv))]), W p_ l e_ { frames := 3, cells := 0, slots := 0, locals := 67 } s_ m_ [.ref aM, .int (nI nn), .int (bI tn2)].toArray below meth c_ H_ locs_ (0) (0) (MQ below (ga_Q G A_ (fun r w => ∃ (mm2 : Nat), ∃ (im2 : Bool), ∃ (rw2 : Nat → Nat), ∃ (sz2 : Nat → Nat), ∃ (st2 : Nat → Nat), ∃ (hs2 : Nat → Nat), ∃ (nw2 : Nat → Nat), ∃ (lg2 : Nat → Int32), (∀ j, j < nn → lg2 j = sgb (tb j)) ∧ r = some (.int (sRead (WL n k fr to) li nn tn2 tb)) ∧ w = [(aM, .inr (7, [.ref mT, .int (nI 0), .int (nI n), .int (nI k), .ref mF, .ref mO, .ref mC, .int (nI li), .int (nI fa), .int (nI mm2), .int (bI im2), .ref mR, .ref mZ, .ref mS, .ref mH, .int (bI true), .int (bI tn2), .int (nI nn), .ref mL, .ref mN, .ref mX, .ref mY, .int (nI tu)])), (mF, .inl (G.2.2, 16, .inl (aN fr))), (mO, .inl (G.2.2, 16, .inl (aN to))), (mR, .inl (G.2.2, 3200, .inl (aN rw2))), (mZ, .inl (G.2.2, 200, .inl (aN sz2))), (mS, .inl (G.2.2, 200, .inl (aN st2))), (mH, .inl (G.2.2, 200, .inl (aN hs2))), (mN, .inl (G.2.2, 16, .inl (aN nw2))), (mT, .inl (G.2.1, 40, .inl tm)), (mL, .inl (G.2.2, 16, .inl lg2))])) [.ref aM, .int (nI nn), .int (bI tn2)].toArray s_ 0 0 A_) (F0 m_ 82 ls []) := by
                intro n_
                induction n_ with
                | zero => intro q t hq ht hm; exact absurd hm (Nat.not_lt_zero _)
                | succ n_ ih82 =>
                  intro q t hq ht hm82 H_ locs_ ls hl w
                  refine lv_iload hx hb dX7_read_82 (lv_at hl 0 rfl) ?_
                  refine lv_aload_n hx hb dX7_read_84 rfl (lv_at hl 2 rfl) ?_
                  refine gf_X7_83 cx hK w 0 rfl rfl dX7_read_85 ?_
                  refine r_icmp_ge hx hb dX7_read_88 (tgt := 114) (by decide) (by omega) (by omega) (fun c88 => ?_) (fun c88 => ?_)
                  · refine lv_iload_n hx hb dX7_read_114 rfl (lv_at hl 1 rfl) ?_
                    exact ga_iret cx hr hlk w dX7_read_115 ⟨Nat.le_refl _, Nat.le_refl _⟩ (⟨mm9, im9, rw9, sz9, st9, hs9, nw9, lv, (fun j hj => hlv j (by omega)), ga_rv (by rw [sRead, if_neg htm, ht, show q = (WL n k fr to).length by omega]), rfl⟩)
                  · refine lv_iload_n hx hb dX7_read_91 rfl (lv_at hl 1 rfl) ?_
                    refine lv_aload_n hx hb dX7_read_92 rfl (lv_at hl 2 rfl) ?_
                    refine lv_iload hx hb dX7_read_93 (lv_at hl 0 rfl) ?_
                    refine ga_callV (rest := [.int (nI t)]) (wr := [(mF, .inl (G.2.2, 16, .inl (aN fr))), (mO, .inl (G.2.2, 16, .inl (aN to))), (mS, .inl (G.2.2, 200, .inl (aN st9))), (mH, .inl (G.2.2, 200, .inl (aN hs9))), (mN, .inl (G.2.2, 16, .inl (aN nw9))), (mT, .inl (G.2.1, 40, .inl tm))]) cx hK hA w hl lk_X7_150 (c_X7_allows l G aM mT mF mO mC mR mZ mS mH mL mN mX mY 0 n k li fa mm9 im9 true tn2 nn tu sz9 rw9 lv q (((WL n k fr to).getD q []).filter (Nat.testBit li)) tb (by omega) (by rw [(hr9.2.2.2.2 q (by omega)).2.1]; exact (hr9.2.2.2.2 q (by omega)).1) (fun u hu => by have hw9 := hr9.2.2.2.2 q (by omega); rw [hw9.2.1] at hu; rw [hw9.2.2.2.2 u hu]; exact path16 hF (by omega) hu) (by omega) (lgl_eq hR9 (by omega) li) (fun z hz9 => by have h8 := (WL_pth hF (getD_mem (W := WL n k fr to) (i := q) (by omega))).1 z (List.mem_filter.mp hz9).1; omega) (by omega) (fun j hj => ⟨hlv j (by omega), (htb j (by omega)).2⟩)) ⟨Nat.le_of_ble_eq_true rfl, Nat.le_of_ble_eq_true rfl⟩ [0, 3, 4, 9] [1, 2, 5, 6, 7, 8] rfl rfl (by decide) (by decide) (by decide) 0 7 rfl rfl rfl rfl (Nat.le_of_ble_eq_true rfl) dX7_read_95 ⟨Nat.le_refl _, Nat.le_refl _⟩ rfl (fun r w1_ H_ locs_ hp w => ?_)
                    obtain ⟨rfl, rfl⟩ := hp
                    have w : ga_wd G A_ s_ H_ locs_ [(aM, .inr (7, [.ref mT, .int (nI 0), .int (nI n), .int (nI k), .ref mF, .ref mO, .ref mC, .int (nI li), .int (nI fa), .int (nI mm9), .int (bI im9), .ref mR, .ref mZ, .ref mS, .ref mH, .int (bI true), .int (bI tn2), .int (nI nn), .ref mL, .ref mN, .ref mX, .ref mY, .int (nI tu)])), (mF, .inl (G.2.2, 16, .inl (aN fr))), (mO, .inl (G.2.2, 16, .inl (aN to))), (mR, .inl (G.2.2, 3200, .inl (aN rw9))), (mZ, .inl (G.2.2, 200, .inl (aN sz9))), (mS, .inl (G.2.2, 200, .inl (aN st9))), (mH, .inl (G.2.2, 200, .inl (aN hs9))), (mN, .inl (G.2.2, 16, .inl (aN nw9))), (mT, .inl (G.2.1, 40, .inl tm)), (mL, .inl (G.2.2, 16, .inl lv))] := ga_perm w [6, 0, 1, 7, 8, 2, 3, 4, 5, 9] (by decide) rfl
                    refine W.eq (g2 := F0 m_ 98 ls [.int (bI (alQ nn tn2 tb (((WL n k fr to).getD q []).filter (Nat.testBit li)))), .int (nI t)]) rfl ?_
                    refine r_ifb_eq hx hb dX7_read_98 (tgt := 105) (by decide) (fun c98 => ?_) (fun c98 => ?_)
                    · refine lv_iconst (v := nI 0) hx hb dX7_read_105 (by decide) ?_
                      refine r_iadd hx hb dX7_read_106 ?_
                      refine lv_istore_n (lv' := [(3, .int (nI (t + 0))), (4, .int (nI q)), (0, .ref aM), (1, .int (nI nn)), (2, .int (bI tn2))]) hx hb dX7_read_107 rfl hl (by decide) rfl (fun ls hl => ?_)
                      refine r_iinc (d := 1) (k := 1) (lv' := [(4, .int (nI (q + 1))), (3, .int (nI (t + 0))), (0, .ref aM), (1, .int (nI nn)), (2, .int (bI tn2))]) hx hb dX7_read_108 hl rfl (by decide) (by decide) rfl (fun ls hl => ?_)
                      refine lv_goto (tgt := 82) hx hb dX7_read_111 (by decide) ?_
                      exact ih82 (q + 1) (t + 0) (by omega) (by rw [fl_f (P := (fun i => alS li nn tn2 tb ((WL n k fr to).getD i []))) c98]; exact ht) (by omega) _ _ _ (lv_sub hl [0, 1, 2, 3, 4] rfl) w
                    · refine lv_iconst (v := nI 1) hx hb dX7_read_101 (by decide) ?_
                      refine lv_goto (tgt := 106) hx hb dX7_read_102 (by decide) ?_
                      refine r_iadd hx hb dX7_read_106 ?_
                      refine lv_istore_n (lv' := [(3, .int (nI (t + 1))), (4, .int (nI q)), (0, .ref aM), (1, .int (nI nn)), (2, .int (bI tn2))]) hx hb dX7_read_107 rfl hl (by decide) rfl (fun ls hl => ?_)
                      refine r_iinc (d := 1) (k := 1) (lv' := [(4, .int (nI (q + 1))), (3, .int (nI (t + 1))), (0, .ref aM), (1, .int (nI nn)), (2, .int (bI tn2))]) hx hb dX7_read_108 hl rfl (by decide) (by decide) rfl (fun ls hl => ?_)
                      refine lv_goto (tgt := 82) hx hb dX7_read_111 (by decide) ?_
                      exact ih82 (q + 1) (t + 1) (by omega) (by rw [fl_t (P := (fun i => alS li nn tn2 tb ((WL n k fr to).getD i []))) c98, List.length_append, ← ht]; rfl) (by omega) _ _ _ (lv_sub hl [0, 1, 2, 3, 4] rfl) w
              exact loop82 _ 0 0 (by omega) (rfl) (Nat.lt_succ_self _) _ _ _ (lv_sub hl [0, 1, 2, 3, 4] rfl) w
            · have htm : 200 < (WL n k fr to).length := of_decide_eq_true (by rw [← hr9.2.1]; exact c71)
              refine lv_bipush (v := (-2)) hx hb dX7_read_74 (by decide) ?_
              exact ga_iret cx hr hlk w dX7_read_76 ⟨Nat.le_refl _, Nat.le_refl _⟩ (⟨mm9, im9, rw9, sz9, st9, hs9, nw9, lv, (fun j hj => hlv j (by omega)), ga_rv (by rw [sRead, if_pos htm]), rfl⟩)
          · refine lv_aload_n hx hb dX7_read_49 rfl (lv_at hl 1 rfl) ?_
            refine gf_X7_39 cx hK w 0 rfl rfl dX7_read_50 ?_
            refine lv_iload_n hx hb dX7_read_53 rfl (lv_at hl 0 rfl) ?_
            refine lv_aload_n hx hb dX7_read_54 rfl (lv_at hl 1 rfl) ?_
            refine gf_X7_7 cx hK w 0 rfl rfl dX7_read_55 ?_
            refine lv_iload_n hx hb dX7_read_58 rfl (lv_at hl 0 rfl) ?_
            refine r_bald hx hb hK w 8 rfl dX7_read_59 (by omega) (by decide) ?_
            refine r_iast (f := lv) hx hb hK w 9 rfl dX7_read_60 (by omega) (by decide) (fun H_ locs_ w => ?_)
            have w : ga_wd G A_ s_ H_ locs_ [(aM, .inr (7, [.ref mT, .int (nI 0), .int (nI n), .int (nI k), .ref mF, .ref mO, .ref mC, .int (nI li), .int (nI fa), .int (nI mm), .int (bI im), .ref mR, .ref mZ, .ref mS, .ref mH, .int (nI 1), .int (bI tn2), .int (nI nn), .ref mL, .ref mN, .ref mX, .ref mY, .int (nI tu)])), (mF, .inl (G.2.2, 16, .inl (aN fr))), (mO, .inl (G.2.2, 16, .inl (aN to))), (mR, .inl (G.2.2, 3200, .inl (aN rw))), (mZ, .inl (G.2.2, 200, .inl (aN sz))), (mS, .inl (G.2.2, 200, .inl (aN st))), (mH, .inl (G.2.2, 200, .inl (aN hs))), (mN, .inl (G.2.2, 16, .inl (aN nw))), (mT, .inl (G.2.1, 40, .inl tm)), (mL, .inl (G.2.2, 16, .inl (upd lv i (tm i))))] := w
            refine r_iinc (d := 1) (k := 0) (lv' := [(3, .int (nI (i + 1))), (0, .ref aM), (1, .int (nI nn)), (2, .int (bI tn2))]) hx hb dX7_read_61 hl rfl (by decide) (by decide) rfl (fun ls hl => ?_)
            refine lv_goto (tgt := 44) hx hb dX7_read_64 (by decide) ?_
            exact ih44 (i + 1) (upd lv i (tm i)) (by omega) (fun j hj => by rcases Nat.lt_or_ge j i with h | h; (rw [pk_un (by omega)]; exact hlv j h); (rw [show j = i by omega, pk_us]; exact (htb i (by omega)).1)) (by omega) _ _ _ (lv_sub hl [0, 1, 2, 3] rfl) w
      exact loop44 _ 0 lg (by omega) (fun j h => absurd h (Nat.not_lt_zero _)) (Nat.lt_succ_self _) _ _ _ (lv_sub hl [0, 1, 2, 3] rfl) w
    · omega

set_option maxHeartbeats 4000000 in
set_option maxRecDepth 100000 in
theorem c_X7_read_f (l : Launch) (G : ga_G) (aM : Nat) (mT : Nat) (mF : Nat) (mO : Nat) (mC : Nat) (mR : Nat) (mZ : Nat) (mS : Nat) (mH : Nat) (mL : Nat) (mN : Nat) (mX : Nat) (mY : Nat) (tl : Nat) (n : Nat) (k : Nat) (li : Nat) (fa : Nat) (mm : Nat) (im : Bool) (ird : Bool) (itn : Bool) (lsz : Nat) (tu : Nat) (x : Int32) (tn2 : Bool) (htl : tl ≤ 40) (hno : ∀ j, x = nI j → j ≤ 16 → ¬ j ≤ tl) : ga_M l G yX7_read cX7_read 5 (Option.some Jvm.ClassFile.FieldType.int) 1 25 0 0 [.ref aM, .int x, .int (bI tn2)] [(aM, .inr (7, [.ref mT, .int (nI tl), .int (nI n), .int (nI k), .ref mF, .ref mO, .ref mC, .int (nI li), .int (nI fa), .int (nI mm), .int (bI im), .ref mR, .ref mZ, .ref mS, .ref mH, .int (bI ird), .int (bI itn), .int (nI lsz), .ref mL, .ref mN, .ref mX, .ref mY, .int (nI tu)]))] (fun r w => r = some (.int (-1)) ∧ w = [(aM, .inr (7, [.ref mT, .int (nI tl), .int (nI n), .int (nI k), .ref mF, .ref mO, .ref mC, .int (nI li), .int (nI fa), .int (nI mm), .int (bI im), .ref mR, .ref mZ, .ref mS, .ref mH, .int (bI ird), .int (bI itn), .int (nI lsz), .ref mL, .ref mN, .ref mX, .ref mY, .int (nI tu)]))]) := by
  refine ga_M.intro (by decide) (Nat.le_of_ble_eq_true rfl) (fun p_ e_ s_ m_ below meth c_ A_ H_ locs_ ls cx hr hlk hnm hA hK hl w => ?_)
  have hx := cx.1
  have hb := cx.2.1
  have hl : lv_has ls 5 [(0, .ref aM), (1, .int x), (2, .int (bI tn2))] := hl
  refine lv_iload_n hx hb dX7_read_0 rfl (lv_at hl 1 rfl) ?_
  refine lv_i2l hx hb dX7_read_1 rfl ?_
  refine lv_lconst (v := lN 0) hx hb dX7_read_2 (by decide) ?_
  refine lv_ldc2 hx hb cx.2.2.2.1 (cx.2.2.2.2 _ tm_705) dX7_read_3 ?_
  refine r_topl (y := lN 16) rfl ?_
  refine ga_callS (rest := []) (wr := [(aM, .inr (7, [.ref mT, .int (nI tl), .int (nI n), .int (nI k), .ref mF, .ref mO, .ref mC, .int (nI li), .int (nI fa), .int (nI mm), .int (bI im), .ref mR, .ref mZ, .ref mS, .ref mH, .int (bI ird), .int (bI itn), .int (nI lsz), .ref mL, .ref mN, .ref mX, .ref mY, .int (nI tu)]))]) cx hK hA w hl lk_X7_55 (c_X7_lies l G x.toInt64 (lN 0) (lN 16) ) ⟨Nat.le_of_ble_eq_true rfl, Nat.le_of_ble_eq_true rfl⟩ [] [0] rfl rfl (by decide) (by decide) (by decide) rfl (Nat.le_of_ble_eq_true rfl) dX7_read_6 ⟨Nat.le_refl _, Nat.le_refl _⟩ rfl (fun r w1_ H_ locs_ hp w => ?_)
  obtain ⟨rfl, rfl⟩ := hp
  have w : ga_wd G A_ s_ H_ locs_ [(aM, .inr (7, [.ref mT, .int (nI tl), .int (nI n), .int (nI k), .ref mF, .ref mO, .ref mC, .int (nI li), .int (nI fa), .int (nI mm), .int (bI im), .ref mR, .ref mZ, .ref mS, .ref mH, .int (bI ird), .int (bI itn), .int (nI lsz), .ref mL, .ref mN, .ref mX, .ref mY, .int (nI tu)]))] := ga_perm w [0] (by decide) rfl
  refine W.eq (g2 := F0 m_ 9 ls [.int (bI (lsB x.toInt64 (lN 0) (lN 16)))]) rfl ?_
  refine r_ifb_eq hx hb dX7_read_9 (tgt := 20) (by decide) (fun c9 => ?_) (fun c9 => ?_)
  · refine lv_iconst (v := (-1)) hx hb dX7_read_20 (by decide) ?_
    exact ga_iret cx hr hlk w dX7_read_21 ⟨Nat.le_refl _, Nat.le_refl _⟩ (⟨rfl, rfl⟩)
  · refine lv_iload_n hx hb dX7_read_12 rfl (lv_at hl 1 rfl) ?_
    refine lv_aload_n hx hb dX7_read_13 rfl (lv_at hl 0 rfl) ?_
    refine gf_X7_136 cx hK w 0 rfl rfl dX7_read_14 ?_
    refine lv_icmp_le hx hb dX7_read_17 (tgt := 22) (by decide) (fun c17 => ?_) (fun c17 => ?_)
    · rw [lsB_n _ (by decide)] at c9; obtain ⟨j, hj, rfl⟩ := inB_of (by decide) c9; exact absurd ((nI_leI (by omega) (by omega)).mp c17) (hno j rfl (by omega))
    · refine lv_iconst (v := (-1)) hx hb dX7_read_20 (by decide) ?_
      exact ga_iret cx hr hlk w dX7_read_21 ⟨Nat.le_refl _, Nat.le_refl _⟩ (⟨rfl, rfl⟩)

set_option maxHeartbeats 4000000 in
set_option maxRecDepth 100000 in
theorem c_X7_allowed (l : Launch) (G : ga_G) (aM : Nat) (mT : Nat) (mF : Nat) (mO : Nat) (mC : Nat) (mR : Nat) (mZ : Nat) (mS : Nat) (mH : Nat) (mL : Nat) (mN : Nat) (mX : Nat) (mY : Nat) (tl : Nat) (n : Nat) (k : Nat) (li : Nat) (fa : Nat) (mm : Nat) (im : Bool) (ird : Bool) (itn : Bool) (lsz : Nat) (tu : Nat) (fr : Nat → Nat) (to : Nat → Nat) (ct : Nat → Nat) (sz : Nat → Nat) (st : Nat → Nat) (hs : Nat → Nat) (rw : Nat → Nat) (nw : Nat → Nat) (lg : Nat → Int32) (td : Nat → Nat) (x : Int32) (hF : Flow n k fr to ct) (hli : li < 2 ^ k) (hL : lsz ≤ 16) (hlg : ∀ j, j < lsz → lg j = sgb (td j) ∧ td j < 256) : ga_M l G yX7_allowed cX7_allowed 4 (Option.some Jvm.ClassFile.FieldType.int) 3 67 0 0 [.ref aM, .int x] [(aM, .inr (7, [.ref mT, .int (nI tl), .int (nI n), .int (nI k), .ref mF, .ref mO, .ref mC, .int (nI li), .int (nI fa), .int (nI mm), .int (bI im), .ref mR, .ref mZ, .ref mS, .ref mH, .int (bI true), .int (bI itn), .int (nI lsz), .ref mL, .ref mN, .ref mX, .ref mY, .int (nI tu)])), (mF, .inl (G.2.2, 16, .inl (aN fr))), (mO, .inl (G.2.2, 16, .inl (aN to))), (mR, .inl (G.2.2, 3200, .inl (aN rw))), (mZ, .inl (G.2.2, 200, .inl (aN sz))), (mS, .inl (G.2.2, 200, .inl (aN st))), (mH, .inl (G.2.2, 200, .inl (aN hs))), (mN, .inl (G.2.2, 16, .inl (aN nw))), (mL, .inl (G.2.2, 16, .inl lg))] (fun r w => ∃ (mm2 : Nat), ∃ (im2 : Bool), ∃ (rw2 : Nat → Nat), ∃ (sz2 : Nat → Nat), ∃ (st2 : Nat → Nat), ∃ (hs2 : Nat → Nat), ∃ (nw2 : Nat → Nat), r = some (.int (sAllowed (WL n k fr to) li lsz itn td x)) ∧ w = [(aM, .inr (7, [.ref mT, .int (nI tl), .int (nI n), .int (nI k), .ref mF, .ref mO, .ref mC, .int (nI li), .int (nI fa), .int (nI mm2), .int (bI im2), .ref mR, .ref mZ, .ref mS, .ref mH, .int (bI true), .int (bI itn), .int (nI lsz), .ref mL, .ref mN, .ref mX, .ref mY, .int (nI tu)])), (mF, .inl (G.2.2, 16, .inl (aN fr))), (mO, .inl (G.2.2, 16, .inl (aN to))), (mR, .inl (G.2.2, 3200, .inl (aN rw2))), (mZ, .inl (G.2.2, 200, .inl (aN sz2))), (mS, .inl (G.2.2, 200, .inl (aN st2))), (mH, .inl (G.2.2, 200, .inl (aN hs2))), (mN, .inl (G.2.2, 16, .inl (aN nw2))), (mL, .inl (G.2.2, 16, .inl lg))]) := by
  refine ga_M.intro (by decide) (Nat.le_of_ble_eq_true rfl) (fun p_ e_ s_ m_ below meth c_ A_ H_ locs_ ls cx hr hlk hnm hA hK hl w => ?_)
  have hx := cx.1
  have hb := cx.2.1
  have hl : lv_has ls 4 [(0, .ref aM), (1, .int x)] := hl
  have hk16 := hF.2.2.1
  have hl16 : li < 65536 := Nat.lt_of_lt_of_le hli (Nat.pow_le_pow_right (by decide) hF.2.2.1)
  refine lv_aload_n hx hb dX7_allowed_0 rfl (lv_at hl 0 rfl) ?_
  refine gf_X7_69 cx hK w 0 rfl rfl dX7_allowed_1 ?_
  refine r_ifb_eq hx hb dX7_allowed_4 (tgt := 18) (by decide) (fun c4 => ?_) (fun c4 => ?_)
  · cases c4
  · refine lv_iload_n hx hb dX7_allowed_7 rfl (lv_at hl 1 rfl) ?_
    refine lv_if_lt hx hb dX7_allowed_8 (tgt := 18) (by decide) (fun c8 => ?_) (fun c8 => ?_)
    · refine lv_iconst (v := (-1)) hx hb dX7_allowed_18 (by decide) ?_
      exact ga_iret cx hr hlk w dX7_allowed_19 ⟨Nat.le_refl _, Nat.le_refl _⟩ (⟨mm, im, rw, sz, st, hs, nw, ga_rv (by rw [sAllowed]; split; rfl; (rw [nth_neg c8])), rfl⟩)
    · refine lv_aload_n hx hb dX7_allowed_11 rfl (lv_at hl 0 rfl) ?_
      refine ga_callV (rest := []) (wr := [(mL, .inl (G.2.2, 16, .inl lg))]) cx hK hA w hl lk_X7_96 (c_X7_isTooMany l G aM mT mF mO mC mR mZ mS mH mL mN mX mY tl n k li fa mm im true itn lsz tu fr to ct sz st hs rw nw (hF)) ⟨Nat.le_of_ble_eq_true rfl, Nat.le_of_ble_eq_true rfl⟩ [0, 1, 2, 3, 4, 5, 6, 7] [8] rfl rfl (by decide) (by decide) (by decide) 0 7 rfl rfl rfl rfl (Nat.le_of_ble_eq_true rfl) dX7_allowed_12 ⟨Nat.le_refl _, Nat.le_refl _⟩ rfl (fun r w1_ H_ locs_ hp w => ?_)
      obtain ⟨mm9, im9, rw9, sz9, st9, hs9, nw9, hR9, rfl, rfl⟩ := hp
      have w : ga_wd G A_ s_ H_ locs_ [(aM, .inr (7, [.ref mT, .int (nI tl), .int (nI n), .int (nI k), .ref mF, .ref mO, .ref mC, .int (nI li), .int (nI fa), .int (nI mm9), .int (bI im9), .ref mR, .ref mZ, .ref mS, .ref mH, .int (bI true), .int (bI itn), .int (nI lsz), .ref mL, .ref mN, .ref mX, .ref mY, .int (nI tu)])), (mF, .inl (G.2.2, 16, .inl (aN fr))), (mO, .inl (G.2.2, 16, .inl (aN to))), (mR, .inl (G.2.2, 3200, .inl (aN rw9))), (mZ, .inl (G.2.2, 200, .inl (aN sz9))), (mS, .inl (G.2.2, 200, .inl (aN st9))), (mH, .inl (G.2.2, 200, .inl (aN hs9))), (mN, .inl (G.2.2, 16, .inl (aN nw9))), (mL, .inl (G.2.2, 16, .inl lg))] := ga_perm w [1, 2, 3, 4, 5, 6, 7, 8, 0] (by decide) rfl
      refine W.eq (g2 := F0 m_ 15 ls [.int (bI im9)]) rfl ?_
      have hr9 := RepM_f hR9
      refine r_ifb_eq hx hb dX7_allowed_15 (tgt := 20) (by decide) (fun c15 => ?_) (fun c15 => ?_)
      · have htm : ¬ 200 < (WL n k fr to).length := of_decide_eq_false (by rw [← hr9.2.1]; exact c15)
        have hnc := hr9.2.2.1 c15
        refine lv_iconst (v := nI 0) hx hb dX7_allowed_20 (by decide) ?_
        refine lv_istore_n (lv' := [(2, .int (nI 0)), (0, .ref aM), (1, .int x)]) hx hb dX7_allowed_21 rfl hl (by decide) rfl (fun ls hl => ?_)
        refine lv_iconst (v := nI 0) hx hb dX7_allowed_22 (by decide) ?_
        refine lv_istore_n (lv' := [(3, .int (nI 0)), (2, .int (nI 0)), (0, .ref aM), (1, .int x)]) hx hb dX7_allowed_23 rfl hl (by decide) rfl (fun ls hl => ?_)
        have loop24 : ∀ (n_ : Nat) (q : Nat) (t : Nat) (hq : q ≤ mm9) (hz : scU (fun i => alS li lsz itn td ((WL n k fr to).getD i [])) x t q) (hm : mm9 - q < n_) (H_ : Heap) (locs_ : List Loc) (ls : Array Slot) (hl : lv_has ls 4 [(3, .int (nI q)), (2, .int (nI t)), (0, .ref aM), (1, .int x)]) (w : ga_wd G A_ s_ H_ locs_ [(aM, .inr (7, [.ref mT, .int (nI tl), .int (nI n), .int (nI k), .ref mF, .ref mO, .ref mC, .int (nI li), .int (nI fa), .int (nI mm9), .int (bI im9), .ref mR, .ref mZ, .ref mS, .ref mH, .int (bI true), .int (bI itn), .int (nI lsz), .ref mL, .ref mN, .ref mX, .ref mY, .int (nI tu)])), (mF, .inl (G.2.2, 16, .inl (aN fr))), (mO, .inl (G.2.2, 16, .inl (aN to))), (mR, .inl (G.2.2, 3200, .inl (aN rw9))), (mZ, .inl (G.2.2, 200, .inl (aN sz9))), (mS, .inl (G.2.2, 200, .inl (aN st9))), (mH, .inl (G.2.2, 200, .inl (aN hs9))), (mN, .inl (G.2.2, 16, .inl (aN nw9))), (mL, .inl (G.2.2, 16, .inl lg))]), W p_ l e_ { frames := 3, cells := 0, slots := 0, locals := 67 } s_ m_ [.ref aM, .int x].toArray below meth c_ H_ locs_ (0) (0) (MQ below (ga_Q G A_ (fun r w => ∃ (mm2 : Nat), ∃ (im2 : Bool), ∃ (rw2 : Nat → Nat), ∃ (sz2 : Nat → Nat), ∃ (st2 : Nat → Nat), ∃ (hs2 : Nat → Nat), ∃ (nw2 : Nat → Nat), r = some (.int (sAllowed (WL n k fr to) li lsz itn td x)) ∧ w = [(aM, .inr (7, [.ref mT, .int (nI tl), .int (nI n), .int (nI k), .ref mF, .ref mO, .ref mC, .int (nI li), .int (nI fa), .int (nI mm2), .int (bI im2), .ref mR, .ref mZ, .ref mS, .ref mH, .int (bI true), .int (bI itn), .int (nI lsz), .ref mL, .ref mN, .ref mX, .ref mY, .int (nI tu)])), (mF, .inl (G.2.2, 16, .inl (aN fr))), (mO, .inl (G.2.2, 16, .inl (aN to))), (mR, .inl (G.2.2, 3200, .inl (aN rw2))), (mZ, .inl (G.2.2, 200, .inl (aN sz2))), (mS, .inl (G.2.2, 200, .inl (aN st2))), (mH, .inl (G.2.2, 200, .inl (aN hs2))), (mN, .inl (G.2.2, 16, .inl (aN nw2))), (mL, .inl (G.2.2, 16, .inl lg))])) [.ref aM, .int x].toArray s_ 0 0 A_) (F0 m_ 24 ls []) := by
          intro n_
          induction n_ with
          | zero => intro q t hq hz hm; exact absurd hm (Nat.not_lt_zero _)
          | succ n_ ih24 =>
            intro q t hq hz hm24 H_ locs_ ls hl w
            refine lv_iload_n hx hb dX7_allowed_24 rfl (lv_at hl 0 rfl) ?_
            refine lv_aload_n hx hb dX7_allowed_25 rfl (lv_at hl 2 rfl) ?_
            refine gf_X7_83 cx hK w 0 rfl rfl dX7_allowed_26 ?_
            refine r_icmp_ge hx hb dX7_allowed_29 (tgt := 59) (by decide) (by omega) (by omega) (fun c29 => ?_) (fun c29 => ?_)
            · refine lv_iconst (v := (-1)) hx hb dX7_allowed_59 (by decide) ?_
              exact ga_iret cx hr hlk w dX7_allowed_60 ⟨Nat.le_refl _, Nat.le_refl _⟩ (⟨mm9, im9, rw9, sz9, st9, hs9, nw9, ga_rv (by rw [sAllowed, if_neg htm]; exact (scU_end nI (by rw [show (WL n k fr to).length = q by omega]; exact hz) (by omega)).symm), rfl⟩)
            · refine lv_aload_n hx hb dX7_allowed_32 rfl (lv_at hl 2 rfl) ?_
              refine lv_iload_n hx hb dX7_allowed_33 rfl (lv_at hl 0 rfl) ?_
              refine ga_callV (rest := []) (wr := [(mF, .inl (G.2.2, 16, .inl (aN fr))), (mO, .inl (G.2.2, 16, .inl (aN to))), (mS, .inl (G.2.2, 200, .inl (aN st9))), (mH, .inl (G.2.2, 200, .inl (aN hs9))), (mN, .inl (G.2.2, 16, .inl (aN nw9)))]) cx hK hA w hl lk_X7_150 (c_X7_allows l G aM mT mF mO mC mR mZ mS mH mL mN mX mY tl n k li fa mm9 im9 true itn lsz tu sz9 rw9 lg q (((WL n k fr to).getD q []).filter (Nat.testBit li)) td (by omega) (by rw [(hr9.2.2.2.2 q (by omega)).2.1]; exact (hr9.2.2.2.2 q (by omega)).1) (fun u hu => by have hw9 := hr9.2.2.2.2 q (by omega); rw [hw9.2.1] at hu; rw [hw9.2.2.2.2 u hu]; exact path16 hF (by omega) hu) (by omega) (lgl_eq hR9 (by omega) li) (fun z hz9 => by have h8 := (WL_pth hF (getD_mem (W := WL n k fr to) (i := q) (by omega))).1 z (List.mem_filter.mp hz9).1; omega) (hL) (hlg)) ⟨Nat.le_of_ble_eq_true rfl, Nat.le_of_ble_eq_true rfl⟩ [0, 3, 4, 8] [1, 2, 5, 6, 7] rfl rfl (by decide) (by decide) (by decide) 0 7 rfl rfl rfl rfl (Nat.le_of_ble_eq_true rfl) dX7_allowed_34 ⟨Nat.le_refl _, Nat.le_refl _⟩ rfl (fun r w1_ H_ locs_ hp w => ?_)
              obtain ⟨rfl, rfl⟩ := hp
              have w : ga_wd G A_ s_ H_ locs_ [(aM, .inr (7, [.ref mT, .int (nI tl), .int (nI n), .int (nI k), .ref mF, .ref mO, .ref mC, .int (nI li), .int (nI fa), .int (nI mm9), .int (bI im9), .ref mR, .ref mZ, .ref mS, .ref mH, .int (bI true), .int (bI itn), .int (nI lsz), .ref mL, .ref mN, .ref mX, .ref mY, .int (nI tu)])), (mF, .inl (G.2.2, 16, .inl (aN fr))), (mO, .inl (G.2.2, 16, .inl (aN to))), (mR, .inl (G.2.2, 3200, .inl (aN rw9))), (mZ, .inl (G.2.2, 200, .inl (aN sz9))), (mS, .inl (G.2.2, 200, .inl (aN st9))), (mH, .inl (G.2.2, 200, .inl (aN hs9))), (mN, .inl (G.2.2, 16, .inl (aN nw9))), (mL, .inl (G.2.2, 16, .inl lg))] := ga_perm w [5, 0, 1, 6, 7, 2, 3, 4, 8] (by decide) rfl
              refine W.eq (g2 := F0 m_ 37 ls [.int (bI (alQ lsz itn td (((WL n k fr to).getD q []).filter (Nat.testBit li))))]) rfl ?_
              refine r_ifb_ne hx hb dX7_allowed_37 (tgt := 43) (by decide) (fun c37 => ?_) (fun c37 => ?_)
              · refine lv_iload_n hx hb dX7_allowed_43 rfl (lv_at hl 1 rfl) ?_
                refine lv_iload_n hx hb dX7_allowed_44 rfl (lv_at hl 3 rfl) ?_
                refine lv_icmp_ne hx hb dX7_allowed_45 (tgt := 50) (by decide) (fun c45 => ?_) (fun c45 => ?_)
                · refine r_iinc (d := 1) (k := 1) (lv' := [(2, .int (nI (t + 1))), (3, .int (nI q)), (0, .ref aM), (1, .int x)]) hx hb dX7_allowed_50 hl rfl (by decide) (by decide) rfl (fun ls hl => ?_)
                  refine r_iinc (d := 1) (k := 1) (lv' := [(3, .int (nI (q + 1))), (2, .int (nI (t + 1))), (0, .ref aM), (1, .int x)]) hx hb dX7_allowed_53 hl rfl (by decide) (by decide) rfl (fun ls hl => ?_)
                  refine lv_goto (tgt := 24) hx hb dX7_allowed_56 (by decide) ?_
                  exact ih24 (q + 1) (t + 1) (by omega) (scU_t hz c37 c45) (by omega) _ _ _ (lv_sub hl [0, 1, 2, 3] rfl) w
                · refine lv_iload_n hx hb dX7_allowed_48 rfl (lv_at hl 0 rfl) ?_
                  exact ga_iret cx hr hlk w dX7_allowed_49 ⟨Nat.le_refl _, Nat.le_refl _⟩ (⟨mm9, im9, rw9, sz9, st9, hs9, nw9, ga_rv (by rw [sAllowed, if_neg htm]; exact (scU_hit nI hz c37 (by omega) (by omega) c45).symm), rfl⟩)
              · refine lv_goto (tgt := 53) hx hb dX7_allowed_40 (by decide) ?_
                refine r_iinc (d := 1) (k := 0) (lv' := [(3, .int (nI (q + 1))), (2, .int (nI t)), (0, .ref aM), (1, .int x)]) hx hb dX7_allowed_53 hl rfl (by decide) (by decide) rfl (fun ls hl => ?_)
                refine lv_goto (tgt := 24) hx hb dX7_allowed_56 (by decide) ?_
                exact ih24 (q + 1) t (by omega) (scU_f hz c37) (by omega) _ _ _ (lv_sub hl [0, 1, 2, 3] rfl) w
        exact loop24 _ 0 0 (by omega) (scU_0 _ _) (Nat.lt_succ_self _) _ _ _ (lv_sub hl [0, 1, 2, 3] rfl) w
      · have htm : 200 < (WL n k fr to).length := of_decide_eq_true (by rw [← hr9.2.1]; exact c15)
        refine lv_iconst (v := (-1)) hx hb dX7_allowed_18 (by decide) ?_
        exact ga_iret cx hr hlk w dX7_allowed_19 ⟨Nat.le_refl _, Nat.le_refl _⟩ (⟨mm9, im9, rw9, sz9, st9, hs9, nw9, ga_rv (by rw [sAllowed, if_pos htm]), rfl⟩)

set_option maxHeartbeats 4000000 in
set_option maxRecDepth 100000 in
theorem c_X7_allowed0 (l : Launch) (G : ga_G) (aM : Nat) (mT : Nat) (mF : Nat) (mO : Nat) (mC : Nat) (mR : Nat) (mZ : Nat) (mS : Nat) (mH : Nat) (mL : Nat) (mN : Nat) (mX : Nat) (mY : Nat) (tl : Nat) (n : Nat) (k : Nat) (li : Nat) (fa : Nat) (mm : Nat) (im : Bool) (itn : Bool) (lsz : Nat) (tu : Nat) (x : Int32)  : ga_M l G yX7_allowed cX7_allowed 4 (Option.some Jvm.ClassFile.FieldType.int) 0 0 0 0 [.ref aM, .int x] [(aM, .inr (7, [.ref mT, .int (nI tl), .int (nI n), .int (nI k), .ref mF, .ref mO, .ref mC, .int (nI li), .int (nI fa), .int (nI mm), .int (bI im), .ref mR, .ref mZ, .ref mS, .ref mH, .int (bI false), .int (bI itn), .int (nI lsz), .ref mL, .ref mN, .ref mX, .ref mY, .int (nI tu)]))] (fun r w => r = some (.int (-1)) ∧ w = [(aM, .inr (7, [.ref mT, .int (nI tl), .int (nI n), .int (nI k), .ref mF, .ref mO, .ref mC, .int (nI li), .int (nI fa), .int (nI mm), .int (bI im), .ref mR, .ref mZ, .ref mS, .ref mH, .int (bI false), .int (bI itn), .int (nI lsz), .ref mL, .ref mN, .ref mX, .ref mY, .int (nI tu)]))]) := by
  refine ga_M.intro (by decide) (Nat.le_of_ble_eq_true rfl) (fun p_ e_ s_ m_ below meth c_ A_ H_ locs_ ls cx hr hlk hnm hA hK hl w => ?_)
  have hx := cx.1
  have hb := cx.2.1
  have hl : lv_has ls 4 [(0, .ref aM), (1, .int x)] := hl
  refine lv_aload_n hx hb dX7_allowed_0 rfl (lv_at hl 0 rfl) ?_
  refine gf_X7_69 cx hK w 0 rfl rfl dX7_allowed_1 ?_
  refine r_ifb_eq hx hb dX7_allowed_4 (tgt := 18) (by decide) (fun c4 => ?_) (fun c4 => ?_)
  · refine lv_iconst (v := (-1)) hx hb dX7_allowed_18 (by decide) ?_
    exact ga_iret cx hr hlk w dX7_allowed_19 ⟨Nat.le_refl _, Nat.le_refl _⟩ (⟨rfl, rfl⟩)
  · cases c4

set_option maxHeartbeats 4000000 in
set_option maxRecDepth 100000 in
theorem c_X7_found_x (l : Launch) (G : ga_G) (aM : Nat) (mT : Nat) (mF : Nat) (mO : Nat) (mC : Nat) (mR : Nat) (mZ : Nat) (mS : Nat) (mH : Nat) (mL : Nat) (mN : Nat) (mX : Nat) (mY : Nat) (tl : Nat) (n : Nat) (k : Nat) (li : Nat) (fa : Nat) (mm : Nat) (im : Bool) (ird : Bool) (itn : Bool) (lsz : Nat) (tu : Nat) (x : Int32) (hno : inB x 4 = false) : ga_M l G yX7_found cX7_found 7 (Option.some Jvm.ClassFile.FieldType.int) 1 25 0 0 [.ref aM, .int x] [(aM, .inr (7, [.ref mT, .int (nI tl), .int (nI n), .int (nI k), .ref mF, .ref mO, .ref mC, .int (nI li), .int (nI fa), .int (nI mm), .int (bI im), .ref mR, .ref mZ, .ref mS, .ref mH, .int (bI ird), .int (bI itn), .int (nI lsz), .ref mL, .ref mN, .ref mX, .ref mY, .int (nI tu)]))] (fun r w => r = some (.int (-1)) ∧ w = [(aM, .inr (7, [.ref mT, .int (nI tl), .int (nI n), .int (nI k), .ref mF, .ref mO, .ref mC, .int (nI li), .int (nI fa), .int (nI mm), .int (bI im), .ref mR, .ref mZ, .ref mS, .ref mH, .int (bI ird), .int (bI itn), .int (nI lsz), .ref mL, .ref mN, .ref mX, .ref mY, .int (nI tu)]))]) := by
  refine ga_M.intro (by decide) (Nat.le_of_ble_eq_true rfl) (fun p_ e_ s_ m_ below meth c_ A_ H_ locs_ ls cx hr hlk hnm hA hK hl w => ?_)
  have hx := cx.1
  have hb := cx.2.1
  have hl : lv_has ls 7 [(0, .ref aM), (1, .int x)] := hl
  refine lv_aload_n hx hb dX7_found_0 rfl (lv_at hl 0 rfl) ?_
  refine gf_X7_69 cx hK w 0 rfl rfl dX7_found_1 ?_
  refine r_ifb_eq hx hb dX7_found_4 (tgt := 26) (by decide) (fun c4 => ?_) (fun c4 => ?_)
  · refine lv_iconst (v := (-1)) hx hb dX7_found_26 (by decide) ?_
    exact ga_iret cx hr hlk w dX7_found_27 ⟨Nat.le_refl _, Nat.le_refl _⟩ (⟨rfl, rfl⟩)
  · refine lv_iload_n hx hb dX7_found_7 rfl (lv_at hl 1 rfl) ?_
    refine lv_i2l hx hb dX7_found_8 rfl ?_
    refine lv_lconst (v := lN 0) hx hb dX7_found_9 (by decide) ?_
    refine lv_ldc2 hx hb cx.2.2.2.1 (cx.2.2.2.2 _ tm_718) dX7_found_10 ?_
    refine r_topl (y := lN 3) rfl ?_
    refine ga_callS (rest := []) (wr := [(aM, .inr (7, [.ref mT, .int (nI tl), .int (nI n), .int (nI k), .ref mF, .ref mO, .ref mC, .int (nI li), .int (nI fa), .int (nI mm), .int (bI im), .ref mR, .ref mZ, .ref mS, .ref mH, .int (bI ird), .int (bI itn), .int (nI lsz), .ref mL, .ref mN, .ref mX, .ref mY, .int (nI tu)]))]) cx hK hA w hl lk_X7_55 (c_X7_lies l G x.toInt64 (lN 0) (lN 3) ) ⟨Nat.le_of_ble_eq_true rfl, Nat.le_of_ble_eq_true rfl⟩ [] [0] rfl rfl (by decide) (by decide) (by decide) rfl (Nat.le_of_ble_eq_true rfl) dX7_found_13 ⟨Nat.le_refl _, Nat.le_refl _⟩ rfl (fun r w1_ H_ locs_ hp w => ?_)
    obtain ⟨rfl, rfl⟩ := hp
    have w : ga_wd G A_ s_ H_ locs_ [(aM, .inr (7, [.ref mT, .int (nI tl), .int (nI n), .int (nI k), .ref mF, .ref mO, .ref mC, .int (nI li), .int (nI fa), .int (nI mm), .int (bI im), .ref mR, .ref mZ, .ref mS, .ref mH, .int (bI ird), .int (bI itn), .int (nI lsz), .ref mL, .ref mN, .ref mX, .ref mY, .int (nI tu)]))] := ga_perm w [0] (by decide) rfl
    refine W.eq (g2 := F0 m_ 16 ls [.int (bI (lsB x.toInt64 (lN 0) (lN 3)))]) rfl ?_
    refine r_ifb_eq hx hb dX7_found_16 (tgt := 26) (by decide) (fun c16 => ?_) (fun c16 => ?_)
    · refine lv_iconst (v := (-1)) hx hb dX7_found_26 (by decide) ?_
      exact ga_iret cx hr hlk w dX7_found_27 ⟨Nat.le_refl _, Nat.le_refl _⟩ (⟨rfl, rfl⟩)
    · rw [lsB_n _ (by decide), hno] at c16; cases c16

set_option maxHeartbeats 4000000 in
set_option maxRecDepth 100000 in
theorem c_X7_found0 (l : Launch) (G : ga_G) (aM : Nat) (mT : Nat) (mF : Nat) (mO : Nat) (mC : Nat) (mR : Nat) (mZ : Nat) (mS : Nat) (mH : Nat) (mL : Nat) (mN : Nat) (mX : Nat) (mY : Nat) (tl : Nat) (n : Nat) (k : Nat) (li : Nat) (fa : Nat) (mm : Nat) (im : Bool) (itn : Bool) (lsz : Nat) (tu : Nat) (x : Int32)  : ga_M l G yX7_found cX7_found 7 (Option.some Jvm.ClassFile.FieldType.int) 0 0 0 0 [.ref aM, .int x] [(aM, .inr (7, [.ref mT, .int (nI tl), .int (nI n), .int (nI k), .ref mF, .ref mO, .ref mC, .int (nI li), .int (nI fa), .int (nI mm), .int (bI im), .ref mR, .ref mZ, .ref mS, .ref mH, .int (bI false), .int (bI itn), .int (nI lsz), .ref mL, .ref mN, .ref mX, .ref mY, .int (nI tu)]))] (fun r w => r = some (.int (-1)) ∧ w = [(aM, .inr (7, [.ref mT, .int (nI tl), .int (nI n), .int (nI k), .ref mF, .ref mO, .ref mC, .int (nI li), .int (nI fa), .int (nI mm), .int (bI im), .ref mR, .ref mZ, .ref mS, .ref mH, .int (bI false), .int (bI itn), .int (nI lsz), .ref mL, .ref mN, .ref mX, .ref mY, .int (nI tu)]))]) := by
  refine ga_M.intro (by decide) (Nat.le_of_ble_eq_true rfl) (fun p_ e_ s_ m_ below meth c_ A_ H_ locs_ ls cx hr hlk hnm hA hK hl w => ?_)
  have hx := cx.1
  have hb := cx.2.1
  have hl : lv_has ls 7 [(0, .ref aM), (1, .int x)] := hl
  refine lv_aload_n hx hb dX7_found_0 rfl (lv_at hl 0 rfl) ?_
  refine gf_X7_69 cx hK w 0 rfl rfl dX7_found_1 ?_
  refine r_ifb_eq hx hb dX7_found_4 (tgt := 26) (by decide) (fun c4 => ?_) (fun c4 => ?_)
  · refine lv_iconst (v := (-1)) hx hb dX7_found_26 (by decide) ?_
    exact ga_iret cx hr hlk w dX7_found_27 ⟨Nat.le_refl _, Nat.le_refl _⟩ (⟨rfl, rfl⟩)
  · cases c4

set_option maxHeartbeats 4000000 in
set_option maxRecDepth 100000 in
theorem c_X7_found (l : Launch) (G : ga_G) (aM : Nat) (mT : Nat) (mF : Nat) (mO : Nat) (mC : Nat) (mR : Nat) (mZ : Nat) (mS : Nat) (mH : Nat) (mL : Nat) (mN : Nat) (mX : Nat) (mY : Nat) (tl : Nat) (n : Nat) (k : Nat) (li : Nat) (fa : Nat) (mm : Nat) (im : Bool) (ird : Bool) (itn : Bool) (lsz : Nat) (tu : Nat) (fr : Nat → Nat) (to : Nat → Nat) (ct : Nat → Nat) (sz : Nat → Nat) (st : Nat → Nat) (hs : Nat → Nat) (rw : Nat → Nat) (nw : Nat → Nat) (lg : Nat → Int32) (td : Nat → Nat) (y : Nat) (hF : Flow n k fr to ct) (hli : li < 2 ^ k) (hL : lsz ≤ 16) (hlg : ∀ j, j < lsz → lg j = sgb (td j) ∧ td j < 256) (hy : y < 4) : ga_M l G yX7_found cX7_found 7 (Option.some Jvm.ClassFile.FieldType.int) 3 67 0 0 [.ref aM, .int (nI y)] [(aM, .inr (7, [.ref mT, .int (nI tl), .int (nI n), .int (nI k), .ref mF, .ref mO, .ref mC, .int (nI li), .int (nI fa), .int (nI mm), .int (bI im), .ref mR, .ref mZ, .ref mS, .ref mH, .int (bI true), .int (bI itn), .int (nI lsz), .ref mL, .ref mN, .ref mX, .ref mY, .int (nI tu)])), (mF, .inl (G.2.2, 16, .inl (aN fr))), (mO, .inl (G.2.2, 16, .inl (aN to))), (mR, .inl (G.2.2, 3200, .inl (aN rw))), (mZ, .inl (G.2.2, 200, .inl (aN sz))), (mS, .inl (G.2.2, 200, .inl (aN st))), (mH, .inl (G.2.2, 200, .inl (aN hs))), (mN, .inl (G.2.2, 16, .inl (aN nw))), (mL, .inl (G.2.2, 16, .inl lg))] (fun r w => ∃ (mm2 : Nat), ∃ (im2 : Bool), ∃ (rw2 : Nat → Nat), ∃ (sz2 : Nat → Nat), ∃ (st2 : Nat → Nat), ∃ (hs2 : Nat → Nat), ∃ (nw2 : Nat → Nat), r = some (.int (sFound (WL n k fr to) to li fa lsz itn td y)) ∧ w = [(aM, .inr (7, [.ref mT, .int (nI tl), .int (nI n), .int (nI k), .ref mF, .ref mO, .ref mC, .int (nI li), .int (nI fa), .int (nI mm2), .int (bI im2), .ref mR, .ref mZ, .ref mS, .ref mH, .int (bI true), .int (bI itn), .int (nI lsz), .ref mL, .ref mN, .ref mX, .ref mY, .int (nI tu)])), (mF, .inl (G.2.2, 16, .inl (aN fr))), (mO, .inl (G.2.2, 16, .inl (aN to))), (mR, .inl (G.2.2, 3200, .inl (aN rw2))), (mZ, .inl (G.2.2, 200, .inl (aN sz2))), (mS, .inl (G.2.2, 200, .inl (aN st2))), (mH, .inl (G.2.2, 200, .inl (aN hs2))), (mN, .inl (G.2.2, 16, .inl (aN nw2))), (mL, .inl (G.2.2, 16, .inl lg))]) := by
  refine ga_M.intro (by decide) (Nat.le_of_ble_eq_true rfl) (fun p_ e_ s_ m_ below meth c_ A_ H_ locs_ ls cx hr hlk hnm hA hK hl w => ?_)
  have hx := cx.1
  have hb := cx.2.1
  have hl : lv_has ls 7 [(0, .ref aM), (1, .int (nI y))] := hl
  have hk16 := hF.2.2.1
  have hl16 : li < 65536 := Nat.lt_of_lt_of_le hli (Nat.pow_le_pow_right (by decide) hF.2.2.1)
  refine lv_aload_n hx hb dX7_found_0 rfl (lv_at hl 0 rfl) ?_
  refine gf_X7_69 cx hK w 0 rfl rfl dX7_found_1 ?_
  refine r_ifb_eq hx hb dX7_found_4 (tgt := 26) (by decide) (fun c4 => ?_) (fun c4 => ?_)
  · cases c4
  · refine lv_iload_n hx hb dX7_found_7 rfl (lv_at hl 1 rfl) ?_
    refine r_i2l hx hb dX7_found_8 (by omega) ?_
    refine lv_lconst (v := lN 0) hx hb dX7_found_9 (by decide) ?_
    refine lv_ldc2 hx hb cx.2.2.2.1 (cx.2.2.2.2 _ tm_718) dX7_found_10 ?_
    refine r_topl (y := lN 3) rfl ?_
    refine ga_callS (rest := []) (wr := [(aM, .inr (7, [.ref mT, .int (nI tl), .int (nI n), .int (nI k), .ref mF, .ref mO, .ref mC, .int (nI li), .int (nI fa), .int (nI mm), .int (bI im), .ref mR, .ref mZ, .ref mS, .ref mH, .int (bI true), .int (bI itn), .int (nI lsz), .ref mL, .ref mN, .ref mX, .ref mY, .int (nI tu)])), (mF, .inl (G.2.2, 16, .inl (aN fr))), (mO, .inl (G.2.2, 16, .inl (aN to))), (mR, .inl (G.2.2, 3200, .inl (aN rw))), (mZ, .inl (G.2.2, 200, .inl (aN sz))), (mS, .inl (G.2.2, 200, .inl (aN st))), (mH, .inl (G.2.2, 200, .inl (aN hs))), (mN, .inl (G.2.2, 16, .inl (aN nw))), (mL, .inl (G.2.2, 16, .inl lg))]) cx hK hA w hl lk_X7_55 (c_X7_lies l G (lN y) (lN 0) (lN 3) ) ⟨Nat.le_of_ble_eq_true rfl, Nat.le_of_ble_eq_true rfl⟩ [] [0, 1, 2, 3, 4, 5, 6, 7, 8] rfl rfl (by decide) (by decide) (by decide) rfl (Nat.le_of_ble_eq_true rfl) dX7_found_13 ⟨Nat.le_refl _, Nat.le_refl _⟩ rfl (fun r w1_ H_ locs_ hp w => ?_)
    obtain ⟨rfl, rfl⟩ := hp
    have w : ga_wd G A_ s_ H_ locs_ [(aM, .inr (7, [.ref mT, .int (nI tl), .int (nI n), .int (nI k), .ref mF, .ref mO, .ref mC, .int (nI li), .int (nI fa), .int (nI mm), .int (bI im), .ref mR, .ref mZ, .ref mS, .ref mH, .int (bI true), .int (bI itn), .int (nI lsz), .ref mL, .ref mN, .ref mX, .ref mY, .int (nI tu)])), (mF, .inl (G.2.2, 16, .inl (aN fr))), (mO, .inl (G.2.2, 16, .inl (aN to))), (mR, .inl (G.2.2, 3200, .inl (aN rw))), (mZ, .inl (G.2.2, 200, .inl (aN sz))), (mS, .inl (G.2.2, 200, .inl (aN st))), (mH, .inl (G.2.2, 200, .inl (aN hs))), (mN, .inl (G.2.2, 16, .inl (aN nw))), (mL, .inl (G.2.2, 16, .inl lg))] := ga_perm w [0, 1, 2, 3, 4, 5, 6, 7, 8] (by decide) rfl
    refine W.eq (g2 := F0 m_ 16 ls [.int (bI (lsB (lN y) (lN 0) (lN 3)))]) rfl ?_
    refine r_ifb_eq hx hb dX7_found_16 (tgt := 26) (by decide) (fun c16 => ?_) (fun c16 => ?_)
    · rw [show (lN y : Int64) = (nI y).toInt64 from (nI_l (by omega)).symm, lsB_n _ (by decide), inB_y (by omega) (by decide)] at c16; cases c16
    · refine lv_aload_n hx hb dX7_found_19 rfl (lv_at hl 0 rfl) ?_
      refine ga_callV (rest := []) (wr := [(mL, .inl (G.2.2, 16, .inl lg))]) cx hK hA w hl lk_X7_96 (c_X7_isTooMany l G aM mT mF mO mC mR mZ mS mH mL mN mX mY tl n k li fa mm im true itn lsz tu fr to ct sz st hs rw nw (hF)) ⟨Nat.le_of_ble_eq_true rfl, Nat.le_of_ble_eq_true rfl⟩ [0, 1, 2, 3, 4, 5, 6, 7] [8] rfl rfl (by decide) (by decide) (by decide) 0 7 rfl rfl rfl rfl (Nat.le_of_ble_eq_true rfl) dX7_found_20 ⟨Nat.le_refl _, Nat.le_refl _⟩ rfl (fun r w1_ H_ locs_ hp w => ?_)
      obtain ⟨mm9, im9, rw9, sz9, st9, hs9, nw9, hR9, rfl, rfl⟩ := hp
      have w : ga_wd G A_ s_ H_ locs_ [(aM, .inr (7, [.ref mT, .int (nI tl), .int (nI n), .int (nI k), .ref mF, .ref mO, .ref mC, .int (nI li), .int (nI fa), .int (nI mm9), .int (bI im9), .ref mR, .ref mZ, .ref mS, .ref mH, .int (bI true), .int (bI itn), .int (nI lsz), .ref mL, .ref mN, .ref mX, .ref mY, .int (nI tu)])), (mF, .inl (G.2.2, 16, .inl (aN fr))), (mO, .inl (G.2.2, 16, .inl (aN to))), (mR, .inl (G.2.2, 3200, .inl (aN rw9))), (mZ, .inl (G.2.2, 200, .inl (aN sz9))), (mS, .inl (G.2.2, 200, .inl (aN st9))), (mH, .inl (G.2.2, 200, .inl (aN hs9))), (mN, .inl (G.2.2, 16, .inl (aN nw9))), (mL, .inl (G.2.2, 16, .inl lg))] := ga_perm w [1, 2, 3, 4, 5, 6, 7, 8, 0] (by decide) rfl
      refine W.eq (g2 := F0 m_ 23 ls [.int (bI im9)]) rfl ?_
      have hr9 := RepM_f hR9
      refine r_ifb_eq hx hb dX7_found_23 (tgt := 28) (by decide) (fun c23 => ?_) (fun c23 => ?_)
      · have htm : ¬ 200 < (WL n k fr to).length := of_decide_eq_false (by rw [← hr9.2.1]; exact c23)
        have hnc := hr9.2.2.1 c23
        refine lv_iconst (v := (-1)) hx hb dX7_found_28 (by decide) ?_
        refine lv_istore_n (lv' := [(2, .int (-1)), (0, .ref aM), (1, .int (nI y))]) hx hb dX7_found_29 rfl hl (by decide) rfl (fun ls hl => ?_)
        refine lv_iconst (v := nI 0) hx hb dX7_found_30 (by decide) ?_
        refine lv_istore_n (lv' := [(3, .int (nI 0)), (2, .int (-1)), (0, .ref aM), (1, .int (nI y))]) hx hb dX7_found_31 rfl hl (by decide) rfl (fun ls hl => ?_)
        refine lv_iconst (v := nI 0) hx hb dX7_found_32 (by decide) ?_
        refine lv_istore (lv' := [(4, .int (nI 0)), (3, .int (nI 0)), (2, .int (-1)), (0, .ref aM), (1, .int (nI y))]) hx hb dX7_found_33 hl (by decide) rfl (fun ls hl => ?_)
        refine lv_iconst (v := nI 0) hx hb dX7_found_35 (by decide) ?_
        refine lv_istore (lv' := [(5, .int (nI 0)), (4, .int (nI 0)), (3, .int (nI 0)), (2, .int (-1)), (0, .ref aM), (1, .int (nI y))]) hx hb dX7_found_36 hl (by decide) rfl (fun ls hl => ?_)
        have loop38 : ∀ (n_ : Nat) (q : Nat) (su : Int32) (ma : Nat) (so : Bool) (hq : q ≤ mm9) (hsu : su = allI (if y < 2 then st9 else hs9) (fun i => alS li lsz itn td ((WL n k fr to).getD i [])) q) (hma : ma = orI (if y < 2 then st9 else hs9) (fun i => alS li lsz itn td ((WL n k fr to).getD i [])) q) (hso : so = true ↔ ¬ (fl (fun i => alS li lsz itn td ((WL n k fr to).getD i [])) q).length = 0) (hm : mm9 - q < n_) (H_ : Heap) (locs_ : List Loc) (ls : Array Slot) (hl : lv_has ls 7 [(5, .int (nI q)), (4, .int (bI so)), (3, .int (nI ma)), (2, .int su), (0, .ref aM), (1, .int (nI y))]) (w : ga_wd G A_ s_ H_ locs_ [(aM, .inr (7, [.ref mT, .int (nI tl), .int (nI n), .int (nI k), .ref mF, .ref mO, .ref mC, .int (nI li), .int (nI fa), .int (nI mm9), .int (bI im9), .ref mR, .ref mZ, .ref mS, .ref mH, .int (bI true), .int (bI itn), .int (nI lsz), .ref mL, .ref mN, .ref mX, .ref mY, .int (nI tu)])), (mF, .inl (G.2.2, 16, .inl (aN fr))), (mO, .inl (G.2.2, 16, .inl (aN to))), (mR, .inl (G.2.2, 3200, .inl (aN rw9))), (mZ, .inl (G.2.2, 200, .inl (aN sz9))), (mS, .inl (G.2.2, 200, .inl (aN st9))), (mH, .inl (G.2.2, 200, .inl (aN hs9))), (mN, .inl (G.2.2, 16, .inl (aN nw9))), (mL, .inl (G.2.2, 16, .inl lg))]), W p_ l e_ { frames := 3, cells := 0, slots := 0, locals := 67 } s_ m_ [.ref aM, .int (nI y)].toArray below meth c_ H_ locs_ (0) (0) (MQ below (ga_Q G A_ (fun r w => ∃ (mm2 : Nat), ∃ (im2 : Bool), ∃ (rw2 : Nat → Nat), ∃ (sz2 : Nat → Nat), ∃ (st2 : Nat → Nat), ∃ (hs2 : Nat → Nat), ∃ (nw2 : Nat → Nat), r = some (.int (sFound (WL n k fr to) to li fa lsz itn td y)) ∧ w = [(aM, .inr (7, [.ref mT, .int (nI tl), .int (nI n), .int (nI k), .ref mF, .ref mO, .ref mC, .int (nI li), .int (nI fa), .int (nI mm2), .int (bI im2), .ref mR, .ref mZ, .ref mS, .ref mH, .int (bI true), .int (bI itn), .int (nI lsz), .ref mL, .ref mN, .ref mX, .ref mY, .int (nI tu)])), (mF, .inl (G.2.2, 16, .inl (aN fr))), (mO, .inl (G.2.2, 16, .inl (aN to))), (mR, .inl (G.2.2, 3200, .inl (aN rw2))), (mZ, .inl (G.2.2, 200, .inl (aN sz2))), (mS, .inl (G.2.2, 200, .inl (aN st2))), (mH, .inl (G.2.2, 200, .inl (aN hs2))), (mN, .inl (G.2.2, 16, .inl (aN nw2))), (mL, .inl (G.2.2, 16, .inl lg))])) [.ref aM, .int (nI y)].toArray s_ 0 0 A_) (F0 m_ 38 ls []) := by
          intro n_
          induction n_ with
          | zero => intro q su ma so hq hsu hma hso hm; exact absurd hm (Nat.not_lt_zero _)
          | succ n_ ih38 =>
            intro q su ma so hq hsu hma hso hm38 H_ locs_ ls hl w
            refine lv_iload hx hb dX7_found_38 (lv_at hl 0 rfl) ?_
            refine lv_aload_n hx hb dX7_found_40 rfl (lv_at hl 4 rfl) ?_
            refine gf_X7_83 cx hK w 0 rfl rfl dX7_found_41 ?_
            refine r_icmp_ge hx hb dX7_found_44 (tgt := 102) (by decide) (by omega) (by omega) (fun c44 => ?_) (fun c44 => ?_)
            · refine lv_iload hx hb dX7_found_102 (lv_at hl 1 rfl) ?_
              refine r_ifb_ne hx hb dX7_found_104 (tgt := 111) (by decide) (fun c104 => ?_) (fun c104 => ?_)
              · refine lv_iload_n hx hb dX7_found_111 rfl (lv_at hl 5 rfl) ?_
                refine lv_iconst (v := nI 2) hx hb dX7_found_112 (by decide) ?_
                refine lv_irem hx hb dX7_found_113 (by decide) ?_
                refine r_topi (y := nI (y % 2)) (by rw [pk_rem (by omega) (by decide) (by decide)]) ?_
                refine r_if_ne hx hb dX7_found_114 (tgt := 121) (by decide) (by omega) (fun c114 => ?_) (fun c114 => ?_)
                · refine lv_iload_n hx hb dX7_found_121 rfl (lv_at hl 2 rfl) ?_
                  exact ga_iret cx hr hlk w dX7_found_122 ⟨Nat.le_refl _, Nat.le_refl _⟩ (⟨mm9, im9, rw9, sz9, st9, hs9, nw9, ga_rv (by rw [sFound, if_neg htm, if_neg (by rw [show (WL n k fr to).length = q by omega]; exact hso.mp c104)]; rw [show (WL n k fr to).length = q by omega, hma]; rcases (show y = 0 ∨ y = 1 ∨ y = 2 ∨ y = 3 by omega) with rfl | rfl | rfl | rfl <;> first | omega | exact orI_congr (fun i hi => (hr9.2.2.2.2 i (by omega)).2.2.1) (fun _ _ => rfl) | exact orI_congr (fun i hi => (hr9.2.2.2.2 i (by omega)).2.2.2.1) (fun _ _ => rfl) | exact congrArg nI (orI_congr (fun i hi => (hr9.2.2.2.2 i (by omega)).2.2.1) (fun _ _ => rfl)) | exact congrArg nI (orI_congr (fun i hi => (hr9.2.2.2.2 i (by omega)).2.2.2.1) (fun _ _ => rfl))), rfl⟩)
                · refine lv_iload_n hx hb dX7_found_117 rfl (lv_at hl 3 rfl) ?_
                  refine lv_goto (tgt := 122) hx hb dX7_found_118 (by decide) ?_
                  exact ga_iret cx hr hlk w dX7_found_122 ⟨Nat.le_refl _, Nat.le_refl _⟩ (⟨mm9, im9, rw9, sz9, st9, hs9, nw9, ga_rv (by rw [sFound, if_neg htm, if_neg (by rw [show (WL n k fr to).length = q by omega]; exact hso.mp c104)]; rw [show (WL n k fr to).length = q by omega, hsu]; rcases (show y = 0 ∨ y = 1 ∨ y = 2 ∨ y = 3 by omega) with rfl | rfl | rfl | rfl <;> first | omega | exact allI_congr (fun i hi => (hr9.2.2.2.2 i (by omega)).2.2.1) (fun _ _ => rfl) | exact allI_congr (fun i hi => (hr9.2.2.2.2 i (by omega)).2.2.2.1) (fun _ _ => rfl) | exact congrArg nI (allI_congr (fun i hi => (hr9.2.2.2.2 i (by omega)).2.2.1) (fun _ _ => rfl)) | exact congrArg nI (allI_congr (fun i hi => (hr9.2.2.2.2 i (by omega)).2.2.2.1) (fun _ _ => rfl))), rfl⟩)
              · refine lv_iconst (v := (-1)) hx hb dX7_found_107 (by decide) ?_
                refine lv_goto (tgt := 122) hx hb dX7_found_108 (by decide) ?_
                exact ga_iret cx hr hlk w dX7_found_122 ⟨Nat.le_refl _, Nat.le_refl _⟩ (⟨mm9, im9, rw9, sz9, st9, hs9, nw9, ga_rv (by rw [sFound, if_neg htm, if_pos (by rw [show (WL n k fr to).length = q by omega]; exact Decidable.byContradiction (fun z => by rw [hso.mpr z] at c104; cases c104))]), rfl⟩)
            · refine lv_aload_n hx hb dX7_found_47 rfl (lv_at hl 4 rfl) ?_
              refine lv_iload hx hb dX7_found_48 (lv_at hl 0 rfl) ?_
              refine ga_callV (rest := []) (wr := [(mF, .inl (G.2.2, 16, .inl (aN fr))), (mO, .inl (G.2.2, 16, .inl (aN to))), (mS, .inl (G.2.2, 200, .inl (aN st9))), (mH, .inl (G.2.2, 200, .inl (aN hs9))), (mN, .inl (G.2.2, 16, .inl (aN nw9)))]) cx hK hA w hl lk_X7_150 (c_X7_allows l G aM mT mF mO mC mR mZ mS mH mL mN mX mY tl n k li fa mm9 im9 true itn lsz tu sz9 rw9 lg q (((WL n k fr to).getD q []).filter (Nat.testBit li)) td (by omega) (by rw [(hr9.2.2.2.2 q (by omega)).2.1]; exact (hr9.2.2.2.2 q (by omega)).1) (fun u hu => by have hw9 := hr9.2.2.2.2 q (by omega); rw [hw9.2.1] at hu; rw [hw9.2.2.2.2 u hu]; exact path16 hF (by omega) hu) (by omega) (lgl_eq hR9 (by omega) li) (fun z hz9 => by have h8 := (WL_pth hF (getD_mem (W := WL n k fr to) (i := q) (by omega))).1 z (List.mem_filter.mp hz9).1; omega) (hL) (hlg)) ⟨Nat.le_of_ble_eq_true rfl, Nat.le_of_ble_eq_true rfl⟩ [0, 3, 4, 8] [1, 2, 5, 6, 7] rfl rfl (by decide) (by decide) (by decide) 0 7 rfl rfl rfl rfl (Nat.le_of_ble_eq_true rfl) dX7_found_50 ⟨Nat.le_refl _, Nat.le_refl _⟩ rfl (fun r w1_ H_ locs_ hp w => ?_)
              obtain ⟨rfl, rfl⟩ := hp
              have w : ga_wd G A_ s_ H_ locs_ [(aM, .inr (7, [.ref mT, .int (nI tl), .int (nI n), .int (nI k), .ref mF, .ref mO, .ref mC, .int (nI li), .int (nI fa), .int (nI mm9), .int (bI im9), .ref mR, .ref mZ, .ref mS, .ref mH, .int (bI true), .int (bI itn), .int (nI lsz), .ref mL, .ref mN, .ref mX, .ref mY, .int (nI tu)])), (mF, .inl (G.2.2, 16, .inl (aN fr))), (mO, .inl (G.2.2, 16, .inl (aN to))), (mR, .inl (G.2.2, 3200, .inl (aN rw9))), (mZ, .inl (G.2.2, 200, .inl (aN sz9))), (mS, .inl (G.2.2, 200, .inl (aN st9))), (mH, .inl (G.2.2, 200, .inl (aN hs9))), (mN, .inl (G.2.2, 16, .inl (aN nw9))), (mL, .inl (G.2.2, 16, .inl lg))] := ga_perm w [5, 0, 1, 6, 7, 2, 3, 4, 8] (by decide) rfl
              refine W.eq (g2 := F0 m_ 53 ls [.int (bI (alQ lsz itn td (((WL n k fr to).getD q []).filter (Nat.testBit li))))]) rfl ?_
              refine r_ifb_ne hx hb dX7_found_53 (tgt := 59) (by decide) (fun c53 => ?_) (fun c53 => ?_)
              · have c53 : alS li lsz itn td ((WL n k fr to).getD q []) = true := c53
                refine lv_iload_n hx hb dX7_found_59 rfl (lv_at hl 5 rfl) ?_
                refine lv_iconst (v := nI 2) hx hb dX7_found_60 (by decide) ?_
                refine r_icmp_ge hx hb dX7_found_61 (tgt := 74) (by decide) (by omega) (by omega) (fun c61 => ?_) (fun c61 => ?_)
                · refine lv_aload_n hx hb dX7_found_74 rfl (lv_at hl 4 rfl) ?_
                  refine gf_X7_36 cx hK w 0 rfl rfl dX7_found_75 ?_
                  refine lv_iload hx hb dX7_found_78 (lv_at hl 0 rfl) ?_
                  refine r_ialdN hx hb hK w 6 rfl dX7_found_80 (by omega) (by decide) ?_
                  refine lv_istore (lv' := [(6, .int (nI (hs9 q))), (5, .int (nI q)), (4, .int (bI so)), (3, .int (nI ma)), (2, .int su), (0, .ref aM), (1, .int (nI y))]) hx hb dX7_found_81 hl (by decide) rfl (fun ls hl => ?_)
                  refine lv_iload_n hx hb dX7_found_83 rfl (lv_at hl 4 rfl) ?_
                  refine lv_iload hx hb dX7_found_84 (lv_at hl 0 rfl) ?_
                  refine lv_iand hx hb dX7_found_86 ?_
                  refine lv_istore_n (lv' := [(2, .int (su &&& (nI (hs9 q)))), (6, .int (nI (hs9 q))), (5, .int (nI q)), (4, .int (bI so)), (3, .int (nI ma)), (0, .ref aM), (1, .int (nI y))]) hx hb dX7_found_87 rfl hl (by decide) rfl (fun ls hl => ?_)
                  refine lv_iload_n hx hb dX7_found_88 rfl (lv_at hl 4 rfl) ?_
                  refine lv_iload hx hb dX7_found_89 (lv_at hl 1 rfl) ?_
                  refine r_ior hx hb dX7_found_91 ?_
                  refine lv_istore_n (lv' := [(3, .int (nI (ma ||| (hs9 q)))), (2, .int (su &&& (nI (hs9 q)))), (6, .int (nI (hs9 q))), (5, .int (nI q)), (4, .int (bI so)), (0, .ref aM), (1, .int (nI y))]) hx hb dX7_found_92 rfl hl (by decide) rfl (fun ls hl => ?_)
                  refine lv_iconst (v := nI 1) hx hb dX7_found_93 (by decide) ?_
                  refine lv_istore (lv' := [(4, .int (nI 1)), (3, .int (nI (ma ||| (hs9 q)))), (2, .int (su &&& (nI (hs9 q)))), (6, .int (nI (hs9 q))), (5, .int (nI q)), (0, .ref aM), (1, .int (nI y))]) hx hb dX7_found_94 hl (by decide) rfl (fun ls hl => ?_)
                  refine r_iinc (d := 1) (k := 4) (lv' := [(5, .int (nI (q + 1))), (4, .int (nI 1)), (3, .int (nI (ma ||| (hs9 q)))), (2, .int (su &&& (nI (hs9 q)))), (6, .int (nI (hs9 q))), (0, .ref aM), (1, .int (nI y))]) hx hb dX7_found_96 hl rfl (by decide) (by decide) rfl (fun ls hl => ?_)
                  refine lv_goto (tgt := 38) hx hb dX7_found_99 (by decide) ?_
                  exact ih38 (q + 1) (su &&& (nI (hs9 q))) (ma ||| (hs9 q)) true (by omega) (by rw [allI, if_pos c53, if_neg (show ¬ y < 2 by omega)]; rw [if_neg (show ¬ y < 2 by omega)] at hsu; rw [hsu]) (by rw [orI, if_pos c53, if_neg (show ¬ y < 2 by omega)]; rw [if_neg (show ¬ y < 2 by omega)] at hma; rw [hma]) (⟨fun _ => by rw [fl_t (P := (fun i => alS li lsz itn td ((WL n k fr to).getD i []))) c53, List.length_append]; simp, fun _ => rfl⟩) (by omega) _ _ _ (lv_sub hl [0, 1, 2, 3, 5, 6] rfl) w
                · refine lv_aload_n hx hb dX7_found_64 rfl (lv_at hl 4 rfl) ?_
                  refine gf_X7_33 cx hK w 0 rfl rfl dX7_found_65 ?_
                  refine lv_iload hx hb dX7_found_68 (lv_at hl 0 rfl) ?_
                  refine r_ialdN hx hb hK w 5 rfl dX7_found_70 (by omega) (by decide) ?_
                  refine lv_goto (tgt := 81) hx hb dX7_found_71 (by decide) ?_
                  refine lv_istore (lv' := [(6, .int (nI (st9 q))), (5, .int (nI q)), (4, .int (bI so)), (3, .int (nI ma)), (2, .int su), (0, .ref aM), (1, .int (nI y))]) hx hb dX7_found_81 hl (by decide) rfl (fun ls hl => ?_)
                  refine lv_iload_n hx hb dX7_found_83 rfl (lv_at hl 4 rfl) ?_
                  refine lv_iload hx hb dX7_found_84 (lv_at hl 0 rfl) ?_
                  refine lv_iand hx hb dX7_found_86 ?_
                  refine lv_istore_n (lv' := [(2, .int (su &&& (nI (st9 q)))), (6, .int (nI (st9 q))), (5, .int (nI q)), (4, .int (bI so)), (3, .int (nI ma)), (0, .ref aM), (1, .int (nI y))]) hx hb dX7_found_87 rfl hl (by decide) rfl (fun ls hl => ?_)
                  refine lv_iload_n hx hb dX7_found_88 rfl (lv_at hl 4 rfl) ?_
                  refine lv_iload hx hb dX7_found_89 (lv_at hl 1 rfl) ?_
                  refine r_ior hx hb dX7_found_91 ?_
                  refine lv_istore_n (lv' := [(3, .int (nI (ma ||| (st9 q)))), (2, .int (su &&& (nI (st9 q)))), (6, .int (nI (st9 q))), (5, .int (nI q)), (4, .int (bI so)), (0, .ref aM), (1, .int (nI y))]) hx hb dX7_found_92 rfl hl (by decide) rfl (fun ls hl => ?_)
                  refine lv_iconst (v := nI 1) hx hb dX7_found_93 (by decide) ?_
                  refine lv_istore (lv' := [(4, .int (nI 1)), (3, .int (nI (ma ||| (st9 q)))), (2, .int (su &&& (nI (st9 q)))), (6, .int (nI (st9 q))), (5, .int (nI q)), (0, .ref aM), (1, .int (nI y))]) hx hb dX7_found_94 hl (by decide) rfl (fun ls hl => ?_)
                  refine r_iinc (d := 1) (k := 4) (lv' := [(5, .int (nI (q + 1))), (4, .int (nI 1)), (3, .int (nI (ma ||| (st9 q)))), (2, .int (su &&& (nI (st9 q)))), (6, .int (nI (st9 q))), (0, .ref aM), (1, .int (nI y))]) hx hb dX7_found_96 hl rfl (by decide) (by decide) rfl (fun ls hl => ?_)
                  refine lv_goto (tgt := 38) hx hb dX7_found_99 (by decide) ?_
                  exact ih38 (q + 1) (su &&& (nI (st9 q))) (ma ||| (st9 q)) true (by omega) (by rw [allI, if_pos c53, if_pos (show y < 2 by omega)]; rw [if_pos (show y < 2 by omega)] at hsu; rw [hsu]) (by rw [orI, if_pos c53, if_pos (show y < 2 by omega)]; rw [if_pos (show y < 2 by omega)] at hma; rw [hma]) (⟨fun _ => by rw [fl_t (P := (fun i => alS li lsz itn td ((WL n k fr to).getD i []))) c53, List.length_append]; simp, fun _ => rfl⟩) (by omega) _ _ _ (lv_sub hl [0, 1, 2, 3, 5, 6] rfl) w
              · have c53 : alS li lsz itn td ((WL n k fr to).getD q []) = false := c53
                refine lv_goto (tgt := 96) hx hb dX7_found_56 (by decide) ?_
                refine r_iinc (d := 1) (k := 0) (lv' := [(5, .int (nI (q + 1))), (4, .int (bI so)), (3, .int (nI ma)), (2, .int su), (0, .ref aM), (1, .int (nI y))]) hx hb dX7_found_96 hl rfl (by decide) (by decide) rfl (fun ls hl => ?_)
                refine lv_goto (tgt := 38) hx hb dX7_found_99 (by decide) ?_
                exact ih38 (q + 1) su ma so (by omega) (by rw [allI, if_neg (by rw [c53]; decide)]; exact hsu) (by rw [orI, if_neg (by rw [c53]; decide)]; exact hma) (by rw [fl_f (P := (fun i => alS li lsz itn td ((WL n k fr to).getD i []))) c53]; exact hso) (by omega) _ _ _ (lv_sub hl [0, 1, 2, 3, 4, 5] rfl) w
        exact loop38 _ 0 (-1) 0 false (by omega) (rfl) (rfl) (⟨(fun h => by cases h), fun h => absurd rfl h⟩) (Nat.lt_succ_self _) _ _ _ (lv_sub hl [0, 1, 2, 3, 4, 5] rfl) w
      · have htm : 200 < (WL n k fr to).length := of_decide_eq_true (by rw [← hr9.2.1]; exact c23)
        refine lv_iconst (v := (-1)) hx hb dX7_found_26 (by decide) ?_
        exact ga_iret cx hr hlk w dX7_found_27 ⟨Nat.le_refl _, Nat.le_refl _⟩ (⟨mm9, im9, rw9, sz9, st9, hs9, nw9, ga_rv (by rw [sFound, if_pos htm]), rfl⟩)
