set_option maxHeartbeats 4000000 in
set_option maxRecDepth 100000 in
theorem c_J6_bitCount_0f7a4 (l : Launch) (G : ga_G) (x : Nat) (h : x < 65536) : ga_M l G yJ6_bitCount_0f7a4 cJ6_bitCount_0f7a4 1 (Option.some Jvm.ClassFile.FieldType.int) 0 0 0 0 [.int (nI x)] [] (fun r w => r = some (.int (nI (pop x))) ∧ w = []) := by
  refine ga_M.intro (by decide) (Nat.le_of_ble_eq_true rfl) (fun p_ e_ s_ m_ below meth c_ A_ H_ locs_ ls cx hr hlk hnm hA hK hl w => ?_)
  have hx := cx.1
  have hb := cx.2.1
  have hl : lv_has ls 1 [(0, .int (nI x))] := hl
  refine lv_iload_n hx hb dJ6_bitCount_0f7a4_0 rfl (lv_at hl 0 rfl) ?_
  refine lv_iload_n hx hb dJ6_bitCount_0f7a4_1 rfl (lv_at hl 0 rfl) ?_
  refine lv_iconst (v := nI 1) hx hb dJ6_bitCount_0f7a4_2 (by decide) ?_
  refine lv_iushr hx hb dJ6_bitCount_0f7a4_3 rfl ?_
  refine r_topi (y := nI (x / 2)) (pk_ushrN (by omega) _ 1 (by decide)) ?_
  refine lv_ldcw hx hb cx.2.2.2.1 (cx.2.2.2.2 _ tm_400) dJ6_bitCount_0f7a4_4 ?_
  refine r_topi (y := nI 1431655765) rfl ?_
  refine r_iand hx hb dJ6_bitCount_0f7a4_7 ?_
  refine r_isub hx hb dJ6_bitCount_0f7a4_8 (bc1_le x) ?_
  refine r_topi (y := nI (bc1 x)) (rfl) ?_
  refine lv_istore_n (lv' := [(0, .int (nI (bc1 x)))]) hx hb dJ6_bitCount_0f7a4_9 rfl hl (by decide) rfl (fun ls hl => ?_)
  refine lv_iload_n hx hb dJ6_bitCount_0f7a4_10 rfl (lv_at hl 0 rfl) ?_
  refine lv_ldcw hx hb cx.2.2.2.1 (cx.2.2.2.2 _ tm_401) dJ6_bitCount_0f7a4_11 ?_
  refine r_topi (y := nI 858993459) rfl ?_
  refine r_iand hx hb dJ6_bitCount_0f7a4_14 ?_
  refine lv_iload_n hx hb dJ6_bitCount_0f7a4_15 rfl (lv_at hl 0 rfl) ?_
  refine lv_iconst (v := nI 2) hx hb dJ6_bitCount_0f7a4_16 (by decide) ?_
  refine lv_iushr hx hb dJ6_bitCount_0f7a4_17 rfl ?_
  refine r_topi (y := nI (bc1 x / 4)) (pk_ushrN (by have := Nat.sub_le x (x / 2 &&& 1431655765); unfold bc1; omega) _ 2 (by decide)) ?_
  refine lv_ldcw hx hb cx.2.2.2.1 (cx.2.2.2.2 _ tm_401) dJ6_bitCount_0f7a4_18 ?_
  refine r_topi (y := nI 858993459) rfl ?_
  refine r_iand hx hb dJ6_bitCount_0f7a4_21 ?_
  refine r_iadd hx hb dJ6_bitCount_0f7a4_22 ?_
  refine r_topi (y := nI (bc2 x)) (rfl) ?_
  refine lv_istore_n (lv' := [(0, .int (nI (bc2 x)))]) hx hb dJ6_bitCount_0f7a4_23 rfl hl (by decide) rfl (fun ls hl => ?_)
  refine lv_iload_n hx hb dJ6_bitCount_0f7a4_24 rfl (lv_at hl 0 rfl) ?_
  refine lv_iload_n hx hb dJ6_bitCount_0f7a4_25 rfl (lv_at hl 0 rfl) ?_
  refine lv_iconst (v := nI 4) hx hb dJ6_bitCount_0f7a4_26 (by decide) ?_
  refine lv_iushr hx hb dJ6_bitCount_0f7a4_27 rfl ?_
  refine r_topi (y := nI (bc2 x / 16)) (pk_ushrN (by have := bc2_lt x; omega) _ 4 (by decide)) ?_
  refine r_iadd hx hb dJ6_bitCount_0f7a4_28 ?_
  refine lv_ldcw hx hb cx.2.2.2.1 (cx.2.2.2.2 _ tm_402) dJ6_bitCount_0f7a4_29 ?_
  refine r_topi (y := nI 252645135) rfl ?_
  refine r_iand hx hb dJ6_bitCount_0f7a4_32 ?_
  refine r_topi (y := nI (bc3 x)) (rfl) ?_
  refine lv_istore_n (lv' := [(0, .int (nI (bc3 x)))]) hx hb dJ6_bitCount_0f7a4_33 rfl hl (by decide) rfl (fun ls hl => ?_)
  refine lv_iload_n hx hb dJ6_bitCount_0f7a4_34 rfl (lv_at hl 0 rfl) ?_
  refine lv_iload_n hx hb dJ6_bitCount_0f7a4_35 rfl (lv_at hl 0 rfl) ?_
  refine lv_bipush (v := nI 8) hx hb dJ6_bitCount_0f7a4_36 (by decide) ?_
  refine lv_iushr hx hb dJ6_bitCount_0f7a4_38 rfl ?_
  refine r_topi (y := nI (bc3 x / 256)) (pk_ushrN (by have := bc3_lt x; omega) _ 8 (by decide)) ?_
  refine r_iadd hx hb dJ6_bitCount_0f7a4_39 ?_
  refine r_topi (y := nI (bc4 x)) (rfl) ?_
  refine lv_istore_n (lv' := [(0, .int (nI (bc4 x)))]) hx hb dJ6_bitCount_0f7a4_40 rfl hl (by decide) rfl (fun ls hl => ?_)
  refine lv_iload_n hx hb dJ6_bitCount_0f7a4_41 rfl (lv_at hl 0 rfl) ?_
  refine lv_iload_n hx hb dJ6_bitCount_0f7a4_42 rfl (lv_at hl 0 rfl) ?_
  refine lv_bipush (v := nI 16) hx hb dJ6_bitCount_0f7a4_43 (by decide) ?_
  refine lv_iushr hx hb dJ6_bitCount_0f7a4_45 rfl ?_
  refine r_topi (y := nI (bc4 x / 65536)) (pk_ushrN (by have := bc4_lt x; omega) _ 16 (by decide)) ?_
  refine r_iadd hx hb dJ6_bitCount_0f7a4_46 ?_
  refine r_topi (y := nI (bc5 x)) (rfl) ?_
  refine lv_istore_n (lv' := [(0, .int (nI (bc5 x)))]) hx hb dJ6_bitCount_0f7a4_47 rfl hl (by decide) rfl (fun ls hl => ?_)
  refine lv_iload_n hx hb dJ6_bitCount_0f7a4_48 rfl (lv_at hl 0 rfl) ?_
  refine lv_bipush (v := nI 63) hx hb dJ6_bitCount_0f7a4_49 (by decide) ?_
  refine r_iand hx hb dJ6_bitCount_0f7a4_51 ?_
  exact ga_iret cx hr hlk w dJ6_bitCount_0f7a4_52 ⟨Nat.le_refl _, Nat.le_refl _⟩ (⟨ga_rv (congrArg nI (bc_ok h)), rfl⟩)

set_option maxHeartbeats 4000000 in
set_option maxRecDepth 100000 in
theorem c_X2_forget (l : Launch) (G : ga_G) (aR : Nat) (aD : Nat) (rl : Int32) (tn : Bool) (po : Bool) (ts : Nat) (hd : Nat)  : ga_M l G yX2_forget cX2_forget 1 (Option.none : Option Jvm.ClassFile.FieldType) 0 0 0 0 [.ref aR] [(aR, .inr (2, [.ref aD, .int rl, .int (bI tn), .int (bI po), .int (nI ts), .int (nI hd)]))] (fun r w => r = none ∧ w = [(aR, .inr (2, [.ref aD, .int (-1), .int (bI tn), .int (bI po), .int (nI ts), .int (nI hd)]))]) := by
  refine ga_M.intro (by decide) (Nat.le_of_ble_eq_true rfl) (fun p_ e_ s_ m_ below meth c_ A_ H_ locs_ ls cx hr hlk hnm hA hK hl w => ?_)
  have hx := cx.1
  have hb := cx.2.1
  have hl : lv_has ls 1 [(0, .ref aR)] := hl
  refine lv_aload_n hx hb dX2_forget_0 rfl (lv_at hl 0 rfl) ?_
  refine lv_iconst (v := (-1)) hx hb dX2_forget_1 (by decide) ?_
  refine pf_X2_15 cx hK w 0 rfl rfl rfl (Nat.le_of_ble_eq_true rfl) dX2_forget_2 (fun H_ locs_ w => ?_)
  have w : ga_wd G A_ s_ H_ locs_ [(aR, .inr (2, [.ref aD, .int (-1), .int (bI tn), .int (bI po), .int (nI ts), .int (nI hd)]))] := w
  exact ga_vret cx hr hlk w dX2_forget_5 ⟨Nat.le_refl _, Nat.le_refl _⟩ (⟨rfl, rfl⟩)

set_option maxHeartbeats 4000000 in
set_option maxRecDepth 100000 in
theorem c_X2_take (l : Launch) (G : ga_G) (aR : Nat) (aD : Nat) (rl : Int32) (tn : Bool) (po : Bool) (ts : Nat) (hd : Nat) (td : Nat → Nat) (aB : Nat) (aE : Nat) (tl : Nat) (tb : Nat → Nat) (nn : Nat) (tn2 : Bool) (hn : nn ≤ 16) : ga_M l G yX2_take cX2_take 5 (Option.none : Option Jvm.ClassFile.FieldType) 0 0 0 0 [.ref aR, .ref aB, .int (nI nn), .int (bI tn2)] [(aR, .inr (2, [.ref aD, .int rl, .int (bI tn), .int (bI po), .int (nI ts), .int (nI hd)])), (aD, .inl (G.2.2, 16, .inl (aN td))), (aB, .inr (5, [.ref aE, .int (nI tl)])), (aE, .inl (G.2.2, 40, .inl (aN tb)))] (fun r w => ∃ (g : Nat → Nat), (∀ j, j < nn → g j = tb j) ∧ r = none ∧ w = [(aR, .inr (2, [.ref aD, .int (nI nn), .int (bI tn2), .int (bI po), .int (nI ts), .int (nI hd)])), (aD, .inl (G.2.2, 16, .inl (aN g))), (aB, .inr (5, [.ref aE, .int (nI tl)])), (aE, .inl (G.2.2, 40, .inl (aN tb)))]) := by
  refine ga_M.intro (by decide) (Nat.le_of_ble_eq_true rfl) (fun p_ e_ s_ m_ below meth c_ A_ H_ locs_ ls cx hr hlk hnm hA hK hl w => ?_)
  have hx := cx.1
  have hb := cx.2.1
  have hl : lv_has ls 5 [(0, .ref aR), (1, .ref aB), (2, .int (nI nn)), (3, .int (bI tn2))] := hl
  refine lv_iconst (v := nI 0) hx hb dX2_take_0 (by decide) ?_
  refine lv_istore (lv' := [(4, .int (nI 0)), (0, .ref aR), (1, .ref aB), (2, .int (nI nn)), (3, .int (bI tn2))]) hx hb dX2_take_1 hl (by decide) rfl (fun ls hl => ?_)
  have loop3 : ∀ (n_ : Nat) (i : Nat) (g : Nat → Nat) (hi : i ≤ nn) (hg : ∀ j, j < i → g j = tb j) (hm : nn - i < n_) (H_ : Heap) (locs_ : List Loc) (ls : Array Slot) (hl : lv_has ls 5 [(4, .int (nI i)), (0, .ref aR), (1, .ref aB), (2, .int (nI nn)), (3, .int (bI tn2))]) (w : ga_wd G A_ s_ H_ locs_ [(aR, .inr (2, [.ref aD, .int rl, .int (bI tn), .int (bI po), .int (nI ts), .int (nI hd)])), (aD, .inl (G.2.2, 16, .inl (aN g))), (aB, .inr (5, [.ref aE, .int (nI tl)])), (aE, .inl (G.2.2, 40, .inl (aN tb)))]), W p_ l e_ { frames := 0, cells := 0, slots := 0, locals := 0 } s_ m_ [.ref aR, .ref aB, .int (nI nn), .int (bI tn2)].toArray below meth c_ H_ locs_ (0) (0) (MQ below (ga_Q G A_ (fun r w => ∃ (g : Nat → Nat), (∀ j, j < nn → g j = tb j) ∧ r = none ∧ w = [(aR, .inr (2, [.ref aD, .int (nI nn), .int (bI tn2), .int (bI po), .int (nI ts), .int (nI hd)])), (aD, .inl (G.2.2, 16, .inl (aN g))), (aB, .inr (5, [.ref aE, .int (nI tl)])), (aE, .inl (G.2.2, 40, .inl (aN tb)))])) [.ref aR, .ref aB, .int (nI nn), .int (bI tn2)].toArray s_ 0 0 A_) (F0 m_ 3 ls []) := by
    intro n_
    induction n_ with
    | zero => intro i g hi hg hm; exact absurd hm (Nat.not_lt_zero _)
    | succ n_ ih3 =>
      intro i g hi hg hm3 H_ locs_ ls hl w
      refine lv_iload hx hb dX2_take_3 (lv_at hl 0 rfl) ?_
      refine lv_iload_n hx hb dX2_take_5 rfl (lv_at hl 3 rfl) ?_
      refine r_icmp_ge hx hb dX2_take_6 (tgt := 29) (by decide) (by omega) (by omega) (fun c6 => ?_) (fun c6 => ?_)
      · refine lv_aload_n hx hb dX2_take_29 rfl (lv_at hl 1 rfl) ?_
        refine lv_iload_n hx hb dX2_take_30 rfl (lv_at hl 3 rfl) ?_
        refine pf_X2_15 cx hK w 0 rfl rfl rfl (Nat.le_of_ble_eq_true rfl) dX2_take_31 (fun H_ locs_ w => ?_)
        have w : ga_wd G A_ s_ H_ locs_ [(aR, .inr (2, [.ref aD, .int (nI nn), .int (bI tn), .int (bI po), .int (nI ts), .int (nI hd)])), (aD, .inl (G.2.2, 16, .inl (aN g))), (aB, .inr (5, [.ref aE, .int (nI tl)])), (aE, .inl (G.2.2, 40, .inl (aN tb)))] := w
        refine lv_aload_n hx hb dX2_take_34 rfl (lv_at hl 1 rfl) ?_
        refine lv_iload_n hx hb dX2_take_35 rfl (lv_at hl 4 rfl) ?_
        refine pf_X2_24 cx hK w 0 rfl (bI_nar _) (bI_fit _) (Nat.le_of_ble_eq_true rfl) dX2_take_36 (fun H_ locs_ w => ?_)
        have w : ga_wd G A_ s_ H_ locs_ [(aR, .inr (2, [.ref aD, .int (nI nn), .int (bI tn2), .int (bI po), .int (nI ts), .int (nI hd)])), (aD, .inl (G.2.2, 16, .inl (aN g))), (aB, .inr (5, [.ref aE, .int (nI tl)])), (aE, .inl (G.2.2, 40, .inl (aN tb)))] := w
        exact ga_vret cx hr hlk w dX2_take_39 ⟨Nat.le_refl _, Nat.le_refl _⟩ (⟨g, fun j hj => hg j (by omega), rfl, rfl⟩)
      · refine lv_aload_n hx hb dX2_take_9 rfl (lv_at hl 1 rfl) ?_
        refine gf_X2_9 cx hK w 0 rfl rfl dX2_take_10 ?_
        refine lv_iload hx hb dX2_take_13 (lv_at hl 0 rfl) ?_
        refine lv_aload_n hx hb dX2_take_15 rfl (lv_at hl 2 rfl) ?_
        refine gf_X2_19 cx hK w 2 rfl rfl dX2_take_16 ?_
        refine lv_iload hx hb dX2_take_19 (lv_at hl 0 rfl) ?_
        refine r_ialdN hx hb hK w 3 rfl dX2_take_21 (by omega) (by decide) ?_
        refine r_iastN hx hb hK w 1 rfl dX2_take_22 (by omega) (by decide) (fun H_ locs_ w => ?_)
        have w : ga_wd G A_ s_ H_ locs_ [(aR, .inr (2, [.ref aD, .int rl, .int (bI tn), .int (bI po), .int (nI ts), .int (nI hd)])), (aD, .inl (G.2.2, 16, .inl (aN (uN g i (tb i))))), (aB, .inr (5, [.ref aE, .int (nI tl)])), (aE, .inl (G.2.2, 40, .inl (aN tb)))] := w
        refine r_iinc (d := 1) (k := 0) (lv' := [(4, .int (nI (i + 1))), (0, .ref aR), (1, .ref aB), (2, .int (nI nn)), (3, .int (bI tn2))]) hx hb dX2_take_23 hl rfl (by decide) (by decide) rfl (fun ls hl => ?_)
        refine lv_goto (tgt := 3) hx hb dX2_take_26 (by decide) ?_
        exact ih3 (i + 1) (uN g i (tb i)) (by omega) (fun j hj => by unfold uN; split; (rename_i hji; rw [hji]); exact hg j (by omega)) (by omega) _ _ _ (lv_sub hl [0, 1, 2, 3, 4] rfl) w
  exact loop3 _ 0 td (by omega) (fun j h => absurd h (Nat.not_lt_zero _)) (Nat.lt_succ_self _) _ _ _ (lv_sub hl [0, 1, 2, 3, 4] rfl) w

set_option maxHeartbeats 4000000 in
set_option maxRecDepth 100000 in
theorem c_X2_fit (l : Launch) (G : ga_G) (aR : Nat) (aD : Nat) (L : Nat) (tn : Bool) (po : Bool) (ts : Nat) (hd : Nat) (td : Nat → Nat) (aP : Nat) (aF : Nat) (aT : Nat) (aC : Nat) (aL : Nat) (n : Nat) (k : Nat) (li : Nat) (fa : Nat) (fr : Nat → Nat) (lv : Nat → Nat) (hL : L ≤ 16) (hn : n ≤ 12) (hk : k ≤ 16) (htd : ∀ j, j < L → td j < 256) (hfr : ∀ e, e < k → fr e < n) : ga_M l G yX2_fit cX2_fit 5 (Option.none : Option Jvm.ClassFile.FieldType) 1 23 0 0 [.ref aR, .ref aP] [(aR, .inr (2, [.ref aD, .int (nI L), .int (bI tn), .int (bI po), .int (nI ts), .int (nI hd)])), (aD, .inl (G.2.2, 16, .inl (aN td))), (aP, .inr (1, [.ref aF, .ref aT, .ref aC, .ref aL, .int (nI n), .int (nI k), .int (nI li), .int (nI fa)])), (aF, .inl (G.2.2, 16, .inl (aN fr))), (aL, .inl (G.2.2, 12, .inl (aN lv)))] (fun r w => ∃ (po2 : Bool), ∃ (ts2 : Nat), ∃ (hd2 : Nat), (FitP n k li fr lv td L tn po2 ts2 hd2) ∧ (ts2 < 65536) ∧ r = none ∧ w = [(aR, .inr (2, [.ref aD, .int (nI L), .int (bI tn), .int (bI po2), .int (nI ts2), .int (nI hd2)])), (aD, .inl (G.2.2, 16, .inl (aN td))), (aP, .inr (1, [.ref aF, .ref aT, .ref aC, .ref aL, .int (nI n), .int (nI k), .int (nI li), .int (nI fa)])), (aF, .inl (G.2.2, 16, .inl (aN fr))), (aL, .inl (G.2.2, 12, .inl (aN lv)))]) := by
  refine ga_M.intro (by decide) (Nat.le_of_ble_eq_true rfl) (fun p_ e_ s_ m_ below meth c_ A_ H_ locs_ ls cx hr hlk hnm hA hK hl w => ?_)
  have hx := cx.1
  have hb := cx.2.1
  have hl : lv_has ls 5 [(0, .ref aR), (1, .ref aP)] := hl
  refine lv_aload_n hx hb dX2_fit_0 rfl (lv_at hl 0 rfl) ?_
  refine lv_aload_n hx hb dX2_fit_1 rfl (lv_at hl 0 rfl) ?_
  refine gf_X2_15 cx hK w 0 rfl rfl dX2_fit_2 ?_
  refine lv_iconst (v := (-1)) hx hb dX2_fit_5 (by decide) ?_
  refine lv_icmp_eq hx hb dX2_fit_6 (tgt := 13) (by decide) (fun c6 => ?_) (fun c6 => ?_)
  · exact absurd c6 (nI_nm1 (by omega))
  · refine lv_iconst (v := nI 1) hx hb dX2_fit_9 (by decide) ?_
    refine lv_goto (tgt := 14) hx hb dX2_fit_10 (by decide) ?_
    refine pf_X2_28 cx hK w 0 rfl rfl rfl (Nat.le_of_ble_eq_true rfl) dX2_fit_14 (fun H_ locs_ w => ?_)
    have w : ga_wd G A_ s_ H_ locs_ [(aR, .inr (2, [.ref aD, .int (nI L), .int (bI tn), .int (nI 1), .int (nI ts), .int (nI hd)])), (aD, .inl (G.2.2, 16, .inl (aN td))), (aP, .inr (1, [.ref aF, .ref aT, .ref aC, .ref aL, .int (nI n), .int (nI k), .int (nI li), .int (nI fa)])), (aF, .inl (G.2.2, 16, .inl (aN fr))), (aL, .inl (G.2.2, 12, .inl (aN lv)))] := w
    refine lv_aload_n hx hb dX2_fit_17 rfl (lv_at hl 0 rfl) ?_
    refine lv_iconst (v := nI 0) hx hb dX2_fit_18 (by decide) ?_
    refine pf_X2_31 cx hK w 0 rfl rfl rfl (Nat.le_of_ble_eq_true rfl) dX2_fit_19 (fun H_ locs_ w => ?_)
    have w : ga_wd G A_ s_ H_ locs_ [(aR, .inr (2, [.ref aD, .int (nI L), .int (bI tn), .int (nI 1), .int (nI 0), .int (nI hd)])), (aD, .inl (G.2.2, 16, .inl (aN td))), (aP, .inr (1, [.ref aF, .ref aT, .ref aC, .ref aL, .int (nI n), .int (nI k), .int (nI li), .int (nI fa)])), (aF, .inl (G.2.2, 16, .inl (aN fr))), (aL, .inl (G.2.2, 12, .inl (aN lv)))] := w
    refine lv_iconst (v := nI 0) hx hb dX2_fit_22 (by decide) ?_
    refine lv_istore_n (lv' := [(2, .int (nI 0)), (0, .ref aR), (1, .ref aP)]) hx hb dX2_fit_23 rfl hl (by decide) rfl (fun ls hl => ?_)
    refine lv_iconst (v := nI 0) hx hb dX2_fit_24 (by decide) ?_
    refine lv_istore_n (lv' := [(3, .int (nI 0)), (2, .int (nI 0)), (0, .ref aR), (1, .ref aP)]) hx hb dX2_fit_25 rfl hl (by decide) rfl (fun ls hl => ?_)
    have loop26 : ∀ (n_ : Nat) (q : Nat) (nd : Nat) (t2 : Nat) (hq : q ≤ L) (hf : fitR k fr td q = some (t2, nd)) (hnd : nd ≤ 12) (ht2 : t2 < 65536) (hm : L - q < n_) (H_ : Heap) (locs_ : List Loc) (ls : Array Slot) (hl : lv_has ls 5 [(3, .int (nI q)), (2, .int (nI nd)), (0, .ref aR), (1, .ref aP)]) (w : ga_wd G A_ s_ H_ locs_ [(aR, .inr (2, [.ref aD, .int (nI L), .int (bI tn), .int (nI 1), .int (nI t2), .int (nI hd)])), (aD, .inl (G.2.2, 16, .inl (aN td))), (aP, .inr (1, [.ref aF, .ref aT, .ref aC, .ref aL, .int (nI n), .int (nI k), .int (nI li), .int (nI fa)])), (aF, .inl (G.2.2, 16, .inl (aN fr))), (aL, .inl (G.2.2, 12, .inl (aN lv)))]), W p_ l e_ { frames := 1, cells := 0, slots := 0, locals := 23 } s_ m_ [.ref aR, .ref aP].toArray below meth c_ H_ locs_ (0) (0) (MQ below (ga_Q G A_ (fun r w => ∃ (po2 : Bool), ∃ (ts2 : Nat), ∃ (hd2 : Nat), (FitP n k li fr lv td L tn po2 ts2 hd2) ∧ (ts2 < 65536) ∧ r = none ∧ w = [(aR, .inr (2, [.ref aD, .int (nI L), .int (bI tn), .int (bI po2), .int (nI ts2), .int (nI hd2)])), (aD, .inl (G.2.2, 16, .inl (aN td))), (aP, .inr (1, [.ref aF, .ref aT, .ref aC, .ref aL, .int (nI n), .int (nI k), .int (nI li), .int (nI fa)])), (aF, .inl (G.2.2, 16, .inl (aN fr))), (aL, .inl (G.2.2, 12, .inl (aN lv)))])) [.ref aR, .ref aP].toArray s_ 0 0 A_) (F0 m_ 26 ls []) := by
      intro n_
      induction n_ with
      | zero => intro q nd t2 hq hf hnd ht2 hm; exact absurd hm (Nat.not_lt_zero _)
      | succ n_ ih26 =>
        intro q nd t2 hq hf hnd ht2 hm26 H_ locs_ ls hl w
        refine lv_iload_n hx hb dX2_fit_26 rfl (lv_at hl 0 rfl) ?_
        refine lv_aload_n hx hb dX2_fit_27 rfl (lv_at hl 2 rfl) ?_
        refine gf_X2_15 cx hK w 0 rfl rfl dX2_fit_28 ?_
        refine r_icmp_ge hx hb dX2_fit_31 (tgt := 97) (by decide) (by omega) (by omega) (fun c31 => ?_) (fun c31 => ?_)
        · refine lv_aload_n hx hb dX2_fit_97 rfl (lv_at hl 2 rfl) ?_
          refine lv_aload_n hx hb dX2_fit_98 rfl (lv_at hl 3 rfl) ?_
          refine gf_X2_43 cx hK w 2 rfl rfl dX2_fit_99 ?_
          refine lv_aload_n hx hb dX2_fit_102 rfl (lv_at hl 2 rfl) ?_
          refine gf_X2_24 cx hK w 0 rfl rfl dX2_fit_103 ?_
          refine r_ifb_eq hx hb dX2_fit_106 (tgt := 117) (by decide) (fun c106 => ?_) (fun c106 => ?_)
          · refine lv_aload_n hx hb dX2_fit_117 rfl (lv_at hl 3 rfl) ?_
            refine ga_callV (rest := [.int (nI li), .ref aR]) (wr := [(aR, .inr (2, [.ref aD, .int (nI L), .int (bI tn), .int (nI 1), .int (nI t2), .int (nI hd)])), (aD, .inl (G.2.2, 16, .inl (aN td))), (aF, .inl (G.2.2, 16, .inl (aN fr))), (aL, .inl (G.2.2, 12, .inl (aN lv)))]) cx hK hA w hl lk_X2_50 (c_X1_allSteps l G aP aF aT aC aL (nI n) k (nI li) (nI fa) (by omega)) ⟨Nat.le_of_ble_eq_true rfl, Nat.le_of_ble_eq_true rfl⟩ [2] [0, 1, 3, 4] rfl rfl (by decide) (by decide) (by decide) 2 1 rfl rfl rfl rfl (Nat.le_of_ble_eq_true rfl) dX2_fit_118 ⟨Nat.le_refl _, Nat.le_refl _⟩ rfl (fun r w1_ H_ locs_ hp w => ?_)
            obtain ⟨rfl, rfl⟩ := hp
            have w : ga_wd G A_ s_ H_ locs_ [(aR, .inr (2, [.ref aD, .int (nI L), .int (bI tn), .int (nI 1), .int (nI t2), .int (nI hd)])), (aD, .inl (G.2.2, 16, .inl (aN td))), (aP, .inr (1, [.ref aF, .ref aT, .ref aC, .ref aL, .int (nI n), .int (nI k), .int (nI li), .int (nI fa)])), (aF, .inl (G.2.2, 16, .inl (aN fr))), (aL, .inl (G.2.2, 12, .inl (aN lv)))] := ga_perm w [0, 1, 4, 2, 3] (by decide) rfl
            refine W.eq (g2 := F0 m_ 121 ls [.int (nI (2 ^ k - 1)), .int (nI li), .ref aR]) rfl ?_
            refine r_iand hx hb dX2_fit_121 ?_
            refine pf_X2_54 cx hK w 0 rfl rfl rfl (Nat.le_of_ble_eq_true rfl) dX2_fit_122 (fun H_ locs_ w => ?_)
            have w : ga_wd G A_ s_ H_ locs_ [(aR, .inr (2, [.ref aD, .int (nI L), .int (bI tn), .int (nI 1), .int (nI t2), .int (nI (li &&& (2 ^ k - 1)))])), (aD, .inl (G.2.2, 16, .inl (aN td))), (aP, .inr (1, [.ref aF, .ref aT, .ref aC, .ref aL, .int (nI n), .int (nI k), .int (nI li), .int (nI fa)])), (aF, .inl (G.2.2, 16, .inl (aN fr))), (aL, .inl (G.2.2, 12, .inl (aN lv)))] := w
            exact ga_vret cx hr hlk w dX2_fit_125 ⟨Nat.le_refl _, Nat.le_refl _⟩ (⟨true, t2, _, FitP_s (by rw [show L = q by omega]; exact hf) (by rw [c106]; rfl), ht2, rfl, rfl⟩)
          · refine lv_aload_n hx hb dX2_fit_109 rfl (lv_at hl 3 rfl) ?_
            refine lv_iload_n hx hb dX2_fit_110 rfl (lv_at hl 1 rfl) ?_
            refine ga_callV (rest := [.int (nI li), .ref aR]) (wr := [(aR, .inr (2, [.ref aD, .int (nI L), .int (bI tn), .int (nI 1), .int (nI t2), .int (nI hd)])), (aD, .inl (G.2.2, 16, .inl (aN td))), (aF, .inl (G.2.2, 16, .inl (aN fr)))]) cx hK hA w hl lk_X2_46 (c_X1_stepsFromBelow l G aP aF aT aC aL n k li fa lv nd (by omega) (by omega)) ⟨Nat.le_of_ble_eq_true rfl, Nat.le_of_ble_eq_true rfl⟩ [2, 4] [0, 1, 3] rfl rfl (by decide) (by decide) (by decide) 2 1 rfl rfl rfl rfl (Nat.le_of_ble_eq_true rfl) dX2_fit_111 ⟨Nat.le_refl _, Nat.le_refl _⟩ rfl (fun r w1_ H_ locs_ hp w => ?_)
            obtain ⟨rfl, rfl⟩ := hp
            have w : ga_wd G A_ s_ H_ locs_ [(aR, .inr (2, [.ref aD, .int (nI L), .int (bI tn), .int (nI 1), .int (nI t2), .int (nI hd)])), (aD, .inl (G.2.2, 16, .inl (aN td))), (aP, .inr (1, [.ref aF, .ref aT, .ref aC, .ref aL, .int (nI n), .int (nI k), .int (nI li), .int (nI fa)])), (aF, .inl (G.2.2, 16, .inl (aN fr))), (aL, .inl (G.2.2, 12, .inl (aN lv)))] := ga_perm w [0, 1, 3, 2, 4] (by decide) rfl
            refine W.eq (g2 := F0 m_ 114 ls [.int (nI (orB lv (min nd n))), .int (nI li), .ref aR]) rfl ?_
            refine lv_goto (tgt := 121) hx hb dX2_fit_114 (by decide) ?_
            refine r_iand hx hb dX2_fit_121 ?_
            refine pf_X2_54 cx hK w 0 rfl rfl rfl (Nat.le_of_ble_eq_true rfl) dX2_fit_122 (fun H_ locs_ w => ?_)
            have w : ga_wd G A_ s_ H_ locs_ [(aR, .inr (2, [.ref aD, .int (nI L), .int (bI tn), .int (nI 1), .int (nI t2), .int (nI (li &&& (orB lv (min nd n))))])), (aD, .inl (G.2.2, 16, .inl (aN td))), (aP, .inr (1, [.ref aF, .ref aT, .ref aC, .ref aL, .int (nI n), .int (nI k), .int (nI li), .int (nI fa)])), (aF, .inl (G.2.2, 16, .inl (aN fr))), (aL, .inl (G.2.2, 12, .inl (aN lv)))] := w
            exact ga_vret cx hr hlk w dX2_fit_125 ⟨Nat.le_refl _, Nat.le_refl _⟩ (⟨true, t2, _, FitP_s (by rw [show L = q by omega]; exact hf) (by rw [c106]; rfl), ht2, rfl, rfl⟩)
        · refine lv_aload_n hx hb dX2_fit_34 rfl (lv_at hl 2 rfl) ?_
          refine gf_X2_9 cx hK w 0 rfl rfl dX2_fit_35 ?_
          refine lv_iload_n hx hb dX2_fit_38 rfl (lv_at hl 0 rfl) ?_
          have htq := htd q (by omega)
          refine r_ialdN hx hb hK w 1 rfl dX2_fit_39 (by omega) (by decide) ?_
          refine lv_istore (lv' := [(4, .int (nI (td q))), (3, .int (nI q)), (2, .int (nI nd)), (0, .ref aR), (1, .ref aP)]) hx hb dX2_fit_40 hl (by decide) rfl (fun ls hl => ?_)
          refine lv_aload_n hx hb dX2_fit_42 rfl (lv_at hl 4 rfl) ?_
          refine lv_iload hx hb dX2_fit_43 (lv_at hl 0 rfl) ?_
          refine ga_callV (rest := []) (wr := [(aR, .inr (2, [.ref aD, .int (nI L), .int (bI tn), .int (nI 1), .int (nI t2), .int (nI hd)])), (aD, .inl (G.2.2, 16, .inl (aN td))), (aF, .inl (G.2.2, 16, .inl (aN fr))), (aL, .inl (G.2.2, 12, .inl (aN lv)))]) cx hK hA w hl lk_X2_34 (c_X1_hasStep l G aP aF aT aC aL (nI n) k (nI li) (nI fa) (nI (td q)) (by omega)) ⟨Nat.le_of_ble_eq_true rfl, Nat.le_of_ble_eq_true rfl⟩ [2] [0, 1, 3, 4] rfl rfl (by decide) (by decide) (by decide) 2 1 rfl rfl rfl rfl (Nat.le_of_ble_eq_true rfl) dX2_fit_45 ⟨Nat.le_refl _, Nat.le_refl _⟩ rfl (fun r w1_ H_ locs_ hp w => ?_)
          obtain ⟨rfl, rfl⟩ := hp
          have w : ga_wd G A_ s_ H_ locs_ [(aR, .inr (2, [.ref aD, .int (nI L), .int (bI tn), .int (nI 1), .int (nI t2), .int (nI hd)])), (aD, .inl (G.2.2, 16, .inl (aN td))), (aP, .inr (1, [.ref aF, .ref aT, .ref aC, .ref aL, .int (nI n), .int (nI k), .int (nI li), .int (nI fa)])), (aF, .inl (G.2.2, 16, .inl (aN fr))), (aL, .inl (G.2.2, 12, .inl (aN lv)))] := ga_perm w [0, 1, 4, 2, 3] (by decide) rfl
          refine W.eq (g2 := F0 m_ 48 ls [.int (bI (inB (nI (td q)) k))]) rfl ?_
          refine r_ifb_eq hx hb dX2_fit_48 (tgt := 62) (by decide) (fun c48 => ?_) (fun c48 => ?_)
          · refine lv_aload_n hx hb dX2_fit_62 rfl (lv_at hl 3 rfl) ?_
            refine lv_iconst (v := nI 0) hx hb dX2_fit_63 (by decide) ?_
            refine pf_X2_28 cx hK w 0 rfl rfl rfl (Nat.le_of_ble_eq_true rfl) dX2_fit_64 (fun H_ locs_ w => ?_)
            have w : ga_wd G A_ s_ H_ locs_ [(aR, .inr (2, [.ref aD, .int (nI L), .int (bI tn), .int (nI 0), .int (nI t2), .int (nI hd)])), (aD, .inl (G.2.2, 16, .inl (aN td))), (aP, .inr (1, [.ref aF, .ref aT, .ref aC, .ref aL, .int (nI n), .int (nI k), .int (nI li), .int (nI fa)])), (aF, .inl (G.2.2, 16, .inl (aN fr))), (aL, .inl (G.2.2, 12, .inl (aN lv)))] := w
            exact ga_vret cx hr hlk w dX2_fit_67 ⟨Nat.le_refl _, Nat.le_refl _⟩ (⟨false, t2, hd, FitP_n (fitR_up (fitR_f hf (by rw [inB_n (by omega)] at c48; have := of_decide_eq_false c48; omega)) (by omega : q + 1 ≤ L)), ht2, rfl, rfl⟩)
          · have hq1 : td q < k := by rw [inB_n (by omega)] at c48; exact of_decide_eq_true c48
            refine lv_aload_n hx hb dX2_fit_51 rfl (lv_at hl 4 rfl) ?_
            refine gf_X2_40 cx hK w 2 rfl rfl dX2_fit_52 ?_
            refine lv_iload hx hb dX2_fit_55 (lv_at hl 0 rfl) ?_
            refine r_ialdN hx hb hK w 3 rfl dX2_fit_57 (by omega) (by decide) ?_
            refine lv_iload_n hx hb dX2_fit_58 rfl (lv_at hl 2 rfl) ?_
            refine r_icmp_ge hx hb dX2_fit_59 (tgt := 68) (by decide) (by have := hfr _ hq1; omega) (by omega) (fun c59 => ?_) (fun c59 => ?_)
            · refine lv_aload_n hx hb dX2_fit_68 rfl (lv_at hl 3 rfl) ?_
              refine lv_dup hx hb dX2_fit_69 rfl ?_
              refine gf_X2_31 cx hK w 0 rfl rfl dX2_fit_70 ?_
              refine lv_iconst (v := nI 1) hx hb dX2_fit_73 (by decide) ?_
              refine lv_iload hx hb dX2_fit_74 (lv_at hl 0 rfl) ?_
              refine r_ishl hx hb dX2_fit_76 (by omega) ?_
              refine r_ior hx hb dX2_fit_77 ?_
              refine pf_X2_31 cx hK w 0 rfl rfl rfl (Nat.le_of_ble_eq_true rfl) dX2_fit_78 (fun H_ locs_ w => ?_)
              have w : ga_wd G A_ s_ H_ locs_ [(aR, .inr (2, [.ref aD, .int (nI L), .int (bI tn), .int (nI 1), .int (nI (t2 ||| (1 <<< (td q)))), .int (nI hd)])), (aD, .inl (G.2.2, 16, .inl (aN td))), (aP, .inr (1, [.ref aF, .ref aT, .ref aC, .ref aL, .int (nI n), .int (nI k), .int (nI li), .int (nI fa)])), (aF, .inl (G.2.2, 16, .inl (aN fr))), (aL, .inl (G.2.2, 12, .inl (aN lv)))] := w
              refine lv_aload_n hx hb dX2_fit_81 rfl (lv_at hl 4 rfl) ?_
              refine gf_X2_40 cx hK w 2 rfl rfl dX2_fit_82 ?_
              refine lv_iload hx hb dX2_fit_85 (lv_at hl 0 rfl) ?_
              refine r_ialdN hx hb hK w 3 rfl dX2_fit_87 (by omega) (by decide) ?_
              refine lv_iconst (v := nI 1) hx hb dX2_fit_88 (by decide) ?_
              refine r_iadd hx hb dX2_fit_89 ?_
              refine lv_istore_n (lv' := [(2, .int (nI ((fr (td q)) + 1))), (4, .int (nI (td q))), (3, .int (nI q)), (0, .ref aR), (1, .ref aP)]) hx hb dX2_fit_90 rfl hl (by decide) rfl (fun ls hl => ?_)
              refine r_iinc (d := 1) (k := 2) (lv' := [(3, .int (nI (q + 1))), (2, .int (nI ((fr (td q)) + 1))), (4, .int (nI (td q))), (0, .ref aR), (1, .ref aP)]) hx hb dX2_fit_91 hl rfl (by decide) (by decide) rfl (fun ls hl => ?_)
              refine lv_goto (tgt := 26) hx hb dX2_fit_94 (by decide) ?_
              exact ih26 (q + 1) ((fr (td q)) + 1) (t2 ||| (1 <<< (td q))) (by omega) (fitR_t hf hq1 c59) (by have := hfr _ hq1; omega) (or_lt 16 ht2 (one_lt (by omega))) (by omega) _ _ _ (lv_sub hl [0, 1, 3, 4] rfl) w
            · refine lv_aload_n hx hb dX2_fit_62 rfl (lv_at hl 3 rfl) ?_
              refine lv_iconst (v := nI 0) hx hb dX2_fit_63 (by decide) ?_
              refine pf_X2_28 cx hK w 0 rfl rfl rfl (Nat.le_of_ble_eq_true rfl) dX2_fit_64 (fun H_ locs_ w => ?_)
              have w : ga_wd G A_ s_ H_ locs_ [(aR, .inr (2, [.ref aD, .int (nI L), .int (bI tn), .int (nI 0), .int (nI t2), .int (nI hd)])), (aD, .inl (G.2.2, 16, .inl (aN td))), (aP, .inr (1, [.ref aF, .ref aT, .ref aC, .ref aL, .int (nI n), .int (nI k), .int (nI li), .int (nI fa)])), (aF, .inl (G.2.2, 16, .inl (aN fr))), (aL, .inl (G.2.2, 12, .inl (aN lv)))] := w
              exact ga_vret cx hr hlk w dX2_fit_67 ⟨Nat.le_refl _, Nat.le_refl _⟩ (⟨false, t2, hd, FitP_n (fitR_up (fitR_f hf (by omega)) (by omega : q + 1 ≤ L)), ht2, rfl, rfl⟩)
    exact loop26 _ 0 0 0 (by omega) (rfl) (by omega) (by decide) (Nat.lt_succ_self _) _ _ _ (lv_sub hl [0, 1, 2, 3] rfl) w

set_option maxHeartbeats 4000000 in
set_option maxRecDepth 100000 in
theorem c_X2_fit0 (l : Launch) (G : ga_G) (aR : Nat) (aD : Nat) (tn : Bool) (po : Bool) (ts : Nat) (hd : Nat) (td : Nat → Nat) (aP : Nat) (aF : Nat) (aT : Nat) (aC : Nat) (aL : Nat) (n : Nat) (k : Nat) (li : Nat) (fa : Nat) (fr : Nat → Nat) (lv : Nat → Nat) (hn : n ≤ 12) (hk : k ≤ 16) : ga_M l G yX2_fit cX2_fit 5 (Option.none : Option Jvm.ClassFile.FieldType) 1 23 0 0 [.ref aR, .ref aP] [(aR, .inr (2, [.ref aD, .int (-1), .int (bI tn), .int (bI po), .int (nI ts), .int (nI hd)])), (aD, .inl (G.2.2, 16, .inl (aN td))), (aP, .inr (1, [.ref aF, .ref aT, .ref aC, .ref aL, .int (nI n), .int (nI k), .int (nI li), .int (nI fa)])), (aF, .inl (G.2.2, 16, .inl (aN fr))), (aL, .inl (G.2.2, 12, .inl (aN lv)))] (fun r w => ∃ (ts2 : Nat), ∃ (hd2 : Nat), (ts2 < 65536) ∧ r = none ∧ w = [(aR, .inr (2, [.ref aD, .int (-1), .int (bI tn), .int (bI false), .int (nI ts2), .int (nI hd2)])), (aD, .inl (G.2.2, 16, .inl (aN td))), (aP, .inr (1, [.ref aF, .ref aT, .ref aC, .ref aL, .int (nI n), .int (nI k), .int (nI li), .int (nI fa)])), (aF, .inl (G.2.2, 16, .inl (aN fr))), (aL, .inl (G.2.2, 12, .inl (aN lv)))]) := by
  refine ga_M.intro (by decide) (Nat.le_of_ble_eq_true rfl) (fun p_ e_ s_ m_ below meth c_ A_ H_ locs_ ls cx hr hlk hnm hA hK hl w => ?_)
  have hx := cx.1
  have hb := cx.2.1
  have hl : lv_has ls 5 [(0, .ref aR), (1, .ref aP)] := hl
  refine lv_aload_n hx hb dX2_fit_0 rfl (lv_at hl 0 rfl) ?_
  refine lv_aload_n hx hb dX2_fit_1 rfl (lv_at hl 0 rfl) ?_
  refine gf_X2_15 cx hK w 0 rfl rfl dX2_fit_2 ?_
  refine lv_iconst (v := (-1)) hx hb dX2_fit_5 (by decide) ?_
  refine lv_icmp_eq hx hb dX2_fit_6 (tgt := 13) (by decide) (fun c6 => ?_) (fun c6 => ?_)
  · refine lv_iconst (v := nI 0) hx hb dX2_fit_13 (by decide) ?_
    refine pf_X2_28 cx hK w 0 rfl rfl rfl (Nat.le_of_ble_eq_true rfl) dX2_fit_14 (fun H_ locs_ w => ?_)
    have w : ga_wd G A_ s_ H_ locs_ [(aR, .inr (2, [.ref aD, .int (-1), .int (bI tn), .int (nI 0), .int (nI ts), .int (nI hd)])), (aD, .inl (G.2.2, 16, .inl (aN td))), (aP, .inr (1, [.ref aF, .ref aT, .ref aC, .ref aL, .int (nI n), .int (nI k), .int (nI li), .int (nI fa)])), (aF, .inl (G.2.2, 16, .inl (aN fr))), (aL, .inl (G.2.2, 12, .inl (aN lv)))] := w
    refine lv_aload_n hx hb dX2_fit_17 rfl (lv_at hl 0 rfl) ?_
    refine lv_iconst (v := nI 0) hx hb dX2_fit_18 (by decide) ?_
    refine pf_X2_31 cx hK w 0 rfl rfl rfl (Nat.le_of_ble_eq_true rfl) dX2_fit_19 (fun H_ locs_ w => ?_)
    have w : ga_wd G A_ s_ H_ locs_ [(aR, .inr (2, [.ref aD, .int (-1), .int (bI tn), .int (nI 0), .int (nI 0), .int (nI hd)])), (aD, .inl (G.2.2, 16, .inl (aN td))), (aP, .inr (1, [.ref aF, .ref aT, .ref aC, .ref aL, .int (nI n), .int (nI k), .int (nI li), .int (nI fa)])), (aF, .inl (G.2.2, 16, .inl (aN fr))), (aL, .inl (G.2.2, 12, .inl (aN lv)))] := w
    refine lv_iconst (v := nI 0) hx hb dX2_fit_22 (by decide) ?_
    refine lv_istore_n (lv' := [(2, .int (nI 0)), (0, .ref aR), (1, .ref aP)]) hx hb dX2_fit_23 rfl hl (by decide) rfl (fun ls hl => ?_)
    refine lv_iconst (v := nI 0) hx hb dX2_fit_24 (by decide) ?_
    refine lv_istore_n (lv' := [(3, .int (nI 0)), (2, .int (nI 0)), (0, .ref aR), (1, .ref aP)]) hx hb dX2_fit_25 rfl hl (by decide) rfl (fun ls hl => ?_)
    refine lv_iload_n hx hb dX2_fit_26 rfl (lv_at hl 0 rfl) ?_
    refine lv_aload_n hx hb dX2_fit_27 rfl (lv_at hl 2 rfl) ?_
    refine gf_X2_15 cx hK w 0 rfl rfl dX2_fit_28 ?_
    refine lv_icmp_ge hx hb dX2_fit_31 (tgt := 97) (by decide) (fun c31 => ?_) (fun c31 => ?_)
    · refine lv_aload_n hx hb dX2_fit_97 rfl (lv_at hl 2 rfl) ?_
      refine lv_aload_n hx hb dX2_fit_98 rfl (lv_at hl 3 rfl) ?_
      refine gf_X2_43 cx hK w 2 rfl rfl dX2_fit_99 ?_
      refine lv_aload_n hx hb dX2_fit_102 rfl (lv_at hl 2 rfl) ?_
      refine gf_X2_24 cx hK w 0 rfl rfl dX2_fit_103 ?_
      refine r_ifb_eq hx hb dX2_fit_106 (tgt := 117) (by decide) (fun c106 => ?_) (fun c106 => ?_)
      · refine lv_aload_n hx hb dX2_fit_117 rfl (lv_at hl 3 rfl) ?_
        refine ga_callV (rest := [.int (nI li), .ref aR]) (wr := [(aR, .inr (2, [.ref aD, .int (-1), .int (bI tn), .int (nI 0), .int (nI 0), .int (nI hd)])), (aD, .inl (G.2.2, 16, .inl (aN td))), (aF, .inl (G.2.2, 16, .inl (aN fr))), (aL, .inl (G.2.2, 12, .inl (aN lv)))]) cx hK hA w hl lk_X2_50 (c_X1_allSteps l G aP aF aT aC aL (nI n) k (nI li) (nI fa) (by omega)) ⟨Nat.le_of_ble_eq_true rfl, Nat.le_of_ble_eq_true rfl⟩ [2] [0, 1, 3, 4] rfl rfl (by decide) (by decide) (by decide) 2 1 rfl rfl rfl rfl (Nat.le_of_ble_eq_true rfl) dX2_fit_118 ⟨Nat.le_refl _, Nat.le_refl _⟩ rfl (fun r w1_ H_ locs_ hp w => ?_)
        obtain ⟨rfl, rfl⟩ := hp
        have w : ga_wd G A_ s_ H_ locs_ [(aR, .inr (2, [.ref aD, .int (-1), .int (bI tn), .int (nI 0), .int (nI 0), .int (nI hd)])), (aD, .inl (G.2.2, 16, .inl (aN td))), (aP, .inr (1, [.ref aF, .ref aT, .ref aC, .ref aL, .int (nI n), .int (nI k), .int (nI li), .int (nI fa)])), (aF, .inl (G.2.2, 16, .inl (aN fr))), (aL, .inl (G.2.2, 12, .inl (aN lv)))] := ga_perm w [0, 1, 4, 2, 3] (by decide) rfl
        refine W.eq (g2 := F0 m_ 121 ls [.int (nI (2 ^ k - 1)), .int (nI li), .ref aR]) rfl ?_
        refine r_iand hx hb dX2_fit_121 ?_
        refine pf_X2_54 cx hK w 0 rfl rfl rfl (Nat.le_of_ble_eq_true rfl) dX2_fit_122 (fun H_ locs_ w => ?_)
        have w : ga_wd G A_ s_ H_ locs_ [(aR, .inr (2, [.ref aD, .int (-1), .int (bI tn), .int (nI 0), .int (nI 0), .int (nI (li &&& (2 ^ k - 1)))])), (aD, .inl (G.2.2, 16, .inl (aN td))), (aP, .inr (1, [.ref aF, .ref aT, .ref aC, .ref aL, .int (nI n), .int (nI k), .int (nI li), .int (nI fa)])), (aF, .inl (G.2.2, 16, .inl (aN fr))), (aL, .inl (G.2.2, 12, .inl (aN lv)))] := w
        exact ga_vret cx hr hlk w dX2_fit_125 ⟨Nat.le_refl _, Nat.le_refl _⟩ (⟨0, _, by decide, rfl, rfl⟩)
      · refine lv_aload_n hx hb dX2_fit_109 rfl (lv_at hl 3 rfl) ?_
        refine lv_iload_n hx hb dX2_fit_110 rfl (lv_at hl 1 rfl) ?_
        refine ga_callV (rest := [.int (nI li), .ref aR]) (wr := [(aR, .inr (2, [.ref aD, .int (-1), .int (bI tn), .int (nI 0), .int (nI 0), .int (nI hd)])), (aD, .inl (G.2.2, 16, .inl (aN td))), (aF, .inl (G.2.2, 16, .inl (aN fr)))]) cx hK hA w hl lk_X2_46 (c_X1_stepsFromBelow l G aP aF aT aC aL n k li fa lv 0 (by omega) (by omega)) ⟨Nat.le_of_ble_eq_true rfl, Nat.le_of_ble_eq_true rfl⟩ [2, 4] [0, 1, 3] rfl rfl (by decide) (by decide) (by decide) 2 1 rfl rfl rfl rfl (Nat.le_of_ble_eq_true rfl) dX2_fit_111 ⟨Nat.le_refl _, Nat.le_refl _⟩ rfl (fun r w1_ H_ locs_ hp w => ?_)
        obtain ⟨rfl, rfl⟩ := hp
        have w : ga_wd G A_ s_ H_ locs_ [(aR, .inr (2, [.ref aD, .int (-1), .int (bI tn), .int (nI 0), .int (nI 0), .int (nI hd)])), (aD, .inl (G.2.2, 16, .inl (aN td))), (aP, .inr (1, [.ref aF, .ref aT, .ref aC, .ref aL, .int (nI n), .int (nI k), .int (nI li), .int (nI fa)])), (aF, .inl (G.2.2, 16, .inl (aN fr))), (aL, .inl (G.2.2, 12, .inl (aN lv)))] := ga_perm w [0, 1, 3, 2, 4] (by decide) rfl
        refine W.eq (g2 := F0 m_ 114 ls [.int (nI (orB lv (min 0 n))), .int (nI li), .ref aR]) rfl ?_
        refine lv_goto (tgt := 121) hx hb dX2_fit_114 (by decide) ?_
        refine r_iand hx hb dX2_fit_121 ?_
        refine pf_X2_54 cx hK w 0 rfl rfl rfl (Nat.le_of_ble_eq_true rfl) dX2_fit_122 (fun H_ locs_ w => ?_)
        have w : ga_wd G A_ s_ H_ locs_ [(aR, .inr (2, [.ref aD, .int (-1), .int (bI tn), .int (nI 0), .int (nI 0), .int (nI (li &&& (orB lv (min 0 n))))])), (aD, .inl (G.2.2, 16, .inl (aN td))), (aP, .inr (1, [.ref aF, .ref aT, .ref aC, .ref aL, .int (nI n), .int (nI k), .int (nI li), .int (nI fa)])), (aF, .inl (G.2.2, 16, .inl (aN fr))), (aL, .inl (G.2.2, 12, .inl (aN lv)))] := w
        exact ga_vret cx hr hlk w dX2_fit_125 ⟨Nat.le_refl _, Nat.le_refl _⟩ (⟨0, _, by decide, rfl, rfl⟩)
    · exact absurd (by decide) c31
  · exact absurd rfl c6

set_option maxHeartbeats 4000000 in
set_option maxRecDepth 100000 in
theorem c_X2_allows (l : Launch) (G : ga_G) (aR : Nat) (aD : Nat) (rl : Int32) (tn : Bool) (po : Bool) (ts : Nat) (hd : Nat) (x : Nat) (h1 : x < 2 ^ 31) (h2 : ts < 2 ^ 31) : ga_M l G yX2_allows cX2_allows 2 (Option.some Jvm.ClassFile.FieldType.boolean) 0 0 0 0 [.ref aR, .int (nI x)] [(aR, .inr (2, [.ref aD, .int rl, .int (bI tn), .int (bI po), .int (nI ts), .int (nI hd)]))] (fun r w => r = some (.int (bI (alw po ts hd x))) ∧ w = [(aR, .inr (2, [.ref aD, .int rl, .int (bI tn), .int (bI po), .int (nI ts), .int (nI hd)]))]) := by
  refine ga_M.intro (by decide) (Nat.le_of_ble_eq_true rfl) (fun p_ e_ s_ m_ below meth c_ A_ H_ locs_ ls cx hr hlk hnm hA hK hl w => ?_)
  have hx := cx.1
  have hb := cx.2.1
  have hl : lv_has ls 2 [(0, .ref aR), (1, .int (nI x))] := hl
  refine lv_aload_n hx hb dX2_allows_0 rfl (lv_at hl 0 rfl) ?_
  refine gf_X2_28 cx hK w 0 rfl rfl dX2_allows_1 ?_
  refine r_ifb_eq hx hb dX2_allows_4 (tgt := 24) (by decide) (fun c4 => ?_) (fun c4 => ?_)
  · refine lv_iconst (v := nI 0) hx hb dX2_allows_24 (by decide) ?_
    exact ga_zret cx hr hlk w rfl dX2_allows_25 ⟨Nat.le_refl _, Nat.le_refl _⟩ (⟨ga_r0 (by simp_all [alw]), rfl⟩)
  · refine lv_iload_n hx hb dX2_allows_7 rfl (lv_at hl 1 rfl) ?_
    refine lv_aload_n hx hb dX2_allows_8 rfl (lv_at hl 0 rfl) ?_
    refine gf_X2_54 cx hK w 0 rfl rfl dX2_allows_9 ?_
    refine r_iand hx hb dX2_allows_12 ?_
    refine lv_aload_n hx hb dX2_allows_13 rfl (lv_at hl 0 rfl) ?_
    refine gf_X2_31 cx hK w 0 rfl rfl dX2_allows_14 ?_
    refine r_icmp_ne hx hb dX2_allows_17 (tgt := 24) (by decide) (andL_lt h1) (h2) (fun c17 => ?_) (fun c17 => ?_)
    · refine lv_iconst (v := nI 0) hx hb dX2_allows_24 (by decide) ?_
      exact ga_zret cx hr hlk w rfl dX2_allows_25 ⟨Nat.le_refl _, Nat.le_refl _⟩ (⟨ga_r0 (by simp_all [alw]), rfl⟩)
    · refine lv_iconst (v := nI 1) hx hb dX2_allows_20 (by decide) ?_
      refine lv_goto (tgt := 25) hx hb dX2_allows_21 (by decide) ?_
      exact ga_zret cx hr hlk w rfl dX2_allows_25 ⟨Nat.le_refl _, Nat.le_refl _⟩ (⟨ga_r1 (by simp_all [alw]), rfl⟩)

set_option maxHeartbeats 4000000 in
set_option maxRecDepth 100000 in
theorem c_X2_howManyOf (l : Launch) (G : ga_G) (aR : Nat) (aD : Nat) (rl : Int32) (tn : Bool) (po : Bool) (ts : Nat) (hd : Nat) (aW : Nat) (aS : Nat) (aQ : Nat) (num : Nat) (tm : Bool) (sl : Bool) (ss : Nat → Nat) (ns : Nat → Nat) (hnum : num ≤ 200) (hss : ∀ i, i < num → ss i < 65536) (hts : ts < 65536) : ga_M l G yX2_howManyOf cX2_howManyOf 4 (Option.some Jvm.ClassFile.FieldType.int) 1 21 0 0 [.ref aR, .ref aW] [(aR, .inr (2, [.ref aD, .int rl, .int (bI tn), .int (bI po), .int (nI ts), .int (nI hd)])), (aW, .inr (3, [.ref aS, .ref aQ, .int (nI num), .int (bI tm), .int (bI sl)])), (aS, .inl (G.2.2, 200, .inl (aN ss))), (aQ, .inl (G.2.2, 200, .inl (aN ns)))] (fun r w => r = some (.int (nI ((fl (fun i => alw po ts hd (ss i)) num).length))) ∧ w = [(aR, .inr (2, [.ref aD, .int rl, .int (bI tn), .int (bI po), .int (nI ts), .int (nI hd)])), (aW, .inr (3, [.ref aS, .ref aQ, .int (nI num), .int (bI tm), .int (bI sl)])), (aS, .inl (G.2.2, 200, .inl (aN ss))), (aQ, .inl (G.2.2, 200, .inl (aN ns)))]) := by
  refine ga_M.intro (by decide) (Nat.le_of_ble_eq_true rfl) (fun p_ e_ s_ m_ below meth c_ A_ H_ locs_ ls cx hr hlk hnm hA hK hl w => ?_)
  have hx := cx.1
  have hb := cx.2.1
  have hl : lv_has ls 4 [(0, .ref aR), (1, .ref aW)] := hl
  refine lv_iconst (v := nI 0) hx hb dX2_howManyOf_0 (by decide) ?_
  refine lv_istore_n (lv' := [(2, .int (nI 0)), (0, .ref aR), (1, .ref aW)]) hx hb dX2_howManyOf_1 rfl hl (by decide) rfl (fun ls hl => ?_)
  refine lv_iconst (v := nI 0) hx hb dX2_howManyOf_2 (by decide) ?_
  refine lv_istore_n (lv' := [(3, .int (nI 0)), (2, .int (nI 0)), (0, .ref aR), (1, .ref aW)]) hx hb dX2_howManyOf_3 rfl hl (by decide) rfl (fun ls hl => ?_)
  have loop4 : ∀ (n_ : Nat) (i : Nat) (t : Nat) (hi : i ≤ num) (ht : t = (fl (fun i => alw po ts hd (ss i)) i).length) (hm : 200 - i < n_) (H_ : Heap) (locs_ : List Loc) (ls : Array Slot) (hl : lv_has ls 4 [(3, .int (nI i)), (2, .int (nI t)), (0, .ref aR), (1, .ref aW)]) (w : ga_wd G A_ s_ H_ locs_ [(aR, .inr (2, [.ref aD, .int rl, .int (bI tn), .int (bI po), .int (nI ts), .int (nI hd)])), (aW, .inr (3, [.ref aS, .ref aQ, .int (nI num), .int (bI tm), .int (bI sl)])), (aS, .inl (G.2.2, 200, .inl (aN ss))), (aQ, .inl (G.2.2, 200, .inl (aN ns)))]), W p_ l e_ { frames := 1, cells := 0, slots := 0, locals := 21 } s_ m_ [.ref aR, .ref aW].toArray below meth c_ H_ locs_ (0) (0) (MQ below (ga_Q G A_ (fun r w => r = some (.int (nI ((fl (fun i => alw po ts hd (ss i)) num).length))) ∧ w = [(aR, .inr (2, [.ref aD, .int rl, .int (bI tn), .int (bI po), .int (nI ts), .int (nI hd)])), (aW, .inr (3, [.ref aS, .ref aQ, .int (nI num), .int (bI tm), .int (bI sl)])), (aS, .inl (G.2.2, 200, .inl (aN ss))), (aQ, .inl (G.2.2, 200, .inl (aN ns)))])) [.ref aR, .ref aW].toArray s_ 0 0 A_) (F0 m_ 4 ls []) := by
    intro n_
    induction n_ with
    | zero => intro i t hi ht hm; exact absurd hm (Nat.not_lt_zero _)
    | succ n_ ih4 =>
      intro i t hi ht hm4 H_ locs_ ls hl w
      refine lv_iload_n hx hb dX2_howManyOf_4 rfl (lv_at hl 0 rfl) ?_
      refine lv_aload_n hx hb dX2_howManyOf_5 rfl (lv_at hl 3 rfl) ?_
      refine gf_X2_57 cx hK w 1 rfl rfl dX2_howManyOf_6 ?_
      refine r_icmp_ge hx hb dX2_howManyOf_9 (tgt := 34) (by decide) (by omega) (by omega) (fun c9 => ?_) (fun c9 => ?_)
      · refine lv_iload_n hx hb dX2_howManyOf_34 rfl (lv_at hl 1 rfl) ?_
        exact ga_iret cx hr hlk w dX2_howManyOf_35 ⟨Nat.le_refl _, Nat.le_refl _⟩ (⟨ga_rv (by rw [ht, show i = num by omega]), rfl⟩)
      · refine lv_aload_n hx hb dX2_howManyOf_12 rfl (lv_at hl 2 rfl) ?_
        refine lv_aload_n hx hb dX2_howManyOf_13 rfl (lv_at hl 3 rfl) ?_
        refine gf_X2_62 cx hK w 1 rfl rfl dX2_howManyOf_14 ?_
        refine lv_iload_n hx hb dX2_howManyOf_17 rfl (lv_at hl 0 rfl) ?_
        refine r_ialdN hx hb hK w 2 rfl dX2_howManyOf_18 (by omega) (by decide) ?_
        refine ga_callV (rest := []) (wr := [(aW, .inr (3, [.ref aS, .ref aQ, .int (nI num), .int (bI tm), .int (bI sl)])), (aS, .inl (G.2.2, 200, .inl (aN ss))), (aQ, .inl (G.2.2, 200, .inl (aN ns)))]) cx hK hA w hl lk_X2_65 (c_X2_allows l G aR aD rl tn po ts hd (ss i) (by have := hss i (by omega); omega) (by omega)) ⟨Nat.le_of_ble_eq_true rfl, Nat.le_of_ble_eq_true rfl⟩ [0] [1, 2, 3] rfl rfl (by decide) (by decide) (by decide) 0 2 rfl rfl rfl rfl (Nat.le_of_ble_eq_true rfl) dX2_howManyOf_19 ⟨Nat.le_refl _, Nat.le_refl _⟩ rfl (fun r w1_ H_ locs_ hp w => ?_)
        obtain ⟨rfl, rfl⟩ := hp
        have w : ga_wd G A_ s_ H_ locs_ [(aR, .inr (2, [.ref aD, .int rl, .int (bI tn), .int (bI po), .int (nI ts), .int (nI hd)])), (aW, .inr (3, [.ref aS, .ref aQ, .int (nI num), .int (bI tm), .int (bI sl)])), (aS, .inl (G.2.2, 200, .inl (aN ss))), (aQ, .inl (G.2.2, 200, .inl (aN ns)))] := ga_perm w [3, 0, 1, 2] (by decide) rfl
        refine W.eq (g2 := F0 m_ 22 ls [.int (bI (alw po ts hd (ss i)))]) rfl ?_
        refine r_ifb_eq hx hb dX2_howManyOf_22 (tgt := 28) (by decide) (fun c22 => ?_) (fun c22 => ?_)
        · refine r_iinc (d := 1) (k := 0) (lv' := [(3, .int (nI (i + 1))), (2, .int (nI t)), (0, .ref aR), (1, .ref aW)]) hx hb dX2_howManyOf_28 hl rfl (by decide) (by decide) rfl (fun ls hl => ?_)
          refine lv_goto (tgt := 4) hx hb dX2_howManyOf_31 (by decide) ?_
          exact ih4 (i + 1) t (by omega) (by rw [fl_f (P := fun i => alw po ts hd (ss i)) c22]; exact ht) (by omega) _ _ _ (lv_sub hl [0, 1, 2, 3] rfl) w
        · refine r_iinc (d := 1) (k := 1) (lv' := [(2, .int (nI (t + 1))), (3, .int (nI i)), (0, .ref aR), (1, .ref aW)]) hx hb dX2_howManyOf_25 hl rfl (by decide) (by decide) rfl (fun ls hl => ?_)
          refine r_iinc (d := 1) (k := 1) (lv' := [(3, .int (nI (i + 1))), (2, .int (nI (t + 1))), (0, .ref aR), (1, .ref aW)]) hx hb dX2_howManyOf_28 hl rfl (by decide) (by decide) rfl (fun ls hl => ?_)
          refine lv_goto (tgt := 4) hx hb dX2_howManyOf_31 (by decide) ?_
          exact ih4 (i + 1) (t + 1) (by omega) (by rw [fl_t (P := fun i => alw po ts hd (ss i)) c22, List.length_append, ← ht]; rfl) (by omega) _ _ _ (lv_sub hl [0, 1, 2, 3] rfl) w
  exact loop4 _ 0 0 (by omega) (rfl) (Nat.lt_succ_self _) _ _ _ (lv_sub hl [0, 1, 2, 3] rfl) w

set_option maxHeartbeats 4000000 in
set_option maxRecDepth 100000 in
theorem c_X2_memberOf (l : Launch) (G : ga_G) (aR : Nat) (aD : Nat) (rl : Int32) (tn : Bool) (po : Bool) (ts : Nat) (hd : Nat) (aW : Nat) (aS : Nat) (aQ : Nat) (num : Nat) (tm : Bool) (sl : Bool) (ss : Nat → Nat) (ns : Nat → Nat) (x : Int32) (hnum : num ≤ 200) (hss : ∀ i, i < num → ss i < 65536) (hts : ts < 65536) : ga_M l G yX2_memberOf cX2_memberOf 5 (Option.some Jvm.ClassFile.FieldType.int) 1 21 0 0 [.ref aR, .ref aW, .int x] [(aR, .inr (2, [.ref aD, .int rl, .int (bI tn), .int (bI po), .int (nI ts), .int (nI hd)])), (aW, .inr (3, [.ref aS, .ref aQ, .int (nI num), .int (bI tm), .int (bI sl)])), (aS, .inl (G.2.2, 200, .inl (aN ss))), (aQ, .inl (G.2.2, 200, .inl (aN ns)))] (fun r w => r = some (.int (nth ((fl (fun i => alw po ts hd (ss i)) num).map nI) x)) ∧ w = [(aR, .inr (2, [.ref aD, .int rl, .int (bI tn), .int (bI po), .int (nI ts), .int (nI hd)])), (aW, .inr (3, [.ref aS, .ref aQ, .int (nI num), .int (bI tm), .int (bI sl)])), (aS, .inl (G.2.2, 200, .inl (aN ss))), (aQ, .inl (G.2.2, 200, .inl (aN ns)))]) := by
  refine ga_M.intro (by decide) (Nat.le_of_ble_eq_true rfl) (fun p_ e_ s_ m_ below meth c_ A_ H_ locs_ ls cx hr hlk hnm hA hK hl w => ?_)
  have hx := cx.1
  have hb := cx.2.1
  have hl : lv_has ls 5 [(0, .ref aR), (1, .ref aW), (2, .int x)] := hl
  refine lv_iload_n hx hb dX2_memberOf_0 rfl (lv_at hl 2 rfl) ?_
  refine lv_istore_n (lv' := [(3, .int x), (0, .ref aR), (1, .ref aW), (2, .int x)]) hx hb dX2_memberOf_1 rfl hl (by decide) rfl (fun ls hl => ?_)
  refine lv_iconst (v := nI 0) hx hb dX2_memberOf_2 (by decide) ?_
  refine lv_istore (lv' := [(4, .int (nI 0)), (3, .int x), (0, .ref aR), (1, .ref aW), (2, .int x)]) hx hb dX2_memberOf_3 hl (by decide) rfl (fun ls hl => ?_)
  have loop5 : ∀ (n_ : Nat) (i : Nat) (lf : Int32) (hi : i ≤ num) (hz : scD (fun i => alw po ts hd (ss i)) x lf i) (hm : 200 - i < n_) (H_ : Heap) (locs_ : List Loc) (ls : Array Slot) (hl : lv_has ls 5 [(4, .int (nI i)), (3, .int lf), (0, .ref aR), (1, .ref aW), (2, .int x)]) (w : ga_wd G A_ s_ H_ locs_ [(aR, .inr (2, [.ref aD, .int rl, .int (bI tn), .int (bI po), .int (nI ts), .int (nI hd)])), (aW, .inr (3, [.ref aS, .ref aQ, .int (nI num), .int (bI tm), .int (bI sl)])), (aS, .inl (G.2.2, 200, .inl (aN ss))), (aQ, .inl (G.2.2, 200, .inl (aN ns)))]), W p_ l e_ { frames := 1, cells := 0, slots := 0, locals := 21 } s_ m_ [.ref aR, .ref aW, .int x].toArray below meth c_ H_ locs_ (0) (0) (MQ below (ga_Q G A_ (fun r w => r = some (.int (nth ((fl (fun i => alw po ts hd (ss i)) num).map nI) x)) ∧ w = [(aR, .inr (2, [.ref aD, .int rl, .int (bI tn), .int (bI po), .int (nI ts), .int (nI hd)])), (aW, .inr (3, [.ref aS, .ref aQ, .int (nI num), .int (bI tm), .int (bI sl)])), (aS, .inl (G.2.2, 200, .inl (aN ss))), (aQ, .inl (G.2.2, 200, .inl (aN ns)))])) [.ref aR, .ref aW, .int x].toArray s_ 0 0 A_) (F0 m_ 5 ls []) := by
    intro n_
    induction n_ with
    | zero => intro i lf hi hz hm; exact absurd hm (Nat.not_lt_zero _)
    | succ n_ ih5 =>
      intro i lf hi hz hm5 H_ locs_ ls hl w
      refine lv_iload hx hb dX2_memberOf_5 (lv_at hl 0 rfl) ?_
      refine lv_aload_n hx hb dX2_memberOf_7 rfl (lv_at hl 3 rfl) ?_
      refine gf_X2_57 cx hK w 1 rfl rfl dX2_memberOf_8 ?_
      refine r_icmp_ge hx hb dX2_memberOf_11 (tgt := 44) (by decide) (by omega) (by omega) (fun c11 => ?_) (fun c11 => ?_)
      · refine lv_iconst (v := (-1)) hx hb dX2_memberOf_44 (by decide) ?_
        exact ga_iret cx hr hlk w dX2_memberOf_45 ⟨Nat.le_refl _, Nat.le_refl _⟩ (⟨ga_rv (scD_end nI (by rw [show num = i by omega]; exact hz) (by omega)).symm, rfl⟩)
      · refine lv_aload_n hx hb dX2_memberOf_14 rfl (lv_at hl 2 rfl) ?_
        refine lv_aload_n hx hb dX2_memberOf_15 rfl (lv_at hl 3 rfl) ?_
        refine gf_X2_62 cx hK w 1 rfl rfl dX2_memberOf_16 ?_
        refine lv_iload hx hb dX2_memberOf_19 (lv_at hl 0 rfl) ?_
        refine r_ialdN hx hb hK w 2 rfl dX2_memberOf_21 (by omega) (by decide) ?_
        refine ga_callV (rest := []) (wr := [(aW, .inr (3, [.ref aS, .ref aQ, .int (nI num), .int (bI tm), .int (bI sl)])), (aS, .inl (G.2.2, 200, .inl (aN ss))), (aQ, .inl (G.2.2, 200, .inl (aN ns)))]) cx hK hA w hl lk_X2_65 (c_X2_allows l G aR aD rl tn po ts hd (ss i) (by have := hss i (by omega); omega) (by omega)) ⟨Nat.le_of_ble_eq_true rfl, Nat.le_of_ble_eq_true rfl⟩ [0] [1, 2, 3] rfl rfl (by decide) (by decide) (by decide) 0 2 rfl rfl rfl rfl (Nat.le_of_ble_eq_true rfl) dX2_memberOf_22 ⟨Nat.le_refl _, Nat.le_refl _⟩ rfl (fun r w1_ H_ locs_ hp w => ?_)
        obtain ⟨rfl, rfl⟩ := hp
        have w : ga_wd G A_ s_ H_ locs_ [(aR, .inr (2, [.ref aD, .int rl, .int (bI tn), .int (bI po), .int (nI ts), .int (nI hd)])), (aW, .inr (3, [.ref aS, .ref aQ, .int (nI num), .int (bI tm), .int (bI sl)])), (aS, .inl (G.2.2, 200, .inl (aN ss))), (aQ, .inl (G.2.2, 200, .inl (aN ns)))] := ga_perm w [3, 0, 1, 2] (by decide) rfl
        refine W.eq (g2 := F0 m_ 25 ls [.int (bI (alw po ts hd (ss i)))]) rfl ?_
        refine r_ifb_eq hx hb dX2_memberOf_25 (tgt := 38) (by decide) (fun c25 => ?_) (fun c25 => ?_)
        · refine r_iinc (d := 1) (k := 0) (lv' := [(4, .int (nI (i + 1))), (3, .int lf), (0, .ref aR), (1, .ref aW), (2, .int x)]) hx hb dX2_memberOf_38 hl rfl (by decide) (by decide) rfl (fun ls hl => ?_)
          refine lv_goto (tgt := 5) hx hb dX2_memberOf_41 (by decide) ?_
          exact ih5 (i + 1) lf (by omega) (scD_f hz c25) (by omega) _ _ _ (lv_sub hl [0, 1, 2, 3, 4] rfl) w
        · refine lv_iload_n hx hb dX2_memberOf_28 rfl (lv_at hl 1 rfl) ?_
          refine lv_if_ne hx hb dX2_memberOf_29 (tgt := 35) (by decide) (fun c29 => ?_) (fun c29 => ?_)
          · refine lv_iinc (k := 1) (lv' := [(3, .int (lf + Int32.ofInt (-1))), (4, .int (nI i)), (0, .ref aR), (1, .ref aW), (2, .int x)]) hx hb dX2_memberOf_35 hl rfl rfl (by decide) rfl (fun ls hl => ?_)
            refine r_iinc (d := 1) (k := 1) (lv' := [(4, .int (nI (i + 1))), (3, .int (lf + Int32.ofInt (-1))), (0, .ref aR), (1, .ref aW), (2, .int x)]) hx hb dX2_memberOf_38 hl rfl (by decide) (by decide) rfl (fun ls hl => ?_)
            refine lv_goto (tgt := 5) hx hb dX2_memberOf_41 (by decide) ?_
            exact ih5 (i + 1) (lf + Int32.ofInt (-1)) (by omega) (scD_t hz c25 c29) (by omega) _ _ _ (lv_sub hl [0, 1, 2, 3, 4] rfl) w
          · refine lv_iload hx hb dX2_memberOf_32 (lv_at hl 0 rfl) ?_
            exact ga_iret cx hr hlk w dX2_memberOf_34 ⟨Nat.le_refl _, Nat.le_refl _⟩ (⟨ga_rv (scD_hit nI hz c25 (by omega) (by omega) c29).symm, rfl⟩)
  exact loop5 _ 0 x (by omega) (scD_0 _ _) (Nat.lt_succ_self _) _ _ _ (lv_sub hl [0, 1, 2, 3, 4] rfl) w

set_option maxHeartbeats 4000000 in
set_option maxRecDepth 100000 in
theorem c_X2_inAll (l : Launch) (G : ga_G) (aR : Nat) (aD : Nat) (rl : Int32) (tn : Bool) (po : Bool) (ts : Nat) (hd : Nat) (aW : Nat) (aS : Nat) (aQ : Nat) (num : Nat) (tm : Bool) (sl : Bool) (ss : Nat → Nat) (ns : Nat → Nat) (hnum : num ≤ 200) (hss : ∀ i, i < num → ss i < 65536) (hts : ts < 65536) : ga_M l G yX2_inAll cX2_inAll 5 (Option.some Jvm.ClassFile.FieldType.int) 1 21 0 0 [.ref aR, .ref aW, .ref aS] [(aR, .inr (2, [.ref aD, .int rl, .int (bI tn), .int (bI po), .int (nI ts), .int (nI hd)])), (aW, .inr (3, [.ref aS, .ref aQ, .int (nI num), .int (bI tm), .int (bI sl)])), (aS, .inl (G.2.2, 200, .inl (aN ss))), (aQ, .inl (G.2.2, 200, .inl (aN ns)))] (fun r w => r = some (.int (allI ss (fun i => alw po ts hd (ss i)) num)) ∧ w = [(aR, .inr (2, [.ref aD, .int rl, .int (bI tn), .int (bI po), .int (nI ts), .int (nI hd)])), (aW, .inr (3, [.ref aS, .ref aQ, .int (nI num), .int (bI tm), .int (bI sl)])), (aS, .inl (G.2.2, 200, .inl (aN ss))), (aQ, .inl (G.2.2, 200, .inl (aN ns)))]) := by
  refine ga_M.intro (by decide) (Nat.le_of_ble_eq_true rfl) (fun p_ e_ s_ m_ below meth c_ A_ H_ locs_ ls cx hr hlk hnm hA hK hl w => ?_)
  have hx := cx.1
  have hb := cx.2.1
  have hl : lv_has ls 5 [(0, .ref aR), (1, .ref aW), (2, .ref aS)] := hl
  refine lv_iconst (v := (-1)) hx hb dX2_inAll_0 (by decide) ?_
  refine lv_istore_n (lv' := [(3, .int (-1)), (0, .ref aR), (1, .ref aW), (2, .ref aS)]) hx hb dX2_inAll_1 rfl hl (by decide) rfl (fun ls hl => ?_)
  refine lv_iconst (v := nI 0) hx hb dX2_inAll_2 (by decide) ?_
  refine lv_istore (lv' := [(4, .int (nI 0)), (3, .int (-1)), (0, .ref aR), (1, .ref aW), (2, .ref aS)]) hx hb dX2_inAll_3 hl (by decide) rfl (fun ls hl => ?_)
  have loop5 : ∀ (n_ : Nat) (i : Nat) (ac : Int32) (hi : i ≤ num) (ha : ac = allI ss (fun i => alw po ts hd (ss i)) i) (hm : 200 - i < n_) (H_ : Heap) (locs_ : List Loc) (ls : Array Slot) (hl : lv_has ls 5 [(4, .int (nI i)), (3, .int ac), (0, .ref aR), (1, .ref aW), (2, .ref aS)]) (w : ga_wd G A_ s_ H_ locs_ [(aR, .inr (2, [.ref aD, .int rl, .int (bI tn), .int (bI po), .int (nI ts), .int (nI hd)])), (aW, .inr (3, [.ref aS, .ref aQ, .int (nI num), .int (bI tm), .int (bI sl)])), (aS, .inl (G.2.2, 200, .inl (aN ss))), (aQ, .inl (G.2.2, 200, .inl (aN ns)))]), W p_ l e_ { frames := 1, cells := 0, slots := 0, locals := 21 } s_ m_ [.ref aR, .ref aW, .ref aS].toArray below meth c_ H_ locs_ (0) (0) (MQ below (ga_Q G A_ (fun r w => r = some (.int (allI ss (fun i => alw po ts hd (ss i)) num)) ∧ w = [(aR, .inr (2, [.ref aD, .int rl, .int (bI tn), .int (bI po), .int (nI ts), .int (nI hd)])), (aW, .inr (3, [.ref aS, .ref aQ, .int (nI num), .int (bI tm), .int (bI sl)])), (aS, .inl (G.2.2, 200, .inl (aN ss))), (aQ, .inl (G.2.2, 200, .inl (aN ns)))])) [.ref aR, .ref aW, .ref aS].toArray s_ 0 0 A_) (F0 m_ 5 ls []) := by
    intro n_
    induction n_ with
    | zero => intro i ac hi ha hm; exact absurd hm (Nat.not_lt_zero _)
    | succ n_ ih5 =>
      intro i ac hi ha hm5 H_ locs_ ls hl w
      refine lv_iload hx hb dX2_inAll_5 (lv_at hl 0 rfl) ?_
      refine lv_aload_n hx hb dX2_inAll_7 rfl (lv_at hl 3 rfl) ?_
      refine gf_X2_57 cx hK w 1 rfl rfl dX2_inAll_8 ?_
      refine r_icmp_ge hx hb dX2_inAll_11 (tgt := 41) (by decide) (by omega) (by omega) (fun c11 => ?_) (fun c11 => ?_)
      · refine lv_iload_n hx hb dX2_inAll_41 rfl (lv_at hl 1 rfl) ?_
        exact ga_iret cx hr hlk w dX2_inAll_42 ⟨Nat.le_refl _, Nat.le_refl _⟩ (⟨ga_rv (by rw [ha, show i = num by omega]), rfl⟩)
      · refine lv_aload_n hx hb dX2_inAll_14 rfl (lv_at hl 2 rfl) ?_
        refine lv_aload_n hx hb dX2_inAll_15 rfl (lv_at hl 3 rfl) ?_
        refine gf_X2_62 cx hK w 1 rfl rfl dX2_inAll_16 ?_
        refine lv_iload hx hb dX2_inAll_19 (lv_at hl 0 rfl) ?_
        refine r_ialdN hx hb hK w 2 rfl dX2_inAll_21 (by omega) (by decide) ?_
        refine ga_callV (rest := []) (wr := [(aW, .inr (3, [.ref aS, .ref aQ, .int (nI num), .int (bI tm), .int (bI sl)])), (aS, .inl (G.2.2, 200, .inl (aN ss))), (aQ, .inl (G.2.2, 200, .inl (aN ns)))]) cx hK hA w hl lk_X2_65 (c_X2_allows l G aR aD rl tn po ts hd (ss i) (by have := hss i (by omega); omega) (by omega)) ⟨Nat.le_of_ble_eq_true rfl, Nat.le_of_ble_eq_true rfl⟩ [0] [1, 2, 3] rfl rfl (by decide) (by decide) (by decide) 0 2 rfl rfl rfl rfl (Nat.le_of_ble_eq_true rfl) dX2_inAll_22 ⟨Nat.le_refl _, Nat.le_refl _⟩ rfl (fun r w1_ H_ locs_ hp w => ?_)
        obtain ⟨rfl, rfl⟩ := hp
        have w : ga_wd G A_ s_ H_ locs_ [(aR, .inr (2, [.ref aD, .int rl, .int (bI tn), .int (bI po), .int (nI ts), .int (nI hd)])), (aW, .inr (3, [.ref aS, .ref aQ, .int (nI num), .int (bI tm), .int (bI sl)])), (aS, .inl (G.2.2, 200, .inl (aN ss))), (aQ, .inl (G.2.2, 200, .inl (aN ns)))] := ga_perm w [3, 0, 1, 2] (by decide) rfl
        refine W.eq (g2 := F0 m_ 25 ls [.int (bI (alw po ts hd (ss i)))]) rfl ?_
        refine r_ifb_eq hx hb dX2_inAll_25 (tgt := 35) (by decide) (fun c25 => ?_) (fun c25 => ?_)
        · refine r_iinc (d := 1) (k := 0) (lv' := [(4, .int (nI (i + 1))), (3, .int ac), (0, .ref aR), (1, .ref aW), (2, .ref aS)]) hx hb dX2_inAll_35 hl rfl (by decide) (by decide) rfl (fun ls hl => ?_)
          refine lv_goto (tgt := 5) hx hb dX2_inAll_38 (by decide) ?_
          exact ih5 (i + 1) ac (by omega) (by rw [allI, if_neg (by rw [c25]; decide)]; exact ha) (by omega) _ _ _ (lv_sub hl [0, 1, 2, 3, 4] rfl) w
        · refine lv_iload_n hx hb dX2_inAll_28 rfl (lv_at hl 1 rfl) ?_
          refine lv_aload_n hx hb dX2_inAll_29 rfl (lv_at hl 4 rfl) ?_
          refine lv_iload hx hb dX2_inAll_30 (lv_at hl 0 rfl) ?_
          refine r_ialdN hx hb hK w 2 rfl dX2_inAll_32 (by omega) (by decide) ?_
          refine lv_iand hx hb dX2_inAll_33 ?_
          refine lv_istore_n (lv' := [(3, .int (ac &&& (nI (ss i)))), (4, .int (nI i)), (0, .ref aR), (1, .ref aW), (2, .ref aS)]) hx hb dX2_inAll_34 rfl hl (by decide) rfl (fun ls hl => ?_)
          refine r_iinc (d := 1) (k := 1) (lv' := [(4, .int (nI (i + 1))), (3, .int (ac &&& (nI (ss i)))), (0, .ref aR), (1, .ref aW), (2, .ref aS)]) hx hb dX2_inAll_35 hl rfl (by decide) (by decide) rfl (fun ls hl => ?_)
          refine lv_goto (tgt := 5) hx hb dX2_inAll_38 (by decide) ?_
          exact ih5 (i + 1) (ac &&& (nI (ss i))) (by omega) (by rw [allI, if_pos c25, ha]) (by omega) _ _ _ (lv_sub hl [0, 1, 2, 3, 4] rfl) w
  exact loop5 _ 0 (-1) (by omega) (rfl) (Nat.lt_succ_self _) _ _ _ (lv_sub hl [0, 1, 2, 3, 4] rfl) w

set_option maxHeartbeats 4000000 in
set_option maxRecDepth 100000 in
theorem c_X2_inSome (l : Launch) (G : ga_G) (aR : Nat) (aD : Nat) (rl : Int32) (tn : Bool) (po : Bool) (ts : Nat) (hd : Nat) (aW : Nat) (aS : Nat) (aQ : Nat) (num : Nat) (tm : Bool) (sl : Bool) (ss : Nat → Nat) (ns : Nat → Nat) (hnum : num ≤ 200) (hss : ∀ i, i < num → ss i < 65536) (hts : ts < 65536) : ga_M l G yX2_inSome cX2_inSome 5 (Option.some Jvm.ClassFile.FieldType.int) 1 21 0 0 [.ref aR, .ref aW, .ref aS] [(aR, .inr (2, [.ref aD, .int rl, .int (bI tn), .int (bI po), .int (nI ts), .int (nI hd)])), (aW, .inr (3, [.ref aS, .ref aQ, .int (nI num), .int (bI tm), .int (bI sl)])), (aS, .inl (G.2.2, 200, .inl (aN ss))), (aQ, .inl (G.2.2, 200, .inl (aN ns)))] (fun r w => r = some (.int (nI (orI ss (fun i => alw po ts hd (ss i)) num))) ∧ w = [(aR, .inr (2, [.ref aD, .int rl, .int (bI tn), .int (bI po), .int (nI ts), .int (nI hd)])), (aW, .inr (3, [.ref aS, .ref aQ, .int (nI num), .int (bI tm), .int (bI sl)])), (aS, .inl (G.2.2, 200, .inl (aN ss))), (aQ, .inl (G.2.2, 200, .inl (aN ns)))]) := by
  refine ga_M.intro (by decide) (Nat.le_of_ble_eq_true rfl) (fun p_ e_ s_ m_ below meth c_ A_ H_ locs_ ls cx hr hlk hnm hA hK hl w => ?_)
  have hx := cx.1
  have hb := cx.2.1
  have hl : lv_has ls 5 [(0, .ref aR), (1, .ref aW), (2, .ref aS)] := hl
  refine lv_iconst (v := nI 0) hx hb dX2_inSome_0 (by decide) ?_
  refine lv_istore_n (lv' := [(3, .int (nI 0)), (0, .ref aR), (1, .ref aW), (2, .ref aS)]) hx hb dX2_inSome_1 rfl hl (by decide) rfl (fun ls hl => ?_)
  refine lv_iconst (v := nI 0) hx hb dX2_inSome_2 (by decide) ?_
  refine lv_istore (lv' := [(4, .int (nI 0)), (3, .int (nI 0)), (0, .ref aR), (1, .ref aW), (2, .ref aS)]) hx hb dX2_inSome_3 hl (by decide) rfl (fun ls hl => ?_)
  have loop5 : ∀ (n_ : Nat) (i : Nat) (ac : Nat) (hi : i ≤ num) (ha : ac = orI ss (fun i => alw po ts hd (ss i)) i) (hm : 200 - i < n_) (H_ : Heap) (locs_ : List Loc) (ls : Array Slot) (hl : lv_has ls 5 [(4, .int (nI i)), (3, .int (nI ac)), (0, .ref aR), (1, .ref aW), (2, .ref aS)]) (w : ga_wd G A_ s_ H_ locs_ [(aR, .inr (2, [.ref aD, .int rl, .int (bI tn), .int (bI po), .int (nI ts), .int (nI hd)])), (aW, .inr (3, [.ref aS, .ref aQ, .int (nI num), .int (bI tm), .int (bI sl)])), (aS, .inl (G.2.2, 200, .inl (aN ss))), (aQ, .inl (G.2.2, 200, .inl (aN ns)))]), W p_ l e_ { frames := 1, cells := 0, slots := 0, locals := 21 } s_ m_ [.ref aR, .ref aW, .ref aS].toArray below meth c_ H_ locs_ (0) (0) (MQ below (ga_Q G A_ (fun r w => r = some (.int (nI (orI ss (fun i => alw po ts hd (ss i)) num))) ∧ w = [(aR, .inr (2, [.ref aD, .int rl, .int (bI tn), .int (bI po), .int (nI ts), .int (nI hd)])), (aW, .inr (3, [.ref aS, .ref aQ, .int (nI num), .int (bI tm), .int (bI sl)])), (aS, .inl (G.2.2, 200, .inl (aN ss))), (aQ, .inl (G.2.2, 200, .inl (aN ns)))])) [.ref aR, .ref aW, .ref aS].toArray s_ 0 0 A_) (F0 m_ 5 ls []) := by
    intro n_
    induction n_ with
    | zero => intro i ac hi ha hm; exact absurd hm (Nat.not_lt_zero _)
    | succ n_ ih5 =>
      intro i ac hi ha hm5 H_ locs_ ls hl w
      refine lv_iload hx hb dX2_inSome_5 (lv_at hl 0 rfl) ?_
      refine lv_aload_n hx hb dX2_inSome_7 rfl (lv_at hl 3 rfl) ?_
      refine gf_X2_57 cx hK w 1 rfl rfl dX2_inSome_8 ?_
      refine r_icmp_ge hx hb dX2_inSome_11 (tgt := 41) (by decide) (by omega) (by omega) (fun c11 => ?_) (fun c11 => ?_)
      · refine lv_iload_n hx hb dX2_inSome_41 rfl (lv_at hl 1 rfl) ?_
        exact ga_iret cx hr hlk w dX2_inSome_42 ⟨Nat.le_refl _, Nat.le_refl _⟩ (⟨ga_rv (by rw [ha, show i = num by omega]), rfl⟩)
      · refine lv_aload_n hx hb dX2_inSome_14 rfl (lv_at hl 2 rfl) ?_
        refine lv_aload_n hx hb dX2_inSome_15 rfl (lv_at hl 3 rfl) ?_
        refine gf_X2_62 cx hK w 1 rfl rfl dX2_inSome_16 ?_
        refine lv_iload hx hb dX2_inSome_19 (lv_at hl 0 rfl) ?_
        refine r_ialdN hx hb hK w 2 rfl dX2_inSome_21 (by omega) (by decide) ?_
        refine ga_callV (rest := []) (wr := [(aW, .inr (3, [.ref aS, .ref aQ, .int (nI num), .int (bI tm), .int (bI sl)])), (aS, .inl (G.2.2, 200, .inl (aN ss))), (aQ, .inl (G.2.2, 200, .inl (aN ns)))]) cx hK hA w hl lk_X2_65 (c_X2_allows l G aR aD rl tn po ts hd (ss i) (by have := hss i (by omega); omega) (by omega)) ⟨Nat.le_of_ble_eq_true rfl, Nat.le_of_ble_eq_true rfl⟩ [0] [1, 2, 3] rfl rfl (by decide) (by decide) (by decide) 0 2 rfl rfl rfl rfl (Nat.le_of_ble_eq_true rfl) dX2_inSome_22 ⟨Nat.le_refl _, Nat.le_refl _⟩ rfl (fun r w1_ H_ locs_ hp w => ?_)
        obtain ⟨rfl, rfl⟩ := hp
        have w : ga_wd G A_ s_ H_ locs_ [(aR, .inr (2, [.ref aD, .int rl, .int (bI tn), .int (bI po), .int (nI ts), .int (nI hd)])), (aW, .inr (3, [.ref aS, .ref aQ, .int (nI num), .int (bI tm), .int (bI sl)])), (aS, .inl (G.2.2, 200, .inl (aN ss))), (aQ, .inl (G.2.2, 200, .inl (aN ns)))] := ga_perm w [3, 0, 1, 2] (by decide) rfl
        refine W.eq (g2 := F0 m_ 25 ls [.int (bI (alw po ts hd (ss i)))]) rfl ?_
        refine r_ifb_eq hx hb dX2_inSome_25 (tgt := 35) (by decide) (fun c25 => ?_) (fun c25 => ?_)
        · refine r_iinc (d := 1) (k := 0) (lv' := [(4, .int (nI (i + 1))), (3, .int (nI ac)), (0, .ref aR), (1, .ref aW), (2, .ref aS)]) hx hb dX2_inSome_35 hl rfl (by decide) (by decide) rfl (fun ls hl => ?_)
          refine lv_goto (tgt := 5) hx hb dX2_inSome_38 (by decide) ?_
          exact ih5 (i + 1) ac (by omega) (by rw [orI, if_neg (by rw [c25]; decide)]; exact ha) (by omega) _ _ _ (lv_sub hl [0, 1, 2, 3, 4] rfl) w
        · refine lv_iload_n hx hb dX2_inSome_28 rfl (lv_at hl 1 rfl) ?_
          refine lv_aload_n hx hb dX2_inSome_29 rfl (lv_at hl 4 rfl) ?_
          refine lv_iload hx hb dX2_inSome_30 (lv_at hl 0 rfl) ?_
          refine r_ialdN hx hb hK w 2 rfl dX2_inSome_32 (by omega) (by decide) ?_
          refine r_ior hx hb dX2_inSome_33 ?_
          refine lv_istore_n (lv' := [(3, .int (nI (ac ||| (ss i)))), (4, .int (nI i)), (0, .ref aR), (1, .ref aW), (2, .ref aS)]) hx hb dX2_inSome_34 rfl hl (by decide) rfl (fun ls hl => ?_)
          refine r_iinc (d := 1) (k := 1) (lv' := [(4, .int (nI (i + 1))), (3, .int (nI (ac ||| (ss i)))), (0, .ref aR), (1, .ref aW), (2, .ref aS)]) hx hb dX2_inSome_35 hl rfl (by decide) (by decide) rfl (fun ls hl => ?_)
          refine lv_goto (tgt := 5) hx hb dX2_inSome_38 (by decide) ?_
          exact ih5 (i + 1) (ac ||| (ss i)) (by omega) (by rw [orI, if_pos c25, ha]) (by omega) _ _ _ (lv_sub hl [0, 1, 2, 3, 4] rfl) w
  exact loop5 _ 0 0 (by omega) (rfl) (Nat.lt_succ_self _) _ _ _ (lv_sub hl [0, 1, 2, 3, 4] rfl) w

set_option maxHeartbeats 4000000 in
set_option maxRecDepth 100000 in
theorem c_X2_inAllN (l : Launch) (G : ga_G) (aR : Nat) (aD : Nat) (rl : Int32) (tn : Bool) (po : Bool) (ts : Nat) (hd : Nat) (aW : Nat) (aS : Nat) (aQ : Nat) (num : Nat) (tm : Bool) (sl : Bool) (ss : Nat → Nat) (ns : Nat → Nat) (hnum : num ≤ 200) (hss : ∀ i, i < num → ss i < 65536) (hts : ts < 65536) : ga_M l G yX2_inAll cX2_inAll 5 (Option.some Jvm.ClassFile.FieldType.int) 1 21 0 0 [.ref aR, .ref aW, .ref aQ] [(aR, .inr (2, [.ref aD, .int rl, .int (bI tn), .int (bI po), .int (nI ts), .int (nI hd)])), (aW, .inr (3, [.ref aS, .ref aQ, .int (nI num), .int (bI tm), .int (bI sl)])), (aS, .inl (G.2.2, 200, .inl (aN ss))), (aQ, .inl (G.2.2, 200, .inl (aN ns)))] (fun r w => r = some (.int (allI ns (fun i => alw po ts hd (ss i)) num)) ∧ w = [(aR, .inr (2, [.ref aD, .int rl, .int (bI tn), .int (bI po), .int (nI ts), .int (nI hd)])), (aW, .inr (3, [.ref aS, .ref aQ, .int (nI num), .int (bI tm), .int (bI sl)])), (aS, .inl (G.2.2, 200, .inl (aN ss))), (aQ, .inl (G.2.2, 200, .inl (aN ns)))]) := by
  refine ga_M.intro (by decide) (Nat.le_of_ble_eq_true rfl) (fun p_ e_ s_ m_ below meth c_ A_ H_ locs_ ls cx hr hlk hnm hA hK hl w => ?_)
  have hx := cx.1
  have hb := cx.2.1
  have hl : lv_has ls 5 [(0, .ref aR), (1, .ref aW), (2, .ref aQ)] := hl
  refine lv_iconst (v := (-1)) hx hb dX2_inAll_0 (by decide) ?_
  refine lv_istore_n (lv' := [(3, .int (-1)), (0, .ref aR), (1, .ref aW), (2, .ref aQ)]) hx hb dX2_inAll_1 rfl hl (by decide) rfl (fun ls hl => ?_)
  refine lv_iconst (v := nI 0) hx hb dX2_inAll_2 (by decide) ?_
  refine lv_istore (lv' := [(4, .int (nI 0)), (3, .int (-1)), (0, .ref aR), (1, .ref aW), (2, .ref aQ)]) hx hb dX2_inAll_3 hl (by decide) rfl (fun ls hl => ?_)
  have loop5 : ∀ (n_ : Nat) (i : Nat) (ac : Int32) (hi : i ≤ num) (ha : ac = allI ns (fun i => alw po ts hd (ss i)) i) (hm : 200 - i < n_) (H_ : Heap) (locs_ : List Loc) (ls : Array Slot) (hl : lv_has ls 5 [(4, .int (nI i)), (3, .int ac), (0, .ref aR), (1, .ref aW), (2, .ref aQ)]) (w : ga_wd G A_ s_ H_ locs_ [(aR, .inr (2, [.ref aD, .int rl, .int (bI tn), .int (bI po), .int (nI ts), .int (nI hd)])), (aW, .inr (3, [.ref aS, .ref aQ, .int (nI num), .int (bI tm), .int (bI sl)])), (aS, .inl (G.2.2, 200, .inl (aN ss))), (aQ, .inl (G.2.2, 200, .inl (aN ns)))]), W p_ l e_ { frames := 1, cells := 0, slots := 0, locals := 21 } s_ m_ [.ref aR, .ref aW, .ref aQ].toArray below meth c_ H_ locs_ (0) (0) (MQ below (ga_Q G A_ (fun r w => r = some (.int (allI ns (fun i => alw po ts hd (ss i)) num)) ∧ w = [(aR, .inr (2, [.ref aD, .int rl, .int (bI tn), .int (bI po), .int (nI ts), .int (nI hd)])), (aW, .inr (3, [.ref aS, .ref aQ, .int (nI num), .int (bI tm), .int (bI sl)])), (aS, .inl (G.2.2, 200, .inl (aN ss))), (aQ, .inl (G.2.2, 200, .inl (aN ns)))])) [.ref aR, .ref aW, .ref aQ].toArray s_ 0 0 A_) (F0 m_ 5 ls []) := by
    intro n_
    induction n_ with
    | zero => intro i ac hi ha hm; exact absurd hm (Nat.not_lt_zero _)
    | succ n_ ih5 =>
      intro i ac hi ha hm5 H_ locs_ ls hl w
      refine lv_iload hx hb dX2_inAll_5 (lv_at hl 0 rfl) ?_
      refine lv_aload_n hx hb dX2_inAll_7 rfl (lv_at hl 3 rfl) ?_
      refine gf_X2_57 cx hK w 1 rfl rfl dX2_inAll_8 ?_
      refine r_icmp_ge hx hb dX2_inAll_11 (tgt := 41) (by decide) (by omega) (by omega) (fun c11 => ?_) (fun c11 => ?_)
      · refine lv_iload_n hx hb dX2_inAll_41 rfl (lv_at hl 1 rfl) ?_
        exact ga_iret cx hr hlk w dX2_inAll_42 ⟨Nat.le_refl _, Nat.le_refl _⟩ (⟨ga_rv (by rw [ha, show i = num by omega]), rfl⟩)
      · refine lv_aload_n hx hb dX2_inAll_14 rfl (lv_at hl 2 rfl) ?_
        refine lv_aload_n hx hb dX2_inAll_15 rfl (lv_at hl 3 rfl) ?_
        refine gf_X2_62 cx hK w 1 rfl rfl dX2_inAll_16 ?_
        refine lv_iload hx hb dX2_inAll_19 (lv_at hl 0 rfl) ?_
        refine r_ialdN hx hb hK w 2 rfl dX2_inAll_21 (by omega) (by decide) ?_
        refine ga_callV (rest := []) (wr := [(aW, .inr (3, [.ref aS, .ref aQ, .int (nI num), .int (bI tm), .int (bI sl)])), (aS, .inl (G.2.2, 200, .inl (aN ss))), (aQ, .inl (G.2.2, 200, .inl (aN ns)))]) cx hK hA w hl lk_X2_65 (c_X2_allows l G aR aD rl tn po ts hd (ss i) (by have := hss i (by omega); omega) (by omega)) ⟨Nat.le_of_ble_eq_true rfl, Nat.le_of_ble_eq_true rfl⟩ [0] [1, 2, 3] rfl rfl (by decide) (by decide) (by decide) 0 2 rfl rfl rfl rfl (Nat.le_of_ble_eq_true rfl) dX2_inAll_22 ⟨Nat.le_refl _, Nat.le_refl _⟩ rfl (fun r w1_ H_ locs_ hp w => ?_)
        obtain ⟨rfl, rfl⟩ := hp
        have w : ga_wd G A_ s_ H_ locs_ [(aR, .inr (2, [.ref aD, .int rl, .int (bI tn), .int (bI po), .int (nI ts), .int (nI hd)])), (aW, .inr (3, [.ref aS, .ref aQ, .int (nI num), .int (bI tm), .int (bI sl)])), (aS, .inl (G.2.2, 200, .inl (aN ss))), (aQ, .inl (G.2.2, 200, .inl (aN ns)))] := ga_perm w [3, 0, 1, 2] (by decide) rfl
        refine W.eq (g2 := F0 m_ 25 ls [.int (bI (alw po ts hd (ss i)))]) rfl ?_
        refine r_ifb_eq hx hb dX2_inAll_25 (tgt := 35) (by decide) (fun c25 => ?_) (fun c25 => ?_)
        · refine r_iinc (d := 1) (k := 0) (lv' := [(4, .int (nI (i + 1))), (3, .int ac), (0, .ref aR), (1, .ref aW), (2, .ref aQ)]) hx hb dX2_inAll_35 hl rfl (by decide) (by decide) rfl (fun ls hl => ?_)
          refine lv_goto (tgt := 5) hx hb dX2_inAll_38 (by decide) ?_
          exact ih5 (i + 1) ac (by omega) (by rw [allI, if_neg (by rw [c25]; decide)]; exact ha) (by omega) _ _ _ (lv_sub hl [0, 1, 2, 3, 4] rfl) w
        · refine lv_iload_n hx hb dX2_inAll_28 rfl (lv_at hl 1 rfl) ?_
          refine lv_aload_n hx hb dX2_inAll_29 rfl (lv_at hl 4 rfl) ?_
          refine lv_iload hx hb dX2_inAll_30 (lv_at hl 0 rfl) ?_
          refine r_ialdN hx hb hK w 3 rfl dX2_inAll_32 (by omega) (by decide) ?_
          refine lv_iand hx hb dX2_inAll_33 ?_
          refine lv_istore_n (lv' := [(3, .int (ac &&& (nI (ns i)))), (4, .int (nI i)), (0, .ref aR), (1, .ref aW), (2, .ref aQ)]) hx hb dX2_inAll_34 rfl hl (by decide) rfl (fun ls hl => ?_)
          refine r_iinc (d := 1) (k := 1) (lv' := [(4, .int (nI (i + 1))), (3, .int (ac &&& (nI (ns i)))), (0, .ref aR), (1, .ref aW), (2, .ref aQ)]) hx hb dX2_inAll_35 hl rfl (by decide) (by decide) rfl (fun ls hl => ?_)
          refine lv_goto (tgt := 5) hx hb dX2_inAll_38 (by decide) ?_
          exact ih5 (i + 1) (ac &&& (nI (ns i))) (by omega) (by rw [allI, if_pos c25, ha]) (by omega) _ _ _ (lv_sub hl [0, 1, 2, 3, 4] rfl) w
  exact loop5 _ 0 (-1) (by omega) (rfl) (Nat.lt_succ_self _) _ _ _ (lv_sub hl [0, 1, 2, 3, 4] rfl) w

set_option maxHeartbeats 4000000 in
set_option maxRecDepth 100000 in
theorem c_X2_inSomeN (l : Launch) (G : ga_G) (aR : Nat) (aD : Nat) (rl : Int32) (tn : Bool) (po : Bool) (ts : Nat) (hd : Nat) (aW : Nat) (aS : Nat) (aQ : Nat) (num : Nat) (tm : Bool) (sl : Bool) (ss : Nat → Nat) (ns : Nat → Nat) (hnum : num ≤ 200) (hss : ∀ i, i < num → ss i < 65536) (hts : ts < 65536) : ga_M l G yX2_inSome cX2_inSome 5 (Option.some Jvm.ClassFile.FieldType.int) 1 21 0 0 [.ref aR, .ref aW, .ref aQ] [(aR, .inr (2, [.ref aD, .int rl, .int (bI tn), .int (bI po), .int (nI ts), .int (nI hd)])), (aW, .inr (3, [.ref aS, .ref aQ, .int (nI num), .int (bI tm), .int (bI sl)])), (aS, .inl (G.2.2, 200, .inl (aN ss))), (aQ, .inl (G.2.2, 200, .inl (aN ns)))] (fun r w => r = some (.int (nI (orI ns (fun i => alw po ts hd (ss i)) num))) ∧ w = [(aR, .inr (2, [.ref aD, .int rl, .int (bI tn), .int (bI po), .int (nI ts), .int (nI hd)])), (aW, .inr (3, [.ref aS, .ref aQ, .int (nI num), .int (bI tm), .int (bI sl)])), (aS, .inl (G.2.2, 200, .inl (aN ss))), (aQ, .inl (G.2.2, 200, .inl (aN ns)))]) := by
  refine ga_M.intro (by decide) (Nat.le_of_ble_eq_true rfl) (fun p_ e_ s_ m_ below meth c_ A_ H_ locs_ ls cx hr hlk hnm hA hK hl w => ?_)
  have hx := cx.1
  have hb := cx.2.1
  have hl : lv_has ls 5 [(0, .ref aR), (1, .ref aW), (2, .ref aQ)] := hl
  refine lv_iconst (v := nI 0) hx hb dX2_inSome_0 (by decide) ?_
  refine lv_istore_n (lv' := [(3, .int (nI 0)), (0, .ref aR), (1, .ref aW), (2, .ref aQ)]) hx hb dX2_inSome_1 rfl hl (by decide) rfl (fun ls hl => ?_)
  refine lv_iconst (v := nI 0) hx hb dX2_inSome_2 (by decide) ?_
  refine lv_istore (lv' := [(4, .int (nI 0)), (3, .int (nI 0)), (0, .ref aR), (1, .ref aW), (2, .ref aQ)]) hx hb dX2_inSome_3 hl (by decide) rfl (fun ls hl => ?_)
  have loop5 : ∀ (n_ : Nat) (i : Nat) (ac : Nat) (hi : i ≤ num) (ha : ac = orI ns (fun i => alw po ts hd (ss i)) i) (hm : 200 - i < n_) (H_ : Heap) (locs_ : List Loc) (ls : Array Slot) (hl : lv_has ls 5 [(4, .int (nI i)), (3, .int (nI ac)), (0, .ref aR), (1, .ref aW), (2, .ref aQ)]) (w : ga_wd G A_ s_ H_ locs_ [(aR, .inr (2, [.ref aD, .int rl, .int (bI tn), .int (bI po), .int (nI ts), .int (nI hd)])), (aW, .inr (3, [.ref aS, .ref aQ, .int (nI num), .int (bI tm), .int (bI sl)])), (aS, .inl (G.2.2, 200, .inl (aN ss))), (aQ, .inl (G.2.2, 200, .inl (aN ns)))]), W p_ l e_ { frames := 1, cells := 0, slots := 0, locals := 21 } s_ m_ [.ref aR, .ref aW, .ref aQ].toArray below meth c_ H_ locs_ (0) (0) (MQ below (ga_Q G A_ (fun r w => r = some (.int (nI (orI ns (fun i => alw po ts hd (ss i)) num))) ∧ w = [(aR, .inr (2, [.ref aD, .int rl, .int (bI tn), .int (bI po), .int (nI ts), .int (nI hd)])), (aW, .inr (3, [.ref aS, .ref aQ, .int (nI num), .int (bI tm), .int (bI sl)])), (aS, .inl (G.2.2, 200, .inl (aN ss))), (aQ, .inl (G.2.2, 200, .inl (aN ns)))])) [.ref aR, .ref aW, .ref aQ].toArray s_ 0 0 A_) (F0 m_ 5 ls []) := by
    intro n_
    induction n_ with
    | zero => intro i ac hi ha hm; exact absurd hm (Nat.not_lt_zero _)
    | succ n_ ih5 =>
      intro i ac hi ha hm5 H_ locs_ ls hl w
      refine lv_iload hx hb dX2_inSome_5 (lv_at hl 0 rfl) ?_
      refine lv_aload_n hx hb dX2_inSome_7 rfl (lv_at hl 3 rfl) ?_
      refine gf_X2_57 cx hK w 1 rfl rfl dX2_inSome_8 ?_
      refine r_icmp_ge hx hb dX2_inSome_11 (tgt := 41) (by decide) (by omega) (by omega) (fun c11 => ?_) (fun c11 => ?_)
      · refine lv_iload_n hx hb dX2_inSome_41 rfl (lv_at hl 1 rfl) ?_
        exact ga_iret cx hr hlk w dX2_inSome_42 ⟨Nat.le_refl _, Nat.le_refl _⟩ (⟨ga_rv (by rw [ha, show i = num by omega]), rfl⟩)
      · refine lv_aload_n hx hb dX2_inSome_14 rfl (lv_at hl 2 rfl) ?_
        refine lv_aload_n hx hb dX2_inSome_15 rfl (lv_at hl 3 rfl) ?_
        refine gf_X2_62 cx hK w 1 rfl rfl dX2_inSome_16 ?_
        refine lv_iload hx hb dX2_inSome_19 (lv_at hl 0 rfl) ?_
        refine r_ialdN hx hb hK w 2 rfl dX2_inSome_21 (by omega) (by decide) ?_
        refine ga_callV (rest := []) (wr := [(aW, .inr (3, [.ref aS, .ref aQ, .int (nI num), .int (bI tm), .int (bI sl)])), (aS, .inl (G.2.2, 200, .inl (aN ss))), (aQ, .inl (G.2.2, 200, .inl (aN ns)))]) cx hK hA w hl lk_X2_65 (c_X2_allows l G aR aD rl tn po ts hd (ss i) (by have := hss i (by omega); omega) (by omega)) ⟨Nat.le_of_ble_eq_true rfl, Nat.le_of_ble_eq_true rfl⟩ [0] [1, 2, 3] rfl rfl (by decide) (by decide) (by decide) 0 2 rfl rfl rfl rfl (Nat.le_of_ble_eq_true rfl) dX2_inSome_22 ⟨Nat.le_refl _, Nat.le_refl _⟩ rfl (fun r w1_ H_ locs_ hp w => ?_)
        obtain ⟨rfl, rfl⟩ := hp
        have w : ga_wd G A_ s_ H_ locs_ [(aR, .inr (2, [.ref aD, .int rl, .int (bI tn), .int (bI po), .int (nI ts), .int (nI hd)])), (aW, .inr (3, [.ref aS, .ref aQ, .int (nI num), .int (bI tm), .int (bI sl)])), (aS, .inl (G.2.2, 200, .inl (aN ss))), (aQ, .inl (G.2.2, 200, .inl (aN ns)))] := ga_perm w [3, 0, 1, 2] (by decide) rfl
        refine W.eq (g2 := F0 m_ 25 ls [.int (bI (alw po ts hd (ss i)))]) rfl ?_
        refine r_ifb_eq hx hb dX2_inSome_25 (tgt := 35) (by decide) (fun c25 => ?_) (fun c25 => ?_)
        · refine r_iinc (d := 1) (k := 0) (lv' := [(4, .int (nI (i + 1))), (3, .int (nI ac)), (0, .ref aR), (1, .ref aW), (2, .ref aQ)]) hx hb dX2_inSome_35 hl rfl (by decide) (by decide) rfl (fun ls hl => ?_)
          refine lv_goto (tgt := 5) hx hb dX2_inSome_38 (by decide) ?_
          exact ih5 (i + 1) ac (by omega) (by rw [orI, if_neg (by rw [c25]; decide)]; exact ha) (by omega) _ _ _ (lv_sub hl [0, 1, 2, 3, 4] rfl) w
        · refine lv_iload_n hx hb dX2_inSome_28 rfl (lv_at hl 1 rfl) ?_
          refine lv_aload_n hx hb dX2_inSome_29 rfl (lv_at hl 4 rfl) ?_
          refine lv_iload hx hb dX2_inSome_30 (lv_at hl 0 rfl) ?_
          refine r_ialdN hx hb hK w 3 rfl dX2_inSome_32 (by omega) (by decide) ?_
          refine r_ior hx hb dX2_inSome_33 ?_
          refine lv_istore_n (lv' := [(3, .int (nI (ac ||| (ns i)))), (4, .int (nI i)), (0, .ref aR), (1, .ref aW), (2, .ref aQ)]) hx hb dX2_inSome_34 rfl hl (by decide) rfl (fun ls hl => ?_)
          refine r_iinc (d := 1) (k := 1) (lv' := [(4, .int (nI (i + 1))), (3, .int (nI (ac ||| (ns i)))), (0, .ref aR), (1, .ref aW), (2, .ref aQ)]) hx hb dX2_inSome_35 hl rfl (by decide) (by decide) rfl (fun ls hl => ?_)
          refine lv_goto (tgt := 5) hx hb dX2_inSome_38 (by decide) ?_
          exact ih5 (i + 1) (ac ||| (ns i)) (by omega) (by rw [orI, if_pos c25, ha]) (by omega) _ _ _ (lv_sub hl [0, 1, 2, 3, 4] rfl) w
  exact loop5 _ 0 0 (by omega) (rfl) (Nat.lt_succ_self _) _ _ _ (lv_sub hl [0, 1, 2, 3, 4] rfl) w

set_option maxHeartbeats 4000000 in
set_option maxRecDepth 100000 in
theorem c_X3_add (l : Launch) (G : ga_G) (aW : Nat) (aS : Nat) (aQ : Nat) (num : Nat) (tm : Bool) (sl : Bool) (ss : Nat → Nat) (ns : Nat → Nat) (to : Nat → Nat) (ws : List (List Nat)) (p : List Nat) (hR : Rep to ws num tm ss ns) : ga_M l G yX3_add cX3_add 3 (Option.none : Option Jvm.ClassFile.FieldType) 0 0 0 0 [.ref aW, .int (nI (bs p)), .int (nI (nb to p))] [(aW, .inr (3, [.ref aS, .ref aQ, .int (nI num), .int (bI tm), .int (bI sl)])), (aS, .inl (G.2.2, 200, .inl (aN ss))), (aQ, .inl (G.2.2, 200, .inl (aN ns)))] (fun r w => ∃ (num2 : Nat), ∃ (tm2 : Bool), ∃ (ss2 : Nat → Nat), ∃ (ns2 : Nat → Nat), (Rep to (ws ++ [p]) num2 tm2 ss2 ns2) ∧ r = none ∧ w = [(aW, .inr (3, [.ref aS, .ref aQ, .int (nI num2), .int (bI tm2), .int (bI sl)])), (aS, .inl (G.2.2, 200, .inl (aN ss2))), (aQ, .inl (G.2.2, 200, .inl (aN ns2)))]) := by
  refine ga_M.intro (by decide) (Nat.le_of_ble_eq_true rfl) (fun p_ e_ s_ m_ below meth c_ A_ H_ locs_ ls cx hr hlk hnm hA hK hl w => ?_)
  have hx := cx.1
  have hb := cx.2.1
  have hl : lv_has ls 3 [(0, .ref aW), (1, .int (nI (bs p))), (2, .int (nI (nb to p)))] := hl
  have hnum : num ≤ 200 := by rw [hR.1]; exact Nat.min_le_left _ _
  refine lv_aload_n hx hb dX3_add_0 rfl (lv_at hl 0 rfl) ?_
  refine gf_X3_22 cx hK w 0 rfl rfl dX3_add_1 ?_
  refine lv_sipush (v := nI 200) hx hb dX3_add_4 (by decide) ?_
  refine r_icmp_lt hx hb dX3_add_7 (tgt := 16) (by decide) (by omega) (by omega) (fun c7 => ?_) (fun c7 => ?_)
  · refine lv_aload_n hx hb dX3_add_16 rfl (lv_at hl 0 rfl) ?_
    refine gf_X3_9 cx hK w 0 rfl rfl dX3_add_17 ?_
    refine lv_aload_n hx hb dX3_add_20 rfl (lv_at hl 0 rfl) ?_
    refine gf_X3_22 cx hK w 0 rfl rfl dX3_add_21 ?_
    refine lv_iload_n hx hb dX3_add_24 rfl (lv_at hl 1 rfl) ?_
    refine r_iastN hx hb hK w 1 rfl dX3_add_25 (by omega) (by decide) (fun H_ locs_ w => ?_)
    have w : ga_wd G A_ s_ H_ locs_ [(aW, .inr (3, [.ref aS, .ref aQ, .int (nI num), .int (bI tm), .int (bI sl)])), (aS, .inl (G.2.2, 200, .inl (aN (uN ss num (bs p))))), (aQ, .inl (G.2.2, 200, .inl (aN ns)))] := w
    refine lv_aload_n hx hb dX3_add_26 rfl (lv_at hl 0 rfl) ?_
    refine gf_X3_15 cx hK w 0 rfl rfl dX3_add_27 ?_
    refine lv_aload_n hx hb dX3_add_30 rfl (lv_at hl 0 rfl) ?_
    refine gf_X3_22 cx hK w 0 rfl rfl dX3_add_31 ?_
    refine lv_iload_n hx hb dX3_add_34 rfl (lv_at hl 2 rfl) ?_
    refine r_iastN hx hb hK w 2 rfl dX3_add_35 (by omega) (by decide) (fun H_ locs_ w => ?_)
    have w : ga_wd G A_ s_ H_ locs_ [(aW, .inr (3, [.ref aS, .ref aQ, .int (nI num), .int (bI tm), .int (bI sl)])), (aS, .inl (G.2.2, 200, .inl (aN (uN ss num (bs p))))), (aQ, .inl (G.2.2, 200, .inl (aN (uN ns num (nb to p)))))] := w
    refine lv_aload_n hx hb dX3_add_36 rfl (lv_at hl 0 rfl) ?_
    refine lv_dup hx hb dX3_add_37 rfl ?_
    refine gf_X3_22 cx hK w 0 rfl rfl dX3_add_38 ?_
    refine lv_iconst (v := nI 1) hx hb dX3_add_41 (by decide) ?_
    refine r_iadd hx hb dX3_add_42 ?_
    refine pf_X3_22 cx hK w 0 rfl rfl rfl (Nat.le_of_ble_eq_true rfl) dX3_add_43 (fun H_ locs_ w => ?_)
    have w : ga_wd G A_ s_ H_ locs_ [(aW, .inr (3, [.ref aS, .ref aQ, .int (nI (num + 1)), .int (bI tm), .int (bI sl)])), (aS, .inl (G.2.2, 200, .inl (aN (uN ss num (bs p))))), (aQ, .inl (G.2.2, 200, .inl (aN (uN ns num (nb to p)))))] := w
    exact ga_vret cx hr hlk w dX3_add_46 ⟨Nat.le_refl _, Nat.le_refl _⟩ (⟨num + 1, tm, _, _, Rep_add hR c7, rfl, rfl⟩)
  · refine lv_aload_n hx hb dX3_add_10 rfl (lv_at hl 0 rfl) ?_
    refine lv_iconst (v := nI 1) hx hb dX3_add_11 (by decide) ?_
    refine pf_X3_26 cx hK w 0 rfl rfl rfl (Nat.le_of_ble_eq_true rfl) dX3_add_12 (fun H_ locs_ w => ?_)
    have w : ga_wd G A_ s_ H_ locs_ [(aW, .inr (3, [.ref aS, .ref aQ, .int (nI num), .int (nI 1), .int (bI sl)])), (aS, .inl (G.2.2, 200, .inl (aN ss))), (aQ, .inl (G.2.2, 200, .inl (aN ns)))] := w
    exact ga_vret cx hr hlk w dX3_add_15 ⟨Nat.le_refl _, Nat.le_refl _⟩ (⟨num, true, ss, ns, Rep_full hR c7 (by simp), rfl, rfl⟩)

set_option maxHeartbeats 4000000 in
set_option maxRecDepth 100000 in
theorem c_X3_firstLike (l : Launch) (G : ga_G) (aW : Nat) (aS : Nat) (aQ : Nat) (num : Nat) (tm : Bool) (sl : Bool) (ss : Nat → Nat) (ns : Nat → Nat) (i : Nat) (li : Nat) (hi : i < 200) (hss : ∀ j, j ≤ i → ss j < 65536) : ga_M l G yX3_firstLike cX3_firstLike 5 (Option.some Jvm.ClassFile.FieldType.int) 0 0 0 0 [.ref aW, .int (nI i), .int (nI li)] [(aW, .inr (3, [.ref aS, .ref aQ, .int (nI num), .int (bI tm), .int (bI sl)])), (aS, .inl (G.2.2, 200, .inl (aN ss))), (aQ, .inl (G.2.2, 200, .inl (aN ns)))] (fun r w => r = some (.int (nI (lfst (like ss li i) i))) ∧ w = [(aW, .inr (3, [.ref aS, .ref aQ, .int (nI num), .int (bI tm), .int (bI sl)])), (aS, .inl (G.2.2, 200, .inl (aN ss))), (aQ, .inl (G.2.2, 200, .inl (aN ns)))]) := by
  refine ga_M.intro (by decide) (Nat.le_of_ble_eq_true rfl) (fun p_ e_ s_ m_ below meth c_ A_ H_ locs_ ls cx hr hlk hnm hA hK hl w => ?_)
  have hx := cx.1
  have hb := cx.2.1
  have hl : lv_has ls 5 [(0, .ref aW), (1, .int (nI i)), (2, .int (nI li))] := hl
  refine lv_aload_n hx hb dX3_firstLike_0 rfl (lv_at hl 0 rfl) ?_
  refine gf_X3_9 cx hK w 0 rfl rfl dX3_firstLike_1 ?_
  refine lv_iload_n hx hb dX3_firstLike_4 rfl (lv_at hl 1 rfl) ?_
  refine r_ialdN hx hb hK w 1 rfl dX3_firstLike_5 (by omega) (by decide) ?_
  refine lv_iload_n hx hb dX3_firstLike_6 rfl (lv_at hl 2 rfl) ?_
  refine r_iand hx hb dX3_firstLike_7 ?_
  refine lv_istore_n (lv' := [(3, .int (nI ((ss i) &&& li))), (0, .ref aW), (1, .int (nI i)), (2, .int (nI li))]) hx hb dX3_firstLike_8 rfl hl (by decide) rfl (fun ls hl => ?_)
  refine lv_iconst (v := nI 0) hx hb dX3_firstLike_9 (by decide) ?_
  refine lv_istore (lv' := [(4, .int (nI 0)), (3, .int (nI ((ss i) &&& li))), (0, .ref aW), (1, .int (nI i)), (2, .int (nI li))]) hx hb dX3_firstLike_10 hl (by decide) rfl (fun ls hl => ?_)
  have loop12 : ∀ (n_ : Nat) (j : Nat) (hj : j ≤ i) (hbf : ∀ u, u < j → like ss li i u = false) (hm : 200 - j < n_) (H_ : Heap) (locs_ : List Loc) (ls : Array Slot) (hl : lv_has ls 5 [(4, .int (nI j)), (3, .int (nI ((ss i) &&& li))), (0, .ref aW), (1, .int (nI i)), (2, .int (nI li))]) (w : ga_wd G A_ s_ H_ locs_ [(aW, .inr (3, [.ref aS, .ref aQ, .int (nI num), .int (bI tm), .int (bI sl)])), (aS, .inl (G.2.2, 200, .inl (aN ss))), (aQ, .inl (G.2.2, 200, .inl (aN ns)))]), W p_ l e_ { frames := 0, cells := 0, slots := 0, locals := 0 } s_ m_ [.ref aW, .int (nI i), .int (nI li)].toArray below meth c_ H_ locs_ (0) (0) (MQ below (ga_Q G A_ (fun r w => r = some (.int (nI (lfst (like ss li i) i))) ∧ w = [(aW, .inr (3, [.ref aS, .ref aQ, .int (nI num), .int (bI tm), .int (bI sl)])), (aS, .inl (G.2.2, 200, .inl (aN ss))), (aQ, .inl (G.2.2, 200, .inl (aN ns)))])) [.ref aW, .int (nI i), .int (nI li)].toArray s_ 0 0 A_) (F0 m_ 12 ls []) := by
    intro n_
    induction n_ with
    | zero => intro j hj hbf hm; exact absurd hm (Nat.not_lt_zero _)
    | succ n_ ih12 =>
      intro j hj hbf hm12 H_ locs_ ls hl w
      refine lv_iload hx hb dX3_firstLike_12 (lv_at hl 0 rfl) ?_
      refine lv_iload_n hx hb dX3_firstLike_14 rfl (lv_at hl 3 rfl) ?_
      refine r_icmp_ge hx hb dX3_firstLike_15 (tgt := 40) (by decide) (by omega) (by omega) (fun c15 => ?_) (fun c15 => ?_)
      · refine lv_iload_n hx hb dX3_firstLike_40 rfl (lv_at hl 3 rfl) ?_
        exact ga_iret cx hr hlk w dX3_firstLike_41 ⟨Nat.le_refl _, Nat.le_refl _⟩ (⟨ga_rv (congrArg nI (lfst_no (fun u hu => hbf u (by omega))).symm), rfl⟩)
      · refine lv_aload_n hx hb dX3_firstLike_18 rfl (lv_at hl 2 rfl) ?_
        refine gf_X3_9 cx hK w 0 rfl rfl dX3_firstLike_19 ?_
        refine lv_iload hx hb dX3_firstLike_22 (lv_at hl 0 rfl) ?_
        refine r_ialdN hx hb hK w 1 rfl dX3_firstLike_24 (by omega) (by decide) ?_
        refine lv_iload_n hx hb dX3_firstLike_25 rfl (lv_at hl 4 rfl) ?_
        refine r_iand hx hb dX3_firstLike_26 ?_
        refine lv_iload_n hx hb dX3_firstLike_27 rfl (lv_at hl 1 rfl) ?_
        refine r_icmp_ne hx hb dX3_firstLike_28 (tgt := 34) (by decide) (andL_lt (by have := hss j (by omega); omega)) (andL_lt (by have := hss i (by omega); omega)) (fun c28 => ?_) (fun c28 => ?_)
        · refine r_iinc (d := 1) (k := 0) (lv' := [(4, .int (nI (j + 1))), (3, .int (nI ((ss i) &&& li))), (0, .ref aW), (1, .int (nI i)), (2, .int (nI li))]) hx hb dX3_firstLike_34 hl rfl (by decide) (by decide) rfl (fun ls hl => ?_)
          refine lv_goto (tgt := 12) hx hb dX3_firstLike_37 (by decide) ?_
          exact ih12 (j + 1) (by omega) (fun u hu => by rcases Nat.lt_or_ge u j with h | h; exact hbf u h; (rw [show u = j by omega]; simp [like, c28])) (by omega) _ _ _ (lv_sub hl [0, 1, 2, 3, 4] rfl) w
        · refine lv_iload hx hb dX3_firstLike_31 (lv_at hl 0 rfl) ?_
          exact ga_iret cx hr hlk w dX3_firstLike_33 ⟨Nat.le_refl _, Nat.le_refl _⟩ (⟨ga_rv (congrArg nI (lfst_lt (by omega) (by simp [like, c28]) hbf).symm), rfl⟩)
  exact loop12 _ 0 (by omega) (fun u h => absurd h (Nat.not_lt_zero _)) (Nat.lt_succ_self _) _ _ _ (lv_sub hl [0, 1, 2, 3, 4] rfl) w

set_option maxHeartbeats 4000000 in
set_option maxRecDepth 100000 in
theorem c_X3_logsUnlike (l : Launch) (G : ga_G) (aW : Nat) (aS : Nat) (aQ : Nat) (num : Nat) (tm : Bool) (sl : Bool) (ss : Nat → Nat) (ns : Nat → Nat) (li : Nat) (hnum : num ≤ 200) (hss : ∀ j, j < num → ss j < 65536) : ga_M l G yX3_logsUnlike cX3_logsUnlike 4 (Option.some Jvm.ClassFile.FieldType.int) 1 24 0 0 [.ref aW, .int (nI li)] [(aW, .inr (3, [.ref aS, .ref aQ, .int (nI num), .int (bI tm), .int (bI sl)])), (aS, .inl (G.2.2, 200, .inl (aN ss))), (aQ, .inl (G.2.2, 200, .inl (aN ns)))] (fun r w => r = some (.int (nI (hpsN ss li num))) ∧ w = [(aW, .inr (3, [.ref aS, .ref aQ, .int (nI num), .int (bI tm), .int (bI sl)])), (aS, .inl (G.2.2, 200, .inl (aN ss))), (aQ, .inl (G.2.2, 200, .inl (aN ns)))]) := by
  refine ga_M.intro (by decide) (Nat.le_of_ble_eq_true rfl) (fun p_ e_ s_ m_ below meth c_ A_ H_ locs_ ls cx hr hlk hnm hA hK hl w => ?_)
  have hx := cx.1
  have hb := cx.2.1
  have hl : lv_has ls 4 [(0, .ref aW), (1, .int (nI li))] := hl
  refine lv_iconst (v := nI 0) hx hb dX3_logsUnlike_0 (by decide) ?_
  refine lv_istore_n (lv' := [(2, .int (nI 0)), (0, .ref aW), (1, .int (nI li))]) hx hb dX3_logsUnlike_1 rfl hl (by decide) rfl (fun ls hl => ?_)
  refine lv_iconst (v := nI 0) hx hb dX3_logsUnlike_2 (by decide) ?_
  refine lv_istore_n (lv' := [(3, .int (nI 0)), (2, .int (nI 0)), (0, .ref aW), (1, .int (nI li))]) hx hb dX3_logsUnlike_3 rfl hl (by decide) rfl (fun ls hl => ?_)
  have loop4 : ∀ (n_ : Nat) (i : Nat) (t : Nat) (hi : i ≤ num) (ht : t = (fl (fun i => decide (lfst (like ss li i) i = i)) i).length) (hm : 200 - i < n_) (H_ : Heap) (locs_ : List Loc) (ls : Array Slot) (hl : lv_has ls 4 [(3, .int (nI i)), (2, .int (nI t)), (0, .ref aW), (1, .int (nI li))]) (w : ga_wd G A_ s_ H_ locs_ [(aW, .inr (3, [.ref aS, .ref aQ, .int (nI num), .int (bI tm), .int (bI sl)])), (aS, .inl (G.2.2, 200, .inl (aN ss))), (aQ, .inl (G.2.2, 200, .inl (aN ns)))]), W p_ l e_ { frames := 1, cells := 0, slots := 0, locals := 24 } s_ m_ [.ref aW, .int (nI li)].toArray below meth c_ H_ locs_ (0) (0) (MQ below (ga_Q G A_ (fun r w => r = some (.int (nI (hpsN ss li num))) ∧ w = [(aW, .inr (3, [.ref aS, .ref aQ, .int (nI num), .int (bI tm), .int (bI sl)])), (aS, .inl (G.2.2, 200, .inl (aN ss))), (aQ, .inl (G.2.2, 200, .inl (aN ns)))])) [.ref aW, .int (nI li)].toArray s_ 0 0 A_) (F0 m_ 4 ls []) := by
    intro n_
    induction n_ with
    | zero => intro i t hi ht hm; exact absurd hm (Nat.not_lt_zero _)
    | succ n_ ih4 =>
      intro i t hi ht hm4 H_ locs_ ls hl w
      refine lv_iload_n hx hb dX3_logsUnlike_4 rfl (lv_at hl 0 rfl) ?_
      refine lv_aload_n hx hb dX3_logsUnlike_5 rfl (lv_at hl 2 rfl) ?_
      refine gf_X3_22 cx hK w 0 rfl rfl dX3_logsUnlike_6 ?_
      refine r_icmp_ge hx hb dX3_logsUnlike_9 (tgt := 31) (by decide) (by omega) (by omega) (fun c9 => ?_) (fun c9 => ?_)
      · refine lv_iload_n hx hb dX3_logsUnlike_31 rfl (lv_at hl 1 rfl) ?_
        exact ga_iret cx hr hlk w dX3_logsUnlike_32 ⟨Nat.le_refl _, Nat.le_refl _⟩ (⟨ga_rv (by rw [ht, show i = num by omega]; rfl), rfl⟩)
      · refine lv_aload_n hx hb dX3_logsUnlike_12 rfl (lv_at hl 2 rfl) ?_
        refine lv_iload_n hx hb dX3_logsUnlike_13 rfl (lv_at hl 0 rfl) ?_
        refine lv_iload_n hx hb dX3_logsUnlike_14 rfl (lv_at hl 3 rfl) ?_
        refine ga_callV (rest := []) (wr := []) cx hK hA w hl lk_X3_51 (c_X3_firstLike l G aW aS aQ num tm sl ss ns i li (by omega) (fun j hj => hss j (by omega))) ⟨Nat.le_of_ble_eq_true rfl, Nat.le_of_ble_eq_true rfl⟩ [0, 1, 2] [] rfl rfl (by decide) (by decide) (by decide) 0 3 rfl rfl rfl rfl (Nat.le_of_ble_eq_true rfl) dX3_logsUnlike_15 ⟨Nat.le_refl _, Nat.le_refl _⟩ rfl (fun r w1_ H_ locs_ hp w => ?_)
        obtain ⟨rfl, rfl⟩ := hp
        have w : ga_wd G A_ s_ H_ locs_ [(aW, .inr (3, [.ref aS, .ref aQ, .int (nI num), .int (bI tm), .int (bI sl)])), (aS, .inl (G.2.2, 200, .inl (aN ss))), (aQ, .inl (G.2.2, 200, .inl (aN ns)))] := ga_perm w [0, 1, 2] (by decide) rfl
        refine W.eq (g2 := F0 m_ 18 ls [.int (nI (lfst (like ss li i) i))]) rfl ?_
        refine lv_iload_n hx hb dX3_logsUnlike_18 rfl (lv_at hl 0 rfl) ?_
        refine r_icmp_ne hx hb dX3_logsUnlike_19 (tgt := 25) (by decide) (by have := (lfst_sp (like ss li i) i).1; omega) (by omega) (fun c19 => ?_) (fun c19 => ?_)
        · refine r_iinc (d := 1) (k := 0) (lv' := [(3, .int (nI (i + 1))), (2, .int (nI t)), (0, .ref aW), (1, .int (nI li))]) hx hb dX3_logsUnlike_25 hl rfl (by decide) (by decide) rfl (fun ls hl => ?_)
          refine lv_goto (tgt := 4) hx hb dX3_logsUnlike_28 (by decide) ?_
          exact ih4 (i + 1) t (by omega) (by rw [fl_f (P := fun i => decide (lfst (like ss li i) i = i)) (by simp [c19])]; exact ht) (by omega) _ _ _ (lv_sub hl [0, 1, 2, 3] rfl) w
        · refine r_iinc (d := 1) (k := 1) (lv' := [(2, .int (nI (t + 1))), (3, .int (nI i)), (0, .ref aW), (1, .int (nI li))]) hx hb dX3_logsUnlike_22 hl rfl (by decide) (by decide) rfl (fun ls hl => ?_)
          refine r_iinc (d := 1) (k := 1) (lv' := [(3, .int (nI (i + 1))), (2, .int (nI (t + 1))), (0, .ref aW), (1, .int (nI li))]) hx hb dX3_logsUnlike_25 hl rfl (by decide) (by decide) rfl (fun ls hl => ?_)
          refine lv_goto (tgt := 4) hx hb dX3_logsUnlike_28 (by decide) ?_
          exact ih4 (i + 1) (t + 1) (by omega) (by rw [fl_t (P := fun i => decide (lfst (like ss li i) i = i)) (by simp [c19]), List.length_append, ← ht]; rfl) (by omega) _ _ _ (lv_sub hl [0, 1, 2, 3] rfl) w
  exact loop4 _ 0 0 (by omega) (rfl) (Nat.lt_succ_self _) _ _ _ (lv_sub hl [0, 1, 2, 3] rfl) w
