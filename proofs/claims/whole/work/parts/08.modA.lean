set_option maxHeartbeats 4000000 in
set_option maxRecDepth 100000 in
theorem c_X6_has (l : Launch) (G : ga_G) (st : Nat) (e : Nat) (h1 : st < 2 ^ 31) (h2 : e < 32) : ga_M l G yX6_has cX6_has 2 (Option.some Jvm.ClassFile.FieldType.boolean) 0 0 0 0 [.int (nI st), .int (nI e)] [] (fun r w => r = some (.int (bI (Nat.testBit st e))) ∧ w = []) := by
  refine ga_M.intro (by decide) (Nat.le_of_ble_eq_true rfl) (fun p_ e_ s_ m_ below meth c_ A_ H_ locs_ ls cx hr hlk hnm hA hK hl w => ?_)
  have hx := cx.1
  have hb := cx.2.1
  have hl : lv_has ls 2 [(0, .int (nI st)), (1, .int (nI e))] := hl
  refine lv_iload_n hx hb dX6_has_0 rfl (lv_at hl 0 rfl) ?_
  refine lv_iload_n hx hb dX6_has_1 rfl (lv_at hl 1 rfl) ?_
  refine r_ishr hx hb dX6_has_2 (by omega) (by omega) ?_
  refine lv_iconst (v := nI 1) hx hb dX6_has_3 (by decide) ?_
  refine r_iand hx hb dX6_has_4 ?_
  refine lv_iconst (v := nI 1) hx hb dX6_has_5 (by decide) ?_
  refine r_icmp_ne hx hb dX6_has_6 (tgt := 13) (by decide) (and1_lt _) (by decide) (fun c6 => ?_) (fun c6 => ?_)
  · refine lv_iconst (v := nI 0) hx hb dX6_has_13 (by decide) ?_
    exact ga_zret cx hr hlk w rfl dX6_has_14 ⟨Nat.le_refl _, Nat.le_refl _⟩ (⟨ga_r0 (by first | exact (tb_and _ _).mp (by omega) | (cases hb2 : Nat.testBit st e; rfl; exact absurd ((tb_and _ _).mpr hb2) (by omega))), rfl⟩)
  · refine lv_iconst (v := nI 1) hx hb dX6_has_9 (by decide) ?_
    refine lv_goto (tgt := 14) hx hb dX6_has_10 (by decide) ?_
    exact ga_zret cx hr hlk w rfl dX6_has_14 ⟨Nat.le_refl _, Nat.le_refl _⟩ (⟨ga_r1 (by first | exact (tb_and _ _).mp (by omega) | (cases hb2 : Nat.testBit st e; rfl; exact absurd ((tb_and _ _).mpr hb2) (by omega))), rfl⟩)

set_option maxHeartbeats 4000000 in
set_option maxRecDepth 100000 in
theorem c_X6_member (l : Launch) (G : ga_G) (st : Nat) (i : Int32) (h1 : st < 65536) : ga_M l G yX6_member cX6_member 4 (Option.some Jvm.ClassFile.FieldType.int) 1 21 0 0 [.int (nI st), .int i] [] (fun r w => r = some (.int (nth ((fl (Nat.testBit st) 16).map nI) i)) ∧ w = []) := by
  refine ga_M.intro (by decide) (Nat.le_of_ble_eq_true rfl) (fun p_ e_ s_ m_ below meth c_ A_ H_ locs_ ls cx hr hlk hnm hA hK hl w => ?_)
  have hx := cx.1
  have hb := cx.2.1
  have hl : lv_has ls 4 [(0, .int (nI st)), (1, .int i)] := hl
  refine lv_iload_n hx hb dX6_member_0 rfl (lv_at hl 1 rfl) ?_
  refine lv_istore_n (lv' := [(2, .int i), (0, .int (nI st)), (1, .int i)]) hx hb dX6_member_1 rfl hl (by decide) rfl (fun ls hl => ?_)
  refine lv_iconst (v := nI 0) hx hb dX6_member_2 (by decide) ?_
  refine lv_istore_n (lv' := [(3, .int (nI 0)), (2, .int i), (0, .int (nI st)), (1, .int i)]) hx hb dX6_member_3 rfl hl (by decide) rfl (fun ls hl => ?_)
  have loop4 : ∀ (n_ : Nat) (ee : Nat) (lf : Int32) (he : ee ≤ 16) (hs : scD (Nat.testBit st) i lf ee) (hm : 16 - ee < n_) (H_ : Heap) (locs_ : List Loc) (ls : Array Slot) (hl : lv_has ls 4 [(3, .int (nI ee)), (2, .int lf), (0, .int (nI st)), (1, .int i)]) (w : ga_wd G A_ s_ H_ locs_ []), W p_ l e_ { frames := 1, cells := 0, slots := 0, locals := 21 } s_ m_ [.int (nI st), .int i].toArray below meth c_ H_ locs_ (0) (0) (MQ below (ga_Q G A_ (fun r w => r = some (.int (nth ((fl (Nat.testBit st) 16).map nI) i)) ∧ w = [])) [.int (nI st), .int i].toArray s_ 0 0 A_) (F0 m_ 4 ls []) := by
    intro n_
    induction n_ with
    | zero => intro ee lf he hs hm; exact absurd hm (Nat.not_lt_zero _)
    | succ n_ ih4 =>
      intro ee lf he hs hm4 H_ locs_ ls hl w
      refine lv_iload_n hx hb dX6_member_4 rfl (lv_at hl 0 rfl) ?_
      refine lv_bipush (v := nI 16) hx hb dX6_member_5 (by decide) ?_
      refine r_icmp_ge hx hb dX6_member_7 (tgt := 33) (by decide) (by omega) (by omega) (fun c7 => ?_) (fun c7 => ?_)
      · refine lv_iconst (v := (-1)) hx hb dX6_member_33 (by decide) ?_
        exact ga_iret cx hr hlk w dX6_member_34 ⟨Nat.le_refl _, Nat.le_refl _⟩ (⟨ga_rv (scD_end nI (by rw [show (16 : Nat) = ee by omega]; exact hs) (by decide)).symm, rfl⟩)
      · refine lv_iload_n hx hb dX6_member_10 rfl (lv_at hl 2 rfl) ?_
        refine lv_iload_n hx hb dX6_member_11 rfl (lv_at hl 0 rfl) ?_
        refine ga_callS (rest := []) (wr := []) cx hK hA w hl lk_X6_91 (c_X6_has l G st ee (by omega) (by omega)) ⟨Nat.le_of_ble_eq_true rfl, Nat.le_of_ble_eq_true rfl⟩ [] [] rfl rfl (by decide) (by decide) (by decide) rfl (Nat.le_of_ble_eq_true rfl) dX6_member_12 ⟨Nat.le_refl _, Nat.le_refl _⟩ rfl (fun r w1_ H_ locs_ hp w => ?_)
        obtain ⟨rfl, rfl⟩ := hp
        have w : ga_wd G A_ s_ H_ locs_ [] := ga_perm w [] (by decide) rfl
        refine W.eq (g2 := F0 m_ 15 ls [.int (bI (Nat.testBit st ee))]) rfl ?_
        refine r_ifb_eq hx hb dX6_member_15 (tgt := 27) (by decide) (fun c15 => ?_) (fun c15 => ?_)
        · refine r_iinc (d := 1) (k := 0) (lv' := [(3, .int (nI (ee + 1))), (2, .int lf), (0, .int (nI st)), (1, .int i)]) hx hb dX6_member_27 hl rfl (by decide) (by decide) rfl (fun ls hl => ?_)
          refine lv_goto (tgt := 4) hx hb dX6_member_30 (by decide) ?_
          exact ih4 (ee + 1) lf (by omega) (scD_f hs c15) (by omega) _ _ _ (lv_sub hl [0, 1, 2, 3] rfl) w
        · refine lv_iload_n hx hb dX6_member_18 rfl (lv_at hl 1 rfl) ?_
          refine lv_if_ne hx hb dX6_member_19 (tgt := 24) (by decide) (fun c19 => ?_) (fun c19 => ?_)
          · refine lv_iinc (k := 1) (lv' := [(2, .int (lf + Int32.ofInt (-1))), (3, .int (nI ee)), (0, .int (nI st)), (1, .int i)]) hx hb dX6_member_24 hl rfl rfl (by decide) rfl (fun ls hl => ?_)
            refine r_iinc (d := 1) (k := 1) (lv' := [(3, .int (nI (ee + 1))), (2, .int (lf + Int32.ofInt (-1))), (0, .int (nI st)), (1, .int i)]) hx hb dX6_member_27 hl rfl (by decide) (by decide) rfl (fun ls hl => ?_)
            refine lv_goto (tgt := 4) hx hb dX6_member_30 (by decide) ?_
            exact ih4 (ee + 1) (lf + Int32.ofInt (-1)) (by omega) (scD_t hs c15 c19) (by omega) _ _ _ (lv_sub hl [0, 1, 2, 3] rfl) w
          · refine lv_iload_n hx hb dX6_member_22 rfl (lv_at hl 0 rfl) ?_
            exact ga_iret cx hr hlk w dX6_member_23 ⟨Nat.le_refl _, Nat.le_refl _⟩ (⟨ga_rv (scD_hit nI hs c15 (by omega) (by decide) c19).symm, rfl⟩)
  exact loop4 _ 0 i (by omega) (scD_0 _ _) (Nat.lt_succ_self _) _ _ _ (lv_sub hl [0, 1, 2, 3] rfl) w

set_option maxHeartbeats 4000000 in
set_option maxRecDepth 100000 in
theorem c_X1_hasNode (l : Launch) (G : ga_G) (aP : Nat) (aF : Nat) (aT : Nat) (aC : Nat) (aL : Nat) (n : Nat) (xk : Int32) (xl : Int32) (xf : Int32) (v : Int32) (hn : n < 2 ^ 31) : ga_M l G yX1_hasNode cX1_hasNode 2 (Option.some Jvm.ClassFile.FieldType.boolean) 0 0 0 0 [.ref aP, .int v] [(aP, .inr (1, [.ref aF, .ref aT, .ref aC, .ref aL, .int (nI n), .int xk, .int xl, .int xf]))] (fun r w => r = some (.int (bI (inB v n))) ∧ w = [(aP, .inr (1, [.ref aF, .ref aT, .ref aC, .ref aL, .int (nI n), .int xk, .int xl, .int xf]))]) := by
  refine ga_M.intro (by decide) (Nat.le_of_ble_eq_true rfl) (fun p_ e_ s_ m_ below meth c_ A_ H_ locs_ ls cx hr hlk hnm hA hK hl w => ?_)
  have hx := cx.1
  have hb := cx.2.1
  have hl : lv_has ls 2 [(0, .ref aP), (1, .int v)] := hl
  refine lv_iload_n hx hb dX1_hasNode_0 rfl (lv_at hl 1 rfl) ?_
  refine lv_if_lt hx hb dX1_hasNode_1 (tgt := 16) (by decide) (fun c1 => ?_) (fun c1 => ?_)
  · refine lv_iconst (v := nI 0) hx hb dX1_hasNode_16 (by decide) ?_
    exact ga_zret cx hr hlk w rfl dX1_hasNode_17 ⟨Nat.le_refl _, Nat.le_refl _⟩ (⟨ga_r0 (by first | exact inB_1 hn (by assumption) (by assumption) | exact inB_0 hn (by first | exact Or.inl (by assumption) | exact Or.inr (by assumption))), rfl⟩)
  · refine lv_iload_n hx hb dX1_hasNode_4 rfl (lv_at hl 1 rfl) ?_
    refine lv_aload_n hx hb dX1_hasNode_5 rfl (lv_at hl 0 rfl) ?_
    refine gf_X1_24 cx hK w 0 rfl rfl dX1_hasNode_6 ?_
    refine lv_icmp_ge hx hb dX1_hasNode_9 (tgt := 16) (by decide) (fun c9 => ?_) (fun c9 => ?_)
    · refine lv_iconst (v := nI 0) hx hb dX1_hasNode_16 (by decide) ?_
      exact ga_zret cx hr hlk w rfl dX1_hasNode_17 ⟨Nat.le_refl _, Nat.le_refl _⟩ (⟨ga_r0 (by first | exact inB_1 hn (by assumption) (by assumption) | exact inB_0 hn (by first | exact Or.inl (by assumption) | exact Or.inr (by assumption))), rfl⟩)
    · refine lv_iconst (v := nI 1) hx hb dX1_hasNode_12 (by decide) ?_
      refine lv_goto (tgt := 17) hx hb dX1_hasNode_13 (by decide) ?_
      exact ga_zret cx hr hlk w rfl dX1_hasNode_17 ⟨Nat.le_refl _, Nat.le_refl _⟩ (⟨ga_r1 (by first | exact inB_1 hn (by assumption) (by assumption) | exact inB_0 hn (by first | exact Or.inl (by assumption) | exact Or.inr (by assumption))), rfl⟩)

set_option maxHeartbeats 4000000 in
set_option maxRecDepth 100000 in
theorem c_X1_hasStep (l : Launch) (G : ga_G) (aP : Nat) (aF : Nat) (aT : Nat) (aC : Nat) (aL : Nat) (xn : Int32) (n : Nat) (xl : Int32) (xf : Int32) (v : Int32) (hn : n < 2 ^ 31) : ga_M l G yX1_hasStep cX1_hasStep 2 (Option.some Jvm.ClassFile.FieldType.boolean) 0 0 0 0 [.ref aP, .int v] [(aP, .inr (1, [.ref aF, .ref aT, .ref aC, .ref aL, .int xn, .int (nI n), .int xl, .int xf]))] (fun r w => r = some (.int (bI (inB v n))) ∧ w = [(aP, .inr (1, [.ref aF, .ref aT, .ref aC, .ref aL, .int xn, .int (nI n), .int xl, .int xf]))]) := by
  refine ga_M.intro (by decide) (Nat.le_of_ble_eq_true rfl) (fun p_ e_ s_ m_ below meth c_ A_ H_ locs_ ls cx hr hlk hnm hA hK hl w => ?_)
  have hx := cx.1
  have hb := cx.2.1
  have hl : lv_has ls 2 [(0, .ref aP), (1, .int v)] := hl
  refine lv_iload_n hx hb dX1_hasStep_0 rfl (lv_at hl 1 rfl) ?_
  refine lv_if_lt hx hb dX1_hasStep_1 (tgt := 16) (by decide) (fun c1 => ?_) (fun c1 => ?_)
  · refine lv_iconst (v := nI 0) hx hb dX1_hasStep_16 (by decide) ?_
    exact ga_zret cx hr hlk w rfl dX1_hasStep_17 ⟨Nat.le_refl _, Nat.le_refl _⟩ (⟨ga_r0 (by first | exact inB_1 hn (by assumption) (by assumption) | exact inB_0 hn (by first | exact Or.inl (by assumption) | exact Or.inr (by assumption))), rfl⟩)
  · refine lv_iload_n hx hb dX1_hasStep_4 rfl (lv_at hl 1 rfl) ?_
    refine lv_aload_n hx hb dX1_hasStep_5 rfl (lv_at hl 0 rfl) ?_
    refine gf_X1_28 cx hK w 0 rfl rfl dX1_hasStep_6 ?_
    refine lv_icmp_ge hx hb dX1_hasStep_9 (tgt := 16) (by decide) (fun c9 => ?_) (fun c9 => ?_)
    · refine lv_iconst (v := nI 0) hx hb dX1_hasStep_16 (by decide) ?_
      exact ga_zret cx hr hlk w rfl dX1_hasStep_17 ⟨Nat.le_refl _, Nat.le_refl _⟩ (⟨ga_r0 (by first | exact inB_1 hn (by assumption) (by assumption) | exact inB_0 hn (by first | exact Or.inl (by assumption) | exact Or.inr (by assumption))), rfl⟩)
    · refine lv_iconst (v := nI 1) hx hb dX1_hasStep_12 (by decide) ?_
      refine lv_goto (tgt := 17) hx hb dX1_hasStep_13 (by decide) ?_
      exact ga_zret cx hr hlk w rfl dX1_hasStep_17 ⟨Nat.le_refl _, Nat.le_refl _⟩ (⟨ga_r1 (by first | exact inB_1 hn (by assumption) (by assumption) | exact inB_0 hn (by first | exact Or.inl (by assumption) | exact Or.inr (by assumption))), rfl⟩)

set_option maxHeartbeats 4000000 in
set_option maxRecDepth 100000 in
theorem c_X1_allSteps (l : Launch) (G : ga_G) (aP : Nat) (aF : Nat) (aT : Nat) (aC : Nat) (aL : Nat) (xn : Int32) (k : Nat) (xl : Int32) (xf : Int32) (hk : k ≤ 16) : ga_M l G yX1_allSteps cX1_allSteps 1 (Option.some Jvm.ClassFile.FieldType.int) 0 0 0 0 [.ref aP] [(aP, .inr (1, [.ref aF, .ref aT, .ref aC, .ref aL, .int xn, .int (nI k), .int xl, .int xf]))] (fun r w => r = some (.int (nI (2 ^ k - 1))) ∧ w = [(aP, .inr (1, [.ref aF, .ref aT, .ref aC, .ref aL, .int xn, .int (nI k), .int xl, .int xf]))]) := by
  refine ga_M.intro (by decide) (Nat.le_of_ble_eq_true rfl) (fun p_ e_ s_ m_ below meth c_ A_ H_ locs_ ls cx hr hlk hnm hA hK hl w => ?_)
  have hx := cx.1
  have hb := cx.2.1
  have hl : lv_has ls 1 [(0, .ref aP)] := hl
  refine lv_iconst (v := nI 1) hx hb dX1_allSteps_0 (by decide) ?_
  refine lv_aload_n hx hb dX1_allSteps_1 rfl (lv_at hl 0 rfl) ?_
  refine gf_X1_28 cx hK w 0 rfl rfl dX1_allSteps_2 ?_
  refine r_ishl hx hb dX1_allSteps_5 (by omega) ?_
  refine lv_iconst (v := nI 1) hx hb dX1_allSteps_6 (by decide) ?_
  refine r_isub hx hb dX1_allSteps_7 (by rw [Nat.one_shiftLeft]; exact Nat.pow_pos (by decide)) ?_
  refine r_topi (y := nI (2 ^ k - 1)) (by rw [Nat.one_shiftLeft]) ?_
  exact ga_iret cx hr hlk w dX1_allSteps_8 ⟨Nat.le_refl _, Nat.le_refl _⟩ (⟨rfl, rfl⟩)

set_option maxHeartbeats 4000000 in
set_option maxRecDepth 100000 in
theorem c_X1_stepsFromBelow (l : Launch) (G : ga_G) (aP : Nat) (aF : Nat) (aT : Nat) (aC : Nat) (aL : Nat) (n : Nat) (k : Nat) (li : Nat) (fa : Nat) (lv : Nat → Nat) (nd : Nat) (hn : n ≤ 12) (hd : nd < 2 ^ 31) : ga_M l G yX1_stepsFromBelow cX1_stepsFromBelow 4 (Option.some Jvm.ClassFile.FieldType.int) 0 0 0 0 [.ref aP, .int (nI nd)] [(aP, .inr (1, [.ref aF, .ref aT, .ref aC, .ref aL, .int (nI n), .int (nI k), .int (nI li), .int (nI fa)])), (aL, .inl (G.2.2, 12, .inl (aN lv)))] (fun r w => r = some (.int (nI (orB lv (min nd n)))) ∧ w = [(aP, .inr (1, [.ref aF, .ref aT, .ref aC, .ref aL, .int (nI n), .int (nI k), .int (nI li), .int (nI fa)])), (aL, .inl (G.2.2, 12, .inl (aN lv)))]) := by
  refine ga_M.intro (by decide) (Nat.le_of_ble_eq_true rfl) (fun p_ e_ s_ m_ below meth c_ A_ H_ locs_ ls cx hr hlk hnm hA hK hl w => ?_)
  have hx := cx.1
  have hb := cx.2.1
  have hl : lv_has ls 4 [(0, .ref aP), (1, .int (nI nd))] := hl
  refine lv_iconst (v := nI 0) hx hb dX1_stepsFromBelow_0 (by decide) ?_
  refine lv_istore_n (lv' := [(2, .int (nI 0)), (0, .ref aP), (1, .int (nI nd))]) hx hb dX1_stepsFromBelow_1 rfl hl (by decide) rfl (fun ls hl => ?_)
  refine lv_iconst (v := nI 0) hx hb dX1_stepsFromBelow_2 (by decide) ?_
  refine lv_istore_n (lv' := [(3, .int (nI 0)), (2, .int (nI 0)), (0, .ref aP), (1, .int (nI nd))]) hx hb dX1_stepsFromBelow_3 rfl hl (by decide) rfl (fun ls hl => ?_)
  have loop4 : ∀ (n_ : Nat) (v : Nat) (ac : Nat) (hv : v ≤ min nd n) (ha : ac = orB lv v) (hm : 12 - v < n_) (H_ : Heap) (locs_ : List Loc) (ls : Array Slot) (hl : lv_has ls 4 [(3, .int (nI v)), (2, .int (nI ac)), (0, .ref aP), (1, .int (nI nd))]) (w : ga_wd G A_ s_ H_ locs_ [(aP, .inr (1, [.ref aF, .ref aT, .ref aC, .ref aL, .int (nI n), .int (nI k), .int (nI li), .int (nI fa)])), (aL, .inl (G.2.2, 12, .inl (aN lv)))]), W p_ l e_ { frames := 0, cells := 0, slots := 0, locals := 0 } s_ m_ [.ref aP, .int (nI nd)].toArray below meth c_ H_ locs_ (0) (0) (MQ below (ga_Q G A_ (fun r w => r = some (.int (nI (orB lv (min nd n)))) ∧ w = [(aP, .inr (1, [.ref aF, .ref aT, .ref aC, .ref aL, .int (nI n), .int (nI k), .int (nI li), .int (nI fa)])), (aL, .inl (G.2.2, 12, .inl (aN lv)))])) [.ref aP, .int (nI nd)].toArray s_ 0 0 A_) (F0 m_ 4 ls []) := by
    intro n_
    induction n_ with
    | zero => intro v ac hv ha hm; exact absurd hm (Nat.not_lt_zero _)
    | succ n_ ih4 =>
      intro v ac hv ha hm4 H_ locs_ ls hl w
      refine lv_iload_n hx hb dX1_stepsFromBelow_4 rfl (lv_at hl 0 rfl) ?_
      refine lv_iload_n hx hb dX1_stepsFromBelow_5 rfl (lv_at hl 3 rfl) ?_
      refine r_icmp_ge hx hb dX1_stepsFromBelow_6 (tgt := 32) (by decide) (by omega) (by omega) (fun c6 => ?_) (fun c6 => ?_)
      · refine lv_iload_n hx hb dX1_stepsFromBelow_32 rfl (lv_at hl 1 rfl) ?_
        exact ga_iret cx hr hlk w dX1_stepsFromBelow_33 ⟨Nat.le_refl _, Nat.le_refl _⟩ (⟨ga_rv (by rw [ha, show v = min nd n by omega]), rfl⟩)
      · refine lv_iload_n hx hb dX1_stepsFromBelow_9 rfl (lv_at hl 0 rfl) ?_
        refine lv_aload_n hx hb dX1_stepsFromBelow_10 rfl (lv_at hl 2 rfl) ?_
        refine gf_X1_24 cx hK w 0 rfl rfl dX1_stepsFromBelow_11 ?_
        refine r_icmp_ge hx hb dX1_stepsFromBelow_14 (tgt := 32) (by decide) (by omega) (by omega) (fun c14 => ?_) (fun c14 => ?_)
        · refine lv_iload_n hx hb dX1_stepsFromBelow_32 rfl (lv_at hl 1 rfl) ?_
          exact ga_iret cx hr hlk w dX1_stepsFromBelow_33 ⟨Nat.le_refl _, Nat.le_refl _⟩ (⟨ga_rv (by rw [ha, show v = min nd n by omega]), rfl⟩)
        · refine lv_iload_n hx hb dX1_stepsFromBelow_17 rfl (lv_at hl 1 rfl) ?_
          refine lv_aload_n hx hb dX1_stepsFromBelow_18 rfl (lv_at hl 2 rfl) ?_
          refine gf_X1_21 cx hK w 0 rfl rfl dX1_stepsFromBelow_19 ?_
          refine lv_iload_n hx hb dX1_stepsFromBelow_22 rfl (lv_at hl 0 rfl) ?_
          refine r_ialdN hx hb hK w 1 rfl dX1_stepsFromBelow_23 (by omega) (by decide) ?_
          refine r_ior hx hb dX1_stepsFromBelow_24 ?_
          refine lv_istore_n (lv' := [(2, .int (nI (ac ||| (lv v)))), (3, .int (nI v)), (0, .ref aP), (1, .int (nI nd))]) hx hb dX1_stepsFromBelow_25 rfl hl (by decide) rfl (fun ls hl => ?_)
          refine r_iinc (d := 1) (k := 1) (lv' := [(3, .int (nI (v + 1))), (2, .int (nI (ac ||| (lv v)))), (0, .ref aP), (1, .int (nI nd))]) hx hb dX1_stepsFromBelow_26 hl rfl (by decide) (by decide) rfl (fun ls hl => ?_)
          refine lv_goto (tgt := 4) hx hb dX1_stepsFromBelow_29 (by decide) ?_
          exact ih4 (v + 1) (ac ||| (lv v)) (by omega) (by rw [orB, ha]) (by omega) _ _ _ (lv_sub hl [0, 1, 2, 3] rfl) w
  exact loop4 _ 0 0 (by omega) (rfl) (Nat.lt_succ_self _) _ _ _ (lv_sub hl [0, 1, 2, 3] rfl) w

set_option maxHeartbeats 4000000 in
set_option maxRecDepth 100000 in
theorem c_X1_priceOf (l : Launch) (G : ga_G) (aP : Nat) (aF : Nat) (aT : Nat) (aC : Nat) (aL : Nat) (n : Nat) (k : Nat) (li : Nat) (fa : Nat) (ct : Nat → Nat) (st : Nat) (hk : k ≤ 16) (hs : st < 2 ^ 31) (hc : ∀ e, e < k → ct e ≤ 1000000) : ga_M l G yX1_priceOf cX1_priceOf 5 (Option.some Jvm.ClassFile.FieldType.long) 1 21 0 0 [.ref aP, .int (nI st)] [(aP, .inr (1, [.ref aF, .ref aT, .ref aC, .ref aL, .int (nI n), .int (nI k), .int (nI li), .int (nI fa)])), (aC, .inl (G.2.2, 16, .inl (aN ct)))] (fun r w => r = some (.long (lN (prc ct st k))) ∧ w = [(aP, .inr (1, [.ref aF, .ref aT, .ref aC, .ref aL, .int (nI n), .int (nI k), .int (nI li), .int (nI fa)])), (aC, .inl (G.2.2, 16, .inl (aN ct)))]) := by
  refine ga_M.intro (by decide) (Nat.le_of_ble_eq_true rfl) (fun p_ e_ s_ m_ below meth c_ A_ H_ locs_ ls cx hr hlk hnm hA hK hl w => ?_)
  have hx := cx.1
  have hb := cx.2.1
  have hl : lv_has ls 5 [(0, .ref aP), (1, .int (nI st))] := hl
  refine lv_lconst (v := lN 0) hx hb dX1_priceOf_0 (by decide) ?_
  refine lv_lstore_n (lv' := [(2, .long (lN 0)), (0, .ref aP), (1, .int (nI st))]) hx hb dX1_priceOf_1 rfl hl (by decide) rfl (fun ls hl => ?_)
  refine lv_iconst (v := nI 0) hx hb dX1_priceOf_2 (by decide) ?_
  refine lv_istore (lv' := [(4, .int (nI 0)), (2, .long (lN 0)), (0, .ref aP), (1, .int (nI st))]) hx hb dX1_priceOf_3 hl (by decide) rfl (fun ls hl => ?_)
  have loop5 : ∀ (n_ : Nat) (ee : Nat) (sm : Nat) (he : ee ≤ k) (hm1 : sm = prc ct st ee) (hm : 16 - ee < n_) (H_ : Heap) (locs_ : List Loc) (ls : Array Slot) (hl : lv_has ls 5 [(4, .int (nI ee)), (2, .long (lN sm)), (0, .ref aP), (1, .int (nI st))]) (w : ga_wd G A_ s_ H_ locs_ [(aP, .inr (1, [.ref aF, .ref aT, .ref aC, .ref aL, .int (nI n), .int (nI k), .int (nI li), .int (nI fa)])), (aC, .inl (G.2.2, 16, .inl (aN ct)))]), W p_ l e_ { frames := 1, cells := 0, slots := 0, locals := 21 } s_ m_ [.ref aP, .int (nI st)].toArray below meth c_ H_ locs_ (0) (0) (MQ below (ga_Q G A_ (fun r w => r = some (.long (lN (prc ct st k))) ∧ w = [(aP, .inr (1, [.ref aF, .ref aT, .ref aC, .ref aL, .int (nI n), .int (nI k), .int (nI li), .int (nI fa)])), (aC, .inl (G.2.2, 16, .inl (aN ct)))])) [.ref aP, .int (nI st)].toArray s_ 0 0 A_) (F0 m_ 5 ls []) := by
    intro n_
    induction n_ with
    | zero => intro ee sm he hm1 hm; exact absurd hm (Nat.not_lt_zero _)
    | succ n_ ih5 =>
      intro ee sm he hm1 hm5 H_ locs_ ls hl w
      refine lv_iload hx hb dX1_priceOf_5 (lv_at hl 0 rfl) ?_
      refine lv_aload_n hx hb dX1_priceOf_7 rfl (lv_at hl 2 rfl) ?_
      refine gf_X1_28 cx hK w 0 rfl rfl dX1_priceOf_8 ?_
      refine r_icmp_ge hx hb dX1_priceOf_11 (tgt := 42) (by decide) (by omega) (by omega) (fun c11 => ?_) (fun c11 => ?_)
      · refine lv_lload_n hx hb dX1_priceOf_42 rfl (lv_at hl 1 rfl) ?_
        exact ga_lret cx hr hlk w dX1_priceOf_43 ⟨Nat.le_refl _, Nat.le_refl _⟩ (⟨ga_rl (by rw [hm1, show ee = k by omega]), rfl⟩)
      · refine lv_iload_n hx hb dX1_priceOf_14 rfl (lv_at hl 3 rfl) ?_
        refine lv_iload hx hb dX1_priceOf_15 (lv_at hl 0 rfl) ?_
        refine ga_callSN (rest := []) (wr := [(aP, .inr (1, [.ref aF, .ref aT, .ref aC, .ref aL, .int (nI n), .int (nI k), .int (nI li), .int (nI fa)])), (aC, .inl (G.2.2, 16, .inl (aN ct)))]) cx hK hA w hl lk_X1_43 (c_X6_has l G st ee (by omega) (by omega)) ⟨Nat.le_of_ble_eq_true rfl, Nat.le_of_ble_eq_true rfl⟩ [] [0, 1] rfl rfl (by decide) (by decide) (by decide) rfl (Nat.le_of_ble_eq_true rfl) dX1_priceOf_17 ⟨Nat.le_refl _, Nat.le_refl _⟩ rfl (fun r w1_ H_ locs_ hp w => ?_)
        obtain ⟨rfl, rfl⟩ := hp
        have w : ga_wd G A_ s_ H_ locs_ [(aP, .inr (1, [.ref aF, .ref aT, .ref aC, .ref aL, .int (nI n), .int (nI k), .int (nI li), .int (nI fa)])), (aC, .inl (G.2.2, 16, .inl (aN ct)))] := ga_perm w [0, 1] (by decide) rfl
        refine W.eq (g2 := F0 m_ 20 ls [.int (bI (Nat.testBit st ee))]) rfl ?_
        refine r_ifb_eq hx hb dX1_priceOf_20 (tgt := 36) (by decide) (fun c20 => ?_) (fun c20 => ?_)
        · refine r_iinc (d := 1) (k := 0) (lv' := [(4, .int (nI (ee + 1))), (2, .long (lN sm)), (0, .ref aP), (1, .int (nI st))]) hx hb dX1_priceOf_36 hl rfl (by decide) (by decide) rfl (fun ls hl => ?_)
          refine lv_goto (tgt := 5) hx hb dX1_priceOf_39 (by decide) ?_
          exact ih5 (ee + 1) sm (by omega) (by rw [prc, c20, hm1]; rfl) (by omega) _ _ _ (lv_sub hl [0, 1, 2, 3] rfl) w
        · refine lv_lload_n hx hb dX1_priceOf_23 rfl (lv_at hl 1 rfl) ?_
          refine lv_aload_n hx hb dX1_priceOf_24 rfl (lv_at hl 2 rfl) ?_
          refine gf_X1_18 cx hK w 0 rfl rfl dX1_priceOf_25 ?_
          refine lv_iload hx hb dX1_priceOf_28 (lv_at hl 0 rfl) ?_
          refine r_ialdN hx hb hK w 1 rfl dX1_priceOf_30 (by omega) (by decide) ?_
          refine lv_iconst (v := nI 1) hx hb dX1_priceOf_31 (by decide) ?_
          refine r_iadd hx hb dX1_priceOf_32 ?_
          have hce := hc ee (by omega)
          refine r_i2l hx hb dX1_priceOf_33 (by omega) ?_
          refine r_ladd hx hb dX1_priceOf_34 ?_
          refine lv_lstore_n (lv' := [(2, .long (lN (sm + ((ct ee) + 1)))), (4, .int (nI ee)), (0, .ref aP), (1, .int (nI st))]) hx hb dX1_priceOf_35 rfl hl (by decide) rfl (fun ls hl => ?_)
          refine r_iinc (d := 1) (k := 1) (lv' := [(4, .int (nI (ee + 1))), (2, .long (lN (sm + ((ct ee) + 1)))), (0, .ref aP), (1, .int (nI st))]) hx hb dX1_priceOf_36 hl rfl (by decide) (by decide) rfl (fun ls hl => ?_)
          refine lv_goto (tgt := 5) hx hb dX1_priceOf_39 (by decide) ?_
          exact ih5 (ee + 1) (sm + ((ct ee) + 1)) (by omega) (by rw [prc, c20, hm1, if_pos rfl]) (by omega) _ _ _ (lv_sub hl [0, 1, 2, 3] rfl) w
  exact loop5 _ 0 0 (by omega) (rfl) (Nat.lt_succ_self _) _ _ _ (lv_sub hl [0, 1, 2, 3] rfl) w

set_option maxHeartbeats 4000000 in
set_option maxRecDepth 100000 in
theorem c_X1_stepAt (l : Launch) (G : ga_G) (aP : Nat) (aF : Nat) (aT : Nat) (aC : Nat) (aL : Nat) (n : Nat) (k : Nat) (li : Nat) (fa : Nat) (lv : Nat → Nat) (st : Nat) (i : Int32) (hn : n ≤ 12) (hs : st < 65536) : ga_M l G yX1_stepAt cX1_stepAt 6 (Option.some Jvm.ClassFile.FieldType.int) 2 44 0 0 [.ref aP, .int (nI st), .int i] [(aP, .inr (1, [.ref aF, .ref aT, .ref aC, .ref aL, .int (nI n), .int (nI k), .int (nI li), .int (nI fa)])), (aL, .inl (G.2.2, 12, .inl (aN lv)))] (fun r w => r = some (.int (nth ((fl (fun v => decide (st &&& lv v ≠ 0)) n).map (fun v => nth ((fl (Nat.testBit (st &&& lv v)) 16).map nI) 0)) i)) ∧ w = [(aP, .inr (1, [.ref aF, .ref aT, .ref aC, .ref aL, .int (nI n), .int (nI k), .int (nI li), .int (nI fa)])), (aL, .inl (G.2.2, 12, .inl (aN lv)))]) := by
  refine ga_M.intro (by decide) (Nat.le_of_ble_eq_true rfl) (fun p_ e_ s_ m_ below meth c_ A_ H_ locs_ ls cx hr hlk hnm hA hK hl w => ?_)
  have hx := cx.1
  have hb := cx.2.1
  have hl : lv_has ls 6 [(0, .ref aP), (1, .int (nI st)), (2, .int i)] := hl
  refine lv_iload_n hx hb dX1_stepAt_0 rfl (lv_at hl 2 rfl) ?_
  refine lv_istore_n (lv' := [(3, .int i), (0, .ref aP), (1, .int (nI st)), (2, .int i)]) hx hb dX1_stepAt_1 rfl hl (by decide) rfl (fun ls hl => ?_)
  refine lv_iconst (v := nI 0) hx hb dX1_stepAt_2 (by decide) ?_
  refine lv_istore (lv' := [(4, .int (nI 0)), (3, .int i), (0, .ref aP), (1, .int (nI st)), (2, .int i)]) hx hb dX1_stepAt_3 hl (by decide) rfl (fun ls hl => ?_)
  have loop5 : ∀ (n_ : Nat) (v : Nat) (lf : Int32) (hv : v ≤ n) (hz : scD (fun v => decide (st &&& lv v ≠ 0)) i lf v) (hm : 12 - v < n_) (H_ : Heap) (locs_ : List Loc) (ls : Array Slot) (hl : lv_has ls 6 [(4, .int (nI v)), (3, .int lf), (0, .ref aP), (1, .int (nI st)), (2, .int i)]) (w : ga_wd G A_ s_ H_ locs_ [(aP, .inr (1, [.ref aF, .ref aT, .ref aC, .ref aL, .int (nI n), .int (nI k), .int (nI li), .int (nI fa)])), (aL, .inl (G.2.2, 12, .inl (aN lv)))]), W p_ l e_ { frames := 2, cells := 0, slots := 0, locals := 44 } s_ m_ [.ref aP, .int (nI st), .int i].toArray below meth c_ H_ locs_ (0) (0) (MQ below (ga_Q G A_ (fun r w => r = some (.int (nth ((fl (fun v => decide (st &&& lv v ≠ 0)) n).map (fun v => nth ((fl (Nat.testBit (st &&& lv v)) 16).map nI) 0)) i)) ∧ w = [(aP, .inr (1, [.ref aF, .ref aT, .ref aC, .ref aL, .int (nI n), .int (nI k), .int (nI li), .int (nI fa)])), (aL, .inl (G.2.2, 12, .inl (aN lv)))])) [.ref aP, .int (nI st), .int i].toArray s_ 0 0 A_) (F0 m_ 5 ls []) := by
    intro n_
    induction n_ with
    | zero => intro v lf hv hz hm; exact absurd hm (Nat.not_lt_zero _)
    | succ n_ ih5 =>
      intro v lf hv hz hm5 H_ locs_ ls hl w
      refine lv_iload hx hb dX1_stepAt_5 (lv_at hl 0 rfl) ?_
      refine lv_aload_n hx hb dX1_stepAt_7 rfl (lv_at hl 2 rfl) ?_
      refine gf_X1_24 cx hK w 0 rfl rfl dX1_stepAt_8 ?_
      refine r_icmp_ge hx hb dX1_stepAt_11 (tgt := 50) (by decide) (by omega) (by omega) (fun c11 => ?_) (fun c11 => ?_)
      · refine lv_iconst (v := (-1)) hx hb dX1_stepAt_50 (by decide) ?_
        exact ga_iret cx hr hlk w dX1_stepAt_51 ⟨Nat.le_refl _, Nat.le_refl _⟩ (⟨ga_rv (scD_end _ (by rw [show n = v by omega]; exact hz) (by omega)).symm, rfl⟩)
      · refine lv_iload_n hx hb dX1_stepAt_14 rfl (lv_at hl 3 rfl) ?_
        refine lv_aload_n hx hb dX1_stepAt_15 rfl (lv_at hl 2 rfl) ?_
        refine gf_X1_21 cx hK w 0 rfl rfl dX1_stepAt_16 ?_
        refine lv_iload hx hb dX1_stepAt_19 (lv_at hl 0 rfl) ?_
        refine r_ialdN hx hb hK w 1 rfl dX1_stepAt_21 (by omega) (by decide) ?_
        refine r_iand hx hb dX1_stepAt_22 ?_
        refine lv_istore (lv' := [(5, .int (nI (st &&& (lv v)))), (4, .int (nI v)), (3, .int lf), (0, .ref aP), (1, .int (nI st)), (2, .int i)]) hx hb dX1_stepAt_23 hl (by decide) rfl (fun ls hl => ?_)
        refine lv_iload hx hb dX1_stepAt_25 (lv_at hl 0 rfl) ?_
        refine r_if_eq hx hb dX1_stepAt_27 (tgt := 44) (by decide) (andL_lt (by omega)) (fun c27 => ?_) (fun c27 => ?_)
        · refine r_iinc (d := 1) (k := 1) (lv' := [(4, .int (nI (v + 1))), (5, .int (nI (st &&& (lv v)))), (3, .int lf), (0, .ref aP), (1, .int (nI st)), (2, .int i)]) hx hb dX1_stepAt_44 hl rfl (by decide) (by decide) rfl (fun ls hl => ?_)
          refine lv_goto (tgt := 5) hx hb dX1_stepAt_47 (by decide) ?_
          exact ih5 (v + 1) lf (by omega) (scD_f hz (by simp [c27])) (by omega) _ _ _ (lv_sub hl [0, 2, 3, 4, 5] rfl) w
        · refine lv_iload_n hx hb dX1_stepAt_30 rfl (lv_at hl 2 rfl) ?_
          refine lv_if_ne hx hb dX1_stepAt_31 (tgt := 41) (by decide) (fun c31 => ?_) (fun c31 => ?_)
          · refine lv_iinc (k := 2) (lv' := [(3, .int (lf + Int32.ofInt (-1))), (5, .int (nI (st &&& (lv v)))), (4, .int (nI v)), (0, .ref aP), (1, .int (nI st)), (2, .int i)]) hx hb dX1_stepAt_41 hl rfl rfl (by decide) rfl (fun ls hl => ?_)
            refine r_iinc (d := 1) (k := 2) (lv' := [(4, .int (nI (v + 1))), (3, .int (lf + Int32.ofInt (-1))), (5, .int (nI (st &&& (lv v)))), (0, .ref aP), (1, .int (nI st)), (2, .int i)]) hx hb dX1_stepAt_44 hl rfl (by decide) (by decide) rfl (fun ls hl => ?_)
            refine lv_goto (tgt := 5) hx hb dX1_stepAt_47 (by decide) ?_
            exact ih5 (v + 1) (lf + Int32.ofInt (-1)) (by omega) (scD_t hz (by simp [c27]) c31) (by omega) _ _ _ (lv_sub hl [0, 1, 3, 4, 5] rfl) w
          · refine lv_iload hx hb dX1_stepAt_34 (lv_at hl 0 rfl) ?_
            refine lv_iconst (v := nI 0) hx hb dX1_stepAt_36 (by decide) ?_
            refine ga_callSN (rest := []) (wr := [(aP, .inr (1, [.ref aF, .ref aT, .ref aC, .ref aL, .int (nI n), .int (nI k), .int (nI li), .int (nI fa)])), (aL, .inl (G.2.2, 12, .inl (aN lv)))]) cx hK hA w hl lk_X1_47 (c_X6_member l G (st &&& (lv v)) (nI 0) (andL_lt (by omega))) ⟨Nat.le_of_ble_eq_true rfl, Nat.le_of_ble_eq_true rfl⟩ [] [0, 1] rfl rfl (by decide) (by decide) (by decide) rfl (Nat.le_of_ble_eq_true rfl) dX1_stepAt_37 ⟨Nat.le_refl _, Nat.le_refl _⟩ rfl (fun r w1_ H_ locs_ hp w => ?_)
            obtain ⟨rfl, rfl⟩ := hp
            have w : ga_wd G A_ s_ H_ locs_ [(aP, .inr (1, [.ref aF, .ref aT, .ref aC, .ref aL, .int (nI n), .int (nI k), .int (nI li), .int (nI fa)])), (aL, .inl (G.2.2, 12, .inl (aN lv)))] := ga_perm w [0, 1] (by decide) rfl
            refine W.eq (g2 := F0 m_ 40 ls [.int (nth ((fl (Nat.testBit (st &&& (lv v))) 16).map nI) (nI 0))]) rfl ?_
            exact ga_iret cx hr hlk w dX1_stepAt_40 ⟨Nat.le_refl _, Nat.le_refl _⟩ (⟨ga_rv (scD_hit (fun v => nth ((fl (Nat.testBit (st &&& lv v)) 16).map nI) 0) hz (by simp [c27]) (by omega) (by omega) c31).symm, rfl⟩)
  exact loop5 _ 0 i (by omega) (scD_0 _ _) (Nat.lt_succ_self _) _ _ _ (lv_sub hl [0, 1, 2, 3, 4] rfl) w

set_option maxHeartbeats 4000000 in
set_option maxRecDepth 100000 in
theorem c_J7_fill_53178 (l : Launch) (G : ga_G) (a : Nat) (L : Nat) (f : Nat → Nat) (x : Nat) (hL : L < 2 ^ 31) : ga_M l G yJ7_fill_53178 cJ7_fill_53178 4 (Option.none : Option Jvm.ClassFile.FieldType) 0 0 0 0 [.ref a, .int (nI x)] [(a, .inl (G.2.2, L, .inl (aN f)))] (fun r w => ∃ (g : Nat → Nat), (∀ j, j < L → g j = x) ∧ r = none ∧ w = [(a, .inl (G.2.2, L, .inl (aN g)))]) := by
  refine ga_M.intro (by decide) (Nat.le_of_ble_eq_true rfl) (fun p_ e_ s_ m_ below meth c_ A_ H_ locs_ ls cx hr hlk hnm hA hK hl w => ?_)
  have hx := cx.1
  have hb := cx.2.1
  have hl : lv_has ls 4 [(0, .ref a), (1, .int (nI x))] := hl
  refine lv_iconst (v := nI 0) hx hb dJ7_fill_53178_0 (by decide) ?_
  refine lv_istore_n (lv' := [(2, .int (nI 0)), (0, .ref a), (1, .int (nI x))]) hx hb dJ7_fill_53178_1 rfl hl (by decide) rfl (fun ls hl => ?_)
  refine lv_aload_n hx hb dJ7_fill_53178_2 rfl (lv_at hl 1 rfl) ?_
  refine r_alen hx hb hK w 0 rfl dJ7_fill_53178_3 ?_
  refine lv_istore_n (lv' := [(3, .int (nI L)), (2, .int (nI 0)), (0, .ref a), (1, .int (nI x))]) hx hb dJ7_fill_53178_4 rfl hl (by decide) rfl (fun ls hl => ?_)
  have loop5 : ∀ (n_ : Nat) (i : Nat) (g : Nat → Nat) (hi : i ≤ L) (hg : ∀ j, j < i → g j = x) (hm : L - i < n_) (H_ : Heap) (locs_ : List Loc) (ls : Array Slot) (hl : lv_has ls 4 [(3, .int (nI L)), (2, .int (nI i)), (0, .ref a), (1, .int (nI x))]) (w : ga_wd G A_ s_ H_ locs_ [(a, .inl (G.2.2, L, .inl (aN g)))]), W p_ l e_ { frames := 0, cells := 0, slots := 0, locals := 0 } s_ m_ [.ref a, .int (nI x)].toArray below meth c_ H_ locs_ (0) (0) (MQ below (ga_Q G A_ (fun r w => ∃ (g : Nat → Nat), (∀ j, j < L → g j = x) ∧ r = none ∧ w = [(a, .inl (G.2.2, L, .inl (aN g)))])) [.ref a, .int (nI x)].toArray s_ 0 0 A_) (F0 m_ 5 ls []) := by
    intro n_
    induction n_ with
    | zero => intro i g hi hg hm; exact absurd hm (Nat.not_lt_zero _)
    | succ n_ ih5 =>
      intro i g hi hg hm5 H_ locs_ ls hl w
      refine lv_iload_n hx hb dJ7_fill_53178_5 rfl (lv_at hl 1 rfl) ?_
      refine lv_iload_n hx hb dJ7_fill_53178_6 rfl (lv_at hl 0 rfl) ?_
      refine r_icmp_ge hx hb dJ7_fill_53178_7 (tgt := 20) (by decide) (by omega) (by omega) (fun c7 => ?_) (fun c7 => ?_)
      · exact ga_vret cx hr hlk w dJ7_fill_53178_20 ⟨Nat.le_refl _, Nat.le_refl _⟩ (⟨g, fun j hj => hg j (by omega), rfl, rfl⟩)
      · refine lv_aload_n hx hb dJ7_fill_53178_10 rfl (lv_at hl 2 rfl) ?_
        refine lv_iload_n hx hb dJ7_fill_53178_11 rfl (lv_at hl 1 rfl) ?_
        refine lv_iload_n hx hb dJ7_fill_53178_12 rfl (lv_at hl 3 rfl) ?_
        refine r_iastN hx hb hK w 0 rfl dJ7_fill_53178_13 (by omega) (by omega) (fun H_ locs_ w => ?_)
        have w : ga_wd G A_ s_ H_ locs_ [(a, .inl (G.2.2, L, .inl (aN (uN g i x))))] := w
        refine r_iinc (d := 1) (k := 1) (lv' := [(2, .int (nI (i + 1))), (3, .int (nI L)), (0, .ref a), (1, .int (nI x))]) hx hb dJ7_fill_53178_14 hl rfl (by decide) (by decide) rfl (fun ls hl => ?_)
        refine lv_goto (tgt := 5) hx hb dJ7_fill_53178_17 (by decide) ?_
        exact ih5 (i + 1) (uN g i x) (by omega) (fun j hj => by unfold uN; split; rfl; exact hg j (by omega)) (by omega) _ _ _ (lv_sub hl [1, 0, 2, 3] rfl) w
  exact loop5 _ 0 f (by omega) (fun j h => absurd h (Nat.not_lt_zero _)) (Nat.lt_succ_self _) _ _ _ (lv_sub hl [0, 1, 2, 3] rfl) w

set_option maxHeartbeats 4000000 in
set_option maxRecDepth 100000 in
theorem c_X1_restart (l : Launch) (G : ga_G) (aP : Nat) (aF : Nat) (aT : Nat) (aC : Nat) (aL : Nat) (n : Nat) (k : Nat) (li : Nat) (fa : Nat) (lv : Nat → Nat) (nn : Nat)  : ga_M l G yX1_restart cX1_restart 2 (Option.none : Option Jvm.ClassFile.FieldType) 1 23 0 0 [.ref aP, .int (nI nn)] [(aP, .inr (1, [.ref aF, .ref aT, .ref aC, .ref aL, .int (nI n), .int (nI k), .int (nI li), .int (nI fa)])), (aL, .inl (G.2.2, 12, .inl (aN lv)))] (fun r w => ∃ (g : Nat → Nat), (∀ j, j < 12 → g j = 0) ∧ r = none ∧ w = [(aP, .inr (1, [.ref aF, .ref aT, .ref aC, .ref aL, .int (nI nn), .int (nI 0), .int (nI 0), .int (nI 0)])), (aL, .inl (G.2.2, 12, .inl (aN g)))]) := by
  refine ga_M.intro (by decide) (Nat.le_of_ble_eq_true rfl) (fun p_ e_ s_ m_ below meth c_ A_ H_ locs_ ls cx hr hlk hnm hA hK hl w => ?_)
  have hx := cx.1
  have hb := cx.2.1
  have hl : lv_has ls 2 [(0, .ref aP), (1, .int (nI nn))] := hl
  refine lv_aload_n hx hb dX1_restart_0 rfl (lv_at hl 0 rfl) ?_
  refine lv_iload_n hx hb dX1_restart_1 rfl (lv_at hl 1 rfl) ?_
  refine pf_X1_24 cx hK w 0 rfl rfl rfl (Nat.le_of_ble_eq_true rfl) dX1_restart_2 (fun H_ locs_ w => ?_)
  have w : ga_wd G A_ s_ H_ locs_ [(aP, .inr (1, [.ref aF, .ref aT, .ref aC, .ref aL, .int (nI nn), .int (nI k), .int (nI li), .int (nI fa)])), (aL, .inl (G.2.2, 12, .inl (aN lv)))] := w
  refine lv_aload_n hx hb dX1_restart_5 rfl (lv_at hl 0 rfl) ?_
  refine lv_iconst (v := nI 0) hx hb dX1_restart_6 (by decide) ?_
  refine pf_X1_28 cx hK w 0 rfl rfl rfl (Nat.le_of_ble_eq_true rfl) dX1_restart_7 (fun H_ locs_ w => ?_)
  have w : ga_wd G A_ s_ H_ locs_ [(aP, .inr (1, [.ref aF, .ref aT, .ref aC, .ref aL, .int (nI nn), .int (nI 0), .int (nI li), .int (nI fa)])), (aL, .inl (G.2.2, 12, .inl (aN lv)))] := w
  refine lv_aload_n hx hb dX1_restart_10 rfl (lv_at hl 0 rfl) ?_
  refine lv_iconst (v := nI 0) hx hb dX1_restart_11 (by decide) ?_
  refine pf_X1_31 cx hK w 0 rfl rfl rfl (Nat.le_of_ble_eq_true rfl) dX1_restart_12 (fun H_ locs_ w => ?_)
  have w : ga_wd G A_ s_ H_ locs_ [(aP, .inr (1, [.ref aF, .ref aT, .ref aC, .ref aL, .int (nI nn), .int (nI 0), .int (nI 0), .int (nI fa)])), (aL, .inl (G.2.2, 12, .inl (aN lv)))] := w
  refine lv_aload_n hx hb dX1_restart_15 rfl (lv_at hl 0 rfl) ?_
  refine lv_iconst (v := nI 0) hx hb dX1_restart_16 (by decide) ?_
  refine pf_X1_34 cx hK w 0 rfl rfl rfl (Nat.le_of_ble_eq_true rfl) dX1_restart_17 (fun H_ locs_ w => ?_)
  have w : ga_wd G A_ s_ H_ locs_ [(aP, .inr (1, [.ref aF, .ref aT, .ref aC, .ref aL, .int (nI nn), .int (nI 0), .int (nI 0), .int (nI 0)])), (aL, .inl (G.2.2, 12, .inl (aN lv)))] := w
  refine lv_aload_n hx hb dX1_restart_20 rfl (lv_at hl 0 rfl) ?_
  refine gf_X1_21 cx hK w 0 rfl rfl dX1_restart_21 ?_
  refine lv_iconst (v := nI 0) hx hb dX1_restart_24 (by decide) ?_
  refine ga_callS (rest := []) (wr := [(aP, .inr (1, [.ref aF, .ref aT, .ref aC, .ref aL, .int (nI nn), .int (nI 0), .int (nI 0), .int (nI 0)]))]) cx hK hA w hl lk_X1_37 (c_J7_fill_53178 l G aL 12 lv 0 (by omega)) ⟨Nat.le_of_ble_eq_true rfl, Nat.le_of_ble_eq_true rfl⟩ [1] [0] rfl rfl (by decide) (by decide) (by decide) rfl (Nat.le_of_ble_eq_true rfl) dX1_restart_25 ⟨Nat.le_refl _, Nat.le_refl _⟩ rfl (fun r w1_ H_ locs_ hp w => ?_)
  obtain ⟨g, hg, rfl, rfl⟩ := hp
  have w : ga_wd G A_ s_ H_ locs_ [(aP, .inr (1, [.ref aF, .ref aT, .ref aC, .ref aL, .int (nI nn), .int (nI 0), .int (nI 0), .int (nI 0)])), (aL, .inl (G.2.2, 12, .inl (aN g)))] := ga_perm w [0, 1] (by decide) rfl
  refine W.eq (g2 := F0 m_ 28 ls []) rfl ?_
  exact ga_vret cx hr hlk w dX1_restart_28 ⟨Nat.le_refl _, Nat.le_refl _⟩ (⟨g, hg, rfl, rfl⟩)

set_option maxHeartbeats 4000000 in
set_option maxRecDepth 100000 in
theorem c_X1_addStep (l : Launch) (G : ga_G) (aP : Nat) (aF : Nat) (aT : Nat) (aC : Nat) (aL : Nat) (n : Nat) (k : Nat) (li : Nat) (fa : Nat) (fr : Nat → Nat) (to : Nat → Nat) (ct : Nat → Nat) (lv : Nat → Nat) (va : Nat) (vb : Nat) (vc : Nat) (hk : k < 16) (hv : va < 12) : ga_M l G yX1_addStep cX1_addStep 5 (Option.some Jvm.ClassFile.FieldType.int) 0 0 0 0 [.ref aP, .int (nI va), .int (nI vb), .int (nI vc)] [(aP, .inr (1, [.ref aF, .ref aT, .ref aC, .ref aL, .int (nI n), .int (nI k), .int (nI li), .int (nI fa)])), (aF, .inl (G.2.2, 16, .inl (aN fr))), (aT, .inl (G.2.2, 16, .inl (aN to))), (aC, .inl (G.2.2, 16, .inl (aN ct))), (aL, .inl (G.2.2, 12, .inl (aN lv)))] (fun r w => r = some (.int (nI k)) ∧ w = [(aP, .inr (1, [.ref aF, .ref aT, .ref aC, .ref aL, .int (nI n), .int (nI (k + 1)), .int (nI li), .int (nI fa)])), (aF, .inl (G.2.2, 16, .inl (aN (uN fr k va)))), (aT, .inl (G.2.2, 16, .inl (aN (uN to k vb)))), (aC, .inl (G.2.2, 16, .inl (aN (uN ct k vc)))), (aL, .inl (G.2.2, 12, .inl (aN (uN lv va ((lv va) ||| (1 <<< k))))))]) := by
  refine ga_M.intro (by decide) (Nat.le_of_ble_eq_true rfl) (fun p_ e_ s_ m_ below meth c_ A_ H_ locs_ ls cx hr hlk hnm hA hK hl w => ?_)
  have hx := cx.1
  have hb := cx.2.1
  have hl : lv_has ls 5 [(0, .ref aP), (1, .int (nI va)), (2, .int (nI vb)), (3, .int (nI vc))] := hl
  refine lv_aload_n hx hb dX1_addStep_0 rfl (lv_at hl 0 rfl) ?_
  refine gf_X1_28 cx hK w 0 rfl rfl dX1_addStep_1 ?_
  refine lv_istore (lv' := [(4, .int (nI k)), (0, .ref aP), (1, .int (nI va)), (2, .int (nI vb)), (3, .int (nI vc))]) hx hb dX1_addStep_4 hl (by decide) rfl (fun ls hl => ?_)
  refine lv_aload_n hx hb dX1_addStep_6 rfl (lv_at hl 1 rfl) ?_
  refine gf_X1_9 cx hK w 0 rfl rfl dX1_addStep_7 ?_
  refine lv_iload hx hb dX1_addStep_10 (lv_at hl 0 rfl) ?_
  refine lv_iload_n hx hb dX1_addStep_12 rfl (lv_at hl 2 rfl) ?_
  refine r_iastN hx hb hK w 1 rfl dX1_addStep_13 (by omega) (by decide) (fun H_ locs_ w => ?_)
  have w : ga_wd G A_ s_ H_ locs_ [(aP, .inr (1, [.ref aF, .ref aT, .ref aC, .ref aL, .int (nI n), .int (nI k), .int (nI li), .int (nI fa)])), (aF, .inl (G.2.2, 16, .inl (aN (uN fr k va)))), (aT, .inl (G.2.2, 16, .inl (aN to))), (aC, .inl (G.2.2, 16, .inl (aN ct))), (aL, .inl (G.2.2, 12, .inl (aN lv)))] := w
  refine lv_aload_n hx hb dX1_addStep_14 rfl (lv_at hl 1 rfl) ?_
  refine gf_X1_15 cx hK w 0 rfl rfl dX1_addStep_15 ?_
  refine lv_iload hx hb dX1_addStep_18 (lv_at hl 0 rfl) ?_
  refine lv_iload_n hx hb dX1_addStep_20 rfl (lv_at hl 3 rfl) ?_
  refine r_iastN hx hb hK w 2 rfl dX1_addStep_21 (by omega) (by decide) (fun H_ locs_ w => ?_)
  have w : ga_wd G A_ s_ H_ locs_ [(aP, .inr (1, [.ref aF, .ref aT, .ref aC, .ref aL, .int (nI n), .int (nI k), .int (nI li), .int (nI fa)])), (aF, .inl (G.2.2, 16, .inl (aN (uN fr k va)))), (aT, .inl (G.2.2, 16, .inl (aN (uN to k vb)))), (aC, .inl (G.2.2, 16, .inl (aN ct))), (aL, .inl (G.2.2, 12, .inl (aN lv)))] := w
  refine lv_aload_n hx hb dX1_addStep_22 rfl (lv_at hl 1 rfl) ?_
  refine gf_X1_18 cx hK w 0 rfl rfl dX1_addStep_23 ?_
  refine lv_iload hx hb dX1_addStep_26 (lv_at hl 0 rfl) ?_
  refine lv_iload_n hx hb dX1_addStep_28 rfl (lv_at hl 4 rfl) ?_
  refine r_iastN hx hb hK w 3 rfl dX1_addStep_29 (by omega) (by decide) (fun H_ locs_ w => ?_)
  have w : ga_wd G A_ s_ H_ locs_ [(aP, .inr (1, [.ref aF, .ref aT, .ref aC, .ref aL, .int (nI n), .int (nI k), .int (nI li), .int (nI fa)])), (aF, .inl (G.2.2, 16, .inl (aN (uN fr k va)))), (aT, .inl (G.2.2, 16, .inl (aN (uN to k vb)))), (aC, .inl (G.2.2, 16, .inl (aN (uN ct k vc)))), (aL, .inl (G.2.2, 12, .inl (aN lv)))] := w
  refine lv_aload_n hx hb dX1_addStep_30 rfl (lv_at hl 1 rfl) ?_
  refine gf_X1_21 cx hK w 0 rfl rfl dX1_addStep_31 ?_
  refine lv_iload_n hx hb dX1_addStep_34 rfl (lv_at hl 2 rfl) ?_
  refine lv_dup2_11 hx hb dX1_addStep_35 rfl rfl ?_
  refine r_ialdN hx hb hK w 4 rfl dX1_addStep_36 (by omega) (by decide) ?_
  refine lv_iconst (v := nI 1) hx hb dX1_addStep_37 (by decide) ?_
  refine lv_iload hx hb dX1_addStep_38 (lv_at hl 0 rfl) ?_
  refine r_ishl hx hb dX1_addStep_40 (by omega) ?_
  refine r_ior hx hb dX1_addStep_41 ?_
  refine r_iastN hx hb hK w 4 rfl dX1_addStep_42 (by omega) (by decide) (fun H_ locs_ w => ?_)
  have w : ga_wd G A_ s_ H_ locs_ [(aP, .inr (1, [.ref aF, .ref aT, .ref aC, .ref aL, .int (nI n), .int (nI k), .int (nI li), .int (nI fa)])), (aF, .inl (G.2.2, 16, .inl (aN (uN fr k va)))), (aT, .inl (G.2.2, 16, .inl (aN (uN to k vb)))), (aC, .inl (G.2.2, 16, .inl (aN (uN ct k vc)))), (aL, .inl (G.2.2, 12, .inl (aN (uN lv va ((lv va) ||| (1 <<< k))))))] := w
  refine lv_aload_n hx hb dX1_addStep_43 rfl (lv_at hl 1 rfl) ?_
  refine lv_dup hx hb dX1_addStep_44 rfl ?_
  refine gf_X1_28 cx hK w 0 rfl rfl dX1_addStep_45 ?_
  refine lv_iconst (v := nI 1) hx hb dX1_addStep_48 (by decide) ?_
  refine r_iadd hx hb dX1_addStep_49 ?_
  refine pf_X1_28 cx hK w 0 rfl rfl rfl (Nat.le_of_ble_eq_true rfl) dX1_addStep_50 (fun H_ locs_ w => ?_)
  have w : ga_wd G A_ s_ H_ locs_ [(aP, .inr (1, [.ref aF, .ref aT, .ref aC, .ref aL, .int (nI n), .int (nI (k + 1)), .int (nI li), .int (nI fa)])), (aF, .inl (G.2.2, 16, .inl (aN (uN fr k va)))), (aT, .inl (G.2.2, 16, .inl (aN (uN to k vb)))), (aC, .inl (G.2.2, 16, .inl (aN (uN ct k vc)))), (aL, .inl (G.2.2, 12, .inl (aN (uN lv va ((lv va) ||| (1 <<< k))))))] := w
  refine lv_iload hx hb dX1_addStep_53 (lv_at hl 0 rfl) ?_
  exact ga_iret cx hr hlk w dX1_addStep_55 ⟨Nat.le_refl _, Nat.le_refl _⟩ (⟨rfl, rfl⟩)

set_option maxHeartbeats 4000000 in
set_option maxRecDepth 100000 in
theorem c_X5_put (l : Launch) (G : ga_G) (aB : Nat) (aE : Nat) (tl : Nat) (tb : Nat → Nat) (wd : Int32) (ht : tl ≤ 36) : ga_M l G yX5_put cX5_put 3 (Option.none : Option Jvm.ClassFile.FieldType) 0 0 0 0 [.ref aB, .int wd] [(aB, .inr (5, [.ref aE, .int (nI tl)])), (aE, .inl (G.2.2, 40, .inl (aN tb)))] (fun r w => ∃ (g : Nat → Nat), (∀ j, j < tl → g j = tb j) ∧ (∀ q, q < 4 → g (tl + q) = byt wd (3 - q)) ∧ r = none ∧ w = [(aB, .inr (5, [.ref aE, .int (nI (tl + 4))])), (aE, .inl (G.2.2, 40, .inl (aN g)))]) := by
  refine ga_M.intro (by decide) (Nat.le_of_ble_eq_true rfl) (fun p_ e_ s_ m_ below meth c_ A_ H_ locs_ ls cx hr hlk hnm hA hK hl w => ?_)
  have hx := cx.1
  have hb := cx.2.1
  have hl : lv_has ls 3 [(0, .ref aB), (1, .int wd)] := hl
  refine lv_iconst (v := nI 3) hx hb dX5_put_0 (by decide) ?_
  refine lv_istore_n (lv' := [(2, .int (nI 3)), (0, .ref aB), (1, .int wd)]) hx hb dX5_put_1 rfl hl (by decide) rfl (fun ls hl => ?_)
  have loop2 : ∀ (n_ : Nat) (q : Nat) (x : Int32) (g : Nat → Nat) (hq : q ≤ 4) (hx3 : x = nI 3 - nI q) (h1 : ∀ j, j < tl → g j = tb j) (h2 : ∀ u, u < q → g (tl + u) = byt wd (3 - u)) (hm : 4 - q < n_) (H_ : Heap) (locs_ : List Loc) (ls : Array Slot) (hl : lv_has ls 3 [(2, .int x), (0, .ref aB), (1, .int wd)]) (w : ga_wd G A_ s_ H_ locs_ [(aB, .inr (5, [.ref aE, .int (nI (tl + q))])), (aE, .inl (G.2.2, 40, .inl (aN g)))]), W p_ l e_ { frames := 0, cells := 0, slots := 0, locals := 0 } s_ m_ [.ref aB, .int wd].toArray below meth c_ H_ locs_ (0) (0) (MQ below (ga_Q G A_ (fun r w => ∃ (g : Nat → Nat), (∀ j, j < tl → g j = tb j) ∧ (∀ q, q < 4 → g (tl + q) = byt wd (3 - q)) ∧ r = none ∧ w = [(aB, .inr (5, [.ref aE, .int (nI (tl + 4))])), (aE, .inl (G.2.2, 40, .inl (aN g)))])) [.ref aB, .int wd].toArray s_ 0 0 A_) (F0 m_ 2 ls []) := by
    intro n_
    induction n_ with
    | zero => intro q x g hq hx3 h1 h2 hm; exact absurd hm (Nat.not_lt_zero _)
    | succ n_ ih2 =>
      intro q x g hq hx3 h1 h2 hm2 H_ locs_ ls hl w
      refine lv_iload_n hx hb dX5_put_2 rfl (lv_at hl 0 rfl) ?_
      rcases Nat.lt_or_ge q 4 with hq0 | hq0
      · have hx4 : x = nI (3 - q) := by rw [hx3, pk_sub (by omega)]
        subst hx4
        refine r_if_lt hx hb dX5_put_3 (tgt := 50) (by decide) (by omega) (fun c3 => ?_) (fun c3 => ?_)
        · omega
        · refine lv_aload_n hx hb dX5_put_6 rfl (lv_at hl 1 rfl) ?_
          refine gf_X5_15 cx hK w 0 rfl rfl dX5_put_7 ?_
          refine lv_bipush (v := nI 40) hx hb dX5_put_10 (by decide) ?_
          refine r_icmp_ge hx hb dX5_put_12 (tgt := 50) (by decide) (by omega) (by omega) (fun c12 => ?_) (fun c12 => ?_)
          · exact ga_vret cx hr hlk w dX5_put_50 ⟨Nat.le_refl _, Nat.le_refl _⟩ (⟨g, h1, fun u hu => h2 u (by omega), rfl, by rw [show q = 4 by omega]⟩)
          · refine lv_aload_n hx hb dX5_put_15 rfl (lv_at hl 1 rfl) ?_
            refine gf_X5_9 cx hK w 0 rfl rfl dX5_put_16 ?_
            refine lv_aload_n hx hb dX5_put_19 rfl (lv_at hl 1 rfl) ?_
            refine gf_X5_15 cx hK w 0 rfl rfl dX5_put_20 ?_
            refine lv_iload_n hx hb dX5_put_23 rfl (lv_at hl 2 rfl) ?_
            refine lv_bipush (v := nI 8) hx hb dX5_put_24 (by decide) ?_
            refine lv_iload_n hx hb dX5_put_26 rfl (lv_at hl 0 rfl) ?_
            refine r_imul hx hb dX5_put_27 ?_
            refine lv_ishr hx hb dX5_put_28 ?_
            refine lv_sipush (v := nI 255) hx hb dX5_put_29 (by decide) ?_
            refine lv_iand hx hb dX5_put_32 ?_
            refine r_topi (y := nI (byt wd (3 - q))) (byt_ok wd (by omega)) ?_
            refine r_iastN hx hb hK w 1 rfl dX5_put_33 (by omega) (by decide) (fun H_ locs_ w => ?_)
            have w : ga_wd G A_ s_ H_ locs_ [(aB, .inr (5, [.ref aE, .int (nI (tl + q))])), (aE, .inl (G.2.2, 40, .inl (aN (uN g (tl + q) (byt wd (3 - q))))))] := w
            refine lv_aload_n hx hb dX5_put_34 rfl (lv_at hl 1 rfl) ?_
            refine lv_dup hx hb dX5_put_35 rfl ?_
            refine gf_X5_15 cx hK w 0 rfl rfl dX5_put_36 ?_
            refine lv_iconst (v := nI 1) hx hb dX5_put_39 (by decide) ?_
            refine r_iadd hx hb dX5_put_40 ?_
            refine pf_X5_15 cx hK w 0 rfl rfl rfl (Nat.le_of_ble_eq_true rfl) dX5_put_41 (fun H_ locs_ w => ?_)
            have w : ga_wd G A_ s_ H_ locs_ [(aB, .inr (5, [.ref aE, .int (nI ((tl + q) + 1))])), (aE, .inl (G.2.2, 40, .inl (aN (uN g (tl + q) (byt wd (3 - q))))))] := w
            refine lv_iinc (k := 0) (lv' := [(2, .int (nI (3 - q) + Int32.ofInt (-1))), (0, .ref aB), (1, .int wd)]) hx hb dX5_put_44 hl rfl rfl (by decide) rfl (fun ls hl => ?_)
            refine lv_goto (tgt := 2) hx hb dX5_put_47 (by decide) ?_
            exact ih2 (q + 1) (nI (3 - q) + Int32.ofInt (-1)) (uN g (tl + q) (byt wd (3 - q))) (by omega) (dec_q hq0) (fun j hj => by rw [uN_n _ _ (by omega)]; exact h1 j hj) (fun u hu => by rcases Nat.lt_or_ge u q with h | h; (rw [uN_n _ _ (by omega)]; exact h2 u h); (rw [show u = q by omega, uN_s])) (by omega) _ _ _ (lv_sub hl [0, 1, 2] rfl) w
      · have hx4 : x = -1 := by rw [hx3, show q = 4 by omega]; decide
        subst hx4
        refine lv_if_lt hx hb dX5_put_3 (tgt := 50) (by decide) (fun c3 => ?_) (fun c3 => ?_)
        · exact ga_vret cx hr hlk w dX5_put_50 ⟨Nat.le_refl _, Nat.le_refl _⟩ (⟨g, h1, fun u hu => h2 u (by omega), rfl, by rw [show q = 4 by omega]⟩)
        · exact absurd (by decide) c3
  exact loop2 _ 0 (nI 3) tb (by omega) (by decide) (fun j _ => rfl) (fun u h => absurd h (Nat.not_lt_zero _)) (Nat.lt_succ_self _) _ _ _ (lv_sub hl [0, 1, 2] rfl) w
