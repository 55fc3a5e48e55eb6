theorem i32_le {v : Int32} (h : nI 1000000 < v) : nI 1000001 ≤ v := by
  have h1 := Int32.lt_iff_toInt_lt.mp h
  rw [nI_toInt (by decide)] at h1
  exact Int32.le_iff_toInt_le.mpr (by rw [nI_toInt (by decide)]; omega)
theorem i32_nle {v : Int32} (h : ¬ nI 1000000 < v) : ¬ nI 1000001 ≤ v := fun h2 => h (by
  have h1 := Int32.le_iff_toInt_le.mp h2
  rw [nI_toInt (by decide)] at h1
  exact Int32.lt_iff_toInt_lt.mpr (by rw [nI_toInt (by decide)]; omega))
theorem inB2_0 {v : Int32} (h : v = 0) : inB v 2 = true := by rw [h]; decide
theorem inB2_1 {v : Int32} (h : v = nI 1) : inB v 2 = true := by rw [h]; decide
theorem inB2_n {v : Int32} (h : ¬ v = 0) (h2 : ¬ v = nI 1) : inB v 2 = false := by
  cases hb : inB v 2
  · rfl
  · obtain ⟨j, hj, rfl⟩ := inB_of (by decide) hb
    rcases (show j = 0 ∨ j = 1 by omega) with rfl | rfl
    · exact absurd rfl h
    · exact absurd rfl h2
theorem lfst_congr {P Q : Nat → Bool} {i : Nat} (h : ∀ u, u < i → P u = Q u) : lfst P i = lfst Q i := by
  obtain ⟨h1, h2, h3⟩ := lfst_sp Q i
  rcases Nat.lt_or_ge (lfst Q i) i with h4 | h4
  · exact lfst_lt h4 (by rw [h _ h4]; exact h2 h4) (fun j hj => by rw [h j (by omega)]; exact h3 j hj)
  · have h5 : lfst Q i = i := by omega
    rw [h5]; exact lfst_no (fun j hj => by rw [h j hj]; exact h3 j (by omega))
theorem hpsN_congr {f g : Nat → Nat} {li c : Nat} (h : ∀ u, u < c → f u = g u) : hpsN f li c = hpsN g li c := by
  unfold hpsN
  congr 1
  refine fl_congr (fun i hi => ?_)
  congr 1
  rw [lfst_congr (fun u hu => by unfold like; rw [h u (by omega), h i hi])]
  rfl
set_option maxHeartbeats 4000000 in
set_option maxRecDepth 100000 in
theorem c_X6_canBeCounted (l : Launch) (G : ga_G) (v : Int32)  : ga_M l G yX6_canBeCounted cX6_canBeCounted 1 (Option.some Jvm.ClassFile.FieldType.boolean) 0 0 0 0 [.int v] [] (fun r w => r = some (.int (bI (inB v 1000001))) ∧ w = []) := by
  refine ga_M.intro (by decide) (Nat.le_of_ble_eq_true rfl) (fun p_ e_ s_ m_ below meth c_ A_ H_ locs_ ls cx hr hlk hnm hA hK hl w => ?_)
  have hx := cx.1
  have hb := cx.2.1
  have hl : lv_has ls 1 [(0, .int v)] := hl
  refine lv_iload_n hx hb dX6_canBeCounted_0 rfl (lv_at hl 0 rfl) ?_
  refine lv_if_lt hx hb dX6_canBeCounted_1 (tgt := 14) (by decide) (fun c1 => ?_) (fun c1 => ?_)
  · refine lv_iconst (v := nI 0) hx hb dX6_canBeCounted_14 (by decide) ?_
    exact ga_zret cx hr hlk w rfl dX6_canBeCounted_15 ⟨Nat.le_refl _, Nat.le_refl _⟩ (⟨ga_r0 (by first | exact inB_0 (by decide) (Or.inl c1) | exact inB_0 (by decide) (Or.inr (i32_le c7)) | exact inB_1 (by decide) c1 (i32_nle c7)), rfl⟩)
  · refine lv_iload_n hx hb dX6_canBeCounted_4 rfl (lv_at hl 0 rfl) ?_
    refine W.ldc hx hb cx.2.2.2.1 (cx.2.2.2.2 _ tm_247) rfl dX6_canBeCounted_5 ?_
    refine W.eq (g2 := F0 m_ 7 ls [.int (nI 1000000), .int v]) rfl ?_
    refine lv_icmp_gt hx hb dX6_canBeCounted_7 (tgt := 14) (by decide) (fun c7 => ?_) (fun c7 => ?_)
    · refine lv_iconst (v := nI 0) hx hb dX6_canBeCounted_14 (by decide) ?_
      exact ga_zret cx hr hlk w rfl dX6_canBeCounted_15 ⟨Nat.le_refl _, Nat.le_refl _⟩ (⟨ga_r0 (by first | exact inB_0 (by decide) (Or.inl c1) | exact inB_0 (by decide) (Or.inr (i32_le c7)) | exact inB_1 (by decide) c1 (i32_nle c7)), rfl⟩)
    · refine lv_iconst (v := nI 1) hx hb dX6_canBeCounted_10 (by decide) ?_
      refine lv_goto (tgt := 15) hx hb dX6_canBeCounted_11 (by decide) ?_
      exact ga_zret cx hr hlk w rfl dX6_canBeCounted_15 ⟨Nat.le_refl _, Nat.le_refl _⟩ (⟨ga_r1 (by first | exact inB_0 (by decide) (Or.inl c1) | exact inB_0 (by decide) (Or.inr (i32_le c7)) | exact inB_1 (by decide) c1 (i32_nle c7)), rfl⟩)

set_option maxHeartbeats 4000000 in
set_option maxRecDepth 100000 in
theorem c_X6_isWaysOrFaults (l : Launch) (G : ga_G) (v : Int32)  : ga_M l G yX6_isWaysOrFaults cX6_isWaysOrFaults 1 (Option.some Jvm.ClassFile.FieldType.boolean) 0 0 0 0 [.int v] [] (fun r w => r = some (.int (bI (inB v 2))) ∧ w = []) := by
  refine ga_M.intro (by decide) (Nat.le_of_ble_eq_true rfl) (fun p_ e_ s_ m_ below meth c_ A_ H_ locs_ ls cx hr hlk hnm hA hK hl w => ?_)
  have hx := cx.1
  have hb := cx.2.1
  have hl : lv_has ls 1 [(0, .int v)] := hl
  refine lv_iload_n hx hb dX6_isWaysOrFaults_0 rfl (lv_at hl 0 rfl) ?_
  refine lv_if_eq hx hb dX6_isWaysOrFaults_1 (tgt := 9) (by decide) (fun c1 => ?_) (fun c1 => ?_)
  · refine lv_iconst (v := nI 1) hx hb dX6_isWaysOrFaults_9 (by decide) ?_
    refine lv_goto (tgt := 14) hx hb dX6_isWaysOrFaults_10 (by decide) ?_
    exact ga_zret cx hr hlk w rfl dX6_isWaysOrFaults_14 ⟨Nat.le_refl _, Nat.le_refl _⟩ (⟨ga_r1 (by first | exact inB2_0 c1 | exact inB2_1 c6 | exact inB2_n c1 c6), rfl⟩)
  · refine lv_iload_n hx hb dX6_isWaysOrFaults_4 rfl (lv_at hl 0 rfl) ?_
    refine lv_iconst (v := nI 1) hx hb dX6_isWaysOrFaults_5 (by decide) ?_
    refine lv_icmp_ne hx hb dX6_isWaysOrFaults_6 (tgt := 13) (by decide) (fun c6 => ?_) (fun c6 => ?_)
    · refine lv_iconst (v := nI 0) hx hb dX6_isWaysOrFaults_13 (by decide) ?_
      exact ga_zret cx hr hlk w rfl dX6_isWaysOrFaults_14 ⟨Nat.le_refl _, Nat.le_refl _⟩ (⟨ga_r0 (by first | exact inB2_0 c1 | exact inB2_1 c6 | exact inB2_n c1 c6), rfl⟩)
    · refine lv_iconst (v := nI 1) hx hb dX6_isWaysOrFaults_9 (by decide) ?_
      refine lv_goto (tgt := 14) hx hb dX6_isWaysOrFaults_10 (by decide) ?_
      exact ga_zret cx hr hlk w rfl dX6_isWaysOrFaults_14 ⟨Nat.le_refl _, Nat.le_refl _⟩ (⟨ga_r1 (by first | exact inB2_0 c1 | exact inB2_1 c6 | exact inB2_n c1 c6), rfl⟩)

set_option maxHeartbeats 4000000 in
set_option maxRecDepth 100000 in
theorem c_X6_isFirstOrOther (l : Launch) (G : ga_G) (v : Int32)  : ga_M l G yX6_isFirstOrOther cX6_isFirstOrOther 1 (Option.some Jvm.ClassFile.FieldType.boolean) 0 0 0 0 [.int v] [] (fun r w => r = some (.int (bI (inB v 2))) ∧ w = []) := by
  refine ga_M.intro (by decide) (Nat.le_of_ble_eq_true rfl) (fun p_ e_ s_ m_ below meth c_ A_ H_ locs_ ls cx hr hlk hnm hA hK hl w => ?_)
  have hx := cx.1
  have hb := cx.2.1
  have hl : lv_has ls 1 [(0, .int v)] := hl
  refine lv_iload_n hx hb dX6_isFirstOrOther_0 rfl (lv_at hl 0 rfl) ?_
  refine lv_if_eq hx hb dX6_isFirstOrOther_1 (tgt := 9) (by decide) (fun c1 => ?_) (fun c1 => ?_)
  · refine lv_iconst (v := nI 1) hx hb dX6_isFirstOrOther_9 (by decide) ?_
    refine lv_goto (tgt := 14) hx hb dX6_isFirstOrOther_10 (by decide) ?_
    exact ga_zret cx hr hlk w rfl dX6_isFirstOrOther_14 ⟨Nat.le_refl _, Nat.le_refl _⟩ (⟨ga_r1 (by first | exact inB2_0 c1 | exact inB2_1 c6 | exact inB2_n c1 c6), rfl⟩)
  · refine lv_iload_n hx hb dX6_isFirstOrOther_4 rfl (lv_at hl 0 rfl) ?_
    refine lv_iconst (v := nI 1) hx hb dX6_isFirstOrOther_5 (by decide) ?_
    refine lv_icmp_ne hx hb dX6_isFirstOrOther_6 (tgt := 13) (by decide) (fun c6 => ?_) (fun c6 => ?_)
    · refine lv_iconst (v := nI 0) hx hb dX6_isFirstOrOther_13 (by decide) ?_
      exact ga_zret cx hr hlk w rfl dX6_isFirstOrOther_14 ⟨Nat.le_refl _, Nat.le_refl _⟩ (⟨ga_r0 (by first | exact inB2_0 c1 | exact inB2_1 c6 | exact inB2_n c1 c6), rfl⟩)
    · refine lv_iconst (v := nI 1) hx hb dX6_isFirstOrOther_9 (by decide) ?_
      refine lv_goto (tgt := 14) hx hb dX6_isFirstOrOther_10 (by decide) ?_
      exact ga_zret cx hr hlk w rfl dX6_isFirstOrOther_14 ⟨Nat.le_refl _, Nat.le_refl _⟩ (⟨ga_r1 (by first | exact inB2_0 c1 | exact inB2_1 c6 | exact inB2_n c1 c6), rfl⟩)

set_option maxHeartbeats 4000000 in
set_option maxRecDepth 100000 in
theorem c_X6_forgetWays (l : Launch) (G : ga_G) (aO : Nat) (aP : Nat) (aW : Nat) (aK : Nat) (aJ : Nat) (aH : Nat) (aB : Nat) (aR : Nat) (aS : Nat) (aQ : Nat) (num : Nat) (tm : Bool) (sl : Bool) (ss : Nat → Nat) (ns : Nat → Nat) (aZ : Nat) (pn : Nat) (slk : Bool) (aY : Nat) (qn : Nat) (slj : Bool)  : ga_M l G yX6_forgetWays cX6_forgetWays 1 (Option.none : Option Jvm.ClassFile.FieldType) 0 0 0 0 [.ref aO] [(aO, .inr (6, [.ref aP, .ref aW, .ref aK, .ref aJ, .ref aH, .ref aB, .ref aR])), (aW, .inr (3, [.ref aS, .ref aQ, .int (nI num), .int (bI tm), .int (bI sl)])), (aK, .inr (0, [.ref aZ, .int (nI pn), .int (bI slk)])), (aJ, .inr (0, [.ref aY, .int (nI qn), .int (bI slj)]))] (fun r w => r = none ∧ w = [(aO, .inr (6, [.ref aP, .ref aW, .ref aK, .ref aJ, .ref aH, .ref aB, .ref aR])), (aW, .inr (3, [.ref aS, .ref aQ, .int (nI num), .int (bI tm), .int (bI true)])), (aK, .inr (0, [.ref aZ, .int (nI pn), .int (bI true)])), (aJ, .inr (0, [.ref aY, .int (nI qn), .int (bI true)]))]) := by
  refine ga_M.intro (by decide) (Nat.le_of_ble_eq_true rfl) (fun p_ e_ s_ m_ below meth c_ A_ H_ locs_ ls cx hr hlk hnm hA hK hl w => ?_)
  have hx := cx.1
  have hb := cx.2.1
  have hl : lv_has ls 1 [(0, .ref aO)] := hl
  refine lv_aload_n hx hb dX6_forgetWays_0 rfl (lv_at hl 0 rfl) ?_
  refine gf_X6_19 cx hK w 0 rfl rfl dX6_forgetWays_1 ?_
  refine lv_iconst (v := nI 1) hx hb dX6_forgetWays_4 (by decide) ?_
  refine pf_X6_208 cx hK w 1 rfl rfl rfl (Nat.le_of_ble_eq_true rfl) dX6_forgetWays_5 (fun H_ locs_ w => ?_)
  have w : ga_wd G A_ s_ H_ locs_ [(aO, .inr (6, [.ref aP, .ref aW, .ref aK, .ref aJ, .ref aH, .ref aB, .ref aR])), (aW, .inr (3, [.ref aS, .ref aQ, .int (nI num), .int (bI tm), .int (nI 1)])), (aK, .inr (0, [.ref aZ, .int (nI pn), .int (bI slk)])), (aJ, .inr (0, [.ref aY, .int (nI qn), .int (bI slj)]))] := w
  refine lv_aload_n hx hb dX6_forgetWays_8 rfl (lv_at hl 0 rfl) ?_
  refine gf_X6_26 cx hK w 0 rfl rfl dX6_forgetWays_9 ?_
  refine lv_iconst (v := nI 1) hx hb dX6_forgetWays_12 (by decide) ?_
  refine pf_X6_98 cx hK w 2 rfl rfl rfl (Nat.le_of_ble_eq_true rfl) dX6_forgetWays_13 (fun H_ locs_ w => ?_)
  have w : ga_wd G A_ s_ H_ locs_ [(aO, .inr (6, [.ref aP, .ref aW, .ref aK, .ref aJ, .ref aH, .ref aB, .ref aR])), (aW, .inr (3, [.ref aS, .ref aQ, .int (nI num), .int (bI tm), .int (nI 1)])), (aK, .inr (0, [.ref aZ, .int (nI pn), .int (nI 1)])), (aJ, .inr (0, [.ref aY, .int (nI qn), .int (bI slj)]))] := w
  refine lv_aload_n hx hb dX6_forgetWays_16 rfl (lv_at hl 0 rfl) ?_
  refine gf_X6_30 cx hK w 0 rfl rfl dX6_forgetWays_17 ?_
  refine lv_iconst (v := nI 1) hx hb dX6_forgetWays_20 (by decide) ?_
  refine pf_X6_98 cx hK w 3 rfl rfl rfl (Nat.le_of_ble_eq_true rfl) dX6_forgetWays_21 (fun H_ locs_ w => ?_)
  have w : ga_wd G A_ s_ H_ locs_ [(aO, .inr (6, [.ref aP, .ref aW, .ref aK, .ref aJ, .ref aH, .ref aB, .ref aR])), (aW, .inr (3, [.ref aS, .ref aQ, .int (nI num), .int (bI tm), .int (nI 1)])), (aK, .inr (0, [.ref aZ, .int (nI pn), .int (nI 1)])), (aJ, .inr (0, [.ref aY, .int (nI qn), .int (nI 1)]))] := w
  exact ga_vret cx hr hlk w dX6_forgetWays_24 ⟨Nat.le_refl _, Nat.le_refl _⟩ (⟨rfl, rfl⟩)

set_option maxHeartbeats 4000000 in
set_option maxRecDepth 100000 in
theorem c_X6_tooMany (l : Launch) (G : ga_G) (aO : Nat) (aP : Nat) (aW : Nat) (aK : Nat) (aJ : Nat) (aH : Nat) (aB : Nat) (aR : Nat) (aS : Nat) (aQ : Nat) (num : Nat) (tm : Bool) (sl : Bool) (ss : Nat → Nat) (ns : Nat → Nat) (aF : Nat) (aT : Nat) (aC : Nat) (aL : Nat) (n : Nat) (k : Nat) (li : Nat) (fa : Nat) (fr : Nat → Nat) (to : Nat → Nat) (ct : Nat → Nat) (hF : Flow n k fr to ct) (hRI : sl = false → Rep to (WL n k fr to) num tm ss ns) : ga_M l G yX6_tooMany cX6_tooMany 1 (Option.some Jvm.ClassFile.FieldType.boolean) 15 399 0 0 [.ref aO] [(aO, .inr (6, [.ref aP, .ref aW, .ref aK, .ref aJ, .ref aH, .ref aB, .ref aR])), (aW, .inr (3, [.ref aS, .ref aQ, .int (nI num), .int (bI tm), .int (bI sl)])), (aS, .inl (G.2.2, 200, .inl (aN ss))), (aQ, .inl (G.2.2, 200, .inl (aN ns))), (aP, .inr (1, [.ref aF, .ref aT, .ref aC, .ref aL, .int (nI n), .int (nI k), .int (nI li), .int (nI fa)])), (aF, .inl (G.2.2, 16, .inl (aN fr))), (aT, .inl (G.2.2, 16, .inl (aN to)))] (fun r w => ∃ (num2 : Nat), ∃ (tm2 : Bool), ∃ (ss2 : Nat → Nat), ∃ (ns2 : Nat → Nat), (Rep to (WL n k fr to) num2 tm2 ss2 ns2) ∧ r = some (.int (bI tm2)) ∧ w = [(aO, .inr (6, [.ref aP, .ref aW, .ref aK, .ref aJ, .ref aH, .ref aB, .ref aR])), (aW, .inr (3, [.ref aS, .ref aQ, .int (nI num2), .int (bI tm2), .int (bI false)])), (aS, .inl (G.2.2, 200, .inl (aN ss2))), (aQ, .inl (G.2.2, 200, .inl (aN ns2))), (aP, .inr (1, [.ref aF, .ref aT, .ref aC, .ref aL, .int (nI n), .int (nI k), .int (nI li), .int (nI fa)])), (aF, .inl (G.2.2, 16, .inl (aN fr))), (aT, .inl (G.2.2, 16, .inl (aN to)))]) := by
  refine ga_M.intro (by decide) (Nat.le_of_ble_eq_true rfl) (fun p_ e_ s_ m_ below meth c_ A_ H_ locs_ ls cx hr hlk hnm hA hK hl w => ?_)
  have hx := cx.1
  have hb := cx.2.1
  have hl : lv_has ls 1 [(0, .ref aO)] := hl
  refine lv_aload_n hx hb dX6_tooMany_0 rfl (lv_at hl 0 rfl) ?_
  refine gf_X6_19 cx hK w 0 rfl rfl dX6_tooMany_1 ?_
  refine gf_X6_208 cx hK w 1 rfl rfl dX6_tooMany_4 ?_
  refine r_ifb_eq hx hb dX6_tooMany_7 (tgt := 21) (by decide) (fun c7 => ?_) (fun c7 => ?_)
  · subst c7
    refine lv_aload_n hx hb dX6_tooMany_21 rfl (lv_at hl 0 rfl) ?_
    refine gf_X6_19 cx hK w 0 rfl rfl dX6_tooMany_22 ?_
    refine gf_X6_212 cx hK w 1 rfl rfl dX6_tooMany_25 ?_
    exact ga_zret cx hr hlk w (bI_nar _) dX6_tooMany_28 ⟨Nat.le_refl _, Nat.le_refl _⟩ (⟨num, tm, ss, ns, hRI rfl, rfl, rfl⟩)
  · refine lv_aload_n hx hb dX6_tooMany_10 rfl (lv_at hl 0 rfl) ?_
    refine gf_X6_19 cx hK w 0 rfl rfl dX6_tooMany_11 ?_
    refine lv_aload_n hx hb dX6_tooMany_14 rfl (lv_at hl 0 rfl) ?_
    refine gf_X6_12 cx hK w 0 rfl rfl dX6_tooMany_15 ?_
    refine ga_callV (rest := []) (wr := [(aO, .inr (6, [.ref aP, .ref aW, .ref aK, .ref aJ, .ref aH, .ref aB, .ref aR]))]) cx hK hA w hl lk_X6_209 (c_X3_gather l G aW aS aQ num tm sl ss ns aP aF aT aC aL n k li fa fr to (hF.2.1) (hF.1) (hF.2.2.1) (fun e he => ⟨by have := hF.2.2.2.1 e he; omega, (hF.2.2.2.1 e he).2⟩)) ⟨Nat.le_of_ble_eq_true rfl, Nat.le_of_ble_eq_true rfl⟩ [1, 2, 3, 4, 5, 6] [0] rfl rfl (by decide) (by decide) (by decide) 1 3 rfl rfl rfl rfl (Nat.le_of_ble_eq_true rfl) dX6_tooMany_18 ⟨Nat.le_refl _, Nat.le_refl _⟩ rfl (fun r w1_ H_ locs_ hp w => ?_)
    obtain ⟨nu3, tm3, ss3, ns3, hR3, rfl, rfl⟩ := hp
    have w : ga_wd G A_ s_ H_ locs_ [(aO, .inr (6, [.ref aP, .ref aW, .ref aK, .ref aJ, .ref aH, .ref aB, .ref aR])), (aW, .inr (3, [.ref aS, .ref aQ, .int (nI nu3), .int (bI tm3), .int (bI false)])), (aS, .inl (G.2.2, 200, .inl (aN ss3))), (aQ, .inl (G.2.2, 200, .inl (aN ns3))), (aP, .inr (1, [.ref aF, .ref aT, .ref aC, .ref aL, .int (nI n), .int (nI k), .int (nI li), .int (nI fa)])), (aF, .inl (G.2.2, 16, .inl (aN fr))), (aT, .inl (G.2.2, 16, .inl (aN to)))] := ga_perm w [0, 1, 2, 3, 4, 5, 6] (by decide) rfl
    refine W.eq (g2 := F0 m_ 21 ls []) rfl ?_
    refine lv_aload_n hx hb dX6_tooMany_21 rfl (lv_at hl 0 rfl) ?_
    refine gf_X6_19 cx hK w 0 rfl rfl dX6_tooMany_22 ?_
    refine gf_X6_212 cx hK w 1 rfl rfl dX6_tooMany_25 ?_
    exact ga_zret cx hr hlk w (bI_nar _) dX6_tooMany_28 ⟨Nat.le_refl _, Nat.le_refl _⟩ (⟨nu3, tm3, ss3, ns3, hR3, rfl, rfl⟩)

set_option maxHeartbeats 4000000 in
set_option maxRecDepth 100000 in
theorem c_X6_hasWay (l : Launch) (G : ga_G) (aO : Nat) (aP : Nat) (aW : Nat) (aK : Nat) (aJ : Nat) (aH : Nat) (aB : Nat) (aR : Nat) (aS : Nat) (aQ : Nat) (num : Nat) (tm : Bool) (sl : Bool) (ss : Nat → Nat) (ns : Nat → Nat) (aF : Nat) (aT : Nat) (aC : Nat) (aL : Nat) (n : Nat) (k : Nat) (li : Nat) (fa : Nat) (fr : Nat → Nat) (to : Nat → Nat) (ct : Nat → Nat) (v : Int32) (hF : Flow n k fr to ct) (hRI : sl = false → Rep to (WL n k fr to) num tm ss ns) : ga_M l G yX6_hasWay cX6_hasWay 2 (Option.some Jvm.ClassFile.FieldType.boolean) 16 419 0 0 [.ref aO, .int v] [(aO, .inr (6, [.ref aP, .ref aW, .ref aK, .ref aJ, .ref aH, .ref aB, .ref aR])), (aW, .inr (3, [.ref aS, .ref aQ, .int (nI num), .int (bI tm), .int (bI sl)])), (aS, .inl (G.2.2, 200, .inl (aN ss))), (aQ, .inl (G.2.2, 200, .inl (aN ns))), (aP, .inr (1, [.ref aF, .ref aT, .ref aC, .ref aL, .int (nI n), .int (nI k), .int (nI li), .int (nI fa)])), (aF, .inl (G.2.2, 16, .inl (aN fr))), (aT, .inl (G.2.2, 16, .inl (aN to)))] (fun r w => ∃ (num2 : Nat), ∃ (tm2 : Bool), ∃ (ss2 : Nat → Nat), ∃ (ns2 : Nat → Nat), (Rep to (WL n k fr to) num2 tm2 ss2 ns2) ∧ r = some (.int (bI (!tm2 && inB v num2))) ∧ w = [(aO, .inr (6, [.ref aP, .ref aW, .ref aK, .ref aJ, .ref aH, .ref aB, .ref aR])), (aW, .inr (3, [.ref aS, .ref aQ, .int (nI num2), .int (bI tm2), .int (bI false)])), (aS, .inl (G.2.2, 200, .inl (aN ss2))), (aQ, .inl (G.2.2, 200, .inl (aN ns2))), (aP, .inr (1, [.ref aF, .ref aT, .ref aC, .ref aL, .int (nI n), .int (nI k), .int (nI li), .int (nI fa)])), (aF, .inl (G.2.2, 16, .inl (aN fr))), (aT, .inl (G.2.2, 16, .inl (aN to)))]) := by
  refine ga_M.intro (by decide) (Nat.le_of_ble_eq_true rfl) (fun p_ e_ s_ m_ below meth c_ A_ H_ locs_ ls cx hr hlk hnm hA hK hl w => ?_)
  have hx := cx.1
  have hb := cx.2.1
  have hl : lv_has ls 2 [(0, .ref aO), (1, .int v)] := hl
  refine lv_aload_n hx hb dX6_hasWay_0 rfl (lv_at hl 0 rfl) ?_
  refine ga_callV (rest := []) (wr := []) cx hK hA w hl lk_X6_102 (c_X6_tooMany l G aO aP aW aK aJ aH aB aR aS aQ num tm sl ss ns aF aT aC aL n k li fa fr to ct (hF) (hRI)) ⟨Nat.le_of_ble_eq_true rfl, Nat.le_of_ble_eq_true rfl⟩ [0, 1, 2, 3, 4, 5, 6] [] rfl rfl (by decide) (by decide) (by decide) 0 6 rfl rfl rfl rfl (Nat.le_of_ble_eq_true rfl) dX6_hasWay_1 ⟨Nat.le_refl _, Nat.le_refl _⟩ rfl (fun r w1_ H_ locs_ hp w => ?_)
  obtain ⟨nu3, tm3, ss3, ns3, hR3, rfl, rfl⟩ := hp
  have w : ga_wd G A_ s_ H_ locs_ [(aO, .inr (6, [.ref aP, .ref aW, .ref aK, .ref aJ, .ref aH, .ref aB, .ref aR])), (aW, .inr (3, [.ref aS, .ref aQ, .int (nI nu3), .int (bI tm3), .int (bI false)])), (aS, .inl (G.2.2, 200, .inl (aN ss3))), (aQ, .inl (G.2.2, 200, .inl (aN ns3))), (aP, .inr (1, [.ref aF, .ref aT, .ref aC, .ref aL, .int (nI n), .int (nI k), .int (nI li), .int (nI fa)])), (aF, .inl (G.2.2, 16, .inl (aN fr))), (aT, .inl (G.2.2, 16, .inl (aN to)))] := ga_perm w [0, 1, 2, 3, 4, 5, 6] (by decide) rfl
  refine W.eq (g2 := F0 m_ 4 ls [.int (bI tm3)]) rfl ?_
  have hr3 := Rep_f hR3
  refine r_ifb_ne hx hb dX6_hasWay_4 (tgt := 26) (by decide) (fun c4 => ?_) (fun c4 => ?_)
  · refine lv_iconst (v := nI 0) hx hb dX6_hasWay_26 (by decide) ?_
    exact ga_zret cx hr hlk w rfl dX6_hasWay_27 ⟨Nat.le_refl _, Nat.le_refl _⟩ (⟨nu3, tm3, ss3, ns3, hR3, ga_r0 (by rw [c4]; rfl), rfl⟩)
  · refine lv_iload_n hx hb dX6_hasWay_7 rfl (lv_at hl 1 rfl) ?_
    refine lv_if_lt hx hb dX6_hasWay_8 (tgt := 26) (by decide) (fun c8 => ?_) (fun c8 => ?_)
    · refine lv_iconst (v := nI 0) hx hb dX6_hasWay_26 (by decide) ?_
      exact ga_zret cx hr hlk w rfl dX6_hasWay_27 ⟨Nat.le_refl _, Nat.le_refl _⟩ (⟨nu3, tm3, ss3, ns3, hR3, ga_r0 (by rw [inB_0 (by omega) (Or.inl c8), Bool.and_false]), rfl⟩)
    · refine lv_iload_n hx hb dX6_hasWay_11 rfl (lv_at hl 1 rfl) ?_
      refine lv_aload_n hx hb dX6_hasWay_12 rfl (lv_at hl 0 rfl) ?_
      refine gf_X6_19 cx hK w 0 rfl rfl dX6_hasWay_13 ?_
      refine gf_X6_106 cx hK w 1 rfl rfl dX6_hasWay_16 ?_
      refine lv_icmp_ge hx hb dX6_hasWay_19 (tgt := 26) (by decide) (fun c19 => ?_) (fun c19 => ?_)
      · refine lv_iconst (v := nI 0) hx hb dX6_hasWay_26 (by decide) ?_
        exact ga_zret cx hr hlk w rfl dX6_hasWay_27 ⟨Nat.le_refl _, Nat.le_refl _⟩ (⟨nu3, tm3, ss3, ns3, hR3, ga_r0 (by rw [inB_0 (by omega) (Or.inr c19), Bool.and_false]), rfl⟩)
      · refine lv_iconst (v := nI 1) hx hb dX6_hasWay_22 (by decide) ?_
        refine lv_goto (tgt := 27) hx hb dX6_hasWay_23 (by decide) ?_
        exact ga_zret cx hr hlk w rfl dX6_hasWay_27 ⟨Nat.le_refl _, Nat.le_refl _⟩ (⟨nu3, tm3, ss3, ns3, hR3, ga_r1 (by rw [c4, inB_1 (by omega) c8 c19]; rfl), rfl⟩)

set_option maxHeartbeats 4000000 in
set_option maxRecDepth 100000 in
theorem c_X6_ways (l : Launch) (G : ga_G) (aO : Nat) (aP : Nat) (aW : Nat) (aK : Nat) (aJ : Nat) (aH : Nat) (aB : Nat) (aR : Nat) (aS : Nat) (aQ : Nat) (num : Nat) (tm : Bool) (sl : Bool) (ss : Nat → Nat) (ns : Nat → Nat) (aF : Nat) (aT : Nat) (aC : Nat) (aL : Nat) (n : Nat) (k : Nat) (li : Nat) (fa : Nat) (fr : Nat → Nat) (to : Nat → Nat) (ct : Nat → Nat) (hF : Flow n k fr to ct) (hRI : sl = false → Rep to (WL n k fr to) num tm ss ns) : ga_M l G yX6_ways cX6_ways 1 (Option.some Jvm.ClassFile.FieldType.int) 16 419 0 0 [.ref aO] [(aO, .inr (6, [.ref aP, .ref aW, .ref aK, .ref aJ, .ref aH, .ref aB, .ref aR])), (aW, .inr (3, [.ref aS, .ref aQ, .int (nI num), .int (bI tm), .int (bI sl)])), (aS, .inl (G.2.2, 200, .inl (aN ss))), (aQ, .inl (G.2.2, 200, .inl (aN ns))), (aP, .inr (1, [.ref aF, .ref aT, .ref aC, .ref aL, .int (nI n), .int (nI k), .int (nI li), .int (nI fa)])), (aF, .inl (G.2.2, 16, .inl (aN fr))), (aT, .inl (G.2.2, 16, .inl (aN to)))] (fun r w => ∃ (num2 : Nat), ∃ (tm2 : Bool), ∃ (ss2 : Nat → Nat), ∃ (ns2 : Nat → Nat), (Rep to (WL n k fr to) num2 tm2 ss2 ns2) ∧ r = some (.int (sWays (WL n k fr to))) ∧ w = [(aO, .inr (6, [.ref aP, .ref aW, .ref aK, .ref aJ, .ref aH, .ref aB, .ref aR])), (aW, .inr (3, [.ref aS, .ref aQ, .int (nI num2), .int (bI tm2), .int (bI false)])), (aS, .inl (G.2.2, 200, .inl (aN ss2))), (aQ, .inl (G.2.2, 200, .inl (aN ns2))), (aP, .inr (1, [.ref aF, .ref aT, .ref aC, .ref aL, .int (nI n), .int (nI k), .int (nI li), .int (nI fa)])), (aF, .inl (G.2.2, 16, .inl (aN fr))), (aT, .inl (G.2.2, 16, .inl (aN to)))]) := by
  refine ga_M.intro (by decide) (Nat.le_of_ble_eq_true rfl) (fun p_ e_ s_ m_ below meth c_ A_ H_ locs_ ls cx hr hlk hnm hA hK hl w => ?_)
  have hx := cx.1
  have hb := cx.2.1
  have hl : lv_has ls 1 [(0, .ref aO)] := hl
  refine lv_aload_n hx hb dX6_ways_0 rfl (lv_at hl 0 rfl) ?_
  refine ga_callV (rest := []) (wr := []) cx hK hA w hl lk_X6_102 (c_X6_tooMany l G aO aP aW aK aJ aH aB aR aS aQ num tm sl ss ns aF aT aC aL n k li fa fr to ct (hF) (hRI)) ⟨Nat.le_of_ble_eq_true rfl, Nat.le_of_ble_eq_true rfl⟩ [0, 1, 2, 3, 4, 5, 6] [] rfl rfl (by decide) (by decide) (by decide) 0 6 rfl rfl rfl rfl (Nat.le_of_ble_eq_true rfl) dX6_ways_1 ⟨Nat.le_refl _, Nat.le_refl _⟩ rfl (fun r w1_ H_ locs_ hp w => ?_)
  obtain ⟨nu3, tm3, ss3, ns3, hR3, rfl, rfl⟩ := hp
  have w : ga_wd G A_ s_ H_ locs_ [(aO, .inr (6, [.ref aP, .ref aW, .ref aK, .ref aJ, .ref aH, .ref aB, .ref aR])), (aW, .inr (3, [.ref aS, .ref aQ, .int (nI nu3), .int (bI tm3), .int (bI false)])), (aS, .inl (G.2.2, 200, .inl (aN ss3))), (aQ, .inl (G.2.2, 200, .inl (aN ns3))), (aP, .inr (1, [.ref aF, .ref aT, .ref aC, .ref aL, .int (nI n), .int (nI k), .int (nI li), .int (nI fa)])), (aF, .inl (G.2.2, 16, .inl (aN fr))), (aT, .inl (G.2.2, 16, .inl (aN to)))] := ga_perm w [0, 1, 2, 3, 4, 5, 6] (by decide) rfl
  refine W.eq (g2 := F0 m_ 4 ls [.int (bI tm3)]) rfl ?_
  have hr3 := Rep_f hR3
  refine r_ifb_eq hx hb dX6_ways_4 (tgt := 12) (by decide) (fun c4 => ?_) (fun c4 => ?_)
  · have htm : ¬ 200 < (WL n k fr to).length := of_decide_eq_false (by rw [← hr3.2.1]; exact c4)
    have hnc := hr3.2.2.1 c4
    refine lv_aload_n hx hb dX6_ways_12 rfl (lv_at hl 0 rfl) ?_
    refine gf_X6_19 cx hK w 0 rfl rfl dX6_ways_13 ?_
    refine gf_X6_106 cx hK w 1 rfl rfl dX6_ways_16 ?_
    exact ga_iret cx hr hlk w dX6_ways_19 ⟨Nat.le_refl _, Nat.le_refl _⟩ (⟨nu3, tm3, ss3, ns3, hR3, ga_rv (by rw [sWays, if_neg htm, hnc]), rfl⟩)
  · have htm : 200 < (WL n k fr to).length := of_decide_eq_true (by rw [← hr3.2.1]; exact c4)
    refine lv_bipush (v := (-2)) hx hb dX6_ways_7 (by decide) ?_
    refine lv_goto (tgt := 19) hx hb dX6_ways_9 (by decide) ?_
    exact ga_iret cx hr hlk w dX6_ways_19 ⟨Nat.le_refl _, Nat.le_refl _⟩ (⟨nu3, tm3, ss3, ns3, hR3, ga_rv (by rw [sWays, if_pos htm]), rfl⟩)

set_option maxHeartbeats 4000000 in
set_option maxRecDepth 100000 in
theorem c_X6_way (l : Launch) (G : ga_G) (aO : Nat) (aP : Nat) (aW : Nat) (aK : Nat) (aJ : Nat) (aH : Nat) (aB : Nat) (aR : Nat) (aS : Nat) (aQ : Nat) (num : Nat) (tm : Bool) (sl : Bool) (ss : Nat → Nat) (ns : Nat → Nat) (aF : Nat) (aT : Nat) (aC : Nat) (aL : Nat) (n : Nat) (k : Nat) (li : Nat) (fa : Nat) (fr : Nat → Nat) (to : Nat → Nat) (ct : Nat → Nat) (lv : Nat → Nat) (v : Int32) (x : Int32) (hF : Flow n k fr to ct) (hRI : sl = false → Rep to (WL n k fr to) num tm ss ns) (hLv : Leav k fr lv) : ga_M l G yX6_way cX6_way 3 (Option.some Jvm.ClassFile.FieldType.int) 17 440 0 0 [.ref aO, .int v, .int x] [(aO, .inr (6, [.ref aP, .ref aW, .ref aK, .ref aJ, .ref aH, .ref aB, .ref aR])), (aW, .inr (3, [.ref aS, .ref aQ, .int (nI num), .int (bI tm), .int (bI sl)])), (aS, .inl (G.2.2, 200, .inl (aN ss))), (aQ, .inl (G.2.2, 200, .inl (aN ns))), (aP, .inr (1, [.ref aF, .ref aT, .ref aC, .ref aL, .int (nI n), .int (nI k), .int (nI li), .int (nI fa)])), (aF, .inl (G.2.2, 16, .inl (aN fr))), (aT, .inl (G.2.2, 16, .inl (aN to))), (aL, .inl (G.2.2, 12, .inl (aN lv)))] (fun r w => ∃ (num2 : Nat), ∃ (tm2 : Bool), ∃ (ss2 : Nat → Nat), ∃ (ns2 : Nat → Nat), (Rep to (WL n k fr to) num2 tm2 ss2 ns2) ∧ r = some (.int (sWay (WL n k fr to) v x)) ∧ w = [(aO, .inr (6, [.ref aP, .ref aW, .ref aK, .ref aJ, .ref aH, .ref aB, .ref aR])), (aW, .inr (3, [.ref aS, .ref aQ, .int (nI num2), .int (bI tm2), .int (bI false)])), (aS, .inl (G.2.2, 200, .inl (aN ss2))), (aQ, .inl (G.2.2, 200, .inl (aN ns2))), (aP, .inr (1, [.ref aF, .ref aT, .ref aC, .ref aL, .int (nI n), .int (nI k), .int (nI li), .int (nI fa)])), (aF, .inl (G.2.2, 16, .inl (aN fr))), (aT, .inl (G.2.2, 16, .inl (aN to))), (aL, .inl (G.2.2, 12, .inl (aN lv)))]) := by
  refine ga_M.intro (by decide) (Nat.le_of_ble_eq_true rfl) (fun p_ e_ s_ m_ below meth c_ A_ H_ locs_ ls cx hr hlk hnm hA hK hl w => ?_)
  have hx := cx.1
  have hb := cx.2.1
  have hl : lv_has ls 3 [(0, .ref aO), (1, .int v), (2, .int x)] := hl
  refine lv_aload_n hx hb dX6_way_0 rfl (lv_at hl 0 rfl) ?_
  refine lv_iload_n hx hb dX6_way_1 rfl (lv_at hl 1 rfl) ?_
  refine ga_callV (rest := []) (wr := [(aL, .inl (G.2.2, 12, .inl (aN lv)))]) cx hK hA w hl lk_X6_109 (c_X6_hasWay l G aO aP aW aK aJ aH aB aR aS aQ num tm sl ss ns aF aT aC aL n k li fa fr to ct v (hF) (hRI)) ⟨Nat.le_of_ble_eq_true rfl, Nat.le_of_ble_eq_true rfl⟩ [0, 1, 2, 3, 4, 5, 6] [7] rfl rfl (by decide) (by decide) (by decide) 0 6 rfl rfl rfl rfl (Nat.le_of_ble_eq_true rfl) dX6_way_2 ⟨Nat.le_refl _, Nat.le_refl _⟩ rfl (fun r w1_ H_ locs_ hp w => ?_)
  obtain ⟨nu3, tm3, ss3, ns3, hR3, rfl, rfl⟩ := hp
  have w : ga_wd G A_ s_ H_ locs_ [(aO, .inr (6, [.ref aP, .ref aW, .ref aK, .ref aJ, .ref aH, .ref aB, .ref aR])), (aW, .inr (3, [.ref aS, .ref aQ, .int (nI nu3), .int (bI tm3), .int (bI false)])), (aS, .inl (G.2.2, 200, .inl (aN ss3))), (aQ, .inl (G.2.2, 200, .inl (aN ns3))), (aP, .inr (1, [.ref aF, .ref aT, .ref aC, .ref aL, .int (nI n), .int (nI k), .int (nI li), .int (nI fa)])), (aF, .inl (G.2.2, 16, .inl (aN fr))), (aT, .inl (G.2.2, 16, .inl (aN to))), (aL, .inl (G.2.2, 12, .inl (aN lv)))] := ga_perm w [1, 2, 3, 4, 5, 6, 7, 0] (by decide) rfl
  refine W.eq (g2 := F0 m_ 5 ls [.int (bI (!tm3 && inB v nu3))]) rfl ?_
  have hr3 := Rep_f hR3
  refine r_ifb_eq hx hb dX6_way_5 (tgt := 28) (by decide) (fun c5 => ?_) (fun c5 => ?_)
  · have hwf : 200 < (WL n k fr to).length ∨ inB v (WL n k fr to).length = false := by
      cases htm3 : tm3
      · right; rw [htm3] at c5; rw [← hr3.2.2.1 htm3]; simpa using c5
      · left; rw [htm3] at hr3; exact of_decide_eq_true hr3.2.1.symm
    refine lv_iconst (v := (-1)) hx hb dX6_way_28 (by decide) ?_
    exact ga_iret cx hr hlk w dX6_way_29 ⟨Nat.le_refl _, Nat.le_refl _⟩ (⟨nu3, tm3, ss3, ns3, hR3, ga_rv (by rw [sWay]; rcases hwf with h | h; rw [if_pos h]; (split; rfl; rw [h]; rfl)), rfl⟩)
  · have hwt : tm3 = false ∧ inB v nu3 = true := by rw [Bool.and_eq_true, Bool.not_eq_true'] at c5; exact c5
    have hnc := hr3.2.2.1 hwt.1
    have htm : ¬ 200 < (WL n k fr to).length := of_decide_eq_false (by rw [← hr3.2.1]; exact hwt.1)
    have hiw : inB v (WL n k fr to).length = true := by rw [← hnc]; exact hwt.2
    obtain ⟨j, hj, rfl⟩ := inB_of (by omega) hwt.2
    have hsj := (hr3.2.2.2.2 j hj).1
    have hpj := WL_pth hF (getD_mem (W := WL n k fr to) (i := j) (by omega))
    have hsl := sS_lt16 hF (i := j) (by omega)
    refine lv_aload_n hx hb dX6_way_8 rfl (lv_at hl 0 rfl) ?_
    refine gf_X6_12 cx hK w 0 rfl rfl dX6_way_9 ?_
    refine lv_aload_n hx hb dX6_way_12 rfl (lv_at hl 0 rfl) ?_
    refine gf_X6_19 cx hK w 0 rfl rfl dX6_way_13 ?_
    refine gf_X6_112 cx hK w 1 rfl rfl dX6_way_16 ?_
    refine lv_iload_n hx hb dX6_way_19 rfl (lv_at hl 1 rfl) ?_
    refine r_ialdN hx hb hK w 2 rfl dX6_way_20 (by omega) (by decide) ?_
    refine lv_iload_n hx hb dX6_way_21 rfl (lv_at hl 2 rfl) ?_
    refine ga_callV (rest := []) (wr := [(aO, .inr (6, [.ref aP, .ref aW, .ref aK, .ref aJ, .ref aH, .ref aB, .ref aR])), (aW, .inr (3, [.ref aS, .ref aQ, .int (nI nu3), .int (bI tm3), .int (bI false)])), (aS, .inl (G.2.2, 200, .inl (aN ss3))), (aQ, .inl (G.2.2, 200, .inl (aN ns3))), (aF, .inl (G.2.2, 16, .inl (aN fr))), (aT, .inl (G.2.2, 16, .inl (aN to)))]) cx hK hA w hl lk_X6_115 (c_X1_stepAt l G aP aF aT aC aL n k li fa lv (ss3 j) x (hF.2.1) (by rw [hsj]; exact hsl)) ⟨Nat.le_of_ble_eq_true rfl, Nat.le_of_ble_eq_true rfl⟩ [4, 7] [0, 1, 2, 3, 5, 6] rfl rfl (by decide) (by decide) (by decide) 4 1 rfl rfl rfl rfl (Nat.le_of_ble_eq_true rfl) dX6_way_22 ⟨Nat.le_refl _, Nat.le_refl _⟩ rfl (fun r w1_ H_ locs_ hp w => ?_)
    obtain ⟨rfl, rfl⟩ := hp
    have w : ga_wd G A_ s_ H_ locs_ [(aO, .inr (6, [.ref aP, .ref aW, .ref aK, .ref aJ, .ref aH, .ref aB, .ref aR])), (aW, .inr (3, [.ref aS, .ref aQ, .int (nI nu3), .int (bI tm3), .int (bI false)])), (aS, .inl (G.2.2, 200, .inl (aN ss3))), (aQ, .inl (G.2.2, 200, .inl (aN ns3))), (aP, .inr (1, [.ref aF, .ref aT, .ref aC, .ref aL, .int (nI n), .int (nI k), .int (nI li), .int (nI fa)])), (aF, .inl (G.2.2, 16, .inl (aN fr))), (aT, .inl (G.2.2, 16, .inl (aN to))), (aL, .inl (G.2.2, 12, .inl (aN lv)))] := ga_perm w [0, 1, 2, 3, 6, 4, 5, 7] (by decide) rfl
    refine W.eq (g2 := F0 m_ 25 ls [.int (nth ((fl (fun v => decide ((ss3 j) &&& lv v ≠ 0)) n).map (fun v => nth ((fl (Nat.testBit ((ss3 j) &&& lv v)) 16).map nI) 0)) x)]) rfl ?_
    refine lv_goto (tgt := 29) hx hb dX6_way_25 (by decide) ?_
    exact ga_iret cx hr hlk w dX6_way_29 ⟨Nat.le_refl _, Nat.le_refl _⟩ (⟨nu3, tm3, ss3, ns3, hR3, ga_rv (by rw [sWay, if_neg htm, if_pos hiw, nI_clamp (by omega), hsj]; exact congrArg (fun l => nth l x) (pth_way hF hLv hpj)), rfl⟩)

set_option maxHeartbeats 4000000 in
set_option maxRecDepth 100000 in
theorem c_X6_log (l : Launch) (G : ga_G) (aO : Nat) (aP : Nat) (aW : Nat) (aK : Nat) (aJ : Nat) (aH : Nat) (aB : Nat) (aR : Nat) (aS : Nat) (aQ : Nat) (num : Nat) (tm : Bool) (sl : Bool) (ss : Nat → Nat) (ns : Nat → Nat) (aF : Nat) (aT : Nat) (aC : Nat) (aL : Nat) (n : Nat) (k : Nat) (li : Nat) (fa : Nat) (fr : Nat → Nat) (to : Nat → Nat) (ct : Nat → Nat) (lv : Nat → Nat) (v : Int32) (x : Int32) (hF : Flow n k fr to ct) (hRI : sl = false → Rep to (WL n k fr to) num tm ss ns) (hLv : Leav k fr lv) : ga_M l G yX6_log cX6_log 3 (Option.some Jvm.ClassFile.FieldType.int) 17 440 0 0 [.ref aO, .int v, .int x] [(aO, .inr (6, [.ref aP, .ref aW, .ref aK, .ref aJ, .ref aH, .ref aB, .ref aR])), (aW, .inr (3, [.ref aS, .ref aQ, .int (nI num), .int (bI tm), .int (bI sl)])), (aS, .inl (G.2.2, 200, .inl (aN ss))), (aQ, .inl (G.2.2, 200, .inl (aN ns))), (aP, .inr (1, [.ref aF, .ref aT, .ref aC, .ref aL, .int (nI n), .int (nI k), .int (nI li), .int (nI fa)])), (aF, .inl (G.2.2, 16, .inl (aN fr))), (aT, .inl (G.2.2, 16, .inl (aN to))), (aL, .inl (G.2.2, 12, .inl (aN lv)))] (fun r w => ∃ (num2 : Nat), ∃ (tm2 : Bool), ∃ (ss2 : Nat → Nat), ∃ (ns2 : Nat → Nat), (Rep to (WL n k fr to) num2 tm2 ss2 ns2) ∧ r = some (.int (sLog (WL n k fr to) li v x)) ∧ w = [(aO, .inr (6, [.ref aP, .ref aW, .ref aK, .ref aJ, .ref aH, .ref aB, .ref aR])), (aW, .inr (3, [.ref aS, .ref aQ, .int (nI num2), .int (bI tm2), .int (bI false)])), (aS, .inl (G.2.2, 200, .inl (aN ss2))), (aQ, .inl (G.2.2, 200, .inl (aN ns2))), (aP, .inr (1, [.ref aF, .ref aT, .ref aC, .ref aL, .int (nI n), .int (nI k), .int (nI li), .int (nI fa)])), (aF, .inl (G.2.2, 16, .inl (aN fr))), (aT, .inl (G.2.2, 16, .inl (aN to))), (aL, .inl (G.2.2, 12, .inl (aN lv)))]) := by
  refine ga_M.intro (by decide) (Nat.le_of_ble_eq_true rfl) (fun p_ e_ s_ m_ below meth c_ A_ H_ locs_ ls cx hr hlk hnm hA hK hl w => ?_)
  have hx := cx.1
  have hb := cx.2.1
  have hl : lv_has ls 3 [(0, .ref aO), (1, .int v), (2, .int x)] := hl
  refine lv_aload_n hx hb dX6_log_0 rfl (lv_at hl 0 rfl) ?_
  refine lv_iload_n hx hb dX6_log_1 rfl (lv_at hl 1 rfl) ?_
  refine ga_callV (rest := []) (wr := [(aL, .inl (G.2.2, 12, .inl (aN lv)))]) cx hK hA w hl lk_X6_109 (c_X6_hasWay l G aO aP aW aK aJ aH aB aR aS aQ num tm sl ss ns aF aT aC aL n k li fa fr to ct v (hF) (hRI)) ⟨Nat.le_of_ble_eq_true rfl, Nat.le_of_ble_eq_true rfl⟩ [0, 1, 2, 3, 4, 5, 6] [7] rfl rfl (by decide) (by decide) (by decide) 0 6 rfl rfl rfl rfl (Nat.le_of_ble_eq_true rfl) dX6_log_2 ⟨Nat.le_refl _, Nat.le_refl _⟩ rfl (fun r w1_ H_ locs_ hp w => ?_)
  obtain ⟨nu3, tm3, ss3, ns3, hR3, rfl, rfl⟩ := hp
  have w : ga_wd G A_ s_ H_ locs_ [(aO, .inr (6, [.ref aP, .ref aW, .ref aK, .ref aJ, .ref aH, .ref aB, .ref aR])), (aW, .inr (3, [.ref aS, .ref aQ, .int (nI nu3), .int (bI tm3), .int (bI false)])), (aS, .inl (G.2.2, 200, .inl (aN ss3))), (aQ, .inl (G.2.2, 200, .inl (aN ns3))), (aP, .inr (1, [.ref aF, .ref aT, .ref aC, .ref aL, .int (nI n), .int (nI k), .int (nI li), .int (nI fa)])), (aF, .inl (G.2.2, 16, .inl (aN fr))), (aT, .inl (G.2.2, 16, .inl (aN to))), (aL, .inl (G.2.2, 12, .inl (aN lv)))] := ga_perm w [1, 2, 3, 4, 5, 6, 7, 0] (by decide) rfl
  refine W.eq (g2 := F0 m_ 5 ls [.int (bI (!tm3 && inB v nu3))]) rfl ?_
  have hr3 := Rep_f hR3
  refine r_ifb_eq hx hb dX6_log_5 (tgt := 36) (by decide) (fun c5 => ?_) (fun c5 => ?_)
  · have hwf : 200 < (WL n k fr to).length ∨ inB v (WL n k fr to).length = false := by
      cases htm3 : tm3
      · right; rw [htm3] at c5; rw [← hr3.2.2.1 htm3]; simpa using c5
      · left; rw [htm3] at hr3; exact of_decide_eq_true hr3.2.1.symm
    refine lv_iconst (v := (-1)) hx hb dX6_log_36 (by decide) ?_
    exact ga_iret cx hr hlk w dX6_log_37 ⟨Nat.le_refl _, Nat.le_refl _⟩ (⟨nu3, tm3, ss3, ns3, hR3, ga_rv (by rw [sLog]; rcases hwf with h | h; rw [if_pos h]; (split; rfl; rw [h]; rfl)), rfl⟩)
  · have hwt : tm3 = false ∧ inB v nu3 = true := by rw [Bool.and_eq_true, Bool.not_eq_true'] at c5; exact c5
    have hnc := hr3.2.2.1 hwt.1
    have htm : ¬ 200 < (WL n k fr to).length := of_decide_eq_false (by rw [← hr3.2.1]; exact hwt.1)
    have hiw : inB v (WL n k fr to).length = true := by rw [← hnc]; exact hwt.2
    obtain ⟨j, hj, rfl⟩ := inB_of (by omega) hwt.2
    have hsj := (hr3.2.2.2.2 j hj).1
    have hpj := WL_pth hF (getD_mem (W := WL n k fr to) (i := j) (by omega))
    have hsl := sS_lt16 hF (i := j) (by omega)
    refine lv_aload_n hx hb dX6_log_8 rfl (lv_at hl 0 rfl) ?_
    refine gf_X6_12 cx hK w 0 rfl rfl dX6_log_9 ?_
    refine lv_aload_n hx hb dX6_log_12 rfl (lv_at hl 0 rfl) ?_
    refine gf_X6_19 cx hK w 0 rfl rfl dX6_log_13 ?_
    refine gf_X6_112 cx hK w 1 rfl rfl dX6_log_16 ?_
    refine lv_iload_n hx hb dX6_log_19 rfl (lv_at hl 1 rfl) ?_
    refine r_ialdN hx hb hK w 2 rfl dX6_log_20 (by omega) (by decide) ?_
    refine lv_aload_n hx hb dX6_log_21 rfl (lv_at hl 0 rfl) ?_
    refine gf_X6_12 cx hK w 0 rfl rfl dX6_log_22 ?_
    refine gf_X6_88 cx hK w 4 rfl rfl dX6_log_25 ?_
    refine r_iand hx hb dX6_log_28 ?_
    refine lv_iload_n hx hb dX6_log_29 rfl (lv_at hl 2 rfl) ?_
    refine ga_callV (rest := []) (wr := [(aO, .inr (6, [.ref aP, .ref aW, .ref aK, .ref aJ, .ref aH, .ref aB, .ref aR])), (aW, .inr (3, [.ref aS, .ref aQ, .int (nI nu3), .int (bI tm3), .int (bI false)])), (aS, .inl (G.2.2, 200, .inl (aN ss3))), (aQ, .inl (G.2.2, 200, .inl (aN ns3))), (aF, .inl (G.2.2, 16, .inl (aN fr))), (aT, .inl (G.2.2, 16, .inl (aN to)))]) cx hK hA w hl lk_X6_115 (c_X1_stepAt l G aP aF aT aC aL n k li fa lv ((ss3 j) &&& li) x (hF.2.1) (andL_lt (by rw [hsj]; exact hsl))) ⟨Nat.le_of_ble_eq_true rfl, Nat.le_of_ble_eq_true rfl⟩ [4, 7] [0, 1, 2, 3, 5, 6] rfl rfl (by decide) (by decide) (by decide) 4 1 rfl rfl rfl rfl (Nat.le_of_ble_eq_true rfl) dX6_log_30 ⟨Nat.le_refl _, Nat.le_refl _⟩ rfl (fun r w1_ H_ locs_ hp w => ?_)
    obtain ⟨rfl, rfl⟩ := hp
    have w : ga_wd G A_ s_ H_ locs_ [(aO, .inr (6, [.ref aP, .ref aW, .ref aK, .ref aJ, .ref aH, .ref aB, .ref aR])), (aW, .inr (3, [.ref aS, .ref aQ, .int (nI nu3), .int (bI tm3), .int (bI false)])), (aS, .inl (G.2.2, 200, .inl (aN ss3))), (aQ, .inl (G.2.2, 200, .inl (aN ns3))), (aP, .inr (1, [.ref aF, .ref aT, .ref aC, .ref aL, .int (nI n), .int (nI k), .int (nI li), .int (nI fa)])), (aF, .inl (G.2.2, 16, .inl (aN fr))), (aT, .inl (G.2.2, 16, .inl (aN to))), (aL, .inl (G.2.2, 12, .inl (aN lv)))] := ga_perm w [0, 1, 2, 3, 6, 4, 5, 7] (by decide) rfl
    refine W.eq (g2 := F0 m_ 33 ls [.int (nth ((fl (fun v => decide (((ss3 j) &&& li) &&& lv v ≠ 0)) n).map (fun v => nth ((fl (Nat.testBit (((ss3 j) &&& li) &&& lv v)) 16).map nI) 0)) x)]) rfl ?_
    refine lv_goto (tgt := 37) hx hb dX6_log_33 (by decide) ?_
    exact ga_iret cx hr hlk w dX6_log_37 ⟨Nat.le_refl _, Nat.le_refl _⟩ (⟨nu3, tm3, ss3, ns3, hR3, ga_rv (by rw [sLog, if_neg htm, if_pos hiw, nI_clamp (by omega), hsj]; exact congrArg (fun l => nth l x) (pth_row hF hLv hpj li)), rfl⟩)

set_option maxHeartbeats 4000000 in
set_option maxRecDepth 100000 in
theorem c_X6_heap (l : Launch) (G : ga_G) (aO : Nat) (aP : Nat) (aW : Nat) (aK : Nat) (aJ : Nat) (aH : Nat) (aB : Nat) (aR : Nat) (aS : Nat) (aQ : Nat) (num : Nat) (tm : Bool) (sl : Bool) (ss : Nat → Nat) (ns : Nat → Nat) (aF : Nat) (aT : Nat) (aC : Nat) (aL : Nat) (n : Nat) (k : Nat) (li : Nat) (fa : Nat) (fr : Nat → Nat) (to : Nat → Nat) (ct : Nat → Nat) (v : Int32) (hF : Flow n k fr to ct) (hRI : sl = false → Rep to (WL n k fr to) num tm ss ns) : ga_M l G yX6_heap cX6_heap 2 (Option.some Jvm.ClassFile.FieldType.int) 17 440 0 0 [.ref aO, .int v] [(aO, .inr (6, [.ref aP, .ref aW, .ref aK, .ref aJ, .ref aH, .ref aB, .ref aR])), (aW, .inr (3, [.ref aS, .ref aQ, .int (nI num), .int (bI tm), .int (bI sl)])), (aS, .inl (G.2.2, 200, .inl (aN ss))), (aQ, .inl (G.2.2, 200, .inl (aN ns))), (aP, .inr (1, [.ref aF, .ref aT, .ref aC, .ref aL, .int (nI n), .int (nI k), .int (nI li), .int (nI fa)])), (aF, .inl (G.2.2, 16, .inl (aN fr))), (aT, .inl (G.2.2, 16, .inl (aN to)))] (fun r w => ∃ (num2 : Nat), ∃ (tm2 : Bool), ∃ (ss2 : Nat → Nat), ∃ (ns2 : Nat → Nat), (Rep to (WL n k fr to) num2 tm2 ss2 ns2) ∧ r = some (.int (sHeap (WL n k fr to) li v)) ∧ w = [(aO, .inr (6, [.ref aP, .ref aW, .ref aK, .ref aJ, .ref aH, .ref aB, .ref aR])), (aW, .inr (3, [.ref aS, .ref aQ, .int (nI num2), .int (bI tm2), .int (bI false)])), (aS, .inl (G.2.2, 200, .inl (aN ss2))), (aQ, .inl (G.2.2, 200, .inl (aN ns2))), (aP, .inr (1, [.ref aF, .ref aT, .ref aC, .ref aL, .int (nI n), .int (nI k), .int (nI li), .int (nI fa)])), (aF, .inl (G.2.2, 16, .inl (aN fr))), (aT, .inl (G.2.2, 16, .inl (aN to)))]) := by
  refine ga_M.intro (by decide) (Nat.le_of_ble_eq_true rfl) (fun p_ e_ s_ m_ below meth c_ A_ H_ locs_ ls cx hr hlk hnm hA hK hl w => ?_)
  have hx := cx.1
  have hb := cx.2.1
  have hl : lv_has ls 2 [(0, .ref aO), (1, .int v)] := hl
  refine lv_aload_n hx hb dX6_heap_0 rfl (lv_at hl 0 rfl) ?_
  refine lv_iload_n hx hb dX6_heap_1 rfl (lv_at hl 1 rfl) ?_
  refine ga_callV (rest := []) (wr := []) cx hK hA w hl lk_X6_109 (c_X6_hasWay l G aO aP aW aK aJ aH aB aR aS aQ num tm sl ss ns aF aT aC aL n k li fa fr to ct v (hF) (hRI)) ⟨Nat.le_of_ble_eq_true rfl, Nat.le_of_ble_eq_true rfl⟩ [0, 1, 2, 3, 4, 5, 6] [] rfl rfl (by decide) (by decide) (by decide) 0 6 rfl rfl rfl rfl (Nat.le_of_ble_eq_true rfl) dX6_heap_2 ⟨Nat.le_refl _, Nat.le_refl _⟩ rfl (fun r w1_ H_ locs_ hp w => ?_)
  obtain ⟨nu3, tm3, ss3, ns3, hR3, rfl, rfl⟩ := hp
  have w : ga_wd G A_ s_ H_ locs_ [(aO, .inr (6, [.ref aP, .ref aW, .ref aK, .ref aJ, .ref aH, .ref aB, .ref aR])), (aW, .inr (3, [.ref aS, .ref aQ, .int (nI nu3), .int (bI tm3), .int (bI false)])), (aS, .inl (G.2.2, 200, .inl (aN ss3))), (aQ, .inl (G.2.2, 200, .inl (aN ns3))), (aP, .inr (1, [.ref aF, .ref aT, .ref aC, .ref aL, .int (nI n), .int (nI k), .int (nI li), .int (nI fa)])), (aF, .inl (G.2.2, 16, .inl (aN fr))), (aT, .inl (G.2.2, 16, .inl (aN to)))] := ga_perm w [0, 1, 2, 3, 4, 5, 6] (by decide) rfl
  refine W.eq (g2 := F0 m_ 5 ls [.int (bI (!tm3 && inB v nu3))]) rfl ?_
  have hr3 := Rep_f hR3
  refine r_ifb_eq hx hb dX6_heap_5 (tgt := 26) (by decide) (fun c5 => ?_) (fun c5 => ?_)
  · have hwf : 200 < (WL n k fr to).length ∨ inB v (WL n k fr to).length = false := by
      cases htm3 : tm3
      · right; rw [htm3] at c5; rw [← hr3.2.2.1 htm3]; simpa using c5
      · left; rw [htm3] at hr3; exact of_decide_eq_true hr3.2.1.symm
    refine lv_iconst (v := (-1)) hx hb dX6_heap_26 (by decide) ?_
    exact ga_iret cx hr hlk w dX6_heap_27 ⟨Nat.le_refl _, Nat.le_refl _⟩ (⟨nu3, tm3, ss3, ns3, hR3, ga_rv (by rw [sHeap]; rcases hwf with h | h; rw [if_pos h]; (split; rfl; rw [h]; rfl)), rfl⟩)
  · have hwt : tm3 = false ∧ inB v nu3 = true := by rw [Bool.and_eq_true, Bool.not_eq_true'] at c5; exact c5
    have hnc := hr3.2.2.1 hwt.1
    have htm : ¬ 200 < (WL n k fr to).length := of_decide_eq_false (by rw [← hr3.2.1]; exact hwt.1)
    have hiw : inB v (WL n k fr to).length = true := by rw [← hnc]; exact hwt.2
    obtain ⟨j, hj, rfl⟩ := inB_of (by omega) hwt.2
    have hsj := (hr3.2.2.2.2 j hj).1
    have hpj := WL_pth hF (getD_mem (W := WL n k fr to) (i := j) (by omega))
    have hsl := sS_lt16 hF (i := j) (by omega)
    refine lv_aload_n hx hb dX6_heap_8 rfl (lv_at hl 0 rfl) ?_
    refine gf_X6_19 cx hK w 0 rfl rfl dX6_heap_9 ?_
    refine lv_iload_n hx hb dX6_heap_12 rfl (lv_at hl 1 rfl) ?_
    refine lv_aload_n hx hb dX6_heap_13 rfl (lv_at hl 0 rfl) ?_
    refine gf_X6_12 cx hK w 0 rfl rfl dX6_heap_14 ?_
    refine gf_X6_88 cx hK w 4 rfl rfl dX6_heap_17 ?_
    refine ga_callV (rest := []) (wr := [(aO, .inr (6, [.ref aP, .ref aW, .ref aK, .ref aJ, .ref aH, .ref aB, .ref aR])), (aP, .inr (1, [.ref aF, .ref aT, .ref aC, .ref aL, .int (nI n), .int (nI k), .int (nI li), .int (nI fa)])), (aF, .inl (G.2.2, 16, .inl (aN fr))), (aT, .inl (G.2.2, 16, .inl (aN to)))]) cx hK hA w hl lk_X6_123 (c_X3_firstLike l G aW aS aQ nu3 tm3 false ss3 ns3 j li (by omega) (fun u hu => by rw [(hr3.2.2.2.2 u (by omega)).1]; exact sS_lt16 hF (by omega))) ⟨Nat.le_of_ble_eq_true rfl, Nat.le_of_ble_eq_true rfl⟩ [1, 2, 3] [0, 4, 5, 6] rfl rfl (by decide) (by decide) (by decide) 1 3 rfl rfl rfl rfl (Nat.le_of_ble_eq_true rfl) dX6_heap_20 ⟨Nat.le_refl _, Nat.le_refl _⟩ rfl (fun r w1_ H_ locs_ hp w => ?_)
    obtain ⟨rfl, rfl⟩ := hp
    have w : ga_wd G A_ s_ H_ locs_ [(aO, .inr (6, [.ref aP, .ref aW, .ref aK, .ref aJ, .ref aH, .ref aB, .ref aR])), (aW, .inr (3, [.ref aS, .ref aQ, .int (nI nu3), .int (bI tm3), .int (bI false)])), (aS, .inl (G.2.2, 200, .inl (aN ss3))), (aQ, .inl (G.2.2, 200, .inl (aN ns3))), (aP, .inr (1, [.ref aF, .ref aT, .ref aC, .ref aL, .int (nI n), .int (nI k), .int (nI li), .int (nI fa)])), (aF, .inl (G.2.2, 16, .inl (aN fr))), (aT, .inl (G.2.2, 16, .inl (aN to)))] := ga_perm w [0, 4, 5, 6, 1, 2, 3] (by decide) rfl
    refine W.eq (g2 := F0 m_ 23 ls [.int (nI (lfst (like ss3 li j) j))]) rfl ?_
    refine lv_goto (tgt := 27) hx hb dX6_heap_23 (by decide) ?_
    exact ga_iret cx hr hlk w dX6_heap_27 ⟨Nat.le_refl _, Nat.le_refl _⟩ (⟨nu3, tm3, ss3, ns3, hR3, ga_rv (by rw [sHeap, if_neg htm, if_pos hiw, nI_clamp (by omega)]; refine congrArg nI (lfst_congr (fun u hu => ?_)); unfold like; rw [(hr3.2.2.2.2 u (by omega)).1, hsj]), rfl⟩)

set_option maxHeartbeats 4000000 in
set_option maxRecDepth 100000 in
theorem c_X6_heaps (l : Launch) (G : ga_G) (aO : Nat) (aP : Nat) (aW : Nat) (aK : Nat) (aJ : Nat) (aH : Nat) (aB : Nat) (aR : Nat) (aS : Nat) (aQ : Nat) (num : Nat) (tm : Bool) (sl : Bool) (ss : Nat → Nat) (ns : Nat → Nat) (aF : Nat) (aT : Nat) (aC : Nat) (aL : Nat) (n : Nat) (k : Nat) (li : Nat) (fa : Nat) (fr : Nat → Nat) (to : Nat → Nat) (ct : Nat → Nat) (hF : Flow n k fr to ct) (hRI : sl = false → Rep to (WL n k fr to) num tm ss ns) : ga_M l G yX6_heaps cX6_heaps 1 (Option.some Jvm.ClassFile.FieldType.int) 16 419 0 0 [.ref aO] [(aO, .inr (6, [.ref aP, .ref aW, .ref aK, .ref aJ, .ref aH, .ref aB, .ref aR])), (aW, .inr (3, [.ref aS, .ref aQ, .int (nI num), .int (bI tm), .int (bI sl)])), (aS, .inl (G.2.2, 200, .inl (aN ss))), (aQ, .inl (G.2.2, 200, .inl (aN ns))), (aP, .inr (1, [.ref aF, .ref aT, .ref aC, .ref aL, .int (nI n), .int (nI k), .int (nI li), .int (nI fa)])), (aF, .inl (G.2.2, 16, .inl (aN fr))), (aT, .inl (G.2.2, 16, .inl (aN to)))] (fun r w => ∃ (num2 : Nat), ∃ (tm2 : Bool), ∃ (ss2 : Nat → Nat), ∃ (ns2 : Nat → Nat), (Rep to (WL n k fr to) num2 tm2 ss2 ns2) ∧ r = some (.int (sHeaps (WL n k fr to) li)) ∧ w = [(aO, .inr (6, [.ref aP, .ref aW, .ref aK, .ref aJ, .ref aH, .ref aB, .ref aR])), (aW, .inr (3, [.ref aS, .ref aQ, .int (nI num2), .int (bI tm2), .int (bI false)])), (aS, .inl (G.2.2, 200, .inl (aN ss2))), (aQ, .inl (G.2.2, 200, .inl (aN ns2))), (aP, .inr (1, [.ref aF, .ref aT, .ref aC, .ref aL, .int (nI n), .int (nI k), .int (nI li), .int (nI fa)])), (aF, .inl (G.2.2, 16, .inl (aN fr))), (aT, .inl (G.2.2, 16, .inl (aN to)))]) := by
  refine ga_M.intro (by decide) (Nat.le_of_ble_eq_true rfl) (fun p_ e_ s_ m_ below meth c_ A_ H_ locs_ ls cx hr hlk hnm hA hK hl w => ?_)
  have hx := cx.1
  have hb := cx.2.1
  have hl : lv_has ls 1 [(0, .ref aO)] := hl
  refine lv_aload_n hx hb dX6_heaps_0 rfl (lv_at hl 0 rfl) ?_
  refine ga_callV (rest := []) (wr := []) cx hK hA w hl lk_X6_102 (c_X6_tooMany l G aO aP aW aK aJ aH aB aR aS aQ num tm sl ss ns aF aT aC aL n k li fa fr to ct (hF) (hRI)) ⟨Nat.le_of_ble_eq_true rfl, Nat.le_of_ble_eq_true rfl⟩ [0, 1, 2, 3, 4, 5, 6] [] rfl rfl (by decide) (by decide) (by decide) 0 6 rfl rfl rfl rfl (Nat.le_of_ble_eq_true rfl) dX6_heaps_1 ⟨Nat.le_refl _, Nat.le_refl _⟩ rfl (fun r w1_ H_ locs_ hp w => ?_)
  obtain ⟨nu3, tm3, ss3, ns3, hR3, rfl, rfl⟩ := hp
  have w : ga_wd G A_ s_ H_ locs_ [(aO, .inr (6, [.ref aP, .ref aW, .ref aK, .ref aJ, .ref aH, .ref aB, .ref aR])), (aW, .inr (3, [.ref aS, .ref aQ, .int (nI nu3), .int (bI tm3), .int (bI false)])), (aS, .inl (G.2.2, 200, .inl (aN ss3))), (aQ, .inl (G.2.2, 200, .inl (aN ns3))), (aP, .inr (1, [.ref aF, .ref aT, .ref aC, .ref aL, .int (nI n), .int (nI k), .int (nI li), .int (nI fa)])), (aF, .inl (G.2.2, 16, .inl (aN fr))), (aT, .inl (G.2.2, 16, .inl (aN to)))] := ga_perm w [0, 1, 2, 3, 4, 5, 6] (by decide) rfl
  refine W.eq (g2 := F0 m_ 4 ls [.int (bI tm3)]) rfl ?_
  have hr3 := Rep_f hR3
  refine r_ifb_eq hx hb dX6_heaps_4 (tgt := 12) (by decide) (fun c4 => ?_) (fun c4 => ?_)
  · have htm : ¬ 200 < (WL n k fr to).length := of_decide_eq_false (by rw [← hr3.2.1]; exact c4)
    have hnc := hr3.2.2.1 c4
    refine lv_aload_n hx hb dX6_heaps_12 rfl (lv_at hl 0 rfl) ?_
    refine gf_X6_19 cx hK w 0 rfl rfl dX6_heaps_13 ?_
    refine lv_aload_n hx hb dX6_heaps_16 rfl (lv_at hl 0 rfl) ?_
    refine gf_X6_12 cx hK w 0 rfl rfl dX6_heaps_17 ?_
    refine gf_X6_88 cx hK w 4 rfl rfl dX6_heaps_20 ?_
    refine ga_callV (rest := []) (wr := [(aO, .inr (6, [.ref aP, .ref aW, .ref aK, .ref aJ, .ref aH, .ref aB, .ref aR])), (aP, .inr (1, [.ref aF, .ref aT, .ref aC, .ref aL, .int (nI n), .int (nI k), .int (nI li), .int (nI fa)])), (aF, .inl (G.2.2, 16, .inl (aN fr))), (aT, .inl (G.2.2, 16, .inl (aN to)))]) cx hK hA w hl lk_X6_119 (c_X3_logsUnlike l G aW aS aQ nu3 tm3 false ss3 ns3 li (by omega) (fun u hu => by rw [(hr3.2.2.2.2 u hu).1]; exact sS_lt16 hF (by omega))) ⟨Nat.le_of_ble_eq_true rfl, Nat.le_of_ble_eq_true rfl⟩ [1, 2, 3] [0, 4, 5, 6] rfl rfl (by decide) (by decide) (by decide) 1 3 rfl rfl rfl rfl (Nat.le_of_ble_eq_true rfl) dX6_heaps_23 ⟨Nat.le_refl _, Nat.le_refl _⟩ rfl (fun r w1_ H_ locs_ hp w => ?_)
    obtain ⟨rfl, rfl⟩ := hp
    have w : ga_wd G A_ s_ H_ locs_ [(aO, .inr (6, [.ref aP, .ref aW, .ref aK, .ref aJ, .ref aH, .ref aB, .ref aR])), (aW, .inr (3, [.ref aS, .ref aQ, .int (nI nu3), .int (bI tm3), .int (bI false)])), (aS, .inl (G.2.2, 200, .inl (aN ss3))), (aQ, .inl (G.2.2, 200, .inl (aN ns3))), (aP, .inr (1, [.ref aF, .ref aT, .ref aC, .ref aL, .int (nI n), .int (nI k), .int (nI li), .int (nI fa)])), (aF, .inl (G.2.2, 16, .inl (aN fr))), (aT, .inl (G.2.2, 16, .inl (aN to)))] := ga_perm w [0, 4, 5, 6, 1, 2, 3] (by decide) rfl
    refine W.eq (g2 := F0 m_ 26 ls [.int (nI (hpsN ss3 li nu3))]) rfl ?_
    exact ga_iret cx hr hlk w dX6_heaps_26 ⟨Nat.le_refl _, Nat.le_refl _⟩ (⟨nu3, tm3, ss3, ns3, hR3, ga_rv (by rw [sHeaps, if_neg htm, ← hnc]; exact congrArg nI (hpsN_congr (fun u hu => (hr3.2.2.2.2 u hu).1))), rfl⟩)
  · have htm : 200 < (WL n k fr to).length := of_decide_eq_true (by rw [← hr3.2.1]; exact c4)
    refine lv_bipush (v := (-2)) hx hb dX6_heaps_7 (by decide) ?_
    refine lv_goto (tgt := 26) hx hb dX6_heaps_9 (by decide) ?_
    exact ga_iret cx hr hlk w dX6_heaps_26 ⟨Nat.le_refl _, Nat.le_refl _⟩ (⟨nu3, tm3, ss3, ns3, hR3, ga_rv (by rw [sHeaps, if_pos htm]), rfl⟩)
