theorem i32_n3 {v : Int32} (h : ¬ nI 3 < v) : ¬ nI 4 ≤ v := fun h2 => h (by
  have h1 := Int32.le_iff_toInt_le.mp h2
  rw [nI_toInt (by decide)] at h1
  exact Int32.lt_iff_toInt_lt.mpr (by rw [nI_toInt (by decide)]; omega))
theorem and_all {x k : Nat} (h : x < 2 ^ k) : (2 ^ k - 1) &&& x = x := by
  rw [Nat.and_comm, Nat.and_two_pow_sub_one_eq_mod, Nat.mod_eq_of_lt h]
set_option maxHeartbeats 4000000 in
set_option maxRecDepth 100000 in
theorem c_X6_useless (l : Launch) (G : ga_G) (aO : Nat) (aP : Nat) (aW : Nat) (aK : Nat) (aJ : Nat) (aH : Nat) (aB : Nat) (aR : Nat) (aS : Nat) (aQ : Nat) (num : Nat) (tm : Bool) (sl : Bool) (ss : Nat → Nat) (ns : Nat → Nat) (aF : Nat) (aT : Nat) (aC : Nat) (aL : Nat) (n : Nat) (k : Nat) (li : Nat) (fa : Nat) (fr : Nat → Nat) (to : Nat → Nat) (ct : Nat → Nat) (x : Int32) (hF : Flow n k fr to ct) (hRI : sl = false → Rep to (WL n k fr to) num tm ss ns) (hli : li < 2 ^ k) : ga_M l G yX6_useless cX6_useless 2 (Option.some Jvm.ClassFile.FieldType.int) 16 419 0 0 [.ref aO, .int x] [(aO, .inr (6, [.ref aP, .ref aW, .ref aK, .ref aJ, .ref aH, .ref aB, .ref aR])), (aW, .inr (3, [.ref aS, .ref aQ, .int (nI num), .int (bI tm), .int (bI sl)])), (aS, .inl (G.2.2, 200, .inl (aN ss))), (aQ, .inl (G.2.2, 200, .inl (aN ns))), (aP, .inr (1, [.ref aF, .ref aT, .ref aC, .ref aL, .int (nI n), .int (nI k), .int (nI li), .int (nI fa)])), (aF, .inl (G.2.2, 16, .inl (aN fr))), (aT, .inl (G.2.2, 16, .inl (aN to)))] (fun r w => ∃ (num2 : Nat), ∃ (tm2 : Bool), ∃ (ss2 : Nat → Nat), ∃ (ns2 : Nat → Nat), (Rep to (WL n k fr to) num2 tm2 ss2 ns2) ∧ r = some (.int (sUse (WL n k fr to) li k x)) ∧ w = [(aO, .inr (6, [.ref aP, .ref aW, .ref aK, .ref aJ, .ref aH, .ref aB, .ref aR])), (aW, .inr (3, [.ref aS, .ref aQ, .int (nI num2), .int (bI tm2), .int (bI false)])), (aS, .inl (G.2.2, 200, .inl (aN ss2))), (aQ, .inl (G.2.2, 200, .inl (aN ns2))), (aP, .inr (1, [.ref aF, .ref aT, .ref aC, .ref aL, .int (nI n), .int (nI k), .int (nI li), .int (nI fa)])), (aF, .inl (G.2.2, 16, .inl (aN fr))), (aT, .inl (G.2.2, 16, .inl (aN to)))]) := by
  refine ga_M.intro (by decide) (Nat.le_of_ble_eq_true rfl) (fun p_ e_ s_ m_ below meth c_ A_ H_ locs_ ls cx hr hlk hnm hA hK hl w => ?_)
  have hx := cx.1
  have hb := cx.2.1
  have hl : lv_has ls 2 [(0, .ref aO), (1, .int x)] := hl
  have hl16 : li < 65536 := Nat.lt_of_lt_of_le hli (Nat.pow_le_pow_right (by decide) hF.2.2.1)
  refine lv_aload_n hx hb dX6_useless_0 rfl (lv_at hl 0 rfl) ?_
  refine ga_callV (rest := []) (wr := []) cx hK hA w hl lk_X6_102 (c_X6_tooMany l G aO aP aW aK aJ aH aB aR aS aQ num tm sl ss ns aF aT aC aL n k li fa fr to ct (hF) (hRI)) ⟨Nat.le_of_ble_eq_true rfl, Nat.le_of_ble_eq_true rfl⟩ [0, 1, 2, 3, 4, 5, 6] [] rfl rfl (by decide) (by decide) (by decide) 0 6 rfl rfl rfl rfl (Nat.le_of_ble_eq_true rfl) dX6_useless_1 ⟨Nat.le_refl _, Nat.le_refl _⟩ rfl (fun r w1_ H_ locs_ hp w => ?_)
  obtain ⟨nu3, tm3, ss3, ns3, hR3, rfl, rfl⟩ := hp
  have w : ga_wd G A_ s_ H_ locs_ [(aO, .inr (6, [.ref aP, .ref aW, .ref aK, .ref aJ, .ref aH, .ref aB, .ref aR])), (aW, .inr (3, [.ref aS, .ref aQ, .int (nI nu3), .int (bI tm3), .int (bI false)])), (aS, .inl (G.2.2, 200, .inl (aN ss3))), (aQ, .inl (G.2.2, 200, .inl (aN ns3))), (aP, .inr (1, [.ref aF, .ref aT, .ref aC, .ref aL, .int (nI n), .int (nI k), .int (nI li), .int (nI fa)])), (aF, .inl (G.2.2, 16, .inl (aN fr))), (aT, .inl (G.2.2, 16, .inl (aN to)))] := ga_perm w [0, 1, 2, 3, 4, 5, 6] (by decide) rfl
  refine W.eq (g2 := F0 m_ 4 ls [.int (bI tm3)]) rfl ?_
  have hr3 := Rep_f hR3
  refine r_ifb_eq hx hb dX6_useless_4 (tgt := 9) (by decide) (fun c4 => ?_) (fun c4 => ?_)
  · have htm : ¬ 200 < (WL n k fr to).length := of_decide_eq_false (by rw [← hr3.2.1]; exact c4)
    have hnc := hr3.2.2.1 c4
    refine lv_aload_n hx hb dX6_useless_9 rfl (lv_at hl 0 rfl) ?_
    refine gf_X6_12 cx hK w 0 rfl rfl dX6_useless_10 ?_
    refine gf_X6_88 cx hK w 4 rfl rfl dX6_useless_13 ?_
    refine lv_aload_n hx hb dX6_useless_16 rfl (lv_at hl 0 rfl) ?_
    refine gf_X6_19 cx hK w 0 rfl rfl dX6_useless_17 ?_
    refine lv_aload_n hx hb dX6_useless_20 rfl (lv_at hl 0 rfl) ?_
    refine gf_X6_12 cx hK w 0 rfl rfl dX6_useless_21 ?_
    refine gf_X6_88 cx hK w 4 rfl rfl dX6_useless_24 ?_
    refine ga_callV (rest := [.int (nI li)]) (wr := [(aO, .inr (6, [.ref aP, .ref aW, .ref aK, .ref aJ, .ref aH, .ref aB, .ref aR])), (aP, .inr (1, [.ref aF, .ref aT, .ref aC, .ref aL, .int (nI n), .int (nI k), .int (nI li), .int (nI fa)])), (aF, .inl (G.2.2, 16, .inl (aN fr))), (aT, .inl (G.2.2, 16, .inl (aN to)))]) cx hK hA w hl lk_X6_150 (c_X3_soleParters l G aW aS aQ nu3 tm3 false ss3 ns3 li (by omega) (hl16) (fun u hu => by rw [(hr3.2.2.2.2 u hu).1]; exact sS_lt16 hF (by omega))) ⟨Nat.le_of_ble_eq_true rfl, Nat.le_of_ble_eq_true rfl⟩ [1, 2, 3] [0, 4, 5, 6] rfl rfl (by decide) (by decide) (by decide) 1 3 rfl rfl rfl rfl (Nat.le_of_ble_eq_true rfl) dX6_useless_27 ⟨Nat.le_refl _, Nat.le_refl _⟩ rfl (fun r w1_ H_ locs_ hp w => ?_)
    obtain ⟨rr3, hrr3, rfl, rfl⟩ := hp
    have w : ga_wd G A_ s_ H_ locs_ [(aO, .inr (6, [.ref aP, .ref aW, .ref aK, .ref aJ, .ref aH, .ref aB, .ref aR])), (aW, .inr (3, [.ref aS, .ref aQ, .int (nI nu3), .int (bI tm3), .int (bI false)])), (aS, .inl (G.2.2, 200, .inl (aN ss3))), (aQ, .inl (G.2.2, 200, .inl (aN ns3))), (aP, .inr (1, [.ref aF, .ref aT, .ref aC, .ref aL, .int (nI n), .int (nI k), .int (nI li), .int (nI fa)])), (aF, .inl (G.2.2, 16, .inl (aN fr))), (aT, .inl (G.2.2, 16, .inl (aN to)))] := ga_perm w [0, 4, 5, 6, 1, 2, 3] (by decide) rfl
    refine W.eq (g2 := F0 m_ 30 ls [.int (nI rr3), .int (nI li)]) rfl ?_
    refine lv_iconst (v := (-1)) hx hb dX6_useless_30 (by decide) ?_
    refine lv_ixor hx hb dX6_useless_31 ?_
    refine lv_iand hx hb dX6_useless_32 ?_
    refine r_topi (y := nI (li &&& (65535 ^^^ rr3))) (nI_andn hl16) ?_
    refine lv_iload_n hx hb dX6_useless_33 rfl (lv_at hl 1 rfl) ?_
    refine ga_callS (rest := []) (wr := [(aO, .inr (6, [.ref aP, .ref aW, .ref aK, .ref aJ, .ref aH, .ref aB, .ref aR])), (aW, .inr (3, [.ref aS, .ref aQ, .int (nI nu3), .int (bI tm3), .int (bI false)])), (aS, .inl (G.2.2, 200, .inl (aN ss3))), (aQ, .inl (G.2.2, 200, .inl (aN ns3))), (aP, .inr (1, [.ref aF, .ref aT, .ref aC, .ref aL, .int (nI n), .int (nI k), .int (nI li), .int (nI fa)])), (aF, .inl (G.2.2, 16, .inl (aN fr))), (aT, .inl (G.2.2, 16, .inl (aN to)))]) cx hK hA w hl lk_X6_153 (c_X6_member l G (li &&& (65535 ^^^ rr3)) x (andL_lt hl16)) ⟨Nat.le_of_ble_eq_true rfl, Nat.le_of_ble_eq_true rfl⟩ [] [0, 1, 2, 3, 4, 5, 6] rfl rfl (by decide) (by decide) (by decide) rfl (Nat.le_of_ble_eq_true rfl) dX6_useless_34 ⟨Nat.le_refl _, Nat.le_refl _⟩ rfl (fun r w1_ H_ locs_ hp w => ?_)
    obtain ⟨rfl, rfl⟩ := hp
    have w : ga_wd G A_ s_ H_ locs_ [(aO, .inr (6, [.ref aP, .ref aW, .ref aK, .ref aJ, .ref aH, .ref aB, .ref aR])), (aW, .inr (3, [.ref aS, .ref aQ, .int (nI nu3), .int (bI tm3), .int (bI false)])), (aS, .inl (G.2.2, 200, .inl (aN ss3))), (aQ, .inl (G.2.2, 200, .inl (aN ns3))), (aP, .inr (1, [.ref aF, .ref aT, .ref aC, .ref aL, .int (nI n), .int (nI k), .int (nI li), .int (nI fa)])), (aF, .inl (G.2.2, 16, .inl (aN fr))), (aT, .inl (G.2.2, 16, .inl (aN to)))] := ga_perm w [0, 1, 2, 3, 4, 5, 6] (by decide) rfl
    refine W.eq (g2 := F0 m_ 37 ls [.int (nth ((fl (Nat.testBit (li &&& (65535 ^^^ rr3))) 16).map nI) x)]) rfl ?_
    exact ga_iret cx hr hlk w dX6_useless_37 ⟨Nat.le_refl _, Nat.le_refl _⟩ (⟨nu3, tm3, ss3, ns3, hR3, ga_rv (by rw [sUse, if_neg htm, use_eq hF.2.2.1 hli hrr3 hnc (fun i hi => (hr3.2.2.2.2 i hi).1)]), rfl⟩)
  · have htm : 200 < (WL n k fr to).length := of_decide_eq_true (by rw [← hr3.2.1]; exact c4)
    refine lv_iconst (v := (-1)) hx hb dX6_useless_7 (by decide) ?_
    exact ga_iret cx hr hlk w dX6_useless_8 ⟨Nat.le_refl _, Nat.le_refl _⟩ (⟨nu3, tm3, ss3, ns3, hR3, ga_rv (by rw [sUse, if_pos htm]), rfl⟩)

set_option maxHeartbeats 4000000 in
set_option maxRecDepth 100000 in
theorem c_X6_why (l : Launch) (G : ga_G) (aO : Nat) (aP : Nat) (aW : Nat) (aK : Nat) (aJ : Nat) (aH : Nat) (aB : Nat) (aR : Nat) (aS : Nat) (aQ : Nat) (num : Nat) (tm : Bool) (sl : Bool) (ss : Nat → Nat) (ns : Nat → Nat) (aF : Nat) (aT : Nat) (aC : Nat) (aL : Nat) (n : Nat) (k : Nat) (li : Nat) (fa : Nat) (fr : Nat → Nat) (to : Nat → Nat) (ct : Nat → Nat) (x : Int32) (y : Int32) (hF : Flow n k fr to ct) (hRI : sl = false → Rep to (WL n k fr to) num tm ss ns) (hli : li < 2 ^ k) : ga_M l G yX6_why cX6_why 4 (Option.some Jvm.ClassFile.FieldType.int) 16 419 0 0 [.ref aO, .int x, .int y] [(aO, .inr (6, [.ref aP, .ref aW, .ref aK, .ref aJ, .ref aH, .ref aB, .ref aR])), (aW, .inr (3, [.ref aS, .ref aQ, .int (nI num), .int (bI tm), .int (bI sl)])), (aS, .inl (G.2.2, 200, .inl (aN ss))), (aQ, .inl (G.2.2, 200, .inl (aN ns))), (aP, .inr (1, [.ref aF, .ref aT, .ref aC, .ref aL, .int (nI n), .int (nI k), .int (nI li), .int (nI fa)])), (aF, .inl (G.2.2, 16, .inl (aN fr))), (aT, .inl (G.2.2, 16, .inl (aN to)))] (fun r w => ∃ (num2 : Nat), ∃ (tm2 : Bool), ∃ (sl2 : Bool), ∃ (ss2 : Nat → Nat), ∃ (ns2 : Nat → Nat), ∃ (rr : Int32), (sl2 = false → Rep to (WL n k fr to) num2 tm2 ss2 ns2) ∧ (WhyR (WL n k fr to) li k x y rr) ∧ r = some (.int rr) ∧ w = [(aO, .inr (6, [.ref aP, .ref aW, .ref aK, .ref aJ, .ref aH, .ref aB, .ref aR])), (aW, .inr (3, [.ref aS, .ref aQ, .int (nI num2), .int (bI tm2), .int (bI sl2)])), (aS, .inl (G.2.2, 200, .inl (aN ss2))), (aQ, .inl (G.2.2, 200, .inl (aN ns2))), (aP, .inr (1, [.ref aF, .ref aT, .ref aC, .ref aL, .int (nI n), .int (nI k), .int (nI li), .int (nI fa)])), (aF, .inl (G.2.2, 16, .inl (aN fr))), (aT, .inl (G.2.2, 16, .inl (aN to)))]) := by
  refine ga_M.intro (by decide) (Nat.le_of_ble_eq_true rfl) (fun p_ e_ s_ m_ below meth c_ A_ H_ locs_ ls cx hr hlk hnm hA hK hl w => ?_)
  have hx := cx.1
  have hb := cx.2.1
  have hl : lv_has ls 4 [(0, .ref aO), (1, .int x), (2, .int y)] := hl
  have hl16 : li < 65536 := Nat.lt_of_lt_of_le hli (Nat.pow_le_pow_right (by decide) hF.2.2.1)
  refine lv_iload_n hx hb dX6_why_0 rfl (lv_at hl 2 rfl) ?_
  refine ga_callS (rest := []) (wr := [(aO, .inr (6, [.ref aP, .ref aW, .ref aK, .ref aJ, .ref aH, .ref aB, .ref aR])), (aW, .inr (3, [.ref aS, .ref aQ, .int (nI num), .int (bI tm), .int (bI sl)])), (aS, .inl (G.2.2, 200, .inl (aN ss))), (aQ, .inl (G.2.2, 200, .inl (aN ns))), (aP, .inr (1, [.ref aF, .ref aT, .ref aC, .ref aL, .int (nI n), .int (nI k), .int (nI li), .int (nI fa)])), (aF, .inl (G.2.2, 16, .inl (aN fr))), (aT, .inl (G.2.2, 16, .inl (aN to)))]) cx hK hA w hl lk_X6_156 (c_X6_isFirstOrOther l G y ) ⟨Nat.le_of_ble_eq_true rfl, Nat.le_of_ble_eq_true rfl⟩ [] [0, 1, 2, 3, 4, 5, 6] rfl rfl (by decide) (by decide) (by decide) rfl (Nat.le_of_ble_eq_true rfl) dX6_why_1 ⟨Nat.le_refl _, Nat.le_refl _⟩ rfl (fun r w1_ H_ locs_ hp w => ?_)
  obtain ⟨rfl, rfl⟩ := hp
  have w : ga_wd G A_ s_ H_ locs_ [(aO, .inr (6, [.ref aP, .ref aW, .ref aK, .ref aJ, .ref aH, .ref aB, .ref aR])), (aW, .inr (3, [.ref aS, .ref aQ, .int (nI num), .int (bI tm), .int (bI sl)])), (aS, .inl (G.2.2, 200, .inl (aN ss))), (aQ, .inl (G.2.2, 200, .inl (aN ns))), (aP, .inr (1, [.ref aF, .ref aT, .ref aC, .ref aL, .int (nI n), .int (nI k), .int (nI li), .int (nI fa)])), (aF, .inl (G.2.2, 16, .inl (aN fr))), (aT, .inl (G.2.2, 16, .inl (aN to)))] := ga_perm w [0, 1, 2, 3, 4, 5, 6] (by decide) rfl
  refine W.eq (g2 := F0 m_ 4 ls [.int (bI (inB y 2))]) rfl ?_
  refine r_ifb_eq hx hb dX6_why_4 (tgt := 39) (by decide) (fun c4 => ?_) (fun c4 => ?_)
  · refine lv_iconst (v := (-1)) hx hb dX6_why_39 (by decide) ?_
    exact ga_iret cx hr hlk w dX6_why_40 ⟨Nat.le_refl _, Nat.le_refl _⟩ (⟨num, tm, sl, ss, ns, -1, hRI, (by unfold WhyR; rw [if_neg (by rintro ⟨z1, z2, z3, z4⟩; rw [c4] at z1; cases z1)]), rfl, rfl⟩)
  · refine lv_aload_n hx hb dX6_why_7 rfl (lv_at hl 0 rfl) ?_
    refine gf_X6_12 cx hK w 0 rfl rfl dX6_why_8 ?_
    refine lv_iload_n hx hb dX6_why_11 rfl (lv_at hl 1 rfl) ?_
    refine ga_callV (rest := []) (wr := [(aO, .inr (6, [.ref aP, .ref aW, .ref aK, .ref aJ, .ref aH, .ref aB, .ref aR])), (aW, .inr (3, [.ref aS, .ref aQ, .int (nI num), .int (bI tm), .int (bI sl)])), (aS, .inl (G.2.2, 200, .inl (aN ss))), (aQ, .inl (G.2.2, 200, .inl (aN ns))), (aF, .inl (G.2.2, 16, .inl (aN fr))), (aT, .inl (G.2.2, 16, .inl (aN to)))]) cx hK hA w hl lk_X6_81 (c_X1_hasStep l G aP aF aT aC aL (nI n) k (nI li) (nI fa) x (by have := hF.2.2.1; omega)) ⟨Nat.le_of_ble_eq_true rfl, Nat.le_of_ble_eq_true rfl⟩ [4] [0, 1, 2, 3, 5, 6] rfl rfl (by decide) (by decide) (by decide) 4 1 rfl rfl rfl rfl (Nat.le_of_ble_eq_true rfl) dX6_why_12 ⟨Nat.le_refl _, Nat.le_refl _⟩ rfl (fun r w1_ H_ locs_ hp w => ?_)
    obtain ⟨rfl, rfl⟩ := hp
    have w : ga_wd G A_ s_ H_ locs_ [(aO, .inr (6, [.ref aP, .ref aW, .ref aK, .ref aJ, .ref aH, .ref aB, .ref aR])), (aW, .inr (3, [.ref aS, .ref aQ, .int (nI num), .int (bI tm), .int (bI sl)])), (aS, .inl (G.2.2, 200, .inl (aN ss))), (aQ, .inl (G.2.2, 200, .inl (aN ns))), (aP, .inr (1, [.ref aF, .ref aT, .ref aC, .ref aL, .int (nI n), .int (nI k), .int (nI li), .int (nI fa)])), (aF, .inl (G.2.2, 16, .inl (aN fr))), (aT, .inl (G.2.2, 16, .inl (aN to)))] := ga_perm w [0, 1, 2, 3, 6, 4, 5] (by decide) rfl
    refine W.eq (g2 := F0 m_ 15 ls [.int (bI (inB x k))]) rfl ?_
    refine r_ifb_eq hx hb dX6_why_15 (tgt := 39) (by decide) (fun c15 => ?_) (fun c15 => ?_)
    · refine lv_iconst (v := (-1)) hx hb dX6_why_39 (by decide) ?_
      exact ga_iret cx hr hlk w dX6_why_40 ⟨Nat.le_refl _, Nat.le_refl _⟩ (⟨num, tm, sl, ss, ns, -1, hRI, (by unfold WhyR; rw [if_neg (by rintro ⟨z1, z2, z3, z4⟩; rw [c15] at z2; cases z2)]), rfl, rfl⟩)
    · have c15j := c15
      have hk16 := hF.2.2.1
      obtain ⟨j, hj, rfl⟩ := inB_of (by omega) c15
      refine lv_aload_n hx hb dX6_why_18 rfl (lv_at hl 0 rfl) ?_
      refine gf_X6_12 cx hK w 0 rfl rfl dX6_why_19 ?_
      refine gf_X6_88 cx hK w 4 rfl rfl dX6_why_22 ?_
      refine lv_iload_n hx hb dX6_why_25 rfl (lv_at hl 1 rfl) ?_
      refine ga_callS (rest := []) (wr := [(aO, .inr (6, [.ref aP, .ref aW, .ref aK, .ref aJ, .ref aH, .ref aB, .ref aR])), (aW, .inr (3, [.ref aS, .ref aQ, .int (nI num), .int (bI tm), .int (bI sl)])), (aS, .inl (G.2.2, 200, .inl (aN ss))), (aQ, .inl (G.2.2, 200, .inl (aN ns))), (aP, .inr (1, [.ref aF, .ref aT, .ref aC, .ref aL, .int (nI n), .int (nI k), .int (nI li), .int (nI fa)])), (aF, .inl (G.2.2, 16, .inl (aN fr))), (aT, .inl (G.2.2, 16, .inl (aN to)))]) cx hK hA w hl lk_X6_91 (c_X6_has l G li j (by omega) (by omega)) ⟨Nat.le_of_ble_eq_true rfl, Nat.le_of_ble_eq_true rfl⟩ [] [0, 1, 2, 3, 4, 5, 6] rfl rfl (by decide) (by decide) (by decide) rfl (Nat.le_of_ble_eq_true rfl) dX6_why_26 ⟨Nat.le_refl _, Nat.le_refl _⟩ rfl (fun r w1_ H_ locs_ hp w => ?_)
      obtain ⟨rfl, rfl⟩ := hp
      have w : ga_wd G A_ s_ H_ locs_ [(aO, .inr (6, [.ref aP, .ref aW, .ref aK, .ref aJ, .ref aH, .ref aB, .ref aR])), (aW, .inr (3, [.ref aS, .ref aQ, .int (nI num), .int (bI tm), .int (bI sl)])), (aS, .inl (G.2.2, 200, .inl (aN ss))), (aQ, .inl (G.2.2, 200, .inl (aN ns))), (aP, .inr (1, [.ref aF, .ref aT, .ref aC, .ref aL, .int (nI n), .int (nI k), .int (nI li), .int (nI fa)])), (aF, .inl (G.2.2, 16, .inl (aN fr))), (aT, .inl (G.2.2, 16, .inl (aN to)))] := ga_perm w [0, 1, 2, 3, 4, 5, 6] (by decide) rfl
      refine W.eq (g2 := F0 m_ 29 ls [.int (bI (Nat.testBit li j))]) rfl ?_
      refine r_ifb_eq hx hb dX6_why_29 (tgt := 39) (by decide) (fun c29 => ?_) (fun c29 => ?_)
      · refine lv_iconst (v := (-1)) hx hb dX6_why_39 (by decide) ?_
        exact ga_iret cx hr hlk w dX6_why_40 ⟨Nat.le_refl _, Nat.le_refl _⟩ (⟨num, tm, sl, ss, ns, -1, hRI, (by unfold WhyR; rw [if_neg (by rintro ⟨z1, z2, z3, z4⟩; rw [nI_clamp (by omega), c29] at z3; cases z3)]), rfl, rfl⟩)
      · refine lv_aload_n hx hb dX6_why_32 rfl (lv_at hl 0 rfl) ?_
        refine ga_callV (rest := []) (wr := []) cx hK hA w hl lk_X6_102 (c_X6_tooMany l G aO aP aW aK aJ aH aB aR aS aQ num tm sl ss ns aF aT aC aL n k li fa fr to ct (hF) (hRI)) ⟨Nat.le_of_ble_eq_true rfl, Nat.le_of_ble_eq_true rfl⟩ [0, 1, 2, 3, 4, 5, 6] [] rfl rfl (by decide) (by decide) (by decide) 0 6 rfl rfl rfl rfl (Nat.le_of_ble_eq_true rfl) dX6_why_33 ⟨Nat.le_refl _, Nat.le_refl _⟩ rfl (fun r w1_ H_ locs_ hp w => ?_)
        obtain ⟨nu3, tm3, ss3, ns3, hR3, rfl, rfl⟩ := hp
        have w : ga_wd G A_ s_ H_ locs_ [(aO, .inr (6, [.ref aP, .ref aW, .ref aK, .ref aJ, .ref aH, .ref aB, .ref aR])), (aW, .inr (3, [.ref aS, .ref aQ, .int (nI nu3), .int (bI tm3), .int (bI false)])), (aS, .inl (G.2.2, 200, .inl (aN ss3))), (aQ, .inl (G.2.2, 200, .inl (aN ns3))), (aP, .inr (1, [.ref aF, .ref aT, .ref aC, .ref aL, .int (nI n), .int (nI k), .int (nI li), .int (nI fa)])), (aF, .inl (G.2.2, 16, .inl (aN fr))), (aT, .inl (G.2.2, 16, .inl (aN to)))] := ga_perm w [0, 1, 2, 3, 4, 5, 6] (by decide) rfl
        refine W.eq (g2 := F0 m_ 36 ls [.int (bI tm3)]) rfl ?_
        have hr3 := Rep_f hR3
        refine r_ifb_eq hx hb dX6_why_36 (tgt := 41) (by decide) (fun c36 => ?_) (fun c36 => ?_)
        · have htm : ¬ 200 < (WL n k fr to).length := of_decide_eq_false (by rw [← hr3.2.1]; exact c36)
          have hnc := hr3.2.2.1 c36
          have hcd : inB y 2 = true ∧ inB (nI j) k = true ∧ Nat.testBit li (nI j).toNatClampNeg = true ∧ ¬ 200 < (WL n k fr to).length := ⟨c4, c15j, by rw [nI_clamp (by omega)]; exact c29, htm⟩
          refine lv_aload_n hx hb dX6_why_41 rfl (lv_at hl 0 rfl) ?_
          refine gf_X6_19 cx hK w 0 rfl rfl dX6_why_42 ?_
          refine lv_iconst (v := nI 1) hx hb dX6_why_45 (by decide) ?_
          refine lv_iload_n hx hb dX6_why_46 rfl (lv_at hl 1 rfl) ?_
          refine r_ishl hx hb dX6_why_47 (by omega) ?_
          refine lv_aload_n hx hb dX6_why_48 rfl (lv_at hl 0 rfl) ?_
          refine gf_X6_12 cx hK w 0 rfl rfl dX6_why_49 ?_
          refine gf_X6_88 cx hK w 4 rfl rfl dX6_why_52 ?_
          refine ga_callV (rest := []) (wr := [(aO, .inr (6, [.ref aP, .ref aW, .ref aK, .ref aJ, .ref aH, .ref aB, .ref aR])), (aP, .inr (1, [.ref aF, .ref aT, .ref aC, .ref aL, .int (nI n), .int (nI k), .int (nI li), .int (nI fa)])), (aF, .inl (G.2.2, 16, .inl (aN fr))), (aT, .inl (G.2.2, 16, .inl (aN to)))]) cx hK hA w hl lk_X6_159 (c_X3_firstPairPartedBy l G aW aS aQ nu3 tm3 false ss3 ns3 (1 <<< j) li (by omega) (one_lt (k := 16) (by omega)) (fun u hu => by rw [(hr3.2.2.2.2 u hu).1]; exact sS_lt16 hF (by omega))) ⟨Nat.le_of_ble_eq_true rfl, Nat.le_of_ble_eq_true rfl⟩ [1, 2, 3] [0, 4, 5, 6] rfl rfl (by decide) (by decide) (by decide) 1 3 rfl rfl rfl rfl (Nat.le_of_ble_eq_true rfl) dX6_why_55 ⟨Nat.le_refl _, Nat.le_refl _⟩ rfl (fun r w1_ H_ locs_ hp w => ?_)
          obtain ⟨fb5, fi5, fj5, hfp5, rfl, rfl⟩ := hp
          have w : ga_wd G A_ s_ H_ locs_ [(aO, .inr (6, [.ref aP, .ref aW, .ref aK, .ref aJ, .ref aH, .ref aB, .ref aR])), (aW, .inr (3, [.ref aS, .ref aQ, .int (nI nu3), .int (bI tm3), .int (bI false)])), (aS, .inl (G.2.2, 200, .inl (aN ss3))), (aQ, .inl (G.2.2, 200, .inl (aN ns3))), (aP, .inr (1, [.ref aF, .ref aT, .ref aC, .ref aL, .int (nI n), .int (nI k), .int (nI li), .int (nI fa)])), (aF, .inl (G.2.2, 16, .inl (aN fr))), (aT, .inl (G.2.2, 16, .inl (aN to)))] := ga_perm w [0, 4, 5, 6, 1, 2, 3] (by decide) rfl
          refine W.eq (g2 := F0 m_ 58 ls [.int (if fb5 then nI (fi5 * 200 + fj5) else -1)]) rfl ?_
          have hfq : FPP (sS (WL n k fr to)) li (1 <<< (nI j).toNatClampNeg) (WL n k fr to).length fb5 fi5 fj5 := by rw [nI_clamp (by omega), ← hnc]; exact FPP_congr (fun u hu => (hr3.2.2.2.2 u hu).1) hfp5
          cases fb5
          · refine r_topi (y := (-1)) rfl ?_
            refine lv_istore_n (lv' := [(3, .int (-1)), (0, .ref aO), (1, .int (nI j)), (2, .int y)]) hx hb dX6_why_58 rfl hl (by decide) rfl (fun ls hl => ?_)
            refine lv_iload_n hx hb dX6_why_59 rfl (lv_at hl 0 rfl) ?_
            refine lv_iconst (v := (-1)) hx hb dX6_why_60 (by decide) ?_
            refine lv_icmp_ne hx hb dX6_why_61 (tgt := 66) (by decide) (fun c61 => ?_) (fun c61 => ?_)
            · exact absurd rfl c61
            · refine lv_iconst (v := (-1)) hx hb dX6_why_64 (by decide) ?_
              exact ga_iret cx hr hlk w dX6_why_65 ⟨Nat.le_refl _, Nat.le_refl _⟩ (⟨nu3, tm3, false, ss3, ns3, -1, fun _ => hR3, (by unfold WhyR; rw [if_pos hcd]; exact ⟨false, fi5, fj5, hfq, rfl⟩), rfl, rfl⟩)
          · refine r_topi (y := nI (fi5 * 200 + fj5)) rfl ?_
            have hfv := FPP_t hfp5
            have hfw : fi5 < 200 ∧ fj5 < 200 := ⟨by omega, by omega⟩
            refine lv_istore_n (lv' := [(3, .int (nI (fi5 * 200 + fj5))), (0, .ref aO), (1, .int (nI j)), (2, .int y)]) hx hb dX6_why_58 rfl hl (by decide) rfl (fun ls hl => ?_)
            refine lv_iload_n hx hb dX6_why_59 rfl (lv_at hl 0 rfl) ?_
            refine lv_iconst (v := (-1)) hx hb dX6_why_60 (by decide) ?_
            refine lv_icmp_ne hx hb dX6_why_61 (tgt := 66) (by decide) (fun c61 => ?_) (fun c61 => ?_)
            · refine lv_iload_n hx hb dX6_why_66 rfl (lv_at hl 3 rfl) ?_
              refine lv_if_ne hx hb dX6_why_67 (tgt := 78) (by decide) (fun c67 => ?_) (fun c67 => ?_)
              · refine lv_iload_n hx hb dX6_why_78 rfl (lv_at hl 0 rfl) ?_
                refine lv_sipush (v := nI 200) hx hb dX6_why_79 (by decide) ?_
                refine lv_irem hx hb dX6_why_82 (by decide) ?_
                refine r_topi (y := nI fj5) (by rw [pk_rem (by omega) (by decide) (by decide)]; exact congrArg nI (by omega)) ?_
                exact ga_iret cx hr hlk w dX6_why_83 ⟨Nat.le_refl _, Nat.le_refl _⟩ (⟨nu3, tm3, false, ss3, ns3, _, fun _ => hR3, (by unfold WhyR; rw [if_pos hcd]; exact ⟨true, fi5, fj5, hfq, by rw [if_pos rfl, if_neg c67]⟩), rfl, rfl⟩)
              · refine lv_iload_n hx hb dX6_why_70 rfl (lv_at hl 0 rfl) ?_
                refine lv_sipush (v := nI 200) hx hb dX6_why_71 (by decide) ?_
                refine lv_idiv hx hb dX6_why_74 (by decide) ?_
                refine lv_goto (tgt := 83) hx hb dX6_why_75 (by decide) ?_
                refine r_topi (y := nI fi5) (by rw [pk_div (by omega) (by decide) (by decide)]; exact congrArg nI (by omega)) ?_
                exact ga_iret cx hr hlk w dX6_why_83 ⟨Nat.le_refl _, Nat.le_refl _⟩ (⟨nu3, tm3, false, ss3, ns3, _, fun _ => hR3, (by unfold WhyR; rw [if_pos hcd]; exact ⟨true, fi5, fj5, hfq, by rw [if_pos rfl, if_pos c67]⟩), rfl, rfl⟩)
            · exact absurd c61 (nI_nm1 (by omega))
        · have htm : 200 < (WL n k fr to).length := of_decide_eq_true (by rw [← hr3.2.1]; exact c36)
          refine lv_iconst (v := (-1)) hx hb dX6_why_39 (by decide) ?_
          exact ga_iret cx hr hlk w dX6_why_40 ⟨Nat.le_refl _, Nat.le_refl _⟩ (⟨nu3, tm3, false, ss3, ns3, -1, fun _ => hR3, (by unfold WhyR; rw [if_neg (by rintro ⟨z1, z2, z3, z4⟩; exact z4 htm)]), rfl, rfl⟩)

set_option maxHeartbeats 4000000 in
set_option maxRecDepth 100000 in
theorem c_X6_read_t (l : Launch) (G : ga_G) (aO : Nat) (aP : Nat) (aW : Nat) (aK : Nat) (aJ : Nat) (aH : Nat) (aB : Nat) (aR : Nat) (aS : Nat) (aQ : Nat) (num : Nat) (tm : Bool) (sl : Bool) (ss : Nat → Nat) (ns : Nat → Nat) (aF : Nat) (aT : Nat) (aC : Nat) (aL : Nat) (n : Nat) (k : Nat) (li : Nat) (fa : Nat) (fr : Nat → Nat) (to : Nat → Nat) (ct : Nat → Nat) (lv : Nat → Nat) (aD : Nat) (rl : Int32) (tn : Bool) (po : Bool) (ts : Nat) (hd : Nat) (td : Nat → Nat) (aE : Nat) (tl : Nat) (tb : Nat → Nat) (nn : Nat) (tn2 : Bool) (hF : Flow n k fr to ct) (hRI : sl = false → Rep to (WL n k fr to) num tm ss ns) (hLv : Leav k fr lv) (hli : li < 2 ^ k) (hnn : nn ≤ 16 ∧ nn ≤ tl) (htl : tl ≤ 40) (htb : ∀ j, j < tl → tb j < 256) : ga_M l G yX6_read cX6_read 3 (Option.some Jvm.ClassFile.FieldType.int) 16 419 0 0 [.ref aO, .int (nI nn), .int (bI tn2)] [(aO, .inr (6, [.ref aP, .ref aW, .ref aK, .ref aJ, .ref aH, .ref aB, .ref aR])), (aW, .inr (3, [.ref aS, .ref aQ, .int (nI num), .int (bI tm), .int (bI sl)])), (aS, .inl (G.2.2, 200, .inl (aN ss))), (aQ, .inl (G.2.2, 200, .inl (aN ns))), (aP, .inr (1, [.ref aF, .ref aT, .ref aC, .ref aL, .int (nI n), .int (nI k), .int (nI li), .int (nI fa)])), (aF, .inl (G.2.2, 16, .inl (aN fr))), (aT, .inl (G.2.2, 16, .inl (aN to))), (aL, .inl (G.2.2, 12, .inl (aN lv))), (aR, .inr (2, [.ref aD, .int rl, .int (bI tn), .int (bI po), .int (nI ts), .int (nI hd)])), (aD, .inl (G.2.2, 16, .inl (aN td))), (aB, .inr (5, [.ref aE, .int (nI tl)])), (aE, .inl (G.2.2, 40, .inl (aN tb)))] (fun r w => ∃ (num2 : Nat), ∃ (tm2 : Bool), ∃ (ss2 : Nat → Nat), ∃ (ns2 : Nat → Nat), ∃ (g : Nat → Nat), ∃ (po2 : Bool), ∃ (ts2 : Nat), ∃ (hd2 : Nat), (Rep to (WL n k fr to) num2 tm2 ss2 ns2) ∧ (∀ j, j < nn → g j = tb j) ∧ r = some (.int (sRead (WL n k fr to) li nn tn2 tb)) ∧ w = [(aO, .inr (6, [.ref aP, .ref aW, .ref aK, .ref aJ, .ref aH, .ref aB, .ref aR])), (aW, .inr (3, [.ref aS, .ref aQ, .int (nI num2), .int (bI tm2), .int (bI false)])), (aS, .inl (G.2.2, 200, .inl (aN ss2))), (aQ, .inl (G.2.2, 200, .inl (aN ns2))), (aP, .inr (1, [.ref aF, .ref aT, .ref aC, .ref aL, .int (nI n), .int (nI k), .int (nI li), .int (nI fa)])), (aF, .inl (G.2.2, 16, .inl (aN fr))), (aT, .inl (G.2.2, 16, .inl (aN to))), (aL, .inl (G.2.2, 12, .inl (aN lv))), (aR, .inr (2, [.ref aD, .int (nI nn), .int (bI tn2), .int (bI po2), .int (nI ts2), .int (nI hd2)])), (aD, .inl (G.2.2, 16, .inl (aN g))), (aB, .inr (5, [.ref aE, .int (nI 0)])), (aE, .inl (G.2.2, 40, .inl (aN tb)))]) := by
  refine ga_M.intro (by decide) (Nat.le_of_ble_eq_true rfl) (fun p_ e_ s_ m_ below meth c_ A_ H_ locs_ ls cx hr hlk hnm hA hK hl w => ?_)
  have hx := cx.1
  have hb := cx.2.1
  have hl : lv_has ls 3 [(0, .ref aO), (1, .int (nI nn)), (2, .int (bI tn2))] := hl
  refine lv_iload_n hx hb dX6_read_0 rfl (lv_at hl 1 rfl) ?_
  refine r_if_lt hx hb dX6_read_1 (tgt := 21) (by decide) (by omega) (fun c1 => ?_) (fun c1 => ?_)
  · omega
  · refine lv_iload_n hx hb dX6_read_4 rfl (lv_at hl 1 rfl) ?_
    refine lv_bipush (v := nI 16) hx hb dX6_read_5 (by decide) ?_
    refine r_icmp_gt hx hb dX6_read_7 (tgt := 21) (by decide) (by omega) (by omega) (fun c7 => ?_) (fun c7 => ?_)
    · omega
    · refine lv_iload_n hx hb dX6_read_10 rfl (lv_at hl 1 rfl) ?_
      refine lv_aload_n hx hb dX6_read_11 rfl (lv_at hl 0 rfl) ?_
      refine gf_X6_45 cx hK w 0 rfl rfl dX6_read_12 ?_
      refine gf_X6_162 cx hK w 10 rfl rfl dX6_read_15 ?_
      refine r_icmp_le hx hb dX6_read_18 (tgt := 23) (by decide) (by omega) (by omega) (fun c18 => ?_) (fun c18 => ?_)
      · refine lv_aload_n hx hb dX6_read_23 rfl (lv_at hl 0 rfl) ?_
        refine gf_X6_52 cx hK w 0 rfl rfl dX6_read_24 ?_
        refine lv_aload_n hx hb dX6_read_27 rfl (lv_at hl 0 rfl) ?_
        refine gf_X6_45 cx hK w 0 rfl rfl dX6_read_28 ?_
        refine lv_iload_n hx hb dX6_read_31 rfl (lv_at hl 1 rfl) ?_
        refine lv_iload_n hx hb dX6_read_32 rfl (lv_at hl 2 rfl) ?_
        refine ga_callV (rest := []) (wr := [(aO, .inr (6, [.ref aP, .ref aW, .ref aK, .ref aJ, .ref aH, .ref aB, .ref aR])), (aW, .inr (3, [.ref aS, .ref aQ, .int (nI num), .int (bI tm), .int (bI sl)])), (aS, .inl (G.2.2, 200, .inl (aN ss))), (aQ, .inl (G.2.2, 200, .inl (aN ns))), (aP, .inr (1, [.ref aF, .ref aT, .ref aC, .ref aL, .int (nI n), .int (nI k), .int (nI li), .int (nI fa)])), (aF, .inl (G.2.2, 16, .inl (aN fr))), (aT, .inl (G.2.2, 16, .inl (aN to))), (aL, .inl (G.2.2, 12, .inl (aN lv)))]) cx hK hA w hl lk_X6_168 (c_X2_take l G aR aD rl tn po ts hd td aB aE tl tb nn tn2 (by omega)) ⟨Nat.le_of_ble_eq_true rfl, Nat.le_of_ble_eq_true rfl⟩ [8, 9, 10, 11] [0, 1, 2, 3, 4, 5, 6, 7] rfl rfl (by decide) (by decide) (by decide) 8 2 rfl rfl rfl rfl (Nat.le_of_ble_eq_true rfl) dX6_read_33 ⟨Nat.le_refl _, Nat.le_refl _⟩ rfl (fun r w1_ H_ locs_ hp w => ?_)
        obtain ⟨g, hg, rfl, rfl⟩ := hp
        have w : ga_wd G A_ s_ H_ locs_ [(aO, .inr (6, [.ref aP, .ref aW, .ref aK, .ref aJ, .ref aH, .ref aB, .ref aR])), (aW, .inr (3, [.ref aS, .ref aQ, .int (nI num), .int (bI tm), .int (bI sl)])), (aS, .inl (G.2.2, 200, .inl (aN ss))), (aQ, .inl (G.2.2, 200, .inl (aN ns))), (aP, .inr (1, [.ref aF, .ref aT, .ref aC, .ref aL, .int (nI n), .int (nI k), .int (nI li), .int (nI fa)])), (aF, .inl (G.2.2, 16, .inl (aN fr))), (aT, .inl (G.2.2, 16, .inl (aN to))), (aL, .inl (G.2.2, 12, .inl (aN lv))), (aR, .inr (2, [.ref aD, .int (nI nn), .int (bI tn2), .int (bI po), .int (nI ts), .int (nI hd)])), (aD, .inl (G.2.2, 16, .inl (aN g))), (aB, .inr (5, [.ref aE, .int (nI tl)])), (aE, .inl (G.2.2, 40, .inl (aN tb)))] := ga_perm w [0, 1, 2, 3, 4, 5, 6, 7, 8, 9, 10, 11] (by decide) rfl
        refine W.eq (g2 := F0 m_ 36 ls []) rfl ?_
        refine lv_aload_n hx hb dX6_read_36 rfl (lv_at hl 0 rfl) ?_
        refine gf_X6_45 cx hK w 0 rfl rfl dX6_read_37 ?_
        refine lv_iconst (v := nI 0) hx hb dX6_read_40 (by decide) ?_
        refine pf_X6_162 cx hK w 10 rfl rfl rfl (Nat.le_of_ble_eq_true rfl) dX6_read_41 (fun H_ locs_ w => ?_)
        have w : ga_wd G A_ s_ H_ locs_ [(aO, .inr (6, [.ref aP, .ref aW, .ref aK, .ref aJ, .ref aH, .ref aB, .ref aR])), (aW, .inr (3, [.ref aS, .ref aQ, .int (nI num), .int (bI tm), .int (bI sl)])), (aS, .inl (G.2.2, 200, .inl (aN ss))), (aQ, .inl (G.2.2, 200, .inl (aN ns))), (aP, .inr (1, [.ref aF, .ref aT, .ref aC, .ref aL, .int (nI n), .int (nI k), .int (nI li), .int (nI fa)])), (aF, .inl (G.2.2, 16, .inl (aN fr))), (aT, .inl (G.2.2, 16, .inl (aN to))), (aL, .inl (G.2.2, 12, .inl (aN lv))), (aR, .inr (2, [.ref aD, .int (nI nn), .int (bI tn2), .int (bI po), .int (nI ts), .int (nI hd)])), (aD, .inl (G.2.2, 16, .inl (aN g))), (aB, .inr (5, [.ref aE, .int (nI 0)])), (aE, .inl (G.2.2, 40, .inl (aN tb)))] := w
        refine lv_aload_n hx hb dX6_read_44 rfl (lv_at hl 0 rfl) ?_
        refine ga_callV (rest := []) (wr := [(aL, .inl (G.2.2, 12, .inl (aN lv))), (aR, .inr (2, [.ref aD, .int (nI nn), .int (bI tn2), .int (bI po), .int (nI ts), .int (nI hd)])), (aD, .inl (G.2.2, 16, .inl (aN g))), (aB, .inr (5, [.ref aE, .int (nI 0)])), (aE, .inl (G.2.2, 40, .inl (aN tb)))]) cx hK hA w hl lk_X6_102 (c_X6_tooMany l G aO aP aW aK aJ aH aB aR aS aQ num tm sl ss ns aF aT aC aL n k li fa fr to ct (hF) (hRI)) ⟨Nat.le_of_ble_eq_true rfl, Nat.le_of_ble_eq_true rfl⟩ [0, 1, 2, 3, 4, 5, 6] [7, 8, 9, 10, 11] rfl rfl (by decide) (by decide) (by decide) 0 6 rfl rfl rfl rfl (Nat.le_of_ble_eq_true rfl) dX6_read_45 ⟨Nat.le_refl _, Nat.le_refl _⟩ rfl (fun r w1_ H_ locs_ hp w => ?_)
        obtain ⟨nu3, tm3, ss3, ns3, hR3, rfl, rfl⟩ := hp
        have w : ga_wd G A_ s_ H_ locs_ [(aO, .inr (6, [.ref aP, .ref aW, .ref aK, .ref aJ, .ref aH, .ref aB, .ref aR])), (aW, .inr (3, [.ref aS, .ref aQ, .int (nI nu3), .int (bI tm3), .int (bI false)])), (aS, .inl (G.2.2, 200, .inl (aN ss3))), (aQ, .inl (G.2.2, 200, .inl (aN ns3))), (aP, .inr (1, [.ref aF, .ref aT, .ref aC, .ref aL, .int (nI n), .int (nI k), .int (nI li), .int (nI fa)])), (aF, .inl (G.2.2, 16, .inl (aN fr))), (aT, .inl (G.2.2, 16, .inl (aN to))), (aL, .inl (G.2.2, 12, .inl (aN lv))), (aR, .inr (2, [.ref aD, .int (nI nn), .int (bI tn2), .int (bI po), .int (nI ts), .int (nI hd)])), (aD, .inl (G.2.2, 16, .inl (aN g))), (aB, .inr (5, [.ref aE, .int (nI 0)])), (aE, .inl (G.2.2, 40, .inl (aN tb)))] := ga_perm w [5, 6, 7, 8, 9, 10, 11, 0, 1, 2, 3, 4] (by decide) rfl
        refine W.eq (g2 := F0 m_ 48 ls [.int (bI tm3)]) rfl ?_
        have hr3 := Rep_f hR3
        refine r_ifb_eq hx hb dX6_read_48 (tgt := 54) (by decide) (fun c48 => ?_) (fun c48 => ?_)
        · have htm : ¬ 200 < (WL n k fr to).length := of_decide_eq_false (by rw [← hr3.2.1]; exact c48)
          have hnc := hr3.2.2.1 c48
          refine lv_aload_n hx hb dX6_read_54 rfl (lv_at hl 0 rfl) ?_
          refine gf_X6_52 cx hK w 0 rfl rfl dX6_read_55 ?_
          refine lv_aload_n hx hb dX6_read_58 rfl (lv_at hl 0 rfl) ?_
          refine gf_X6_12 cx hK w 0 rfl rfl dX6_read_59 ?_
          refine ga_callV (rest := []) (wr := [(aO, .inr (6, [.ref aP, .ref aW, .ref aK, .ref aJ, .ref aH, .ref aB, .ref aR])), (aW, .inr (3, [.ref aS, .ref aQ, .int (nI nu3), .int (bI tm3), .int (bI false)])), (aS, .inl (G.2.2, 200, .inl (aN ss3))), (aQ, .inl (G.2.2, 200, .inl (aN ns3))), (aT, .inl (G.2.2, 16, .inl (aN to))), (aB, .inr (5, [.ref aE, .int (nI 0)])), (aE, .inl (G.2.2, 40, .inl (aN tb)))]) cx hK hA w hl lk_X6_172 (c_X2_fit l G aR aD nn tn2 po ts hd g aP aF aT aC aL n k li fa fr lv (by omega) (hF.2.1) (hF.2.2.1) (fun j hj => by rw [hg j hj]; exact htb j (by omega)) (fun e he => by have := hF.2.2.2.1 e he; omega)) ⟨Nat.le_of_ble_eq_true rfl, Nat.le_of_ble_eq_true rfl⟩ [8, 9, 4, 5, 7] [0, 1, 2, 3, 6, 10, 11] rfl rfl (by decide) (by decide) (by decide) 8 2 rfl rfl rfl rfl (Nat.le_of_ble_eq_true rfl) dX6_read_62 ⟨Nat.le_refl _, Nat.le_refl _⟩ rfl (fun r w1_ H_ locs_ hp w => ?_)
          obtain ⟨po5, ts5, hd5, hF5, ht5, rfl, rfl⟩ := hp
          have w : ga_wd G A_ s_ H_ locs_ [(aO, .inr (6, [.ref aP, .ref aW, .ref aK, .ref aJ, .ref aH, .ref aB, .ref aR])), (aW, .inr (3, [.ref aS, .ref aQ, .int (nI nu3), .int (bI tm3), .int (bI false)])), (aS, .inl (G.2.2, 200, .inl (aN ss3))), (aQ, .inl (G.2.2, 200, .inl (aN ns3))), (aP, .inr (1, [.ref aF, .ref aT, .ref aC, .ref aL, .int (nI n), .int (nI k), .int (nI li), .int (nI fa)])), (aF, .inl (G.2.2, 16, .inl (aN fr))), (aT, .inl (G.2.2, 16, .inl (aN to))), (aL, .inl (G.2.2, 12, .inl (aN lv))), (aR, .inr (2, [.ref aD, .int (nI nn), .int (bI tn2), .int (bI po5), .int (nI ts5), .int (nI hd5)])), (aD, .inl (G.2.2, 16, .inl (aN g))), (aB, .inr (5, [.ref aE, .int (nI 0)])), (aE, .inl (G.2.2, 40, .inl (aN tb)))] := ga_perm w [0, 1, 2, 3, 9, 10, 4, 11, 7, 8, 5, 6] (by decide) rfl
          refine W.eq (g2 := F0 m_ 65 ls []) rfl ?_
          have hal : ∀ i, i < nu3 → alw po5 ts5 hd5 (ss3 i) = alS li nn tn2 tb ((WL n k fr to).getD i []) := fun i hi => by rw [(hr3.2.2.2.2 i hi).1, show sS (WL n k fr to) i = bs ((WL n k fr to).getD i []) from rfl, fit_al hF hLv hli hF5 (WL_pth hF (getD_mem (by omega)))]; unfold alS; rw [lz_congr hg]
          refine lv_aload_n hx hb dX6_read_65 rfl (lv_at hl 0 rfl) ?_
          refine gf_X6_52 cx hK w 0 rfl rfl dX6_read_66 ?_
          refine lv_aload_n hx hb dX6_read_69 rfl (lv_at hl 0 rfl) ?_
          refine gf_X6_19 cx hK w 0 rfl rfl dX6_read_70 ?_
          refine ga_callV (rest := []) (wr := [(aO, .inr (6, [.ref aP, .ref aW, .ref aK, .ref aJ, .ref aH, .ref aB, .ref aR])), (aP, .inr (1, [.ref aF, .ref aT, .ref aC, .ref aL, .int (nI n), .int (nI k), .int (nI li), .int (nI fa)])), (aF, .inl (G.2.2, 16, .inl (aN fr))), (aT, .inl (G.2.2, 16, .inl (aN to))), (aL, .inl (G.2.2, 12, .inl (aN lv))), (aD, .inl (G.2.2, 16, .inl (aN g))), (aB, .inr (5, [.ref aE, .int (nI 0)])), (aE, .inl (G.2.2, 40, .inl (aN tb)))]) cx hK hA w hl lk_X6_175 (c_X2_howManyOf l G aR aD (nI nn) tn2 po5 ts5 hd5 aW aS aQ nu3 tm3 false ss3 ns3 (by omega) (fun u hu => by rw [(hr3.2.2.2.2 u hu).1]; exact sS_lt16 hF (by omega)) (ht5)) ⟨Nat.le_of_ble_eq_true rfl, Nat.le_of_ble_eq_true rfl⟩ [8, 1, 2, 3] [0, 4, 5, 6, 7, 9, 10, 11] rfl rfl (by decide) (by decide) (by decide) 8 2 rfl rfl rfl rfl (Nat.le_of_ble_eq_true rfl) dX6_read_73 ⟨Nat.le_refl _, Nat.le_refl _⟩ rfl (fun r w1_ H_ locs_ hp w => ?_)
          obtain ⟨rfl, rfl⟩ := hp
          have w : ga_wd G A_ s_ H_ locs_ [(aO, .inr (6, [.ref aP, .ref aW, .ref aK, .ref aJ, .ref aH, .ref aB, .ref aR])), (aW, .inr (3, [.ref aS, .ref aQ, .int (nI nu3), .int (bI tm3), .int (bI false)])), (aS, .inl (G.2.2, 200, .inl (aN ss3))), (aQ, .inl (G.2.2, 200, .inl (aN ns3))), (aP, .inr (1, [.ref aF, .ref aT, .ref aC, .ref aL, .int (nI n), .int (nI k), .int (nI li), .int (nI fa)])), (aF, .inl (G.2.2, 16, .inl (aN fr))), (aT, .inl (G.2.2, 16, .inl (aN to))), (aL, .inl (G.2.2, 12, .inl (aN lv))), (aR, .inr (2, [.ref aD, .int (nI nn), .int (bI tn2), .int (bI po5), .int (nI ts5), .int (nI hd5)])), (aD, .inl (G.2.2, 16, .inl (aN g))), (aB, .inr (5, [.ref aE, .int (nI 0)])), (aE, .inl (G.2.2, 40, .inl (aN tb)))] := ga_perm w [0, 9, 10, 11, 1, 2, 3, 4, 8, 5, 6, 7] (by decide) rfl
          refine W.eq (g2 := F0 m_ 76 ls [.int (nI ((fl (fun i => alw po5 ts5 hd5 (ss3 i)) nu3).length))]) rfl ?_
          exact ga_iret cx hr hlk w dX6_read_76 ⟨Nat.le_refl _, Nat.le_refl _⟩ (⟨nu3, tm3, ss3, ns3, g, po5, ts5, hd5, hR3, hg, ga_rv (by rw [sRead, if_neg htm, ← hnc, fl_congr hal]), rfl⟩)
        · have htm : 200 < (WL n k fr to).length := of_decide_eq_true (by rw [← hr3.2.1]; exact c48)
          refine lv_bipush (v := (-2)) hx hb dX6_read_51 (by decide) ?_
          exact ga_iret cx hr hlk w dX6_read_53 ⟨Nat.le_refl _, Nat.le_refl _⟩ (⟨nu3, tm3, ss3, ns3, g, po, ts, hd, hR3, hg, ga_rv (by rw [sRead, if_pos htm]), rfl⟩)
      · omega

set_option maxHeartbeats 4000000 in
set_option maxRecDepth 100000 in
theorem c_X6_read_f (l : Launch) (G : ga_G) (aO : Nat) (aP : Nat) (aW : Nat) (aK : Nat) (aJ : Nat) (aH : Nat) (aB : Nat) (aR : Nat) (aE : Nat) (tl : Nat) (tb : Nat → Nat) (x : Int32) (tn2 : Bool) (htl : tl ≤ 40) (hno : ∀ j, x = nI j → j ≤ 16 → ¬ j ≤ tl) : ga_M l G yX6_read cX6_read 3 (Option.some Jvm.ClassFile.FieldType.int) 0 0 0 0 [.ref aO, .int x, .int (bI tn2)] [(aO, .inr (6, [.ref aP, .ref aW, .ref aK, .ref aJ, .ref aH, .ref aB, .ref aR])), (aB, .inr (5, [.ref aE, .int (nI tl)]))] (fun r w => r = some (.int (-1)) ∧ w = [(aO, .inr (6, [.ref aP, .ref aW, .ref aK, .ref aJ, .ref aH, .ref aB, .ref aR])), (aB, .inr (5, [.ref aE, .int (nI tl)]))]) := by
  refine ga_M.intro (by decide) (Nat.le_of_ble_eq_true rfl) (fun p_ e_ s_ m_ below meth c_ A_ H_ locs_ ls cx hr hlk hnm hA hK hl w => ?_)
  have hx := cx.1
  have hb := cx.2.1
  have hl : lv_has ls 3 [(0, .ref aO), (1, .int x), (2, .int (bI tn2))] := hl
  refine lv_iload_n hx hb dX6_read_0 rfl (lv_at hl 1 rfl) ?_
  refine lv_if_lt hx hb dX6_read_1 (tgt := 21) (by decide) (fun c1 => ?_) (fun c1 => ?_)
  · refine lv_iconst (v := (-1)) hx hb dX6_read_21 (by decide) ?_
    exact ga_iret cx hr hlk w dX6_read_22 ⟨Nat.le_refl _, Nat.le_refl _⟩ (⟨rfl, rfl⟩)
  · refine lv_iload_n hx hb dX6_read_4 rfl (lv_at hl 1 rfl) ?_
    refine lv_bipush (v := nI 16) hx hb dX6_read_5 (by decide) ?_
    refine lv_icmp_gt hx hb dX6_read_7 (tgt := 21) (by decide) (fun c7 => ?_) (fun c7 => ?_)
    · refine lv_iconst (v := (-1)) hx hb dX6_read_21 (by decide) ?_
      exact ga_iret cx hr hlk w dX6_read_22 ⟨Nat.le_refl _, Nat.le_refl _⟩ (⟨rfl, rfl⟩)
    · refine lv_iload_n hx hb dX6_read_10 rfl (lv_at hl 1 rfl) ?_
      refine lv_aload_n hx hb dX6_read_11 rfl (lv_at hl 0 rfl) ?_
      refine gf_X6_45 cx hK w 0 rfl rfl dX6_read_12 ?_
      refine gf_X6_162 cx hK w 1 rfl rfl dX6_read_15 ?_
      refine lv_icmp_le hx hb dX6_read_18 (tgt := 23) (by decide) (fun c18 => ?_) (fun c18 => ?_)
      · obtain ⟨j, hj1, rfl⟩ := nI_of c1; have h7 := (not_congr (nI_ltI (by decide) hj1)).mp c7; exact absurd ((nI_leI hj1 (by omega)).mp c18) (hno j rfl (by omega))
      · refine lv_iconst (v := (-1)) hx hb dX6_read_21 (by decide) ?_
        exact ga_iret cx hr hlk w dX6_read_22 ⟨Nat.le_refl _, Nat.le_refl _⟩ (⟨rfl, rfl⟩)

set_option maxHeartbeats 4000000 in
set_option maxRecDepth 100000 in
theorem c_X6_allowed (l : Launch) (G : ga_G) (aO : Nat) (aP : Nat) (aW : Nat) (aK : Nat) (aJ : Nat) (aH : Nat) (aB : Nat) (aR : Nat) (aS : Nat) (aQ : Nat) (num : Nat) (tm : Bool) (sl : Bool) (ss : Nat → Nat) (ns : Nat → Nat) (aF : Nat) (aT : Nat) (aC : Nat) (aL : Nat) (n : Nat) (k : Nat) (li : Nat) (fa : Nat) (fr : Nat → Nat) (to : Nat → Nat) (ct : Nat → Nat) (lv : Nat → Nat) (aD : Nat) (rl : Int32) (tn : Bool) (po : Bool) (ts : Nat) (hd : Nat) (td : Nat → Nat) (L : Nat) (x : Int32) (hF : Flow n k fr to ct) (hRI : sl = false → Rep to (WL n k fr to) num tm ss ns) (hLv : Leav k fr lv) (hli : li < 2 ^ k) (hL : L ≤ 16) (htd : ∀ j, j < L → td j < 256) : ga_M l G yX6_allowed cX6_allowed 2 (Option.some Jvm.ClassFile.FieldType.int) 16 419 0 0 [.ref aO, .int x] [(aO, .inr (6, [.ref aP, .ref aW, .ref aK, .ref aJ, .ref aH, .ref aB, .ref aR])), (aW, .inr (3, [.ref aS, .ref aQ, .int (nI num), .int (bI tm), .int (bI sl)])), (aS, .inl (G.2.2, 200, .inl (aN ss))), (aQ, .inl (G.2.2, 200, .inl (aN ns))), (aP, .inr (1, [.ref aF, .ref aT, .ref aC, .ref aL, .int (nI n), .int (nI k), .int (nI li), .int (nI fa)])), (aF, .inl (G.2.2, 16, .inl (aN fr))), (aT, .inl (G.2.2, 16, .inl (aN to))), (aL, .inl (G.2.2, 12, .inl (aN lv))), (aR, .inr (2, [.ref aD, .int (nI L), .int (bI tn), .int (bI po), .int (nI ts), .int (nI hd)])), (aD, .inl (G.2.2, 16, .inl (aN td)))] (fun r w => ∃ (num2 : Nat), ∃ (tm2 : Bool), ∃ (ss2 : Nat → Nat), ∃ (ns2 : Nat → Nat), ∃ (po2 : Bool), ∃ (ts2 : Nat), ∃ (hd2 : Nat), (Rep to (WL n k fr to) num2 tm2 ss2 ns2) ∧ r = some (.int (sAllowed (WL n k fr to) li L tn td x)) ∧ w = [(aO, .inr (6, [.ref aP, .ref aW, .ref aK, .ref aJ, .ref aH, .ref aB, .ref aR])), (aW, .inr (3, [.ref aS, .ref aQ, .int (nI num2), .int (bI tm2), .int (bI false)])), (aS, .inl (G.2.2, 200, .inl (aN ss2))), (aQ, .inl (G.2.2, 200, .inl (aN ns2))), (aP, .inr (1, [.ref aF, .ref aT, .ref aC, .ref aL, .int (nI n), .int (nI k), .int (nI li), .int (nI fa)])), (aF, .inl (G.2.2, 16, .inl (aN fr))), (aT, .inl (G.2.2, 16, .inl (aN to))), (aL, .inl (G.2.2, 12, .inl (aN lv))), (aR, .inr (2, [.ref aD, .int (nI L), .int (bI tn), .int (bI po2), .int (nI ts2), .int (nI hd2)])), (aD, .inl (G.2.2, 16, .inl (aN td)))]) := by
  refine ga_M.intro (by decide) (Nat.le_of_ble_eq_true rfl) (fun p_ e_ s_ m_ below meth c_ A_ H_ locs_ ls cx hr hlk hnm hA hK hl w => ?_)
  have hx := cx.1
  have hb := cx.2.1
  have hl : lv_has ls 2 [(0, .ref aO), (1, .int x)] := hl
  refine lv_aload_n hx hb dX6_allowed_0 rfl (lv_at hl 0 rfl) ?_
  refine ga_callV (rest := []) (wr := [(aL, .inl (G.2.2, 12, .inl (aN lv))), (aR, .inr (2, [.ref aD, .int (nI L), .int (bI tn), .int (bI po), .int (nI ts), .int (nI hd)])), (aD, .inl (G.2.2, 16, .inl (aN td)))]) cx hK hA w hl lk_X6_102 (c_X6_tooMany l G aO aP aW aK aJ aH aB aR aS aQ num tm sl ss ns aF aT aC aL n k li fa fr to ct (hF) (hRI)) ⟨Nat.le_of_ble_eq_true rfl, Nat.le_of_ble_eq_true rfl⟩ [0, 1, 2, 3, 4, 5, 6] [7, 8, 9] rfl rfl (by decide) (by decide) (by decide) 0 6 rfl rfl rfl rfl (Nat.le_of_ble_eq_true rfl) dX6_allowed_1 ⟨Nat.le_refl _, Nat.le_refl _⟩ rfl (fun r w1_ H_ locs_ hp w => ?_)
  obtain ⟨nu3, tm3, ss3, ns3, hR3, rfl, rfl⟩ := hp
  have w : ga_wd G A_ s_ H_ locs_ [(aO, .inr (6, [.ref aP, .ref aW, .ref aK, .ref aJ, .ref aH, .ref aB, .ref aR])), (aW, .inr (3, [.ref aS, .ref aQ, .int (nI nu3), .int (bI tm3), .int (bI false)])), (aS, .inl (G.2.2, 200, .inl (aN ss3))), (aQ, .inl (G.2.2, 200, .inl (aN ns3))), (aP, .inr (1, [.ref aF, .ref aT, .ref aC, .ref aL, .int (nI n), .int (nI k), .int (nI li), .int (nI fa)])), (aF, .inl (G.2.2, 16, .inl (aN fr))), (aT, .inl (G.2.2, 16, .inl (aN to))), (aL, .inl (G.2.2, 12, .inl (aN lv))), (aR, .inr (2, [.ref aD, .int (nI L), .int (bI tn), .int (bI po), .int (nI ts), .int (nI hd)])), (aD, .inl (G.2.2, 16, .inl (aN td)))] := ga_perm w [3, 4, 5, 6, 7, 8, 9, 0, 1, 2] (by decide) rfl
  refine W.eq (g2 := F0 m_ 4 ls [.int (bI tm3)]) rfl ?_
  have hr3 := Rep_f hR3
  refine r_ifb_eq hx hb dX6_allowed_4 (tgt := 9) (by decide) (fun c4 => ?_) (fun c4 => ?_)
  · have htm : ¬ 200 < (WL n k fr to).length := of_decide_eq_false (by rw [← hr3.2.1]; exact c4)
    have hnc := hr3.2.2.1 c4
    refine lv_aload_n hx hb dX6_allowed_9 rfl (lv_at hl 0 rfl) ?_
    refine gf_X6_52 cx hK w 0 rfl rfl dX6_allowed_10 ?_
    refine lv_aload_n hx hb dX6_allowed_13 rfl (lv_at hl 0 rfl) ?_
    refine gf_X6_12 cx hK w 0 rfl rfl dX6_allowed_14 ?_
    refine ga_callV (rest := []) (wr := [(aO, .inr (6, [.ref aP, .ref aW, .ref aK, .ref aJ, .ref aH, .ref aB, .ref aR])), (aW, .inr (3, [.ref aS, .ref aQ, .int (nI nu3), .int (bI tm3), .int (bI false)])), (aS, .inl (G.2.2, 200, .inl (aN ss3))), (aQ, .inl (G.2.2, 200, .inl (aN ns3))), (aT, .inl (G.2.2, 16, .inl (aN to)))]) cx hK hA w hl lk_X6_172 (c_X2_fit l G aR aD L tn po ts hd td aP aF aT aC aL n k li fa fr lv (hL) (hF.2.1) (hF.2.2.1) (htd) (fun e he => by have := hF.2.2.2.1 e he; omega)) ⟨Nat.le_of_ble_eq_true rfl, Nat.le_of_ble_eq_true rfl⟩ [8, 9, 4, 5, 7] [0, 1, 2, 3, 6] rfl rfl (by decide) (by decide) (by decide) 8 2 rfl rfl rfl rfl (Nat.le_of_ble_eq_true rfl) dX6_allowed_17 ⟨Nat.le_refl _, Nat.le_refl _⟩ rfl (fun r w1_ H_ locs_ hp w => ?_)
    obtain ⟨po5, ts5, hd5, hF5, ht5, rfl, rfl⟩ := hp
    have w : ga_wd G A_ s_ H_ locs_ [(aO, .inr (6, [.ref aP, .ref aW, .ref aK, .ref aJ, .ref aH, .ref aB, .ref aR])), (aW, .inr (3, [.ref aS, .ref aQ, .int (nI nu3), .int (bI tm3), .int (bI false)])), (aS, .inl (G.2.2, 200, .inl (aN ss3))), (aQ, .inl (G.2.2, 200, .inl (aN ns3))), (aP, .inr (1, [.ref aF, .ref aT, .ref aC, .ref aL, .int (nI n), .int (nI k), .int (nI li), .int (nI fa)])), (aF, .inl (G.2.2, 16, .inl (aN fr))), (aT, .inl (G.2.2, 16, .inl (aN to))), (aL, .inl (G.2.2, 12, .inl (aN lv))), (aR, .inr (2, [.ref aD, .int (nI L), .int (bI tn), .int (bI po5), .int (nI ts5), .int (nI hd5)])), (aD, .inl (G.2.2, 16, .inl (aN td)))] := ga_perm w [0, 1, 2, 3, 7, 8, 4, 9, 5, 6] (by decide) rfl
    refine W.eq (g2 := F0 m_ 20 ls []) rfl ?_
    have hal : ∀ i, i < nu3 → alw po5 ts5 hd5 (ss3 i) = alS li L tn td ((WL n k fr to).getD i []) := fun i hi => by rw [(hr3.2.2.2.2 i hi).1, show sS (WL n k fr to) i = bs ((WL n k fr to).getD i []) from rfl, fit_al hF hLv hli hF5 (WL_pth hF (getD_mem (by omega)))]
    refine lv_aload_n hx hb dX6_allowed_20 rfl (lv_at hl 0 rfl) ?_
    refine gf_X6_52 cx hK w 0 rfl rfl dX6_allowed_21 ?_
    refine lv_aload_n hx hb dX6_allowed_24 rfl (lv_at hl 0 rfl) ?_
    refine gf_X6_19 cx hK w 0 rfl rfl dX6_allowed_25 ?_
    refine lv_iload_n hx hb dX6_allowed_28 rfl (lv_at hl 1 rfl) ?_
    refine ga_callV (rest := []) (wr := [(aO, .inr (6, [.ref aP, .ref aW, .ref aK, .ref aJ, .ref aH, .ref aB, .ref aR])), (aP, .inr (1, [.ref aF, .ref aT, .ref aC, .ref aL, .int (nI n), .int (nI k), .int (nI li), .int (nI fa)])), (aF, .inl (G.2.2, 16, .inl (aN fr))), (aT, .inl (G.2.2, 16, .inl (aN to))), (aL, .inl (G.2.2, 12, .inl (aN lv))), (aD, .inl (G.2.2, 16, .inl (aN td)))]) cx hK hA w hl lk_X6_179 (c_X2_memberOf l G aR aD (nI L) tn po5 ts5 hd5 aW aS aQ nu3 tm3 false ss3 ns3 x (by omega) (fun u hu => by rw [(hr3.2.2.2.2 u hu).1]; exact sS_lt16 hF (by omega)) (ht5)) ⟨Nat.le_of_ble_eq_true rfl, Nat.le_of_ble_eq_true rfl⟩ [8, 1, 2, 3] [0, 4, 5, 6, 7, 9] rfl rfl (by decide) (by decide) (by decide) 8 2 rfl rfl rfl rfl (Nat.le_of_ble_eq_true rfl) dX6_allowed_29 ⟨Nat.le_refl _, Nat.le_refl _⟩ rfl (fun r w1_ H_ locs_ hp w => ?_)
    obtain ⟨rfl, rfl⟩ := hp
    have w : ga_wd G A_ s_ H_ locs_ [(aO, .inr (6, [.ref aP, .ref aW, .ref aK, .ref aJ, .ref aH, .ref aB, .ref aR])), (aW, .inr (3, [.ref aS, .ref aQ, .int (nI nu3), .int (bI tm3), .int (bI false)])), (aS, .inl (G.2.2, 200, .inl (aN ss3))), (aQ, .inl (G.2.2, 200, .inl (aN ns3))), (aP, .inr (1, [.ref aF, .ref aT, .ref aC, .ref aL, .int (nI n), .int (nI k), .int (nI li), .int (nI fa)])), (aF, .inl (G.2.2, 16, .inl (aN fr))), (aT, .inl (G.2.2, 16, .inl (aN to))), (aL, .inl (G.2.2, 12, .inl (aN lv))), (aR, .inr (2, [.ref aD, .int (nI L), .int (bI tn), .int (bI po5), .int (nI ts5), .int (nI hd5)])), (aD, .inl (G.2.2, 16, .inl (aN td)))] := ga_perm w [0, 7, 8, 9, 1, 2, 3, 4, 6, 5] (by decide) rfl
    refine W.eq (g2 := F0 m_ 32 ls [.int (nth ((fl (fun i => alw po5 ts5 hd5 (ss3 i)) nu3).map nI) x)]) rfl ?_
    exact ga_iret cx hr hlk w dX6_allowed_32 ⟨Nat.le_refl _, Nat.le_refl _⟩ (⟨nu3, tm3, ss3, ns3, po5, ts5, hd5, hR3, ga_rv (by rw [sAllowed, if_neg htm, ← hnc, fl_congr hal]), rfl⟩)
  · have htm : 200 < (WL n k fr to).length := of_decide_eq_true (by rw [← hr3.2.1]; exact c4)
    refine lv_iconst (v := (-1)) hx hb dX6_allowed_7 (by decide) ?_
    exact ga_iret cx hr hlk w dX6_allowed_8 ⟨Nat.le_refl _, Nat.le_refl _⟩ (⟨nu3, tm3, ss3, ns3, po, ts, hd, hR3, ga_rv (by rw [sAllowed, if_pos htm]), rfl⟩)

set_option maxHeartbeats 4000000 in
set_option maxRecDepth 100000 in
theorem c_X6_allowed0 (l : Launch) (G : ga_G) (aO : Nat) (aP : Nat) (aW : Nat) (aK : Nat) (aJ : Nat) (aH : Nat) (aB : Nat) (aR : Nat) (aS : Nat) (aQ : Nat) (num : Nat) (tm : Bool) (sl : Bool) (ss : Nat → Nat) (ns : Nat → Nat) (aF : Nat) (aT : Nat) (aC : Nat) (aL : Nat) (n : Nat) (k : Nat) (li : Nat) (fa : Nat) (fr : Nat → Nat) (to : Nat → Nat) (ct : Nat → Nat) (lv : Nat → Nat) (aD : Nat) (rl : Int32) (tn : Bool) (po : Bool) (ts : Nat) (hd : Nat) (td : Nat → Nat) (x : Int32) (hF : Flow n k fr to ct) (hRI : sl = false → Rep to (WL n k fr to) num tm ss ns) (hLv : Leav k fr lv) (hli : li < 2 ^ k) : ga_M l G yX6_allowed cX6_allowed 2 (Option.some Jvm.ClassFile.FieldType.int) 16 419 0 0 [.ref aO, .int x] [(aO, .inr (6, [.ref aP, .ref aW, .ref aK, .ref aJ, .ref aH, .ref aB, .ref aR])), (aW, .inr (3, [.ref aS, .ref aQ, .int (nI num), .int (bI tm), .int (bI sl)])), (aS, .inl (G.2.2, 200, .inl (aN ss))), (aQ, .inl (G.2.2, 200, .inl (aN ns))), (aP, .inr (1, [.ref aF, .ref aT, .ref aC, .ref aL, .int (nI n), .int (nI k), .int (nI li), .int (nI fa)])), (aF, .inl (G.2.2, 16, .inl (aN fr))), (aT, .inl (G.2.2, 16, .inl (aN to))), (aL, .inl (G.2.2, 12, .inl (aN lv))), (aR, .inr (2, [.ref aD, .int (-1), .int (bI tn), .int (bI po), .int (nI ts), .int (nI hd)])), (aD, .inl (G.2.2, 16, .inl (aN td)))] (fun r w => ∃ (num2 : Nat), ∃ (tm2 : Bool), ∃ (ss2 : Nat → Nat), ∃ (ns2 : Nat → Nat), ∃ (po2 : Bool), ∃ (ts2 : Nat), ∃ (hd2 : Nat), (Rep to (WL n k fr to) num2 tm2 ss2 ns2) ∧ r = some (.int (-1)) ∧ w = [(aO, .inr (6, [.ref aP, .ref aW, .ref aK, .ref aJ, .ref aH, .ref aB, .ref aR])), (aW, .inr (3, [.ref aS, .ref aQ, .int (nI num2), .int (bI tm2), .int (bI false)])), (aS, .inl (G.2.2, 200, .inl (aN ss2))), (aQ, .inl (G.2.2, 200, .inl (aN ns2))), (aP, .inr (1, [.ref aF, .ref aT, .ref aC, .ref aL, .int (nI n), .int (nI k), .int (nI li), .int (nI fa)])), (aF, .inl (G.2.2, 16, .inl (aN fr))), (aT, .inl (G.2.2, 16, .inl (aN to))), (aL, .inl (G.2.2, 12, .inl (aN lv))), (aR, .inr (2, [.ref aD, .int (-1), .int (bI tn), .int (bI po2), .int (nI ts2), .int (nI hd2)])), (aD, .inl (G.2.2, 16, .inl (aN td)))]) := by
  refine ga_M.intro (by decide) (Nat.le_of_ble_eq_true rfl) (fun p_ e_ s_ m_ below meth c_ A_ H_ locs_ ls cx hr hlk hnm hA hK hl w => ?_)
  have hx := cx.1
  have hb := cx.2.1
  have hl : lv_has ls 2 [(0, .ref aO), (1, .int x)] := hl
  refine lv_aload_n hx hb dX6_allowed_0 rfl (lv_at hl 0 rfl) ?_
  refine ga_callV (rest := []) (wr := [(aL, .inl (G.2.2, 12, .inl (aN lv))), (aR, .inr (2, [.ref aD, .int (-1), .int (bI tn), .int (bI po), .int (nI ts), .int (nI hd)])), (aD, .inl (G.2.2, 16, .inl (aN td)))]) cx hK hA w hl lk_X6_102 (c_X6_tooMany l G aO aP aW aK aJ aH aB aR aS aQ num tm sl ss ns aF aT aC aL n k li fa fr to ct (hF) (hRI)) ⟨Nat.le_of_ble_eq_true rfl, Nat.le_of_ble_eq_true rfl⟩ [0, 1, 2, 3, 4, 5, 6] [7, 8, 9] rfl rfl (by decide) (by decide) (by decide) 0 6 rfl rfl rfl rfl (Nat.le_of_ble_eq_true rfl) dX6_allowed_1 ⟨Nat.le_refl _, Nat.le_refl _⟩ rfl (fun r w1_ H_ locs_ hp w => ?_)
  obtain ⟨nu3, tm3, ss3, ns3, hR3, rfl, rfl⟩ := hp
  have w : ga_wd G A_ s_ H_ locs_ [(aO, .inr (6, [.ref aP, .ref aW, .ref aK, .ref aJ, .ref aH, .ref aB, .ref aR])), (aW, .inr (3, [.ref aS, .ref aQ, .int (nI nu3), .int (bI tm3), .int (bI false)])), (aS, .inl (G.2.2, 200, .inl (aN ss3))), (aQ, .inl (G.2.2, 200, .inl (aN ns3))), (aP, .inr (1, [.ref aF, .ref aT, .ref aC, .ref aL, .int (nI n), .int (nI k), .int (nI li), .int (nI fa)])), (aF, .inl (G.2.2, 16, .inl (aN fr))), (aT, .inl (G.2.2, 16, .inl (aN to))), (aL, .inl (G.2.2, 12, .inl (aN lv))), (aR, .inr (2, [.ref aD, .int (-1), .int (bI tn), .int (bI po), .int (nI ts), .int (nI hd)])), (aD, .inl (G.2.2, 16, .inl (aN td)))] := ga_perm w [3, 4, 5, 6, 7, 8, 9, 0, 1, 2] (by decide) rfl
  refine W.eq (g2 := F0 m_ 4 ls [.int (bI tm3)]) rfl ?_
  have hr3 := Rep_f hR3
  refine r_ifb_eq hx hb dX6_allowed_4 (tgt := 9) (by decide) (fun c4 => ?_) (fun c4 => ?_)
  · have htm : ¬ 200 < (WL n k fr to).length := of_decide_eq_false (by rw [← hr3.2.1]; exact c4)
    have hnc := hr3.2.2.1 c4
    refine lv_aload_n hx hb dX6_allowed_9 rfl (lv_at hl 0 rfl) ?_
    refine gf_X6_52 cx hK w 0 rfl rfl dX6_allowed_10 ?_
    refine lv_aload_n hx hb dX6_allowed_13 rfl (lv_at hl 0 rfl) ?_
    refine gf_X6_12 cx hK w 0 rfl rfl dX6_allowed_14 ?_
    refine ga_callV (rest := []) (wr := [(aO, .inr (6, [.ref aP, .ref aW, .ref aK, .ref aJ, .ref aH, .ref aB, .ref aR])), (aW, .inr (3, [.ref aS, .ref aQ, .int (nI nu3), .int (bI tm3), .int (bI false)])), (aS, .inl (G.2.2, 200, .inl (aN ss3))), (aQ, .inl (G.2.2, 200, .inl (aN ns3))), (aT, .inl (G.2.2, 16, .inl (aN to)))]) cx hK hA w hl lk_X6_172 (c_X2_fit0 l G aR aD tn po ts hd td aP aF aT aC aL n k li fa fr lv (hF.2.1) (hF.2.2.1)) ⟨Nat.le_of_ble_eq_true rfl, Nat.le_of_ble_eq_true rfl⟩ [8, 9, 4, 5, 7] [0, 1, 2, 3, 6] rfl rfl (by decide) (by decide) (by decide) 8 2 rfl rfl rfl rfl (Nat.le_of_ble_eq_true rfl) dX6_allowed_17 ⟨Nat.le_refl _, Nat.le_refl _⟩ rfl (fun r w1_ H_ locs_ hp w => ?_)
    obtain ⟨ts5, hd5, ht5, rfl, rfl⟩ := hp
    have w : ga_wd G A_ s_ H_ locs_ [(aO, .inr (6, [.ref aP, .ref aW, .ref aK, .ref aJ, .ref aH, .ref aB, .ref aR])), (aW, .inr (3, [.ref aS, .ref aQ, .int (nI nu3), .int (bI tm3), .int (bI false)])), (aS, .inl (G.2.2, 200, .inl (aN ss3))), (aQ, .inl (G.2.2, 200, .inl (aN ns3))), (aP, .inr (1, [.ref aF, .ref aT, .ref aC, .ref aL, .int (nI n), .int (nI k), .int (nI li), .int (nI fa)])), (aF, .inl (G.2.2, 16, .inl (aN fr))), (aT, .inl (G.2.2, 16, .inl (aN to))), (aL, .inl (G.2.2, 12, .inl (aN lv))), (aR, .inr (2, [.ref aD, .int (-1), .int (bI tn), .int (bI false), .int (nI ts5), .int (nI hd5)])), (aD, .inl (G.2.2, 16, .inl (aN td)))] := ga_perm w [0, 1, 2, 3, 7, 8, 4, 9, 5, 6] (by decide) rfl
    refine W.eq (g2 := F0 m_ 20 ls []) rfl ?_
    refine lv_aload_n hx hb dX6_allowed_20 rfl (lv_at hl 0 rfl) ?_
    refine gf_X6_52 cx hK w 0 rfl rfl dX6_allowed_21 ?_
    refine lv_aload_n hx hb dX6_allowed_24 rfl (lv_at hl 0 rfl) ?_
    refine gf_X6_19 cx hK w 0 rfl rfl dX6_allowed_25 ?_
    refine lv_iload_n hx hb dX6_allowed_28 rfl (lv_at hl 1 rfl) ?_
    refine ga_callV (rest := []) (wr := [(aO, .inr (6, [.ref aP, .ref aW, .ref aK, .ref aJ, .ref aH, .ref aB, .ref aR])), (aP, .inr (1, [.ref aF, .ref aT, .ref aC, .ref aL, .int (nI n), .int (nI k), .int (nI li), .int (nI fa)])), (aF, .inl (G.2.2, 16, .inl (aN fr))), (aT, .inl (G.2.2, 16, .inl (aN to))), (aL, .inl (G.2.2, 12, .inl (aN lv))), (aD, .inl (G.2.2, 16, .inl (aN td)))]) cx hK hA w hl lk_X6_179 (c_X2_memberOf l G aR aD (-1) tn false ts5 hd5 aW aS aQ nu3 tm3 false ss3 ns3 x (by omega) (fun u hu => by rw [(hr3.2.2.2.2 u hu).1]; exact sS_lt16 hF (by omega)) (ht5)) ⟨Nat.le_of_ble_eq_true rfl, Nat.le_of_ble_eq_true rfl⟩ [8, 1, 2, 3] [0, 4, 5, 6, 7, 9] rfl rfl (by decide) (by decide) (by decide) 8 2 rfl rfl rfl rfl (Nat.le_of_ble_eq_true rfl) dX6_allowed_29 ⟨Nat.le_refl _, Nat.le_refl _⟩ rfl (fun r w1_ H_ locs_ hp w => ?_)
    obtain ⟨rfl, rfl⟩ := hp
    have w : ga_wd G A_ s_ H_ locs_ [(aO, .inr (6, [.ref aP, .ref aW, .ref aK, .ref aJ, .ref aH, .ref aB, .ref aR])), (aW, .inr (3, [.ref aS, .ref aQ, .int (nI nu3), .int (bI tm3), .int (bI false)])), (aS, .inl (G.2.2, 200, .inl (aN ss3))), (aQ, .inl (G.2.2, 200, .inl (aN ns3))), (aP, .inr (1, [.ref aF, .ref aT, .ref aC, .ref aL, .int (nI n), .int (nI k), .int (nI li), .int (nI fa)])), (aF, .inl (G.2.2, 16, .inl (aN fr))), (aT, .inl (G.2.2, 16, .inl (aN to))), (aL, .inl (G.2.2, 12, .inl (aN lv))), (aR, .inr (2, [.ref aD, .int (-1), .int (bI tn), .int (bI false), .int (nI ts5), .int (nI hd5)])), (aD, .inl (G.2.2, 16, .inl (aN td)))] := ga_perm w [0, 7, 8, 9, 1, 2, 3, 4, 6, 5] (by decide) rfl
    refine W.eq (g2 := F0 m_ 32 ls [.int (nth ((fl (fun i => alw false ts5 hd5 (ss3 i)) nu3).map nI) x)]) rfl ?_
    have hal0 : fl (fun i => alw false ts5 hd5 (ss3 i)) nu3 = [] := List.filter_eq_nil_iff.mpr (fun i _ => by simp [alw])
    exact ga_iret cx hr hlk w dX6_allowed_32 ⟨Nat.le_refl _, Nat.le_refl _⟩ (⟨nu3, tm3, ss3, ns3, false, ts5, hd5, hR3, ga_rv (by rw [hal0]; exact nth_miss (by decide) (fun u hu => absurd hu (Nat.not_lt_zero _))), rfl⟩)
  · refine lv_iconst (v := (-1)) hx hb dX6_allowed_7 (by decide) ?_
    exact ga_iret cx hr hlk w dX6_allowed_8 ⟨Nat.le_refl _, Nat.le_refl _⟩ (⟨nu3, tm3, ss3, ns3, po, ts, hd, hR3, rfl, rfl⟩)

set_option maxHeartbeats 4000000 in
set_option maxRecDepth 100000 in
theorem c_X6_found_x (l : Launch) (G : ga_G) (aO : Nat) (x : Int32) (hno : inB x 4 = false) : ga_M l G yX6_found cX6_found 5 (Option.some Jvm.ClassFile.FieldType.int) 0 0 0 0 [.ref aO, .int x] [] (fun r w => r = some (.int (-1)) ∧ w = []) := by
  refine ga_M.intro (by decide) (Nat.le_of_ble_eq_true rfl) (fun p_ e_ s_ m_ below meth c_ A_ H_ locs_ ls cx hr hlk hnm hA hK hl w => ?_)
  have hx := cx.1
  have hb := cx.2.1
  have hl : lv_has ls 5 [(0, .ref aO), (1, .int x)] := hl
  refine lv_iload_n hx hb dX6_found_0 rfl (lv_at hl 1 rfl) ?_
  refine lv_if_lt hx hb dX6_found_1 (tgt := 16) (by decide) (fun c1 => ?_) (fun c1 => ?_)
  · refine lv_iconst (v := (-1)) hx hb dX6_found_16 (by decide) ?_
    exact ga_iret cx hr hlk w dX6_found_17 ⟨Nat.le_refl _, Nat.le_refl _⟩ (⟨rfl, rfl⟩)
  · refine lv_iload_n hx hb dX6_found_4 rfl (lv_at hl 1 rfl) ?_
    refine lv_iconst (v := nI 3) hx hb dX6_found_5 (by decide) ?_
    refine lv_icmp_gt hx hb dX6_found_6 (tgt := 16) (by decide) (fun c6 => ?_) (fun c6 => ?_)
    · refine lv_iconst (v := (-1)) hx hb dX6_found_16 (by decide) ?_
      exact ga_iret cx hr hlk w dX6_found_17 ⟨Nat.le_refl _, Nat.le_refl _⟩ (⟨rfl, rfl⟩)
    · rw [inB_1 (by decide) c1 (i32_n3 c6)] at hno; cases hno

set_option maxHeartbeats 4000000 in
set_option maxRecDepth 100000 in
theorem c_X6_found0 (l : Launch) (G : ga_G) (aO : Nat) (aP : Nat) (aW : Nat) (aK : Nat) (aJ : Nat) (aH : Nat) (aB : Nat) (aR : Nat) (aS : Nat) (aQ : Nat) (num : Nat) (tm : Bool) (sl : Bool) (ss : Nat → Nat) (ns : Nat → Nat) (aF : Nat) (aT : Nat) (aC : Nat) (aL : Nat) (n : Nat) (k : Nat) (li : Nat) (fa : Nat) (fr : Nat → Nat) (to : Nat → Nat) (ct : Nat → Nat) (lv : Nat → Nat) (aD : Nat) (rl : Int32) (tn : Bool) (po : Bool) (ts : Nat) (hd : Nat) (td : Nat → Nat) (y : Nat) (hF : Flow n k fr to ct) (hRI : sl = false → Rep to (WL n k fr to) num tm ss ns) (hLv : Leav k fr lv) (hli : li < 2 ^ k) (hy : y < 4) : ga_M l G yX6_found cX6_found 5 (Option.some Jvm.ClassFile.FieldType.int) 16 419 0 0 [.ref aO, .int (nI y)] [(aO, .inr (6, [.ref aP, .ref aW, .ref aK, .ref aJ, .ref aH, .ref aB, .ref aR])), (aW, .inr (3, [.ref aS, .ref aQ, .int (nI num), .int (bI tm), .int (bI sl)])), (aS, .inl (G.2.2, 200, .inl (aN ss))), (aQ, .inl (G.2.2, 200, .inl (aN ns))), (aP, .inr (1, [.ref aF, .ref aT, .ref aC, .ref aL, .int (nI n), .int (nI k), .int (nI li), .int (nI fa)])), (aF, .inl (G.2.2, 16, .inl (aN fr))), (aT, .inl (G.2.2, 16, .inl (aN to))), (aL, .inl (G.2.2, 12, .inl (aN lv))), (aR, .inr (2, [.ref aD, .int (-1), .int (bI tn), .int (bI po), .int (nI ts), .int (nI hd)])), (aD, .inl (G.2.2, 16, .inl (aN td)))] (fun r w => ∃ (num2 : Nat), ∃ (tm2 : Bool), ∃ (ss2 : Nat → Nat), ∃ (ns2 : Nat → Nat), ∃ (po2 : Bool), ∃ (ts2 : Nat), ∃ (hd2 : Nat), (Rep to (WL n k fr to) num2 tm2 ss2 ns2) ∧ r = some (.int (-1)) ∧ w = [(aO, .inr (6, [.ref aP, .ref aW, .ref aK, .ref aJ, .ref aH, .ref aB, .ref aR])), (aW, .inr (3, [.ref aS, .ref aQ, .int (nI num2), .int (bI tm2), .int (bI false)])), (aS, .inl (G.2.2, 200, .inl (aN ss2))), (aQ, .inl (G.2.2, 200, .inl (aN ns2))), (aP, .inr (1, [.ref aF, .ref aT, .ref aC, .ref aL, .int (nI n), .int (nI k), .int (nI li), .int (nI fa)])), (aF, .inl (G.2.2, 16, .inl (aN fr))), (aT, .inl (G.2.2, 16, .inl (aN to))), (aL, .inl (G.2.2, 12, .inl (aN lv))), (aR, .inr (2, [.ref aD, .int (-1), .int (bI tn), .int (bI po2), .int (nI ts2), .int (nI hd2)])), (aD, .inl (G.2.2, 16, .inl (aN td)))]) := by
  refine ga_M.intro (by decide) (Nat.le_of_ble_eq_true rfl) (fun p_ e_ s_ m_ below meth c_ A_ H_ locs_ ls cx hr hlk hnm hA hK hl w => ?_)
  have hx := cx.1
  have hb := cx.2.1
  have hl : lv_has ls 5 [(0, .ref aO), (1, .int (nI y))] := hl
  refine lv_iload_n hx hb dX6_found_0 rfl (lv_at hl 1 rfl) ?_
  refine r_if_lt hx hb dX6_found_1 (tgt := 16) (by decide) (by omega) (fun c1 => ?_) (fun c1 => ?_)
  · omega
  · refine lv_iload_n hx hb dX6_found_4 rfl (lv_at hl 1 rfl) ?_
    refine lv_iconst (v := nI 3) hx hb dX6_found_5 (by decide) ?_
    refine r_icmp_gt hx hb dX6_found_6 (tgt := 16) (by decide) (by omega) (by omega) (fun c6 => ?_) (fun c6 => ?_)
    · omega
    · refine lv_aload_n hx hb dX6_found_9 rfl (lv_at hl 0 rfl) ?_
      refine ga_callV (rest := []) (wr := [(aL, .inl (G.2.2, 12, .inl (aN lv))), (aR, .inr (2, [.ref aD, .int (-1), .int (bI tn), .int (bI po), .int (nI ts), .int (nI hd)])), (aD, .inl (G.2.2, 16, .inl (aN td)))]) cx hK hA w hl lk_X6_102 (c_X6_tooMany l G aO aP aW aK aJ aH aB aR aS aQ num tm sl ss ns aF aT aC aL n k li fa fr to ct (hF) (hRI)) ⟨Nat.le_of_ble_eq_true rfl, Nat.le_of_ble_eq_true rfl⟩ [0, 1, 2, 3, 4, 5, 6] [7, 8, 9] rfl rfl (by decide) (by decide) (by decide) 0 6 rfl rfl rfl rfl (Nat.le_of_ble_eq_true rfl) dX6_found_10 ⟨Nat.le_refl _, Nat.le_refl _⟩ rfl (fun r w1_ H_ locs_ hp w => ?_)
      obtain ⟨nu3, tm3, ss3, ns3, hR3, rfl, rfl⟩ := hp
      have w : ga_wd G A_ s_ H_ locs_ [(aO, .inr (6, [.ref aP, .ref aW, .ref aK, .ref aJ, .ref aH, .ref aB, .ref aR])), (aW, .inr (3, [.ref aS, .ref aQ, .int (nI nu3), .int (bI tm3), .int (bI false)])), (aS, .inl (G.2.2, 200, .inl (aN ss3))), (aQ, .inl (G.2.2, 200, .inl (aN ns3))), (aP, .inr (1, [.ref aF, .ref aT, .ref aC, .ref aL, .int (nI n), .int (nI k), .int (nI li), .int (nI fa)])), (aF, .inl (G.2.2, 16, .inl (aN fr))), (aT, .inl (G.2.2, 16, .inl (aN to))), (aL, .inl (G.2.2, 12, .inl (aN lv))), (aR, .inr (2, [.ref aD, .int (-1), .int (bI tn), .int (bI po), .int (nI ts), .int (nI hd)])), (aD, .inl (G.2.2, 16, .inl (aN td)))] := ga_perm w [3, 4, 5, 6, 7, 8, 9, 0, 1, 2] (by decide) rfl
      refine W.eq (g2 := F0 m_ 13 ls [.int (bI tm3)]) rfl ?_
      have hr3 := Rep_f hR3
      refine r_ifb_eq hx hb dX6_found_13 (tgt := 18) (by decide) (fun c13 => ?_) (fun c13 => ?_)
      · have htm : ¬ 200 < (WL n k fr to).length := of_decide_eq_false (by rw [← hr3.2.1]; exact c13)
        have hnc := hr3.2.2.1 c13
        refine lv_aload_n hx hb dX6_found_18 rfl (lv_at hl 0 rfl) ?_
        refine gf_X6_52 cx hK w 0 rfl rfl dX6_found_19 ?_
        refine lv_aload_n hx hb dX6_found_22 rfl (lv_at hl 0 rfl) ?_
        refine gf_X6_12 cx hK w 0 rfl rfl dX6_found_23 ?_
        refine ga_callV (rest := []) (wr := [(aO, .inr (6, [.ref aP, .ref aW, .ref aK, .ref aJ, .ref aH, .ref aB, .ref aR])), (aW, .inr (3, [.ref aS, .ref aQ, .int (nI nu3), .int (bI tm3), .int (bI false)])), (aS, .inl (G.2.2, 200, .inl (aN ss3))), (aQ, .inl (G.2.2, 200, .inl (aN ns3))), (aT, .inl (G.2.2, 16, .inl (aN to)))]) cx hK hA w hl lk_X6_172 (c_X2_fit0 l G aR aD tn po ts hd td aP aF aT aC aL n k li fa fr lv (hF.2.1) (hF.2.2.1)) ⟨Nat.le_of_ble_eq_true rfl, Nat.le_of_ble_eq_true rfl⟩ [8, 9, 4, 5, 7] [0, 1, 2, 3, 6] rfl rfl (by decide) (by decide) (by decide) 8 2 rfl rfl rfl rfl (Nat.le_of_ble_eq_true rfl) dX6_found_26 ⟨Nat.le_refl _, Nat.le_refl _⟩ rfl (fun r w1_ H_ locs_ hp w => ?_)
        obtain ⟨ts5, hd5, ht5, rfl, rfl⟩ := hp
        have w : ga_wd G A_ s_ H_ locs_ [(aO, .inr (6, [.ref aP, .ref aW, .ref aK, .ref aJ, .ref aH, .ref aB, .ref aR])), (aW, .inr (3, [.ref aS, .ref aQ, .int (nI nu3), .int (bI tm3), .int (bI false)])), (aS, .inl (G.2.2, 200, .inl (aN ss3))), (aQ, .inl (G.2.2, 200, .inl (aN ns3))), (aP, .inr (1, [.ref aF, .ref aT, .ref aC, .ref aL, .int (nI n), .int (nI k), .int (nI li), .int (nI fa)])), (aF, .inl (G.2.2, 16, .inl (aN fr))), (aT, .inl (G.2.2, 16, .inl (aN to))), (aL, .inl (G.2.2, 12, .inl (aN lv))), (aR, .inr (2, [.ref aD, .int (-1), .int (bI tn), .int (bI false), .int (nI ts5), .int (nI hd5)])), (aD, .inl (G.2.2, 16, .inl (aN td)))] := ga_perm w [0, 1, 2, 3, 7, 8, 4, 9, 5, 6] (by decide) rfl
        refine W.eq (g2 := F0 m_ 29 ls []) rfl ?_
        refine lv_aload_n hx hb dX6_found_29 rfl (lv_at hl 0 rfl) ?_
        refine gf_X6_52 cx hK w 0 rfl rfl dX6_found_30 ?_
        refine lv_aload_n hx hb dX6_found_33 rfl (lv_at hl 0 rfl) ?_
        refine gf_X6_19 cx hK w 0 rfl rfl dX6_found_34 ?_
        refine ga_callV (rest := []) (wr := [(aO, .inr (6, [.ref aP, .ref aW, .ref aK, .ref aJ, .ref aH, .ref aB, .ref aR])), (aP, .inr (1, [.ref aF, .ref aT, .ref aC, .ref aL, .int (nI n), .int (nI k), .int (nI li), .int (nI fa)])), (aF, .inl (G.2.2, 16, .inl (aN fr))), (aT, .inl (G.2.2, 16, .inl (aN to))), (aL, .inl (G.2.2, 12, .inl (aN lv))), (aD, .inl (G.2.2, 16, .inl (aN td)))]) cx hK hA w hl lk_X6_175 (c_X2_howManyOf l G aR aD (-1) tn false ts5 hd5 aW aS aQ nu3 tm3 false ss3 ns3 (by omega) (fun u hu => by rw [(hr3.2.2.2.2 u hu).1]; exact sS_lt16 hF (by omega)) (ht5)) ⟨Nat.le_of_ble_eq_true rfl, Nat.le_of_ble_eq_true rfl⟩ [8, 1, 2, 3] [0, 4, 5, 6, 7, 9] rfl rfl (by decide) (by decide) (by decide) 8 2 rfl rfl rfl rfl (Nat.le_of_ble_eq_true rfl) dX6_found_37 ⟨Nat.le_refl _, Nat.le_refl _⟩ rfl (fun r w1_ H_ locs_ hp w => ?_)
        obtain ⟨rfl, rfl⟩ := hp
        have w : ga_wd G A_ s_ H_ locs_ [(aO, .inr (6, [.ref aP, .ref aW, .ref aK, .ref aJ, .ref aH, .ref aB, .ref aR])), (aW, .inr (3, [.ref aS, .ref aQ, .int (nI nu3), .int (bI tm3), .int (bI false)])), (aS, .inl (G.2.2, 200, .inl (aN ss3))), (aQ, .inl (G.2.2, 200, .inl (aN ns3))), (aP, .inr (1, [.ref aF, .ref aT, .ref aC, .ref aL, .int (nI n), .int (nI k), .int (nI li), .int (nI fa)])), (aF, .inl (G.2.2, 16, .inl (aN fr))), (aT, .inl (G.2.2, 16, .inl (aN to))), (aL, .inl (G.2.2, 12, .inl (aN lv))), (aR, .inr (2, [.ref aD, .int (-1), .int (bI tn), .int (bI false), .int (nI ts5), .int (nI hd5)])), (aD, .inl (G.2.2, 16, .inl (aN td)))] := ga_perm w [0, 7, 8, 9, 1, 2, 3, 4, 6, 5] (by decide) rfl
        refine W.eq (g2 := F0 m_ 40 ls [.int (nI ((fl (fun i => alw false ts5 hd5 (ss3 i)) nu3).length))]) rfl ?_
        have hal0 : fl (fun i => alw false ts5 hd5 (ss3 i)) nu3 = [] := List.filter_eq_nil_iff.mpr (fun i _ => by simp [alw])
        have hal1 : (fl (fun i => alw false ts5 hd5 (ss3 i)) nu3).length = 0 := by rw [hal0]; rfl
        refine r_if_ne hx hb dX6_found_40 (tgt := 45) (by decide) (by omega) (fun c40 => ?_) (fun c40 => ?_)
        · exact absurd hal1 c40
        · refine lv_iconst (v := (-1)) hx hb dX6_found_43 (by decide) ?_
          exact ga_iret cx hr hlk w dX6_found_44 ⟨Nat.le_refl _, Nat.le_refl _⟩ (⟨nu3, tm3, ss3, ns3, false, ts5, hd5, hR3, rfl, rfl⟩)
      · refine lv_iconst (v := (-1)) hx hb dX6_found_16 (by decide) ?_
        exact ga_iret cx hr hlk w dX6_found_17 ⟨Nat.le_refl _, Nat.le_refl _⟩ (⟨nu3, tm3, ss3, ns3, po, ts, hd, hR3, rfl, rfl⟩)

set_option maxHeartbeats 4000000 in
set_option maxRecDepth 100000 in
theorem c_X6_found (l : Launch) (G : ga_G) (aO : Nat) (aP : Nat) (aW : Nat) (aK : Nat) (aJ : Nat) (aH : Nat) (aB : Nat) (aR : Nat) (aS : Nat) (aQ : Nat) (num : Nat) (tm : Bool) (sl : Bool) (ss : Nat → Nat) (ns : Nat → Nat) (aF : Nat) (aT : Nat) (aC : Nat) (aL : Nat) (n : Nat) (k : Nat) (li : Nat) (fa : Nat) (fr : Nat → Nat) (to : Nat → Nat) (ct : Nat → Nat) (lv : Nat → Nat) (aD : Nat) (rl : Int32) (tn : Bool) (po : Bool) (ts : Nat) (hd : Nat) (td : Nat → Nat) (L : Nat) (y : Nat) (hF : Flow n k fr to ct) (hRI : sl = false → Rep to (WL n k fr to) num tm ss ns) (hLv : Leav k fr lv) (hli : li < 2 ^ k) (hL : L ≤ 16) (htd : ∀ j, j < L → td j < 256) (hy : y < 4) (hfa : fa < 65536) : ga_M l G yX6_found cX6_found 5 (Option.some Jvm.ClassFile.FieldType.int) 16 419 0 0 [.ref aO, .int (nI y)] [(aO, .inr (6, [.ref aP, .ref aW, .ref aK, .ref aJ, .ref aH, .ref aB, .ref aR])), (aW, .inr (3, [.ref aS, .ref aQ, .int (nI num), .int (bI tm), .int (bI sl)])), (aS, .inl (G.2.2, 200, .inl (aN ss))), (aQ, .inl (G.2.2, 200, .inl (aN ns))), (aP, .inr (1, [.ref aF, .ref aT, .ref aC, .ref aL, .int (nI n), .int (nI k), .int (nI li), .int (nI fa)])), (aF, .inl (G.2.2, 16, .inl (aN fr))), (aT, .inl (G.2.2, 16, .inl (aN to))), (aL, .inl (G.2.2, 12, .inl (aN lv))), (aR, .inr (2, [.ref aD, .int (nI L), .int (bI tn), .int (bI po), .int (nI ts), .int (nI hd)])), (aD, .inl (G.2.2, 16, .inl (aN td)))] (fun r w => ∃ (num2 : Nat), ∃ (tm2 : Bool), ∃ (ss2 : Nat → Nat), ∃ (ns2 : Nat → Nat), ∃ (po2 : Bool), ∃ (ts2 : Nat), ∃ (hd2 : Nat), (Rep to (WL n k fr to) num2 tm2 ss2 ns2) ∧ r = some (.int (sFound (WL n k fr to) to li fa L tn td y)) ∧ w = [(aO, .inr (6, [.ref aP, .ref aW, .ref aK, .ref aJ, .ref aH, .ref aB, .ref aR])), (aW, .inr (3, [.ref aS, .ref aQ, .int (nI num2), .int (bI tm2), .int (bI false)])), (aS, .inl (G.2.2, 200, .inl (aN ss2))), (aQ, .inl (G.2.2, 200, .inl (aN ns2))), (aP, .inr (1, [.ref aF, .ref aT, .ref aC, .ref aL, .int (nI n), .int (nI k), .int (nI li), .int (nI fa)])), (aF, .inl (G.2.2, 16, .inl (aN fr))), (aT, .inl (G.2.2, 16, .inl (aN to))), (aL, .inl (G.2.2, 12, .inl (aN lv))), (aR, .inr (2, [.ref aD, .int (nI L), .int (bI tn), .int (bI po2), .int (nI ts2), .int (nI hd2)])), (aD, .inl (G.2.2, 16, .inl (aN td)))]) := by
  refine ga_M.intro (by decide) (Nat.le_of_ble_eq_true rfl) (fun p_ e_ s_ m_ below meth c_ A_ H_ locs_ ls cx hr hlk hnm hA hK hl w => ?_)
  have hx := cx.1
  have hb := cx.2.1
  have hl : lv_has ls 5 [(0, .ref aO), (1, .int (nI y))] := hl
  refine lv_iload_n hx hb dX6_found_0 rfl (lv_at hl 1 rfl) ?_
  refine r_if_lt hx hb dX6_found_1 (tgt := 16) (by decide) (by omega) (fun c1 => ?_) (fun c1 => ?_)
  · omega
  · refine lv_iload_n hx hb dX6_found_4 rfl (lv_at hl 1 rfl) ?_
    refine lv_iconst (v := nI 3) hx hb dX6_found_5 (by decide) ?_
    refine r_icmp_gt hx hb dX6_found_6 (tgt := 16) (by decide) (by omega) (by omega) (fun c6 => ?_) (fun c6 => ?_)
    · omega
    · refine lv_aload_n hx hb dX6_found_9 rfl (lv_at hl 0 rfl) ?_
      refine ga_callV (rest := []) (wr := [(aL, .inl (G.2.2, 12, .inl (aN lv))), (aR, .inr (2, [.ref aD, .int (nI L), .int (bI tn), .int (bI po), .int (nI ts), .int (nI hd)])), (aD, .inl (G.2.2, 16, .inl (aN td)))]) cx hK hA w hl lk_X6_102 (c_X6_tooMany l G aO aP aW aK aJ aH aB aR aS aQ num tm sl ss ns aF aT aC aL n k li fa fr to ct (hF) (hRI)) ⟨Nat.le_of_ble_eq_true rfl, Nat.le_of_ble_eq_true rfl⟩ [0, 1, 2, 3, 4, 5, 6] [7, 8, 9] rfl rfl (by decide) (by decide) (by decide) 0 6 rfl rfl rfl rfl (Nat.le_of_ble_eq_true rfl) dX6_found_10 ⟨Nat.le_refl _, Nat.le_refl _⟩ rfl (fun r w1_ H_ locs_ hp w => ?_)
      obtain ⟨nu3, tm3, ss3, ns3, hR3, rfl, rfl⟩ := hp
      have w : ga_wd G A_ s_ H_ locs_ [(aO, .inr (6, [.ref aP, .ref aW, .ref aK, .ref aJ, .ref aH, .ref aB, .ref aR])), (aW, .inr (3, [.ref aS, .ref aQ, .int (nI nu3), .int (bI tm3), .int (bI false)])), (aS, .inl (G.2.2, 200, .inl (aN ss3))), (aQ, .inl (G.2.2, 200, .inl (aN ns3))), (aP, .inr (1, [.ref aF, .ref aT, .ref aC, .ref aL, .int (nI n), .int (nI k), .int (nI li), .int (nI fa)])), (aF, .inl (G.2.2, 16, .inl (aN fr))), (aT, .inl (G.2.2, 16, .inl (aN to))), (aL, .inl (G.2.2, 12, .inl (aN lv))), (aR, .inr (2, [.ref aD, .int (nI L), .int (bI tn), .int (bI po), .int (nI ts), .int (nI hd)])), (aD, .inl (G.2.2, 16, .inl (aN td)))] := ga_perm w [3, 4, 5, 6, 7, 8, 9, 0, 1, 2] (by decide) rfl
      refine W.eq (g2 := F0 m_ 13 ls [.int (bI tm3)]) rfl ?_
      have hr3 := Rep_f hR3
      refine r_ifb_eq hx hb dX6_found_13 (tgt := 18) (by decide) (fun c13 => ?_) (fun c13 => ?_)
      · have htm : ¬ 200 < (WL n k fr to).length := of_decide_eq_false (by rw [← hr3.2.1]; exact c13)
        have hnc := hr3.2.2.1 c13
        refine lv_aload_n hx hb dX6_found_18 rfl (lv_at hl 0 rfl) ?_
        refine gf_X6_52 cx hK w 0 rfl rfl dX6_found_19 ?_
        refine lv_aload_n hx hb dX6_found_22 rfl (lv_at hl 0 rfl) ?_
        refine gf_X6_12 cx hK w 0 rfl rfl dX6_found_23 ?_
        refine ga_callV (rest := []) (wr := [(aO, .inr (6, [.ref aP, .ref aW, .ref aK, .ref aJ, .ref aH, .ref aB, .ref aR])), (aW, .inr (3, [.ref aS, .ref aQ, .int (nI nu3), .int (bI tm3), .int (bI false)])), (aS, .inl (G.2.2, 200, .inl (aN ss3))), (aQ, .inl (G.2.2, 200, .inl (aN ns3))), (aT, .inl (G.2.2, 16, .inl (aN to)))]) cx hK hA w hl lk_X6_172 (c_X2_fit l G aR aD L tn po ts hd td aP aF aT aC aL n k li fa fr lv (hL) (hF.2.1) (hF.2.2.1) (htd) (fun e he => by have := hF.2.2.2.1 e he; omega)) ⟨Nat.le_of_ble_eq_true rfl, Nat.le_of_ble_eq_true rfl⟩ [8, 9, 4, 5, 7] [0, 1, 2, 3, 6] rfl rfl (by decide) (by decide) (by decide) 8 2 rfl rfl rfl rfl (Nat.le_of_ble_eq_true rfl) dX6_found_26 ⟨Nat.le_refl _, Nat.le_refl _⟩ rfl (fun r w1_ H_ locs_ hp w => ?_)
        obtain ⟨po5, ts5, hd5, hF5, ht5, rfl, rfl⟩ := hp
        have w : ga_wd G A_ s_ H_ locs_ [(aO, .inr (6, [.ref aP, .ref aW, .ref aK, .ref aJ, .ref aH, .ref aB, .ref aR])), (aW, .inr (3, [.ref aS, .ref aQ, .int (nI nu3), .int (bI tm3), .int (bI false)])), (aS, .inl (G.2.2, 200, .inl (aN ss3))), (aQ, .inl (G.2.2, 200, .inl (aN ns3))), (aP, .inr (1, [.ref aF, .ref aT, .ref aC, .ref aL, .int (nI n), .int (nI k), .int (nI li), .int (nI fa)])), (aF, .inl (G.2.2, 16, .inl (aN fr))), (aT, .inl (G.2.2, 16, .inl (aN to))), (aL, .inl (G.2.2, 12, .inl (aN lv))), (aR, .inr (2, [.ref aD, .int (nI L), .int (bI tn), .int (bI po5), .int (nI ts5), .int (nI hd5)])), (aD, .inl (G.2.2, 16, .inl (aN td)))] := ga_perm w [0, 1, 2, 3, 7, 8, 4, 9, 5, 6] (by decide) rfl
        refine W.eq (g2 := F0 m_ 29 ls []) rfl ?_
        have hal : ∀ i, i < nu3 → alw po5 ts5 hd5 (ss3 i) = alS li L tn td ((WL n k fr to).getD i []) := fun i hi => by rw [(hr3.2.2.2.2 i hi).1, show sS (WL n k fr to) i = bs ((WL n k fr to).getD i []) from rfl, fit_al hF hLv hli hF5 (WL_pth hF (getD_mem (by omega)))]
        refine lv_aload_n hx hb dX6_found_29 rfl (lv_at hl 0 rfl) ?_
        refine gf_X6_52 cx hK w 0 rfl rfl dX6_found_30 ?_
        refine lv_aload_n hx hb dX6_found_33 rfl (lv_at hl 0 rfl) ?_
        refine gf_X6_19 cx hK w 0 rfl rfl dX6_found_34 ?_
        refine ga_callV (rest := []) (wr := [(aO, .inr (6, [.ref aP, .ref aW, .ref aK, .ref aJ, .ref aH, .ref aB, .ref aR])), (aP, .inr (1, [.ref aF, .ref aT, .ref aC, .ref aL, .int (nI n), .int (nI k), .int (nI li), .int (nI fa)])), (aF, .inl (G.2.2, 16, .inl (aN fr))), (aT, .inl (G.2.2, 16, .inl (aN to))), (aL, .inl (G.2.2, 12, .inl (aN lv))), (aD, .inl (G.2.2, 16, .inl (aN td)))]) cx hK hA w hl lk_X6_175 (c_X2_howManyOf l G aR aD (nI L) tn po5 ts5 hd5 aW aS aQ nu3 tm3 false ss3 ns3 (by omega) (fun u hu => by rw [(hr3.2.2.2.2 u hu).1]; exact sS_lt16 hF (by omega)) (ht5)) ⟨Nat.le_of_ble_eq_true rfl, Nat.le_of_ble_eq_true rfl⟩ [8, 1, 2, 3] [0, 4, 5, 6, 7, 9] rfl rfl (by decide) (by decide) (by decide) 8 2 rfl rfl rfl rfl (Nat.le_of_ble_eq_true rfl) dX6_found_37 ⟨Nat.le_refl _, Nat.le_refl _⟩ rfl (fun r w1_ H_ locs_ hp w => ?_)
        obtain ⟨rfl, rfl⟩ := hp
        have w : ga_wd G A_ s_ H_ locs_ [(aO, .inr (6, [.ref aP, .ref aW, .ref aK, .ref aJ, .ref aH, .ref aB, .ref aR])), (aW, .inr (3, [.ref aS, .ref aQ, .int (nI nu3), .int (bI tm3), .int (bI false)])), (aS, .inl (G.2.2, 200, .inl (aN ss3))), (aQ, .inl (G.2.2, 200, .inl (aN ns3))), (aP, .inr (1, [.ref aF, .ref aT, .ref aC, .ref aL, .int (nI n), .int (nI k), .int (nI li), .int (nI fa)])), (aF, .inl (G.2.2, 16, .inl (aN fr))), (aT, .inl (G.2.2, 16, .inl (aN to))), (aL, .inl (G.2.2, 12, .inl (aN lv))), (aR, .inr (2, [.ref aD, .int (nI L), .int (bI tn), .int (bI po5), .int (nI ts5), .int (nI hd5)])), (aD, .inl (G.2.2, 16, .inl (aN td)))] := ga_perm w [0, 7, 8, 9, 1, 2, 3, 4, 6, 5] (by decide) rfl
        refine W.eq (g2 := F0 m_ 40 ls [.int (nI ((fl (fun i => alw po5 ts5 hd5 (ss3 i)) nu3).length))]) rfl ?_
        have hfl := fl_congr hal
        have hfc := fl_le (fun i => alw po5 ts5 hd5 (ss3 i)) nu3
        refine r_if_ne hx hb dX6_found_40 (tgt := 45) (by decide) (by omega) (fun c40 => ?_) (fun c40 => ?_)
        · have hne : ¬ (fl (fun i => alS li L tn td ((WL n k fr to).getD i [])) (WL n k fr to).length).length = 0 := by rw [← hnc, ← hfl]; exact c40
          have hp2 : 2 ^ k ≤ 2 ^ 16 := Nat.pow_le_pow_right (by decide) hF.2.2.1
          refine lv_iload_n hx hb dX6_found_45 rfl (lv_at hl 1 rfl) ?_
          refine lv_iconst (v := nI 2) hx hb dX6_found_46 (by decide) ?_
          refine r_icmp_ge hx hb dX6_found_47 (tgt := 60) (by decide) (by omega) (by omega) (fun c47 => ?_) (fun c47 => ?_)
          · refine lv_aload_n hx hb dX6_found_60 rfl (lv_at hl 0 rfl) ?_
            refine gf_X6_19 cx hK w 0 rfl rfl dX6_found_61 ?_
            refine gf_X6_183 cx hK w 1 rfl rfl dX6_found_64 ?_
            refine lv_astore_n (lv' := [(2, .ref aQ), (0, .ref aO), (1, .int (nI y))]) hx hb dX6_found_67 rfl hl (by decide) rfl (fun ls hl => ?_)
            refine lv_iload_n hx hb dX6_found_68 rfl (lv_at hl 2 rfl) ?_
            refine lv_iconst (v := nI 2) hx hb dX6_found_69 (by decide) ?_
            refine r_icmp_ge hx hb dX6_found_70 (tgt := 83) (by decide) (by omega) (by omega) (fun c70 => ?_) (fun c70 => ?_)
            · refine lv_aload_n hx hb dX6_found_83 rfl (lv_at hl 1 rfl) ?_
              refine gf_X6_12 cx hK w 0 rfl rfl dX6_found_84 ?_
              refine gf_X6_95 cx hK w 4 rfl rfl dX6_found_87 ?_
              refine lv_istore_n (lv' := [(3, .int (nI fa)), (2, .ref aQ), (0, .ref aO), (1, .int (nI y))]) hx hb dX6_found_90 rfl hl (by decide) rfl (fun ls hl => ?_)
              refine lv_iload_n hx hb dX6_found_91 rfl (lv_at hl 3 rfl) ?_
              refine lv_iconst (v := nI 2) hx hb dX6_found_92 (by decide) ?_
              refine lv_irem hx hb dX6_found_93 (by decide) ?_
              refine r_topi (y := nI (y % 2)) (by rw [pk_rem (by omega) (by decide) (by decide)]) ?_
              refine r_if_ne hx hb dX6_found_94 (tgt := 101) (by decide) (by omega) (fun c94 => ?_) (fun c94 => ?_)
              · refine lv_iconst (v := nI 0) hx hb dX6_found_101 (by decide) ?_
                refine lv_istore (lv' := [(4, .int (nI 0)), (3, .int (nI fa)), (2, .ref aQ), (0, .ref aO), (1, .int (nI y))]) hx hb dX6_found_102 hl (by decide) rfl (fun ls hl => ?_)
                refine lv_iload_n hx hb dX6_found_104 rfl (lv_at hl 1 rfl) ?_
                refine lv_iload hx hb dX6_found_105 (lv_at hl 0 rfl) ?_
                refine r_if_eq hx hb dX6_found_107 (tgt := 125) (by decide) (by decide) (fun c107 => ?_) (fun c107 => ?_)
                · refine lv_aload_n hx hb dX6_found_125 rfl (lv_at hl 3 rfl) ?_
                  refine gf_X6_52 cx hK w 0 rfl rfl dX6_found_126 ?_
                  refine lv_aload_n hx hb dX6_found_129 rfl (lv_at hl 3 rfl) ?_
                  refine gf_X6_19 cx hK w 0 rfl rfl dX6_found_130 ?_
                  refine lv_aload_n hx hb dX6_found_133 rfl (lv_at hl 2 rfl) ?_
                  refine ga_callV (rest := [.int (nI fa)]) (wr := [(aO, .inr (6, [.ref aP, .ref aW, .ref aK, .ref aJ, .ref aH, .ref aB, .ref aR])), (aP, .inr (1, [.ref aF, .ref aT, .ref aC, .ref aL, .int (nI n), .int (nI k), .int (nI li), .int (nI fa)])), (aF, .inl (G.2.2, 16, .inl (aN fr))), (aT, .inl (G.2.2, 16, .inl (aN to))), (aL, .inl (G.2.2, 12, .inl (aN lv))), (aD, .inl (G.2.2, 16, .inl (aN td)))]) cx hK hA w hl lk_X6_190 (c_X2_inSomeN l G aR aD (nI L) tn po5 ts5 hd5 aW aS aQ nu3 tm3 false ss3 ns3 (by omega) (fun u hu => by rw [(hr3.2.2.2.2 u hu).1]; exact sS_lt16 hF (by omega)) (ht5)) ⟨Nat.le_of_ble_eq_true rfl, Nat.le_of_ble_eq_true rfl⟩ [8, 1, 2, 3] [0, 4, 5, 6, 7, 9] rfl rfl (by decide) (by decide) (by decide) 8 2 rfl rfl rfl rfl (Nat.le_of_ble_eq_true rfl) dX6_found_134 ⟨Nat.le_refl _, Nat.le_refl _⟩ rfl (fun r w1_ H_ locs_ hp w => ?_)
                  obtain ⟨rfl, rfl⟩ := hp
                  have w : ga_wd G A_ s_ H_ locs_ [(aO, .inr (6, [.ref aP, .ref aW, .ref aK, .ref aJ, .ref aH, .ref aB, .ref aR])), (aW, .inr (3, [.ref aS, .ref aQ, .int (nI nu3), .int (bI tm3), .int (bI false)])), (aS, .inl (G.2.2, 200, .inl (aN ss3))), (aQ, .inl (G.2.2, 200, .inl (aN ns3))), (aP, .inr (1, [.ref aF, .ref aT, .ref aC, .ref aL, .int (nI n), .int (nI k), .int (nI li), .int (nI fa)])), (aF, .inl (G.2.2, 16, .inl (aN fr))), (aT, .inl (G.2.2, 16, .inl (aN to))), (aL, .inl (G.2.2, 12, .inl (aN lv))), (aR, .inr (2, [.ref aD, .int (nI L), .int (bI tn), .int (bI po5), .int (nI ts5), .int (nI hd5)])), (aD, .inl (G.2.2, 16, .inl (aN td)))] := ga_perm w [0, 7, 8, 9, 1, 2, 3, 4, 6, 5] (by decide) rfl
                  refine W.eq (g2 := F0 m_ 137 ls [.int (nI (orI ns3 (fun i => alw po5 ts5 hd5 (ss3 i)) nu3)), .int (nI fa)]) rfl ?_
                  refine lv_iand hx hb dX6_found_137 ?_
                  exact ga_iret cx hr hlk w dX6_found_138 ⟨Nat.le_refl _, Nat.le_refl _⟩ (⟨nu3, tm3, ss3, ns3, po5, ts5, hd5, hR3, ga_rv (by rw [sFound, if_neg htm, if_neg hne]; rw [if_neg (by omega), if_neg (by omega), if_neg (by omega), ← hnc, nI_and, orI_and, orI_congr (fun i hi => by rw [(hr3.2.2.2.2 i hi).2]) hal]), rfl⟩)
                · exact absurd rfl c107
              · refine lv_iconst (v := nI 1) hx hb dX6_found_97 (by decide) ?_
                refine lv_goto (tgt := 102) hx hb dX6_found_98 (by decide) ?_
                refine lv_istore (lv' := [(4, .int (nI 1)), (3, .int (nI fa)), (2, .ref aQ), (0, .ref aO), (1, .int (nI y))]) hx hb dX6_found_102 hl (by decide) rfl (fun ls hl => ?_)
                refine lv_iload_n hx hb dX6_found_104 rfl (lv_at hl 1 rfl) ?_
                refine lv_iload hx hb dX6_found_105 (lv_at hl 0 rfl) ?_
                refine r_if_eq hx hb dX6_found_107 (tgt := 125) (by decide) (by decide) (fun c107 => ?_) (fun c107 => ?_)
                · exact absurd c107 (by decide)
                · refine lv_aload_n hx hb dX6_found_110 rfl (lv_at hl 3 rfl) ?_
                  refine gf_X6_52 cx hK w 0 rfl rfl dX6_found_111 ?_
                  refine lv_aload_n hx hb dX6_found_114 rfl (lv_at hl 3 rfl) ?_
                  refine gf_X6_19 cx hK w 0 rfl rfl dX6_found_115 ?_
                  refine lv_aload_n hx hb dX6_found_118 rfl (lv_at hl 2 rfl) ?_
                  refine ga_callV (rest := [.int (nI fa)]) (wr := [(aO, .inr (6, [.ref aP, .ref aW, .ref aK, .ref aJ, .ref aH, .ref aB, .ref aR])), (aP, .inr (1, [.ref aF, .ref aT, .ref aC, .ref aL, .int (nI n), .int (nI k), .int (nI li), .int (nI fa)])), (aF, .inl (G.2.2, 16, .inl (aN fr))), (aT, .inl (G.2.2, 16, .inl (aN to))), (aL, .inl (G.2.2, 12, .inl (aN lv))), (aD, .inl (G.2.2, 16, .inl (aN td)))]) cx hK hA w hl lk_X6_186 (c_X2_inAllN l G aR aD (nI L) tn po5 ts5 hd5 aW aS aQ nu3 tm3 false ss3 ns3 (by omega) (fun u hu => by rw [(hr3.2.2.2.2 u hu).1]; exact sS_lt16 hF (by omega)) (ht5)) ⟨Nat.le_of_ble_eq_true rfl, Nat.le_of_ble_eq_true rfl⟩ [8, 1, 2, 3] [0, 4, 5, 6, 7, 9] rfl rfl (by decide) (by decide) (by decide) 8 2 rfl rfl rfl rfl (Nat.le_of_ble_eq_true rfl) dX6_found_119 ⟨Nat.le_refl _, Nat.le_refl _⟩ rfl (fun r w1_ H_ locs_ hp w => ?_)
                  obtain ⟨rfl, rfl⟩ := hp
                  have w : ga_wd G A_ s_ H_ locs_ [(aO, .inr (6, [.ref aP, .ref aW, .ref aK, .ref aJ, .ref aH, .ref aB, .ref aR])), (aW, .inr (3, [.ref aS, .ref aQ, .int (nI nu3), .int (bI tm3), .int (bI false)])), (aS, .inl (G.2.2, 200, .inl (aN ss3))), (aQ, .inl (G.2.2, 200, .inl (aN ns3))), (aP, .inr (1, [.ref aF, .ref aT, .ref aC, .ref aL, .int (nI n), .int (nI k), .int (nI li), .int (nI fa)])), (aF, .inl (G.2.2, 16, .inl (aN fr))), (aT, .inl (G.2.2, 16, .inl (aN to))), (aL, .inl (G.2.2, 12, .inl (aN lv))), (aR, .inr (2, [.ref aD, .int (nI L), .int (bI tn), .int (bI po5), .int (nI ts5), .int (nI hd5)])), (aD, .inl (G.2.2, 16, .inl (aN td)))] := ga_perm w [0, 7, 8, 9, 1, 2, 3, 4, 6, 5] (by decide) rfl
                  refine W.eq (g2 := F0 m_ 122 ls [.int (allI ns3 (fun i => alw po5 ts5 hd5 (ss3 i)) nu3), .int (nI fa)]) rfl ?_
                  refine lv_goto (tgt := 137) hx hb dX6_found_122 (by decide) ?_
                  refine lv_iand hx hb dX6_found_137 ?_
                  exact ga_iret cx hr hlk w dX6_found_138 ⟨Nat.le_refl _, Nat.le_refl _⟩ (⟨nu3, tm3, ss3, ns3, po5, ts5, hd5, hR3, ga_rv (by rw [sFound, if_neg htm, if_neg hne]; rw [if_neg (by omega), if_neg (by omega), if_pos (by omega), ← hnc, allI_and _ _ _ _ c40, allI_congr (fun i hi => by rw [(hr3.2.2.2.2 i hi).2]) hal]), rfl⟩)
            · omega
          · refine lv_aload_n hx hb dX6_found_50 rfl (lv_at hl 0 rfl) ?_
            refine gf_X6_19 cx hK w 0 rfl rfl dX6_found_51 ?_
            refine gf_X6_112 cx hK w 1 rfl rfl dX6_found_54 ?_
            refine lv_goto (tgt := 67) hx hb dX6_found_57 (by decide) ?_
            refine lv_astore_n (lv' := [(2, .ref aS), (0, .ref aO), (1, .int (nI y))]) hx hb dX6_found_67 rfl hl (by decide) rfl (fun ls hl => ?_)
            refine lv_iload_n hx hb dX6_found_68 rfl (lv_at hl 2 rfl) ?_
            refine lv_iconst (v := nI 2) hx hb dX6_found_69 (by decide) ?_
            refine r_icmp_ge hx hb dX6_found_70 (tgt := 83) (by decide) (by omega) (by omega) (fun c70 => ?_) (fun c70 => ?_)
            · omega
            · refine lv_aload_n hx hb dX6_found_73 rfl (lv_at hl 1 rfl) ?_
              refine gf_X6_12 cx hK w 0 rfl rfl dX6_found_74 ?_
              refine ga_callV (rest := []) (wr := [(aO, .inr (6, [.ref aP, .ref aW, .ref aK, .ref aJ, .ref aH, .ref aB, .ref aR])), (aW, .inr (3, [.ref aS, .ref aQ, .int (nI nu3), .int (bI tm3), .int (bI false)])), (aS, .inl (G.2.2, 200, .inl (aN ss3))), (aQ, .inl (G.2.2, 200, .inl (aN ns3))), (aF, .inl (G.2.2, 16, .inl (aN fr))), (aT, .inl (G.2.2, 16, .inl (aN to))), (aL, .inl (G.2.2, 12, .inl (aN lv))), (aR, .inr (2, [.ref aD, .int (nI L), .int (bI tn), .int (bI po5), .int (nI ts5), .int (nI hd5)])), (aD, .inl (G.2.2, 16, .inl (aN td)))]) cx hK hA w hl lk_X6_140 (c_X1_allSteps l G aP aF aT aC aL (nI n) k (nI li) (nI fa) (hF.2.2.1)) ⟨Nat.le_of_ble_eq_true rfl, Nat.le_of_ble_eq_true rfl⟩ [4] [0, 1, 2, 3, 5, 6, 7, 8, 9] rfl rfl (by decide) (by decide) (by decide) 4 1 rfl rfl rfl rfl (Nat.le_of_ble_eq_true rfl) dX6_found_77 ⟨Nat.le_refl _, Nat.le_refl _⟩ rfl (fun r w1_ H_ locs_ hp w => ?_)
              obtain ⟨rfl, rfl⟩ := hp
              have w : ga_wd G A_ s_ H_ locs_ [(aO, .inr (6, [.ref aP, .ref aW, .ref aK, .ref aJ, .ref aH, .ref aB, .ref aR])), (aW, .inr (3, [.ref aS, .ref aQ, .int (nI nu3), .int (bI tm3), .int (bI false)])), (aS, .inl (G.2.2, 200, .inl (aN ss3))), (aQ, .inl (G.2.2, 200, .inl (aN ns3))), (aP, .inr (1, [.ref aF, .ref aT, .ref aC, .ref aL, .int (nI n), .int (nI k), .int (nI li), .int (nI fa)])), (aF, .inl (G.2.2, 16, .inl (aN fr))), (aT, .inl (G.2.2, 16, .inl (aN to))), (aL, .inl (G.2.2, 12, .inl (aN lv))), (aR, .inr (2, [.ref aD, .int (nI L), .int (bI tn), .int (bI po5), .int (nI ts5), .int (nI hd5)])), (aD, .inl (G.2.2, 16, .inl (aN td)))] := ga_perm w [0, 1, 2, 3, 9, 4, 5, 6, 7, 8] (by decide) rfl
              refine W.eq (g2 := F0 m_ 80 ls [.int (nI (2 ^ k - 1))]) rfl ?_
              refine lv_goto (tgt := 90) hx hb dX6_found_80 (by decide) ?_
              refine lv_istore_n (lv' := [(3, .int (nI (2 ^ k - 1))), (2, .ref aS), (0, .ref aO), (1, .int (nI y))]) hx hb dX6_found_90 rfl hl (by decide) rfl (fun ls hl => ?_)
              refine lv_iload_n hx hb dX6_found_91 rfl (lv_at hl 3 rfl) ?_
              refine lv_iconst (v := nI 2) hx hb dX6_found_92 (by decide) ?_
              refine lv_irem hx hb dX6_found_93 (by decide) ?_
              refine r_topi (y := nI (y % 2)) (by rw [pk_rem (by omega) (by decide) (by decide)]) ?_
              refine r_if_ne hx hb dX6_found_94 (tgt := 101) (by decide) (by omega) (fun c94 => ?_) (fun c94 => ?_)
              · refine lv_iconst (v := nI 0) hx hb dX6_found_101 (by decide) ?_
                refine lv_istore (lv' := [(4, .int (nI 0)), (3, .int (nI (2 ^ k - 1))), (2, .ref aS), (0, .ref aO), (1, .int (nI y))]) hx hb dX6_found_102 hl (by decide) rfl (fun ls hl => ?_)
                refine lv_iload_n hx hb dX6_found_104 rfl (lv_at hl 1 rfl) ?_
                refine lv_iload hx hb dX6_found_105 (lv_at hl 0 rfl) ?_
                refine r_if_eq hx hb dX6_found_107 (tgt := 125) (by decide) (by decide) (fun c107 => ?_) (fun c107 => ?_)
                · refine lv_aload_n hx hb dX6_found_125 rfl (lv_at hl 3 rfl) ?_
                  refine gf_X6_52 cx hK w 0 rfl rfl dX6_found_126 ?_
                  refine lv_aload_n hx hb dX6_found_129 rfl (lv_at hl 3 rfl) ?_
                  refine gf_X6_19 cx hK w 0 rfl rfl dX6_found_130 ?_
                  refine lv_aload_n hx hb dX6_found_133 rfl (lv_at hl 2 rfl) ?_
                  refine ga_callV (rest := [.int (nI (2 ^ k - 1))]) (wr := [(aO, .inr (6, [.ref aP, .ref aW, .ref aK, .ref aJ, .ref aH, .ref aB, .ref aR])), (aP, .inr (1, [.ref aF, .ref aT, .ref aC, .ref aL, .int (nI n), .int (nI k), .int (nI li), .int (nI fa)])), (aF, .inl (G.2.2, 16, .inl (aN fr))), (aT, .inl (G.2.2, 16, .inl (aN to))), (aL, .inl (G.2.2, 12, .inl (aN lv))), (aD, .inl (G.2.2, 16, .inl (aN td)))]) cx hK hA w hl lk_X6_190 (c_X2_inSome l G aR aD (nI L) tn po5 ts5 hd5 aW aS aQ nu3 tm3 false ss3 ns3 (by omega) (fun u hu => by rw [(hr3.2.2.2.2 u hu).1]; exact sS_lt16 hF (by omega)) (ht5)) ⟨Nat.le_of_ble_eq_true rfl, Nat.le_of_ble_eq_true rfl⟩ [8, 1, 2, 3] [0, 4, 5, 6, 7, 9] rfl rfl (by decide) (by decide) (by decide) 8 2 rfl rfl rfl rfl (Nat.le_of_ble_eq_true rfl) dX6_found_134 ⟨Nat.le_refl _, Nat.le_refl _⟩ rfl (fun r w1_ H_ locs_ hp w => ?_)
                  obtain ⟨rfl, rfl⟩ := hp
                  have w : ga_wd G A_ s_ H_ locs_ [(aO, .inr (6, [.ref aP, .ref aW, .ref aK, .ref aJ, .ref aH, .ref aB, .ref aR])), (aW, .inr (3, [.ref aS, .ref aQ, .int (nI nu3), .int (bI tm3), .int (bI false)])), (aS, .inl (G.2.2, 200, .inl (aN ss3))), (aQ, .inl (G.2.2, 200, .inl (aN ns3))), (aP, .inr (1, [.ref aF, .ref aT, .ref aC, .ref aL, .int (nI n), .int (nI k), .int (nI li), .int (nI fa)])), (aF, .inl (G.2.2, 16, .inl (aN fr))), (aT, .inl (G.2.2, 16, .inl (aN to))), (aL, .inl (G.2.2, 12, .inl (aN lv))), (aR, .inr (2, [.ref aD, .int (nI L), .int (bI tn), .int (bI po5), .int (nI ts5), .int (nI hd5)])), (aD, .inl (G.2.2, 16, .inl (aN td)))] := ga_perm w [0, 7, 8, 9, 1, 2, 3, 4, 6, 5] (by decide) rfl
                  refine W.eq (g2 := F0 m_ 137 ls [.int (nI (orI ss3 (fun i => alw po5 ts5 hd5 (ss3 i)) nu3)), .int (nI (2 ^ k - 1))]) rfl ?_
                  refine lv_iand hx hb dX6_found_137 ?_
                  exact ga_iret cx hr hlk w dX6_found_138 ⟨Nat.le_refl _, Nat.le_refl _⟩ (⟨nu3, tm3, ss3, ns3, po5, ts5, hd5, hR3, ga_rv (by rw [sFound, if_neg htm, if_neg hne]; rw [if_neg (by omega), if_pos (by omega), ← hnc, nI_and, orI_and, orI_congr (g := sS (WL n k fr to)) (fun i hi => by rw [(hr3.2.2.2.2 i hi).1]; exact and_all (sS_lt hF (by omega))) hal]), rfl⟩)
                · exact absurd rfl c107
              · refine lv_iconst (v := nI 1) hx hb dX6_found_97 (by decide) ?_
                refine lv_goto (tgt := 102) hx hb dX6_found_98 (by decide) ?_
                refine lv_istore (lv' := [(4, .int (nI 1)), (3, .int (nI (2 ^ k - 1))), (2, .ref aS), (0, .ref aO), (1, .int (nI y))]) hx hb dX6_found_102 hl (by decide) rfl (fun ls hl => ?_)
                refine lv_iload_n hx hb dX6_found_104 rfl (lv_at hl 1 rfl) ?_
                refine lv_iload hx hb dX6_found_105 (lv_at hl 0 rfl) ?_
                refine r_if_eq hx hb dX6_found_107 (tgt := 125) (by decide) (by decide) (fun c107 => ?_) (fun c107 => ?_)
                · exact absurd c107 (by decide)
                · refine lv_aload_n hx hb dX6_found_110 rfl (lv_at hl 3 rfl) ?_
                  refine gf_X6_52 cx hK w 0 rfl rfl dX6_found_111 ?_
                  refine lv_aload_n hx hb dX6_found_114 rfl (lv_at hl 3 rfl) ?_
                  refine gf_X6_19 cx hK w 0 rfl rfl dX6_found_115 ?_
                  refine lv_aload_n hx hb dX6_found_118 rfl (lv_at hl 2 rfl) ?_
                  refine ga_callV (rest := [.int (nI (2 ^ k - 1))]) (wr := [(aO, .inr (6, [.ref aP, .ref aW, .ref aK, .ref aJ, .ref aH, .ref aB, .ref aR])), (aP, .inr (1, [.ref aF, .ref aT, .ref aC, .ref aL, .int (nI n), .int (nI k), .int (nI li), .int (nI fa)])), (aF, .inl (G.2.2, 16, .inl (aN fr))), (aT, .inl (G.2.2, 16, .inl (aN to))), (aL, .inl (G.2.2, 12, .inl (aN lv))), (aD, .inl (G.2.2, 16, .inl (aN td)))]) cx hK hA w hl lk_X6_186 (c_X2_inAll l G aR aD (nI L) tn po5 ts5 hd5 aW aS aQ nu3 tm3 false ss3 ns3 (by omega) (fun u hu => by rw [(hr3.2.2.2.2 u hu).1]; exact sS_lt16 hF (by omega)) (ht5)) ⟨Nat.le_of_ble_eq_true rfl, Nat.le_of_ble_eq_true rfl⟩ [8, 1, 2, 3] [0, 4, 5, 6, 7, 9] rfl rfl (by decide) (by decide) (by decide) 8 2 rfl rfl rfl rfl (Nat.le_of_ble_eq_true rfl) dX6_found_119 ⟨Nat.le_refl _, Nat.le_refl _⟩ rfl (fun r w1_ H_ locs_ hp w => ?_)
                  obtain ⟨rfl, rfl⟩ := hp
                  have w : ga_wd G A_ s_ H_ locs_ [(aO, .inr (6, [.ref aP, .ref aW, .ref aK, .ref aJ, .ref aH, .ref aB, .ref aR])), (aW, .inr (3, [.ref aS, .ref aQ, .int (nI nu3), .int (bI tm3), .int (bI false)])), (aS, .inl (G.2.2, 200, .inl (aN ss3))), (aQ, .inl (G.2.2, 200, .inl (aN ns3))), (aP, .inr (1, [.ref aF, .ref aT, .ref aC, .ref aL, .int (nI n), .int (nI k), .int (nI li), .int (nI fa)])), (aF, .inl (G.2.2, 16, .inl (aN fr))), (aT, .inl (G.2.2, 16, .inl (aN to))), (aL, .inl (G.2.2, 12, .inl (aN lv))), (aR, .inr (2, [.ref aD, .int (nI L), .int (bI tn), .int (bI po5), .int (nI ts5), .int (nI hd5)])), (aD, .inl (G.2.2, 16, .inl (aN td)))] := ga_perm w [0, 7, 8, 9, 1, 2, 3, 4, 6, 5] (by decide) rfl
                  refine W.eq (g2 := F0 m_ 122 ls [.int (allI ss3 (fun i => alw po5 ts5 hd5 (ss3 i)) nu3), .int (nI (2 ^ k - 1))]) rfl ?_
                  refine lv_goto (tgt := 137) hx hb dX6_found_122 (by decide) ?_
                  refine lv_iand hx hb dX6_found_137 ?_
                  exact ga_iret cx hr hlk w dX6_found_138 ⟨Nat.le_refl _, Nat.le_refl _⟩ (⟨nu3, tm3, ss3, ns3, po5, ts5, hd5, hR3, ga_rv (by rw [sFound, if_neg htm, if_neg hne]; rw [if_pos (by omega), ← hnc, allI_and _ _ _ _ c40, allI_congr (g := sS (WL n k fr to)) (fun i hi => by rw [(hr3.2.2.2.2 i hi).1]; exact and_all (sS_lt hF (by omega))) hal]), rfl⟩)
        · refine lv_iconst (v := (-1)) hx hb dX6_found_43 (by decide) ?_
          exact ga_iret cx hr hlk w dX6_found_44 ⟨Nat.le_refl _, Nat.le_refl _⟩ (⟨nu3, tm3, ss3, ns3, po5, ts5, hd5, hR3, ga_rv (by rw [sFound, if_neg htm, if_pos (by rw [← hnc, ← hfl]; exact c40)]), rfl⟩)
      · have htm : 200 < (WL n k fr to).length := of_decide_eq_true (by rw [← hr3.2.1]; exact c13)
        refine lv_iconst (v := (-1)) hx hb dX6_found_16 (by decide) ?_
        exact ga_iret cx hr hlk w dX6_found_17 ⟨Nat.le_refl _, Nat.le_refl _⟩ (⟨nu3, tm3, ss3, ns3, po, ts, hd, hR3, ga_rv (by rw [sFound, if_pos htm]), rfl⟩)
