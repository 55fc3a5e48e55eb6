set_option maxHeartbeats 4000000 in
set_option maxRecDepth 100000 in
theorem c_X4_isRatherThan (l : Launch) (G : ga_G) (a : Nat) (b : Nat) (ha1 : a < 65536) (hb1 : b < 65536) : ga_M l G yX4_isRatherThan cX4_isRatherThan 5 (Option.some Jvm.ClassFile.FieldType.boolean) 1 20 0 0 [.int (nI a), .int (nI b)] [] (fun r w => r = some (.int (bI (rat a b))) ∧ w = []) := by
  refine ga_M.intro (by decide) (Nat.le_of_ble_eq_true rfl) (fun p_ e_ s_ m_ below meth c_ A_ H_ locs_ ls cx hr hlk hnm hA hK hl w => ?_)
  have hx := cx.1
  have hb := cx.2.1
  have hl : lv_has ls 5 [(0, .int (nI a)), (1, .int (nI b))] := hl
  refine lv_iload_n hx hb dX4_isRatherThan_0 rfl (lv_at hl 0 rfl) ?_
  refine ga_callS (rest := []) (wr := []) cx hK hA w hl lk_X4_67 (c_J6_bitCount_0f7a4 l G a (by omega)) ⟨Nat.le_of_ble_eq_true rfl, Nat.le_of_ble_eq_true rfl⟩ [] [] rfl rfl (by decide) (by decide) (by decide) rfl (Nat.le_of_ble_eq_true rfl) dX4_isRatherThan_1 ⟨Nat.le_refl _, Nat.le_refl _⟩ rfl (fun r w1_ H_ locs_ hp w => ?_)
  obtain ⟨rfl, rfl⟩ := hp
  have w : ga_wd G A_ s_ H_ locs_ [] := ga_perm w [] (by decide) rfl
  refine W.eq (g2 := F0 m_ 4 ls [.int (nI (pop a))]) rfl ?_
  refine lv_iload_n hx hb dX4_isRatherThan_4 rfl (lv_at hl 1 rfl) ?_
  refine ga_callS (rest := [.int (nI (pop a))]) (wr := []) cx hK hA w hl lk_X4_67 (c_J6_bitCount_0f7a4 l G b (by omega)) ⟨Nat.le_of_ble_eq_true rfl, Nat.le_of_ble_eq_true rfl⟩ [] [] rfl rfl (by decide) (by decide) (by decide) rfl (Nat.le_of_ble_eq_true rfl) dX4_isRatherThan_5 ⟨Nat.le_refl _, Nat.le_refl _⟩ rfl (fun r w1_ H_ locs_ hp w => ?_)
  obtain ⟨rfl, rfl⟩ := hp
  have w : ga_wd G A_ s_ H_ locs_ [] := ga_perm w [] (by decide) rfl
  refine W.eq (g2 := F0 m_ 8 ls [.int (nI (pop b)), .int (nI (pop a))]) rfl ?_
  refine lv_isub hx hb dX4_isRatherThan_8 ?_
  refine lv_istore_n (lv' := [(2, .int ((nI (pop a)) - (nI (pop b)))), (0, .int (nI a)), (1, .int (nI b))]) hx hb dX4_isRatherThan_9 rfl hl (by decide) rfl (fun ls hl => ?_)
  refine lv_iload_n hx hb dX4_isRatherThan_10 rfl (lv_at hl 1 rfl) ?_
  refine lv_iload_n hx hb dX4_isRatherThan_11 rfl (lv_at hl 2 rfl) ?_
  refine r_ixor hx hb dX4_isRatherThan_12 ?_
  refine lv_istore_n (lv' := [(3, .int (nI (a ^^^ b))), (2, .int ((nI (pop a)) - (nI (pop b)))), (0, .int (nI a)), (1, .int (nI b))]) hx hb dX4_isRatherThan_13 rfl hl (by decide) rfl (fun ls hl => ?_)
  refine lv_iload_n hx hb dX4_isRatherThan_14 rfl (lv_at hl 0 rfl) ?_
  refine lv_iload_n hx hb dX4_isRatherThan_15 rfl (lv_at hl 0 rfl) ?_
  refine lv_ineg hx hb dX4_isRatherThan_16 ?_
  refine lv_iand hx hb dX4_isRatherThan_17 ?_
  refine r_topi (y := nI (lowb (a ^^^ b))) (lowb_ok (xor_lt 16 ha1 hb1)) ?_
  refine lv_istore (lv' := [(4, .int (nI (lowb (a ^^^ b)))), (3, .int (nI (a ^^^ b))), (2, .int ((nI (pop a)) - (nI (pop b)))), (0, .int (nI a)), (1, .int (nI b))]) hx hb dX4_isRatherThan_18 hl (by decide) rfl (fun ls hl => ?_)
  refine lv_iload_n hx hb dX4_isRatherThan_20 rfl (lv_at hl 2 rfl) ?_
  refine lv_if_lt hx hb dX4_isRatherThan_21 (tgt := 35) (by decide) (fun c21 => ?_) (fun c21 => ?_)
  · refine lv_iconst (v := nI 1) hx hb dX4_isRatherThan_35 (by decide) ?_
    refine lv_goto (tgt := 40) hx hb dX4_isRatherThan_36 (by decide) ?_
    exact ga_zret cx hr hlk w rfl dX4_isRatherThan_40 ⟨Nat.le_refl _, Nat.le_refl _⟩ (⟨ga_r1 (by first | exact rat_a c21 | exact rat_b c21 c25 | exact rat_c c25 c32 | exact rat_d c25 c32), rfl⟩)
  · refine lv_iload_n hx hb dX4_isRatherThan_24 rfl (lv_at hl 2 rfl) ?_
    refine lv_if_ne hx hb dX4_isRatherThan_25 (tgt := 39) (by decide) (fun c25 => ?_) (fun c25 => ?_)
    · refine lv_iconst (v := nI 0) hx hb dX4_isRatherThan_39 (by decide) ?_
      exact ga_zret cx hr hlk w rfl dX4_isRatherThan_40 ⟨Nat.le_refl _, Nat.le_refl _⟩ (⟨ga_r0 (by first | exact rat_a c21 | exact rat_b c21 c25 | exact rat_c c25 c32 | exact rat_d c25 c32), rfl⟩)
    · refine lv_iload_n hx hb dX4_isRatherThan_28 rfl (lv_at hl 3 rfl) ?_
      refine lv_iload hx hb dX4_isRatherThan_29 (lv_at hl 0 rfl) ?_
      refine r_iand hx hb dX4_isRatherThan_31 ?_
      refine r_if_eq hx hb dX4_isRatherThan_32 (tgt := 39) (by decide) (andL_lt (by omega)) (fun c32 => ?_) (fun c32 => ?_)
      · refine lv_iconst (v := nI 0) hx hb dX4_isRatherThan_39 (by decide) ?_
        exact ga_zret cx hr hlk w rfl dX4_isRatherThan_40 ⟨Nat.le_refl _, Nat.le_refl _⟩ (⟨ga_r0 (by first | exact rat_a c21 | exact rat_b c21 c25 | exact rat_c c25 c32 | exact rat_d c25 c32), rfl⟩)
      · refine lv_iconst (v := nI 1) hx hb dX4_isRatherThan_35 (by decide) ?_
        refine lv_goto (tgt := 40) hx hb dX4_isRatherThan_36 (by decide) ?_
        exact ga_zret cx hr hlk w rfl dX4_isRatherThan_40 ⟨Nat.le_refl _, Nat.le_refl _⟩ (⟨ga_r1 (by first | exact rat_a c21 | exact rat_b c21 c25 | exact rat_c c25 c32 | exact rat_d c25 c32), rfl⟩)

set_option maxHeartbeats 4000000 in
set_option maxRecDepth 100000 in
theorem c_X4_offer (l : Launch) (G : ga_G) (aH : Nat) (aP : Nat) (be : Nat) (bp : Nat) (s0 : Nat) (p0 : Nat) (h1 : s0 < 65536) (h2 : be < 65536) (h3 : p0 < 2 ^ 40) (h4 : bp < 2 ^ 40) : ga_M l G yX4_offer cX4_offer 4 (Option.none : Option Jvm.ClassFile.FieldType) 2 44 0 0 [.ref aH, .int (nI s0), .long (lN p0)] [(aH, .inr (4, [.ref aP, .int (nI be), .long (lN bp)]))] (fun r w => r = none ∧ w = [(aH, .inr (4, [.ref aP, .int (nI ((ofr (be, bp) s0 p0).1)), .long (lN ((ofr (be, bp) s0 p0).2))]))]) := by
  refine ga_M.intro (by decide) (Nat.le_of_ble_eq_true rfl) (fun p_ e_ s_ m_ below meth c_ A_ H_ locs_ ls cx hr hlk hnm hA hK hl w => ?_)
  have hx := cx.1
  have hb := cx.2.1
  have hl : lv_has ls 4 [(0, .ref aH), (1, .int (nI s0)), (2, .long (lN p0))] := hl
  refine lv_lload_n hx hb dX4_offer_0 rfl (lv_at hl 2 rfl) ?_
  refine lv_aload_n hx hb dX4_offer_1 rfl (lv_at hl 0 rfl) ?_
  refine gf_X4_29 cx hK w 0 rfl rfl dX4_offer_2 ?_
  refine W.lcmp hx hb dX4_offer_5 ?_
  refine r_lcN_lt hx hb dX4_offer_6 (tgt := 29) (by decide) (by omega) (by omega) (fun c6 => ?_) (fun c6 => ?_)
  · refine lv_aload_n hx hb dX4_offer_29 rfl (lv_at hl 0 rfl) ?_
    refine lv_iload_n hx hb dX4_offer_30 rfl (lv_at hl 1 rfl) ?_
    refine pf_X4_21 cx hK w 0 rfl rfl rfl (Nat.le_of_ble_eq_true rfl) dX4_offer_31 (fun H_ locs_ w => ?_)
    have w : ga_wd G A_ s_ H_ locs_ [(aH, .inr (4, [.ref aP, .int (nI s0), .long (lN bp)]))] := w
    refine lv_aload_n hx hb dX4_offer_34 rfl (lv_at hl 0 rfl) ?_
    refine lv_lload_n hx hb dX4_offer_35 rfl (lv_at hl 2 rfl) ?_
    refine pf_X4_29 cx hK w 0 rfl rfl rfl (Nat.le_of_ble_eq_true rfl) dX4_offer_36 (fun H_ locs_ w => ?_)
    have w : ga_wd G A_ s_ H_ locs_ [(aH, .inr (4, [.ref aP, .int (nI s0), .long (lN p0)]))] := w
    exact ga_vret cx hr hlk w dX4_offer_39 ⟨Nat.le_refl _, Nat.le_refl _⟩ (⟨rfl, by rw [show ofr (be, bp) s0 p0 = (s0, p0) from if_pos (Or.inl c6)]⟩)
  · refine lv_lload_n hx hb dX4_offer_9 rfl (lv_at hl 2 rfl) ?_
    refine lv_aload_n hx hb dX4_offer_10 rfl (lv_at hl 0 rfl) ?_
    refine gf_X4_29 cx hK w 0 rfl rfl dX4_offer_11 ?_
    refine W.lcmp hx hb dX4_offer_14 ?_
    refine r_lcN_ne hx hb dX4_offer_15 (tgt := 39) (by decide) (by omega) (by omega) (fun c15 => ?_) (fun c15 => ?_)
    · exact ga_vret cx hr hlk w dX4_offer_39 ⟨Nat.le_refl _, Nat.le_refl _⟩ (⟨rfl, by rw [show ofr (be, bp) s0 p0 = (be, bp) from if_neg (by intro z; rcases z with z | z; exact c6 z; exact c15 z.1)]⟩)
    · refine lv_iload_n hx hb dX4_offer_18 rfl (lv_at hl 1 rfl) ?_
      refine lv_aload_n hx hb dX4_offer_19 rfl (lv_at hl 0 rfl) ?_
      refine gf_X4_21 cx hK w 0 rfl rfl dX4_offer_20 ?_
      refine ga_callS (rest := []) (wr := [(aH, .inr (4, [.ref aP, .int (nI be), .long (lN bp)]))]) cx hK hA w hl lk_X4_64 (c_X4_isRatherThan l G s0 be (by omega) (by omega)) ⟨Nat.le_of_ble_eq_true rfl, Nat.le_of_ble_eq_true rfl⟩ [] [0] rfl rfl (by decide) (by decide) (by decide) rfl (Nat.le_of_ble_eq_true rfl) dX4_offer_23 ⟨Nat.le_refl _, Nat.le_refl _⟩ rfl (fun r w1_ H_ locs_ hp w => ?_)
      obtain ⟨rfl, rfl⟩ := hp
      have w : ga_wd G A_ s_ H_ locs_ [(aH, .inr (4, [.ref aP, .int (nI be), .long (lN bp)]))] := ga_perm w [0] (by decide) rfl
      refine W.eq (g2 := F0 m_ 26 ls [.int (bI (rat s0 be))]) rfl ?_
      refine r_ifb_eq hx hb dX4_offer_26 (tgt := 39) (by decide) (fun c26 => ?_) (fun c26 => ?_)
      · exact ga_vret cx hr hlk w dX4_offer_39 ⟨Nat.le_refl _, Nat.le_refl _⟩ (⟨rfl, by rw [show ofr (be, bp) s0 p0 = (be, bp) from if_neg (by intro z; rcases z with z | z; exact c6 z; rw [z.2] at c26; cases c26)]⟩)
      · refine lv_aload_n hx hb dX4_offer_29 rfl (lv_at hl 0 rfl) ?_
        refine lv_iload_n hx hb dX4_offer_30 rfl (lv_at hl 1 rfl) ?_
        refine pf_X4_21 cx hK w 0 rfl rfl rfl (Nat.le_of_ble_eq_true rfl) dX4_offer_31 (fun H_ locs_ w => ?_)
        have w : ga_wd G A_ s_ H_ locs_ [(aH, .inr (4, [.ref aP, .int (nI s0), .long (lN bp)]))] := w
        refine lv_aload_n hx hb dX4_offer_34 rfl (lv_at hl 0 rfl) ?_
        refine lv_lload_n hx hb dX4_offer_35 rfl (lv_at hl 2 rfl) ?_
        refine pf_X4_29 cx hK w 0 rfl rfl rfl (Nat.le_of_ble_eq_true rfl) dX4_offer_36 (fun H_ locs_ w => ?_)
        have w : ga_wd G A_ s_ H_ locs_ [(aH, .inr (4, [.ref aP, .int (nI s0), .long (lN p0)]))] := w
        exact ga_vret cx hr hlk w dX4_offer_39 ⟨Nat.le_refl _, Nat.le_refl _⟩ (⟨rfl, by rw [show ofr (be, bp) s0 p0 = (s0, p0) from if_pos (Or.inr ⟨c15, c26⟩)]⟩)

set_option maxHeartbeats 4000000 in
set_option maxRecDepth 100000 in
theorem c_X4_choose (l : Launch) (G : ga_G) : ∀ (d : Nat) (aH : Nat) (be : Nat) (bp : Nat) (aP : Nat) (aF : Nat) (aT : Nat) (aC : Nat) (aL : Nat) (n : Nat) (k : Nat) (li : Nat) (fa : Nat) (ct : Nat → Nat) (aK : Nat) (aZ : Nat) (cap : Nat) (z : Nat → Nat) (pn : Nat) (sl : Bool) (s0 : Nat) (ch : Nat) (bar : Nat) (pr : Nat) (dp : Nat) (hd : 16 ≤ dp + d) (hd2 : dp ≤ 16) (hk : k ≤ 16) (hct : ∀ e, e < k → ct e ≤ 1000000) (hpc : pn ≤ cap) (hcap : cap < 2 ^ 25) (hz : ∀ q, q < pn → z q < 65536) (hs0 : s0 ≤ pn) (hch : ch < 65536) (hbar : bar < 65536) (hbe : be < 65536) (hbp : bp < 2 ^ 40) (hpr : pr ≤ 16000016 + 1000001 * dp), ga_M l G yX4_choose cX4_choose 14 (Option.none : Option Jvm.ClassFile.FieldType) (d + 5) (33 * d + 120) 0 0 [.ref aH, .ref aK, .int (nI s0), .int (nI ch), .int (nI bar), .long (lN pr), .int (nI dp)] [(aH, .inr (4, [.ref aP, .int (nI be), .long (lN bp)])), (aP, .inr (1, [.ref aF, .ref aT, .ref aC, .ref aL, .int (nI n), .int (nI k), .int (nI li), .int (nI fa)])), (aC, .inl (G.2.2, 16, .inl (aN ct))), (aK, .inr (0, [.ref aZ, .int (nI pn), .int (bI sl)])), (aZ, .inl (G.2.2, cap, .inl (aN z)))] (fun r w => ∃ (be9 : Nat), ∃ (bp9 : Nat), ((be9, bp9) = chz k ct z pn (16 - dp) s0 ch bar pr (be, bp)) ∧ (be9 < 65536) ∧ (bp9 < 2 ^ 40) ∧ r = none ∧ w = [(aH, .inr (4, [.ref aP, .int (nI be9), .long (lN bp9)])), (aP, .inr (1, [.ref aF, .ref aT, .ref aC, .ref aL, .int (nI n), .int (nI k), .int (nI li), .int (nI fa)])), (aC, .inl (G.2.2, 16, .inl (aN ct))), (aK, .inr (0, [.ref aZ, .int (nI pn), .int (bI sl)])), (aZ, .inl (G.2.2, cap, .inl (aN z)))]) := by
  intro d
  induction d with
  | zero =>
    intro aH be bp aP aF aT aC aL n k li fa ct aK aZ cap z pn sl s0 ch bar pr dp hd hd2 hk hct hpc hcap hz hs0 hch hbar hbe hbp hpr
    refine ga_M.intro (by decide) (Nat.le_of_ble_eq_true rfl) (fun p_ e_ s_ m_ below meth c_ A_ H_ locs_ ls cx hr hlk hnm hA hK hl w => ?_)
    have hx := cx.1
    have hb := cx.2.1
    have hl : lv_has ls 14 [(0, .ref aH), (1, .ref aK), (2, .int (nI s0)), (3, .int (nI ch)), (4, .int (nI bar)), (5, .long (lN pr)), (7, .int (nI dp))] := hl
    refine lv_aload_n hx hb dX4_choose_0 rfl (lv_at hl 1 rfl) ?_
    refine lv_iload_n hx hb dX4_choose_1 rfl (lv_at hl 3 rfl) ?_
    refine lv_iload_n hx hb dX4_choose_2 rfl (lv_at hl 2 rfl) ?_
    refine ga_callV (rest := []) (wr := [(aH, .inr (4, [.ref aP, .int (nI be), .long (lN bp)])), (aP, .inr (1, [.ref aF, .ref aT, .ref aC, .ref aL, .int (nI n), .int (nI k), .int (nI li), .int (nI fa)])), (aC, .inl (G.2.2, 16, .inl (aN ct)))]) cx hK hA w hl lk_X4_37 (c_X0_firstNotMetBy l G aK aZ cap z pn sl ch s0 (hpc) (hcap) (hz) (hs0)) ⟨(by show 0 + 1 ≤ 0 + 5; omega), (by show 8 + (4 + 11) + (0) ≤ 33 * 0 + 120; omega)⟩ [3, 4] [0, 1, 2] rfl rfl (by decide) (by decide) (by decide) 3 0 rfl rfl rfl rfl (Nat.le_of_ble_eq_true rfl) dX4_choose_3 ⟨Nat.le_refl _, Nat.le_refl _⟩ rfl (fun r w1_ H_ locs_ hp w => ?_)
    obtain ⟨rfl, rfl⟩ := hp
    have w : ga_wd G A_ s_ H_ locs_ [(aH, .inr (4, [.ref aP, .int (nI be), .long (lN bp)])), (aP, .inr (1, [.ref aF, .ref aT, .ref aC, .ref aL, .int (nI n), .int (nI k), .int (nI li), .int (nI fa)])), (aC, .inl (G.2.2, 16, .inl (aN ct))), (aK, .inr (0, [.ref aZ, .int (nI pn), .int (bI sl)])), (aZ, .inl (G.2.2, cap, .inl (aN z)))] := ga_perm w [0, 1, 2, 3, 4] (by decide) rfl
    refine W.eq (g2 := F0 m_ 6 ls [.int (nI (fnm z ch pn s0))]) rfl ?_
    refine lv_istore (lv' := [(8, .int (nI (fnm z ch pn s0))), (0, .ref aH), (1, .ref aK), (2, .int (nI s0)), (3, .int (nI ch)), (4, .int (nI bar)), (5, .long (lN pr)), (7, .int (nI dp))]) hx hb dX4_choose_6 hl (by decide) rfl (fun ls hl => ?_)
    have hfn := fnm_sp (z := z) (ch := ch) (pn := pn) hs0
    refine lv_iload hx hb dX4_choose_8 (lv_at hl 0 rfl) ?_
    refine lv_aload_n hx hb dX4_choose_10 rfl (lv_at hl 2 rfl) ?_
    refine gf_X4_43 cx hK w 3 rfl rfl dX4_choose_11 ?_
    refine r_icmp_lt hx hb dX4_choose_14 (tgt := 25) (by decide) (by omega) (by omega) (fun c14 => ?_) (fun c14 => ?_)
    · have c14x : fnm z ch pn s0 < pn := c14
      refine lv_iload hx hb dX4_choose_25 (lv_at hl 7 rfl) ?_
      refine lv_bipush (v := nI 16) hx hb dX4_choose_27 (by decide) ?_
      refine r_icmp_lt hx hb dX4_choose_29 (tgt := 33) (by decide) (by omega) (by omega) (fun c29 => ?_) (fun c29 => ?_)
      · omega
      · exact ga_vret cx hr hlk w dX4_choose_32 ⟨Nat.le_refl _, Nat.le_refl _⟩ (⟨be, bp, (by rw [show 16 - dp = 0 by omega, chz_0 (by omega)]), hbe, hbp, rfl, rfl⟩)
    · refine lv_aload_n hx hb dX4_choose_17 rfl (lv_at hl 1 rfl) ?_
      refine lv_iload_n hx hb dX4_choose_18 rfl (lv_at hl 4 rfl) ?_
      refine lv_lload hx hb dX4_choose_19 (lv_at hl 6 rfl) ?_
      refine ga_callV (rest := []) (wr := [(aP, .inr (1, [.ref aF, .ref aT, .ref aC, .ref aL, .int (nI n), .int (nI k), .int (nI li), .int (nI fa)])), (aC, .inl (G.2.2, 16, .inl (aN ct))), (aK, .inr (0, [.ref aZ, .int (nI pn), .int (bI sl)])), (aZ, .inl (G.2.2, cap, .inl (aN z)))]) cx hK hA w hl lk_X4_46 (c_X4_offer l G aH aP be bp ch pr (hch) (hbe) (by omega) (hbp)) ⟨(by show 2 + 1 ≤ 0 + 5; omega), (by show 8 + (4 + 11) + (44) ≤ 33 * 0 + 120; omega)⟩ [0] [1, 2, 3, 4] rfl rfl (by decide) (by decide) (by decide) 0 4 rfl rfl rfl rfl (Nat.le_of_ble_eq_true rfl) dX4_choose_21 ⟨Nat.le_refl _, Nat.le_refl _⟩ rfl (fun r w1_ H_ locs_ hp w => ?_)
      obtain ⟨rfl, rfl⟩ := hp
      have w : ga_wd G A_ s_ H_ locs_ [(aH, .inr (4, [.ref aP, .int (nI ((ofr (be, bp) ch pr).1)), .long (lN ((ofr (be, bp) ch pr).2))])), (aP, .inr (1, [.ref aF, .ref aT, .ref aC, .ref aL, .int (nI n), .int (nI k), .int (nI li), .int (nI fa)])), (aC, .inl (G.2.2, 16, .inl (aN ct))), (aK, .inr (0, [.ref aZ, .int (nI pn), .int (bI sl)])), (aZ, .inl (G.2.2, cap, .inl (aN z)))] := ga_perm w [4, 0, 1, 2, 3] (by decide) rfl
      refine W.eq (g2 := F0 m_ 24 ls []) rfl ?_
      exact ga_vret cx hr hlk w dX4_choose_24 ⟨Nat.le_refl _, Nat.le_refl _⟩ (⟨_, _, (by rw [chz_o (by omega)]), (ofr_lt (st := (be, bp)) hbe hch hbp (by omega)).1, (ofr_lt (st := (be, bp)) hbe hch hbp (by omega)).2, rfl, rfl⟩)
  | succ d ih_ =>
    intro aH be bp aP aF aT aC aL n k li fa ct aK aZ cap z pn sl s0 ch bar pr dp hd hd2 hk hct hpc hcap hz hs0 hch hbar hbe hbp hpr
    refine ga_M.intro (by decide) (Nat.le_of_ble_eq_true rfl) (fun p_ e_ s_ m_ below meth c_ A_ H_ locs_ ls cx hr hlk hnm hA hK hl w => ?_)
    have hx := cx.1
    have hb := cx.2.1
    have hl : lv_has ls 14 [(0, .ref aH), (1, .ref aK), (2, .int (nI s0)), (3, .int (nI ch)), (4, .int (nI bar)), (5, .long (lN pr)), (7, .int (nI dp))] := hl
    refine lv_aload_n hx hb dX4_choose_0 rfl (lv_at hl 1 rfl) ?_
    refine lv_iload_n hx hb dX4_choose_1 rfl (lv_at hl 3 rfl) ?_
    refine lv_iload_n hx hb dX4_choose_2 rfl (lv_at hl 2 rfl) ?_
    refine ga_callV (rest := []) (wr := [(aH, .inr (4, [.ref aP, .int (nI be), .long (lN bp)])), (aP, .inr (1, [.ref aF, .ref aT, .ref aC, .ref aL, .int (nI n), .int (nI k), .int (nI li), .int (nI fa)])), (aC, .inl (G.2.2, 16, .inl (aN ct)))]) cx hK hA w hl lk_X4_37 (c_X0_firstNotMetBy l G aK aZ cap z pn sl ch s0 (hpc) (hcap) (hz) (hs0)) ⟨(by show 0 + 1 ≤ (d + 1) + 5; omega), (by show 8 + (4 + 11) + (0) ≤ 33 * (d + 1) + 120; omega)⟩ [3, 4] [0, 1, 2] rfl rfl (by decide) (by decide) (by decide) 3 0 rfl rfl rfl rfl (Nat.le_of_ble_eq_true rfl) dX4_choose_3 ⟨Nat.le_refl _, Nat.le_refl _⟩ rfl (fun r w1_ H_ locs_ hp w => ?_)
    obtain ⟨rfl, rfl⟩ := hp
    have w : ga_wd G A_ s_ H_ locs_ [(aH, .inr (4, [.ref aP, .int (nI be), .long (lN bp)])), (aP, .inr (1, [.ref aF, .ref aT, .ref aC, .ref aL, .int (nI n), .int (nI k), .int (nI li), .int (nI fa)])), (aC, .inl (G.2.2, 16, .inl (aN ct))), (aK, .inr (0, [.ref aZ, .int (nI pn), .int (bI sl)])), (aZ, .inl (G.2.2, cap, .inl (aN z)))] := ga_perm w [0, 1, 2, 3, 4] (by decide) rfl
    refine W.eq (g2 := F0 m_ 6 ls [.int (nI (fnm z ch pn s0))]) rfl ?_
    refine lv_istore (lv' := [(8, .int (nI (fnm z ch pn s0))), (0, .ref aH), (1, .ref aK), (2, .int (nI s0)), (3, .int (nI ch)), (4, .int (nI bar)), (5, .long (lN pr)), (7, .int (nI dp))]) hx hb dX4_choose_6 hl (by decide) rfl (fun ls hl => ?_)
    have hfn := fnm_sp (z := z) (ch := ch) (pn := pn) hs0
    refine lv_iload hx hb dX4_choose_8 (lv_at hl 0 rfl) ?_
    refine lv_aload_n hx hb dX4_choose_10 rfl (lv_at hl 2 rfl) ?_
    refine gf_X4_43 cx hK w 3 rfl rfl dX4_choose_11 ?_
    refine r_icmp_lt hx hb dX4_choose_14 (tgt := 25) (by decide) (by omega) (by omega) (fun c14 => ?_) (fun c14 => ?_)
    · have c14x : fnm z ch pn s0 < pn := c14
      refine lv_iload hx hb dX4_choose_25 (lv_at hl 7 rfl) ?_
      refine lv_bipush (v := nI 16) hx hb dX4_choose_27 (by decide) ?_
      refine r_icmp_lt hx hb dX4_choose_29 (tgt := 33) (by decide) (by omega) (by omega) (fun c29 => ?_) (fun c29 => ?_)
      · refine lv_iload hx hb dX4_choose_33 (lv_at hl 5 rfl) ?_
        refine lv_istore (lv' := [(9, .int (nI bar)), (8, .int (nI (fnm z ch pn s0))), (0, .ref aH), (1, .ref aK), (2, .int (nI s0)), (3, .int (nI ch)), (4, .int (nI bar)), (5, .long (lN pr)), (7, .int (nI dp))]) hx hb dX4_choose_35 hl (by decide) rfl (fun ls hl => ?_)
        refine lv_iconst (v := nI 0) hx hb dX4_choose_37 (by decide) ?_
        refine lv_istore (lv' := [(10, .int (nI 0)), (9, .int (nI bar)), (8, .int (nI (fnm z ch pn s0))), (0, .ref aH), (1, .ref aK), (2, .int (nI s0)), (3, .int (nI ch)), (4, .int (nI bar)), (5, .long (lN pr)), (7, .int (nI dp))]) hx hb dX4_choose_38 hl (by decide) rfl (fun ls hl => ?_)
        have loop40 : ∀ (n_ : Nat) (ee : Nat) (tr : Nat) (be2 : Nat) (bp2 : Nat) (hee : ee ≤ k) (hq : chq k ct z pn (15 - dp) s0 ch bar pr (be, bp) ee = ((be2, bp2), tr)) (htr : tr < 65536) (hbe2 : be2 < 65536) (hbp2 : bp2 < 2 ^ 40) (hm : k - ee < n_) (H_ : Heap) (locs_ : List Loc) (ls : Array Slot) (hl : lv_has ls 14 [(10, .int (nI ee)), (9, .int (nI tr)), (8, .int (nI (fnm z ch pn s0))), (0, .ref aH), (1, .ref aK), (2, .int (nI s0)), (3, .int (nI ch)), (4, .int (nI bar)), (5, .long (lN pr)), (7, .int (nI dp))]) (w : ga_wd G A_ s_ H_ locs_ [(aH, .inr (4, [.ref aP, .int (nI be2), .long (lN bp2)])), (aP, .inr (1, [.ref aF, .ref aT, .ref aC, .ref aL, .int (nI n), .int (nI k), .int (nI li), .int (nI fa)])), (aC, .inl (G.2.2, 16, .inl (aN ct))), (aK, .inr (0, [.ref aZ, .int (nI pn), .int (bI sl)])), (aZ, .inl (G.2.2, cap, .inl (aN z)))]), W p_ l e_ { frames := (d + 1) + 5, cells := 0, slots := 0, locals := 33 * (d + 1) + 120 } s_ m_ [.ref aH, .ref aK, .int (nI s0), .int (nI ch), .int (nI bar), .long (lN pr), .int (nI dp)].toArray below meth c_ H_ locs_ (0) (0) (MQ below (ga_Q G A_ (fun r w => ∃ (be9 : Nat), ∃ (bp9 : Nat), ((be9, bp9) = chz k ct z pn (16 - dp) s0 ch bar pr (be, bp)) ∧ (be9 < 65536) ∧ (bp9 < 2 ^ 40) ∧ r = none ∧ w = [(aH, .inr (4, [.ref aP, .int (nI be9), .long (lN bp9)])), (aP, .inr (1, [.ref aF, .ref aT, .ref aC, .ref aL, .int (nI n), .int (nI k), .int (nI li), .int (nI fa)])), (aC, .inl (G.2.2, 16, .inl (aN ct))), (aK, .inr (0, [.ref aZ, .int (nI pn), .int (bI sl)])), (aZ, .inl (G.2.2, cap, .inl (aN z)))])) [.ref aH, .ref aK, .int (nI s0), .int (nI ch), .int (nI bar), .long (lN pr), .int (nI dp)].toArray s_ 0 0 A_) (F0 m_ 40 ls []) := by
          intro n_
          induction n_ with
          | zero => intro ee tr be2 bp2 hee hq htr hbe2 hbp2 hm; exact absurd hm (Nat.not_lt_zero _)
          | succ n_ ih40 =>
            intro ee tr be2 bp2 hee hq htr hbe2 hbp2 hm40 H_ locs_ ls hl w
            refine lv_iload hx hb dX4_choose_40 (lv_at hl 0 rfl) ?_
            refine lv_aload_n hx hb dX4_choose_42 rfl (lv_at hl 3 rfl) ?_
            refine gf_X4_9 cx hK w 0 rfl rfl dX4_choose_43 ?_
            refine gf_X4_50 cx hK w 1 rfl rfl dX4_choose_46 ?_
            refine r_icmp_ge hx hb dX4_choose_49 (tgt := 142) (by decide) (by omega) (by omega) (fun c49 => ?_) (fun c49 => ?_)
            · exact ga_vret cx hr hlk w dX4_choose_142 ⟨Nat.le_refl _, Nat.le_refl _⟩ (⟨be2, bp2, (by rw [show 16 - dp = (15 - dp) + 1 by omega, chz_q (by omega), show k = ee by omega]; rw [show k = ee by omega] at hq; rw [hq]), hbe2, hbp2, rfl, rfl⟩)
            · refine lv_aload_n hx hb dX4_choose_52 rfl (lv_at hl 4 rfl) ?_
              refine gf_X4_53 cx hK w 3 rfl rfl dX4_choose_53 ?_
              refine lv_iload hx hb dX4_choose_56 (lv_at hl 2 rfl) ?_
              refine r_ialdN hx hb hK w 4 rfl dX4_choose_58 (by omega) (by omega) ?_
              refine lv_iload hx hb dX4_choose_59 (lv_at hl 1 rfl) ?_
              refine lv_iconst (v := (-1)) hx hb dX4_choose_61 (by decide) ?_
              refine lv_ixor hx hb dX4_choose_62 ?_
              refine lv_iand hx hb dX4_choose_63 ?_
              refine r_topi (y := nI ((z (fnm z ch pn s0)) &&& (65535 ^^^ tr))) (nI_andn (hz _ c14x)) ?_
              refine lv_iload hx hb dX4_choose_64 (lv_at hl 0 rfl) ?_
              refine ga_callSN (rest := []) (wr := [(aH, .inr (4, [.ref aP, .int (nI be2), .long (lN bp2)])), (aP, .inr (1, [.ref aF, .ref aT, .ref aC, .ref aL, .int (nI n), .int (nI k), .int (nI li), .int (nI fa)])), (aC, .inl (G.2.2, 16, .inl (aN ct))), (aK, .inr (0, [.ref aZ, .int (nI pn), .int (bI sl)])), (aZ, .inl (G.2.2, cap, .inl (aN z)))]) cx hK hA w hl lk_X4_57 (c_X6_has l G ((z (fnm z ch pn s0)) &&& (65535 ^^^ tr)) ee (andL_lt (by have := hz _ c14x; omega)) (by omega)) ⟨(by show 0 + 1 ≤ (d + 1) + 5; omega), (by show 8 + (2 + 11) + (0) ≤ 33 * (d + 1) + 120; omega)⟩ [] [0, 1, 2, 3, 4] rfl rfl (by decide) (by decide) (by decide) rfl (Nat.le_of_ble_eq_true rfl) dX4_choose_66 ⟨Nat.le_refl _, Nat.le_refl _⟩ rfl (fun r w1_ H_ locs_ hp w => ?_)
              obtain ⟨rfl, rfl⟩ := hp
              have w : ga_wd G A_ s_ H_ locs_ [(aH, .inr (4, [.ref aP, .int (nI be2), .long (lN bp2)])), (aP, .inr (1, [.ref aF, .ref aT, .ref aC, .ref aL, .int (nI n), .int (nI k), .int (nI li), .int (nI fa)])), (aC, .inl (G.2.2, 16, .inl (aN ct))), (aK, .inr (0, [.ref aZ, .int (nI pn), .int (bI sl)])), (aZ, .inl (G.2.2, cap, .inl (aN z)))] := ga_perm w [0, 1, 2, 3, 4] (by decide) rfl
              refine W.eq (g2 := F0 m_ 69 ls [.int (bI (Nat.testBit ((z (fnm z ch pn s0)) &&& (65535 ^^^ tr)) ee))]) rfl ?_
              refine r_ifb_eq hx hb dX4_choose_69 (tgt := 136) (by decide) (fun c69 => ?_) (fun c69 => ?_)
              · refine r_iinc (d := 1) (k := 0) (lv' := [(10, .int (nI (ee + 1))), (9, .int (nI tr)), (8, .int (nI (fnm z ch pn s0))), (0, .ref aH), (1, .ref aK), (2, .int (nI s0)), (3, .int (nI ch)), (4, .int (nI bar)), (5, .long (lN pr)), (7, .int (nI dp))]) hx hb dX4_choose_136 hl rfl (by decide) (by decide) rfl (fun ls hl => ?_)
                refine lv_goto (tgt := 40) hx hb dX4_choose_139 (by decide) ?_
                exact ih40 (ee + 1) tr be2 bp2 (by omega) (chq_n hq c69) (htr) (hbe2) (hbp2) (by omega) _ _ _ (lv_sub hl [0, 1, 2, 3, 4, 5, 6, 7, 8, 9] rfl) w
              · refine lv_iload_n hx hb dX4_choose_72 rfl (lv_at hl 6 rfl) ?_
                refine lv_iconst (v := nI 1) hx hb dX4_choose_73 (by decide) ?_
                refine lv_iload hx hb dX4_choose_74 (lv_at hl 0 rfl) ?_
                refine r_ishl hx hb dX4_choose_76 (by omega) ?_
                refine r_ior hx hb dX4_choose_77 ?_
                refine lv_istore (lv' := [(11, .int (nI (ch ||| (1 <<< ee)))), (10, .int (nI ee)), (9, .int (nI tr)), (8, .int (nI (fnm z ch pn s0))), (0, .ref aH), (1, .ref aK), (2, .int (nI s0)), (3, .int (nI ch)), (4, .int (nI bar)), (5, .long (lN pr)), (7, .int (nI dp))]) hx hb dX4_choose_78 hl (by decide) rfl (fun ls hl => ?_)
                refine lv_lload hx hb dX4_choose_80 (lv_at hl 9 rfl) ?_
                refine lv_aload_n hx hb dX4_choose_82 rfl (lv_at hl 4 rfl) ?_
                refine gf_X4_9 cx hK w 0 rfl rfl dX4_choose_83 ?_
                refine gf_X4_61 cx hK w 1 rfl rfl dX4_choose_86 ?_
                refine lv_iload hx hb dX4_choose_89 (lv_at hl 1 rfl) ?_
                refine r_ialdN hx hb hK w 2 rfl dX4_choose_91 (by omega) (by decide) ?_
                have hcte := hct ee (by omega)
                refine r_i2l hx hb dX4_choose_92 (by omega) ?_
                refine r_ladd hx hb dX4_choose_93 ?_
                refine lv_lconst (v := lN 1) hx hb dX4_choose_94 (by decide) ?_
                refine r_ladd hx hb dX4_choose_95 ?_
                refine lv_lstore (lv' := [(12, .long (lN ((pr + (ct ee)) + 1))), (11, .int (nI (ch ||| (1 <<< ee)))), (10, .int (nI ee)), (9, .int (nI tr)), (8, .int (nI (fnm z ch pn s0))), (0, .ref aH), (1, .ref aK), (2, .int (nI s0)), (3, .int (nI ch)), (4, .int (nI bar)), (5, .long (lN pr)), (7, .int (nI dp))]) hx hb dX4_choose_96 hl (by decide) rfl (fun ls hl => ?_)
                refine lv_lload hx hb dX4_choose_98 (lv_at hl 0 rfl) ?_
                refine lv_aload_n hx hb dX4_choose_100 rfl (lv_at hl 5 rfl) ?_
                refine gf_X4_29 cx hK w 0 rfl rfl dX4_choose_101 ?_
                refine W.lcmp hx hb dX4_choose_104 ?_
                refine r_lcN_gt hx hb dX4_choose_105 (tgt := 127) (by decide) (by omega) (by omega) (fun c105 => ?_) (fun c105 => ?_)
                · refine lv_iload hx hb dX4_choose_127 (lv_at hl 3 rfl) ?_
                  refine lv_iconst (v := nI 1) hx hb dX4_choose_129 (by decide) ?_
                  refine lv_iload hx hb dX4_choose_130 (lv_at hl 2 rfl) ?_
                  refine r_ishl hx hb dX4_choose_132 (by omega) ?_
                  refine r_ior hx hb dX4_choose_133 ?_
                  refine lv_istore (lv' := [(9, .int (nI (tr ||| (1 <<< ee)))), (12, .long (lN ((pr + (ct ee)) + 1))), (11, .int (nI (ch ||| (1 <<< ee)))), (10, .int (nI ee)), (8, .int (nI (fnm z ch pn s0))), (0, .ref aH), (1, .ref aK), (2, .int (nI s0)), (3, .int (nI ch)), (4, .int (nI bar)), (5, .long (lN pr)), (7, .int (nI dp))]) hx hb dX4_choose_134 hl (by decide) rfl (fun ls hl => ?_)
                  refine r_iinc (d := 1) (k := 3) (lv' := [(10, .int (nI (ee + 1))), (9, .int (nI (tr ||| (1 <<< ee)))), (12, .long (lN ((pr + (ct ee)) + 1))), (11, .int (nI (ch ||| (1 <<< ee)))), (8, .int (nI (fnm z ch pn s0))), (0, .ref aH), (1, .ref aK), (2, .int (nI s0)), (3, .int (nI ch)), (4, .int (nI bar)), (5, .long (lN pr)), (7, .int (nI dp))]) hx hb dX4_choose_136 hl rfl (by decide) (by decide) rfl (fun ls hl => ?_)
                  refine lv_goto (tgt := 40) hx hb dX4_choose_139 (by decide) ?_
                  exact ih40 (ee + 1) (tr ||| (1 <<< ee)) be2 bp2 (by omega) (chq_x hq c69 c105) (or_lt 16 htr (one_lt (by omega))) (hbe2) (hbp2) (by omega) _ _ _ (lv_sub hl [0, 1, 4, 5, 6, 7, 8, 9, 10, 11] rfl) w
                · refine lv_aload_n hx hb dX4_choose_108 rfl (lv_at hl 5 rfl) ?_
                  refine lv_aload_n hx hb dX4_choose_109 rfl (lv_at hl 6 rfl) ?_
                  refine lv_iload hx hb dX4_choose_110 (lv_at hl 4 rfl) ?_
                  refine lv_iconst (v := nI 1) hx hb dX4_choose_112 (by decide) ?_
                  refine r_iadd hx hb dX4_choose_113 ?_
                  refine lv_iload hx hb dX4_choose_114 (lv_at hl 1 rfl) ?_
                  refine lv_iload hx hb dX4_choose_116 (lv_at hl 3 rfl) ?_
                  refine lv_lload hx hb dX4_choose_118 (lv_at hl 0 rfl) ?_
                  refine lv_iload hx hb dX4_choose_120 (lv_at hl 11 rfl) ?_
                  refine lv_iconst (v := nI 1) hx hb dX4_choose_122 (by decide) ?_
                  refine r_iadd hx hb dX4_choose_123 ?_
                  refine ga_callS (rest := []) (wr := []) cx hK hA w hl lk_X4_33 (ih_ aH be2 bp2 aP aF aT aC aL n k li fa ct aK aZ cap z pn sl ((fnm z ch pn s0) + 1) (ch ||| (1 <<< ee)) tr ((pr + (ct ee)) + 1) (dp + 1) (by omega) (by omega) (hk) (hct) (hpc) (hcap) (hz) (by omega) (or_lt 16 hch (one_lt (by omega))) (htr) (hbe2) (hbp2) (by have := hct ee (by omega); omega)) ⟨(by show d + 5 + 1 ≤ (d + 1) + 5; omega), (by show 8 + (14 + 11) + (33 * d + 120) ≤ 33 * (d + 1) + 120; omega)⟩ [0, 1, 2, 3, 4] [] rfl rfl (by decide) (by decide) (by decide) rfl (Nat.le_of_ble_eq_true rfl) dX4_choose_124 ⟨Nat.le_refl _, Nat.le_refl _⟩ rfl (fun r w1_ H_ locs_ hp w => ?_)
                  obtain ⟨be5, bp5, h51, h52, h53, rfl, rfl⟩ := hp
                  have w : ga_wd G A_ s_ H_ locs_ [(aH, .inr (4, [.ref aP, .int (nI be5), .long (lN bp5)])), (aP, .inr (1, [.ref aF, .ref aT, .ref aC, .ref aL, .int (nI n), .int (nI k), .int (nI li), .int (nI fa)])), (aC, .inl (G.2.2, 16, .inl (aN ct))), (aK, .inr (0, [.ref aZ, .int (nI pn), .int (bI sl)])), (aZ, .inl (G.2.2, cap, .inl (aN z)))] := ga_perm w [0, 1, 2, 3, 4] (by decide) rfl
                  refine W.eq (g2 := F0 m_ 127 ls []) rfl ?_
                  refine lv_iload hx hb dX4_choose_127 (lv_at hl 3 rfl) ?_
                  refine lv_iconst (v := nI 1) hx hb dX4_choose_129 (by decide) ?_
                  refine lv_iload hx hb dX4_choose_130 (lv_at hl 2 rfl) ?_
                  refine r_ishl hx hb dX4_choose_132 (by omega) ?_
                  refine r_ior hx hb dX4_choose_133 ?_
                  refine lv_istore (lv' := [(9, .int (nI (tr ||| (1 <<< ee)))), (12, .long (lN ((pr + (ct ee)) + 1))), (11, .int (nI (ch ||| (1 <<< ee)))), (10, .int (nI ee)), (8, .int (nI (fnm z ch pn s0))), (0, .ref aH), (1, .ref aK), (2, .int (nI s0)), (3, .int (nI ch)), (4, .int (nI bar)), (5, .long (lN pr)), (7, .int (nI dp))]) hx hb dX4_choose_134 hl (by decide) rfl (fun ls hl => ?_)
                  refine r_iinc (d := 1) (k := 3) (lv' := [(10, .int (nI (ee + 1))), (9, .int (nI (tr ||| (1 <<< ee)))), (12, .long (lN ((pr + (ct ee)) + 1))), (11, .int (nI (ch ||| (1 <<< ee)))), (8, .int (nI (fnm z ch pn s0))), (0, .ref aH), (1, .ref aK), (2, .int (nI s0)), (3, .int (nI ch)), (4, .int (nI bar)), (5, .long (lN pr)), (7, .int (nI dp))]) hx hb dX4_choose_136 hl rfl (by decide) (by decide) rfl (fun ls hl => ?_)
                  refine lv_goto (tgt := 40) hx hb dX4_choose_139 (by decide) ?_
                  exact ih40 (ee + 1) (tr ||| (1 <<< ee)) be5 bp5 (by omega) (by rw [chq_y hq c69 c105, h51, show 16 - (dp + 1) = 15 - dp by omega]) (or_lt 16 htr (one_lt (by omega))) (h52) (h53) (by omega) _ _ _ (lv_sub hl [0, 1, 4, 5, 6, 7, 8, 9, 10, 11] rfl) w
        exact loop40 _ 0 bar be bp (by omega) (rfl) (hbar) (hbe) (hbp) (Nat.lt_succ_self _) _ _ _ (lv_sub hl [0, 1, 2, 3, 4, 5, 6, 7, 8, 9] rfl) w
      · exact ga_vret cx hr hlk w dX4_choose_32 ⟨Nat.le_refl _, Nat.le_refl _⟩ (⟨be, bp, (by rw [show 16 - dp = 0 by omega, chz_0 (by omega)]), hbe, hbp, rfl, rfl⟩)
    · refine lv_aload_n hx hb dX4_choose_17 rfl (lv_at hl 1 rfl) ?_
      refine lv_iload_n hx hb dX4_choose_18 rfl (lv_at hl 4 rfl) ?_
      refine lv_lload hx hb dX4_choose_19 (lv_at hl 6 rfl) ?_
      refine ga_callV (rest := []) (wr := [(aP, .inr (1, [.ref aF, .ref aT, .ref aC, .ref aL, .int (nI n), .int (nI k), .int (nI li), .int (nI fa)])), (aC, .inl (G.2.2, 16, .inl (aN ct))), (aK, .inr (0, [.ref aZ, .int (nI pn), .int (bI sl)])), (aZ, .inl (G.2.2, cap, .inl (aN z)))]) cx hK hA w hl lk_X4_46 (c_X4_offer l G aH aP be bp ch pr (hch) (hbe) (by omega) (hbp)) ⟨(by show 2 + 1 ≤ (d + 1) + 5; omega), (by show 8 + (4 + 11) + (44) ≤ 33 * (d + 1) + 120; omega)⟩ [0] [1, 2, 3, 4] rfl rfl (by decide) (by decide) (by decide) 0 4 rfl rfl rfl rfl (Nat.le_of_ble_eq_true rfl) dX4_choose_21 ⟨Nat.le_refl _, Nat.le_refl _⟩ rfl (fun r w1_ H_ locs_ hp w => ?_)
      obtain ⟨rfl, rfl⟩ := hp
      have w : ga_wd G A_ s_ H_ locs_ [(aH, .inr (4, [.ref aP, .int (nI ((ofr (be, bp) ch pr).1)), .long (lN ((ofr (be, bp) ch pr).2))])), (aP, .inr (1, [.ref aF, .ref aT, .ref aC, .ref aL, .int (nI n), .int (nI k), .int (nI li), .int (nI fa)])), (aC, .inl (G.2.2, 16, .inl (aN ct))), (aK, .inr (0, [.ref aZ, .int (nI pn), .int (bI sl)])), (aZ, .inl (G.2.2, cap, .inl (aN z)))] := ga_perm w [4, 0, 1, 2, 3] (by decide) rfl
      refine W.eq (g2 := F0 m_ 24 ls []) rfl ?_
      exact ga_vret cx hr hlk w dX4_choose_24 ⟨Nat.le_refl _, Nat.le_refl _⟩ (⟨_, _, (by rw [chz_o (by omega)]), (ofr_lt (st := (be, bp)) hbe hch hbp (by omega)).1, (ofr_lt (st := (be, bp)) hbe hch hbp (by omega)).2, rfl, rfl⟩)

set_option maxHeartbeats 4000000 in
set_option maxRecDepth 100000 in
theorem c_X4_cheapestWith (l : Launch) (G : ga_G) (aH : Nat) (xb : Int32) (xp : Int64) (aP : Nat) (aF : Nat) (aT : Nat) (aC : Nat) (aL : Nat) (n : Nat) (k : Nat) (li : Nat) (fa : Nat) (ct : Nat → Nat) (aK : Nat) (aZ : Nat) (cap : Nat) (z : Nat → Nat) (pn : Nat) (sl : Bool) (gv : Nat) (hk : k ≤ 16) (hct : ∀ e, e < k → ct e ≤ 1000000) (hpc : pn ≤ cap) (hcap : cap < 2 ^ 25) (hz : ∀ q, q < pn → z q < 65536) (hgv : gv < 65536) : ga_M l G yX4_cheapestWith cX4_cheapestWith 3 (Option.some Jvm.ClassFile.FieldType.int) 22 681 0 0 [.ref aH, .int (nI gv), .ref aK] [(aH, .inr (4, [.ref aP, .int xb, .long xp])), (aP, .inr (1, [.ref aF, .ref aT, .ref aC, .ref aL, .int (nI n), .int (nI k), .int (nI li), .int (nI fa)])), (aC, .inl (G.2.2, 16, .inl (aN ct))), (aK, .inr (0, [.ref aZ, .int (nI pn), .int (bI sl)])), (aZ, .inl (G.2.2, cap, .inl (aN z)))] (fun r w => ∃ (be9 : Nat), ∃ (bp9 : Nat), ((be9, bp9) = chz k ct z pn 16 0 gv 0 (prc ct gv k) (2 ^ k - 1, prc ct (2 ^ k - 1) k)) ∧ (be9 < 65536) ∧ r = some (.int (nI be9)) ∧ w = [(aH, .inr (4, [.ref aP, .int (nI be9), .long (lN bp9)])), (aP, .inr (1, [.ref aF, .ref aT, .ref aC, .ref aL, .int (nI n), .int (nI k), .int (nI li), .int (nI fa)])), (aC, .inl (G.2.2, 16, .inl (aN ct))), (aK, .inr (0, [.ref aZ, .int (nI pn), .int (bI sl)])), (aZ, .inl (G.2.2, cap, .inl (aN z)))]) := by
  refine ga_M.intro (by decide) (Nat.le_of_ble_eq_true rfl) (fun p_ e_ s_ m_ below meth c_ A_ H_ locs_ ls cx hr hlk hnm hA hK hl w => ?_)
  have hx := cx.1
  have hb := cx.2.1
  have hl : lv_has ls 3 [(0, .ref aH), (1, .int (nI gv)), (2, .ref aK)] := hl
  refine lv_aload_n hx hb dX4_cheapestWith_0 rfl (lv_at hl 0 rfl) ?_
  refine lv_aload_n hx hb dX4_cheapestWith_1 rfl (lv_at hl 0 rfl) ?_
  refine gf_X4_9 cx hK w 0 rfl rfl dX4_cheapestWith_2 ?_
  refine ga_callV (rest := [.ref aH]) (wr := [(aH, .inr (4, [.ref aP, .int xb, .long xp])), (aC, .inl (G.2.2, 16, .inl (aN ct))), (aK, .inr (0, [.ref aZ, .int (nI pn), .int (bI sl)])), (aZ, .inl (G.2.2, cap, .inl (aN z)))]) cx hK hA w hl lk_X4_15 (c_X1_allSteps l G aP aF aT aC aL (nI n) k (nI li) (nI fa) (hk)) ⟨Nat.le_of_ble_eq_true rfl, Nat.le_of_ble_eq_true rfl⟩ [1] [0, 2, 3, 4] rfl rfl (by decide) (by decide) (by decide) 1 1 rfl rfl rfl rfl (Nat.le_of_ble_eq_true rfl) dX4_cheapestWith_5 ⟨Nat.le_refl _, Nat.le_refl _⟩ rfl (fun r w1_ H_ locs_ hp w => ?_)
  obtain ⟨rfl, rfl⟩ := hp
  have w : ga_wd G A_ s_ H_ locs_ [(aH, .inr (4, [.ref aP, .int xb, .long xp])), (aP, .inr (1, [.ref aF, .ref aT, .ref aC, .ref aL, .int (nI n), .int (nI k), .int (nI li), .int (nI fa)])), (aC, .inl (G.2.2, 16, .inl (aN ct))), (aK, .inr (0, [.ref aZ, .int (nI pn), .int (bI sl)])), (aZ, .inl (G.2.2, cap, .inl (aN z)))] := ga_perm w [0, 4, 1, 2, 3] (by decide) rfl
  refine W.eq (g2 := F0 m_ 8 ls [.int (nI (2 ^ k - 1)), .ref aH]) rfl ?_
  have hp2 : 2 ^ k ≤ 2 ^ 16 := Nat.pow_le_pow_right (by decide) hk
  refine pf_X4_21 cx hK w 0 rfl rfl rfl (Nat.le_of_ble_eq_true rfl) dX4_cheapestWith_8 (fun H_ locs_ w => ?_)
  have w : ga_wd G A_ s_ H_ locs_ [(aH, .inr (4, [.ref aP, .int (nI (2 ^ k - 1)), .long xp])), (aP, .inr (1, [.ref aF, .ref aT, .ref aC, .ref aL, .int (nI n), .int (nI k), .int (nI li), .int (nI fa)])), (aC, .inl (G.2.2, 16, .inl (aN ct))), (aK, .inr (0, [.ref aZ, .int (nI pn), .int (bI sl)])), (aZ, .inl (G.2.2, cap, .inl (aN z)))] := w
  refine lv_aload_n hx hb dX4_cheapestWith_11 rfl (lv_at hl 0 rfl) ?_
  refine lv_aload_n hx hb dX4_cheapestWith_12 rfl (lv_at hl 0 rfl) ?_
  refine gf_X4_9 cx hK w 0 rfl rfl dX4_cheapestWith_13 ?_
  refine lv_aload_n hx hb dX4_cheapestWith_16 rfl (lv_at hl 0 rfl) ?_
  refine gf_X4_21 cx hK w 0 rfl rfl dX4_cheapestWith_17 ?_
  refine ga_callV (rest := [.ref aH]) (wr := [(aH, .inr (4, [.ref aP, .int (nI (2 ^ k - 1)), .long xp])), (aK, .inr (0, [.ref aZ, .int (nI pn), .int (bI sl)])), (aZ, .inl (G.2.2, cap, .inl (aN z)))]) cx hK hA w hl lk_X4_25 (c_X1_priceOf l G aP aF aT aC aL n k li fa ct (2 ^ k - 1) (hk) (by omega) (hct)) ⟨Nat.le_of_ble_eq_true rfl, Nat.le_of_ble_eq_true rfl⟩ [1, 2] [0, 3, 4] rfl rfl (by decide) (by decide) (by decide) 1 1 rfl rfl rfl rfl (Nat.le_of_ble_eq_true rfl) dX4_cheapestWith_20 ⟨Nat.le_refl _, Nat.le_refl _⟩ rfl (fun r w1_ H_ locs_ hp w => ?_)
  obtain ⟨rfl, rfl⟩ := hp
  have w : ga_wd G A_ s_ H_ locs_ [(aH, .inr (4, [.ref aP, .int (nI (2 ^ k - 1)), .long xp])), (aP, .inr (1, [.ref aF, .ref aT, .ref aC, .ref aL, .int (nI n), .int (nI k), .int (nI li), .int (nI fa)])), (aC, .inl (G.2.2, 16, .inl (aN ct))), (aK, .inr (0, [.ref aZ, .int (nI pn), .int (bI sl)])), (aZ, .inl (G.2.2, cap, .inl (aN z)))] := ga_perm w [0, 3, 4, 1, 2] (by decide) rfl
  refine W.eq (g2 := F0 m_ 23 ls [.long (lN (prc ct (2 ^ k - 1) k)), .ref aH]) rfl ?_
  have hpa := prc_le (ct := ct) (st := 2 ^ k - 1) (k := k) hct
  refine pf_X4_29 cx hK w 0 rfl rfl rfl (Nat.le_of_ble_eq_true rfl) dX4_cheapestWith_23 (fun H_ locs_ w => ?_)
  have w : ga_wd G A_ s_ H_ locs_ [(aH, .inr (4, [.ref aP, .int (nI (2 ^ k - 1)), .long (lN (prc ct (2 ^ k - 1) k))])), (aP, .inr (1, [.ref aF, .ref aT, .ref aC, .ref aL, .int (nI n), .int (nI k), .int (nI li), .int (nI fa)])), (aC, .inl (G.2.2, 16, .inl (aN ct))), (aK, .inr (0, [.ref aZ, .int (nI pn), .int (bI sl)])), (aZ, .inl (G.2.2, cap, .inl (aN z)))] := w
  refine lv_aload_n hx hb dX4_cheapestWith_26 rfl (lv_at hl 0 rfl) ?_
  refine lv_aload_n hx hb dX4_cheapestWith_27 rfl (lv_at hl 2 rfl) ?_
  refine lv_iconst (v := nI 0) hx hb dX4_cheapestWith_28 (by decide) ?_
  refine lv_iload_n hx hb dX4_cheapestWith_29 rfl (lv_at hl 1 rfl) ?_
  refine lv_iconst (v := nI 0) hx hb dX4_cheapestWith_30 (by decide) ?_
  refine lv_aload_n hx hb dX4_cheapestWith_31 rfl (lv_at hl 0 rfl) ?_
  refine gf_X4_9 cx hK w 0 rfl rfl dX4_cheapestWith_32 ?_
  refine lv_iload_n hx hb dX4_cheapestWith_35 rfl (lv_at hl 1 rfl) ?_
  refine ga_callV (rest := [.int (nI 0), .int (nI gv), .int (nI 0), .ref aK, .ref aH]) (wr := [(aH, .inr (4, [.ref aP, .int (nI (2 ^ k - 1)), .long (lN (prc ct (2 ^ k - 1) k))])), (aK, .inr (0, [.ref aZ, .int (nI pn), .int (bI sl)])), (aZ, .inl (G.2.2, cap, .inl (aN z)))]) cx hK hA w hl lk_X4_25 (c_X1_priceOf l G aP aF aT aC aL n k li fa ct gv (hk) (by omega) (hct)) ⟨Nat.le_of_ble_eq_true rfl, Nat.le_of_ble_eq_true rfl⟩ [1, 2] [0, 3, 4] rfl rfl (by decide) (by decide) (by decide) 1 1 rfl rfl rfl rfl (Nat.le_of_ble_eq_true rfl) dX4_cheapestWith_36 ⟨Nat.le_refl _, Nat.le_refl _⟩ rfl (fun r w1_ H_ locs_ hp w => ?_)
  obtain ⟨rfl, rfl⟩ := hp
  have w : ga_wd G A_ s_ H_ locs_ [(aH, .inr (4, [.ref aP, .int (nI (2 ^ k - 1)), .long (lN (prc ct (2 ^ k - 1) k))])), (aP, .inr (1, [.ref aF, .ref aT, .ref aC, .ref aL, .int (nI n), .int (nI k), .int (nI li), .int (nI fa)])), (aC, .inl (G.2.2, 16, .inl (aN ct))), (aK, .inr (0, [.ref aZ, .int (nI pn), .int (bI sl)])), (aZ, .inl (G.2.2, cap, .inl (aN z)))] := ga_perm w [0, 3, 4, 1, 2] (by decide) rfl
  refine W.eq (g2 := F0 m_ 39 ls [.long (lN (prc ct gv k)), .int (nI 0), .int (nI gv), .int (nI 0), .ref aK, .ref aH]) rfl ?_
  have hpg := prc_le (ct := ct) (st := gv) (k := k) hct
  refine lv_iconst (v := nI 0) hx hb dX4_cheapestWith_39 (by decide) ?_
  refine ga_callS (rest := []) (wr := []) cx hK hA w hl lk_X4_33 (c_X4_choose l G 16 aH (2 ^ k - 1) (prc ct (2 ^ k - 1) k) aP aF aT aC aL n k li fa ct aK aZ cap z pn sl 0 gv 0 (prc ct gv k) 0 (by decide) (by decide) (hk) (hct) (hpc) (hcap) (hz) (by omega) (hgv) (by decide) (by omega) (by omega) (by omega)) ⟨Nat.le_of_ble_eq_true rfl, Nat.le_of_ble_eq_true rfl⟩ [0, 1, 2, 3, 4] [] rfl rfl (by decide) (by decide) (by decide) rfl (Nat.le_of_ble_eq_true rfl) dX4_cheapestWith_40 ⟨Nat.le_refl _, Nat.le_refl _⟩ rfl (fun r w1_ H_ locs_ hp w => ?_)
  obtain ⟨be5, bp5, h51, h52, h53, rfl, rfl⟩ := hp
  have w : ga_wd G A_ s_ H_ locs_ [(aH, .inr (4, [.ref aP, .int (nI be5), .long (lN bp5)])), (aP, .inr (1, [.ref aF, .ref aT, .ref aC, .ref aL, .int (nI n), .int (nI k), .int (nI li), .int (nI fa)])), (aC, .inl (G.2.2, 16, .inl (aN ct))), (aK, .inr (0, [.ref aZ, .int (nI pn), .int (bI sl)])), (aZ, .inl (G.2.2, cap, .inl (aN z)))] := ga_perm w [0, 1, 2, 3, 4] (by decide) rfl
  refine W.eq (g2 := F0 m_ 43 ls []) rfl ?_
  refine lv_aload_n hx hb dX4_cheapestWith_43 rfl (lv_at hl 0 rfl) ?_
  refine gf_X4_21 cx hK w 0 rfl rfl dX4_cheapestWith_44 ?_
  exact ga_iret cx hr hlk w dX4_cheapestWith_47 ⟨Nat.le_refl _, Nat.le_refl _⟩ (⟨be5, bp5, h51, h52, rfl, rfl⟩)
