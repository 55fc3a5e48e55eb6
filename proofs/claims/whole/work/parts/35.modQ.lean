theorem one_ne (e : Nat) : ¬ 0 = 1 <<< e := fun h => by have h1 : (1 <<< e).testBit e = true := (by rw [tb_one]; simp); rw [← h] at h1; simp at h1
theorem hps_le (S : Nat → Nat) (y c : Nat) : hpsN S y c ≤ c := fl_le _ _
theorem soleB_congr {f g : Nat → Nat} {C li e : Nat} (h : ∀ i, i < C → f i = g i) : soleB f C li e = soleB g C li e := by
  rw [Bool.eq_iff_iff, soleB_iff, soleB_iff]
  constructor
  · rintro ⟨i, j, a, b, c⟩; exact ⟨i, j, a, b, by rw [← h i (by omega), ← h j b]; exact c⟩
  · rintro ⟨i, j, a, b, c⟩; exact ⟨i, j, a, b, by rw [h i (by omega), h j b]; exact c⟩
theorem al_neg {Q : List Nat} {t : Nat} {g : Int32} {j : Nat} (hQ : ∀ x ∈ Q, x < 16) (hg : g = sgb t ∧ t < 256) (h : g < 0) : ¬ (j < Q.length ∧ Q.getD j 0 = t) := by
  rintro ⟨h1, h2⟩
  have h3 := hQ (Q.getD j 0) (by rw [List.getD_eq_getElem?_getD, List.getElem?_eq_getElem h1]; exact List.getElem_mem h1)
  rw [hg.1, (sgb_ok t hg.2).1 (by omega)] at h
  exact nI_pos (by omega) h
theorem al_small {t : Nat} {g : Int32} (hg : g = sgb t ∧ t < 256) (h : ¬ g < 0) : g = nI t := by
  rcases Nat.lt_or_ge t 128 with h1 | h1
  · rw [hg.1, (sgb_ok t hg.2).1 h1]
  · rw [hg.1] at h; exact absurd ((sgb_ok t hg.2).2 h1) h
theorem al_yes {Q : List Nat} {t : Nat} {g : Int32} {j : Nat} (hQ : ∀ x ∈ Q, x < 16) (hg : g = sgb t ∧ t < 256) (h : ¬ g < 0) (hn : nth (Q.map nI) (nI j) = g) (hj : j < 2 ^ 31 := by omega) : j < Q.length ∧ Q.getD j 0 = t := by
  rw [al_small hg h, nth_nI hj] at hn
  split at hn
  · rename_i h1
    have h3 := hQ (Q.getD j 0) (by rw [List.getD_eq_getElem?_getD, List.getElem?_eq_getElem h1]; exact List.getElem_mem h1)
    exact ⟨h1, (nI_eq (by omega) (by have := hg.2; omega)).mp hn⟩
  · exact absurd hn.symm (nI_nm1 (by have := hg.2; omega))
theorem al_ne {Q : List Nat} {t : Nat} {g : Int32} {j : Nat} (hj : j < 2 ^ 31) (hg : g = sgb t ∧ t < 256) (h : ¬ g < 0) (hn : ¬ nth (Q.map nI) (nI j) = g) : ¬ (j < Q.length ∧ Q.getD j 0 = t) := by
  rintro ⟨h1, h2⟩
  exact hn (by rw [al_small hg h, nth_nI hj, if_pos h1, h2])
theorem al_lt {Q : List Nat} {L : Nat} (hL : L < 2 ^ 31) (h : ¬ nth (Q.map nI) (nI L) = -1) : L < Q.length := by
  rcases Nat.lt_or_ge L Q.length with h1 | h1
  · exact h1
  · exact absurd (by rw [nth_nI hL, if_neg (by omega)]) h
theorem al_nlt {Q : List Nat} {L : Nat} (hQ : ∀ x ∈ Q, x < 16) (hL : L < 2 ^ 31) (h : nth (Q.map nI) (nI L) = -1) : ¬ L < Q.length := fun h1 => by
  rw [nth_nI hL, if_pos h1] at h
  have h3 := hQ (Q.getD L 0) (by rw [List.getD_eq_getElem?_getD, List.getElem?_eq_getElem h1]; exact List.getElem_mem h1)
  exact nI_nm1 (by omega) h
set_option maxHeartbeats 4000000 in
set_option maxRecDepth 100000 in
theorem c_X7_isUseless (l : Launch) (G : ga_G) (aM : Nat) (mT : Nat) (mF : Nat) (mO : Nat) (mC : Nat) (mR : Nat) (mZ : Nat) (mS : Nat) (mH : Nat) (mL : Nat) (mN : Nat) (mX : Nat) (mY : Nat) (tl : Nat) (n : Nat) (k : Nat) (li : Nat) (fa : Nat) (mm : Nat) (im : Bool) (ird : Bool) (itn : Bool) (lsz : Nat) (tu : Nat) (st : Nat → Nat) (e : Nat) (hmm : mm ≤ 200) (hli : li < 65536) (he : e < 16) : ga_M l G yX7_isUseless cX7_isUseless 2 (Option.some Jvm.ClassFile.FieldType.boolean) 3 69 0 0 [.ref aM, .int (nI e)] [(aM, .inr (7, [.ref mT, .int (nI tl), .int (nI n), .int (nI k), .ref mF, .ref mO, .ref mC, .int (nI li), .int (nI fa), .int (nI mm), .int (bI im), .ref mR, .ref mZ, .ref mS, .ref mH, .int (bI ird), .int (bI itn), .int (nI lsz), .ref mL, .ref mN, .ref mX, .ref mY, .int (nI tu)])), (mS, .inl (G.2.2, 200, .inl (aN st)))] (fun r w => r = some (.int (bI (decide (hpsN st (li &&& (65535 ^^^ (1 <<< e))) mm = hpsN st li mm)))) ∧ w = [(aM, .inr (7, [.ref mT, .int (nI tl), .int (nI n), .int (nI k), .ref mF, .ref mO, .ref mC, .int (nI li), .int (nI fa), .int (nI mm), .int (bI im), .ref mR, .ref mZ, .ref mS, .ref mH, .int (bI ird), .int (bI itn), .int (nI lsz), .ref mL, .ref mN, .ref mX, .ref mY, .int (nI tu)])), (mS, .inl (G.2.2, 200, .inl (aN st)))]) := by
  refine ga_M.intro (by decide) (Nat.le_of_ble_eq_true rfl) (fun p_ e_ s_ m_ below meth c_ A_ H_ locs_ ls cx hr hlk hnm hA hK hl w => ?_)
  have hx := cx.1
  have hb := cx.2.1
  have hl : lv_has ls 2 [(0, .ref aM), (1, .int (nI e))] := hl
  refine lv_aload_n hx hb dX7_isUseless_0 rfl (lv_at hl 0 rfl) ?_
  refine lv_aload_n hx hb dX7_isUseless_1 rfl (lv_at hl 0 rfl) ?_
  refine gf_X7_63 cx hK w 0 rfl rfl dX7_isUseless_2 ?_
  refine lv_iconst (v := nI 1) hx hb dX7_isUseless_5 (by decide) ?_
  refine lv_iload_n hx hb dX7_isUseless_6 rfl (lv_at hl 1 rfl) ?_
  refine r_ishl hx hb dX7_isUseless_7 (by omega) ?_
  refine lv_iconst (v := (-1)) hx hb dX7_isUseless_8 (by decide) ?_
  refine lv_ixor hx hb dX7_isUseless_9 ?_
  refine lv_iand hx hb dX7_isUseless_10 ?_
  refine r_topi (y := nI (li &&& (65535 ^^^ (1 <<< e)))) (nI_andn hli) ?_
  refine ga_callV (rest := []) (wr := []) cx hK hA w hl lk_X7_111 (c_X7_heapsBy l G aM mT mF mO mC mR mZ mS mH mL mN mX mY tl n k li fa mm im ird itn lsz tu st (li &&& (65535 ^^^ (1 <<< e))) (hmm) (andL_lt (by omega))) ⟨Nat.le_of_ble_eq_true rfl, Nat.le_of_ble_eq_true rfl⟩ [0, 1] [] rfl rfl (by decide) (by decide) (by decide) 0 7 rfl rfl rfl rfl (Nat.le_of_ble_eq_true rfl) dX7_isUseless_11 ⟨Nat.le_refl _, Nat.le_refl _⟩ rfl (fun r w1_ H_ locs_ hp w => ?_)
  obtain ⟨rfl, rfl⟩ := hp
  have w : ga_wd G A_ s_ H_ locs_ [(aM, .inr (7, [.ref mT, .int (nI tl), .int (nI n), .int (nI k), .ref mF, .ref mO, .ref mC, .int (nI li), .int (nI fa), .int (nI mm), .int (bI im), .ref mR, .ref mZ, .ref mS, .ref mH, .int (bI ird), .int (bI itn), .int (nI lsz), .ref mL, .ref mN, .ref mX, .ref mY, .int (nI tu)])), (mS, .inl (G.2.2, 200, .inl (aN st)))] := ga_perm w [0, 1] (by decide) rfl
  refine W.eq (g2 := F0 m_ 14 ls [.int (nI (hpsN st (li &&& (65535 ^^^ (1 <<< e))) mm))]) rfl ?_
  refine lv_aload_n hx hb dX7_isUseless_14 rfl (lv_at hl 0 rfl) ?_
  refine lv_aload_n hx hb dX7_isUseless_15 rfl (lv_at hl 0 rfl) ?_
  refine gf_X7_63 cx hK w 0 rfl rfl dX7_isUseless_16 ?_
  refine ga_callV (rest := [.int (nI (hpsN st (li &&& (65535 ^^^ (1 <<< e))) mm))]) (wr := []) cx hK hA w hl lk_X7_111 (c_X7_heapsBy l G aM mT mF mO mC mR mZ mS mH mL mN mX mY tl n k li fa mm im ird itn lsz tu st li (hmm) (by omega)) ⟨Nat.le_of_ble_eq_true rfl, Nat.le_of_ble_eq_true rfl⟩ [0, 1] [] rfl rfl (by decide) (by decide) (by decide) 0 7 rfl rfl rfl rfl (Nat.le_of_ble_eq_true rfl) dX7_isUseless_19 ⟨Nat.le_refl _, Nat.le_refl _⟩ rfl (fun r w1_ H_ locs_ hp w => ?_)
  obtain ⟨rfl, rfl⟩ := hp
  have w : ga_wd G A_ s_ H_ locs_ [(aM, .inr (7, [.ref mT, .int (nI tl), .int (nI n), .int (nI k), .ref mF, .ref mO, .ref mC, .int (nI li), .int (nI fa), .int (nI mm), .int (bI im), .ref mR, .ref mZ, .ref mS, .ref mH, .int (bI ird), .int (bI itn), .int (nI lsz), .ref mL, .ref mN, .ref mX, .ref mY, .int (nI tu)])), (mS, .inl (G.2.2, 200, .inl (aN st)))] := ga_perm w [0, 1] (by decide) rfl
  refine W.eq (g2 := F0 m_ 22 ls [.int (nI (hpsN st li mm)), .int (nI (hpsN st (li &&& (65535 ^^^ (1 <<< e))) mm))]) rfl ?_
  refine r_icmp_ne hx hb dX7_isUseless_22 (tgt := 29) (by decide) (by have := hps_le st (li &&& (65535 ^^^ (1 <<< e))) mm; omega) (by have := hps_le st li mm; omega) (fun c22 => ?_) (fun c22 => ?_)
  · refine lv_iconst (v := nI 0) hx hb dX7_isUseless_29 (by decide) ?_
    exact ga_zret cx hr hlk w rfl dX7_isUseless_30 ⟨Nat.le_refl _, Nat.le_refl _⟩ (⟨ga_r0 (by simp [c22]), rfl⟩)
  · refine lv_iconst (v := nI 1) hx hb dX7_isUseless_25 (by decide) ?_
    refine lv_goto (tgt := 30) hx hb dX7_isUseless_26 (by decide) ?_
    exact ga_zret cx hr hlk w rfl dX7_isUseless_30 ⟨Nat.le_refl _, Nat.le_refl _⟩ (⟨ga_r1 (by simp [c22]), rfl⟩)

set_option maxHeartbeats 4000000 in
set_option maxRecDepth 100000 in
theorem c_X7_useless (l : Launch) (G : ga_G) (aM : Nat) (mT : Nat) (mF : Nat) (mO : Nat) (mC : Nat) (mR : Nat) (mZ : Nat) (mS : Nat) (mH : Nat) (mL : Nat) (mN : Nat) (mX : Nat) (mY : Nat) (tl : Nat) (n : Nat) (k : Nat) (li : Nat) (fa : Nat) (mm : Nat) (im : Bool) (ird : Bool) (itn : Bool) (lsz : Nat) (tu : Nat) (fr : Nat → Nat) (to : Nat → Nat) (ct : Nat → Nat) (sz : Nat → Nat) (st : Nat → Nat) (hs : Nat → Nat) (rw : Nat → Nat) (nw : Nat → Nat) (x : Int32) (hF : Flow n k fr to ct) (hli : li < 65536) : ga_M l G yX7_useless cX7_useless 4 (Option.some Jvm.ClassFile.FieldType.int) 4 90 0 0 [.ref aM, .int x] [(aM, .inr (7, [.ref mT, .int (nI tl), .int (nI n), .int (nI k), .ref mF, .ref mO, .ref mC, .int (nI li), .int (nI fa), .int (nI mm), .int (bI im), .ref mR, .ref mZ, .ref mS, .ref mH, .int (bI ird), .int (bI itn), .int (nI lsz), .ref mL, .ref mN, .ref mX, .ref mY, .int (nI tu)])), (mF, .inl (G.2.2, 16, .inl (aN fr))), (mO, .inl (G.2.2, 16, .inl (aN to))), (mR, .inl (G.2.2, 3200, .inl (aN rw))), (mZ, .inl (G.2.2, 200, .inl (aN sz))), (mS, .inl (G.2.2, 200, .inl (aN st))), (mH, .inl (G.2.2, 200, .inl (aN hs))), (mN, .inl (G.2.2, 16, .inl (aN nw)))] (fun r w => ∃ (mm2 : Nat), ∃ (im2 : Bool), ∃ (rw2 : Nat → Nat), ∃ (sz2 : Nat → Nat), ∃ (st2 : Nat → Nat), ∃ (hs2 : Nat → Nat), ∃ (nw2 : Nat → Nat), (RepM to fa (WL n k fr to) mm2 im2 rw2 sz2 st2 hs2) ∧ r = some (.int (sUse (WL n k fr to) li k x)) ∧ w = [(aM, .inr (7, [.ref mT, .int (nI tl), .int (nI n), .int (nI k), .ref mF, .ref mO, .ref mC, .int (nI li), .int (nI fa), .int (nI mm2), .int (bI im2), .ref mR, .ref mZ, .ref mS, .ref mH, .int (bI ird), .int (bI itn), .int (nI lsz), .ref mL, .ref mN, .ref mX, .ref mY, .int (nI tu)])), (mF, .inl (G.2.2, 16, .inl (aN fr))), (mO, .inl (G.2.2, 16, .inl (aN to))), (mR, .inl (G.2.2, 3200, .inl (aN rw2))), (mZ, .inl (G.2.2, 200, .inl (aN sz2))), (mS, .inl (G.2.2, 200, .inl (aN st2))), (mH, .inl (G.2.2, 200, .inl (aN hs2))), (mN, .inl (G.2.2, 16, .inl (aN nw2)))]) := by
  refine ga_M.intro (by decide) (Nat.le_of_ble_eq_true rfl) (fun p_ e_ s_ m_ below meth c_ A_ H_ locs_ ls cx hr hlk hnm hA hK hl w => ?_)
  have hx := cx.1
  have hb := cx.2.1
  have hl : lv_has ls 4 [(0, .ref aM), (1, .int x)] := hl
  refine lv_aload_n hx hb dX7_useless_0 rfl (lv_at hl 0 rfl) ?_
  refine ga_callV (rest := []) (wr := []) cx hK hA w hl lk_X7_96 (c_X7_isTooMany l G aM mT mF mO mC mR mZ mS mH mL mN mX mY tl n k li fa mm im ird itn lsz tu fr to ct sz st hs rw nw (hF)) ⟨Nat.le_of_ble_eq_true rfl, Nat.le_of_ble_eq_true rfl⟩ [0, 1, 2, 3, 4, 5, 6, 7] [] rfl rfl (by decide) (by decide) (by decide) 0 7 rfl rfl rfl rfl (Nat.le_of_ble_eq_true rfl) dX7_useless_1 ⟨Nat.le_refl _, Nat.le_refl _⟩ rfl (fun r w1_ H_ locs_ hp w => ?_)
  obtain ⟨mm9, im9, rw9, sz9, st9, hs9, nw9, hR9, rfl, rfl⟩ := hp
  have w : ga_wd G A_ s_ H_ locs_ [(aM, .inr (7, [.ref mT, .int (nI tl), .int (nI n), .int (nI k), .ref mF, .ref mO, .ref mC, .int (nI li), .int (nI fa), .int (nI mm9), .int (bI im9), .ref mR, .ref mZ, .ref mS, .ref mH, .int (bI ird), .int (bI itn), .int (nI lsz), .ref mL, .ref mN, .ref mX, .ref mY, .int (nI tu)])), (mF, .inl (G.2.2, 16, .inl (aN fr))), (mO, .inl (G.2.2, 16, .inl (aN to))), (mR, .inl (G.2.2, 3200, .inl (aN rw9))), (mZ, .inl (G.2.2, 200, .inl (aN sz9))), (mS, .inl (G.2.2, 200, .inl (aN st9))), (mH, .inl (G.2.2, 200, .inl (aN hs9))), (mN, .inl (G.2.2, 16, .inl (aN nw9)))] := ga_perm w [0, 1, 2, 3, 4, 5, 6, 7] (by decide) rfl
  refine W.eq (g2 := F0 m_ 4 ls [.int (bI im9)]) rfl ?_
  have hr9 := RepM_f hR9
  refine r_ifb_ne hx hb dX7_useless_4 (tgt := 11) (by decide) (fun c4 => ?_) (fun c4 => ?_)
  · have htm : 200 < (WL n k fr to).length := of_decide_eq_true (by rw [← hr9.2.1]; exact c4)
    refine lv_iconst (v := (-1)) hx hb dX7_useless_11 (by decide) ?_
    exact ga_iret cx hr hlk w dX7_useless_12 ⟨Nat.le_refl _, Nat.le_refl _⟩ (⟨mm9, im9, rw9, sz9, st9, hs9, nw9, hR9, ga_rv (by rw [sUse, if_pos htm]), rfl⟩)
  · have htm : ¬ 200 < (WL n k fr to).length := of_decide_eq_false (by rw [← hr9.2.1]; exact c4)
    have hnc := hr9.2.2.1 c4
    refine lv_iload_n hx hb dX7_useless_7 rfl (lv_at hl 1 rfl) ?_
    refine lv_if_ge hx hb dX7_useless_8 (tgt := 13) (by decide) (fun c8 => ?_) (fun c8 => ?_)
    · have hk16 := hF.2.2.1
      have hus : fl (fun e => Nat.testBit li e && decide (hpsN st9 (li &&& (65535 ^^^ (1 <<< e))) mm9 = hpsN st9 li mm9)) k = fl (fun e => Nat.testBit li e && !soleB (sS (WL n k fr to)) (WL n k fr to).length li e) k := fl_congr (fun e _ => by
        cases hb9 : Nat.testBit li e
        · rfl
        · rw [Bool.true_and, Bool.true_and, use_iff hli hb9, soleB_congr (fun i hi => (hr9.2.2.2.2 i hi).2.2.1), hnc])
      refine lv_iconst (v := nI 0) hx hb dX7_useless_13 (by decide) ?_
      refine lv_istore_n (lv' := [(2, .int (nI 0)), (0, .ref aM), (1, .int x)]) hx hb dX7_useless_14 rfl hl (by decide) rfl (fun ls hl => ?_)
      refine lv_iconst (v := nI 0) hx hb dX7_useless_15 (by decide) ?_
      refine lv_istore_n (lv' := [(3, .int (nI 0)), (2, .int (nI 0)), (0, .ref aM), (1, .int x)]) hx hb dX7_useless_16 rfl hl (by decide) rfl (fun ls hl => ?_)
      have loop17 : ∀ (n_ : Nat) (e : Nat) (t : Nat) (he : e ≤ k) (hz : scU (fun e => Nat.testBit li e && decide (hpsN st9 (li &&& (65535 ^^^ (1 <<< e))) mm9 = hpsN st9 li mm9)) x t e) (hm : k - e < n_) (H_ : Heap) (locs_ : List Loc) (ls : Array Slot) (hl : lv_has ls 4 [(3, .int (nI e)), (2, .int (nI t)), (0, .ref aM), (1, .int x)]) (w : ga_wd G A_ s_ H_ locs_ [(aM, .inr (7, [.ref mT, .int (nI tl), .int (nI n), .int (nI k), .ref mF, .ref mO, .ref mC, .int (nI li), .int (nI fa), .int (nI mm9), .int (bI im9), .ref mR, .ref mZ, .ref mS, .ref mH, .int (bI ird), .int (bI itn), .int (nI lsz), .ref mL, .ref mN, .ref mX, .ref mY, .int (nI tu)])), (mF, .inl (G.2.2, 16, .inl (aN fr))), (mO, .inl (G.2.2, 16, .inl (aN to))), (mR, .inl (G.2.2, 3200, .inl (aN rw9))), (mZ, .inl (G.2.2, 200, .inl (aN sz9))), (mS, .inl (G.2.2, 200, .inl (aN st9))), (mH, .inl (G.2.2, 200, .inl (aN hs9))), (mN, .inl (G.2.2, 16, .inl (aN nw9)))]), W p_ l e_ { frames := 4, cells := 0, slots := 0, locals := 90 } s_ m_ [.ref aM, .int x].toArray below meth c_ H_ locs_ (0) (0) (MQ below (ga_Q G A_ (fun r w => ∃ (mm2 : Nat), ∃ (im2 : Bool), ∃ (rw2 : Nat → Nat), ∃ (sz2 : Nat → Nat), ∃ (st2 : Nat → Nat), ∃ (hs2 : Nat → Nat), ∃ (nw2 : Nat → Nat), (RepM to fa (WL n k fr to) mm2 im2 rw2 sz2 st2 hs2) ∧ r = some (.int (sUse (WL n k fr to) li k x)) ∧ w = [(aM, .inr (7, [.ref mT, .int (nI tl), .int (nI n), .int (nI k), .ref mF, .ref mO, .ref mC, .int (nI li), .int (nI fa), .int (nI mm2), .int (bI im2), .ref mR, .ref mZ, .ref mS, .ref mH, .int (bI ird), .int (bI itn), .int (nI lsz), .ref mL, .ref mN, .ref mX, .ref mY, .int (nI tu)])), (mF, .inl (G.2.2, 16, .inl (aN fr))), (mO, .inl (G.2.2, 16, .inl (aN to))), (mR, .inl (G.2.2, 3200, .inl (aN rw2))), (mZ, .inl (G.2.2, 200, .inl (aN sz2))), (mS, .inl (G.2.2, 200, .inl (aN st2))), (mH, .inl (G.2.2, 200, .inl (aN hs2))), (mN, .inl (G.2.2, 16, .inl (aN nw2)))])) [.ref aM, .int x].toArray s_ 0 0 A_) (F0 m_ 17 ls []) := by
        intro n_
        induction n_ with
        | zero => intro e t he hz hm; exact absurd hm (Nat.not_lt_zero _)
        | succ n_ ih17 =>
          intro e t he hz hm17 H_ locs_ ls hl w
          refine lv_iload_n hx hb dX7_useless_17 rfl (lv_at hl 0 rfl) ?_
          refine lv_aload_n hx hb dX7_useless_18 rfl (lv_at hl 2 rfl) ?_
          refine gf_X7_52 cx hK w 0 rfl rfl dX7_useless_19 ?_
          refine r_icmp_ge hx hb dX7_useless_22 (tgt := 63) (by decide) (by omega) (by omega) (fun c22 => ?_) (fun c22 => ?_)
          · refine lv_iconst (v := (-1)) hx hb dX7_useless_63 (by decide) ?_
            exact ga_iret cx hr hlk w dX7_useless_64 ⟨Nat.le_refl _, Nat.le_refl _⟩ (⟨mm9, im9, rw9, sz9, st9, hs9, nw9, hR9, ga_rv (by rw [sUse, if_neg htm, ← hus]; exact (scU_end nI (by rw [show k = e by omega]; exact hz) (by omega)).symm), rfl⟩)
          · refine lv_aload_n hx hb dX7_useless_25 rfl (lv_at hl 2 rfl) ?_
            refine gf_X7_63 cx hK w 0 rfl rfl dX7_useless_26 ?_
            refine lv_iload_n hx hb dX7_useless_29 rfl (lv_at hl 0 rfl) ?_
            refine ga_callS (rest := []) (wr := [(aM, .inr (7, [.ref mT, .int (nI tl), .int (nI n), .int (nI k), .ref mF, .ref mO, .ref mC, .int (nI li), .int (nI fa), .int (nI mm9), .int (bI im9), .ref mR, .ref mZ, .ref mS, .ref mH, .int (bI ird), .int (bI itn), .int (nI lsz), .ref mL, .ref mN, .ref mX, .ref mY, .int (nI tu)])), (mF, .inl (G.2.2, 16, .inl (aN fr))), (mO, .inl (G.2.2, 16, .inl (aN to))), (mR, .inl (G.2.2, 3200, .inl (aN rw9))), (mZ, .inl (G.2.2, 200, .inl (aN sz9))), (mS, .inl (G.2.2, 200, .inl (aN st9))), (mH, .inl (G.2.2, 200, .inl (aN hs9))), (mN, .inl (G.2.2, 16, .inl (aN nw9)))]) cx hK hA w hl lk_X7_79 (c_X7_isIn l G li e (by omega) (by omega)) ⟨Nat.le_of_ble_eq_true rfl, Nat.le_of_ble_eq_true rfl⟩ [] [0, 1, 2, 3, 4, 5, 6, 7] rfl rfl (by decide) (by decide) (by decide) rfl (Nat.le_of_ble_eq_true rfl) dX7_useless_30 ⟨Nat.le_refl _, Nat.le_refl _⟩ rfl (fun r w1_ H_ locs_ hp w => ?_)
            obtain ⟨rfl, rfl⟩ := hp
            have w : ga_wd G A_ s_ H_ locs_ [(aM, .inr (7, [.ref mT, .int (nI tl), .int (nI n), .int (nI k), .ref mF, .ref mO, .ref mC, .int (nI li), .int (nI fa), .int (nI mm9), .int (bI im9), .ref mR, .ref mZ, .ref mS, .ref mH, .int (bI ird), .int (bI itn), .int (nI lsz), .ref mL, .ref mN, .ref mX, .ref mY, .int (nI tu)])), (mF, .inl (G.2.2, 16, .inl (aN fr))), (mO, .inl (G.2.2, 16, .inl (aN to))), (mR, .inl (G.2.2, 3200, .inl (aN rw9))), (mZ, .inl (G.2.2, 200, .inl (aN sz9))), (mS, .inl (G.2.2, 200, .inl (aN st9))), (mH, .inl (G.2.2, 200, .inl (aN hs9))), (mN, .inl (G.2.2, 16, .inl (aN nw9)))] := ga_perm w [0, 1, 2, 3, 4, 5, 6, 7] (by decide) rfl
            refine W.eq (g2 := F0 m_ 33 ls [.int (bI (Nat.testBit li e))]) rfl ?_
            refine r_ifb_eq hx hb dX7_useless_33 (tgt := 57) (by decide) (fun c33 => ?_) (fun c33 => ?_)
            · refine r_iinc (d := 1) (k := 0) (lv' := [(3, .int (nI (e + 1))), (2, .int (nI t)), (0, .ref aM), (1, .int x)]) hx hb dX7_useless_57 hl rfl (by decide) (by decide) rfl (fun ls hl => ?_)
              refine lv_goto (tgt := 17) hx hb dX7_useless_60 (by decide) ?_
              exact ih17 (e + 1) t (by omega) (scU_f hz (by rw [c33]; rfl)) (by omega) _ _ _ (lv_sub hl [0, 1, 2, 3] rfl) w
            · refine lv_aload_n hx hb dX7_useless_36 rfl (lv_at hl 2 rfl) ?_
              refine lv_iload_n hx hb dX7_useless_37 rfl (lv_at hl 0 rfl) ?_
              refine ga_callV (rest := []) (wr := [(mF, .inl (G.2.2, 16, .inl (aN fr))), (mO, .inl (G.2.2, 16, .inl (aN to))), (mR, .inl (G.2.2, 3200, .inl (aN rw9))), (mZ, .inl (G.2.2, 200, .inl (aN sz9))), (mH, .inl (G.2.2, 200, .inl (aN hs9))), (mN, .inl (G.2.2, 16, .inl (aN nw9)))]) cx hK hA w hl lk_X7_133 (c_X7_isUseless l G aM mT mF mO mC mR mZ mS mH mL mN mX mY tl n k li fa mm9 im9 ird itn lsz tu st9 e (by omega) (hli) (by omega)) ⟨Nat.le_of_ble_eq_true rfl, Nat.le_of_ble_eq_true rfl⟩ [0, 5] [1, 2, 3, 4, 6, 7] rfl rfl (by decide) (by decide) (by decide) 0 7 rfl rfl rfl rfl (Nat.le_of_ble_eq_true rfl) dX7_useless_38 ⟨Nat.le_refl _, Nat.le_refl _⟩ rfl (fun r w1_ H_ locs_ hp w => ?_)
              obtain ⟨rfl, rfl⟩ := hp
              have w : ga_wd G A_ s_ H_ locs_ [(aM, .inr (7, [.ref mT, .int (nI tl), .int (nI n), .int (nI k), .ref mF, .ref mO, .ref mC, .int (nI li), .int (nI fa), .int (nI mm9), .int (bI im9), .ref mR, .ref mZ, .ref mS, .ref mH, .int (bI ird), .int (bI itn), .int (nI lsz), .ref mL, .ref mN, .ref mX, .ref mY, .int (nI tu)])), (mF, .inl (G.2.2, 16, .inl (aN fr))), (mO, .inl (G.2.2, 16, .inl (aN to))), (mR, .inl (G.2.2, 3200, .inl (aN rw9))), (mZ, .inl (G.2.2, 200, .inl (aN sz9))), (mS, .inl (G.2.2, 200, .inl (aN st9))), (mH, .inl (G.2.2, 200, .inl (aN hs9))), (mN, .inl (G.2.2, 16, .inl (aN nw9)))] := ga_perm w [6, 0, 1, 2, 3, 7, 4, 5] (by decide) rfl
              refine W.eq (g2 := F0 m_ 41 ls [.int (bI (decide (hpsN st9 (li &&& (65535 ^^^ (1 <<< e))) mm9 = hpsN st9 li mm9)))]) rfl ?_
              refine r_ifb_ne hx hb dX7_useless_41 (tgt := 47) (by decide) (fun c41 => ?_) (fun c41 => ?_)
              · refine lv_iload_n hx hb dX7_useless_47 rfl (lv_at hl 1 rfl) ?_
                refine lv_iload_n hx hb dX7_useless_48 rfl (lv_at hl 3 rfl) ?_
                refine lv_icmp_ne hx hb dX7_useless_49 (tgt := 54) (by decide) (fun c49 => ?_) (fun c49 => ?_)
                · refine r_iinc (d := 1) (k := 1) (lv' := [(2, .int (nI (t + 1))), (3, .int (nI e)), (0, .ref aM), (1, .int x)]) hx hb dX7_useless_54 hl rfl (by decide) (by decide) rfl (fun ls hl => ?_)
                  refine r_iinc (d := 1) (k := 1) (lv' := [(3, .int (nI (e + 1))), (2, .int (nI (t + 1))), (0, .ref aM), (1, .int x)]) hx hb dX7_useless_57 hl rfl (by decide) (by decide) rfl (fun ls hl => ?_)
                  refine lv_goto (tgt := 17) hx hb dX7_useless_60 (by decide) ?_
                  exact ih17 (e + 1) (t + 1) (by omega) (scU_t hz (by rw [c33, c41]; rfl) c49) (by omega) _ _ _ (lv_sub hl [0, 1, 2, 3] rfl) w
                · refine lv_iload_n hx hb dX7_useless_52 rfl (lv_at hl 0 rfl) ?_
                  exact ga_iret cx hr hlk w dX7_useless_53 ⟨Nat.le_refl _, Nat.le_refl _⟩ (⟨mm9, im9, rw9, sz9, st9, hs9, nw9, hR9, ga_rv (by rw [sUse, if_neg htm, ← hus]; exact (scU_hit nI hz (by rw [c33, c41]; rfl) (by omega) (by omega) c49).symm), rfl⟩)
              · refine lv_goto (tgt := 57) hx hb dX7_useless_44 (by decide) ?_
                refine r_iinc (d := 1) (k := 0) (lv' := [(3, .int (nI (e + 1))), (2, .int (nI t)), (0, .ref aM), (1, .int x)]) hx hb dX7_useless_57 hl rfl (by decide) (by decide) rfl (fun ls hl => ?_)
                refine lv_goto (tgt := 17) hx hb dX7_useless_60 (by decide) ?_
                exact ih17 (e + 1) t (by omega) (scU_f hz (by rw [c33, c41]; rfl)) (by omega) _ _ _ (lv_sub hl [0, 1, 2, 3] rfl) w
      exact loop17 _ 0 0 (by omega) (scU_0 _ _) (Nat.lt_succ_self _) _ _ _ (lv_sub hl [0, 1, 2, 3] rfl) w
    · refine lv_iconst (v := (-1)) hx hb dX7_useless_11 (by decide) ?_
      exact ga_iret cx hr hlk w dX7_useless_12 ⟨Nat.le_refl _, Nat.le_refl _⟩ (⟨mm9, im9, rw9, sz9, st9, hs9, nw9, hR9, ga_rv (by rw [sUse, if_neg htm, nth_neg (Int32.not_le.mp c8)]), rfl⟩)

set_option maxHeartbeats 4000000 in
set_option maxRecDepth 100000 in
theorem c_X7_why (l : Launch) (G : ga_G) (aM : Nat) (mT : Nat) (mF : Nat) (mO : Nat) (mC : Nat) (mR : Nat) (mZ : Nat) (mS : Nat) (mH : Nat) (mL : Nat) (mN : Nat) (mX : Nat) (mY : Nat) (tl : Nat) (n : Nat) (k : Nat) (li : Nat) (fa : Nat) (mm : Nat) (im : Bool) (ird : Bool) (itn : Bool) (lsz : Nat) (tu : Nat) (fr : Nat → Nat) (to : Nat → Nat) (ct : Nat → Nat) (sz : Nat → Nat) (st : Nat → Nat) (hs : Nat → Nat) (rw : Nat → Nat) (nw : Nat → Nat) (x : Int32) (y : Int32) (hF : Flow n k fr to ct) (hli : li < 65536) : ga_M l G yX7_why cX7_why 6 (Option.some Jvm.ClassFile.FieldType.int) 3 65 0 0 [.ref aM, .int x, .int y] [(aM, .inr (7, [.ref mT, .int (nI tl), .int (nI n), .int (nI k), .ref mF, .ref mO, .ref mC, .int (nI li), .int (nI fa), .int (nI mm), .int (bI im), .ref mR, .ref mZ, .ref mS, .ref mH, .int (bI ird), .int (bI itn), .int (nI lsz), .ref mL, .ref mN, .ref mX, .ref mY, .int (nI tu)])), (mF, .inl (G.2.2, 16, .inl (aN fr))), (mO, .inl (G.2.2, 16, .inl (aN to))), (mR, .inl (G.2.2, 3200, .inl (aN rw))), (mZ, .inl (G.2.2, 200, .inl (aN sz))), (mS, .inl (G.2.2, 200, .inl (aN st))), (mH, .inl (G.2.2, 200, .inl (aN hs))), (mN, .inl (G.2.2, 16, .inl (aN nw)))] (fun r w => ∃ (mm2 : Nat), ∃ (im2 : Bool), ∃ (rw2 : Nat → Nat), ∃ (sz2 : Nat → Nat), ∃ (st2 : Nat → Nat), ∃ (hs2 : Nat → Nat), ∃ (nw2 : Nat → Nat), ∃ (rr : Int32), (WhyR (WL n k fr to) li k x y rr) ∧ r = some (.int rr) ∧ w = [(aM, .inr (7, [.ref mT, .int (nI tl), .int (nI n), .int (nI k), .ref mF, .ref mO, .ref mC, .int (nI li), .int (nI fa), .int (nI mm2), .int (bI im2), .ref mR, .ref mZ, .ref mS, .ref mH, .int (bI ird), .int (bI itn), .int (nI lsz), .ref mL, .ref mN, .ref mX, .ref mY, .int (nI tu)])), (mF, .inl (G.2.2, 16, .inl (aN fr))), (mO, .inl (G.2.2, 16, .inl (aN to))), (mR, .inl (G.2.2, 3200, .inl (aN rw2))), (mZ, .inl (G.2.2, 200, .inl (aN sz2))), (mS, .inl (G.2.2, 200, .inl (aN st2))), (mH, .inl (G.2.2, 200, .inl (aN hs2))), (mN, .inl (G.2.2, 16, .inl (aN nw2)))]) := by
  refine ga_M.intro (by decide) (Nat.le_of_ble_eq_true rfl) (fun p_ e_ s_ m_ below meth c_ A_ H_ locs_ ls cx hr hlk hnm hA hK hl w => ?_)
  have hx := cx.1
  have hb := cx.2.1
  have hl : lv_has ls 6 [(0, .ref aM), (1, .int x), (2, .int y)] := hl
  refine lv_aload_n hx hb dX7_why_0 rfl (lv_at hl 0 rfl) ?_
  refine lv_iload_n hx hb dX7_why_1 rfl (lv_at hl 1 rfl) ?_
  refine ga_callV (rest := []) (wr := [(mF, .inl (G.2.2, 16, .inl (aN fr))), (mO, .inl (G.2.2, 16, .inl (aN to))), (mR, .inl (G.2.2, 3200, .inl (aN rw))), (mZ, .inl (G.2.2, 200, .inl (aN sz))), (mS, .inl (G.2.2, 200, .inl (aN st))), (mH, .inl (G.2.2, 200, .inl (aN hs))), (mN, .inl (G.2.2, 16, .inl (aN nw)))]) cx hK hA w hl lk_X7_75 (c_X7_isStep l G aM mT mF mO mC mR mZ mS mH mL mN mX mY tl n k li fa mm im ird itn lsz tu x (hF.2.2.1)) ⟨Nat.le_of_ble_eq_true rfl, Nat.le_of_ble_eq_true rfl⟩ [0] [1, 2, 3, 4, 5, 6, 7] rfl rfl (by decide) (by decide) (by decide) 0 7 rfl rfl rfl rfl (Nat.le_of_ble_eq_true rfl) dX7_why_2 ⟨Nat.le_refl _, Nat.le_refl _⟩ rfl (fun r w1_ H_ locs_ hp w => ?_)
  obtain ⟨rfl, rfl⟩ := hp
  have w : ga_wd G A_ s_ H_ locs_ [(aM, .inr (7, [.ref mT, .int (nI tl), .int (nI n), .int (nI k), .ref mF, .ref mO, .ref mC, .int (nI li), .int (nI fa), .int (nI mm), .int (bI im), .ref mR, .ref mZ, .ref mS, .ref mH, .int (bI ird), .int (bI itn), .int (nI lsz), .ref mL, .ref mN, .ref mX, .ref mY, .int (nI tu)])), (mF, .inl (G.2.2, 16, .inl (aN fr))), (mO, .inl (G.2.2, 16, .inl (aN to))), (mR, .inl (G.2.2, 3200, .inl (aN rw))), (mZ, .inl (G.2.2, 200, .inl (aN sz))), (mS, .inl (G.2.2, 200, .inl (aN st))), (mH, .inl (G.2.2, 200, .inl (aN hs))), (mN, .inl (G.2.2, 16, .inl (aN nw)))] := ga_perm w [7, 0, 1, 2, 3, 4, 5, 6] (by decide) rfl
  refine W.eq (g2 := F0 m_ 5 ls [.int (bI (inB x k))]) rfl ?_
  refine r_ifb_eq hx hb dX7_why_5 (tgt := 36) (by decide) (fun c5 => ?_) (fun c5 => ?_)
  · refine lv_iconst (v := (-1)) hx hb dX7_why_36 (by decide) ?_
    exact ga_iret cx hr hlk w dX7_why_37 ⟨Nat.le_refl _, Nat.le_refl _⟩ (⟨mm, im, rw, sz, st, hs, nw, -1, (by unfold WhyR; rw [if_neg (by rintro ⟨z1, z2, z3, z4⟩; rw [c5] at z2; cases z2)]), rfl, rfl⟩)
  · have hk16 := hF.2.2.1
    obtain ⟨je, hje, hxe⟩ := inB_of (by omega) c5
    rw [hxe] at hl
    refine lv_aload_n hx hb dX7_why_8 rfl (lv_at hl 0 rfl) ?_
    refine gf_X7_63 cx hK w 0 rfl rfl dX7_why_9 ?_
    refine lv_iload_n hx hb dX7_why_12 rfl (lv_at hl 1 rfl) ?_
    refine ga_callS (rest := []) (wr := [(aM, .inr (7, [.ref mT, .int (nI tl), .int (nI n), .int (nI k), .ref mF, .ref mO, .ref mC, .int (nI li), .int (nI fa), .int (nI mm), .int (bI im), .ref mR, .ref mZ, .ref mS, .ref mH, .int (bI ird), .int (bI itn), .int (nI lsz), .ref mL, .ref mN, .ref mX, .ref mY, .int (nI tu)])), (mF, .inl (G.2.2, 16, .inl (aN fr))), (mO, .inl (G.2.2, 16, .inl (aN to))), (mR, .inl (G.2.2, 3200, .inl (aN rw))), (mZ, .inl (G.2.2, 200, .inl (aN sz))), (mS, .inl (G.2.2, 200, .inl (aN st))), (mH, .inl (G.2.2, 200, .inl (aN hs))), (mN, .inl (G.2.2, 16, .inl (aN nw)))]) cx hK hA w hl lk_X7_79 (c_X7_isIn l G li je (by omega) (by omega)) ⟨Nat.le_of_ble_eq_true rfl, Nat.le_of_ble_eq_true rfl⟩ [] [0, 1, 2, 3, 4, 5, 6, 7] rfl rfl (by decide) (by decide) (by decide) rfl (Nat.le_of_ble_eq_true rfl) dX7_why_13 ⟨Nat.le_refl _, Nat.le_refl _⟩ rfl (fun r w1_ H_ locs_ hp w => ?_)
    obtain ⟨rfl, rfl⟩ := hp
    have w : ga_wd G A_ s_ H_ locs_ [(aM, .inr (7, [.ref mT, .int (nI tl), .int (nI n), .int (nI k), .ref mF, .ref mO, .ref mC, .int (nI li), .int (nI fa), .int (nI mm), .int (bI im), .ref mR, .ref mZ, .ref mS, .ref mH, .int (bI ird), .int (bI itn), .int (nI lsz), .ref mL, .ref mN, .ref mX, .ref mY, .int (nI tu)])), (mF, .inl (G.2.2, 16, .inl (aN fr))), (mO, .inl (G.2.2, 16, .inl (aN to))), (mR, .inl (G.2.2, 3200, .inl (aN rw))), (mZ, .inl (G.2.2, 200, .inl (aN sz))), (mS, .inl (G.2.2, 200, .inl (aN st))), (mH, .inl (G.2.2, 200, .inl (aN hs))), (mN, .inl (G.2.2, 16, .inl (aN nw)))] := ga_perm w [0, 1, 2, 3, 4, 5, 6, 7] (by decide) rfl
    refine W.eq (g2 := F0 m_ 16 ls [.int (bI (Nat.testBit li je))]) rfl ?_
    refine r_ifb_eq hx hb dX7_why_16 (tgt := 36) (by decide) (fun c16 => ?_) (fun c16 => ?_)
    · refine lv_iconst (v := (-1)) hx hb dX7_why_36 (by decide) ?_
      exact ga_iret cx hr hlk w dX7_why_37 ⟨Nat.le_refl _, Nat.le_refl _⟩ (⟨mm, im, rw, sz, st, hs, nw, -1, (by unfold WhyR; rw [if_neg (by rintro ⟨z1, z2, z3, z4⟩; rw [hxe, nI_clamp (by omega), c16] at z3; cases z3)]), rfl, rfl⟩)
    · refine lv_iload_n hx hb dX7_why_19 rfl (lv_at hl 2 rfl) ?_
      refine lv_i2l hx hb dX7_why_20 rfl ?_
      refine lv_lconst (v := lN 0) hx hb dX7_why_21 (by decide) ?_
      refine lv_lconst (v := lN 1) hx hb dX7_why_22 (by decide) ?_
      refine ga_callS (rest := []) (wr := [(aM, .inr (7, [.ref mT, .int (nI tl), .int (nI n), .int (nI k), .ref mF, .ref mO, .ref mC, .int (nI li), .int (nI fa), .int (nI mm), .int (bI im), .ref mR, .ref mZ, .ref mS, .ref mH, .int (bI ird), .int (bI itn), .int (nI lsz), .ref mL, .ref mN, .ref mX, .ref mY, .int (nI tu)])), (mF, .inl (G.2.2, 16, .inl (aN fr))), (mO, .inl (G.2.2, 16, .inl (aN to))), (mR, .inl (G.2.2, 3200, .inl (aN rw))), (mZ, .inl (G.2.2, 200, .inl (aN sz))), (mS, .inl (G.2.2, 200, .inl (aN st))), (mH, .inl (G.2.2, 200, .inl (aN hs))), (mN, .inl (G.2.2, 16, .inl (aN nw)))]) cx hK hA w hl lk_X7_55 (c_X7_lies l G y.toInt64 (lN 0) (lN 1) ) ⟨Nat.le_of_ble_eq_true rfl, Nat.le_of_ble_eq_true rfl⟩ [] [0, 1, 2, 3, 4, 5, 6, 7] rfl rfl (by decide) (by decide) (by decide) rfl (Nat.le_of_ble_eq_true rfl) dX7_why_23 ⟨Nat.le_refl _, Nat.le_refl _⟩ rfl (fun r w1_ H_ locs_ hp w => ?_)
      obtain ⟨rfl, rfl⟩ := hp
      have w : ga_wd G A_ s_ H_ locs_ [(aM, .inr (7, [.ref mT, .int (nI tl), .int (nI n), .int (nI k), .ref mF, .ref mO, .ref mC, .int (nI li), .int (nI fa), .int (nI mm), .int (bI im), .ref mR, .ref mZ, .ref mS, .ref mH, .int (bI ird), .int (bI itn), .int (nI lsz), .ref mL, .ref mN, .ref mX, .ref mY, .int (nI tu)])), (mF, .inl (G.2.2, 16, .inl (aN fr))), (mO, .inl (G.2.2, 16, .inl (aN to))), (mR, .inl (G.2.2, 3200, .inl (aN rw))), (mZ, .inl (G.2.2, 200, .inl (aN sz))), (mS, .inl (G.2.2, 200, .inl (aN st))), (mH, .inl (G.2.2, 200, .inl (aN hs))), (mN, .inl (G.2.2, 16, .inl (aN nw)))] := ga_perm w [0, 1, 2, 3, 4, 5, 6, 7] (by decide) rfl
      refine W.eq (g2 := F0 m_ 26 ls [.int (bI (lsB y.toInt64 (lN 0) (lN 1)))]) rfl ?_
      refine r_ifb_eq hx hb dX7_why_26 (tgt := 36) (by decide) (fun c26 => ?_) (fun c26 => ?_)
      · rw [lsB_n _ (by decide)] at c26
        refine lv_iconst (v := (-1)) hx hb dX7_why_36 (by decide) ?_
        exact ga_iret cx hr hlk w dX7_why_37 ⟨Nat.le_refl _, Nat.le_refl _⟩ (⟨mm, im, rw, sz, st, hs, nw, -1, (by unfold WhyR; rw [if_neg (by rintro ⟨z1, z2, z3, z4⟩; rw [c26] at z1; cases z1)]), rfl, rfl⟩)
      · rw [lsB_n _ (by decide)] at c26
        refine lv_aload_n hx hb dX7_why_29 rfl (lv_at hl 0 rfl) ?_
        refine ga_callV (rest := []) (wr := []) cx hK hA w hl lk_X7_96 (c_X7_isTooMany l G aM mT mF mO mC mR mZ mS mH mL mN mX mY tl n k li fa mm im ird itn lsz tu fr to ct sz st hs rw nw (hF)) ⟨Nat.le_of_ble_eq_true rfl, Nat.le_of_ble_eq_true rfl⟩ [0, 1, 2, 3, 4, 5, 6, 7] [] rfl rfl (by decide) (by decide) (by decide) 0 7 rfl rfl rfl rfl (Nat.le_of_ble_eq_true rfl) dX7_why_30 ⟨Nat.le_refl _, Nat.le_refl _⟩ rfl (fun r w1_ H_ locs_ hp w => ?_)
        obtain ⟨mm9, im9, rw9, sz9, st9, hs9, nw9, hR9, rfl, rfl⟩ := hp
        have w : ga_wd G A_ s_ H_ locs_ [(aM, .inr (7, [.ref mT, .int (nI tl), .int (nI n), .int (nI k), .ref mF, .ref mO, .ref mC, .int (nI li), .int (nI fa), .int (nI mm9), .int (bI im9), .ref mR, .ref mZ, .ref mS, .ref mH, .int (bI ird), .int (bI itn), .int (nI lsz), .ref mL, .ref mN, .ref mX, .ref mY, .int (nI tu)])), (mF, .inl (G.2.2, 16, .inl (aN fr))), (mO, .inl (G.2.2, 16, .inl (aN to))), (mR, .inl (G.2.2, 3200, .inl (aN rw9))), (mZ, .inl (G.2.2, 200, .inl (aN sz9))), (mS, .inl (G.2.2, 200, .inl (aN st9))), (mH, .inl (G.2.2, 200, .inl (aN hs9))), (mN, .inl (G.2.2, 16, .inl (aN nw9)))] := ga_perm w [0, 1, 2, 3, 4, 5, 6, 7] (by decide) rfl
        refine W.eq (g2 := F0 m_ 33 ls [.int (bI im9)]) rfl ?_
        have hr9 := RepM_f hR9
        refine r_ifb_eq hx hb dX7_why_33 (tgt := 38) (by decide) (fun c33 => ?_) (fun c33 => ?_)
        · have htm : ¬ 200 < (WL n k fr to).length := of_decide_eq_false (by rw [← hr9.2.1]; exact c33)
          have hnc := hr9.2.2.1 c33
          have hcd : inB y 2 = true ∧ inB x k = true ∧ Nat.testBit li x.toNatClampNeg = true ∧ ¬ 200 < (WL n k fr to).length := ⟨c26, c5, by rw [hxe, nI_clamp (by omega)]; exact c16, htm⟩
          refine lv_aload_n hx hb dX7_why_38 rfl (lv_at hl 0 rfl) ?_
          refine gf_X7_63 cx hK w 0 rfl rfl dX7_why_39 ?_
          refine lv_iconst (v := nI 1) hx hb dX7_why_42 (by decide) ?_
          refine lv_iload_n hx hb dX7_why_43 rfl (lv_at hl 1 rfl) ?_
          refine r_ishl hx hb dX7_why_44 (by omega) ?_
          refine lv_iconst (v := (-1)) hx hb dX7_why_45 (by decide) ?_
          refine lv_ixor hx hb dX7_why_46 ?_
          refine lv_iand hx hb dX7_why_47 ?_
          refine r_topi (y := nI (li &&& (65535 ^^^ (1 <<< je)))) (nI_andn hli) ?_
          refine lv_istore_n (lv' := [(3, .int (nI (li &&& (65535 ^^^ (1 <<< je))))), (0, .ref aM), (1, .int (nI je)), (2, .int y)]) hx hb dX7_why_48 rfl hl (by decide) rfl (fun ls hl => ?_)
          refine lv_iconst (v := nI 0) hx hb dX7_why_49 (by decide) ?_
          refine lv_istore (lv' := [(4, .int (nI 0)), (3, .int (nI (li &&& (65535 ^^^ (1 <<< je))))), (0, .ref aM), (1, .int (nI je)), (2, .int y)]) hx hb dX7_why_50 hl (by decide) rfl (fun ls hl => ?_)
          have loop52 : ∀ (n_ : Nat) (i : Nat) (hi : i ≤ mm9) (hno : ∀ a b, a < i → b < mm9 → ¬ ((st9 a ^^^ st9 b) &&& li = 1 <<< je)) (hm : mm9 - i < n_) (H_ : Heap) (locs_ : List Loc) (ls : Array Slot) (hl : lv_has ls 6 [(4, .int (nI i)), (3, .int (nI (li &&& (65535 ^^^ (1 <<< je))))), (0, .ref aM), (1, .int (nI je)), (2, .int y)]) (w : ga_wd G A_ s_ H_ locs_ [(aM, .inr (7, [.ref mT, .int (nI tl), .int (nI n), .int (nI k), .ref mF, .ref mO, .ref mC, .int (nI li), .int (nI fa), .int (nI mm9), .int (bI im9), .ref mR, .ref mZ, .ref mS, .ref mH, .int (bI ird), .int (bI itn), .int (nI lsz), .ref mL, .ref mN, .ref mX, .ref mY, .int (nI tu)])), (mF, .inl (G.2.2, 16, .inl (aN fr))), (mO, .inl (G.2.2, 16, .inl (aN to))), (mR, .inl (G.2.2, 3200, .inl (aN rw9))), (mZ, .inl (G.2.2, 200, .inl (aN sz9))), (mS, .inl (G.2.2, 200, .inl (aN st9))), (mH, .inl (G.2.2, 200, .inl (aN hs9))), (mN, .inl (G.2.2, 16, .inl (aN nw9)))]), W p_ l e_ { frames := 3, cells := 0, slots := 0, locals := 65 } s_ m_ [.ref aM, .int x, .int y].toArray below meth c_ H_ locs_ (0) (0) (MQ below (ga_Q G A_ (fun r w => ∃ (mm2 : Nat), ∃ (im2 : Bool), ∃ (rw2 : Nat → Nat), ∃ (sz2 : Nat → Nat), ∃ (st2 : Nat → Nat), ∃ (hs2 : Nat → Nat), ∃ (nw2 : Nat → Nat), ∃ (rr : Int32), (WhyR (WL n k fr to) li k x y rr) ∧ r = some (.int rr) ∧ w = [(aM, .inr (7, [.ref mT, .int (nI tl), .int (nI n), .int (nI k), .ref mF, .ref mO, .ref mC, .int (nI li), .int (nI fa), .int (nI mm2), .int (bI im2), .ref mR, .ref mZ, .ref mS, .ref mH, .int (bI ird), .int (bI itn), .int (nI lsz), .ref mL, .ref mN, .ref mX, .ref mY, .int (nI tu)])), (mF, .inl (G.2.2, 16, .inl (aN fr))), (mO, .inl (G.2.2, 16, .inl (aN to))), (mR, .inl (G.2.2, 3200, .inl (aN rw2))), (mZ, .inl (G.2.2, 200, .inl (aN sz2))), (mS, .inl (G.2.2, 200, .inl (aN st2))), (mH, .inl (G.2.2, 200, .inl (aN hs2))), (mN, .inl (G.2.2, 16, .inl (aN nw2)))])) [.ref aM, .int x, .int y].toArray s_ 0 0 A_) (F0 m_ 52 ls []) := by
            intro n_
            induction n_ with
            | zero => intro i hi hno hm; exact absurd hm (Nat.not_lt_zero _)
            | succ n_ ih52 =>
              intro i hi hno hm52 H_ locs_ ls hl w
              refine lv_iload hx hb dX7_why_52 (lv_at hl 0 rfl) ?_
              refine lv_aload_n hx hb dX7_why_54 rfl (lv_at hl 2 rfl) ?_
              refine gf_X7_83 cx hK w 0 rfl rfl dX7_why_55 ?_
              refine r_icmp_ge hx hb dX7_why_58 (tgt := 124) (by decide) (by omega) (by omega) (fun c58 => ?_) (fun c58 => ?_)
              · refine lv_iconst (v := (-1)) hx hb dX7_why_124 (by decide) ?_
                exact ga_iret cx hr hlk w dX7_why_125 ⟨Nat.le_refl _, Nat.le_refl _⟩ (⟨mm9, im9, rw9, sz9, st9, hs9, nw9, -1, (by unfold WhyR; rw [if_pos hcd]; refine ⟨false, 0, 0, ?_, rfl⟩; rw [hxe, nI_clamp (by omega), ← hnc]; refine FPP_congr (f := st9) (fun u hu => (hr9.2.2.2.2 u hu).2.2.1) ?_; exact (fun a b h1 h2 => hno a b (by omega) h2)), rfl, rfl⟩)
              · refine lv_iconst (v := nI 0) hx hb dX7_why_61 (by decide) ?_
                refine lv_istore (lv' := [(5, .int (nI 0)), (4, .int (nI i)), (3, .int (nI (li &&& (65535 ^^^ (1 <<< je))))), (0, .ref aM), (1, .int (nI je)), (2, .int y)]) hx hb dX7_why_62 hl (by decide) rfl (fun ls hl => ?_)
                have loop64 : ∀ (n_ : Nat) (j : Nat) (hj : j ≤ mm9) (hno2 : ∀ b, b < j → ¬ ((st9 i ^^^ st9 b) &&& li = 1 <<< je)) (hm : mm9 - j < n_) (H_ : Heap) (locs_ : List Loc) (ls : Array Slot) (hl : lv_has ls 6 [(5, .int (nI j)), (4, .int (nI i)), (3, .int (nI (li &&& (65535 ^^^ (1 <<< je))))), (0, .ref aM), (1, .int (nI je)), (2, .int y)]) (w : ga_wd G A_ s_ H_ locs_ [(aM, .inr (7, [.ref mT, .int (nI tl), .int (nI n), .int (nI k), .ref mF, .ref mO, .ref mC, .int (nI li), .int (nI fa), .int (nI mm9), .int (bI im9), .ref mR, .ref mZ, .ref mS, .ref mH, .int (bI ird), .int (bI itn), .int (nI lsz), .ref mL, .ref mN, .ref mX, .ref mY, .int (nI tu)])), (mF, .inl (G.2.2, 16, .inl (aN fr))), (mO, .inl (G.2.2, 16, .inl (aN to))), (mR, .inl (G.2.2, 3200, .inl (aN rw9))), (mZ, .inl (G.2.2, 200, .inl (aN sz9))), (mS, .inl (G.2.2, 200, .inl (aN st9))), (mH, .inl (G.2.2, 200, .inl (aN hs9))), (mN, .inl (G.2.2, 16, .inl (aN nw9)))]), W p_ l e_ { frames := 3, cells := 0, slots := 0, locals := 65 } s_ m_ [.ref aM, .int x, .int y].toArray below meth c_ H_ locs_ (0) (0) (MQ below (ga_Q G A_ (fun r w => ∃ (mm2 : Nat), ∃ (im2 : Bool), ∃ (rw2 : Nat → Nat), ∃ (sz2 : Nat → Nat), ∃ (st2 : Nat → Nat), ∃ (hs2 : Nat → Nat), ∃ (nw2 : Nat → Nat), ∃ (rr : Int32), (WhyR (WL n k fr to) li k x y rr) ∧ r = some (.int rr) ∧ w = [(aM, .inr (7, [.ref mT, .int (nI tl), .int (nI n), .int (nI k), .ref mF, .ref mO, .ref mC, .int (nI li), .int (nI fa), .int (nI mm2), .int (bI im2), .ref mR, .ref mZ, .ref mS, .ref mH, .int (bI ird), .int (bI itn), .int (nI lsz), .ref mL, .ref mN, .ref mX, .ref mY, .int (nI tu)])), (mF, .inl (G.2.2, 16, .inl (aN fr))), (mO, .inl (G.2.2, 16, .inl (aN to))), (mR, .inl (G.2.2, 3200, .inl (aN rw2))), (mZ, .inl (G.2.2, 200, .inl (aN sz2))), (mS, .inl (G.2.2, 200, .inl (aN st2))), (mH, .inl (G.2.2, 200, .inl (aN hs2))), (mN, .inl (G.2.2, 16, .inl (aN nw2)))])) [.ref aM, .int x, .int y].toArray s_ 0 0 A_) (F0 m_ 64 ls []) := by
                  intro n_
                  induction n_ with
                  | zero => intro j hj hno2 hm; exact absurd hm (Nat.not_lt_zero _)
                  | succ n_ ih64 =>
                    intro j hj hno2 hm64 H_ locs_ ls hl w
                    refine lv_iload hx hb dX7_why_64 (lv_at hl 0 rfl) ?_
                    refine lv_aload_n hx hb dX7_why_66 rfl (lv_at hl 3 rfl) ?_
                    refine gf_X7_83 cx hK w 0 rfl rfl dX7_why_67 ?_
                    refine r_icmp_ge hx hb dX7_why_70 (tgt := 118) (by decide) (by omega) (by omega) (fun c70 => ?_) (fun c70 => ?_)
                    · refine r_iinc (d := 1) (k := 1) (lv' := [(4, .int (nI (i + 1))), (5, .int (nI j)), (3, .int (nI (li &&& (65535 ^^^ (1 <<< je))))), (0, .ref aM), (1, .int (nI je)), (2, .int y)]) hx hb dX7_why_118 hl rfl (by decide) (by decide) rfl (fun ls hl => ?_)
                      refine lv_goto (tgt := 52) hx hb dX7_why_121 (by decide) ?_
                      exact ih52 (i + 1) (by omega) (fun a b h1 h2 => by rcases Nat.lt_or_ge a i with h | h; exact hno a b h h2; (rw [show a = i by omega]; exact hno2 b (by omega))) (by omega) _ _ _ (lv_sub hl [0, 2, 3, 4, 5] rfl) w
                    · refine lv_aload_n hx hb dX7_why_73 rfl (lv_at hl 3 rfl) ?_
                      refine lv_iload hx hb dX7_why_74 (lv_at hl 1 rfl) ?_
                      refine lv_iload hx hb dX7_why_76 (lv_at hl 0 rfl) ?_
                      refine lv_aload_n hx hb dX7_why_78 rfl (lv_at hl 3 rfl) ?_
                      refine gf_X7_63 cx hK w 0 rfl rfl dX7_why_79 ?_
                      refine ga_callV (rest := []) (wr := [(mF, .inl (G.2.2, 16, .inl (aN fr))), (mO, .inl (G.2.2, 16, .inl (aN to))), (mR, .inl (G.2.2, 3200, .inl (aN rw9))), (mZ, .inl (G.2.2, 200, .inl (aN sz9))), (mH, .inl (G.2.2, 200, .inl (aN hs9))), (mN, .inl (G.2.2, 16, .inl (aN nw9)))]) cx hK hA w hl lk_X7_104 (c_X7_areParted l G aM mT mF mO mC mR mZ mS mH mL mN mX mY tl n k li fa mm9 im9 ird itn lsz tu st9 i j li (by omega) (by omega) (by omega)) ⟨Nat.le_of_ble_eq_true rfl, Nat.le_of_ble_eq_true rfl⟩ [0, 5] [1, 2, 3, 4, 6, 7] rfl rfl (by decide) (by decide) (by decide) 0 7 rfl rfl rfl rfl (Nat.le_of_ble_eq_true rfl) dX7_why_82 ⟨Nat.le_refl _, Nat.le_refl _⟩ rfl (fun r w1_ H_ locs_ hp w => ?_)
                      obtain ⟨rfl, rfl⟩ := hp
                      have w : ga_wd G A_ s_ H_ locs_ [(aM, .inr (7, [.ref mT, .int (nI tl), .int (nI n), .int (nI k), .ref mF, .ref mO, .ref mC, .int (nI li), .int (nI fa), .int (nI mm9), .int (bI im9), .ref mR, .ref mZ, .ref mS, .ref mH, .int (bI ird), .int (bI itn), .int (nI lsz), .ref mL, .ref mN, .ref mX, .ref mY, .int (nI tu)])), (mF, .inl (G.2.2, 16, .inl (aN fr))), (mO, .inl (G.2.2, 16, .inl (aN to))), (mR, .inl (G.2.2, 3200, .inl (aN rw9))), (mZ, .inl (G.2.2, 200, .inl (aN sz9))), (mS, .inl (G.2.2, 200, .inl (aN st9))), (mH, .inl (G.2.2, 200, .inl (aN hs9))), (mN, .inl (G.2.2, 16, .inl (aN nw9)))] := ga_perm w [6, 0, 1, 2, 3, 7, 4, 5] (by decide) rfl
                      refine W.eq (g2 := F0 m_ 85 ls [.int (bI (!decide (st9 i &&& li = st9 j &&& li)))]) rfl ?_
                      refine r_ifb_eq hx hb dX7_why_85 (tgt := 112) (by decide) (fun c85 => ?_) (fun c85 => ?_)
                      · refine r_iinc (d := 1) (k := 0) (lv' := [(5, .int (nI (j + 1))), (4, .int (nI i)), (3, .int (nI (li &&& (65535 ^^^ (1 <<< je))))), (0, .ref aM), (1, .int (nI je)), (2, .int y)]) hx hb dX7_why_112 hl rfl (by decide) (by decide) rfl (fun ls hl => ?_)
                        refine lv_goto (tgt := 64) hx hb dX7_why_115 (by decide) ?_
                        exact ih64 (j + 1) (by omega) (fun b hb => by rcases Nat.lt_or_ge b j with h | h; exact hno2 b h; (rw [show b = j by omega]; intro h9; have h8 := ((sole_iff hli c16).mp h9).2; simp at c85; exact h8 c85)) (by omega) _ _ _ (lv_sub hl [0, 1, 2, 3, 4, 5] rfl) w
                      · refine lv_aload_n hx hb dX7_why_88 rfl (lv_at hl 3 rfl) ?_
                        refine lv_iload hx hb dX7_why_89 (lv_at hl 1 rfl) ?_
                        refine lv_iload hx hb dX7_why_91 (lv_at hl 0 rfl) ?_
                        refine lv_iload_n hx hb dX7_why_93 rfl (lv_at hl 2 rfl) ?_
                        refine ga_callV (rest := []) (wr := [(mF, .inl (G.2.2, 16, .inl (aN fr))), (mO, .inl (G.2.2, 16, .inl (aN to))), (mR, .inl (G.2.2, 3200, .inl (aN rw9))), (mZ, .inl (G.2.2, 200, .inl (aN sz9))), (mH, .inl (G.2.2, 200, .inl (aN hs9))), (mN, .inl (G.2.2, 16, .inl (aN nw9)))]) cx hK hA w hl lk_X7_104 (c_X7_areParted l G aM mT mF mO mC mR mZ mS mH mL mN mX mY tl n k li fa mm9 im9 ird itn lsz tu st9 i j (li &&& (65535 ^^^ (1 <<< je))) (by omega) (by omega) (andL_lt (by omega))) ⟨Nat.le_of_ble_eq_true rfl, Nat.le_of_ble_eq_true rfl⟩ [0, 5] [1, 2, 3, 4, 6, 7] rfl rfl (by decide) (by decide) (by decide) 0 7 rfl rfl rfl rfl (Nat.le_of_ble_eq_true rfl) dX7_why_94 ⟨Nat.le_refl _, Nat.le_refl _⟩ rfl (fun r w1_ H_ locs_ hp w => ?_)
                        obtain ⟨rfl, rfl⟩ := hp
                        have w : ga_wd G A_ s_ H_ locs_ [(aM, .inr (7, [.ref mT, .int (nI tl), .int (nI n), .int (nI k), .ref mF, .ref mO, .ref mC, .int (nI li), .int (nI fa), .int (nI mm9), .int (bI im9), .ref mR, .ref mZ, .ref mS, .ref mH, .int (bI ird), .int (bI itn), .int (nI lsz), .ref mL, .ref mN, .ref mX, .ref mY, .int (nI tu)])), (mF, .inl (G.2.2, 16, .inl (aN fr))), (mO, .inl (G.2.2, 16, .inl (aN to))), (mR, .inl (G.2.2, 3200, .inl (aN rw9))), (mZ, .inl (G.2.2, 200, .inl (aN sz9))), (mS, .inl (G.2.2, 200, .inl (aN st9))), (mH, .inl (G.2.2, 200, .inl (aN hs9))), (mN, .inl (G.2.2, 16, .inl (aN nw9)))] := ga_perm w [6, 0, 1, 2, 3, 7, 4, 5] (by decide) rfl
                        refine W.eq (g2 := F0 m_ 97 ls [.int (bI (!decide (st9 i &&& (li &&& (65535 ^^^ (1 <<< je))) = st9 j &&& (li &&& (65535 ^^^ (1 <<< je))))))]) rfl ?_
                        refine r_ifb_ne hx hb dX7_why_97 (tgt := 112) (by decide) (fun c97 => ?_) (fun c97 => ?_)
                        · refine r_iinc (d := 1) (k := 0) (lv' := [(5, .int (nI (j + 1))), (4, .int (nI i)), (3, .int (nI (li &&& (65535 ^^^ (1 <<< je))))), (0, .ref aM), (1, .int (nI je)), (2, .int y)]) hx hb dX7_why_112 hl rfl (by decide) (by decide) rfl (fun ls hl => ?_)
                          refine lv_goto (tgt := 64) hx hb dX7_why_115 (by decide) ?_
                          exact ih64 (j + 1) (by omega) (fun b hb => by rcases Nat.lt_or_ge b j with h | h; exact hno2 b h; (rw [show b = j by omega]; intro h9; have h8 := ((sole_iff hli c16).mp h9).1; simp at c97; exact c97 h8)) (by omega) _ _ _ (lv_sub hl [0, 1, 2, 3, 4, 5] rfl) w
                        · have hct : ((st9 i ^^^ st9 j) &&& li = 1 <<< je) := (sole_iff hli c16).mpr ⟨of_decide_eq_true (by simpa using c97), of_decide_eq_false (by simpa using c85)⟩
                          have hfq : FPP st9 li (1 <<< je) mm9 true i j := by
                            have hsy : ∀ a b, ((st9 a ^^^ st9 b) &&& li = 1 <<< je) → ((st9 b ^^^ st9 a) &&& li = 1 <<< je) := fun a b h => by rw [Nat.xor_comm]; exact h
                            have hij : i < j := by
                              rcases Nat.lt_trichotomy i j with h | h | h
                              · exact h
                              · rw [← h, Nat.xor_self] at hct; exact absurd (by simpa using hct) (one_ne je)
                              · exact absurd (hsy _ _ hct) (hno j i h (by omega))
                            exact ⟨hij, by omega, hct, fun a b h1 h2 h3 => by rcases h3 with h3 | h3; exact hno a b h3 h2; (rw [h3.1]; exact hno2 b h3.2)⟩
                          refine lv_iload_n hx hb dX7_why_100 rfl (lv_at hl 5 rfl) ?_
                          refine lv_if_ne hx hb dX7_why_101 (tgt := 109) (by decide) (fun c101 => ?_) (fun c101 => ?_)
                          · refine lv_iload hx hb dX7_why_109 (lv_at hl 0 rfl) ?_
                            exact ga_iret cx hr hlk w dX7_why_111 ⟨Nat.le_refl _, Nat.le_refl _⟩ (⟨mm9, im9, rw9, sz9, st9, hs9, nw9, _, (by unfold WhyR; rw [if_pos hcd]; refine ⟨true, i, j, ?_, by rw [if_pos rfl, if_neg c101]⟩; rw [hxe, nI_clamp (by omega), ← hnc]; refine FPP_congr (f := st9) (fun u hu => (hr9.2.2.2.2 u hu).2.2.1) ?_; exact hfq), rfl, rfl⟩)
                          · refine lv_iload hx hb dX7_why_104 (lv_at hl 1 rfl) ?_
                            refine lv_goto (tgt := 111) hx hb dX7_why_106 (by decide) ?_
                            exact ga_iret cx hr hlk w dX7_why_111 ⟨Nat.le_refl _, Nat.le_refl _⟩ (⟨mm9, im9, rw9, sz9, st9, hs9, nw9, _, (by unfold WhyR; rw [if_pos hcd]; refine ⟨true, i, j, ?_, by rw [if_pos rfl, if_pos c101]⟩; rw [hxe, nI_clamp (by omega), ← hnc]; refine FPP_congr (f := st9) (fun u hu => (hr9.2.2.2.2 u hu).2.2.1) ?_; exact hfq), rfl, rfl⟩)
                exact loop64 _ 0 (by omega) (fun b h => absurd h (Nat.not_lt_zero _)) (Nat.lt_succ_self _) _ _ _ (lv_sub hl [0, 1, 2, 3, 4, 5] rfl) w
          exact loop52 _ 0 (by omega) (fun a b h => absurd h (Nat.not_lt_zero _)) (Nat.lt_succ_self _) _ _ _ (lv_sub hl [0, 1, 2, 3, 4] rfl) w
        · have htm : 200 < (WL n k fr to).length := of_decide_eq_true (by rw [← hr9.2.1]; exact c33)
          refine lv_iconst (v := (-1)) hx hb dX7_why_36 (by decide) ?_
          exact ga_iret cx hr hlk w dX7_why_37 ⟨Nat.le_refl _, Nat.le_refl _⟩ (⟨mm9, im9, rw9, sz9, st9, hs9, nw9, -1, (by unfold WhyR; rw [if_neg (by rintro ⟨z1, z2, z3, z4⟩; exact z4 htm)]), rfl, rfl⟩)

set_option maxHeartbeats 4000000 in
set_option maxRecDepth 100000 in
theorem c_X7_allows (l : Launch) (G : ga_G) (aM : Nat) (mT : Nat) (mF : Nat) (mO : Nat) (mC : Nat) (mR : Nat) (mZ : Nat) (mS : Nat) (mH : Nat) (mL : Nat) (mN : Nat) (mX : Nat) (mY : Nat) (tl : Nat) (n : Nat) (k : Nat) (li : Nat) (fa : Nat) (mm : Nat) (im : Bool) (ird : Bool) (itn : Bool) (lsz : Nat) (tu : Nat) (sz : Nat → Nat) (rw : Nat → Nat) (lg : Nat → Int32) (i : Nat) (Q : List Nat) (td : Nat → Nat) (hi : i < 200) (hsz : sz i ≤ 16) (hrw : ∀ j, j < sz i → rw (16 * i + j) < 16) (hli : li < 65536) (hQ : lgl li rw sz i = Q.map nI) (hQ16 : ∀ x ∈ Q, x < 16) (hL : lsz ≤ 16) (hlg : ∀ j, j < lsz → lg j = sgb (td j) ∧ td j < 256) : ga_M l G yX7_allows cX7_allows 3 (Option.some Jvm.ClassFile.FieldType.boolean) 2 45 0 0 [.ref aM, .int (nI i)] [(aM, .inr (7, [.ref mT, .int (nI tl), .int (nI n), .int (nI k), .ref mF, .ref mO, .ref mC, .int (nI li), .int (nI fa), .int (nI mm), .int (bI im), .ref mR, .ref mZ, .ref mS, .ref mH, .int (bI ird), .int (bI itn), .int (nI lsz), .ref mL, .ref mN, .ref mX, .ref mY, .int (nI tu)])), (mR, .inl (G.2.2, 3200, .inl (aN rw))), (mZ, .inl (G.2.2, 200, .inl (aN sz))), (mL, .inl (G.2.2, 16, .inl lg))] (fun r w => r = some (.int (bI (alQ lsz itn td Q))) ∧ w = [(aM, .inr (7, [.ref mT, .int (nI tl), .int (nI n), .int (nI k), .ref mF, .ref mO, .ref mC, .int (nI li), .int (nI fa), .int (nI mm), .int (bI im), .ref mR, .ref mZ, .ref mS, .ref mH, .int (bI ird), .int (bI itn), .int (nI lsz), .ref mL, .ref mN, .ref mX, .ref mY, .int (nI tu)])), (mR, .inl (G.2.2, 3200, .inl (aN rw))), (mZ, .inl (G.2.2, 200, .inl (aN sz))), (mL, .inl (G.2.2, 16, .inl lg))]) := by
  refine ga_M.intro (by decide) (Nat.le_of_ble_eq_true rfl) (fun p_ e_ s_ m_ below meth c_ A_ H_ locs_ ls cx hr hlk hnm hA hK hl w => ?_)
  have hx := cx.1
  have hb := cx.2.1
  have hl : lv_has ls 3 [(0, .ref aM), (1, .int (nI i))] := hl
  refine lv_iconst (v := nI 0) hx hb dX7_allows_0 (by decide) ?_
  refine lv_istore_n (lv' := [(2, .int (nI 0)), (0, .ref aM), (1, .int (nI i))]) hx hb dX7_allows_1 rfl hl (by decide) rfl (fun ls hl => ?_)
  have loop2 : ∀ (n_ : Nat) (j : Nat) (hj : j ≤ lsz) (hpre : ∀ u, u < j → u < Q.length ∧ Q.getD u 0 = td u) (hm : lsz - j < n_) (H_ : Heap) (locs_ : List Loc) (ls : Array Slot) (hl : lv_has ls 3 [(2, .int (nI j)), (0, .ref aM), (1, .int (nI i))]) (w : ga_wd G A_ s_ H_ locs_ [(aM, .inr (7, [.ref mT, .int (nI tl), .int (nI n), .int (nI k), .ref mF, .ref mO, .ref mC, .int (nI li), .int (nI fa), .int (nI mm), .int (bI im), .ref mR, .ref mZ, .ref mS, .ref mH, .int (bI ird), .int (bI itn), .int (nI lsz), .ref mL, .ref mN, .ref mX, .ref mY, .int (nI tu)])), (mR, .inl (G.2.2, 3200, .inl (aN rw))), (mZ, .inl (G.2.2, 200, .inl (aN sz))), (mL, .inl (G.2.2, 16, .inl lg))]), W p_ l e_ { frames := 2, cells := 0, slots := 0, locals := 45 } s_ m_ [.ref aM, .int (nI i)].toArray below meth c_ H_ locs_ (0) (0) (MQ below (ga_Q G A_ (fun r w => r = some (.int (bI (alQ lsz itn td Q))) ∧ w = [(aM, .inr (7, [.ref mT, .int (nI tl), .int (nI n), .int (nI k), .ref mF, .ref mO, .ref mC, .int (nI li), .int (nI fa), .int (nI mm), .int (bI im), .ref mR, .ref mZ, .ref mS, .ref mH, .int (bI ird), .int (bI itn), .int (nI lsz), .ref mL, .ref mN, .ref mX, .ref mY, .int (nI tu)])), (mR, .inl (G.2.2, 3200, .inl (aN rw))), (mZ, .inl (G.2.2, 200, .inl (aN sz))), (mL, .inl (G.2.2, 16, .inl lg))])) [.ref aM, .int (nI i)].toArray s_ 0 0 A_) (F0 m_ 2 ls []) := by
    intro n_
    induction n_ with
    | zero => intro j hj hpre hm; exact absurd hm (Nat.not_lt_zero _)
    | succ n_ ih2 =>
      intro j hj hpre hm2 H_ locs_ ls hl w
      refine lv_iload_n hx hb dX7_allows_2 rfl (lv_at hl 0 rfl) ?_
      refine lv_aload_n hx hb dX7_allows_3 rfl (lv_at hl 1 rfl) ?_
      refine gf_X7_142 cx hK w 0 rfl rfl dX7_allows_4 ?_
      refine r_icmp_ge hx hb dX7_allows_7 (tgt := 42) (by decide) (by omega) (by omega) (fun c7 => ?_) (fun c7 => ?_)
      · refine lv_aload_n hx hb dX7_allows_42 rfl (lv_at hl 1 rfl) ?_
        refine gf_X7_145 cx hK w 0 rfl rfl dX7_allows_43 ?_
        refine r_ifb_ne hx hb dX7_allows_46 (tgt := 62) (by decide) (fun c46 => ?_) (fun c46 => ?_)
        · refine lv_iconst (v := nI 1) hx hb dX7_allows_62 (by decide) ?_
          refine lv_goto (tgt := 67) hx hb dX7_allows_63 (by decide) ?_
          exact ga_zret cx hr hlk w rfl dX7_allows_67 ⟨Nat.le_refl _, Nat.le_refl _⟩ (⟨ga_r1 (alQ_end (fun u hu => hpre u (by omega)) (Or.inl c46)), rfl⟩)
        · refine lv_aload_n hx hb dX7_allows_49 rfl (lv_at hl 1 rfl) ?_
          refine lv_iload_n hx hb dX7_allows_50 rfl (lv_at hl 2 rfl) ?_
          refine lv_aload_n hx hb dX7_allows_51 rfl (lv_at hl 1 rfl) ?_
          refine gf_X7_142 cx hK w 0 rfl rfl dX7_allows_52 ?_
          refine ga_callV (rest := []) (wr := [(mL, .inl (G.2.2, 16, .inl lg))]) cx hK hA w hl lk_X7_100 (c_X7_logOf l G aM mT mF mO mC mR mZ mS mH mL mN mX mY tl n k li fa mm im ird itn lsz tu sz rw i (nI lsz) (hi) (hsz) (hrw) (hli)) ⟨Nat.le_of_ble_eq_true rfl, Nat.le_of_ble_eq_true rfl⟩ [0, 1, 2] [3] rfl rfl (by decide) (by decide) (by decide) 0 7 rfl rfl rfl rfl (Nat.le_of_ble_eq_true rfl) dX7_allows_55 ⟨Nat.le_refl _, Nat.le_refl _⟩ rfl (fun r w1_ H_ locs_ hp w => ?_)
          obtain ⟨rfl, rfl⟩ := hp
          have w : ga_wd G A_ s_ H_ locs_ [(aM, .inr (7, [.ref mT, .int (nI tl), .int (nI n), .int (nI k), .ref mF, .ref mO, .ref mC, .int (nI li), .int (nI fa), .int (nI mm), .int (bI im), .ref mR, .ref mZ, .ref mS, .ref mH, .int (bI ird), .int (bI itn), .int (nI lsz), .ref mL, .ref mN, .ref mX, .ref mY, .int (nI tu)])), (mR, .inl (G.2.2, 3200, .inl (aN rw))), (mZ, .inl (G.2.2, 200, .inl (aN sz))), (mL, .inl (G.2.2, 16, .inl lg))] := ga_perm w [1, 2, 3, 0] (by decide) rfl
          refine W.eq (g2 := F0 m_ 58 ls [.int (nth (lgl li rw sz i) (nI lsz))]) rfl ?_
          refine lv_iconst (v := (-1)) hx hb dX7_allows_58 (by decide) ?_
          refine lv_icmp_ne hx hb dX7_allows_59 (tgt := 66) (by decide) (fun c59 => ?_) (fun c59 => ?_)
          · refine lv_iconst (v := nI 0) hx hb dX7_allows_66 (by decide) ?_
            exact ga_zret cx hr hlk w rfl dX7_allows_67 ⟨Nat.le_refl _, Nat.le_refl _⟩ (⟨ga_r0 (by rw [c46]; exact alQ_end0 (al_lt (by omega) (by rw [← hQ]; exact c59))), rfl⟩)
          · refine lv_iconst (v := nI 1) hx hb dX7_allows_62 (by decide) ?_
            refine lv_goto (tgt := 67) hx hb dX7_allows_63 (by decide) ?_
            exact ga_zret cx hr hlk w rfl dX7_allows_67 ⟨Nat.le_refl _, Nat.le_refl _⟩ (⟨ga_r1 (alQ_end (fun u hu => hpre u (by omega)) (Or.inr (al_nlt hQ16 (by omega) (by rw [← hQ]; exact c59)))), rfl⟩)
      · refine lv_aload_n hx hb dX7_allows_10 rfl (lv_at hl 1 rfl) ?_
        refine gf_X7_39 cx hK w 0 rfl rfl dX7_allows_11 ?_
        refine lv_iload_n hx hb dX7_allows_14 rfl (lv_at hl 0 rfl) ?_
        refine r_iald hx hb hK w 3 rfl dX7_allows_15 (by omega) (by decide) ?_
        refine lv_if_lt hx hb dX7_allows_16 (tgt := 34) (by decide) (fun c16 => ?_) (fun c16 => ?_)
        · refine lv_iconst (v := nI 0) hx hb dX7_allows_34 (by decide) ?_
          exact ga_zret cx hr hlk w rfl dX7_allows_35 ⟨Nat.le_refl _, Nat.le_refl _⟩ (⟨ga_r0 (alQ_no (j := j) (by omega) (al_neg hQ16 (hlg j (by omega)) c16)), rfl⟩)
        · refine lv_aload_n hx hb dX7_allows_19 rfl (lv_at hl 1 rfl) ?_
          refine lv_iload_n hx hb dX7_allows_20 rfl (lv_at hl 2 rfl) ?_
          refine lv_iload_n hx hb dX7_allows_21 rfl (lv_at hl 0 rfl) ?_
          refine ga_callV (rest := []) (wr := [(mL, .inl (G.2.2, 16, .inl lg))]) cx hK hA w hl lk_X7_100 (c_X7_logOf l G aM mT mF mO mC mR mZ mS mH mL mN mX mY tl n k li fa mm im ird itn lsz tu sz rw i (nI j) (hi) (hsz) (hrw) (hli)) ⟨Nat.le_of_ble_eq_true rfl, Nat.le_of_ble_eq_true rfl⟩ [0, 1, 2] [3] rfl rfl (by decide) (by decide) (by decide) 0 7 rfl rfl rfl rfl (Nat.le_of_ble_eq_true rfl) dX7_allows_22 ⟨Nat.le_refl _, Nat.le_refl _⟩ rfl (fun r w1_ H_ locs_ hp w => ?_)
          obtain ⟨rfl, rfl⟩ := hp
          have w : ga_wd G A_ s_ H_ locs_ [(aM, .inr (7, [.ref mT, .int (nI tl), .int (nI n), .int (nI k), .ref mF, .ref mO, .ref mC, .int (nI li), .int (nI fa), .int (nI mm), .int (bI im), .ref mR, .ref mZ, .ref mS, .ref mH, .int (bI ird), .int (bI itn), .int (nI lsz), .ref mL, .ref mN, .ref mX, .ref mY, .int (nI tu)])), (mR, .inl (G.2.2, 3200, .inl (aN rw))), (mZ, .inl (G.2.2, 200, .inl (aN sz))), (mL, .inl (G.2.2, 16, .inl lg))] := ga_perm w [1, 2, 3, 0] (by decide) rfl
          refine W.eq (g2 := F0 m_ 25 ls [.int (nth (lgl li rw sz i) (nI j))]) rfl ?_
          refine lv_aload_n hx hb dX7_allows_25 rfl (lv_at hl 1 rfl) ?_
          refine gf_X7_39 cx hK w 0 rfl rfl dX7_allows_26 ?_
          refine lv_iload_n hx hb dX7_allows_29 rfl (lv_at hl 0 rfl) ?_
          refine r_iald hx hb hK w 3 rfl dX7_allows_30 (by omega) (by decide) ?_
          refine lv_icmp_eq hx hb dX7_allows_31 (tgt := 36) (by decide) (fun c31 => ?_) (fun c31 => ?_)
          · refine r_iinc (d := 1) (k := 0) (lv' := [(2, .int (nI (j + 1))), (0, .ref aM), (1, .int (nI i))]) hx hb dX7_allows_36 hl rfl (by decide) (by decide) rfl (fun ls hl => ?_)
            refine lv_goto (tgt := 2) hx hb dX7_allows_39 (by decide) ?_
            exact ih2 (j + 1) (by omega) (fun u hu => by rcases Nat.lt_or_ge u j with h | h; exact hpre u h; (rw [show u = j by omega]; exact al_yes hQ16 (hlg j (by omega)) c16 (by rw [← hQ]; exact c31))) (by omega) _ _ _ (lv_sub hl [0, 1, 2] rfl) w
          · refine lv_iconst (v := nI 0) hx hb dX7_allows_34 (by decide) ?_
            exact ga_zret cx hr hlk w rfl dX7_allows_35 ⟨Nat.le_refl _, Nat.le_refl _⟩ (⟨ga_r0 (alQ_no (j := j) (by omega) (al_ne (by omega) (hlg j (by omega)) c16 (by rw [← hQ]; exact c31))), rfl⟩)
  exact loop2 _ 0 (by omega) (fun u h => absurd h (Nat.not_lt_zero _)) (Nat.lt_succ_self _) _ _ _ (lv_sub hl [0, 1, 2] rfl) w
