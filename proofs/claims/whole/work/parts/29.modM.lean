set_option maxHeartbeats 4000000 in
set_option maxRecDepth 100000 in
theorem c_X7_keeps (l : Launch) (G : ga_G) (aM : Nat) (mT : Nat) (mF : Nat) (mO : Nat) (mC : Nat) (mR : Nat) (mZ : Nat) (mS : Nat) (mH : Nat) (mL : Nat) (mN : Nat) (mX : Nat) (mY : Nat) (tl : Nat) (n : Nat) (k : Nat) (li : Nat) (fa : Nat) (mm : Nat) (im : Bool) (ird : Bool) (itn : Bool) (lsz : Nat) (tu : Nat) (to : Nat → Nat) (sz : Nat → Nat) (st : Nat → Nat) (hs : Nat → Nat) (rw : Nat → Nat) (nw : Nat → Nat) (ws : List (List Nat)) (pn : Nat) (hRM : RepM to fa ws mm im rw sz st hs) (hpn : pn ≤ 12) (hnw : ∀ j, j < pn → nw j < 16 ∧ to (nw j) < 12) : ga_M l G yX7_keeps cX7_keeps 3 (Option.none : Option Jvm.ClassFile.FieldType) 0 0 0 0 [.ref aM, .int (nI pn)] [(aM, .inr (7, [.ref mT, .int (nI tl), .int (nI n), .int (nI k), .ref mF, .ref mO, .ref mC, .int (nI li), .int (nI fa), .int (nI mm), .int (bI im), .ref mR, .ref mZ, .ref mS, .ref mH, .int (bI ird), .int (bI itn), .int (nI lsz), .ref mL, .ref mN, .ref mX, .ref mY, .int (nI tu)])), (mO, .inl (G.2.2, 16, .inl (aN to))), (mR, .inl (G.2.2, 3200, .inl (aN rw))), (mZ, .inl (G.2.2, 200, .inl (aN sz))), (mS, .inl (G.2.2, 200, .inl (aN st))), (mH, .inl (G.2.2, 200, .inl (aN hs))), (mN, .inl (G.2.2, 16, .inl (aN nw)))] (fun r w => ∃ (mm2 : Nat), ∃ (im2 : Bool), ∃ (rw2 : Nat → Nat), ∃ (sz2 : Nat → Nat), ∃ (st2 : Nat → Nat), ∃ (hs2 : Nat → Nat), (RepM to fa (ws ++ [lz nw pn]) mm2 im2 rw2 sz2 st2 hs2) ∧ r = none ∧ w = [(aM, .inr (7, [.ref mT, .int (nI tl), .int (nI n), .int (nI k), .ref mF, .ref mO, .ref mC, .int (nI li), .int (nI fa), .int (nI mm2), .int (bI im2), .ref mR, .ref mZ, .ref mS, .ref mH, .int (bI ird), .int (bI itn), .int (nI lsz), .ref mL, .ref mN, .ref mX, .ref mY, .int (nI tu)])), (mO, .inl (G.2.2, 16, .inl (aN to))), (mR, .inl (G.2.2, 3200, .inl (aN rw2))), (mZ, .inl (G.2.2, 200, .inl (aN sz2))), (mS, .inl (G.2.2, 200, .inl (aN st2))), (mH, .inl (G.2.2, 200, .inl (aN hs2))), (mN, .inl (G.2.2, 16, .inl (aN nw)))]) := by
  refine ga_M.intro (by decide) (Nat.le_of_ble_eq_true rfl) (fun p_ e_ s_ m_ below meth c_ A_ H_ locs_ ls cx hr hlk hnm hA hK hl w => ?_)
  have hx := cx.1
  have hb := cx.2.1
  have hl : lv_has ls 3 [(0, .ref aM), (1, .int (nI pn))] := hl
  have hm0 : mm ≤ 200 := by rw [hRM.1]; exact Nat.min_le_left _ _
  refine lv_aload_n hx hb dX7_keeps_0 rfl (lv_at hl 0 rfl) ?_
  refine gf_X7_83 cx hK w 0 rfl rfl dX7_keeps_1 ?_
  refine lv_sipush (v := nI 200) hx hb dX7_keeps_4 (by decide) ?_
  refine r_icmp_ne hx hb dX7_keeps_7 (tgt := 16) (by decide) (by omega) (by omega) (fun c7 => ?_) (fun c7 => ?_)
  · have hmm : mm < 200 := by omega
    refine lv_aload_n hx hb dX7_keeps_16 rfl (lv_at hl 0 rfl) ?_
    refine gf_X7_30 cx hK w 0 rfl rfl dX7_keeps_17 ?_
    refine lv_aload_n hx hb dX7_keeps_20 rfl (lv_at hl 0 rfl) ?_
    refine gf_X7_83 cx hK w 0 rfl rfl dX7_keeps_21 ?_
    refine lv_iload_n hx hb dX7_keeps_24 rfl (lv_at hl 1 rfl) ?_
    refine r_iastN hx hb hK w 3 rfl dX7_keeps_25 (by omega) (by decide) (fun H_ locs_ w => ?_)
    have w : ga_wd G A_ s_ H_ locs_ [(aM, .inr (7, [.ref mT, .int (nI tl), .int (nI n), .int (nI k), .ref mF, .ref mO, .ref mC, .int (nI li), .int (nI fa), .int (nI mm), .int (bI im), .ref mR, .ref mZ, .ref mS, .ref mH, .int (bI ird), .int (bI itn), .int (nI lsz), .ref mL, .ref mN, .ref mX, .ref mY, .int (nI tu)])), (mO, .inl (G.2.2, 16, .inl (aN to))), (mR, .inl (G.2.2, 3200, .inl (aN rw))), (mZ, .inl (G.2.2, 200, .inl (aN (uN sz mm pn)))), (mS, .inl (G.2.2, 200, .inl (aN st))), (mH, .inl (G.2.2, 200, .inl (aN hs))), (mN, .inl (G.2.2, 16, .inl (aN nw)))] := w
    refine lv_aload_n hx hb dX7_keeps_26 rfl (lv_at hl 0 rfl) ?_
    refine gf_X7_33 cx hK w 0 rfl rfl dX7_keeps_27 ?_
    refine lv_aload_n hx hb dX7_keeps_30 rfl (lv_at hl 0 rfl) ?_
    refine gf_X7_83 cx hK w 0 rfl rfl dX7_keeps_31 ?_
    refine lv_iconst (v := nI 0) hx hb dX7_keeps_34 (by decide) ?_
    refine r_iastN hx hb hK w 4 rfl dX7_keeps_35 (by omega) (by decide) (fun H_ locs_ w => ?_)
    have w : ga_wd G A_ s_ H_ locs_ [(aM, .inr (7, [.ref mT, .int (nI tl), .int (nI n), .int (nI k), .ref mF, .ref mO, .ref mC, .int (nI li), .int (nI fa), .int (nI mm), .int (bI im), .ref mR, .ref mZ, .ref mS, .ref mH, .int (bI ird), .int (bI itn), .int (nI lsz), .ref mL, .ref mN, .ref mX, .ref mY, .int (nI tu)])), (mO, .inl (G.2.2, 16, .inl (aN to))), (mR, .inl (G.2.2, 3200, .inl (aN rw))), (mZ, .inl (G.2.2, 200, .inl (aN (uN sz mm pn)))), (mS, .inl (G.2.2, 200, .inl (aN (uN st mm 0)))), (mH, .inl (G.2.2, 200, .inl (aN hs))), (mN, .inl (G.2.2, 16, .inl (aN nw)))] := w
    refine lv_aload_n hx hb dX7_keeps_36 rfl (lv_at hl 0 rfl) ?_
    refine gf_X7_36 cx hK w 0 rfl rfl dX7_keeps_37 ?_
    refine lv_aload_n hx hb dX7_keeps_40 rfl (lv_at hl 0 rfl) ?_
    refine gf_X7_83 cx hK w 0 rfl rfl dX7_keeps_41 ?_
    refine lv_aload_n hx hb dX7_keeps_44 rfl (lv_at hl 0 rfl) ?_
    refine gf_X7_66 cx hK w 0 rfl rfl dX7_keeps_45 ?_
    refine lv_iconst (v := nI 1) hx hb dX7_keeps_48 (by decide) ?_
    refine r_iand hx hb dX7_keeps_49 ?_
    refine r_iastN hx hb hK w 5 rfl dX7_keeps_50 (by omega) (by decide) (fun H_ locs_ w => ?_)
    have w : ga_wd G A_ s_ H_ locs_ [(aM, .inr (7, [.ref mT, .int (nI tl), .int (nI n), .int (nI k), .ref mF, .ref mO, .ref mC, .int (nI li), .int (nI fa), .int (nI mm), .int (bI im), .ref mR, .ref mZ, .ref mS, .ref mH, .int (bI ird), .int (bI itn), .int (nI lsz), .ref mL, .ref mN, .ref mX, .ref mY, .int (nI tu)])), (mO, .inl (G.2.2, 16, .inl (aN to))), (mR, .inl (G.2.2, 3200, .inl (aN rw))), (mZ, .inl (G.2.2, 200, .inl (aN (uN sz mm pn)))), (mS, .inl (G.2.2, 200, .inl (aN (uN st mm 0)))), (mH, .inl (G.2.2, 200, .inl (aN (uN hs mm (fa &&& 1))))), (mN, .inl (G.2.2, 16, .inl (aN nw)))] := w
    refine lv_iconst (v := nI 0) hx hb dX7_keeps_51 (by decide) ?_
    refine lv_istore_n (lv' := [(2, .int (nI 0)), (0, .ref aM), (1, .int (nI pn))]) hx hb dX7_keeps_52 rfl hl (by decide) rfl (fun ls hl => ?_)
    have loop53 : ∀ (n_ : Nat) (j : Nat) (rv : Nat → Nat) (sv : Nat → Nat) (hv : Nat → Nat) (hj : j ≤ pn) (t1 : sv mm = bs (lz nw j)) (t2 : ∀ i, i ≠ mm → sv i = st i) (u1 : hv mm = fa &&& nb to (lz nw j)) (u2 : ∀ i, i ≠ mm → hv i = hs i) (r1 : ∀ q, q < j → rv (16 * mm + q) = nw q) (r2 : ∀ q, q < 16 * mm → rv q = rw q) (hm : pn - j < n_) (H_ : Heap) (locs_ : List Loc) (ls : Array Slot) (hl : lv_has ls 3 [(2, .int (nI j)), (0, .ref aM), (1, .int (nI pn))]) (w : ga_wd G A_ s_ H_ locs_ [(aM, .inr (7, [.ref mT, .int (nI tl), .int (nI n), .int (nI k), .ref mF, .ref mO, .ref mC, .int (nI li), .int (nI fa), .int (nI mm), .int (bI im), .ref mR, .ref mZ, .ref mS, .ref mH, .int (bI ird), .int (bI itn), .int (nI lsz), .ref mL, .ref mN, .ref mX, .ref mY, .int (nI tu)])), (mO, .inl (G.2.2, 16, .inl (aN to))), (mR, .inl (G.2.2, 3200, .inl (aN rv))), (mZ, .inl (G.2.2, 200, .inl (aN (uN sz mm pn)))), (mS, .inl (G.2.2, 200, .inl (aN sv))), (mH, .inl (G.2.2, 200, .inl (aN hv))), (mN, .inl (G.2.2, 16, .inl (aN nw)))]), W p_ l e_ { frames := 0, cells := 0, slots := 0, locals := 0 } s_ m_ [.ref aM, .int (nI pn)].toArray below meth c_ H_ locs_ (0) (0) (MQ below (ga_Q G A_ (fun r w => ∃ (mm2 : Nat), ∃ (im2 : Bool), ∃ (rw2 : Nat → Nat), ∃ (sz2 : Nat → Nat), ∃ (st2 : Nat → Nat), ∃ (hs2 : Nat → Nat), (RepM to fa (ws ++ [lz nw pn]) mm2 im2 rw2 sz2 st2 hs2) ∧ r = none ∧ w = [(aM, .inr (7, [.ref mT, .int (nI tl), .int (nI n), .int (nI k), .ref mF, .ref mO, .ref mC, .int (nI li), .int (nI fa), .int (nI mm2), .int (bI im2), .ref mR, .ref mZ, .ref mS, .ref mH, .int (bI ird), .int (bI itn), .int (nI lsz), .ref mL, .ref mN, .ref mX, .ref mY, .int (nI tu)])), (mO, .inl (G.2.2, 16, .inl (aN to))), (mR, .inl (G.2.2, 3200, .inl (aN rw2))), (mZ, .inl (G.2.2, 200, .inl (aN sz2))), (mS, .inl (G.2.2, 200, .inl (aN st2))), (mH, .inl (G.2.2, 200, .inl (aN hs2))), (mN, .inl (G.2.2, 16, .inl (aN nw)))])) [.ref aM, .int (nI pn)].toArray s_ 0 0 A_) (F0 m_ 53 ls []) := by
      intro n_
      induction n_ with
      | zero => intro j rv sv hv hj t1 t2 u1 u2 r1 r2 hm; exact absurd hm (Nat.not_lt_zero _)
      | succ n_ ih53 =>
        intro j rv sv hv hj t1 t2 u1 u2 r1 r2 hm53 H_ locs_ ls hl w
        refine lv_iload_n hx hb dX7_keeps_53 rfl (lv_at hl 0 rfl) ?_
        refine lv_iload_n hx hb dX7_keeps_54 rfl (lv_at hl 2 rfl) ?_
        refine r_icmp_ge hx hb dX7_keeps_55 (tgt := 134) (by decide) (by omega) (by omega) (fun c55 => ?_) (fun c55 => ?_)
        · refine lv_aload_n hx hb dX7_keeps_134 rfl (lv_at hl 1 rfl) ?_
          refine lv_dup hx hb dX7_keeps_135 rfl ?_
          refine gf_X7_83 cx hK w 0 rfl rfl dX7_keeps_136 ?_
          refine lv_iconst (v := nI 1) hx hb dX7_keeps_139 (by decide) ?_
          refine r_iadd hx hb dX7_keeps_140 ?_
          refine pf_X7_83 cx hK w 0 rfl rfl rfl (Nat.le_of_ble_eq_true rfl) dX7_keeps_141 (fun H_ locs_ w => ?_)
          have w : ga_wd G A_ s_ H_ locs_ [(aM, .inr (7, [.ref mT, .int (nI tl), .int (nI n), .int (nI k), .ref mF, .ref mO, .ref mC, .int (nI li), .int (nI fa), .int (nI (mm + 1)), .int (bI im), .ref mR, .ref mZ, .ref mS, .ref mH, .int (bI ird), .int (bI itn), .int (nI lsz), .ref mL, .ref mN, .ref mX, .ref mY, .int (nI tu)])), (mO, .inl (G.2.2, 16, .inl (aN to))), (mR, .inl (G.2.2, 3200, .inl (aN rv))), (mZ, .inl (G.2.2, 200, .inl (aN (uN sz mm pn)))), (mS, .inl (G.2.2, 200, .inl (aN sv))), (mH, .inl (G.2.2, 200, .inl (aN hv))), (mN, .inl (G.2.2, 16, .inl (aN nw)))] := w
          exact ga_vret cx hr hlk w dX7_keeps_144 ⟨Nat.le_refl _, Nat.le_refl _⟩ (⟨mm + 1, im, rv, _, sv, hv, RepM_add (p := lz nw pn) hRM hmm (by rw [lz_len]; omega) (by rw [uN_s, lz_len]) (fun i hi => uN_n _ _ hi) (by rw [show pn = j by omega]; exact t1) t2 (by rw [show pn = j by omega]; exact u1) u2 (fun q hq => by rw [lz_len] at hq; rw [lz_getD hq]; exact r1 q (by omega)) r2, rfl, rfl⟩)
        · have hnj := hnw j (by omega)
          refine lv_aload_n hx hb dX7_keeps_58 rfl (lv_at hl 1 rfl) ?_
          refine gf_X7_27 cx hK w 0 rfl rfl dX7_keeps_59 ?_
          refine lv_bipush (v := nI 16) hx hb dX7_keeps_62 (by decide) ?_
          refine lv_aload_n hx hb dX7_keeps_64 rfl (lv_at hl 1 rfl) ?_
          refine gf_X7_83 cx hK w 0 rfl rfl dX7_keeps_65 ?_
          refine r_imul hx hb dX7_keeps_68 ?_
          refine lv_iload_n hx hb dX7_keeps_69 rfl (lv_at hl 0 rfl) ?_
          refine r_iadd hx hb dX7_keeps_70 ?_
          refine lv_aload_n hx hb dX7_keeps_71 rfl (lv_at hl 1 rfl) ?_
          refine gf_X7_42 cx hK w 0 rfl rfl dX7_keeps_72 ?_
          refine lv_iload_n hx hb dX7_keeps_75 rfl (lv_at hl 0 rfl) ?_
          refine r_ialdN hx hb hK w 6 rfl dX7_keeps_76 (by omega) (by decide) ?_
          refine r_iastN hx hb hK w 2 rfl dX7_keeps_77 (by omega) (by decide) (fun H_ locs_ w => ?_)
          have w : ga_wd G A_ s_ H_ locs_ [(aM, .inr (7, [.ref mT, .int (nI tl), .int (nI n), .int (nI k), .ref mF, .ref mO, .ref mC, .int (nI li), .int (nI fa), .int (nI mm), .int (bI im), .ref mR, .ref mZ, .ref mS, .ref mH, .int (bI ird), .int (bI itn), .int (nI lsz), .ref mL, .ref mN, .ref mX, .ref mY, .int (nI tu)])), (mO, .inl (G.2.2, 16, .inl (aN to))), (mR, .inl (G.2.2, 3200, .inl (aN (uN rv ((16 * mm) + j) (nw j))))), (mZ, .inl (G.2.2, 200, .inl (aN (uN sz mm pn)))), (mS, .inl (G.2.2, 200, .inl (aN sv))), (mH, .inl (G.2.2, 200, .inl (aN hv))), (mN, .inl (G.2.2, 16, .inl (aN nw)))] := w
          refine lv_aload_n hx hb dX7_keeps_78 rfl (lv_at hl 1 rfl) ?_
          refine gf_X7_33 cx hK w 0 rfl rfl dX7_keeps_79 ?_
          refine lv_aload_n hx hb dX7_keeps_82 rfl (lv_at hl 1 rfl) ?_
          refine gf_X7_83 cx hK w 0 rfl rfl dX7_keeps_83 ?_
          refine lv_dup2_11 hx hb dX7_keeps_86 rfl rfl ?_
          refine r_ialdN hx hb hK w 4 rfl dX7_keeps_87 (by omega) (by decide) ?_
          refine lv_iconst (v := nI 1) hx hb dX7_keeps_88 (by decide) ?_
          refine lv_aload_n hx hb dX7_keeps_89 rfl (lv_at hl 1 rfl) ?_
          refine gf_X7_42 cx hK w 0 rfl rfl dX7_keeps_90 ?_
          refine lv_iload_n hx hb dX7_keeps_93 rfl (lv_at hl 0 rfl) ?_
          refine r_ialdN hx hb hK w 6 rfl dX7_keeps_94 (by omega) (by decide) ?_
          refine r_ishl hx hb dX7_keeps_95 (by omega) ?_
          refine r_ior hx hb dX7_keeps_96 ?_
          refine r_iastN hx hb hK w 4 rfl dX7_keeps_97 (by omega) (by decide) (fun H_ locs_ w => ?_)
          have w : ga_wd G A_ s_ H_ locs_ [(aM, .inr (7, [.ref mT, .int (nI tl), .int (nI n), .int (nI k), .ref mF, .ref mO, .ref mC, .int (nI li), .int (nI fa), .int (nI mm), .int (bI im), .ref mR, .ref mZ, .ref mS, .ref mH, .int (bI ird), .int (bI itn), .int (nI lsz), .ref mL, .ref mN, .ref mX, .ref mY, .int (nI tu)])), (mO, .inl (G.2.2, 16, .inl (aN to))), (mR, .inl (G.2.2, 3200, .inl (aN (uN rv ((16 * mm) + j) (nw j))))), (mZ, .inl (G.2.2, 200, .inl (aN (uN sz mm pn)))), (mS, .inl (G.2.2, 200, .inl (aN (uN sv mm ((sv mm) ||| (1 <<< (nw j))))))), (mH, .inl (G.2.2, 200, .inl (aN hv))), (mN, .inl (G.2.2, 16, .inl (aN nw)))] := w
          refine lv_aload_n hx hb dX7_keeps_98 rfl (lv_at hl 1 rfl) ?_
          refine gf_X7_36 cx hK w 0 rfl rfl dX7_keeps_99 ?_
          refine lv_aload_n hx hb dX7_keeps_102 rfl (lv_at hl 1 rfl) ?_
          refine gf_X7_83 cx hK w 0 rfl rfl dX7_keeps_103 ?_
          refine lv_dup2_11 hx hb dX7_keeps_106 rfl rfl ?_
          refine r_ialdN hx hb hK w 5 rfl dX7_keeps_107 (by omega) (by decide) ?_
          refine lv_aload_n hx hb dX7_keeps_108 rfl (lv_at hl 1 rfl) ?_
          refine gf_X7_66 cx hK w 0 rfl rfl dX7_keeps_109 ?_
          refine lv_iconst (v := nI 1) hx hb dX7_keeps_112 (by decide) ?_
          refine lv_aload_n hx hb dX7_keeps_113 rfl (lv_at hl 1 rfl) ?_
          refine gf_X7_21 cx hK w 0 rfl rfl dX7_keeps_114 ?_
          refine lv_aload_n hx hb dX7_keeps_117 rfl (lv_at hl 1 rfl) ?_
          refine gf_X7_42 cx hK w 0 rfl rfl dX7_keeps_118 ?_
          refine lv_iload_n hx hb dX7_keeps_121 rfl (lv_at hl 0 rfl) ?_
          refine r_ialdN hx hb hK w 6 rfl dX7_keeps_122 (by omega) (by decide) ?_
          refine r_ialdN hx hb hK w 1 rfl dX7_keeps_123 (by omega) (by decide) ?_
          refine r_ishl hx hb dX7_keeps_124 (by omega) ?_
          refine r_iand hx hb dX7_keeps_125 ?_
          refine r_ior hx hb dX7_keeps_126 ?_
          refine r_iastN hx hb hK w 5 rfl dX7_keeps_127 (by omega) (by decide) (fun H_ locs_ w => ?_)
          have w : ga_wd G A_ s_ H_ locs_ [(aM, .inr (7, [.ref mT, .int (nI tl), .int (nI n), .int (nI k), .ref mF, .ref mO, .ref mC, .int (nI li), .int (nI fa), .int (nI mm), .int (bI im), .ref mR, .ref mZ, .ref mS, .ref mH, .int (bI ird), .int (bI itn), .int (nI lsz), .ref mL, .ref mN, .ref mX, .ref mY, .int (nI tu)])), (mO, .inl (G.2.2, 16, .inl (aN to))), (mR, .inl (G.2.2, 3200, .inl (aN (uN rv ((16 * mm) + j) (nw j))))), (mZ, .inl (G.2.2, 200, .inl (aN (uN sz mm pn)))), (mS, .inl (G.2.2, 200, .inl (aN (uN sv mm ((sv mm) ||| (1 <<< (nw j))))))), (mH, .inl (G.2.2, 200, .inl (aN (uN hv mm ((hv mm) ||| (fa &&& (1 <<< (to (nw j))))))))), (mN, .inl (G.2.2, 16, .inl (aN nw)))] := w
          refine r_iinc (d := 1) (k := 0) (lv' := [(2, .int (nI (j + 1))), (0, .ref aM), (1, .int (nI pn))]) hx hb dX7_keeps_128 hl rfl (by decide) (by decide) rfl (fun ls hl => ?_)
          refine lv_goto (tgt := 53) hx hb dX7_keeps_131 (by decide) ?_
          exact ih53 (j + 1) (uN rv ((16 * mm) + j) (nw j)) (uN sv mm ((sv mm) ||| (1 <<< (nw j)))) (uN hv mm ((hv mm) ||| (fa &&& (1 <<< (to (nw j)))))) (by omega) (by rw [uN_s, lz_s, bs_a, t1]) (fun i hi => by rw [uN_n _ _ hi]; exact t2 i hi) (by rw [uN_s, lz_s, nb_a, u1, Nat.and_or_distrib_left]) (fun i hi => by rw [uN_n _ _ hi]; exact u2 i hi) (fun q hq => by rcases Nat.lt_or_ge q j with h | h; (rw [uN_n _ _ (by omega)]; exact r1 q h); (rw [show q = j by omega, uN_s])) (fun q hq => by rw [uN_n _ _ (by omega)]; exact r2 q hq) (by omega) _ _ _ (lv_sub hl [0, 1, 2] rfl) w
    exact loop53 _ 0 rw (uN st mm 0) (uN hs mm (fa &&& 1)) (by omega) (by rw [uN_s]; rfl) (fun i hi => uN_n _ _ hi) (by rw [uN_s]; rfl) (fun i hi => uN_n _ _ hi) (fun q h => absurd h (Nat.not_lt_zero _)) (fun _ _ => rfl) (Nat.lt_succ_self _) _ _ _ (lv_sub hl [0, 1, 2] rfl) w
  · refine lv_aload_n hx hb dX7_keeps_10 rfl (lv_at hl 0 rfl) ?_
    refine lv_iconst (v := nI 1) hx hb dX7_keeps_11 (by decide) ?_
    refine pf_X7_86 cx hK w 0 rfl rfl rfl (Nat.le_of_ble_eq_true rfl) dX7_keeps_12 (fun H_ locs_ w => ?_)
    have w : ga_wd G A_ s_ H_ locs_ [(aM, .inr (7, [.ref mT, .int (nI tl), .int (nI n), .int (nI k), .ref mF, .ref mO, .ref mC, .int (nI li), .int (nI fa), .int (nI mm), .int (nI 1), .ref mR, .ref mZ, .ref mS, .ref mH, .int (bI ird), .int (bI itn), .int (nI lsz), .ref mL, .ref mN, .ref mX, .ref mY, .int (nI tu)])), (mO, .inl (G.2.2, 16, .inl (aN to))), (mR, .inl (G.2.2, 3200, .inl (aN rw))), (mZ, .inl (G.2.2, 200, .inl (aN sz))), (mS, .inl (G.2.2, 200, .inl (aN st))), (mH, .inl (G.2.2, 200, .inl (aN hs))), (mN, .inl (G.2.2, 16, .inl (aN nw)))] := w
    exact ga_vret cx hr hlk w dX7_keeps_15 ⟨Nat.le_refl _, Nat.le_refl _⟩ (⟨mm, true, rw, sz, st, hs, RepM_full hRM (by omega) (by simp), rfl, rfl⟩)

set_option maxHeartbeats 4000000 in
set_option maxRecDepth 100000 in
theorem c_X7_works (l : Launch) (G : ga_G) (aM : Nat) (mT : Nat) (mF : Nat) (mO : Nat) (mC : Nat) (mR : Nat) (mZ : Nat) (mS : Nat) (mH : Nat) (mL : Nat) (mN : Nat) (mX : Nat) (mY : Nat) (tl : Nat) (n : Nat) (k : Nat) (li : Nat) (fa : Nat) (mm : Nat) (im : Bool) (ird : Bool) (itn : Bool) (lsz : Nat) (tu : Nat) (fr : Nat → Nat) (to : Nat → Nat) (ct : Nat → Nat) (sz : Nat → Nat) (st : Nat → Nat) (hs : Nat → Nat) (rw : Nat → Nat) (nw : Nat → Nat) (hF : Flow n k fr to ct) : ga_M l G yX7_works cX7_works 4 (Option.none : Option Jvm.ClassFile.FieldType) 1 22 0 0 [.ref aM] [(aM, .inr (7, [.ref mT, .int (nI tl), .int (nI n), .int (nI k), .ref mF, .ref mO, .ref mC, .int (nI li), .int (nI fa), .int (nI mm), .int (bI im), .ref mR, .ref mZ, .ref mS, .ref mH, .int (bI ird), .int (bI itn), .int (nI lsz), .ref mL, .ref mN, .ref mX, .ref mY, .int (nI tu)])), (mF, .inl (G.2.2, 16, .inl (aN fr))), (mO, .inl (G.2.2, 16, .inl (aN to))), (mR, .inl (G.2.2, 3200, .inl (aN rw))), (mZ, .inl (G.2.2, 200, .inl (aN sz))), (mS, .inl (G.2.2, 200, .inl (aN st))), (mH, .inl (G.2.2, 200, .inl (aN hs))), (mN, .inl (G.2.2, 16, .inl (aN nw)))] (fun r w => ∃ (mm2 : Nat), ∃ (im2 : Bool), ∃ (rw2 : Nat → Nat), ∃ (sz2 : Nat → Nat), ∃ (st2 : Nat → Nat), ∃ (hs2 : Nat → Nat), ∃ (nw2 : Nat → Nat), (RepM to fa (WL n k fr to) mm2 im2 rw2 sz2 st2 hs2) ∧ r = none ∧ w = [(aM, .inr (7, [.ref mT, .int (nI tl), .int (nI n), .int (nI k), .ref mF, .ref mO, .ref mC, .int (nI li), .int (nI fa), .int (nI mm2), .int (bI im2), .ref mR, .ref mZ, .ref mS, .ref mH, .int (bI ird), .int (bI itn), .int (nI lsz), .ref mL, .ref mN, .ref mX, .ref mY, .int (nI tu)])), (mF, .inl (G.2.2, 16, .inl (aN fr))), (mO, .inl (G.2.2, 16, .inl (aN to))), (mR, .inl (G.2.2, 3200, .inl (aN rw2))), (mZ, .inl (G.2.2, 200, .inl (aN sz2))), (mS, .inl (G.2.2, 200, .inl (aN st2))), (mH, .inl (G.2.2, 200, .inl (aN hs2))), (mN, .inl (G.2.2, 16, .inl (aN nw2)))]) := by
  refine ga_M.intro (by decide) (Nat.le_of_ble_eq_true rfl) (fun p_ e_ s_ m_ below meth c_ A_ H_ locs_ ls cx hr hlk hnm hA hK hl w => ?_)
  have hx := cx.1
  have hb := cx.2.1
  have hl : lv_has ls 4 [(0, .ref aM)] := hl
  refine lv_aload_n hx hb dX7_works_0 rfl (lv_at hl 0 rfl) ?_
  refine lv_iconst (v := nI 0) hx hb dX7_works_1 (by decide) ?_
  refine pf_X7_83 cx hK w 0 rfl rfl rfl (Nat.le_of_ble_eq_true rfl) dX7_works_2 (fun H_ locs_ w => ?_)
  have w : ga_wd G A_ s_ H_ locs_ [(aM, .inr (7, [.ref mT, .int (nI tl), .int (nI n), .int (nI k), .ref mF, .ref mO, .ref mC, .int (nI li), .int (nI fa), .int (nI 0), .int (bI im), .ref mR, .ref mZ, .ref mS, .ref mH, .int (bI ird), .int (bI itn), .int (nI lsz), .ref mL, .ref mN, .ref mX, .ref mY, .int (nI tu)])), (mF, .inl (G.2.2, 16, .inl (aN fr))), (mO, .inl (G.2.2, 16, .inl (aN to))), (mR, .inl (G.2.2, 3200, .inl (aN rw))), (mZ, .inl (G.2.2, 200, .inl (aN sz))), (mS, .inl (G.2.2, 200, .inl (aN st))), (mH, .inl (G.2.2, 200, .inl (aN hs))), (mN, .inl (G.2.2, 16, .inl (aN nw)))] := w
  refine lv_aload_n hx hb dX7_works_5 rfl (lv_at hl 0 rfl) ?_
  refine lv_iconst (v := nI 0) hx hb dX7_works_6 (by decide) ?_
  refine pf_X7_86 cx hK w 0 rfl rfl rfl (Nat.le_of_ble_eq_true rfl) dX7_works_7 (fun H_ locs_ w => ?_)
  have w : ga_wd G A_ s_ H_ locs_ [(aM, .inr (7, [.ref mT, .int (nI tl), .int (nI n), .int (nI k), .ref mF, .ref mO, .ref mC, .int (nI li), .int (nI fa), .int (nI 0), .int (nI 0), .ref mR, .ref mZ, .ref mS, .ref mH, .int (bI ird), .int (bI itn), .int (nI lsz), .ref mL, .ref mN, .ref mX, .ref mY, .int (nI tu)])), (mF, .inl (G.2.2, 16, .inl (aN fr))), (mO, .inl (G.2.2, 16, .inl (aN to))), (mR, .inl (G.2.2, 3200, .inl (aN rw))), (mZ, .inl (G.2.2, 200, .inl (aN sz))), (mS, .inl (G.2.2, 200, .inl (aN st))), (mH, .inl (G.2.2, 200, .inl (aN hs))), (mN, .inl (G.2.2, 16, .inl (aN nw)))] := w
  refine lv_iconst (v := nI 0) hx hb dX7_works_10 (by decide) ?_
  refine lv_istore_n (lv' := [(1, .int (nI 0)), (0, .ref aM)]) hx hb dX7_works_11 rfl hl (by decide) rfl (fun ls hl => ?_)
  refine lv_iconst (v := nI 0) hx hb dX7_works_12 (by decide) ?_
  refine lv_istore_n (lv' := [(2, .int (nI 0)), (1, .int (nI 0)), (0, .ref aM)]) hx hb dX7_works_13 rfl hl (by decide) rfl (fun ls hl => ?_)
  have loop14 : ∀ (n_ : Nat) (dn : Bool) (x : Int32) (nn : Nat) (nx : Nat) (ml : Nat) (wv : List (List Nat)) (mv : Nat) (iv : Bool) (rv : Nat → Nat) (zv : Nat → Nat) (sv : Nat → Nat) (hv : Nat → Nat) (nv : Nat → Nat) (hx0 : x = (if dn then -1 else nI nn)) (hRM : RepM to fa wv mv iv rv zv sv hv) (hW : wv ++ (if dn then [] else rem k fr to (n - 1) nv nn nx).filterMap id = WL n k fr to) (hI : dn = false → WI n k fr to nv nn) (hml : dn = false → (rem k fr to (n - 1) nv nn nx).length = ml) (hnx : nx ≤ k) (hm : ml < n_) (H_ : Heap) (locs_ : List Loc) (ls : Array Slot) (hl : lv_has ls 4 [(2, .int (nI nx)), (1, .int x), (0, .ref aM)]) (w : ga_wd G A_ s_ H_ locs_ [(aM, .inr (7, [.ref mT, .int (nI tl), .int (nI n), .int (nI k), .ref mF, .ref mO, .ref mC, .int (nI li), .int (nI fa), .int (nI mv), .int (bI iv), .ref mR, .ref mZ, .ref mS, .ref mH, .int (bI ird), .int (bI itn), .int (nI lsz), .ref mL, .ref mN, .ref mX, .ref mY, .int (nI tu)])), (mF, .inl (G.2.2, 16, .inl (aN fr))), (mO, .inl (G.2.2, 16, .inl (aN to))), (mR, .inl (G.2.2, 3200, .inl (aN rv))), (mZ, .inl (G.2.2, 200, .inl (aN zv))), (mS, .inl (G.2.2, 200, .inl (aN sv))), (mH, .inl (G.2.2, 200, .inl (aN hv))), (mN, .inl (G.2.2, 16, .inl (aN nv)))]), W p_ l e_ { frames := 1, cells := 0, slots := 0, locals := 22 } s_ m_ [.ref aM].toArray below meth c_ H_ locs_ (0) (0) (MQ below (ga_Q G A_ (fun r w => ∃ (mm2 : Nat), ∃ (im2 : Bool), ∃ (rw2 : Nat → Nat), ∃ (sz2 : Nat → Nat), ∃ (st2 : Nat → Nat), ∃ (hs2 : Nat → Nat), ∃ (nw2 : Nat → Nat), (RepM to fa (WL n k fr to) mm2 im2 rw2 sz2 st2 hs2) ∧ r = none ∧ w = [(aM, .inr (7, [.ref mT, .int (nI tl), .int (nI n), .int (nI k), .ref mF, .ref mO, .ref mC, .int (nI li), .int (nI fa), .int (nI mm2), .int (bI im2), .ref mR, .ref mZ, .ref mS, .ref mH, .int (bI ird), .int (bI itn), .int (nI lsz), .ref mL, .ref mN, .ref mX, .ref mY, .int (nI tu)])), (mF, .inl (G.2.2, 16, .inl (aN fr))), (mO, .inl (G.2.2, 16, .inl (aN to))), (mR, .inl (G.2.2, 3200, .inl (aN rw2))), (mZ, .inl (G.2.2, 200, .inl (aN sz2))), (mS, .inl (G.2.2, 200, .inl (aN st2))), (mH, .inl (G.2.2, 200, .inl (aN hs2))), (mN, .inl (G.2.2, 16, .inl (aN nw2)))])) [.ref aM].toArray s_ 0 0 A_) (F0 m_ 14 ls []) := by
    intro n_
    induction n_ with
    | zero => intro dn x nn nx ml wv mv iv rv zv sv hv nv hx0 hRM hW hI hml hnx hm; exact absurd hm (Nat.not_lt_zero _)
    | succ n_ ih14 =>
      intro dn x nn nx ml wv mv iv rv zv sv hv nv hx0 hRM hW hI hml hnx hm14 H_ locs_ ls hl w
      cases dn
      · have hx1 : x = nI nn := hx0
        subst hx1
        have hWI := hI rfl
        have hlen := hml rfl
        have hW1 : wv ++ (rem k fr to (n - 1) nv nn nx).filterMap id = WL n k fr to := hW
        have hn12 := hF.2.1
        have hn2 := hF.1
        have hk16 := hF.2.2.1
        have hb1 := hWI.2.1
        have hb2 := hWI.2.2
        refine lv_iload_n hx hb dX7_works_14 rfl (lv_at hl 1 rfl) ?_
        refine r_if_lt hx hb dX7_works_15 (tgt := 151) (by decide) (by omega) (fun c15 => ?_) (fun c15 => ?_)
        · omega
        · refine lv_aload_n hx hb dX7_works_18 rfl (lv_at hl 2 rfl) ?_
          refine gf_X7_86 cx hK w 0 rfl rfl dX7_works_19 ?_
          refine r_ifb_ne hx hb dX7_works_22 (tgt := 151) (by decide) (fun c22 => ?_) (fun c22 => ?_)
          · exact ga_vret cx hr hlk w dX7_works_151 ⟨Nat.le_refl _, Nat.le_refl _⟩ (⟨mv, iv, rv, zv, sv, hv, nv, (by rw [← hW1, c22]; rw [c22] at hRM; exact RepM_more _ hRM), rfl, rfl⟩)
          · refine lv_iload_n hx hb dX7_works_25 rfl (lv_at hl 1 rfl) ?_
            refine r_if_ne hx hb dX7_works_26 (tgt := 33) (by decide) (by omega) (fun c26 => ?_) (fun c26 => ?_)
            · refine lv_aload_n hx hb dX7_works_33 rfl (lv_at hl 2 rfl) ?_
              refine gf_X7_21 cx hK w 0 rfl rfl dX7_works_34 ?_
              refine lv_aload_n hx hb dX7_works_37 rfl (lv_at hl 2 rfl) ?_
              refine gf_X7_42 cx hK w 0 rfl rfl dX7_works_38 ?_
              refine lv_iload_n hx hb dX7_works_41 rfl (lv_at hl 1 rfl) ?_
              refine lv_iconst (v := nI 1) hx hb dX7_works_42 (by decide) ?_
              refine r_isub hx hb dX7_works_43 (by omega) ?_
              refine r_ialdN hx hb hK w 7 rfl dX7_works_44 (by omega) (by decide) ?_
              refine r_ialdN hx hb hK w 2 rfl dX7_works_45 (by have := (hWI.1 (nn - 1) (by omega)).1; omega) (by decide) ?_
              refine r_topi (y := nI (nod to nv nn)) (by rw [nod, if_neg c26]) ?_
              refine lv_istore_n (lv' := [(3, .int (nI (nod to nv nn))), (2, .int (nI nx)), (1, .int (nI nn)), (0, .ref aM)]) hx hb dX7_works_46 rfl hl (by decide) rfl (fun ls hl => ?_)
              refine lv_iload_n hx hb dX7_works_47 rfl (lv_at hl 2 rfl) ?_
              refine r_if_le hx hb dX7_works_48 (tgt := 81) (by decide) (by omega) (fun c48 => ?_) (fun c48 => ?_)
              · omega
              · refine lv_iload_n hx hb dX7_works_51 rfl (lv_at hl 0 rfl) ?_
                refine lv_aload_n hx hb dX7_works_52 rfl (lv_at hl 3 rfl) ?_
                refine gf_X7_13 cx hK w 0 rfl rfl dX7_works_53 ?_
                refine lv_iconst (v := nI 1) hx hb dX7_works_56 (by decide) ?_
                refine r_isub hx hb dX7_works_57 (by omega) ?_
                refine r_icmp_ne hx hb dX7_works_58 (tgt := 81) (by decide) (by omega) (by omega) (fun c58 => ?_) (fun c58 => ?_)
                · have hng : ¬ nod to nv nn = n - 1 := by first | exact c58 | (rw [c26]; show ¬ 0 = n - 1; omega)
                  have loop81 : ∀ (n_ : Nat) (ny : Nat) (hny : ny ≤ k) (hev : evs k fr to (n - 1) (11 - nn) (nod to nv nn) (lz nv nn) ny = evs k fr to (n - 1) (11 - nn) (nod to nv nn) (lz nv nn) nx) (hm : k - ny < n_) (H_ : Heap) (locs_ : List Loc) (ls : Array Slot) (hl : lv_has ls 4 [(3, .int (nI (nod to nv nn))), (2, .int (nI ny)), (1, .int (nI nn)), (0, .ref aM)]) (w : ga_wd G A_ s_ H_ locs_ [(aM, .inr (7, [.ref mT, .int (nI tl), .int (nI n), .int (nI k), .ref mF, .ref mO, .ref mC, .int (nI li), .int (nI fa), .int (nI mv), .int (bI iv), .ref mR, .ref mZ, .ref mS, .ref mH, .int (bI ird), .int (bI itn), .int (nI lsz), .ref mL, .ref mN, .ref mX, .ref mY, .int (nI tu)])), (mF, .inl (G.2.2, 16, .inl (aN fr))), (mO, .inl (G.2.2, 16, .inl (aN to))), (mR, .inl (G.2.2, 3200, .inl (aN rv))), (mZ, .inl (G.2.2, 200, .inl (aN zv))), (mS, .inl (G.2.2, 200, .inl (aN sv))), (mH, .inl (G.2.2, 200, .inl (aN hv))), (mN, .inl (G.2.2, 16, .inl (aN nv)))]), W p_ l e_ { frames := 1, cells := 0, slots := 0, locals := 22 } s_ m_ [.ref aM].toArray below meth c_ H_ locs_ (0) (0) (MQ below (ga_Q G A_ (fun r w => ∃ (mm2 : Nat), ∃ (im2 : Bool), ∃ (rw2 : Nat → Nat), ∃ (sz2 : Nat → Nat), ∃ (st2 : Nat → Nat), ∃ (hs2 : Nat → Nat), ∃ (nw2 : Nat → Nat), (RepM to fa (WL n k fr to) mm2 im2 rw2 sz2 st2 hs2) ∧ r = none ∧ w = [(aM, .inr (7, [.ref mT, .int (nI tl), .int (nI n), .int (nI k), .ref mF, .ref mO, .ref mC, .int (nI li), .int (nI fa), .int (nI mm2), .int (bI im2), .ref mR, .ref mZ, .ref mS, .ref mH, .int (bI ird), .int (bI itn), .int (nI lsz), .ref mL, .ref mN, .ref mX, .ref mY, .int (nI tu)])), (mF, .inl (G.2.2, 16, .inl (aN fr))), (mO, .inl (G.2.2, 16, .inl (aN to))), (mR, .inl (G.2.2, 3200, .inl (aN rw2))), (mZ, .inl (G.2.2, 200, .inl (aN sz2))), (mS, .inl (G.2.2, 200, .inl (aN st2))), (mH, .inl (G.2.2, 200, .inl (aN hs2))), (mN, .inl (G.2.2, 16, .inl (aN nw2)))])) [.ref aM].toArray s_ 0 0 A_) (F0 m_ 81 ls []) := by
                    intro n_
                    induction n_ with
                    | zero => intro ny hny hev hm; exact absurd hm (Nat.not_lt_zero _)
                    | succ n_ ih81 =>
                      intro ny hny hev hm81 H_ locs_ ls hl w
                      refine lv_iload_n hx hb dX7_works_81 rfl (lv_at hl 1 rfl) ?_
                      refine lv_aload_n hx hb dX7_works_82 rfl (lv_at hl 3 rfl) ?_
                      refine gf_X7_52 cx hK w 0 rfl rfl dX7_works_83 ?_
                      refine r_icmp_ge hx hb dX7_works_86 (tgt := 105) (by decide) (by omega) (by omega) (fun c86 => ?_) (fun c86 => ?_)
                      · refine lv_iload_n hx hb dX7_works_105 rfl (lv_at hl 1 rfl) ?_
                        refine lv_aload_n hx hb dX7_works_106 rfl (lv_at hl 3 rfl) ?_
                        refine gf_X7_52 cx hK w 0 rfl rfl dX7_works_107 ?_
                        refine r_icmp_ge hx hb dX7_works_110 (tgt := 128) (by decide) (by omega) (by omega) (fun c110 => ?_) (fun c110 => ?_)
                        · have hold : rem k fr to (n - 1) nv nn nx = none :: upE k fr to (n - 1) nv nn := rem_none hng hev (by omega)
                          have hpw : WI n k fr to nv (nn - 1) ∧ ¬ nod to nv (nn - 1) = n - 1 := by
                            obtain ⟨m, rfl⟩ : ∃ m, nn = m + 1 := ⟨nn - 1, by omega⟩
                            exact WI_pop hF hWI
                          have hpop : rem k fr to (n - 1) nv (nn - 1) (nv (nn - 1) + 1) = upE k fr to (n - 1) nv nn := by
                            obtain ⟨m, rfl⟩ : ∃ m, nn = m + 1 := ⟨nn - 1, by omega⟩
                            exact rem_pop hpw.2
                          have hml1 : 1 ≤ ml := by rw [hold] at hlen; simp at hlen; omega
                          refine r_idec (d := 1) (k := 2) (lv' := [(1, .int (nI (nn - 1))), (3, .int (nI (nod to nv nn))), (2, .int (nI ny)), (0, .ref aM)]) hx hb dX7_works_128 hl rfl (by decide) (by omega) (by decide) rfl (fun ls hl => ?_)
                          refine lv_iload_n hx hb dX7_works_131 rfl (lv_at hl 0 rfl) ?_
                          refine r_if_lt hx hb dX7_works_132 (tgt := 146) (by decide) (by omega) (fun c132 => ?_) (fun c132 => ?_)
                          · omega
                          · refine lv_aload_n hx hb dX7_works_135 rfl (lv_at hl 3 rfl) ?_
                            refine gf_X7_42 cx hK w 0 rfl rfl dX7_works_136 ?_
                            refine lv_iload_n hx hb dX7_works_139 rfl (lv_at hl 0 rfl) ?_
                            refine r_ialdN hx hb hK w 7 rfl dX7_works_140 (by omega) (by decide) ?_
                            refine lv_iconst (v := nI 1) hx hb dX7_works_141 (by decide) ?_
                            refine r_iadd hx hb dX7_works_142 ?_
                            refine lv_goto (tgt := 147) hx hb dX7_works_143 (by decide) ?_
                            refine lv_istore_n (lv' := [(2, .int (nI ((nv (nn - 1)) + 1))), (1, .int (nI (nn - 1))), (3, .int (nI (nod to nv nn))), (0, .ref aM)]) hx hb dX7_works_147 rfl hl (by decide) rfl (fun ls hl => ?_)
                            refine lv_goto (tgt := 14) hx hb dX7_works_148 (by decide) ?_
                            exact ih14 false (nI (nn - 1)) (nn - 1) ((nv (nn - 1)) + 1) (ml - 1) wv mv iv rv zv sv hv nv (rfl) (hRM) (by show wv ++ (rem k fr to (n - 1) nv (nn - 1) (nv (nn - 1) + 1)).filterMap id = _; rw [hpop, ← hW1, hold]; rfl) (fun _ => hpw.1) (fun _ => by rw [hpop]; rw [hold] at hlen; simp at hlen; omega) (by have := (hWI.1 (nn - 1) (by omega)).1; omega) (by omega) _ _ _ (lv_sub hl [0, 1, 3] rfl) w
                        · omega
                      · refine lv_aload_n hx hb dX7_works_89 rfl (lv_at hl 3 rfl) ?_
                        refine gf_X7_17 cx hK w 0 rfl rfl dX7_works_90 ?_
                        refine lv_iload_n hx hb dX7_works_93 rfl (lv_at hl 1 rfl) ?_
                        refine r_ialdN hx hb hK w 1 rfl dX7_works_94 (by omega) (by decide) ?_
                        refine lv_iload_n hx hb dX7_works_95 rfl (lv_at hl 0 rfl) ?_
                        refine r_icmp_eq hx hb dX7_works_96 (tgt := 105) (by decide) (by have := hF.2.2.2.1 ny (by omega); omega) (by omega) (fun c96 => ?_) (fun c96 => ?_)
                        · refine lv_iload_n hx hb dX7_works_105 rfl (lv_at hl 1 rfl) ?_
                          refine lv_aload_n hx hb dX7_works_106 rfl (lv_at hl 3 rfl) ?_
                          refine gf_X7_52 cx hK w 0 rfl rfl dX7_works_107 ?_
                          refine r_icmp_ge hx hb dX7_works_110 (tgt := 128) (by decide) (by omega) (by omega) (fun c110 => ?_) (fun c110 => ?_)
                          · omega
                          · have hpush : rem k fr to (n - 1) nv nn nx = none :: rem k fr to (n - 1) (uN nv nn ny) (nn + 1) 0 := rem_push hF hWI hng hev (by omega) c96
                            have hml1 : 1 ≤ ml := by rw [hpush] at hlen; simp at hlen; omega
                            refine lv_aload_n hx hb dX7_works_113 rfl (lv_at hl 3 rfl) ?_
                            refine gf_X7_42 cx hK w 0 rfl rfl dX7_works_114 ?_
                            refine lv_iload_n hx hb dX7_works_117 rfl (lv_at hl 2 rfl) ?_
                            refine lv_iload_n hx hb dX7_works_118 rfl (lv_at hl 1 rfl) ?_
                            refine r_iastN hx hb hK w 7 rfl dX7_works_119 (by omega) (by decide) (fun H_ locs_ w => ?_)
                            have w : ga_wd G A_ s_ H_ locs_ [(aM, .inr (7, [.ref mT, .int (nI tl), .int (nI n), .int (nI k), .ref mF, .ref mO, .ref mC, .int (nI li), .int (nI fa), .int (nI mv), .int (bI iv), .ref mR, .ref mZ, .ref mS, .ref mH, .int (bI ird), .int (bI itn), .int (nI lsz), .ref mL, .ref mN, .ref mX, .ref mY, .int (nI tu)])), (mF, .inl (G.2.2, 16, .inl (aN fr))), (mO, .inl (G.2.2, 16, .inl (aN to))), (mR, .inl (G.2.2, 3200, .inl (aN rv))), (mZ, .inl (G.2.2, 200, .inl (aN zv))), (mS, .inl (G.2.2, 200, .inl (aN sv))), (mH, .inl (G.2.2, 200, .inl (aN hv))), (mN, .inl (G.2.2, 16, .inl (aN (uN nv nn ny))))] := w
                            refine r_iinc (d := 1) (k := 2) (lv' := [(1, .int (nI (nn + 1))), (3, .int (nI (nod to nv nn))), (2, .int (nI ny)), (0, .ref aM)]) hx hb dX7_works_120 hl rfl (by decide) (by decide) rfl (fun ls hl => ?_)
                            refine lv_iconst (v := nI 0) hx hb dX7_works_123 (by decide) ?_
                            refine lv_istore_n (lv' := [(2, .int (nI 0)), (1, .int (nI (nn + 1))), (3, .int (nI (nod to nv nn))), (0, .ref aM)]) hx hb dX7_works_124 rfl hl (by decide) rfl (fun ls hl => ?_)
                            refine lv_goto (tgt := 14) hx hb dX7_works_125 (by decide) ?_
                            exact ih14 false (nI (nn + 1)) (nn + 1) 0 (ml - 1) wv mv iv rv zv sv hv (uN nv nn ny) (rfl) (hRM) (by show wv ++ (rem k fr to (n - 1) (uN nv nn ny) (nn + 1) 0).filterMap id = _; rw [← hW1, hpush]; rfl) (fun _ => WI_push hF hWI (by omega) c96) (fun _ => by rw [hpush] at hlen; simp at hlen; omega) (Nat.zero_le _) (by omega) _ _ _ (lv_sub hl [0, 1, 3] rfl) w
                        · refine r_iinc (d := 1) (k := 1) (lv' := [(2, .int (nI (ny + 1))), (3, .int (nI (nod to nv nn))), (1, .int (nI nn)), (0, .ref aM)]) hx hb dX7_works_99 hl rfl (by decide) (by decide) rfl (fun ls hl => ?_)
                          refine lv_goto (tgt := 81) hx hb dX7_works_102 (by decide) ?_
                          exact ih81 (ny + 1) (by omega) (by rw [← evs_f (by omega) c96]; exact hev) (by omega) _ _ _ (lv_sub hl [1, 0, 2, 3] rfl) w
                  exact loop81 _ nx (hnx) (rfl) (Nat.lt_succ_self _) _ _ _ (lv_sub hl [0, 1, 2, 3] rfl) w
                · have hold : rem k fr to (n - 1) nv nn nx = some (lz nv nn) :: upE k fr to (n - 1) nv nn := rem_goal c58
                  have hpw : WI n k fr to nv (nn - 1) ∧ ¬ nod to nv (nn - 1) = n - 1 := by
                    obtain ⟨m, rfl⟩ : ∃ m, nn = m + 1 := ⟨nn - 1, by omega⟩
                    exact WI_pop hF hWI
                  have hpop : rem k fr to (n - 1) nv (nn - 1) (nv (nn - 1) + 1) = upE k fr to (n - 1) nv nn := by
                    obtain ⟨m, rfl⟩ : ∃ m, nn = m + 1 := ⟨nn - 1, by omega⟩
                    exact rem_pop hpw.2
                  have hml1 : 1 ≤ ml := by rw [hold] at hlen; simp at hlen; omega
                  refine lv_aload_n hx hb dX7_works_61 rfl (lv_at hl 3 rfl) ?_
                  refine lv_iload_n hx hb dX7_works_62 rfl (lv_at hl 2 rfl) ?_
                  refine ga_callV (rest := []) (wr := [(mF, .inl (G.2.2, 16, .inl (aN fr)))]) cx hK hA w hl lk_X7_89 (c_X7_keeps l G aM mT mF mO mC mR mZ mS mH mL mN mX mY tl n k li fa mv iv ird itn lsz tu to zv sv hv rv nv wv nn (hRM) (by omega) (fun j hj => by have h8 := hWI.1 j hj; have h9 := hF.2.2.2.1 _ h8.1; omega)) ⟨Nat.le_of_ble_eq_true rfl, Nat.le_of_ble_eq_true rfl⟩ [0, 2, 3, 4, 5, 6, 7] [1] rfl rfl (by decide) (by decide) (by decide) 0 7 rfl rfl rfl rfl (Nat.le_of_ble_eq_true rfl) dX7_works_63 ⟨Nat.le_refl _, Nat.le_refl _⟩ rfl (fun r w1_ H_ locs_ hp w => ?_)
                  obtain ⟨mm9, im9, rw9, sz9, st9, hs9, hR9, rfl, rfl⟩ := hp
                  have w : ga_wd G A_ s_ H_ locs_ [(aM, .inr (7, [.ref mT, .int (nI tl), .int (nI n), .int (nI k), .ref mF, .ref mO, .ref mC, .int (nI li), .int (nI fa), .int (nI mm9), .int (bI im9), .ref mR, .ref mZ, .ref mS, .ref mH, .int (bI ird), .int (bI itn), .int (nI lsz), .ref mL, .ref mN, .ref mX, .ref mY, .int (nI tu)])), (mF, .inl (G.2.2, 16, .inl (aN fr))), (mO, .inl (G.2.2, 16, .inl (aN to))), (mR, .inl (G.2.2, 3200, .inl (aN rw9))), (mZ, .inl (G.2.2, 200, .inl (aN sz9))), (mS, .inl (G.2.2, 200, .inl (aN st9))), (mH, .inl (G.2.2, 200, .inl (aN hs9))), (mN, .inl (G.2.2, 16, .inl (aN nv)))] := ga_perm w [1, 0, 2, 3, 4, 5, 6, 7] (by decide) rfl
                  refine W.eq (g2 := F0 m_ 66 ls []) rfl ?_
                  refine r_idec (d := 1) (k := 2) (lv' := [(1, .int (nI (nn - 1))), (3, .int (nI (nod to nv nn))), (2, .int (nI nx)), (0, .ref aM)]) hx hb dX7_works_66 hl rfl (by decide) (by omega) (by decide) rfl (fun ls hl => ?_)
                  refine lv_aload_n hx hb dX7_works_69 rfl (lv_at hl 3 rfl) ?_
                  refine gf_X7_42 cx hK w 0 rfl rfl dX7_works_70 ?_
                  refine lv_iload_n hx hb dX7_works_73 rfl (lv_at hl 0 rfl) ?_
                  refine r_ialdN hx hb hK w 7 rfl dX7_works_74 (by omega) (by decide) ?_
                  refine lv_iconst (v := nI 1) hx hb dX7_works_75 (by decide) ?_
                  refine r_iadd hx hb dX7_works_76 ?_
                  refine lv_istore_n (lv' := [(2, .int (nI ((nv (nn - 1)) + 1))), (1, .int (nI (nn - 1))), (3, .int (nI (nod to nv nn))), (0, .ref aM)]) hx hb dX7_works_77 rfl hl (by decide) rfl (fun ls hl => ?_)
                  refine lv_goto (tgt := 14) hx hb dX7_works_78 (by decide) ?_
                  exact ih14 false (nI (nn - 1)) (nn - 1) ((nv (nn - 1)) + 1) (ml - 1) (wv ++ [lz nv nn]) mm9 im9 rw9 sz9 st9 hs9 nv (rfl) (hR9) (by show (wv ++ [lz nv nn]) ++ (rem k fr to (n - 1) nv (nn - 1) (nv (nn - 1) + 1)).filterMap id = _; rw [hpop, ← hW1, hold]; simp) (fun _ => hpw.1) (fun _ => by rw [hpop]; rw [hold] at hlen; simp at hlen; omega) (by have := (hWI.1 (nn - 1) (by omega)).1; omega) (by omega) _ _ _ (lv_sub hl [0, 1, 3] rfl) w
            · refine lv_iconst (v := nI 0) hx hb dX7_works_29 (by decide) ?_
              refine lv_goto (tgt := 46) hx hb dX7_works_30 (by decide) ?_
              refine r_topi (y := nI (nod to nv nn)) (by rw [nod, if_pos c26]) ?_
              refine lv_istore_n (lv' := [(3, .int (nI (nod to nv nn))), (2, .int (nI nx)), (1, .int (nI nn)), (0, .ref aM)]) hx hb dX7_works_46 rfl hl (by decide) rfl (fun ls hl => ?_)
              refine lv_iload_n hx hb dX7_works_47 rfl (lv_at hl 2 rfl) ?_
              refine r_if_le hx hb dX7_works_48 (tgt := 81) (by decide) (by omega) (fun c48 => ?_) (fun c48 => ?_)
              · have hng : ¬ nod to nv nn = n - 1 := by first | exact c58 | (rw [c26]; show ¬ 0 = n - 1; omega)
                have loop81 : ∀ (n_ : Nat) (ny : Nat) (hny : ny ≤ k) (hev : evs k fr to (n - 1) (11 - nn) (nod to nv nn) (lz nv nn) ny = evs k fr to (n - 1) (11 - nn) (nod to nv nn) (lz nv nn) nx) (hm : k - ny < n_) (H_ : Heap) (locs_ : List Loc) (ls : Array Slot) (hl : lv_has ls 4 [(3, .int (nI (nod to nv nn))), (2, .int (nI ny)), (1, .int (nI nn)), (0, .ref aM)]) (w : ga_wd G A_ s_ H_ locs_ [(aM, .inr (7, [.ref mT, .int (nI tl), .int (nI n), .int (nI k), .ref mF, .ref mO, .ref mC, .int (nI li), .int (nI fa), .int (nI mv), .int (bI iv), .ref mR, .ref mZ, .ref mS, .ref mH, .int (bI ird), .int (bI itn), .int (nI lsz), .ref mL, .ref mN, .ref mX, .ref mY, .int (nI tu)])), (mF, .inl (G.2.2, 16, .inl (aN fr))), (mO, .inl (G.2.2, 16, .inl (aN to))), (mR, .inl (G.2.2, 3200, .inl (aN rv))), (mZ, .inl (G.2.2, 200, .inl (aN zv))), (mS, .inl (G.2.2, 200, .inl (aN sv))), (mH, .inl (G.2.2, 200, .inl (aN hv))), (mN, .inl (G.2.2, 16, .inl (aN nv)))]), W p_ l e_ { frames := 1, cells := 0, slots := 0, locals := 22 } s_ m_ [.ref aM].toArray below meth c_ H_ locs_ (0) (0) (MQ below (ga_Q G A_ (fun r w => ∃ (mm2 : Nat), ∃ (im2 : Bool), ∃ (rw2 : Nat → Nat), ∃ (sz2 : Nat → Nat), ∃ (st2 : Nat → Nat), ∃ (hs2 : Nat → Nat), ∃ (nw2 : Nat → Nat), (RepM to fa (WL n k fr to) mm2 im2 rw2 sz2 st2 hs2) ∧ r = none ∧ w = [(aM, .inr (7, [.ref mT, .int (nI tl), .int (nI n), .int (nI k), .ref mF, .ref mO, .ref mC, .int (nI li), .int (nI fa), .int (nI mm2), .int (bI im2), .ref mR, .ref mZ, .ref mS, .ref mH, .int (bI ird), .int (bI itn), .int (nI lsz), .ref mL, .ref mN, .ref mX, .ref mY, .int (nI tu)])), (mF, .inl (G.2.2, 16, .inl (aN fr))), (mO, .inl (G.2.2, 16, .inl (aN to))), (mR, .inl (G.2.2, 3200, .inl (aN rw2))), (mZ, .inl (G.2.2, 200, .inl (aN sz2))), (mS, .inl (G.2.2, 200, .inl (aN st2))), (mH, .inl (G.2.2, 200, .inl (aN hs2))), (mN, .inl (G.2.2, 16, .inl (aN nw2)))])) [.ref aM].toArray s_ 0 0 A_) (F0 m_ 81 ls []) := by
                  intro n_
                  induction n_ with
                  | zero => intro ny hny hev hm; exact absurd hm (Nat.not_lt_zero _)
                  | succ n_ ih81 =>
                    intro ny hny hev hm81 H_ locs_ ls hl w
                    refine lv_iload_n hx hb dX7_works_81 rfl (lv_at hl 1 rfl) ?_
                    refine lv_aload_n hx hb dX7_works_82 rfl (lv_at hl 3 rfl) ?_
                    refine gf_X7_52 cx hK w 0 rfl rfl dX7_works_83 ?_
                    refine r_icmp_ge hx hb dX7_works_86 (tgt := 105) (by decide) (by omega) (by omega) (fun c86 => ?_) (fun c86 => ?_)
                    · refine lv_iload_n hx hb dX7_works_105 rfl (lv_at hl 1 rfl) ?_
                      refine lv_aload_n hx hb dX7_works_106 rfl (lv_at hl 3 rfl) ?_
                      refine gf_X7_52 cx hK w 0 rfl rfl dX7_works_107 ?_
                      refine r_icmp_ge hx hb dX7_works_110 (tgt := 128) (by decide) (by omega) (by omega) (fun c110 => ?_) (fun c110 => ?_)
                      · have hold : rem k fr to (n - 1) nv nn nx = none :: upE k fr to (n - 1) nv nn := rem_none hng hev (by omega)
                        have hml1 : 1 ≤ ml := by rw [hold] at hlen; simp at hlen; omega
                        refine lv_iinc (k := 2) (lv' := [(1, .int (nI nn + Int32.ofInt (-1))), (3, .int (nI (nod to nv nn))), (2, .int (nI ny)), (0, .ref aM)]) hx hb dX7_works_128 hl rfl rfl (by decide) rfl (fun ls hl => ?_)
                        refine lv_iload_n hx hb dX7_works_131 rfl (lv_at hl 0 rfl) ?_
                        refine lv_if_lt hx hb dX7_works_132 (tgt := 146) (by decide) (fun c132 => ?_) (fun c132 => ?_)
                        · refine lv_iconst (v := nI 0) hx hb dX7_works_146 (by decide) ?_
                          refine lv_istore_n (lv' := [(2, .int (nI 0)), (1, .int (nI nn + Int32.ofInt (-1))), (3, .int (nI (nod to nv nn))), (0, .ref aM)]) hx hb dX7_works_147 rfl hl (by decide) rfl (fun ls hl => ?_)
                          refine lv_goto (tgt := 14) hx hb dX7_works_148 (by decide) ?_
                          exact ih14 true (nI nn + Int32.ofInt (-1)) 0 0 (ml - 1) wv mv iv rv zv sv hv nv (by rw [c26]; decide) (hRM) (by show wv ++ ([] : List (Option (List Nat))).filterMap id = _; rw [← hW1, hold, c26]; rfl) (fun h => by cases h) (fun h => by cases h) (Nat.zero_le _) (by omega) _ _ _ (lv_sub hl [0, 1, 3] rfl) w
                        · rw [c26] at c132; exact absurd (by decide) c132
                      · omega
                    · refine lv_aload_n hx hb dX7_works_89 rfl (lv_at hl 3 rfl) ?_
                      refine gf_X7_17 cx hK w 0 rfl rfl dX7_works_90 ?_
                      refine lv_iload_n hx hb dX7_works_93 rfl (lv_at hl 1 rfl) ?_
                      refine r_ialdN hx hb hK w 1 rfl dX7_works_94 (by omega) (by decide) ?_
                      refine lv_iload_n hx hb dX7_works_95 rfl (lv_at hl 0 rfl) ?_
                      refine r_icmp_eq hx hb dX7_works_96 (tgt := 105) (by decide) (by have := hF.2.2.2.1 ny (by omega); omega) (by omega) (fun c96 => ?_) (fun c96 => ?_)
                      · refine lv_iload_n hx hb dX7_works_105 rfl (lv_at hl 1 rfl) ?_
                        refine lv_aload_n hx hb dX7_works_106 rfl (lv_at hl 3 rfl) ?_
                        refine gf_X7_52 cx hK w 0 rfl rfl dX7_works_107 ?_
                        refine r_icmp_ge hx hb dX7_works_110 (tgt := 128) (by decide) (by omega) (by omega) (fun c110 => ?_) (fun c110 => ?_)
                        · omega
                        · have hpush : rem k fr to (n - 1) nv nn nx = none :: rem k fr to (n - 1) (uN nv nn ny) (nn + 1) 0 := rem_push hF hWI hng hev (by omega) c96
                          have hml1 : 1 ≤ ml := by rw [hpush] at hlen; simp at hlen; omega
                          refine lv_aload_n hx hb dX7_works_113 rfl (lv_at hl 3 rfl) ?_
                          refine gf_X7_42 cx hK w 0 rfl rfl dX7_works_114 ?_
                          refine lv_iload_n hx hb dX7_works_117 rfl (lv_at hl 2 rfl) ?_
                          refine lv_iload_n hx hb dX7_works_118 rfl (lv_at hl 1 rfl) ?_
                          refine r_iastN hx hb hK w 7 rfl dX7_works_119 (by omega) (by decide) (fun H_ locs_ w => ?_)
                          have w : ga_wd G A_ s_ H_ locs_ [(aM, .inr (7, [.ref mT, .int (nI tl), .int (nI n), .int (nI k), .ref mF, .ref mO, .ref mC, .int (nI li), .int (nI fa), .int (nI mv), .int (bI iv), .ref mR, .ref mZ, .ref mS, .ref mH, .int (bI ird), .int (bI itn), .int (nI lsz), .ref mL, .ref mN, .ref mX, .ref mY, .int (nI tu)])), (mF, .inl (G.2.2, 16, .inl (aN fr))), (mO, .inl (G.2.2, 16, .inl (aN to))), (mR, .inl (G.2.2, 3200, .inl (aN rv))), (mZ, .inl (G.2.2, 200, .inl (aN zv))), (mS, .inl (G.2.2, 200, .inl (aN sv))), (mH, .inl (G.2.2, 200, .inl (aN hv))), (mN, .inl (G.2.2, 16, .inl (aN (uN nv nn ny))))] := w
                          refine r_iinc (d := 1) (k := 2) (lv' := [(1, .int (nI (nn + 1))), (3, .int (nI (nod to nv nn))), (2, .int (nI ny)), (0, .ref aM)]) hx hb dX7_works_120 hl rfl (by decide) (by decide) rfl (fun ls hl => ?_)
                          refine lv_iconst (v := nI 0) hx hb dX7_works_123 (by decide) ?_
                          refine lv_istore_n (lv' := [(2, .int (nI 0)), (1, .int (nI (nn + 1))), (3, .int (nI (nod to nv nn))), (0, .ref aM)]) hx hb dX7_works_124 rfl hl (by decide) rfl (fun ls hl => ?_)
                          refine lv_goto (tgt := 14) hx hb dX7_works_125 (by decide) ?_
                          exact ih14 false (nI (nn + 1)) (nn + 1) 0 (ml - 1) wv mv iv rv zv sv hv (uN nv nn ny) (rfl) (hRM) (by show wv ++ (rem k fr to (n - 1) (uN nv nn ny) (nn + 1) 0).filterMap id = _; rw [← hW1, hpush]; rfl) (fun _ => WI_push hF hWI (by omega) c96) (fun _ => by rw [hpush] at hlen; simp at hlen; omega) (Nat.zero_le _) (by omega) _ _ _ (lv_sub hl [0, 1, 3] rfl) w
                      · refine r_iinc (d := 1) (k := 1) (lv' := [(2, .int (nI (ny + 1))), (3, .int (nI (nod to nv nn))), (1, .int (nI nn)), (0, .ref aM)]) hx hb dX7_works_99 hl rfl (by decide) (by decide) rfl (fun ls hl => ?_)
                        refine lv_goto (tgt := 81) hx hb dX7_works_102 (by decide) ?_
                        exact ih81 (ny + 1) (by omega) (by rw [← evs_f (by omega) c96]; exact hev) (by omega) _ _ _ (lv_sub hl [1, 0, 2, 3] rfl) w
                exact loop81 _ nx (hnx) (rfl) (Nat.lt_succ_self _) _ _ _ (lv_sub hl [0, 1, 2, 3] rfl) w
              · omega
      · have hx1 : x = -1 := hx0
        subst hx1
        refine lv_iload_n hx hb dX7_works_14 rfl (lv_at hl 1 rfl) ?_
        refine lv_if_lt hx hb dX7_works_15 (tgt := 151) (by decide) (fun c15 => ?_) (fun c15 => ?_)
        · exact ga_vret cx hr hlk w dX7_works_151 ⟨Nat.le_refl _, Nat.le_refl _⟩ (⟨mv, iv, rv, zv, sv, hv, nv, (by have h9 : wv ++ ([] : List (List Nat)) = WL n k fr to := hW; rw [List.append_nil] at h9; rw [← h9]; exact hRM), rfl, rfl⟩)
        · exact absurd (by decide) c15
  exact loop14 _ false (nI 0) 0 0 ((rem k fr to (n - 1) nw 0 0).length) ([]) 0 false rw sz st hs nw (rfl) (RepM_0) (by show [] ++ (rem k fr to (n - 1) nw 0 0).filterMap id = _; rw [List.nil_append]; exact rem_0 hF.1) (fun _ => WI_0 hF.1) (fun _ => rfl) (Nat.zero_le _) (Nat.lt_succ_self _) _ _ _ (lv_sub hl [0, 1, 2] rfl) w

set_option maxHeartbeats 4000000 in
set_option maxRecDepth 100000 in
theorem c_X7_isTooMany (l : Launch) (G : ga_G) (aM : Nat) (mT : Nat) (mF : Nat) (mO : Nat) (mC : Nat) (mR : Nat) (mZ : Nat) (mS : Nat) (mH : Nat) (mL : Nat) (mN : Nat) (mX : Nat) (mY : Nat) (tl : Nat) (n : Nat) (k : Nat) (li : Nat) (fa : Nat) (mm : Nat) (im : Bool) (ird : Bool) (itn : Bool) (lsz : Nat) (tu : Nat) (fr : Nat → Nat) (to : Nat → Nat) (ct : Nat → Nat) (sz : Nat → Nat) (st : Nat → Nat) (hs : Nat → Nat) (rw : Nat → Nat) (nw : Nat → Nat) (hF : Flow n k fr to ct) : ga_M l G yX7_isTooMany cX7_isTooMany 1 (Option.some Jvm.ClassFile.FieldType.boolean) 2 45 0 0 [.ref aM] [(aM, .inr (7, [.ref mT, .int (nI tl), .int (nI n), .int (nI k), .ref mF, .ref mO, .ref mC, .int (nI li), .int (nI fa), .int (nI mm), .int (bI im), .ref mR, .ref mZ, .ref mS, .ref mH, .int (bI ird), .int (bI itn), .int (nI lsz), .ref mL, .ref mN, .ref mX, .ref mY, .int (nI tu)])), (mF, .inl (G.2.2, 16, .inl (aN fr))), (mO, .inl (G.2.2, 16, .inl (aN to))), (mR, .inl (G.2.2, 3200, .inl (aN rw))), (mZ, .inl (G.2.2, 200, .inl (aN sz))), (mS, .inl (G.2.2, 200, .inl (aN st))), (mH, .inl (G.2.2, 200, .inl (aN hs))), (mN, .inl (G.2.2, 16, .inl (aN nw)))] (fun r w => ∃ (mm2 : Nat), ∃ (im2 : Bool), ∃ (rw2 : Nat → Nat), ∃ (sz2 : Nat → Nat), ∃ (st2 : Nat → Nat), ∃ (hs2 : Nat → Nat), ∃ (nw2 : Nat → Nat), (RepM to fa (WL n k fr to) mm2 im2 rw2 sz2 st2 hs2) ∧ r = some (.int (bI im2)) ∧ w = [(aM, .inr (7, [.ref mT, .int (nI tl), .int (nI n), .int (nI k), .ref mF, .ref mO, .ref mC, .int (nI li), .int (nI fa), .int (nI mm2), .int (bI im2), .ref mR, .ref mZ, .ref mS, .ref mH, .int (bI ird), .int (bI itn), .int (nI lsz), .ref mL, .ref mN, .ref mX, .ref mY, .int (nI tu)])), (mF, .inl (G.2.2, 16, .inl (aN fr))), (mO, .inl (G.2.2, 16, .inl (aN to))), (mR, .inl (G.2.2, 3200, .inl (aN rw2))), (mZ, .inl (G.2.2, 200, .inl (aN sz2))), (mS, .inl (G.2.2, 200, .inl (aN st2))), (mH, .inl (G.2.2, 200, .inl (aN hs2))), (mN, .inl (G.2.2, 16, .inl (aN nw2)))]) := by
  refine ga_M.intro (by decide) (Nat.le_of_ble_eq_true rfl) (fun p_ e_ s_ m_ below meth c_ A_ H_ locs_ ls cx hr hlk hnm hA hK hl w => ?_)
  have hx := cx.1
  have hb := cx.2.1
  have hl : lv_has ls 1 [(0, .ref aM)] := hl
  refine lv_aload_n hx hb dX7_isTooMany_0 rfl (lv_at hl 0 rfl) ?_
  refine ga_callV (rest := []) (wr := []) cx hK hA w hl lk_X7_93 (c_X7_works l G aM mT mF mO mC mR mZ mS mH mL mN mX mY tl n k li fa mm im ird itn lsz tu fr to ct sz st hs rw nw (hF)) ⟨Nat.le_of_ble_eq_true rfl, Nat.le_of_ble_eq_true rfl⟩ [0, 1, 2, 3, 4, 5, 6, 7] [] rfl rfl (by decide) (by decide) (by decide) 0 7 rfl rfl rfl rfl (Nat.le_of_ble_eq_true rfl) dX7_isTooMany_1 ⟨Nat.le_refl _, Nat.le_refl _⟩ rfl (fun r w1_ H_ locs_ hp w => ?_)
  obtain ⟨mm9, im9, rw9, sz9, st9, hs9, nw9, hR9, rfl, rfl⟩ := hp
  have w : ga_wd G A_ s_ H_ locs_ [(aM, .inr (7, [.ref mT, .int (nI tl), .int (nI n), .int (nI k), .ref mF, .ref mO, .ref mC, .int (nI li), .int (nI fa), .int (nI mm9), .int (bI im9), .ref mR, .ref mZ, .ref mS, .ref mH, .int (bI ird), .int (bI itn), .int (nI lsz), .ref mL, .ref mN, .ref mX, .ref mY, .int (nI tu)])), (mF, .inl (G.2.2, 16, .inl (aN fr))), (mO, .inl (G.2.2, 16, .inl (aN to))), (mR, .inl (G.2.2, 3200, .inl (aN rw9))), (mZ, .inl (G.2.2, 200, .inl (aN sz9))), (mS, .inl (G.2.2, 200, .inl (aN st9))), (mH, .inl (G.2.2, 200, .inl (aN hs9))), (mN, .inl (G.2.2, 16, .inl (aN nw9)))] := ga_perm w [0, 1, 2, 3, 4, 5, 6, 7] (by decide) rfl
  refine W.eq (g2 := F0 m_ 4 ls []) rfl ?_
  refine lv_aload_n hx hb dX7_isTooMany_4 rfl (lv_at hl 0 rfl) ?_
  refine gf_X7_86 cx hK w 0 rfl rfl dX7_isTooMany_5 ?_
  exact ga_zret cx hr hlk w (bI_nar _) dX7_isTooMany_8 ⟨Nat.le_refl _, Nat.le_refl _⟩ (⟨mm9, im9, rw9, sz9, st9, hs9, nw9, hR9, rfl, rfl⟩)
