set_option maxHeartbeats 4000000 in
set_option maxRecDepth 100000 in
theorem c_J7_copyOf_59c91 (l : Launch) (G : ga_G) (a : Nat) (L : Nat) (f : Nat → Nat) (nl : Nat) (h1 : L < nl) (h2 : nl < 2 ^ 26) : ga_M l G yJ7_copyOf_59c91 cJ7_copyOf_59c91 3 (Option.some (Jvm.ClassFile.FieldType.array Jvm.ClassFile.FieldType.int)) 1 60 1 nl [.ref a, .int (nI nl)] [(a, .inl (G.2.2, L, .inl (aN f)))] (fun r w => ∃ (q : Nat), ∃ (g : Nat → Nat), (∀ j, j < L → g j = f j) ∧ r = some (.ref q) ∧ w = [(a, .inl (G.2.2, L, .inl (aN f))), (q, .inl (G.2.2, nl, .inl (aN g)))]) := by
  refine ga_M.intro (by decide) (Nat.le_of_ble_eq_true rfl) (fun p_ e_ s_ m_ below meth c_ A_ H_ locs_ ls cx hr hlk hnm hA hK hl w => ?_)
  have hx := cx.1
  have hb := cx.2.1
  have hl : lv_has ls 3 [(0, .ref a), (1, .int (nI nl))] := hl
  refine lv_iload_n hx hb dJ7_copyOf_59c91_0 rfl (lv_at hl 1 rfl) ?_
  refine lv_aload_n hx hb dJ7_copyOf_59c91_1 rfl (lv_at hl 0 rfl) ?_
  refine r_alen hx hb hK w 0 rfl dJ7_copyOf_59c91_2 ?_
  refine r_icmp_ne hx hb dJ7_copyOf_59c91_3 (tgt := 14) (by decide) (by omega) (by omega) (fun c3 => ?_) (fun c3 => ?_)
  · refine lv_iload_n hx hb dJ7_copyOf_59c91_14 rfl (lv_at hl 1 rfl) ?_
    refine r_newa_i cx hK hA w dJ7_copyOf_59c91_15 (by omega) (Nat.le_refl _) (by show 0 + nl ≤ nl; omega) (fun q15 H_ w => ?_)
    have w : ga_wd G A_ s_ H_ locs_ [(a, .inl (G.2.2, L, .inl (aN f))), (q15, .inl (G.2.2, nl, .inl (fun _ => 0)))] := w
    refine lv_astore_n (lv' := [(2, .ref q15), (0, .ref a), (1, .int (nI nl))]) hx hb dJ7_copyOf_59c91_17 rfl hl (by decide) rfl (fun ls hl => ?_)
    refine lv_aload_n hx hb dJ7_copyOf_59c91_18 rfl (lv_at hl 1 rfl) ?_
    refine lv_iconst (v := nI 0) hx hb dJ7_copyOf_59c91_19 (by decide) ?_
    refine lv_aload_n hx hb dJ7_copyOf_59c91_20 rfl (lv_at hl 0 rfl) ?_
    refine lv_iconst (v := nI 0) hx hb dJ7_copyOf_59c91_21 (by decide) ?_
    refine lv_aload_n hx hb dJ7_copyOf_59c91_22 rfl (lv_at hl 1 rfl) ?_
    refine r_alen hx hb hK w 0 rfl dJ7_copyOf_59c91_23 ?_
    refine lv_iload_n hx hb dJ7_copyOf_59c91_24 rfl (lv_at hl 2 rfl) ?_
    refine va_mmin hx hb (by rw [cx.2.2.1]; exact hl.1.symm) cx.2.2.2.1 (cx.2.2.2.2 _ tm_355) (cx.2.2.2.2 _ tm_356) (cx.2.2.2.2 _ tm_30) (cx.2.2.2.2 _ tm_357) (Nat.le_of_ble_eq_true rfl) (Nat.le_of_ble_eq_true rfl) (Nat.le_refl _) (by show 0 + nl ≤ nl; omega) dJ7_copyOf_59c91_25 ?_
    refine r_topi (y := nI L) (if_neg (nI_nlt (by omega) (by omega))) ?_
    refine va_copyi hx hb (by rw [cx.2.2.1]; exact hl.1.symm) cx.2.2.2.1 (cx.2.2.2.2 _ tm_358) (cx.2.2.2.2 _ tm_360) (cx.2.2.2.2 _ tm_359) (cx.2.2.2.2 _ tm_31) hK.1 w.1 w.2.1 w.2.2 0 1 1 1 rfl rfl rfl rfl rfl (nI_pos (by decide)) (nI_pos (by decide)) (nI_pos (by omega)) (by rw [nI_clamp (by decide), nI_clamp (by omega)]; omega) (by rw [nI_clamp (by decide), nI_clamp (by omega)]; omega) (fun _ _ => rfl) (Nat.le_of_ble_eq_true rfl) (Nat.le_of_ble_eq_true rfl) dJ7_copyOf_59c91_28 (fun H_ locs_ k1_ k2_ k3_ => ?_)
    have w : ga_wd G A_ s_ H_ locs_ _ := ⟨k1_, k2_, k3_⟩
    rw [nI_clamp (by decide), nI_clamp (by omega), va_cpyN] at w
    have w : ga_wd G A_ s_ H_ locs_ [(a, .inl (G.2.2, L, .inl (aN f))), (q15, .inl (G.2.2, nl, .inl (aN (fun j => if j < L then f j else 0))))] := w
    refine lv_aload_n hx hb dJ7_copyOf_59c91_31 rfl (lv_at hl 0 rfl) ?_
    exact ga_aret cx hr (by first | exact Or.inl ⟨_, rfl⟩ | exact Or.inr ⟨_, rfl⟩) hlk w dJ7_copyOf_59c91_32 ⟨Nat.le_refl _, by show 0 + nl ≤ nl; omega⟩ (⟨q15, _, fun j hj => if_pos hj, rfl, rfl⟩)
  · omega

set_option maxHeartbeats 4000000 in
set_option maxRecDepth 100000 in
theorem c_X0_add (l : Launch) (G : ga_G) (aK : Nat) (aZ : Nat) (cap : Nat) (z : Nat → Nat) (pn : Nat) (sl : Bool) (x : Nat) (hpc : pn ≤ cap) (hcap : cap < 2 ^ 25) (hz : ∀ q, q < pn → z q < 65536) (hx1 : x < 65536) (hc1 : 1 ≤ cap) : ga_M l G yX0_add cX0_add 3 (Option.none : Option Jvm.ClassFile.FieldType) 2 82 (2 * capL cap (lz z pn) x - 2 * cap) (2 * capL cap (lz z pn) x - 2 * cap) [.ref aK, .int (nI x)] [(aK, .inr (0, [.ref aZ, .int (nI pn), .int (bI sl)])), (aZ, .inl (G.2.2, cap, .inl (aN z)))] (fun r w => ∃ (aZ2 : Nat), ∃ (z2 : Nat → Nat), ∃ (pn2 : Nat), (lz z2 pn2 = addL (lz z pn) x) ∧ (pn2 ≤ capL cap (lz z pn) x) ∧ r = none ∧ w = [(aK, .inr (0, [.ref aZ2, .int (nI pn2), .int (bI sl)])), (aZ2, .inl (G.2.2, capL cap (lz z pn) x, .inl (aN z2)))]) := by
  refine ga_M.intro (by decide) (Nat.le_of_ble_eq_true rfl) (fun p_ e_ s_ m_ below meth c_ A_ H_ locs_ ls cx hr hlk hnm hA hK hl w => ?_)
  have hx := cx.1
  have hb := cx.2.1
  have hl : lv_has ls 3 [(0, .ref aK), (1, .int (nI x))] := hl
  refine lv_iconst (v := nI 0) hx hb dX0_add_0 (by decide) ?_
  refine lv_istore_n (lv' := [(2, .int (nI 0)), (0, .ref aK), (1, .int (nI x))]) hx hb dX0_add_1 rfl hl (by decide) rfl (fun ls hl => ?_)
  have loop2 : ∀ (n_ : Nat) (i : Nat) (hi : i ≤ pn) (hno : ∀ q, q < i → sbs (z q) x = false) (hm : pn - i < n_) (H_ : Heap) (locs_ : List Loc) (ls : Array Slot) (hl : lv_has ls 3 [(2, .int (nI i)), (0, .ref aK), (1, .int (nI x))]) (w : ga_wd G A_ s_ H_ locs_ [(aK, .inr (0, [.ref aZ, .int (nI pn), .int (bI sl)])), (aZ, .inl (G.2.2, cap, .inl (aN z)))]), W p_ l e_ { frames := 2, cells := 2 * capL cap (lz z pn) x - 2 * cap, slots := 2 * capL cap (lz z pn) x - 2 * cap, locals := 82 } s_ m_ [.ref aK, .int (nI x)].toArray below meth c_ H_ locs_ (0) (0) (MQ below (ga_Q G A_ (fun r w => ∃ (aZ2 : Nat), ∃ (z2 : Nat → Nat), ∃ (pn2 : Nat), (lz z2 pn2 = addL (lz z pn) x) ∧ (pn2 ≤ capL cap (lz z pn) x) ∧ r = none ∧ w = [(aK, .inr (0, [.ref aZ2, .int (nI pn2), .int (bI sl)])), (aZ2, .inl (G.2.2, capL cap (lz z pn) x, .inl (aN z2)))])) [.ref aK, .int (nI x)].toArray s_ (2 * capL cap (lz z pn) x - 2 * cap) (2 * capL cap (lz z pn) x - 2 * cap) A_) (F0 m_ 2 ls []) := by
    intro n_
    induction n_ with
    | zero => intro i hi hno hm; exact absurd hm (Nat.not_lt_zero _)
    | succ n_ ih2 =>
      intro i hi hno hm2 H_ locs_ ls hl w
      refine lv_iload_n hx hb dX0_add_2 rfl (lv_at hl 0 rfl) ?_
      refine lv_aload_n hx hb dX0_add_3 rfl (lv_at hl 1 rfl) ?_
      refine gf_X0_19 cx hK w 0 rfl rfl dX0_add_4 ?_
      refine r_icmp_ge hx hb dX0_add_7 (tgt := 30) (by decide) (by omega) (by omega) (fun c7 => ?_) (fun c7 => ?_)
      · have hany := anyL_f (z := z) (pn := pn) (x := x) (fun q hq => hno q (by omega))
        have had : addL (lz z pn) x = lz z pn ++ [x] := by unfold addL; rw [hany]; rfl
        refine lv_aload_n hx hb dX0_add_30 rfl (lv_at hl 1 rfl) ?_
        refine gf_X0_19 cx hK w 0 rfl rfl dX0_add_31 ?_
        refine lv_aload_n hx hb dX0_add_34 rfl (lv_at hl 1 rfl) ?_
        refine gf_X0_9 cx hK w 0 rfl rfl dX0_add_35 ?_
        refine r_alen hx hb hK w 1 rfl dX0_add_38 ?_
        refine r_icmp_lt hx hb dX0_add_39 (tgt := 60) (by decide) (by omega) (by omega) (fun c39 => ?_) (fun c39 => ?_)
        · have hcl : capL cap (lz z pn) x = cap := by unfold capL; rw [hany, if_neg (by decide), if_neg (by rw [lz_len]; omega)]
          refine lv_aload_n hx hb dX0_add_60 rfl (lv_at hl 1 rfl) ?_
          refine gf_X0_9 cx hK w 0 rfl rfl dX0_add_61 ?_
          refine lv_aload_n hx hb dX0_add_64 rfl (lv_at hl 1 rfl) ?_
          refine gf_X0_19 cx hK w 0 rfl rfl dX0_add_65 ?_
          refine lv_iload_n hx hb dX0_add_68 rfl (lv_at hl 2 rfl) ?_
          refine r_iastN hx hb hK w 1 rfl dX0_add_69 (by omega) (by omega) (fun H_ locs_ w => ?_)
          have w : ga_wd G A_ s_ H_ locs_ [(aK, .inr (0, [.ref aZ, .int (nI pn), .int (bI sl)])), (aZ, .inl (G.2.2, cap, .inl (aN (uN z pn x))))] := w
          refine lv_aload_n hx hb dX0_add_70 rfl (lv_at hl 1 rfl) ?_
          refine lv_dup hx hb dX0_add_71 rfl ?_
          refine gf_X0_19 cx hK w 0 rfl rfl dX0_add_72 ?_
          refine lv_iconst (v := nI 1) hx hb dX0_add_75 (by decide) ?_
          refine r_iadd hx hb dX0_add_76 ?_
          refine pf_X0_19 cx hK w 0 rfl rfl rfl (Nat.le_of_ble_eq_true rfl) dX0_add_77 (fun H_ locs_ w => ?_)
          have w : ga_wd G A_ s_ H_ locs_ [(aK, .inr (0, [.ref aZ, .int (nI (pn + 1)), .int (bI sl)])), (aZ, .inl (G.2.2, cap, .inl (aN (uN z pn x))))] := w
          exact ga_vret cx hr hlk w dX0_add_80 ⟨by first | exact Nat.zero_le _ | (rw [hcl]; omega), by first | exact Nat.zero_le _ | (rw [hcl]; omega)⟩ (⟨aZ, _, pn + 1, (by rw [lz_u, had]), (by rw [hcl]; omega), rfl, (by rw [hcl])⟩)
        · refine lv_aload_n hx hb dX0_add_42 rfl (lv_at hl 1 rfl) ?_
          refine lv_aload_n hx hb dX0_add_43 rfl (lv_at hl 1 rfl) ?_
          have hcl : capL cap (lz z pn) x = 2 * cap := by unfold capL; rw [hany, if_neg (by decide), if_pos (by rw [lz_len]; omega)]
          refine gf_X0_9 cx hK w 0 rfl rfl dX0_add_44 ?_
          refine lv_iconst (v := nI 2) hx hb dX0_add_47 (by decide) ?_
          refine lv_aload_n hx hb dX0_add_48 rfl (lv_at hl 1 rfl) ?_
          refine gf_X0_9 cx hK w 0 rfl rfl dX0_add_49 ?_
          refine r_alen hx hb hK w 1 rfl dX0_add_52 ?_
          refine r_imul hx hb dX0_add_53 ?_
          refine ga_callS (rest := [.ref aK]) (wr := [(aK, .inr (0, [.ref aZ, .int (nI pn), .int (bI sl)]))]) cx hK hA w hl lk_X0_36 (c_J7_copyOf_59c91 l G aZ cap z (2 * cap) (by omega) (by omega)) ⟨Nat.le_of_ble_eq_true rfl, Nat.le_of_ble_eq_true rfl⟩ [1] [0] rfl rfl (by decide) (by decide) (by decide) rfl (Nat.le_of_ble_eq_true rfl) dX0_add_54 ⟨by show 0 + 1 ≤ 2 * capL cap (lz z pn) x - 2 * cap; rw [hcl]; omega, by show 0 + 2 * cap ≤ 2 * capL cap (lz z pn) x - 2 * cap; rw [hcl]; omega⟩ rfl (fun r w1_ H_ locs_ hp w => ?_)
          obtain ⟨qn, gn, hgn, rfl, rfl⟩ := hp
          have w : ga_wd G A_ s_ H_ locs_ [(aK, .inr (0, [.ref aZ, .int (nI pn), .int (bI sl)])), (aZ, .inl (G.2.2, cap, .inl (aN z))), (qn, .inl (G.2.2, 2 * cap, .inl (aN gn)))] := ga_perm w [0, 1, 2] (by decide) rfl
          refine W.eq (g2 := F0 m_ 57 ls [.ref qn, .ref aK]) rfl ?_
          refine pf_X0_9 cx hK w 0 rfl rfl rfl (Nat.le_of_ble_eq_true rfl) dX0_add_57 (fun H_ locs_ w => ?_)
          have w : ga_wd G A_ s_ H_ locs_ [(aK, .inr (0, [.ref qn, .int (nI pn), .int (bI sl)])), (aZ, .inl (G.2.2, cap, .inl (aN z))), (qn, .inl (G.2.2, 2 * cap, .inl (aN gn)))] := w
          have w : ga_wd G A_ s_ H_ locs_ [(aK, .inr (0, [.ref qn, .int (nI pn), .int (bI sl)])), (qn, .inl (G.2.2, 2 * cap, .inl (aN gn)))] := ga_perm w [0, 2] (by decide) rfl
          refine lv_aload_n hx hb dX0_add_60 rfl (lv_at hl 1 rfl) ?_
          refine gf_X0_9 cx hK w 0 rfl rfl dX0_add_61 ?_
          refine lv_aload_n hx hb dX0_add_64 rfl (lv_at hl 1 rfl) ?_
          refine gf_X0_19 cx hK w 0 rfl rfl dX0_add_65 ?_
          refine lv_iload_n hx hb dX0_add_68 rfl (lv_at hl 2 rfl) ?_
          refine r_iastN hx hb hK w 1 rfl dX0_add_69 (by omega) (by omega) (fun H_ locs_ w => ?_)
          have w : ga_wd G A_ s_ H_ locs_ [(aK, .inr (0, [.ref qn, .int (nI pn), .int (bI sl)])), (qn, .inl (G.2.2, 2 * cap, .inl (aN (uN gn pn x))))] := w
          refine lv_aload_n hx hb dX0_add_70 rfl (lv_at hl 1 rfl) ?_
          refine lv_dup hx hb dX0_add_71 rfl ?_
          refine gf_X0_19 cx hK w 0 rfl rfl dX0_add_72 ?_
          refine lv_iconst (v := nI 1) hx hb dX0_add_75 (by decide) ?_
          refine r_iadd hx hb dX0_add_76 ?_
          refine pf_X0_19 cx hK w 0 rfl rfl rfl (Nat.le_of_ble_eq_true rfl) dX0_add_77 (fun H_ locs_ w => ?_)
          have w : ga_wd G A_ s_ H_ locs_ [(aK, .inr (0, [.ref qn, .int (nI (pn + 1)), .int (bI sl)])), (qn, .inl (G.2.2, 2 * cap, .inl (aN (uN gn pn x))))] := w
          exact ga_vret cx hr hlk w dX0_add_80 ⟨by first | exact Nat.zero_le _ | (rw [hcl]; omega), by first | exact Nat.zero_le _ | (rw [hcl]; omega)⟩ (⟨qn, _, pn + 1, (by rw [lz_u, had, lz_congr (fun q hq => hgn q (by omega))]), (by rw [hcl]; omega), rfl, (by rw [hcl])⟩)
      · refine lv_aload_n hx hb dX0_add_10 rfl (lv_at hl 1 rfl) ?_
        refine gf_X0_9 cx hK w 0 rfl rfl dX0_add_11 ?_
        refine lv_iload_n hx hb dX0_add_14 rfl (lv_at hl 0 rfl) ?_
        refine r_ialdN hx hb hK w 1 rfl dX0_add_15 (by omega) (by omega) ?_
        refine lv_iload_n hx hb dX0_add_16 rfl (lv_at hl 2 rfl) ?_
        refine lv_iconst (v := (-1)) hx hb dX0_add_17 (by decide) ?_
        refine lv_ixor hx hb dX0_add_18 ?_
        refine lv_iand hx hb dX0_add_19 ?_
        refine r_topi (y := nI ((z i) &&& (65535 ^^^ x))) (nI_andn (hz i (by omega))) ?_
        refine r_if_ne hx hb dX0_add_20 (tgt := 24) (by decide) (andL_lt (by have := hz i (by omega); omega)) (fun c20 => ?_) (fun c20 => ?_)
        · refine r_iinc (d := 1) (k := 0) (lv' := [(2, .int (nI (i + 1))), (0, .ref aK), (1, .int (nI x))]) hx hb dX0_add_24 hl rfl (by decide) (by decide) rfl (fun ls hl => ?_)
          refine lv_goto (tgt := 2) hx hb dX0_add_27 (by decide) ?_
          exact ih2 (i + 1) (by omega) (fun q hq => by rcases Nat.lt_or_ge q i with h | h; exact hno q h; (rw [show q = i by omega]; exact sbs_f c20)) (by omega) _ _ _ (lv_sub hl [0, 1, 2] rfl) w
        · exact ga_vret cx hr hlk w dX0_add_23 ⟨by first | exact Nat.zero_le _ | (rw [hcl]; omega), by first | exact Nat.zero_le _ | (rw [hcl]; omega)⟩ (⟨aZ, z, pn, (by unfold addL; rw [anyL_t (by omega) (sbs_t c20)]; rfl), (by have := capL_ge cap (lz z pn) x; omega), rfl, (by rw [show capL cap (lz z pn) x = cap by unfold capL; rw [anyL_t (by omega) (sbs_t c20)]; rfl])⟩)
  exact loop2 _ 0 (by omega) (fun q h => absurd h (Nat.not_lt_zero _)) (Nat.lt_succ_self _) _ _ _ (lv_sub hl [0, 1, 2] rfl) w

set_option maxHeartbeats 4000000 in
set_option maxRecDepth 100000 in
theorem c_X0_firstNotMetBy (l : Launch) (G : ga_G) (aK : Nat) (aZ : Nat) (cap : Nat) (z : Nat → Nat) (pn : Nat) (sl : Bool) (ch : Nat) (s0 : Nat) (hpc : pn ≤ cap) (hcap : cap < 2 ^ 25) (hz : ∀ q, q < pn → z q < 65536) (hs0 : s0 ≤ pn) : ga_M l G yX0_firstNotMetBy cX0_firstNotMetBy 4 (Option.some Jvm.ClassFile.FieldType.int) 0 0 0 0 [.ref aK, .int (nI ch), .int (nI s0)] [(aK, .inr (0, [.ref aZ, .int (nI pn), .int (bI sl)])), (aZ, .inl (G.2.2, cap, .inl (aN z)))] (fun r w => r = some (.int (nI (fnm z ch pn s0))) ∧ w = [(aK, .inr (0, [.ref aZ, .int (nI pn), .int (bI sl)])), (aZ, .inl (G.2.2, cap, .inl (aN z)))]) := by
  refine ga_M.intro (by decide) (Nat.le_of_ble_eq_true rfl) (fun p_ e_ s_ m_ below meth c_ A_ H_ locs_ ls cx hr hlk hnm hA hK hl w => ?_)
  have hx := cx.1
  have hb := cx.2.1
  have hl : lv_has ls 4 [(0, .ref aK), (1, .int (nI ch)), (2, .int (nI s0))] := hl
  refine lv_iload_n hx hb dX0_firstNotMetBy_0 rfl (lv_at hl 2 rfl) ?_
  refine lv_istore_n (lv' := [(3, .int (nI s0)), (0, .ref aK), (1, .int (nI ch)), (2, .int (nI s0))]) hx hb dX0_firstNotMetBy_1 rfl hl (by decide) rfl (fun ls hl => ?_)
  have loop2 : ∀ (n_ : Nat) (o : Nat) (ho1 : s0 ≤ o) (ho2 : o ≤ pn) (hno : ∀ u, s0 ≤ u → u < o → ¬ z u &&& ch = 0) (hm : pn - o < n_) (H_ : Heap) (locs_ : List Loc) (ls : Array Slot) (hl : lv_has ls 4 [(3, .int (nI o)), (0, .ref aK), (1, .int (nI ch)), (2, .int (nI s0))]) (w : ga_wd G A_ s_ H_ locs_ [(aK, .inr (0, [.ref aZ, .int (nI pn), .int (bI sl)])), (aZ, .inl (G.2.2, cap, .inl (aN z)))]), W p_ l e_ { frames := 0, cells := 0, slots := 0, locals := 0 } s_ m_ [.ref aK, .int (nI ch), .int (nI s0)].toArray below meth c_ H_ locs_ (0) (0) (MQ below (ga_Q G A_ (fun r w => r = some (.int (nI (fnm z ch pn s0))) ∧ w = [(aK, .inr (0, [.ref aZ, .int (nI pn), .int (bI sl)])), (aZ, .inl (G.2.2, cap, .inl (aN z)))])) [.ref aK, .int (nI ch), .int (nI s0)].toArray s_ 0 0 A_) (F0 m_ 2 ls []) := by
    intro n_
    induction n_ with
    | zero => intro o ho1 ho2 hno hm; exact absurd hm (Nat.not_lt_zero _)
    | succ n_ ih2 =>
      intro o ho1 ho2 hno hm2 H_ locs_ ls hl w
      refine lv_iload_n hx hb dX0_firstNotMetBy_2 rfl (lv_at hl 0 rfl) ?_
      refine lv_aload_n hx hb dX0_firstNotMetBy_3 rfl (lv_at hl 1 rfl) ?_
      refine gf_X0_19 cx hK w 0 rfl rfl dX0_firstNotMetBy_4 ?_
      refine r_icmp_ge hx hb dX0_firstNotMetBy_7 (tgt := 29) (by decide) (by omega) (by omega) (fun c7 => ?_) (fun c7 => ?_)
      · refine lv_aload_n hx hb dX0_firstNotMetBy_29 rfl (lv_at hl 1 rfl) ?_
        refine gf_X0_19 cx hK w 0 rfl rfl dX0_firstNotMetBy_30 ?_
        exact ga_iret cx hr hlk w dX0_firstNotMetBy_33 ⟨Nat.le_refl _, Nat.le_refl _⟩ (⟨ga_rv (congrArg nI (fnm_end hs0 (fun u h1 h2 => hno u h1 (by omega))).symm), rfl⟩)
      · refine lv_aload_n hx hb dX0_firstNotMetBy_10 rfl (lv_at hl 1 rfl) ?_
        refine gf_X0_9 cx hK w 0 rfl rfl dX0_firstNotMetBy_11 ?_
        refine lv_iload_n hx hb dX0_firstNotMetBy_14 rfl (lv_at hl 0 rfl) ?_
        refine r_ialdN hx hb hK w 1 rfl dX0_firstNotMetBy_15 (by omega) (by omega) ?_
        refine lv_iload_n hx hb dX0_firstNotMetBy_16 rfl (lv_at hl 2 rfl) ?_
        refine r_iand hx hb dX0_firstNotMetBy_17 ?_
        refine r_if_ne hx hb dX0_firstNotMetBy_18 (tgt := 23) (by decide) (andL_lt (by have := hz o (by omega); omega)) (fun c18 => ?_) (fun c18 => ?_)
        · refine r_iinc (d := 1) (k := 0) (lv' := [(3, .int (nI (o + 1))), (0, .ref aK), (1, .int (nI ch)), (2, .int (nI s0))]) hx hb dX0_firstNotMetBy_23 hl rfl (by decide) (by decide) rfl (fun ls hl => ?_)
          refine lv_goto (tgt := 2) hx hb dX0_firstNotMetBy_26 (by decide) ?_
          exact ih2 (o + 1) (by omega) (by omega) (fun u h1 h2 => by rcases Nat.lt_or_ge u o with h | h; exact hno u h1 h; (rw [show u = o by omega]; exact c18)) (by omega) _ _ _ (lv_sub hl [0, 1, 2, 3] rfl) w
        · refine lv_iload_n hx hb dX0_firstNotMetBy_21 rfl (lv_at hl 0 rfl) ?_
          exact ga_iret cx hr hlk w dX0_firstNotMetBy_22 ⟨Nat.le_refl _, Nat.le_refl _⟩ (⟨ga_rv (congrArg nI (fnm_hit ho1 (by omega) c18 hno).symm), rfl⟩)
  exact loop2 _ s0 (by omega) (by omega) (fun u h1 h2 => by omega) (Nat.lt_succ_self _) _ _ _ (lv_sub hl [0, 1, 2, 3] rfl) w

set_option maxHeartbeats 4000000 in
set_option maxRecDepth 100000 in
theorem c_X0_allMetBy (l : Launch) (G : ga_G) (aK : Nat) (aZ : Nat) (cap : Nat) (z : Nat → Nat) (pn : Nat) (sl : Bool) (ch : Nat) (hpc : pn ≤ cap) (hcap : cap < 2 ^ 25) (hz : ∀ q, q < pn → z q < 65536) : ga_M l G yX0_allMetBy cX0_allMetBy 2 (Option.some Jvm.ClassFile.FieldType.boolean) 1 23 0 0 [.ref aK, .int (nI ch)] [(aK, .inr (0, [.ref aZ, .int (nI pn), .int (bI sl)])), (aZ, .inl (G.2.2, cap, .inl (aN z)))] (fun r w => r = some (.int (bI (decide (fnm z ch pn 0 = pn)))) ∧ w = [(aK, .inr (0, [.ref aZ, .int (nI pn), .int (bI sl)])), (aZ, .inl (G.2.2, cap, .inl (aN z)))]) := by
  refine ga_M.intro (by decide) (Nat.le_of_ble_eq_true rfl) (fun p_ e_ s_ m_ below meth c_ A_ H_ locs_ ls cx hr hlk hnm hA hK hl w => ?_)
  have hx := cx.1
  have hb := cx.2.1
  have hl : lv_has ls 2 [(0, .ref aK), (1, .int (nI ch))] := hl
  refine lv_aload_n hx hb dX0_allMetBy_0 rfl (lv_at hl 0 rfl) ?_
  refine lv_iload_n hx hb dX0_allMetBy_1 rfl (lv_at hl 1 rfl) ?_
  refine lv_iconst (v := nI 0) hx hb dX0_allMetBy_2 (by decide) ?_
  refine ga_callV (rest := []) (wr := []) cx hK hA w hl lk_X0_42 (c_X0_firstNotMetBy l G aK aZ cap z pn sl ch 0 (hpc) (hcap) (hz) (by omega)) ⟨Nat.le_of_ble_eq_true rfl, Nat.le_of_ble_eq_true rfl⟩ [0, 1] [] rfl rfl (by decide) (by decide) (by decide) 0 0 rfl rfl rfl rfl (Nat.le_of_ble_eq_true rfl) dX0_allMetBy_3 ⟨Nat.le_refl _, Nat.le_refl _⟩ rfl (fun r w1_ H_ locs_ hp w => ?_)
  obtain ⟨rfl, rfl⟩ := hp
  have w : ga_wd G A_ s_ H_ locs_ [(aK, .inr (0, [.ref aZ, .int (nI pn), .int (bI sl)])), (aZ, .inl (G.2.2, cap, .inl (aN z)))] := ga_perm w [0, 1] (by decide) rfl
  refine W.eq (g2 := F0 m_ 6 ls [.int (nI (fnm z ch pn 0))]) rfl ?_
  refine lv_aload_n hx hb dX0_allMetBy_6 rfl (lv_at hl 0 rfl) ?_
  refine gf_X0_19 cx hK w 0 rfl rfl dX0_allMetBy_7 ?_
  refine r_icmp_ne hx hb dX0_allMetBy_10 (tgt := 17) (by decide) (by have := (fnm_sp (z := z) (ch := ch) (Nat.zero_le pn)).2.1; omega) (by omega) (fun c10 => ?_) (fun c10 => ?_)
  · refine lv_iconst (v := nI 0) hx hb dX0_allMetBy_17 (by decide) ?_
    exact ga_zret cx hr hlk w rfl dX0_allMetBy_18 ⟨Nat.le_refl _, Nat.le_refl _⟩ (⟨ga_r0 (by simp [c10]), rfl⟩)
  · refine lv_iconst (v := nI 1) hx hb dX0_allMetBy_13 (by decide) ?_
    refine lv_goto (tgt := 18) hx hb dX0_allMetBy_14 (by decide) ?_
    exact ga_zret cx hr hlk w rfl dX0_allMetBy_18 ⟨Nat.le_refl _, Nat.le_refl _⟩ (⟨ga_r1 (by simp [c10]), rfl⟩)

set_option maxHeartbeats 4000000 in
set_option maxRecDepth 100000 in
theorem c_X0_gather (l : Launch) (G : ga_G) (aK : Nat) (aZ : Nat) (cap : Nat) (z : Nat → Nat) (pn : Nat) (sl : Bool) (aW : Nat) (aS : Nat) (aQ : Nat) (num : Nat) (tm : Bool) (ss : Nat → Nat) (ns : Nat → Nat) (slw : Bool) (ea : Bool) (fa : Nat) (hnum : num ≤ 200) (hcap : cap ≤ 80800) (hc1 : 1 ≤ cap) (hss : ∀ i, i < num → ss i < 65536) (hns : ∀ i, i < num → ns i < 65536) : ga_M l G yX0_gather cX0_gather 7 (Option.none : Option Jvm.ClassFile.FieldType) 3 104 (2 * (gth ss ns ea fa cap (prs num num (num + 1))).2 - 2 * cap) (2 * (gth ss ns ea fa cap (prs num num (num + 1))).2 - 2 * cap) [.ref aK, .ref aW, .int (bI ea), .int (nI fa)] [(aK, .inr (0, [.ref aZ, .int (nI pn), .int (bI sl)])), (aZ, .inl (G.2.2, cap, .inl (aN z))), (aW, .inr (3, [.ref aS, .ref aQ, .int (nI num), .int (bI tm), .int (bI slw)])), (aS, .inl (G.2.2, 200, .inl (aN ss))), (aQ, .inl (G.2.2, 200, .inl (aN ns)))] (fun r w => ∃ (aZ2 : Nat), ∃ (z2 : Nat → Nat), ∃ (pn2 : Nat), (lz z2 pn2 = (gth ss ns ea fa cap (prs num num (num + 1))).1) ∧ (pn2 ≤ (gth ss ns ea fa cap (prs num num (num + 1))).2) ∧ ((gth ss ns ea fa cap (prs num num (num + 1))).2 ≤ 80800) ∧ r = none ∧ w = [(aK, .inr (0, [.ref aZ2, .int (nI pn2), .int (bI false)])), (aZ2, .inl (G.2.2, (gth ss ns ea fa cap (prs num num (num + 1))).2, .inl (aN z2))), (aW, .inr (3, [.ref aS, .ref aQ, .int (nI num), .int (bI tm), .int (bI slw)])), (aS, .inl (G.2.2, 200, .inl (aN ss))), (aQ, .inl (G.2.2, 200, .inl (aN ns)))]) := by
  refine ga_M.intro (by decide) (Nat.le_of_ble_eq_true rfl) (fun p_ e_ s_ m_ below meth c_ A_ H_ locs_ ls cx hr hlk hnm hA hK hl w => ?_)
  have hx := cx.1
  have hb := cx.2.1
  have hl : lv_has ls 7 [(0, .ref aK), (1, .ref aW), (2, .int (bI ea)), (3, .int (nI fa))] := hl
  refine lv_aload_n hx hb dX0_gather_0 rfl (lv_at hl 0 rfl) ?_
  refine lv_iconst (v := nI 0) hx hb dX0_gather_1 (by decide) ?_
  refine pf_X0_19 cx hK w 0 rfl rfl rfl (Nat.le_of_ble_eq_true rfl) dX0_gather_2 (fun H_ locs_ w => ?_)
  have w : ga_wd G A_ s_ H_ locs_ [(aK, .inr (0, [.ref aZ, .int (nI 0), .int (bI sl)])), (aZ, .inl (G.2.2, cap, .inl (aN z))), (aW, .inr (3, [.ref aS, .ref aQ, .int (nI num), .int (bI tm), .int (bI slw)])), (aS, .inl (G.2.2, 200, .inl (aN ss))), (aQ, .inl (G.2.2, 200, .inl (aN ns)))] := w
  refine lv_aload_n hx hb dX0_gather_5 rfl (lv_at hl 0 rfl) ?_
  refine lv_iconst (v := nI 0) hx hb dX0_gather_6 (by decide) ?_
  refine pf_X0_15 cx hK w 0 rfl rfl rfl (Nat.le_of_ble_eq_true rfl) dX0_gather_7 (fun H_ locs_ w => ?_)
  have w : ga_wd G A_ s_ H_ locs_ [(aK, .inr (0, [.ref aZ, .int (nI 0), .int (nI 0)])), (aZ, .inl (G.2.2, cap, .inl (aN z))), (aW, .inr (3, [.ref aS, .ref aQ, .int (nI num), .int (bI tm), .int (bI slw)])), (aS, .inl (G.2.2, 200, .inl (aN ss))), (aQ, .inl (G.2.2, 200, .inl (aN ns)))] := w
  refine lv_iconst (v := nI 0) hx hb dX0_gather_10 (by decide) ?_
  refine lv_istore (lv' := [(4, .int (nI 0)), (0, .ref aK), (1, .ref aW), (2, .int (bI ea)), (3, .int (nI fa))]) hx hb dX0_gather_11 hl (by decide) rfl (fun ls hl => ?_)
  have loop13 : ∀ (n_ : Nat) (i : Nat) (az1 : Nat) (z1 : Nat → Nat) (pn1 : Nat) (cp1 : Nat) (hi : i ≤ num) (hg1 : gth ss ns ea fa cap (prs num i (i + 1)) = (lz z1 pn1, cp1)) (hp1 : pn1 ≤ cp1) (hcc : cp1 ≤ 80800) (hc0 : cap ≤ cp1) (hzm : ∀ y ∈ lz z1 pn1, y < 65536) (hm : num - i < n_) (H_ : Heap) (locs_ : List Loc) (ls : Array Slot) (hl : lv_has ls 7 [(4, .int (nI i)), (0, .ref aK), (1, .ref aW), (2, .int (bI ea)), (3, .int (nI fa))]) (w : ga_wd G A_ s_ H_ locs_ [(aK, .inr (0, [.ref az1, .int (nI pn1), .int (bI false)])), (az1, .inl (G.2.2, cp1, .inl (aN z1))), (aW, .inr (3, [.ref aS, .ref aQ, .int (nI num), .int (bI tm), .int (bI slw)])), (aS, .inl (G.2.2, 200, .inl (aN ss))), (aQ, .inl (G.2.2, 200, .inl (aN ns)))]), W p_ l e_ { frames := 3, cells := 2 * (gth ss ns ea fa cap (prs num num (num + 1))).2 - 2 * cap, slots := 2 * (gth ss ns ea fa cap (prs num num (num + 1))).2 - 2 * cap, locals := 104 } s_ m_ [.ref aK, .ref aW, .int (bI ea), .int (nI fa)].toArray below meth c_ H_ locs_ (2 * cp1 - 2 * cap) (2 * cp1 - 2 * cap) (MQ below (ga_Q G A_ (fun r w => ∃ (aZ2 : Nat), ∃ (z2 : Nat → Nat), ∃ (pn2 : Nat), (lz z2 pn2 = (gth ss ns ea fa cap (prs num num (num + 1))).1) ∧ (pn2 ≤ (gth ss ns ea fa cap (prs num num (num + 1))).2) ∧ ((gth ss ns ea fa cap (prs num num (num + 1))).2 ≤ 80800) ∧ r = none ∧ w = [(aK, .inr (0, [.ref aZ2, .int (nI pn2), .int (bI false)])), (aZ2, .inl (G.2.2, (gth ss ns ea fa cap (prs num num (num + 1))).2, .inl (aN z2))), (aW, .inr (3, [.ref aS, .ref aQ, .int (nI num), .int (bI tm), .int (bI slw)])), (aS, .inl (G.2.2, 200, .inl (aN ss))), (aQ, .inl (G.2.2, 200, .inl (aN ns)))])) [.ref aK, .ref aW, .int (bI ea), .int (nI fa)].toArray s_ (2 * (gth ss ns ea fa cap (prs num num (num + 1))).2 - 2 * cap) (2 * (gth ss ns ea fa cap (prs num num (num + 1))).2 - 2 * cap) A_) (F0 m_ 13 ls []) := by
    intro n_
    induction n_ with
    | zero => intro i az1 z1 pn1 cp1 hi hg1 hp1 hcc hc0 hzm hm; exact absurd hm (Nat.not_lt_zero _)
    | succ n_ ih13 =>
      intro i az1 z1 pn1 cp1 hi hg1 hp1 hcc hc0 hzm hm13 H_ locs_ ls hl w
      refine lv_iload hx hb dX0_gather_13 (lv_at hl 0 rfl) ?_
      refine lv_aload_n hx hb dX0_gather_15 rfl (lv_at hl 2 rfl) ?_
      refine gf_X0_23 cx hK w 2 rfl rfl dX0_gather_16 ?_
      refine r_icmp_ge hx hb dX0_gather_19 (tgt := 104) (by decide) (by omega) (by omega) (fun c19 => ?_) (fun c19 => ?_)
      · have hfin : gth ss ns ea fa cap (prs num num (num + 1)) = (lz z1 pn1, cp1) := by rw [show num = i by omega]; rw [show num = i by omega] at hg1; exact hg1
        exact ga_vret cx hr hlk w dX0_gather_104 ⟨by rw [hfin]; exact Nat.le_refl _, by rw [hfin]; exact Nat.le_refl _⟩ (⟨az1, z1, pn1, by rw [hfin], by rw [hfin]; exact hp1, by rw [hfin]; exact hcc, rfl, by rw [hfin]⟩)
      · refine lv_iload hx hb dX0_gather_22 (lv_at hl 0 rfl) ?_
        refine lv_iconst (v := nI 1) hx hb dX0_gather_24 (by decide) ?_
        refine r_iadd hx hb dX0_gather_25 ?_
        refine lv_istore (lv' := [(5, .int (nI (i + 1))), (4, .int (nI i)), (0, .ref aK), (1, .ref aW), (2, .int (bI ea)), (3, .int (nI fa))]) hx hb dX0_gather_26 hl (by decide) rfl (fun ls hl => ?_)
        have loop28 : ∀ (n_ : Nat) (j : Nat) (az3 : Nat) (z3 : Nat → Nat) (pn3 : Nat) (cp3 : Nat) (hij : i < j) (hj : j ≤ num) (hg3 : gth ss ns ea fa cap (prs num i j) = (lz z3 pn3, cp3)) (hp3 : pn3 ≤ cp3) (hcc3 : cp3 ≤ 80800) (hc03 : cap ≤ cp3) (hzm3 : ∀ y ∈ lz z3 pn3, y < 65536) (hm : num - j < n_) (H_ : Heap) (locs_ : List Loc) (ls : Array Slot) (hl : lv_has ls 7 [(5, .int (nI j)), (4, .int (nI i)), (0, .ref aK), (1, .ref aW), (2, .int (bI ea)), (3, .int (nI fa))]) (w : ga_wd G A_ s_ H_ locs_ [(aK, .inr (0, [.ref az3, .int (nI pn3), .int (bI false)])), (az3, .inl (G.2.2, cp3, .inl (aN z3))), (aW, .inr (3, [.ref aS, .ref aQ, .int (nI num), .int (bI tm), .int (bI slw)])), (aS, .inl (G.2.2, 200, .inl (aN ss))), (aQ, .inl (G.2.2, 200, .inl (aN ns)))]), W p_ l e_ { frames := 3, cells := 2 * (gth ss ns ea fa cap (prs num num (num + 1))).2 - 2 * cap, slots := 2 * (gth ss ns ea fa cap (prs num num (num + 1))).2 - 2 * cap, locals := 104 } s_ m_ [.ref aK, .ref aW, .int (bI ea), .int (nI fa)].toArray below meth c_ H_ locs_ (2 * cp3 - 2 * cap) (2 * cp3 - 2 * cap) (MQ below (ga_Q G A_ (fun r w => ∃ (aZ2 : Nat), ∃ (z2 : Nat → Nat), ∃ (pn2 : Nat), (lz z2 pn2 = (gth ss ns ea fa cap (prs num num (num + 1))).1) ∧ (pn2 ≤ (gth ss ns ea fa cap (prs num num (num + 1))).2) ∧ ((gth ss ns ea fa cap (prs num num (num + 1))).2 ≤ 80800) ∧ r = none ∧ w = [(aK, .inr (0, [.ref aZ2, .int (nI pn2), .int (bI false)])), (aZ2, .inl (G.2.2, (gth ss ns ea fa cap (prs num num (num + 1))).2, .inl (aN z2))), (aW, .inr (3, [.ref aS, .ref aQ, .int (nI num), .int (bI tm), .int (bI slw)])), (aS, .inl (G.2.2, 200, .inl (aN ss))), (aQ, .inl (G.2.2, 200, .inl (aN ns)))])) [.ref aK, .ref aW, .int (bI ea), .int (nI fa)].toArray s_ (2 * (gth ss ns ea fa cap (prs num num (num + 1))).2 - 2 * cap) (2 * (gth ss ns ea fa cap (prs num num (num + 1))).2 - 2 * cap) A_) (F0 m_ 28 ls []) := by
          intro n_
          induction n_ with
          | zero => intro j az3 z3 pn3 cp3 hij hj hg3 hp3 hcc3 hc03 hzm3 hm; exact absurd hm (Nat.not_lt_zero _)
          | succ n_ ih28 =>
            intro j az3 z3 pn3 cp3 hij hj hg3 hp3 hcc3 hc03 hzm3 hm28 H_ locs_ ls hl w
            refine lv_iload hx hb dX0_gather_28 (lv_at hl 0 rfl) ?_
            refine lv_aload_n hx hb dX0_gather_30 rfl (lv_at hl 3 rfl) ?_
            refine gf_X0_23 cx hK w 2 rfl rfl dX0_gather_31 ?_
            refine r_icmp_ge hx hb dX0_gather_34 (tgt := 98) (by decide) (by omega) (by omega) (fun c34 => ?_) (fun c34 => ?_)
            · refine r_iinc (d := 1) (k := 1) (lv' := [(4, .int (nI (i + 1))), (5, .int (nI j)), (0, .ref aK), (1, .ref aW), (2, .int (bI ea)), (3, .int (nI fa))]) hx hb dX0_gather_98 hl rfl (by decide) (by decide) rfl (fun ls hl => ?_)
              refine lv_goto (tgt := 13) hx hb dX0_gather_101 (by decide) ?_
              refine W.widen (k := 2 * cp3 - 2 * cap) (n := 2 * cp3 - 2 * cap) (by omega) (by omega) ?_
              exact ih13 (i + 1) az3 z3 pn3 cp3 (by omega) (by rw [prs_row, show num = j by omega]; rw [show num = j by omega] at hg3; exact hg3) (hp3) (hcc3) (hc03) (hzm3) (by omega) _ _ _ (lv_sub hl [0, 2, 3, 4, 5] rfl) w
            · refine lv_aload_n hx hb dX0_gather_37 rfl (lv_at hl 3 rfl) ?_
              refine gf_X0_26 cx hK w 2 rfl rfl dX0_gather_38 ?_
              refine lv_iload hx hb dX0_gather_41 (lv_at hl 1 rfl) ?_
              refine r_ialdN hx hb hK w 4 rfl dX0_gather_43 (by omega) (by decide) ?_
              refine lv_aload_n hx hb dX0_gather_44 rfl (lv_at hl 3 rfl) ?_
              refine gf_X0_26 cx hK w 2 rfl rfl dX0_gather_45 ?_
              refine lv_iload hx hb dX0_gather_48 (lv_at hl 0 rfl) ?_
              refine r_ialdN hx hb hK w 4 rfl dX0_gather_50 (by omega) (by decide) ?_
              refine r_ixor hx hb dX0_gather_51 ?_
              refine lv_iload_n hx hb dX0_gather_52 rfl (lv_at hl 5 rfl) ?_
              refine r_iand hx hb dX0_gather_53 ?_
              refine r_if_eq hx hb dX0_gather_54 (tgt := 61) (by decide) (andL_lt (by have := xor_lt 16 (hns i (by omega)) (hns j (by omega)); omega)) (fun c54 => ?_) (fun c54 => ?_)
              · refine lv_iconst (v := nI 0) hx hb dX0_gather_61 (by decide) ?_
                refine lv_istore (lv' := [(6, .int (nI 0)), (5, .int (nI j)), (4, .int (nI i)), (0, .ref aK), (1, .ref aW), (2, .int (bI ea)), (3, .int (nI fa))]) hx hb dX0_gather_62 hl (by decide) rfl (fun ls hl => ?_)
                refine lv_iload_n hx hb dX0_gather_64 rfl (lv_at hl 5 rfl) ?_
                refine r_ifb_ne hx hb dX0_gather_65 (tgt := 73) (by decide) (fun c65 => ?_) (fun c65 => ?_)
                · refine lv_aload_n hx hb dX0_gather_73 rfl (lv_at hl 3 rfl) ?_
                  refine lv_aload_n hx hb dX0_gather_74 rfl (lv_at hl 4 rfl) ?_
                  refine gf_X0_29 cx hK w 2 rfl rfl dX0_gather_75 ?_
                  refine lv_iload hx hb dX0_gather_78 (lv_at hl 2 rfl) ?_
                  refine r_ialdN hx hb hK w 3 rfl dX0_gather_80 (by omega) (by decide) ?_
                  refine lv_aload_n hx hb dX0_gather_81 rfl (lv_at hl 4 rfl) ?_
                  refine gf_X0_29 cx hK w 2 rfl rfl dX0_gather_82 ?_
                  refine lv_iload hx hb dX0_gather_85 (lv_at hl 1 rfl) ?_
                  refine r_ialdN hx hb hK w 3 rfl dX0_gather_87 (by omega) (by decide) ?_
                  refine r_ixor hx hb dX0_gather_88 ?_
                  have hst : gth ss ns ea fa cap (prs num i (j + 1)) = (addL (lz z3 pn3) ((ss i) ^^^ (ss j)), capL cp3 (lz z3 pn3) ((ss i) ^^^ (ss j))) := by rw [prs_s hij, gth_a, hg3, gst_t (by first | exact cnd_1 c65 | exact cnd_2 c54)]
                  have hle : capL cp3 (lz z3 pn3) ((ss i) ^^^ (ss j)) ≤ (gth ss ns ea fa cap (prs num num (num + 1))).2 := by
                    obtain ⟨r, hr9⟩ := prs_pre (num := num) (num - i) i (j + 1) (by omega) (by omega) (Or.inl (by omega))
                    have h9 := gth_pre (ss := ss) (ns := ns) (ea := ea) (fa := fa) (cap := cap) (prs num i (j + 1)) r
                    rw [← hr9, hst] at h9
                    exact h9
                  have hcg := capL_ge cp3 (lz z3 pn3) ((ss i) ^^^ (ss j))
                  have hln : pn3 ≤ i * num + j := by
                    have h9 := gth_len (ss := ss) (ns := ns) (ea := ea) (fa := fa) (cap := cap) (prs num i j)
                    rw [hg3, lz_len] at h9
                    exact Nat.le_trans h9 (prs_len (by omega) (by omega) hij)
                  have hin : i * num ≤ 200 * 200 := Nat.mul_le_mul (by omega) (by omega)
                  have hcm := capL_le cp3 (lz z3 pn3) ((ss i) ^^^ (ss j))
                  rw [lz_len] at hcm
                  have hxx : (ss i) ^^^ (ss j) < 65536 := xor_lt 16 (hss i (by omega)) (hss j (by omega))
                  refine ga_callV (rest := []) (wr := [(aW, .inr (3, [.ref aS, .ref aQ, .int (nI num), .int (bI tm), .int (bI slw)])), (aS, .inl (G.2.2, 200, .inl (aN ss))), (aQ, .inl (G.2.2, 200, .inl (aN ns)))]) cx hK hA w hl lk_X0_32 (c_X0_add l G aK az3 cp3 z3 pn3 false ((ss i) ^^^ (ss j)) (hp3) (by omega) (fun q hq => hzm3 _ (lz_mem.mpr ⟨q, hq, rfl⟩)) (hxx) (by omega)) ⟨Nat.le_of_ble_eq_true rfl, Nat.le_of_ble_eq_true rfl⟩ [0, 1] [2, 3, 4] rfl rfl (by decide) (by decide) (by decide) 0 0 rfl rfl rfl rfl (Nat.le_of_ble_eq_true rfl) dX0_gather_89 ⟨by show 2 * cp3 - 2 * cap + _ ≤ 2 * (gth ss ns ea fa cap (prs num num (num + 1))).2 - 2 * cap; omega, by show 2 * cp3 - 2 * cap + _ ≤ 2 * (gth ss ns ea fa cap (prs num num (num + 1))).2 - 2 * cap; omega⟩ rfl (fun r w1_ H_ locs_ hp w => ?_)
                  obtain ⟨az4, z4, pn4, h42, h43, rfl, rfl⟩ := hp
                  have w : ga_wd G A_ s_ H_ locs_ [(aK, .inr (0, [.ref az4, .int (nI pn4), .int (bI false)])), (aW, .inr (3, [.ref aS, .ref aQ, .int (nI num), .int (bI tm), .int (bI slw)])), (aS, .inl (G.2.2, 200, .inl (aN ss))), (aQ, .inl (G.2.2, 200, .inl (aN ns))), (az4, .inl (G.2.2, capL cp3 (lz z3 pn3) ((ss i) ^^^ (ss j)), .inl (aN z4)))] := ga_perm w [3, 0, 1, 2, 4] (by decide) rfl
                  refine W.eq (g2 := F0 m_ 92 ls []) rfl ?_
                  refine r_iinc (d := 1) (k := 1) (lv' := [(5, .int (nI (j + 1))), (6, .int (nI 0)), (4, .int (nI i)), (0, .ref aK), (1, .ref aW), (2, .int (bI ea)), (3, .int (nI fa))]) hx hb dX0_gather_92 hl rfl (by decide) (by decide) rfl (fun ls hl => ?_)
                  refine lv_goto (tgt := 28) hx hb dX0_gather_95 (by decide) ?_
                  refine W.widen (k := 2 * (capL cp3 (lz z3 pn3) ((ss i) ^^^ (ss j))) - 2 * cap) (n := 2 * (capL cp3 (lz z3 pn3) ((ss i) ^^^ (ss j))) - 2 * cap) (by omega) (by omega) ?_
                  exact ih28 (j + 1) az4 z4 pn4 (capL cp3 (lz z3 pn3) ((ss i) ^^^ (ss j))) (by omega) (by omega) (by rw [hst, h42]) (h43) (by omega) (by omega) (by rw [h42]; exact addL_lt hzm3 hxx) (by omega) _ _ _ (lv_sub hl [0, 2, 3, 4, 5, 6] rfl) (ga_perm w [0, 4, 1, 2, 3] (by decide) rfl)
                · refine lv_iload hx hb dX0_gather_68 (lv_at hl 0 rfl) ?_
                  refine r_if_eq hx hb dX0_gather_70 (tgt := 92) (by decide) (by decide) (fun c70 => ?_) (fun c70 => ?_)
                  · refine r_iinc (d := 1) (k := 1) (lv' := [(5, .int (nI (j + 1))), (6, .int (nI 0)), (4, .int (nI i)), (0, .ref aK), (1, .ref aW), (2, .int (bI ea)), (3, .int (nI fa))]) hx hb dX0_gather_92 hl rfl (by decide) (by decide) rfl (fun ls hl => ?_)
                    refine lv_goto (tgt := 28) hx hb dX0_gather_95 (by decide) ?_
                    refine W.widen (k := 2 * cp3 - 2 * cap) (n := 2 * cp3 - 2 * cap) (by omega) (by omega) ?_
                    exact ih28 (j + 1) az3 z3 pn3 cp3 (by omega) (by omega) (by rw [prs_s hij, gth_a, hg3, gst_f (cnd_0 c65 c54)]) (hp3) (hcc3) (hc03) (hzm3) (by omega) _ _ _ (lv_sub hl [0, 2, 3, 4, 5, 6] rfl) w
                  · exact absurd rfl c70
              · refine lv_iconst (v := nI 1) hx hb dX0_gather_57 (by decide) ?_
                refine lv_goto (tgt := 62) hx hb dX0_gather_58 (by decide) ?_
                refine lv_istore (lv' := [(6, .int (nI 1)), (5, .int (nI j)), (4, .int (nI i)), (0, .ref aK), (1, .ref aW), (2, .int (bI ea)), (3, .int (nI fa))]) hx hb dX0_gather_62 hl (by decide) rfl (fun ls hl => ?_)
                refine lv_iload_n hx hb dX0_gather_64 rfl (lv_at hl 5 rfl) ?_
                refine r_ifb_ne hx hb dX0_gather_65 (tgt := 73) (by decide) (fun c65 => ?_) (fun c65 => ?_)
                · refine lv_aload_n hx hb dX0_gather_73 rfl (lv_at hl 3 rfl) ?_
                  refine lv_aload_n hx hb dX0_gather_74 rfl (lv_at hl 4 rfl) ?_
                  refine gf_X0_29 cx hK w 2 rfl rfl dX0_gather_75 ?_
                  refine lv_iload hx hb dX0_gather_78 (lv_at hl 2 rfl) ?_
                  refine r_ialdN hx hb hK w 3 rfl dX0_gather_80 (by omega) (by decide) ?_
                  refine lv_aload_n hx hb dX0_gather_81 rfl (lv_at hl 4 rfl) ?_
                  refine gf_X0_29 cx hK w 2 rfl rfl dX0_gather_82 ?_
                  refine lv_iload hx hb dX0_gather_85 (lv_at hl 1 rfl) ?_
                  refine r_ialdN hx hb hK w 3 rfl dX0_gather_87 (by omega) (by decide) ?_
                  refine r_ixor hx hb dX0_gather_88 ?_
                  have hst : gth ss ns ea fa cap (prs num i (j + 1)) = (addL (lz z3 pn3) ((ss i) ^^^ (ss j)), capL cp3 (lz z3 pn3) ((ss i) ^^^ (ss j))) := by rw [prs_s hij, gth_a, hg3, gst_t (by first | exact cnd_1 c65 | exact cnd_2 c54)]
                  have hle : capL cp3 (lz z3 pn3) ((ss i) ^^^ (ss j)) ≤ (gth ss ns ea fa cap (prs num num (num + 1))).2 := by
                    obtain ⟨r, hr9⟩ := prs_pre (num := num) (num - i) i (j + 1) (by omega) (by omega) (Or.inl (by omega))
                    have h9 := gth_pre (ss := ss) (ns := ns) (ea := ea) (fa := fa) (cap := cap) (prs num i (j + 1)) r
                    rw [← hr9, hst] at h9
                    exact h9
                  have hcg := capL_ge cp3 (lz z3 pn3) ((ss i) ^^^ (ss j))
                  have hln : pn3 ≤ i * num + j := by
                    have h9 := gth_len (ss := ss) (ns := ns) (ea := ea) (fa := fa) (cap := cap) (prs num i j)
                    rw [hg3, lz_len] at h9
                    exact Nat.le_trans h9 (prs_len (by omega) (by omega) hij)
                  have hin : i * num ≤ 200 * 200 := Nat.mul_le_mul (by omega) (by omega)
                  have hcm := capL_le cp3 (lz z3 pn3) ((ss i) ^^^ (ss j))
                  rw [lz_len] at hcm
                  have hxx : (ss i) ^^^ (ss j) < 65536 := xor_lt 16 (hss i (by omega)) (hss j (by omega))
                  refine ga_callV (rest := []) (wr := [(aW, .inr (3, [.ref aS, .ref aQ, .int (nI num), .int (bI tm), .int (bI slw)])), (aS, .inl (G.2.2, 200, .inl (aN ss))), (aQ, .inl (G.2.2, 200, .inl (aN ns)))]) cx hK hA w hl lk_X0_32 (c_X0_add l G aK az3 cp3 z3 pn3 false ((ss i) ^^^ (ss j)) (hp3) (by omega) (fun q hq => hzm3 _ (lz_mem.mpr ⟨q, hq, rfl⟩)) (hxx) (by omega)) ⟨Nat.le_of_ble_eq_true rfl, Nat.le_of_ble_eq_true rfl⟩ [0, 1] [2, 3, 4] rfl rfl (by decide) (by decide) (by decide) 0 0 rfl rfl rfl rfl (Nat.le_of_ble_eq_true rfl) dX0_gather_89 ⟨by show 2 * cp3 - 2 * cap + _ ≤ 2 * (gth ss ns ea fa cap (prs num num (num + 1))).2 - 2 * cap; omega, by show 2 * cp3 - 2 * cap + _ ≤ 2 * (gth ss ns ea fa cap (prs num num (num + 1))).2 - 2 * cap; omega⟩ rfl (fun r w1_ H_ locs_ hp w => ?_)
                  obtain ⟨az4, z4, pn4, h42, h43, rfl, rfl⟩ := hp
                  have w : ga_wd G A_ s_ H_ locs_ [(aK, .inr (0, [.ref az4, .int (nI pn4), .int (bI false)])), (aW, .inr (3, [.ref aS, .ref aQ, .int (nI num), .int (bI tm), .int (bI slw)])), (aS, .inl (G.2.2, 200, .inl (aN ss))), (aQ, .inl (G.2.2, 200, .inl (aN ns))), (az4, .inl (G.2.2, capL cp3 (lz z3 pn3) ((ss i) ^^^ (ss j)), .inl (aN z4)))] := ga_perm w [3, 0, 1, 2, 4] (by decide) rfl
                  refine W.eq (g2 := F0 m_ 92 ls []) rfl ?_
                  refine r_iinc (d := 1) (k := 1) (lv' := [(5, .int (nI (j + 1))), (6, .int (nI 1)), (4, .int (nI i)), (0, .ref aK), (1, .ref aW), (2, .int (bI ea)), (3, .int (nI fa))]) hx hb dX0_gather_92 hl rfl (by decide) (by decide) rfl (fun ls hl => ?_)
                  refine lv_goto (tgt := 28) hx hb dX0_gather_95 (by decide) ?_
                  refine W.widen (k := 2 * (capL cp3 (lz z3 pn3) ((ss i) ^^^ (ss j))) - 2 * cap) (n := 2 * (capL cp3 (lz z3 pn3) ((ss i) ^^^ (ss j))) - 2 * cap) (by omega) (by omega) ?_
                  exact ih28 (j + 1) az4 z4 pn4 (capL cp3 (lz z3 pn3) ((ss i) ^^^ (ss j))) (by omega) (by omega) (by rw [hst, h42]) (h43) (by omega) (by omega) (by rw [h42]; exact addL_lt hzm3 hxx) (by omega) _ _ _ (lv_sub hl [0, 2, 3, 4, 5, 6] rfl) (ga_perm w [0, 4, 1, 2, 3] (by decide) rfl)
                · refine lv_iload hx hb dX0_gather_68 (lv_at hl 0 rfl) ?_
                  refine r_if_eq hx hb dX0_gather_70 (tgt := 92) (by decide) (by decide) (fun c70 => ?_) (fun c70 => ?_)
                  · exact absurd c70 (by decide)
                  · refine lv_aload_n hx hb dX0_gather_73 rfl (lv_at hl 3 rfl) ?_
                    refine lv_aload_n hx hb dX0_gather_74 rfl (lv_at hl 4 rfl) ?_
                    refine gf_X0_29 cx hK w 2 rfl rfl dX0_gather_75 ?_
                    refine lv_iload hx hb dX0_gather_78 (lv_at hl 2 rfl) ?_
                    refine r_ialdN hx hb hK w 3 rfl dX0_gather_80 (by omega) (by decide) ?_
                    refine lv_aload_n hx hb dX0_gather_81 rfl (lv_at hl 4 rfl) ?_
                    refine gf_X0_29 cx hK w 2 rfl rfl dX0_gather_82 ?_
                    refine lv_iload hx hb dX0_gather_85 (lv_at hl 1 rfl) ?_
                    refine r_ialdN hx hb hK w 3 rfl dX0_gather_87 (by omega) (by decide) ?_
                    refine r_ixor hx hb dX0_gather_88 ?_
                    have hst : gth ss ns ea fa cap (prs num i (j + 1)) = (addL (lz z3 pn3) ((ss i) ^^^ (ss j)), capL cp3 (lz z3 pn3) ((ss i) ^^^ (ss j))) := by rw [prs_s hij, gth_a, hg3, gst_t (by first | exact cnd_1 c65 | exact cnd_2 c54)]
                    have hle : capL cp3 (lz z3 pn3) ((ss i) ^^^ (ss j)) ≤ (gth ss ns ea fa cap (prs num num (num + 1))).2 := by
                      obtain ⟨r, hr9⟩ := prs_pre (num := num) (num - i) i (j + 1) (by omega) (by omega) (Or.inl (by omega))
                      have h9 := gth_pre (ss := ss) (ns := ns) (ea := ea) (fa := fa) (cap := cap) (prs num i (j + 1)) r
                      rw [← hr9, hst] at h9
                      exact h9
                    have hcg := capL_ge cp3 (lz z3 pn3) ((ss i) ^^^ (ss j))
                    have hln : pn3 ≤ i * num + j := by
                      have h9 := gth_len (ss := ss) (ns := ns) (ea := ea) (fa := fa) (cap := cap) (prs num i j)
                      rw [hg3, lz_len] at h9
                      exact Nat.le_trans h9 (prs_len (by omega) (by omega) hij)
                    have hin : i * num ≤ 200 * 200 := Nat.mul_le_mul (by omega) (by omega)
                    have hcm := capL_le cp3 (lz z3 pn3) ((ss i) ^^^ (ss j))
                    rw [lz_len] at hcm
                    have hxx : (ss i) ^^^ (ss j) < 65536 := xor_lt 16 (hss i (by omega)) (hss j (by omega))
                    refine ga_callV (rest := []) (wr := [(aW, .inr (3, [.ref aS, .ref aQ, .int (nI num), .int (bI tm), .int (bI slw)])), (aS, .inl (G.2.2, 200, .inl (aN ss))), (aQ, .inl (G.2.2, 200, .inl (aN ns)))]) cx hK hA w hl lk_X0_32 (c_X0_add l G aK az3 cp3 z3 pn3 false ((ss i) ^^^ (ss j)) (hp3) (by omega) (fun q hq => hzm3 _ (lz_mem.mpr ⟨q, hq, rfl⟩)) (hxx) (by omega)) ⟨Nat.le_of_ble_eq_true rfl, Nat.le_of_ble_eq_true rfl⟩ [0, 1] [2, 3, 4] rfl rfl (by decide) (by decide) (by decide) 0 0 rfl rfl rfl rfl (Nat.le_of_ble_eq_true rfl) dX0_gather_89 ⟨by show 2 * cp3 - 2 * cap + _ ≤ 2 * (gth ss ns ea fa cap (prs num num (num + 1))).2 - 2 * cap; omega, by show 2 * cp3 - 2 * cap + _ ≤ 2 * (gth ss ns ea fa cap (prs num num (num + 1))).2 - 2 * cap; omega⟩ rfl (fun r w1_ H_ locs_ hp w => ?_)
                    obtain ⟨az4, z4, pn4, h42, h43, rfl, rfl⟩ := hp
                    have w : ga_wd G A_ s_ H_ locs_ [(aK, .inr (0, [.ref az4, .int (nI pn4), .int (bI false)])), (aW, .inr (3, [.ref aS, .ref aQ, .int (nI num), .int (bI tm), .int (bI slw)])), (aS, .inl (G.2.2, 200, .inl (aN ss))), (aQ, .inl (G.2.2, 200, .inl (aN ns))), (az4, .inl (G.2.2, capL cp3 (lz z3 pn3) ((ss i) ^^^ (ss j)), .inl (aN z4)))] := ga_perm w [3, 0, 1, 2, 4] (by decide) rfl
                    refine W.eq (g2 := F0 m_ 92 ls []) rfl ?_
                    refine r_iinc (d := 1) (k := 1) (lv' := [(5, .int (nI (j + 1))), (6, .int (nI 1)), (4, .int (nI i)), (0, .ref aK), (1, .ref aW), (2, .int (bI ea)), (3, .int (nI fa))]) hx hb dX0_gather_92 hl rfl (by decide) (by decide) rfl (fun ls hl => ?_)
                    refine lv_goto (tgt := 28) hx hb dX0_gather_95 (by decide) ?_
                    refine W.widen (k := 2 * (capL cp3 (lz z3 pn3) ((ss i) ^^^ (ss j))) - 2 * cap) (n := 2 * (capL cp3 (lz z3 pn3) ((ss i) ^^^ (ss j))) - 2 * cap) (by omega) (by omega) ?_
                    exact ih28 (j + 1) az4 z4 pn4 (capL cp3 (lz z3 pn3) ((ss i) ^^^ (ss j))) (by omega) (by omega) (by rw [hst, h42]) (h43) (by omega) (by omega) (by rw [h42]; exact addL_lt hzm3 hxx) (by omega) _ _ _ (lv_sub hl [0, 2, 3, 4, 5, 6] rfl) (ga_perm w [0, 4, 1, 2, 3] (by decide) rfl)
        refine W.widen (k := 2 * cp1 - 2 * cap) (n := 2 * cp1 - 2 * cap) (by omega) (by omega) ?_
        exact loop28 _ (i + 1) az1 z1 pn1 cp1 (by omega) (by omega) (hg1) (hp1) (hcc) (hc0) (hzm) (Nat.lt_succ_self _) _ _ _ (lv_sub hl [0, 1, 2, 3, 4, 5] rfl) w
  refine W.widen (k := 2 * cap - 2 * cap) (n := 2 * cap - 2 * cap) (by omega) (by omega) ?_
  exact loop13 _ 0 aZ z 0 cap (by omega) (rfl) (by omega) (hcap) (Nat.le_refl _) (fun y h => absurd h List.not_mem_nil) (Nat.lt_succ_self _) _ _ _ (lv_sub hl [0, 1, 2, 3, 4] rfl) w
