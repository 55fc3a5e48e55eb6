set_option maxHeartbeats 4000000 in
set_option maxRecDepth 100000 in
theorem c_X3_soleParters (l : Launch) (G : ga_G) (aW : Nat) (aS : Nat) (aQ : Nat) (num : Nat) (tm : Bool) (sl : Bool) (ss : Nat → Nat) (ns : Nat → Nat) (li : Nat) (hnum : num ≤ 200) (hli : li < 65536) (hss : ∀ j, j < num → ss j < 65536) : ga_M l G yX3_soleParters cX3_soleParters 6 (Option.some Jvm.ClassFile.FieldType.int) 1 20 0 0 [.ref aW, .int (nI li)] [(aW, .inr (3, [.ref aS, .ref aQ, .int (nI num), .int (bI tm), .int (bI sl)])), (aS, .inl (G.2.2, 200, .inl (aN ss))), (aQ, .inl (G.2.2, 200, .inl (aN ns)))] (fun r w => ∃ (rr : Nat), (SPx ss li num rr) ∧ r = some (.int (nI rr)) ∧ w = [(aW, .inr (3, [.ref aS, .ref aQ, .int (nI num), .int (bI tm), .int (bI sl)])), (aS, .inl (G.2.2, 200, .inl (aN ss))), (aQ, .inl (G.2.2, 200, .inl (aN ns)))]) := by
  refine ga_M.intro (by decide) (Nat.le_of_ble_eq_true rfl) (fun p_ e_ s_ m_ below meth c_ A_ H_ locs_ ls cx hr hlk hnm hA hK hl w => ?_)
  have hx := cx.1
  have hb := cx.2.1
  have hl : lv_has ls 6 [(0, .ref aW), (1, .int (nI li))] := hl
  refine lv_iconst (v := nI 0) hx hb dX3_soleParters_0 (by decide) ?_
  refine lv_istore_n (lv' := [(2, .int (nI 0)), (0, .ref aW), (1, .int (nI li))]) hx hb dX3_soleParters_1 rfl hl (by decide) rfl (fun ls hl => ?_)
  refine lv_iconst (v := nI 0) hx hb dX3_soleParters_2 (by decide) ?_
  refine lv_istore_n (lv' := [(3, .int (nI 0)), (2, .int (nI 0)), (0, .ref aW), (1, .int (nI li))]) hx hb dX3_soleParters_3 rfl hl (by decide) rfl (fun ls hl => ?_)
  have loop4 : ∀ (n_ : Nat) (i : Nat) (r2 : Nat) (hil : i ≤ num) (hsp : SPs ss li num r2) (hsc : SPc ss li num r2 i (i + 1)) (hm : num - i < n_) (H_ : Heap) (locs_ : List Loc) (ls : Array Slot) (hl : lv_has ls 6 [(3, .int (nI i)), (2, .int (nI r2)), (0, .ref aW), (1, .int (nI li))]) (w : ga_wd G A_ s_ H_ locs_ [(aW, .inr (3, [.ref aS, .ref aQ, .int (nI num), .int (bI tm), .int (bI sl)])), (aS, .inl (G.2.2, 200, .inl (aN ss))), (aQ, .inl (G.2.2, 200, .inl (aN ns)))]), W p_ l e_ { frames := 1, cells := 0, slots := 0, locals := 20 } s_ m_ [.ref aW, .int (nI li)].toArray below meth c_ H_ locs_ (0) (0) (MQ below (ga_Q G A_ (fun r w => ∃ (rr : Nat), (SPx ss li num rr) ∧ r = some (.int (nI rr)) ∧ w = [(aW, .inr (3, [.ref aS, .ref aQ, .int (nI num), .int (bI tm), .int (bI sl)])), (aS, .inl (G.2.2, 200, .inl (aN ss))), (aQ, .inl (G.2.2, 200, .inl (aN ns)))])) [.ref aW, .int (nI li)].toArray s_ 0 0 A_) (F0 m_ 4 ls []) := by
    intro n_
    induction n_ with
    | zero => intro i r2 hil hsp hsc hm; exact absurd hm (Nat.not_lt_zero _)
    | succ n_ ih4 =>
      intro i r2 hil hsp hsc hm4 H_ locs_ ls hl w
      refine lv_iload_n hx hb dX3_soleParters_4 rfl (lv_at hl 0 rfl) ?_
      refine lv_aload_n hx hb dX3_soleParters_5 rfl (lv_at hl 2 rfl) ?_
      refine gf_X3_22 cx hK w 0 rfl rfl dX3_soleParters_6 ?_
      refine r_icmp_ge hx hb dX3_soleParters_9 (tgt := 75) (by decide) (by omega) (by omega) (fun c9 => ?_) (fun c9 => ?_)
      · refine lv_iload_n hx hb dX3_soleParters_75 rfl (lv_at hl 1 rfl) ?_
        exact ga_iret cx hr hlk w dX3_soleParters_76 ⟨Nat.le_refl _, Nat.le_refl _⟩ (⟨r2, SPx_end hsp hsc (by omega), rfl, rfl⟩)
      · refine lv_iload_n hx hb dX3_soleParters_12 rfl (lv_at hl 1 rfl) ?_
        refine lv_iload_n hx hb dX3_soleParters_13 rfl (lv_at hl 3 rfl) ?_
        refine r_icmp_eq hx hb dX3_soleParters_14 (tgt := 75) (by decide) (by have := hsp.1; omega) (by omega) (fun c14 => ?_) (fun c14 => ?_)
        · refine lv_iload_n hx hb dX3_soleParters_75 rfl (lv_at hl 1 rfl) ?_
          exact ga_iret cx hr hlk w dX3_soleParters_76 ⟨Nat.le_refl _, Nat.le_refl _⟩ (⟨r2, SPx_all hsp c14, rfl, rfl⟩)
        · refine lv_iload_n hx hb dX3_soleParters_17 rfl (lv_at hl 0 rfl) ?_
          refine lv_iconst (v := nI 1) hx hb dX3_soleParters_18 (by decide) ?_
          refine r_iadd hx hb dX3_soleParters_19 ?_
          refine lv_istore (lv' := [(4, .int (nI (i + 1))), (3, .int (nI i)), (2, .int (nI r2)), (0, .ref aW), (1, .int (nI li))]) hx hb dX3_soleParters_20 hl (by decide) rfl (fun ls hl => ?_)
          have loop22 : ∀ (n_ : Nat) (j : Nat) (r3 : Nat) (hij : i < j) (hjl : j ≤ num) (hsp2 : SPs ss li num r3) (hsc2 : SPc ss li num r3 i j) (hm : num - j < n_) (H_ : Heap) (locs_ : List Loc) (ls : Array Slot) (hl : lv_has ls 6 [(4, .int (nI j)), (3, .int (nI i)), (2, .int (nI r3)), (0, .ref aW), (1, .int (nI li))]) (w : ga_wd G A_ s_ H_ locs_ [(aW, .inr (3, [.ref aS, .ref aQ, .int (nI num), .int (bI tm), .int (bI sl)])), (aS, .inl (G.2.2, 200, .inl (aN ss))), (aQ, .inl (G.2.2, 200, .inl (aN ns)))]), W p_ l e_ { frames := 1, cells := 0, slots := 0, locals := 20 } s_ m_ [.ref aW, .int (nI li)].toArray below meth c_ H_ locs_ (0) (0) (MQ below (ga_Q G A_ (fun r w => ∃ (rr : Nat), (SPx ss li num rr) ∧ r = some (.int (nI rr)) ∧ w = [(aW, .inr (3, [.ref aS, .ref aQ, .int (nI num), .int (bI tm), .int (bI sl)])), (aS, .inl (G.2.2, 200, .inl (aN ss))), (aQ, .inl (G.2.2, 200, .inl (aN ns)))])) [.ref aW, .int (nI li)].toArray s_ 0 0 A_) (F0 m_ 22 ls []) := by
            intro n_
            induction n_ with
            | zero => intro j r3 hij hjl hsp2 hsc2 hm; exact absurd hm (Nat.not_lt_zero _)
            | succ n_ ih22 =>
              intro j r3 hij hjl hsp2 hsc2 hm22 H_ locs_ ls hl w
              refine lv_iload hx hb dX3_soleParters_22 (lv_at hl 0 rfl) ?_
              refine lv_aload_n hx hb dX3_soleParters_24 rfl (lv_at hl 3 rfl) ?_
              refine gf_X3_22 cx hK w 0 rfl rfl dX3_soleParters_25 ?_
              refine r_icmp_ge hx hb dX3_soleParters_28 (tgt := 69) (by decide) (by omega) (by omega) (fun c28 => ?_) (fun c28 => ?_)
              · refine r_iinc (d := 1) (k := 1) (lv' := [(3, .int (nI (i + 1))), (4, .int (nI j)), (2, .int (nI r3)), (0, .ref aW), (1, .int (nI li))]) hx hb dX3_soleParters_69 hl rfl (by decide) (by decide) rfl (fun ls hl => ?_)
                refine lv_goto (tgt := 4) hx hb dX3_soleParters_72 (by decide) ?_
                exact ih4 (i + 1) r3 (by omega) (hsp2) (SPc_row hsc2 (by omega)) (by omega) _ _ _ (lv_sub hl [0, 2, 3, 4] rfl) w
              · refine lv_aload_n hx hb dX3_soleParters_31 rfl (lv_at hl 3 rfl) ?_
                refine gf_X3_9 cx hK w 0 rfl rfl dX3_soleParters_32 ?_
                refine lv_iload_n hx hb dX3_soleParters_35 rfl (lv_at hl 1 rfl) ?_
                refine r_ialdN hx hb hK w 1 rfl dX3_soleParters_36 (by omega) (by decide) ?_
                refine lv_aload_n hx hb dX3_soleParters_37 rfl (lv_at hl 3 rfl) ?_
                refine gf_X3_9 cx hK w 0 rfl rfl dX3_soleParters_38 ?_
                refine lv_iload hx hb dX3_soleParters_41 (lv_at hl 0 rfl) ?_
                refine r_ialdN hx hb hK w 1 rfl dX3_soleParters_43 (by omega) (by decide) ?_
                refine r_ixor hx hb dX3_soleParters_44 ?_
                refine lv_iload_n hx hb dX3_soleParters_45 rfl (lv_at hl 4 rfl) ?_
                refine r_iand hx hb dX3_soleParters_46 ?_
                refine lv_istore (lv' := [(5, .int (nI (((ss i) ^^^ (ss j)) &&& li))), (4, .int (nI j)), (3, .int (nI i)), (2, .int (nI r3)), (0, .ref aW), (1, .int (nI li))]) hx hb dX3_soleParters_47 hl (by decide) rfl (fun ls hl => ?_)
                refine lv_iload hx hb dX3_soleParters_49 (lv_at hl 0 rfl) ?_
                refine ga_callS (rest := []) (wr := [(aW, .inr (3, [.ref aS, .ref aQ, .int (nI num), .int (bI tm), .int (bI sl)])), (aS, .inl (G.2.2, 200, .inl (aN ss))), (aQ, .inl (G.2.2, 200, .inl (aN ns)))]) cx hK hA w hl lk_X3_55 (c_J6_bitCount_0f7a4 l G (((ss i) ^^^ (ss j)) &&& li) (andL_lt (xor_lt 16 (hss i (by omega)) (hss j (by omega))))) ⟨Nat.le_of_ble_eq_true rfl, Nat.le_of_ble_eq_true rfl⟩ [] [0, 1, 2] rfl rfl (by decide) (by decide) (by decide) rfl (Nat.le_of_ble_eq_true rfl) dX3_soleParters_51 ⟨Nat.le_refl _, Nat.le_refl _⟩ rfl (fun r w1_ H_ locs_ hp w => ?_)
                obtain ⟨rfl, rfl⟩ := hp
                have w : ga_wd G A_ s_ H_ locs_ [(aW, .inr (3, [.ref aS, .ref aQ, .int (nI num), .int (bI tm), .int (bI sl)])), (aS, .inl (G.2.2, 200, .inl (aN ss))), (aQ, .inl (G.2.2, 200, .inl (aN ns)))] := ga_perm w [0, 1, 2] (by decide) rfl
                refine W.eq (g2 := F0 m_ 54 ls [.int (nI (pop (((ss i) ^^^ (ss j)) &&& li)))]) rfl ?_
                refine lv_iconst (v := nI 1) hx hb dX3_soleParters_54 (by decide) ?_
                refine r_icmp_ne hx hb dX3_soleParters_55 (tgt := 63) (by decide) (by have := fl_le (Nat.testBit (((ss i) ^^^ (ss j)) &&& li)) 16; unfold pop; omega) (by decide) (fun c55 => ?_) (fun c55 => ?_)
                · refine r_iinc (d := 1) (k := 1) (lv' := [(4, .int (nI (j + 1))), (5, .int (nI (((ss i) ^^^ (ss j)) &&& li))), (3, .int (nI i)), (2, .int (nI r3)), (0, .ref aW), (1, .int (nI li))]) hx hb dX3_soleParters_63 hl rfl (by decide) (by decide) rfl (fun ls hl => ?_)
                  refine lv_goto (tgt := 22) hx hb dX3_soleParters_66 (by decide) ?_
                  exact ih22 (j + 1) r3 (by omega) (by omega) (hsp2) (SPc_no hsc2 (andL_lt (xor_lt 16 (hss i (by omega)) (hss j (by omega)))) c55) (by omega) _ _ _ (lv_sub hl [0, 2, 3, 4, 5] rfl) w
                · refine lv_iload_n hx hb dX3_soleParters_58 rfl (lv_at hl 3 rfl) ?_
                  refine lv_iload hx hb dX3_soleParters_59 (lv_at hl 0 rfl) ?_
                  refine r_ior hx hb dX3_soleParters_61 ?_
                  refine lv_istore_n (lv' := [(2, .int (nI (r3 ||| (((ss i) ^^^ (ss j)) &&& li)))), (5, .int (nI (((ss i) ^^^ (ss j)) &&& li))), (4, .int (nI j)), (3, .int (nI i)), (0, .ref aW), (1, .int (nI li))]) hx hb dX3_soleParters_62 rfl hl (by decide) rfl (fun ls hl => ?_)
                  refine r_iinc (d := 1) (k := 2) (lv' := [(4, .int (nI (j + 1))), (2, .int (nI (r3 ||| (((ss i) ^^^ (ss j)) &&& li)))), (5, .int (nI (((ss i) ^^^ (ss j)) &&& li))), (3, .int (nI i)), (0, .ref aW), (1, .int (nI li))]) hx hb dX3_soleParters_63 hl rfl (by decide) (by decide) rfl (fun ls hl => ?_)
                  refine lv_goto (tgt := 22) hx hb dX3_soleParters_66 (by decide) ?_
                  exact ih22 (j + 1) (r3 ||| (((ss i) ^^^ (ss j)) &&& li)) (by omega) (by omega) (SPs_yes hsp2 hij (by omega) (andL_lt (xor_lt 16 (hss i (by omega)) (hss j (by omega)))) c55) (SPc_yes hsc2) (by omega) _ _ _ (lv_sub hl [0, 3, 1, 4, 5] rfl) w
          exact loop22 _ (i + 1) r2 (by omega) (by omega) (hsp) (hsc) (Nat.lt_succ_self _) _ _ _ (lv_sub hl [0, 1, 2, 3, 4] rfl) w
  exact loop4 _ 0 0 (by omega) (SPs_0 _ _ _) (SPc_0 _ _ _) (Nat.lt_succ_self _) _ _ _ (lv_sub hl [0, 1, 2, 3] rfl) w

set_option maxHeartbeats 4000000 in
set_option maxRecDepth 100000 in
theorem c_X3_firstPairPartedBy (l : Launch) (G : ga_G) (aW : Nat) (aS : Nat) (aQ : Nat) (num : Nat) (tm : Bool) (sl : Bool) (ss : Nat → Nat) (ns : Nat → Nat) (ln : Nat) (li : Nat) (hnum : num ≤ 200) (hln : ln < 65536) (hss : ∀ j, j < num → ss j < 65536) : ga_M l G yX3_firstPairPartedBy cX3_firstPairPartedBy 5 (Option.some Jvm.ClassFile.FieldType.int) 0 0 0 0 [.ref aW, .int (nI ln), .int (nI li)] [(aW, .inr (3, [.ref aS, .ref aQ, .int (nI num), .int (bI tm), .int (bI sl)])), (aS, .inl (G.2.2, 200, .inl (aN ss))), (aQ, .inl (G.2.2, 200, .inl (aN ns)))] (fun r w => ∃ (fb : Bool), ∃ (fi : Nat), ∃ (fj : Nat), (FPP ss li ln num fb fi fj) ∧ r = some (.int (if fb then nI (fi * 200 + fj) else -1)) ∧ w = [(aW, .inr (3, [.ref aS, .ref aQ, .int (nI num), .int (bI tm), .int (bI sl)])), (aS, .inl (G.2.2, 200, .inl (aN ss))), (aQ, .inl (G.2.2, 200, .inl (aN ns)))]) := by
  refine ga_M.intro (by decide) (Nat.le_of_ble_eq_true rfl) (fun p_ e_ s_ m_ below meth c_ A_ H_ locs_ ls cx hr hlk hnm hA hK hl w => ?_)
  have hx := cx.1
  have hb := cx.2.1
  have hl : lv_has ls 5 [(0, .ref aW), (1, .int (nI ln)), (2, .int (nI li))] := hl
  refine lv_iconst (v := nI 0) hx hb dX3_firstPairPartedBy_0 (by decide) ?_
  refine lv_istore_n (lv' := [(3, .int (nI 0)), (0, .ref aW), (1, .int (nI ln)), (2, .int (nI li))]) hx hb dX3_firstPairPartedBy_1 rfl hl (by decide) rfl (fun ls hl => ?_)
  have loop2 : ∀ (n_ : Nat) (i : Nat) (hil : i ≤ num) (hsc : fpN ss li ln num i (i + 1)) (hm : num - i < n_) (H_ : Heap) (locs_ : List Loc) (ls : Array Slot) (hl : lv_has ls 5 [(3, .int (nI i)), (0, .ref aW), (1, .int (nI ln)), (2, .int (nI li))]) (w : ga_wd G A_ s_ H_ locs_ [(aW, .inr (3, [.ref aS, .ref aQ, .int (nI num), .int (bI tm), .int (bI sl)])), (aS, .inl (G.2.2, 200, .inl (aN ss))), (aQ, .inl (G.2.2, 200, .inl (aN ns)))]), W p_ l e_ { frames := 0, cells := 0, slots := 0, locals := 0 } s_ m_ [.ref aW, .int (nI ln), .int (nI li)].toArray below meth c_ H_ locs_ (0) (0) (MQ below (ga_Q G A_ (fun r w => ∃ (fb : Bool), ∃ (fi : Nat), ∃ (fj : Nat), (FPP ss li ln num fb fi fj) ∧ r = some (.int (if fb then nI (fi * 200 + fj) else -1)) ∧ w = [(aW, .inr (3, [.ref aS, .ref aQ, .int (nI num), .int (bI tm), .int (bI sl)])), (aS, .inl (G.2.2, 200, .inl (aN ss))), (aQ, .inl (G.2.2, 200, .inl (aN ns)))])) [.ref aW, .int (nI ln), .int (nI li)].toArray s_ 0 0 A_) (F0 m_ 2 ls []) := by
    intro n_
    induction n_ with
    | zero => intro i hil hsc hm; exact absurd hm (Nat.not_lt_zero _)
    | succ n_ ih2 =>
      intro i hil hsc hm2 H_ locs_ ls hl w
      refine lv_iload_n hx hb dX3_firstPairPartedBy_2 rfl (lv_at hl 0 rfl) ?_
      refine lv_aload_n hx hb dX3_firstPairPartedBy_3 rfl (lv_at hl 1 rfl) ?_
      refine gf_X3_22 cx hK w 0 rfl rfl dX3_firstPairPartedBy_4 ?_
      refine r_icmp_ge hx hb dX3_firstPairPartedBy_7 (tgt := 65) (by decide) (by omega) (by omega) (fun c7 => ?_) (fun c7 => ?_)
      · refine lv_iconst (v := (-1)) hx hb dX3_firstPairPartedBy_65 (by decide) ?_
        exact ga_iret cx hr hlk w dX3_firstPairPartedBy_66 ⟨Nat.le_refl _, Nat.le_refl _⟩ (⟨false, 0, 0, (fun a b h1 h2 => hsc a b h1 h2 (by omega)), rfl, rfl⟩)
      · refine lv_iload_n hx hb dX3_firstPairPartedBy_10 rfl (lv_at hl 0 rfl) ?_
        refine lv_iconst (v := nI 1) hx hb dX3_firstPairPartedBy_11 (by decide) ?_
        refine r_iadd hx hb dX3_firstPairPartedBy_12 ?_
        refine lv_istore (lv' := [(4, .int (nI (i + 1))), (3, .int (nI i)), (0, .ref aW), (1, .int (nI ln)), (2, .int (nI li))]) hx hb dX3_firstPairPartedBy_13 hl (by decide) rfl (fun ls hl => ?_)
        have loop15 : ∀ (n_ : Nat) (j : Nat) (hij : i < j) (hjl : j ≤ num) (hsc2 : fpN ss li ln num i j) (hm : num - j < n_) (H_ : Heap) (locs_ : List Loc) (ls : Array Slot) (hl : lv_has ls 5 [(4, .int (nI j)), (3, .int (nI i)), (0, .ref aW), (1, .int (nI ln)), (2, .int (nI li))]) (w : ga_wd G A_ s_ H_ locs_ [(aW, .inr (3, [.ref aS, .ref aQ, .int (nI num), .int (bI tm), .int (bI sl)])), (aS, .inl (G.2.2, 200, .inl (aN ss))), (aQ, .inl (G.2.2, 200, .inl (aN ns)))]), W p_ l e_ { frames := 0, cells := 0, slots := 0, locals := 0 } s_ m_ [.ref aW, .int (nI ln), .int (nI li)].toArray below meth c_ H_ locs_ (0) (0) (MQ below (ga_Q G A_ (fun r w => ∃ (fb : Bool), ∃ (fi : Nat), ∃ (fj : Nat), (FPP ss li ln num fb fi fj) ∧ r = some (.int (if fb then nI (fi * 200 + fj) else -1)) ∧ w = [(aW, .inr (3, [.ref aS, .ref aQ, .int (nI num), .int (bI tm), .int (bI sl)])), (aS, .inl (G.2.2, 200, .inl (aN ss))), (aQ, .inl (G.2.2, 200, .inl (aN ns)))])) [.ref aW, .int (nI ln), .int (nI li)].toArray s_ 0 0 A_) (F0 m_ 15 ls []) := by
          intro n_
          induction n_ with
          | zero => intro j hij hjl hsc2 hm; exact absurd hm (Nat.not_lt_zero _)
          | succ n_ ih15 =>
            intro j hij hjl hsc2 hm15 H_ locs_ ls hl w
            refine lv_iload hx hb dX3_firstPairPartedBy_15 (lv_at hl 0 rfl) ?_
            refine lv_aload_n hx hb dX3_firstPairPartedBy_17 rfl (lv_at hl 2 rfl) ?_
            refine gf_X3_22 cx hK w 0 rfl rfl dX3_firstPairPartedBy_18 ?_
            refine r_icmp_ge hx hb dX3_firstPairPartedBy_21 (tgt := 59) (by decide) (by omega) (by omega) (fun c21 => ?_) (fun c21 => ?_)
            · refine r_iinc (d := 1) (k := 1) (lv' := [(3, .int (nI (i + 1))), (4, .int (nI j)), (0, .ref aW), (1, .int (nI ln)), (2, .int (nI li))]) hx hb dX3_firstPairPartedBy_59 hl rfl (by decide) (by decide) rfl (fun ls hl => ?_)
              refine lv_goto (tgt := 2) hx hb dX3_firstPairPartedBy_62 (by decide) ?_
              exact ih2 (i + 1) (by omega) (fpN_row hsc2 (by omega)) (by omega) _ _ _ (lv_sub hl [0, 2, 3, 4] rfl) w
            · refine lv_aload_n hx hb dX3_firstPairPartedBy_24 rfl (lv_at hl 2 rfl) ?_
              refine gf_X3_9 cx hK w 0 rfl rfl dX3_firstPairPartedBy_25 ?_
              refine lv_iload_n hx hb dX3_firstPairPartedBy_28 rfl (lv_at hl 1 rfl) ?_
              refine r_ialdN hx hb hK w 1 rfl dX3_firstPairPartedBy_29 (by omega) (by decide) ?_
              refine lv_aload_n hx hb dX3_firstPairPartedBy_30 rfl (lv_at hl 2 rfl) ?_
              refine gf_X3_9 cx hK w 0 rfl rfl dX3_firstPairPartedBy_31 ?_
              refine lv_iload hx hb dX3_firstPairPartedBy_34 (lv_at hl 0 rfl) ?_
              refine r_ialdN hx hb hK w 1 rfl dX3_firstPairPartedBy_36 (by omega) (by decide) ?_
              refine r_ixor hx hb dX3_firstPairPartedBy_37 ?_
              refine lv_iload_n hx hb dX3_firstPairPartedBy_38 rfl (lv_at hl 4 rfl) ?_
              refine r_iand hx hb dX3_firstPairPartedBy_39 ?_
              refine lv_iload_n hx hb dX3_firstPairPartedBy_40 rfl (lv_at hl 3 rfl) ?_
              refine r_icmp_ne hx hb dX3_firstPairPartedBy_41 (tgt := 53) (by decide) (Nat.lt_trans (andL_lt (xor_lt 16 (hss i (by omega)) (hss j (by omega)))) (by decide)) (by omega) (fun c41 => ?_) (fun c41 => ?_)
              · refine r_iinc (d := 1) (k := 0) (lv' := [(4, .int (nI (j + 1))), (3, .int (nI i)), (0, .ref aW), (1, .int (nI ln)), (2, .int (nI li))]) hx hb dX3_firstPairPartedBy_53 hl rfl (by decide) (by decide) rfl (fun ls hl => ?_)
                refine lv_goto (tgt := 15) hx hb dX3_firstPairPartedBy_56 (by decide) ?_
                exact ih15 (j + 1) (by omega) (by omega) (fpN_no hsc2 c41) (by omega) _ _ _ (lv_sub hl [0, 1, 2, 3, 4] rfl) w
              · refine lv_iload_n hx hb dX3_firstPairPartedBy_44 rfl (lv_at hl 1 rfl) ?_
                refine lv_sipush (v := nI 200) hx hb dX3_firstPairPartedBy_45 (by decide) ?_
                refine r_imul hx hb dX3_firstPairPartedBy_48 ?_
                refine lv_iload hx hb dX3_firstPairPartedBy_49 (lv_at hl 0 rfl) ?_
                refine r_iadd hx hb dX3_firstPairPartedBy_51 ?_
                exact ga_iret cx hr hlk w dX3_firstPairPartedBy_52 ⟨Nat.le_refl _, Nat.le_refl _⟩ (⟨true, i, j, ⟨hij, by omega, c41, hsc2⟩, rfl, rfl⟩)
        exact loop15 _ (i + 1) (by omega) (by omega) (hsc) (Nat.lt_succ_self _) _ _ _ (lv_sub hl [0, 1, 2, 3, 4] rfl) w
  exact loop2 _ 0 (by omega) (fpN_0 _ _ _ _) (Nat.lt_succ_self _) _ _ _ (lv_sub hl [0, 1, 2, 3] rfl) w

set_option maxHeartbeats 4000000 in
set_option maxRecDepth 100000 in
theorem c_X3_follow (l : Launch) (G : ga_G) : ∀ (d : Nat) (aW : Nat) (aS : Nat) (aQ : Nat) (num : Nat) (tm : Bool) (sl : Bool) (ss : Nat → Nat) (ns : Nat → Nat) (aP : Nat) (aF : Nat) (aT : Nat) (aC : Nat) (aL : Nat) (n : Nat) (k : Nat) (li : Nat) (fa : Nat) (fr : Nat → Nat) (to : Nat → Nat) (nd : Nat) (dp : Nat) (p : List Nat) (ws : List (List Nat)) (hd : 12 ≤ dp + d) (hd2 : dp ≤ 12) (hn : n ≤ 12) (hn2 : 2 ≤ n) (hk : k ≤ 16) (hfr : ∀ e, e < k → fr e < n ∧ to e < n) (hnd : nd < n) (hR : Rep to ws num tm ss ns), ga_M l G yX3_follow cX3_follow 8 (Option.none : Option Jvm.ClassFile.FieldType) (d + 1) (27 * d + 27) 0 0 [.ref aW, .ref aP, .int (nI nd), .int (nI (bs p)), .int (nI (nb to p)), .int (nI dp)] [(aW, .inr (3, [.ref aS, .ref aQ, .int (nI num), .int (bI tm), .int (bI sl)])), (aS, .inl (G.2.2, 200, .inl (aN ss))), (aQ, .inl (G.2.2, 200, .inl (aN ns))), (aP, .inr (1, [.ref aF, .ref aT, .ref aC, .ref aL, .int (nI n), .int (nI k), .int (nI li), .int (nI fa)])), (aF, .inl (G.2.2, 16, .inl (aN fr))), (aT, .inl (G.2.2, 16, .inl (aN to)))] (fun r w => ∃ (num2 : Nat), ∃ (tm2 : Bool), ∃ (ss2 : Nat → Nat), ∃ (ns2 : Nat → Nat), (Rep to (ws ++ wlp k fr to (n - 1) (12 - dp) nd p) num2 tm2 ss2 ns2) ∧ r = none ∧ w = [(aW, .inr (3, [.ref aS, .ref aQ, .int (nI num2), .int (bI tm2), .int (bI sl)])), (aS, .inl (G.2.2, 200, .inl (aN ss2))), (aQ, .inl (G.2.2, 200, .inl (aN ns2))), (aP, .inr (1, [.ref aF, .ref aT, .ref aC, .ref aL, .int (nI n), .int (nI k), .int (nI li), .int (nI fa)])), (aF, .inl (G.2.2, 16, .inl (aN fr))), (aT, .inl (G.2.2, 16, .inl (aN to)))]) := by
  intro d
  induction d with
  | zero =>
    intro aW aS aQ num tm sl ss ns aP aF aT aC aL n k li fa fr to nd dp p ws hd hd2 hn hn2 hk hfr hnd hR
    refine ga_M.intro (by decide) (Nat.le_of_ble_eq_true rfl) (fun p_ e_ s_ m_ below meth c_ A_ H_ locs_ ls cx hr hlk hnm hA hK hl w => ?_)
    have hx := cx.1
    have hb := cx.2.1
    have hl : lv_has ls 8 [(0, .ref aW), (1, .ref aP), (2, .int (nI nd)), (3, .int (nI (bs p))), (4, .int (nI (nb to p))), (5, .int (nI dp))] := hl
    refine lv_iload hx hb dX3_follow_0 (lv_at hl 5 rfl) ?_
    refine lv_bipush (v := nI 12) hx hb dX3_follow_2 (by decide) ?_
    refine r_icmp_ge hx hb dX3_follow_4 (tgt := 14) (by decide) (by omega) (by omega) (fun c4 => ?_) (fun c4 => ?_)
    · exact ga_vret cx hr hlk w dX3_follow_14 ⟨Nat.le_refl _, Nat.le_refl _⟩ (⟨num, tm, ss, ns, (by rw [show 12 - dp = 0 by omega, wlp, List.append_nil]; exact hR), rfl, rfl⟩)
    · omega
  | succ d ih_ =>
    intro aW aS aQ num tm sl ss ns aP aF aT aC aL n k li fa fr to nd dp p ws hd hd2 hn hn2 hk hfr hnd hR
    refine ga_M.intro (by decide) (Nat.le_of_ble_eq_true rfl) (fun p_ e_ s_ m_ below meth c_ A_ H_ locs_ ls cx hr hlk hnm hA hK hl w => ?_)
    have hx := cx.1
    have hb := cx.2.1
    have hl : lv_has ls 8 [(0, .ref aW), (1, .ref aP), (2, .int (nI nd)), (3, .int (nI (bs p))), (4, .int (nI (nb to p))), (5, .int (nI dp))] := hl
    refine lv_iload hx hb dX3_follow_0 (lv_at hl 5 rfl) ?_
    refine lv_bipush (v := nI 12) hx hb dX3_follow_2 (by decide) ?_
    refine r_icmp_ge hx hb dX3_follow_4 (tgt := 14) (by decide) (by omega) (by omega) (fun c4 => ?_) (fun c4 => ?_)
    · exact ga_vret cx hr hlk w dX3_follow_14 ⟨Nat.le_refl _, Nat.le_refl _⟩ (⟨num, tm, ss, ns, (by rw [show 12 - dp = 0 by omega, wlp, List.append_nil]; exact hR), rfl, rfl⟩)
    · refine lv_aload_n hx hb dX3_follow_7 rfl (lv_at hl 0 rfl) ?_
      refine gf_X3_26 cx hK w 0 rfl rfl dX3_follow_8 ?_
      refine r_ifb_eq hx hb dX3_follow_11 (tgt := 15) (by decide) (fun c11 => ?_) (fun c11 => ?_)
      · refine lv_iload_n hx hb dX3_follow_15 rfl (lv_at hl 2 rfl) ?_
        refine lv_aload_n hx hb dX3_follow_16 rfl (lv_at hl 1 rfl) ?_
        refine gf_X3_33 cx hK w 3 rfl rfl dX3_follow_17 ?_
        refine lv_iconst (v := nI 1) hx hb dX3_follow_20 (by decide) ?_
        refine r_isub hx hb dX3_follow_21 (by omega) ?_
        refine r_icmp_ne hx hb dX3_follow_22 (tgt := 33) (by decide) (by omega) (by omega) (fun c22 => ?_) (fun c22 => ?_)
        · refine lv_iconst (v := nI 0) hx hb dX3_follow_33 (by decide) ?_
          refine lv_istore (lv' := [(6, .int (nI 0)), (0, .ref aW), (1, .ref aP), (2, .int (nI nd)), (3, .int (nI (bs p))), (4, .int (nI (nb to p))), (5, .int (nI dp))]) hx hb dX3_follow_34 hl (by decide) rfl (fun ls hl => ?_)
          have loop36 : ∀ (n_ : Nat) (ee : Nat) (nu : Nat) (tw : Bool) (sw : Nat → Nat) (nw : Nat → Nat) (hee : ee ≤ k) (hRl : Rep to (ws ++ wlq k fr to (n - 1) (11 - dp) nd p ee) nu tw sw nw) (hm : k - ee < n_) (H_ : Heap) (locs_ : List Loc) (ls : Array Slot) (hl : lv_has ls 8 [(6, .int (nI ee)), (0, .ref aW), (1, .ref aP), (2, .int (nI nd)), (3, .int (nI (bs p))), (4, .int (nI (nb to p))), (5, .int (nI dp))]) (w : ga_wd G A_ s_ H_ locs_ [(aW, .inr (3, [.ref aS, .ref aQ, .int (nI nu), .int (bI tw), .int (bI sl)])), (aS, .inl (G.2.2, 200, .inl (aN sw))), (aQ, .inl (G.2.2, 200, .inl (aN nw))), (aP, .inr (1, [.ref aF, .ref aT, .ref aC, .ref aL, .int (nI n), .int (nI k), .int (nI li), .int (nI fa)])), (aF, .inl (G.2.2, 16, .inl (aN fr))), (aT, .inl (G.2.2, 16, .inl (aN to)))]), W p_ l e_ { frames := (d + 1) + 1, cells := 0, slots := 0, locals := 27 * (d + 1) + 27 } s_ m_ [.ref aW, .ref aP, .int (nI nd), .int (nI (bs p)), .int (nI (nb to p)), .int (nI dp)].toArray below meth c_ H_ locs_ (0) (0) (MQ below (ga_Q G A_ (fun r w => ∃ (num2 : Nat), ∃ (tm2 : Bool), ∃ (ss2 : Nat → Nat), ∃ (ns2 : Nat → Nat), (Rep to (ws ++ wlp k fr to (n - 1) (12 - dp) nd p) num2 tm2 ss2 ns2) ∧ r = none ∧ w = [(aW, .inr (3, [.ref aS, .ref aQ, .int (nI num2), .int (bI tm2), .int (bI sl)])), (aS, .inl (G.2.2, 200, .inl (aN ss2))), (aQ, .inl (G.2.2, 200, .inl (aN ns2))), (aP, .inr (1, [.ref aF, .ref aT, .ref aC, .ref aL, .int (nI n), .int (nI k), .int (nI li), .int (nI fa)])), (aF, .inl (G.2.2, 16, .inl (aN fr))), (aT, .inl (G.2.2, 16, .inl (aN to)))])) [.ref aW, .ref aP, .int (nI nd), .int (nI (bs p)), .int (nI (nb to p)), .int (nI dp)].toArray s_ 0 0 A_) (F0 m_ 36 ls []) := by
            intro n_
            induction n_ with
            | zero => intro ee nu tw sw nw hee hRl hm; exact absurd hm (Nat.not_lt_zero _)
            | succ n_ ih36 =>
              intro ee nu tw sw nw hee hRl hm36 H_ locs_ ls hl w
              refine lv_iload hx hb dX3_follow_36 (lv_at hl 0 rfl) ?_
              refine lv_aload_n hx hb dX3_follow_38 rfl (lv_at hl 2 rfl) ?_
              refine gf_X3_42 cx hK w 3 rfl rfl dX3_follow_39 ?_
              refine r_icmp_ge hx hb dX3_follow_42 (tgt := 95) (by decide) (by omega) (by omega) (fun c42 => ?_) (fun c42 => ?_)
              · exact ga_vret cx hr hlk w dX3_follow_95 ⟨Nat.le_refl _, Nat.le_refl _⟩ (⟨nu, tw, sw, nw, (by rw [show 12 - dp = (11 - dp) + 1 by omega, wlp_q c22, show k = ee by omega]; rw [show k = ee by omega] at hRl; exact hRl), rfl, rfl⟩)
              · have hfe := hfr ee (by omega)
                refine lv_aload_n hx hb dX3_follow_45 rfl (lv_at hl 2 rfl) ?_
                refine gf_X3_45 cx hK w 3 rfl rfl dX3_follow_46 ?_
                refine lv_iload hx hb dX3_follow_49 (lv_at hl 0 rfl) ?_
                refine r_ialdN hx hb hK w 4 rfl dX3_follow_51 (by omega) (by decide) ?_
                refine lv_iload_n hx hb dX3_follow_52 rfl (lv_at hl 3 rfl) ?_
                refine r_icmp_ne hx hb dX3_follow_53 (tgt := 89) (by decide) (by omega) (by omega) (fun c53 => ?_) (fun c53 => ?_)
                · refine r_iinc (d := 1) (k := 0) (lv' := [(6, .int (nI (ee + 1))), (0, .ref aW), (1, .ref aP), (2, .int (nI nd)), (3, .int (nI (bs p))), (4, .int (nI (nb to p))), (5, .int (nI dp))]) hx hb dX3_follow_89 hl rfl (by decide) (by decide) rfl (fun ls hl => ?_)
                  refine lv_goto (tgt := 36) hx hb dX3_follow_92 (by decide) ?_
                  exact ih36 (ee + 1) nu tw sw nw (by omega) (by rw [wlq_f c53]; exact hRl) (by omega) _ _ _ (lv_sub hl [0, 1, 2, 3, 4, 5, 6] rfl) w
                · refine lv_aload_n hx hb dX3_follow_56 rfl (lv_at hl 2 rfl) ?_
                  refine gf_X3_48 cx hK w 3 rfl rfl dX3_follow_57 ?_
                  refine lv_iload hx hb dX3_follow_60 (lv_at hl 0 rfl) ?_
                  refine r_ialdN hx hb hK w 5 rfl dX3_follow_62 (by omega) (by decide) ?_
                  refine lv_istore (lv' := [(7, .int (nI (to ee))), (6, .int (nI ee)), (0, .ref aW), (1, .ref aP), (2, .int (nI nd)), (3, .int (nI (bs p))), (4, .int (nI (nb to p))), (5, .int (nI dp))]) hx hb dX3_follow_63 hl (by decide) rfl (fun ls hl => ?_)
                  refine lv_aload_n hx hb dX3_follow_65 rfl (lv_at hl 2 rfl) ?_
                  refine lv_aload_n hx hb dX3_follow_66 rfl (lv_at hl 3 rfl) ?_
                  refine lv_iload hx hb dX3_follow_67 (lv_at hl 0 rfl) ?_
                  refine lv_iload_n hx hb dX3_follow_69 rfl (lv_at hl 5 rfl) ?_
                  refine lv_iconst (v := nI 1) hx hb dX3_follow_70 (by decide) ?_
                  refine lv_iload hx hb dX3_follow_71 (lv_at hl 1 rfl) ?_
                  refine r_ishl hx hb dX3_follow_73 (by omega) ?_
                  refine r_ior hx hb dX3_follow_74 ?_
                  refine r_topi (y := nI (bs (p ++ [ee]))) (by rw [bs_a]) ?_
                  refine lv_iload hx hb dX3_follow_75 (lv_at hl 6 rfl) ?_
                  refine lv_iconst (v := nI 1) hx hb dX3_follow_77 (by decide) ?_
                  refine lv_iload hx hb dX3_follow_78 (lv_at hl 0 rfl) ?_
                  refine r_ishl hx hb dX3_follow_80 (by omega) ?_
                  refine r_ior hx hb dX3_follow_81 ?_
                  refine r_topi (y := nI (nb to (p ++ [ee]))) (by rw [nb_a]) ?_
                  refine lv_iload hx hb dX3_follow_82 (lv_at hl 7 rfl) ?_
                  refine lv_iconst (v := nI 1) hx hb dX3_follow_84 (by decide) ?_
                  refine r_iadd hx hb dX3_follow_85 ?_
                  refine ga_callS (rest := []) (wr := []) cx hK hA w hl lk_X3_29 (ih_ aW aS aQ nu tw sl sw nw aP aF aT aC aL n k li fa fr to (to ee) (dp + 1) (p ++ [ee]) (ws ++ wlq k fr to (n - 1) (11 - dp) nd p ee) (by omega) (by omega) (by omega) (by omega) (by omega) (hfr) (hfe.2) (hRl)) ⟨(by show d + 1 + 1 ≤ (d + 1) + 1; omega), (by show 8 + (8 + 11) + (27 * d + 27) ≤ 27 * (d + 1) + 27; omega)⟩ [0, 1, 2, 3, 4, 5] [] rfl rfl (by decide) (by decide) (by decide) rfl (Nat.le_of_ble_eq_true rfl) dX3_follow_86 ⟨Nat.le_refl _, Nat.le_refl _⟩ rfl (fun r w1_ H_ locs_ hp w => ?_)
                  obtain ⟨nu3, tm3, ss3, ns3, hR3, rfl, rfl⟩ := hp
                  have w : ga_wd G A_ s_ H_ locs_ [(aW, .inr (3, [.ref aS, .ref aQ, .int (nI nu3), .int (bI tm3), .int (bI sl)])), (aS, .inl (G.2.2, 200, .inl (aN ss3))), (aQ, .inl (G.2.2, 200, .inl (aN ns3))), (aP, .inr (1, [.ref aF, .ref aT, .ref aC, .ref aL, .int (nI n), .int (nI k), .int (nI li), .int (nI fa)])), (aF, .inl (G.2.2, 16, .inl (aN fr))), (aT, .inl (G.2.2, 16, .inl (aN to)))] := ga_perm w [0, 1, 2, 3, 4, 5] (by decide) rfl
                  refine W.eq (g2 := F0 m_ 89 ls []) rfl ?_
                  refine r_iinc (d := 1) (k := 1) (lv' := [(6, .int (nI (ee + 1))), (7, .int (nI (to ee))), (0, .ref aW), (1, .ref aP), (2, .int (nI nd)), (3, .int (nI (bs p))), (4, .int (nI (nb to p))), (5, .int (nI dp))]) hx hb dX3_follow_89 hl rfl (by decide) (by decide) rfl (fun ls hl => ?_)
                  refine lv_goto (tgt := 36) hx hb dX3_follow_92 (by decide) ?_
                  exact ih36 (ee + 1) nu3 tm3 ss3 ns3 (by omega) (by rw [wlq_t c53, ← List.append_assoc]; have h9 := hR3; rw [show 12 - (dp + 1) = 11 - dp by omega] at h9; exact h9) (by omega) _ _ _ (lv_sub hl [0, 2, 3, 4, 5, 6, 7] rfl) w
          exact loop36 _ 0 num tm ss ns (by omega) (by rw [wlq_0, List.append_nil]; exact hR) (Nat.lt_succ_self _) _ _ _ (lv_sub hl [0, 1, 2, 3, 4, 5, 6] rfl) w
        · refine lv_aload_n hx hb dX3_follow_25 rfl (lv_at hl 0 rfl) ?_
          refine lv_iload_n hx hb dX3_follow_26 rfl (lv_at hl 3 rfl) ?_
          refine lv_iload hx hb dX3_follow_27 (lv_at hl 4 rfl) ?_
          refine ga_callV (rest := []) (wr := [(aP, .inr (1, [.ref aF, .ref aT, .ref aC, .ref aL, .int (nI n), .int (nI k), .int (nI li), .int (nI fa)])), (aF, .inl (G.2.2, 16, .inl (aN fr))), (aT, .inl (G.2.2, 16, .inl (aN to)))]) cx hK hA w hl lk_X3_38 (c_X3_add l G aW aS aQ num tm sl ss ns to ws p (hR)) ⟨(by show 0 + 1 ≤ (d + 1) + 1; omega), (by show 8 + (3 + 11) + (0) ≤ 27 * (d + 1) + 27; omega)⟩ [0, 1, 2] [3, 4, 5] rfl rfl (by decide) (by decide) (by decide) 0 3 rfl rfl rfl rfl (Nat.le_of_ble_eq_true rfl) dX3_follow_29 ⟨Nat.le_refl _, Nat.le_refl _⟩ rfl (fun r w1_ H_ locs_ hp w => ?_)
          obtain ⟨nu3, tm3, ss3, ns3, hR3, rfl, rfl⟩ := hp
          have w : ga_wd G A_ s_ H_ locs_ [(aW, .inr (3, [.ref aS, .ref aQ, .int (nI nu3), .int (bI tm3), .int (bI sl)])), (aS, .inl (G.2.2, 200, .inl (aN ss3))), (aQ, .inl (G.2.2, 200, .inl (aN ns3))), (aP, .inr (1, [.ref aF, .ref aT, .ref aC, .ref aL, .int (nI n), .int (nI k), .int (nI li), .int (nI fa)])), (aF, .inl (G.2.2, 16, .inl (aN fr))), (aT, .inl (G.2.2, 16, .inl (aN to)))] := ga_perm w [3, 4, 5, 0, 1, 2] (by decide) rfl
          refine W.eq (g2 := F0 m_ 32 ls []) rfl ?_
          exact ga_vret cx hr hlk w dX3_follow_32 ⟨Nat.le_refl _, Nat.le_refl _⟩ (⟨nu3, tm3, ss3, ns3, (by rw [show 12 - dp = (11 - dp) + 1 by omega, wlp_g c22]; exact hR3), rfl, rfl⟩)
      · exact ga_vret cx hr hlk w dX3_follow_14 ⟨Nat.le_refl _, Nat.le_refl _⟩ (⟨num, true, ss, ns, Rep_more _ (by rw [← c11]; exact hR), rfl, by rw [c11]⟩)

set_option maxHeartbeats 4000000 in
set_option maxRecDepth 100000 in
theorem c_X3_gather (l : Launch) (G : ga_G) (aW : Nat) (aS : Nat) (aQ : Nat) (num : Nat) (tm : Bool) (sl : Bool) (ss : Nat → Nat) (ns : Nat → Nat) (aP : Nat) (aF : Nat) (aT : Nat) (aC : Nat) (aL : Nat) (n : Nat) (k : Nat) (li : Nat) (fa : Nat) (fr : Nat → Nat) (to : Nat → Nat) (hn : n ≤ 12) (hn2 : 2 ≤ n) (hk : k ≤ 16) (hfr : ∀ e, e < k → fr e < n ∧ to e < n) : ga_M l G yX3_gather cX3_gather 2 (Option.none : Option Jvm.ClassFile.FieldType) 14 378 0 0 [.ref aW, .ref aP] [(aW, .inr (3, [.ref aS, .ref aQ, .int (nI num), .int (bI tm), .int (bI sl)])), (aS, .inl (G.2.2, 200, .inl (aN ss))), (aQ, .inl (G.2.2, 200, .inl (aN ns))), (aP, .inr (1, [.ref aF, .ref aT, .ref aC, .ref aL, .int (nI n), .int (nI k), .int (nI li), .int (nI fa)])), (aF, .inl (G.2.2, 16, .inl (aN fr))), (aT, .inl (G.2.2, 16, .inl (aN to)))] (fun r w => ∃ (num2 : Nat), ∃ (tm2 : Bool), ∃ (ss2 : Nat → Nat), ∃ (ns2 : Nat → Nat), (Rep to (wlp k fr to (n - 1) 12 0 []) num2 tm2 ss2 ns2) ∧ r = none ∧ w = [(aW, .inr (3, [.ref aS, .ref aQ, .int (nI num2), .int (bI tm2), .int (bI false)])), (aS, .inl (G.2.2, 200, .inl (aN ss2))), (aQ, .inl (G.2.2, 200, .inl (aN ns2))), (aP, .inr (1, [.ref aF, .ref aT, .ref aC, .ref aL, .int (nI n), .int (nI k), .int (nI li), .int (nI fa)])), (aF, .inl (G.2.2, 16, .inl (aN fr))), (aT, .inl (G.2.2, 16, .inl (aN to)))]) := by
  refine ga_M.intro (by decide) (Nat.le_of_ble_eq_true rfl) (fun p_ e_ s_ m_ below meth c_ A_ H_ locs_ ls cx hr hlk hnm hA hK hl w => ?_)
  have hx := cx.1
  have hb := cx.2.1
  have hl : lv_has ls 2 [(0, .ref aW), (1, .ref aP)] := hl
  refine lv_aload_n hx hb dX3_gather_0 rfl (lv_at hl 0 rfl) ?_
  refine lv_iconst (v := nI 0) hx hb dX3_gather_1 (by decide) ?_
  refine pf_X3_22 cx hK w 0 rfl rfl rfl (Nat.le_of_ble_eq_true rfl) dX3_gather_2 (fun H_ locs_ w => ?_)
  have w : ga_wd G A_ s_ H_ locs_ [(aW, .inr (3, [.ref aS, .ref aQ, .int (nI 0), .int (bI tm), .int (bI sl)])), (aS, .inl (G.2.2, 200, .inl (aN ss))), (aQ, .inl (G.2.2, 200, .inl (aN ns))), (aP, .inr (1, [.ref aF, .ref aT, .ref aC, .ref aL, .int (nI n), .int (nI k), .int (nI li), .int (nI fa)])), (aF, .inl (G.2.2, 16, .inl (aN fr))), (aT, .inl (G.2.2, 16, .inl (aN to)))] := w
  refine lv_aload_n hx hb dX3_gather_5 rfl (lv_at hl 0 rfl) ?_
  refine lv_iconst (v := nI 0) hx hb dX3_gather_6 (by decide) ?_
  refine pf_X3_26 cx hK w 0 rfl rfl rfl (Nat.le_of_ble_eq_true rfl) dX3_gather_7 (fun H_ locs_ w => ?_)
  have w : ga_wd G A_ s_ H_ locs_ [(aW, .inr (3, [.ref aS, .ref aQ, .int (nI 0), .int (nI 0), .int (bI sl)])), (aS, .inl (G.2.2, 200, .inl (aN ss))), (aQ, .inl (G.2.2, 200, .inl (aN ns))), (aP, .inr (1, [.ref aF, .ref aT, .ref aC, .ref aL, .int (nI n), .int (nI k), .int (nI li), .int (nI fa)])), (aF, .inl (G.2.2, 16, .inl (aN fr))), (aT, .inl (G.2.2, 16, .inl (aN to)))] := w
  refine lv_aload_n hx hb dX3_gather_10 rfl (lv_at hl 0 rfl) ?_
  refine lv_iconst (v := nI 0) hx hb dX3_gather_11 (by decide) ?_
  refine pf_X3_18 cx hK w 0 rfl rfl rfl (Nat.le_of_ble_eq_true rfl) dX3_gather_12 (fun H_ locs_ w => ?_)
  have w : ga_wd G A_ s_ H_ locs_ [(aW, .inr (3, [.ref aS, .ref aQ, .int (nI 0), .int (nI 0), .int (nI 0)])), (aS, .inl (G.2.2, 200, .inl (aN ss))), (aQ, .inl (G.2.2, 200, .inl (aN ns))), (aP, .inr (1, [.ref aF, .ref aT, .ref aC, .ref aL, .int (nI n), .int (nI k), .int (nI li), .int (nI fa)])), (aF, .inl (G.2.2, 16, .inl (aN fr))), (aT, .inl (G.2.2, 16, .inl (aN to)))] := w
  refine lv_aload_n hx hb dX3_gather_15 rfl (lv_at hl 0 rfl) ?_
  refine lv_aload_n hx hb dX3_gather_16 rfl (lv_at hl 1 rfl) ?_
  refine lv_iconst (v := nI 0) hx hb dX3_gather_17 (by decide) ?_
  refine lv_iconst (v := nI 0) hx hb dX3_gather_18 (by decide) ?_
  refine lv_iconst (v := nI 1) hx hb dX3_gather_19 (by decide) ?_
  refine lv_iconst (v := nI 0) hx hb dX3_gather_20 (by decide) ?_
  refine ga_callS (rest := []) (wr := []) cx hK hA w hl lk_X3_29 (c_X3_follow l G 12 aW aS aQ 0 false false ss ns aP aF aT aC aL n k li fa fr to 0 0 ([]) ([]) (by decide) (by decide) (hn) (hn2) (hk) (hfr) (by omega) (⟨rfl, rfl, fun i hi => absurd hi (Nat.not_lt_zero _)⟩)) ⟨Nat.le_of_ble_eq_true rfl, Nat.le_of_ble_eq_true rfl⟩ [0, 1, 2, 3, 4, 5] [] rfl rfl (by decide) (by decide) (by decide) rfl (Nat.le_of_ble_eq_true rfl) dX3_gather_21 ⟨Nat.le_refl _, Nat.le_refl _⟩ rfl (fun r w1_ H_ locs_ hp w => ?_)
  obtain ⟨nu3, tm3, ss3, ns3, hR3, rfl, rfl⟩ := hp
  have w : ga_wd G A_ s_ H_ locs_ [(aW, .inr (3, [.ref aS, .ref aQ, .int (nI nu3), .int (bI tm3), .int (bI false)])), (aS, .inl (G.2.2, 200, .inl (aN ss3))), (aQ, .inl (G.2.2, 200, .inl (aN ns3))), (aP, .inr (1, [.ref aF, .ref aT, .ref aC, .ref aL, .int (nI n), .int (nI k), .int (nI li), .int (nI fa)])), (aF, .inl (G.2.2, 16, .inl (aN fr))), (aT, .inl (G.2.2, 16, .inl (aN to)))] := ga_perm w [0, 1, 2, 3, 4, 5] (by decide) rfl
  refine W.eq (g2 := F0 m_ 24 ls []) rfl ?_
  exact ga_vret cx hr hlk w dX3_gather_24 ⟨Nat.le_refl _, Nat.le_refl _⟩ (⟨nu3, tm3, ss3, ns3, hR3, rfl, rfl⟩)
