section
theorem ga_ar {ty : FieldType} {args : Array Value} {s : State} (h : (Cond.arrayClass ty).before args s = true) : ∃ cA : ClassId, ArrOfT s cA ty ∧ s.vm.findClass ("[" ++ ty.toString) = some cA := by
  obtain ⟨cA, kA, comp, f1, f2, f3⟩ := Cond.arrayClass_spec h
  exact ⟨cA, fun N z => ⟨(fun k h => by cases h), kA, f2, comp, f3⟩, f1⟩
theorem ga_G_ex {args : Array Value} {s : State} (htg : ∀ w ∈ ga_tb, w.before args s = true) (htn : ∀ w ∈ ga_nw, w.before args s = true) : ∃ G : ga_G, ga_K G s := by
  obtain ⟨cc0, ii0, hk0⟩ := u_known (C := RX0) (T := TX0) (N := 3) (n := 3) htg iX0 (htg _ tm_121)
  obtain ⟨cc1, ii1, hk1⟩ := u_known (C := RX1) (T := TX1) (N := 8) (n := 8) htg iX1 (htg _ tm_42)
  obtain ⟨cc2, ii2, hk2⟩ := u_known (C := RX2) (T := TX2) (N := 6) (n := 6) htg iX2 (htg _ tm_171)
  obtain ⟨cc3, ii3, hk3⟩ := u_known (C := RX3) (T := TX3) (N := 5) (n := 5) htg iX3 (htg _ tm_89)
  obtain ⟨cc4, ii4, hk4⟩ := u_known (C := RX4) (T := TX4) (N := 3) (n := 3) htg iX4 (htg _ tm_140)
  obtain ⟨cc5, ii5, hk5⟩ := u_known (C := RX5) (T := TX5) (N := 2) (n := 2) htg iX5 (htg _ tm_156)
  obtain ⟨cc6, ii6, hk6⟩ := u_known (C := RX6) (T := TX6) (N := 7) (n := 7) htg iX6 (htg _ tm_34)
  obtain ⟨cc7, ii7, hk7⟩ := u_known (C := RX7) (T := TX7) (N := 23) (n := 23) htg iX7 (htg _ tm_496)
  obtain ⟨cB, aB1, aB2⟩ := ga_ar (htg _ tm_572)
  obtain ⟨cI, aI1, aI2⟩ := ga_ar (htg _ tm_87)
  refine ⟨((fun k => match k with | 0 => cc0 | 1 => cc1 | 2 => cc2 | 3 => cc3 | 4 => cc4 | 5 => cc5 | 6 => cc6 | _ => cc7, fun k => match k with | 0 => ii0 | 1 => ii1 | 2 => ii2 | 3 => ii3 | 4 => ii4 | 5 => ii5 | 6 => ii6 | _ => ii7), cB, cI), ⟨?_, ?_⟩, ?_⟩
  · intro k q hq
    match k, hq with
    | 0, hq => cases hq; exact hk0
    | 1, hq => cases hq; exact hk1
    | 2, hq => cases hq; exact hk2
    | 3, hq => cases hq; exact hk3
    | 4, hq => cases hq; exact hk4
    | 5, hq => cases hq; exact hk5
    | 6, hq => cases hq; exact hk6
    | 7, hq => cases hq; exact hk7
    | k + 8, hq => simp [vwCl] at hq
  · intro k q hq
    match k, hq with
    | 0, hq => cases hq; exact ⟨aB1, aB2⟩
    | 1, hq => cases hq; exact ⟨aI1, aI2⟩
    | k + 2, hq => simp [ga_ty] at hq
  · intro w hw
    obtain ⟨a, i, x, h, rfl⟩ := ga_nw_nest w hw
    exact va_Nw.of rfl (htn _ hw)
set_option maxHeartbeats 4000000 in
set_option maxRecDepth 100000 in
/-- THE LAW, from its entry -/
theorem whole_start {p : Program} {e : Env} {s : State} {m : MethodId} {below : List Frame} {meth : Method} {c : Code} (l : Launch) {b L : Nat} {xs : Nat → Int32} (hL : L ≤ 3072) (C0 : lw_At p s m meth c b L xs) : W p l e room_1 s m #[Value.ref b] below meth c s.heap [] 0 0 (lw_Z below #[Value.ref b] s) (entryFrame m ([Value.ref b] : List Value).toArray 4) := by
  obtain ⟨hx, hb, hr, hml, hown, hts, hX, hbl, hlk, hgv⟩ := id C0
  have htg : ∀ w ∈ ga_tb, w.before #[Value.ref b] s = true := fun w hw => hts w (List.mem_filter.mp hw).1
  have cx : ga_cx p m c cL_law 4 s #[Value.ref b] RL := ⟨hx, hb, hml, hown, htg⟩
  have hA : ∀ q : Nat, s.heap.size ≤ q → (fun q : Nat => s.heap.size ≤ q) q := fun _ h => h
  obtain ⟨G, hK⟩ := ga_G_ex htg (fun w hw => hts w (ga_nwt w hw))
  have hl := lv_entry ([.ref b]) (n := 4) (Nat.le_of_ble_eq_true rfl)
  rw [lg_entry_eq]
  generalize (lg_sl ([.ref b]) ++ List.replicate (4 - (lg_sl ([.ref b])).length) Slot.unset).toArray = ls at hl ⊢
  have hl : lv_has ls 4 [(0, .ref b)] := hl
  have w : ga_wd G (fun q : Nat => s.heap.size ≤ q) s s.heap [] [] := ⟨fun k q h => by simp at h, ⟨fun i j p q h => by simp at h, fun k q h => by simp at h⟩, va_S.rf⟩
  refine ga_new (ci := 6) (fs := [.null, .null, .null, .null, .null, .null, .null]) iX6 tyX6 tyX6_ok rfl tm_33 tm_34 tm_21 cx hK hA w (fun j hj => by rcases (show j = 0 ∨ j = 1 ∨ j = 2 ∨ j = 3 ∨ j = 4 ∨ j = 5 ∨ j = 6 by omega) with rfl | rfl | rfl | rfl | rfl | rfl | rfl <;> rfl) (Nat.le_of_ble_eq_true rfl) (Nat.le_of_ble_eq_true rfl) dL_law_0 (fun aO H_ w => ?_)
  have w : ga_wd G (fun q : Nat => s.heap.size ≤ q) s H_ [] [(aO, .inr (6, [.null, .null, .null, .null, .null, .null, .null]))] := w
  refine lv_dup hx hb dL_law_3 rfl ?_
  refine ga_callI (rest := [.ref aO]) (wr := []) cx hK hA w hl lk_L_9 (c_X6_init l G aO) ⟨Nat.le_of_ble_eq_true rfl, Nat.le_of_ble_eq_true rfl⟩ [0] [] rfl rfl (by decide) (by decide) (by decide) rfl (Nat.le_of_ble_eq_true rfl) dL_law_4 ⟨Nat.le_of_ble_eq_true rfl, Nat.le_of_ble_eq_true rfl⟩ rfl (fun r w1_ H_ locs_ hp w => ?_)
  obtain ⟨aP, aF, aT, aC, aL, aW, aS, aQ, aK, aZ, aJ, aY, aH, aB, aE, aR, aD, rfl, rfl⟩ := hp
  have w : ga_wd G (fun q : Nat => s.heap.size ≤ q) s H_ locs_ [(aO, .inr (6, [.ref aP, .ref aW, .ref aK, .ref aJ, .ref aH, .ref aB, .ref aR])), (aP, .inr (1, [.ref aF, .ref aT, .ref aC, .ref aL, .int (nI 2), .int (nI 0), .int (nI 0), .int (nI 0)])), (aF, .inl (G.2.2, 16, .inl (aN (fun _ => 0)))), (aT, .inl (G.2.2, 16, .inl (aN (fun _ => 0)))), (aC, .inl (G.2.2, 16, .inl (aN (fun _ => 0)))), (aL, .inl (G.2.2, 12, .inl (aN (fun _ => 0)))), (aW, .inr (3, [.ref aS, .ref aQ, .int (nI 0), .int (bI false), .int (bI true)])), (aS, .inl (G.2.2, 200, .inl (aN (fun _ => 0)))), (aQ, .inl (G.2.2, 200, .inl (aN (fun _ => 0)))), (aK, .inr (0, [.ref aZ, .int (nI 0), .int (bI true)])), (aZ, .inl (G.2.2, 32, .inl (aN (fun _ => 0)))), (aJ, .inr (0, [.ref aY, .int (nI 0), .int (bI true)])), (aY, .inl (G.2.2, 32, .inl (aN (fun _ => 0)))), (aH, .inr (4, [.ref aP, .int (nI 0), .long (lN 0)])), (aB, .inr (5, [.ref aE, .int (nI 0)])), (aE, .inl (G.2.2, 40, .inl (aN (fun _ => 0)))), (aR, .inr (2, [.ref aD, .int (-1), .int (bI false), .int (bI false), .int (nI 0), .int (nI 0)])), (aD, .inl (G.2.2, 16, .inl (aN (fun _ => 0))))] := ga_perm w [0, 1, 2, 3, 4, 5, 6, 7, 8, 9, 10, 11, 12, 13, 14, 15, 16, 17] (by decide) rfl
  refine W.eq (g2 := F0 m 7 ls [.ref aO]) rfl ?_
  refine lv_astore_n (lv' := [(1, .ref aO), (0, .ref b)]) hx hb dL_law_7 rfl hl (by decide) rfl (fun ls hl => ?_)
  refine ga_new (ci := 7) (fs := [.null, .int (nI 0), .int (nI 0), .int (nI 0), .null, .null, .null, .int (nI 0), .int (nI 0), .int (nI 0), .int (nI 0), .null, .null, .null, .null, .int (nI 0), .int (nI 0), .int (nI 0), .null, .null, .null, .null, .int (nI 0)]) iX7 tyX7 tyX7_ok rfl tm_495 tm_496 tm_28 cx hK hA w (fun j hj => by rcases (show j = 0 ∨ j = 1 ∨ j = 2 ∨ j = 3 ∨ j = 4 ∨ j = 5 ∨ j = 6 ∨ j = 7 ∨ j = 8 ∨ j = 9 ∨ j = 10 ∨ j = 11 ∨ j = 12 ∨ j = 13 ∨ j = 14 ∨ j = 15 ∨ j = 16 ∨ j = 17 ∨ j = 18 ∨ j = 19 ∨ j = 20 ∨ j = 21 ∨ j = 22 by omega) with rfl | rfl | rfl | rfl | rfl | rfl | rfl | rfl | rfl | rfl | rfl | rfl | rfl | rfl | rfl | rfl | rfl | rfl | rfl | rfl | rfl | rfl | rfl <;> rfl) (Nat.le_of_ble_eq_true rfl) (Nat.le_of_ble_eq_true rfl) dL_law_8 (fun aM H_ w => ?_)
  have w : ga_wd G (fun q : Nat => s.heap.size ≤ q) s H_ locs_ [(aO, .inr (6, [.ref aP, .ref aW, .ref aK, .ref aJ, .ref aH, .ref aB, .ref aR])), (aP, .inr (1, [.ref aF, .ref aT, .ref aC, .ref aL, .int (nI 2), .int (nI 0), .int (nI 0), .int (nI 0)])), (aF, .inl (G.2.2, 16, .inl (aN (fun _ => 0)))), (aT, .inl (G.2.2, 16, .inl (aN (fun _ => 0)))), (aC, .inl (G.2.2, 16, .inl (aN (fun _ => 0)))), (aL, .inl (G.2.2, 12, .inl (aN (fun _ => 0)))), (aW, .inr (3, [.ref aS, .ref aQ, .int (nI 0), .int (bI false), .int (bI true)])), (aS, .inl (G.2.2, 200, .inl (aN (fun _ => 0)))), (aQ, .inl (G.2.2, 200, .inl (aN (fun _ => 0)))), (aK, .inr (0, [.ref aZ, .int (nI 0), .int (bI true)])), (aZ, .inl (G.2.2, 32, .inl (aN (fun _ => 0)))), (aJ, .inr (0, [.ref aY, .int (nI 0), .int (bI true)])), (aY, .inl (G.2.2, 32, .inl (aN (fun _ => 0)))), (aH, .inr (4, [.ref aP, .int (nI 0), .long (lN 0)])), (aB, .inr (5, [.ref aE, .int (nI 0)])), (aE, .inl (G.2.2, 40, .inl (aN (fun _ => 0)))), (aR, .inr (2, [.ref aD, .int (-1), .int (bI false), .int (bI false), .int (nI 0), .int (nI 0)])), (aD, .inl (G.2.2, 16, .inl (aN (fun _ => 0)))), (aM, .inr (7, [.null, .int (nI 0), .int (nI 0), .int (nI 0), .null, .null, .null, .int (nI 0), .int (nI 0), .int (nI 0), .int (nI 0), .null, .null, .null, .null, .int (nI 0), .int (nI 0), .int (nI 0), .null, .null, .null, .null, .int (nI 0)]))] := w
  refine lv_dup hx hb dL_law_11 rfl ?_
  refine ga_callI (rest := [.ref aM]) (wr := [(aO, .inr (6, [.ref aP, .ref aW, .ref aK, .ref aJ, .ref aH, .ref aB, .ref aR])), (aP, .inr (1, [.ref aF, .ref aT, .ref aC, .ref aL, .int (nI 2), .int (nI 0), .int (nI 0), .int (nI 0)])), (aF, .inl (G.2.2, 16, .inl (aN (fun _ => 0)))), (aT, .inl (G.2.2, 16, .inl (aN (fun _ => 0)))), (aC, .inl (G.2.2, 16, .inl (aN (fun _ => 0)))), (aL, .inl (G.2.2, 12, .inl (aN (fun _ => 0)))), (aW, .inr (3, [.ref aS, .ref aQ, .int (nI 0), .int (bI false), .int (bI true)])), (aS, .inl (G.2.2, 200, .inl (aN (fun _ => 0)))), (aQ, .inl (G.2.2, 200, .inl (aN (fun _ => 0)))), (aK, .inr (0, [.ref aZ, .int (nI 0), .int (bI true)])), (aZ, .inl (G.2.2, 32, .inl (aN (fun _ => 0)))), (aJ, .inr (0, [.ref aY, .int (nI 0), .int (bI true)])), (aY, .inl (G.2.2, 32, .inl (aN (fun _ => 0)))), (aH, .inr (4, [.ref aP, .int (nI 0), .long (lN 0)])), (aB, .inr (5, [.ref aE, .int (nI 0)])), (aE, .inl (G.2.2, 40, .inl (aN (fun _ => 0)))), (aR, .inr (2, [.ref aD, .int (-1), .int (bI false), .int (bI false), .int (nI 0), .int (nI 0)])), (aD, .inl (G.2.2, 16, .inl (aN (fun _ => 0))))]) cx hK hA w hl lk_L_12 (c_X7_init l G aM) ⟨Nat.le_of_ble_eq_true rfl, Nat.le_of_ble_eq_true rfl⟩ [18] [0, 1, 2, 3, 4, 5, 6, 7, 8, 9, 10, 11, 12, 13, 14, 15, 16, 17] rfl rfl (by decide) (by decide) (by decide) rfl (Nat.le_of_ble_eq_true rfl) dL_law_12 ⟨Nat.le_of_ble_eq_true rfl, Nat.le_of_ble_eq_true rfl⟩ rfl (fun r w1_ H_ locs_ hp w => ?_)
  obtain ⟨mT, mF, mO, mC, mR, mZ, mS, mH, mL, mN, mX, mY, rfl, rfl⟩ := hp
  have w : ga_wd G (fun q : Nat => s.heap.size ≤ q) s H_ locs_ [(aO, .inr (6, [.ref aP, .ref aW, .ref aK, .ref aJ, .ref aH, .ref aB, .ref aR])), (aP, .inr (1, [.ref aF, .ref aT, .ref aC, .ref aL, .int (nI 2), .int (nI 0), .int (nI 0), .int (nI 0)])), (aF, .inl (G.2.2, 16, .inl (aN (fun _ => 0)))), (aT, .inl (G.2.2, 16, .inl (aN (fun _ => 0)))), (aC, .inl (G.2.2, 16, .inl (aN (fun _ => 0)))), (aL, .inl (G.2.2, 12, .inl (aN (fun _ => 0)))), (aW, .inr (3, [.ref aS, .ref aQ, .int (nI 0), .int (bI false), .int (bI true)])), (aS, .inl (G.2.2, 200, .inl (aN (fun _ => 0)))), (aQ, .inl (G.2.2, 200, .inl (aN (fun _ => 0)))), (aK, .inr (0, [.ref aZ, .int (nI 0), .int (bI true)])), (aZ, .inl (G.2.2, 32, .inl (aN (fun _ => 0)))), (aJ, .inr (0, [.ref aY, .int (nI 0), .int (bI true)])), (aY, .inl (G.2.2, 32, .inl (aN (fun _ => 0)))), (aH, .inr (4, [.ref aP, .int (nI 0), .long (lN 0)])), (aB, .inr (5, [.ref aE, .int (nI 0)])), (aE, .inl (G.2.2, 40, .inl (aN (fun _ => 0)))), (aR, .inr (2, [.ref aD, .int (-1), .int (bI false), .int (bI false), .int (nI 0), .int (nI 0)])), (aD, .inl (G.2.2, 16, .inl (aN (fun _ => 0)))), (aM, .inr (7, [.ref mT, .int (nI 0), .int (nI 2), .int (nI 0), .ref mF, .ref mO, .ref mC, .int (nI 0), .int (nI 0), .int (nI 0), .int (bI false), .ref mR, .ref mZ, .ref mS, .ref mH, .int (bI false), .int (bI false), .int (nI 0), .ref mL, .ref mN, .ref mX, .ref mY, .int (nI 0)])), (mT, .inl (G.2.1, 40, .inl (fun _ => 0))), (mF, .inl (G.2.2, 16, .inl (aN (fun _ => 0)))), (mO, .inl (G.2.2, 16, .inl (aN (fun _ => 0)))), (mC, .inl (G.2.2, 16, .inl (aN (fun _ => 0)))), (mR, .inl (G.2.2, 3200, .inl (aN (fun _ => 0)))), (mZ, .inl (G.2.2, 200, .inl (aN (fun _ => 0)))), (mS, .inl (G.2.2, 200, .inl (aN (fun _ => 0)))), (mH, .inl (G.2.2, 200, .inl (aN (fun _ => 0)))), (mL, .inl (G.2.2, 16, .inl (fun _ => 0))), (mN, .inl (G.2.2, 16, .inl (aN (fun _ => 0)))), (mX, .inl (G.2.2, 65536, .inl (aN (fun _ => 0)))), (mY, .inl (G.2.2, 65536, .inl (aN (fun _ => 0))))] := ga_perm w [0, 1, 2, 3, 4, 5, 6, 7, 8, 9, 10, 11, 12, 13, 14, 15, 16, 17, 18, 19, 20, 21, 22, 23, 24, 25, 26, 27, 28, 29, 30] (by decide) rfl
  refine W.eq (g2 := F0 m 15 ls [.ref aM]) rfl ?_
  refine lv_astore_n (lv' := [(2, .ref aM), (1, .ref aO), (0, .ref b)]) hx hb dL_law_15 rfl hl (by decide) rfl (fun ls hl => ?_)
  refine lv_iconst (v := nI 0) hx hb dL_law_16 (by decide) ?_
  refine lv_istore_n (lv' := [(3, .int (nI 0)), (2, .ref aM), (1, .ref aO), (0, .ref b)]) hx hb dL_law_17 rfl hl (by decide) rfl (fun ls hl => ?_)
  refine W.widen (k := 31 + (2 * 32 - 64) + (2 * 32 - 64)) (n := 135632 + (2 * 32 - 64) + (2 * 32 - 64)) (Nat.le_of_ble_eq_true rfl) (Nat.le_of_ble_eq_true rfl) ?_
  exact law_loop hL hX hbl cx hK hr hlk aO aP aW aK aJ aH aB aR aF aT aC aL aS aQ aE aD aM mT mF mO mC mR mZ mS mH mL mN mX mY (L + 1) 0 2 0 0 0 (fun _ => 0) (fun _ => 0) (fun _ => 0) (fun _ => 0) 0 false true (fun _ => 0) (fun _ => 0) aZ 32 (fun _ => 0) 0 true aY 32 (fun _ => 0) 0 true 0 (lN 0) 0 (fun _ => 0) (fun _ => 0) false (-1) false false 0 0 (fun _ => 0) false 0 (fun _ => 0) 0 false (fun _ => 0) (fun _ => 0) (fun _ => 0) (fun _ => 0) (fun _ => 0) 0 (fun _ => 0) (fun _ => 0) (by omega) (Nat.zero_le L) ⟨⟨by decide, by decide, by decide, (fun e he => absurd he (Nat.not_lt_zero _)), (fun e he => absurd he (Nat.not_lt_zero _))⟩, Leav_0 (fun _ _ => rfl), by decide, by decide, (fun h => by cases h), ⟨by decide, by decide, by decide, (fun h => by cases h)⟩, ⟨by decide, by decide, by decide, (fun h => by cases h)⟩, ⟨by decide, (fun e he => absurd he (Nat.not_lt_zero _))⟩, Or.inl ⟨rfl, rfl⟩, ⟨by decide, fun _ _ => Nat.le_refl 0⟩⟩ _ _ _ hl w
end
