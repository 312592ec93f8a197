/-! ===== the law's start ===== -/
theorem zNest_tbl : ∀ w ∈ zNest, w ∈ lw_tbl := by decide +kernel
theorem law_Nw {s : State} {args : Array Value} (hts : ∀ w ∈ lw_tbl, w.before args s = true) : zNw s := fun w hw => va_Nw.of (zNest_on w hw) (hts w (zNest_tbl w hw))
theorem law_AO {s : State} {args : Array Value} (hts : ∀ w ∈ lw_tbl, w.before args s = true) : (Cond.arrayOver (.array .int)).before args s = true := hts _ (by decide +kernel)
theorem law_K {s : State} {args : Array Value} (hts : ∀ w ∈ wsL_law, w.before args s = true) (hAO : (Cond.arrayOver (.array .int)).before args s = true) : ∃ (D : va_G) (cI cC cJ : ClassId), va_K D vwCl (zT cI cC cJ) s := by
  obtain ⟨c0, i0, h0⟩ := u_known (ws := wsL_law) (C := RX0) (T := TX0) (N := 15) (n := 15) hts (fun w h => (ggL_law_X6_init w (inw_X6_init_X0 w h)).1) (hts _ (ggL_law_X6_init (.instantiable RX0 15) (List.mem_of_getElem? (i := 13) (by rfl))).1)
  obtain ⟨c1, i1, h1⟩ := u_known (ws := wsL_law) (C := RX1) (T := TX1) (N := 4) (n := 4) hts (fun w h => (ggL_law_X6_init w (inw_X6_init_X1 w h)).1) (hts _ (ggL_law_X6_init (.instantiable RX1 4) (List.mem_of_getElem? (i := 24) (by rfl))).1)
  obtain ⟨c2, i2, h2⟩ := u_known (ws := wsL_law) (C := RX2) (T := TX2) (N := 3) (n := 3) hts (fun w h => (ggL_law_X6_init w (inw_X6_init_X2 w h)).1) (hts _ (ggL_law_X6_init (.instantiable RX2 3) (List.mem_of_getElem? (i := 9) (by rfl))).1)
  obtain ⟨c3, i3, h3⟩ := u_known (ws := wsL_law) (C := RX3) (T := TX3) (N := 2) (n := 2) hts (fun w h => (ggL_law_X6_init w (inw_X6_init_X3 w h)).1) (hts _ (ggL_law_X6_init (.instantiable RX3 2) (List.mem_of_getElem? (i := 5) (by rfl))).1)
  obtain ⟨c4, i4, h4⟩ := u_known (ws := wsL_law) (C := RX4) (T := TX4) (N := 4) (n := 4) hts (fun w h => (ggL_law_X6_init w (inw_X6_init_X4 w h)).1) (hts _ (ggL_law_X6_init (.instantiable RX4 4) (List.mem_of_getElem? (i := 28) (by rfl))).1)
  obtain ⟨c5, i5, h5⟩ := u_known (ws := wsL_law) (C := RX5) (T := TX5) (N := 10) (n := 10) hts (fun w h => (ggL_law_X6_init w (inw_X6_init_X5 w h)).1) (hts _ (ggL_law_X6_init (.instantiable RX5 10) (List.mem_of_getElem? (i := 17) (by rfl))).1)
  obtain ⟨c6, i6, h6⟩ := u_known (ws := wsL_law) (C := RX6) (T := TX6) (N := 12) (n := 12) hts (fun w h => (ggL_law_X6_init w (inw_X6_init_X6 w h)).1) (hts (.instantiable RX6 12) (List.mem_of_getElem? (i := 1) (by rfl)))
  obtain ⟨c7, i7, h7⟩ := u_known (ws := wsL_law) (C := RX7) (T := TX7) (N := 31) (n := 31) hts (fun w h => (ggL_law_X7_init w (inw_X7_init_X7 w h)).1) (hts (.instantiable RX7 31) (List.mem_of_getElem? (i := 4) (by rfl)))
  obtain ⟨cI, kI, pI, e1, e2, e3⟩ := Cond.arrayClass_spec (hts (.arrayClass .int) (List.mem_of_getElem? (i := 52) (by rfl)))
  obtain ⟨cC, kC, pC, f1, f2, f3⟩ := Cond.arrayClass_spec (hts (.arrayClass .char) (List.mem_of_getElem? (i := 45) (by rfl)))
  obtain ⟨pJ, cJ, kJ, -, -, g2, g3, g1⟩ := Jvm.Stand.arrayOver_specB hAO
  refine ⟨(fun c => match c with | 0 => c0 | 1 => c1 | 2 => c2 | 3 => c3 | 4 => c4 | 5 => c5 | 6 => c6 | _ => c7, fun c => match c with | 0 => i0 | 1 => i1 | 2 => i2 | 3 => i3 | 4 => i4 | 5 => i5 | 6 => i6 | _ => i7), cI, cC, cJ, fun c q hq => ?_, fun k q hk => ?_⟩
  · match c, hq with
    | 0, hq => cases hq; exact h0
    | 1, hq => cases hq; exact h1
    | 2, hq => cases hq; exact h2
    | 3, hq => cases hq; exact h3
    | 4, hq => cases hq; exact h4
    | 5, hq => cases hq; exact h5
    | 6, hq => cases hq; exact h6
    | 7, hq => cases hq; exact h7
    | c + 8, hq => cases hq
  · match k, hk with
    | 0, hk => cases hk; exact ⟨fun n z => ⟨fun k h => (by cases h), kI, e2, pI, e3⟩, e1⟩
    | 1, hk => cases hk; exact ⟨fun n z => ⟨fun k h => (by cases h), kC, f2, pC, f3⟩, f1⟩
    | 2, hk => cases hk; exact ⟨fun n z => ⟨fun k h => (by cases h), kJ, g2, pJ, g3⟩, g1⟩
    | k + 3, hk => cases hk
theorem law_el : ∀ j, j < 90 → (Jvm.Cond.eq (Jvm.Term.elem (Jvm.Term.field (Jvm.Term.string "WillsReadFirst" (75 : Nat)) "java/lang/String" "value" "[B") (Jvm.Term.int (Int32.ofNat j))) (Jvm.Term.int (byt0.getD j 0))) ∈ flatC (Jvm.Cond.and given_1 narrow_1) := by decide +kernel
theorem law_str {s : State} {args : Array Value} (hts : ∀ w ∈ lw_tbl, w.before args s = true) (hgv : (Jvm.Cond.and given_1 narrow_1).before args s = true) {A : Nat → Prop} (hA : ∀ a : Nat, a < s.heap.size → ¬ A a) : ∃ kS vS : Nat, zStr A kS vS s s.heap ∧ vk_R "WillsReadFirst" 75 "p0,3,60,0;p5,4,50,1;p10,2,70,2;p12,5,40,3;w0,1,40;w0,2,20;w1,3,60;w2,0,15;w3,2,30;g2,5;z7;" kS s := by
  have hs := flat_of_before _ hgv
  obtain ⟨adK, adV, hS, hT⟩ := vk_Sof (args := args) (s := s) (N := 1) (tm := fun _ => .string "WillsReadFirst" 75) (len := [90]) (byt := [byt0]) (A := A)
    (fun i hi => by obtain rfl : i = 0 := by omega
                    decide) (fun _ _ => hs _ (by decide +kernel)) (fun _ _ => hs _ (by decide +kernel)) (fun _ _ => hs _ (by decide +kernel))
    (fun i hi => by obtain rfl : i = 0 := by omega
                    exact hs _ (by decide +kernel))
    (fun i hi j hj => by obtain rfl : i = 0 := by omega
                         exact hs _ (law_el j hj)) (fun i j hi hj hij => absurd (show i = j by omega) hij) hA
  obtain ⟨q1, q2, q3, q4⟩ := hS.1 0 (by decide)
  exact ⟨adK 0, adV 0, ⟨va_Zof (hts _ (by decide +kernel)) (hts _ (by decide +kernel)) (va_eqt (hs _ (by decide +kernel))) hA, q1, q2, q3, q4, va_Zqof (hts _ (by decide +kernel)) (hts _ (by decide +kernel)) (hs _ (by decide +kernel)) hA⟩, vk_R.of (hts _ (by decide +kernel)) (hT 0 (by decide))⟩
def zE0 (A : Nat → Prop) (bS L : Nat) (xs : Nat → Int32) (kS vS : Nat) (s : State) : Prop := (va_X bS L xs s s.heap ∧ bS < s.heap.size ∧ ¬ A bS) ∧ zAO s ∧ zStr A kS vS s s.heap ∧ vk_R "WillsReadFirst" 75 "p0,3,60,0;p5,4,50,1;p10,2,70,2;p12,5,40,3;w0,1,40;w0,2,20;w1,3,60;w2,0,15;w3,2,30;g2,5;z7;" kS s
theorem zk_lo {l : Launch} {R : Room} {cc : ByteArray} {nL : Nat} {Ts : List Cond} {own : String} {D : va_G} {tys : zTy} {A : Nat → Prop} {E : State → Array Value → Prop} {ini : Bool} {Z : Nat → Nat → List va_W → zL → Nat → List Value → Prop} {k n : Nat} (O : zON l R cc nL Ts own D tys A E ini Z) {bS L : Nat} {xs : Nat → Int32} (hE : ∀ (s : State) (args : Array Value), E s args → va_X bS L xs s s.heap ∧ bS < s.heap.size ∧ ¬ A bS) (h1 : k ≤ R.cells) (h2 : n ≤ R.slots) : zLO l R cc nL Ts own D tys A bS L xs (Z k n) := by
  obtain ⟨p, e, s, m, args, below, meth, c, Q, hF, hK, hA, hi, hE9, rfl⟩ := O
  exact ⟨p, e, s, m, args, below, meth, c, k, n, Q, hF, hK, ⟨h1, h2⟩, hE s args hE9, rfl⟩
theorem sN_L_7 : zNW wsL_law RL 7 6 12 [.null, .null, .null, .null, .int (nI 0), .null, .null, .null, .null, .null, .null, .int (nI 0)] := ⟨RX6, TX6, tyX6, rfl, fun w h => (ggL_law_X6_init w (inw_X6_init_X6 w h)).1, tyX6_ok, List.mem_of_getElem? (i := 0) (by rfl), List.mem_of_getElem? (i := 1) (by rfl), List.mem_of_getElem? (i := 2) (by rfl), fun j hj => by
  rcases (show j = 0 ∨ j = 1 ∨ j = 2 ∨ j = 3 ∨ j = 4 ∨ j = 5 ∨ j = 6 ∨ j = 7 ∨ j = 8 ∨ j = 9 ∨ j = 10 ∨ j = 11 by omega) with rfl | rfl | rfl | rfl | rfl | rfl | rfl | rfl | rfl | rfl | rfl | rfl <;> rfl⟩
theorem sN_L_10 : zNW wsL_law RL 10 7 31 [.int (nI 0), .null, .int (nI 0), .null, .int (nI 0), .int (nI 0), .int (nI 0), .null, .null, .int (nI 0), .int (nI 0), .null, .int (nI 0), .int (nI 0), .null, .null, .int (nI 0), .null, .int (nI 0), .int (nI 0), .null, .null, .int (nI 0), .null, .int (nI 0), .null, .null, .null, .null, .int (nI 0), .null] := ⟨RX7, TX7, tyX7, rfl, fun w h => (ggL_law_X7_init w (inw_X7_init_X7 w h)).1, tyX7_ok, List.mem_of_getElem? (i := 3) (by rfl), List.mem_of_getElem? (i := 4) (by rfl), List.mem_of_getElem? (i := 5) (by rfl), fun j hj => by
  rcases (show j = 0 ∨ j = 1 ∨ j = 2 ∨ j = 3 ∨ j = 4 ∨ j = 5 ∨ j = 6 ∨ j = 7 ∨ j = 8 ∨ j = 9 ∨ j = 10 ∨ j = 11 ∨ j = 12 ∨ j = 13 ∨ j = 14 ∨ j = 15 ∨ j = 16 ∨ j = 17 ∨ j = 18 ∨ j = 19 ∨ j = 20 ∨ j = 21 ∨ j = 22 ∨ j = 23 ∨ j = 24 ∨ j = 25 ∨ j = 26 ∨ j = 27 ∨ j = 28 ∨ j = 29 ∨ j = 30 by omega) with rfl | rfl | rfl | rfl | rfl | rfl | rfl | rfl | rfl | rfl | rfl | rfl | rfl | rfl | rfl | rfl | rfl | rfl | rfl | rfl | rfl | rfl | rfl | rfl | rfl | rfl | rfl | rfl | rfl | rfl | rfl <;> rfl⟩
theorem sM_L_9 : zMC room_1 wsL_law RL 9 yX6_init wsX6_init rm_X6_init 0 90 2535 := ⟨_, _, _, rfl, ggL_law_X6_init, ⟨rfl, rfl⟩, ⟨List.mem_of_getElem? (i := 2) (by rfl), List.mem_of_getElem? (i := 7) (by rfl), Or.inr (List.mem_of_getElem? (i := 6) (by rfl))⟩, rfl, by decide +kernel, by decide⟩
theorem sM_L_12 : zMC room_1 wsL_law RL 12 yX7_init wsX7_init rm_X7_init 0 16 1749 := ⟨_, _, _, rfl, ggL_law_X7_init, ⟨rfl, rfl⟩, ⟨List.mem_of_getElem? (i := 5) (by rfl), List.mem_of_getElem? (i := 213) (by rfl), Or.inr (List.mem_of_getElem? (i := 212) (by rfl))⟩, rfl, by decide +kernel, by decide⟩
theorem zflat2 (X : List va_W) (M : va_W) : [X.flatten, M].flatten = (X ++ [M]).flatten := by simp
set_option maxHeartbeats 4000000 in
set_option maxRecDepth 100000 in
theorem law_walk {l : Launch} {D : va_G} {A : Nat → Prop} {bS L : Nat} {xs : Nat → Int32} {kS vS : Nat} {cI cC cJ : ClassId} {Z : Nat → Nat → List va_W → zL → Nat → List Value → Prop} (O : zON l room_1 cL_law 4 wsL_law RL D (zT cI cC cJ) A (fun s _ => zE0 A bS L xs kS vS s) false Z) (hL : L ≤ 2560) (hend : ∀ ws lv, Z 108 4327 ws lv 932 [.int (nI 1)]) : Z 0 0 [] [(0, .ref bS)] 0 [] := by
  refine zk_new (pc2 := 3) O sN_L_7 (Nat.le_of_ble_eq_true rfl) (Nat.le_of_ble_eq_true rfl) dL_law_0 rfl (fun q6 => ?_)
  refine zr_dup (pc2 := 4) (zk_as O (Nat.le_of_ble_eq_true rfl) (Nat.le_of_ble_eq_true rfl)) dL_law_3 rfl rfl ?_
  refine zk_callI (pc2 := 7) (As := []) (rest := [.ref q6]) (ws0 := []) (E1 := zE6 kS vS) O (c_X6_init l D cI cC cJ kS vS q6) sM_L_9 (fun s U args H locs B h hS hB hW hU => ⟨zAO.moved hW.alike h.2.1, by rw [hU]; exact ((h.2.2.1.kept hS.2.1).moved hW.alike).narrow hB, h.2.2.2.warm hW⟩) (fun B u U hv hh h => ⟨zAO.moved (by rw [hv]; exact Vm.Alike.refl _) h.1, by rw [← hh]; exact h.2.1.moved (by rw [hv]; exact Vm.Alike.refl _), h.2.2.same hv.symm⟩) rfl rfl rfl dL_law_4 (Nat.le_of_ble_eq_true rfl) (Nat.le_of_ble_eq_true rfl) (Nat.le_of_ble_eq_true rfl) rfl (fun a ha => ?_)
  subst ha
  refine zr_astore_n (pc2 := 8) (lv2 := [(1, .ref (a 0)), (0, .ref bS)]) (zk_as O (Nat.le_of_ble_eq_true rfl) (Nat.le_of_ble_eq_true rfl)) dL_law_7 rfl (by decide) rfl rfl ?_
  refine zk_new (pc2 := 11) O sN_L_10 (Nat.le_of_ble_eq_true rfl) (Nat.le_of_ble_eq_true rfl) dL_law_8 rfl (fun q7 => ?_)
  refine zr_dup (pc2 := 12) (zk_as O (Nat.le_of_ble_eq_true rfl) (Nat.le_of_ble_eq_true rfl)) dL_law_11 rfl rfl ?_
  refine zk_callI (pc2 := 15) (As := []) (rest := [.ref q7]) (ws0 := [(x6W cI cC cJ (a 0) (fun q => a (1 + 11 * q)) (fun q => a (2 + 11 * q)) (fun q => a (3 + 11 * q)) (fun q => a (4 + 11 * q)) (fun q => a (5 + 11 * q)) (fun q => a (6 + 11 * q)) (fun q => a (7 + 11 * q)) (fun q => a (8 + 11 * q)) (fun q => a (9 + 11 * q)) (fun q => a (10 + 11 * q))).flatten]) (E1 := (fun _ _ => True)) O (c_X7_init l D cI cC cJ q7) sM_L_12 (fun _ _ _ _ _ _ _ _ _ _ _ => trivial) (fun _ _ _ _ _ _ => trivial) rfl rfl rfl dL_law_12 (Nat.le_of_ble_eq_true rfl) (Nat.le_of_ble_eq_true rfl) (Nat.le_of_ble_eq_true rfl) rfl (fun a2 ha2 => ?_)
  subst ha2
  refine zk_wid (k2 := 108) (n2 := 4327) O (Nat.le_of_ble_eq_true rfl) (Nat.le_of_ble_eq_true rfl) ?_
  refine zk_regroup (ws2 := lawW cI cC cJ (a 0) (fun q => a (1 + 11 * q)) (fun q => a (2 + 11 * q)) (fun q => a (3 + 11 * q)) (fun q => a (4 + 11 * q)) (fun q => a (5 + 11 * q)) (fun q => a (6 + 11 * q)) (fun q => a (7 + 11 * q)) (fun q => a (8 + 11 * q)) (fun q => a (9 + 11 * q)) (fun q => a (10 + 11 * q)) a2 true 0 0 (Le0 90) (u0.2.1) (u0.2.2.1) (u0.2.2.2.1) (u0.2.2.2.2.1) (u0.2.2.2.2.2.1) (u0.2.2.2.2.2.2.1) (u0.2.2.2.2.2.2.2) (nI 0) zY0 (fun _ _ => nI 0) 0 0 0 (nI 0) zB0 (nI 0) zY0 (fun _ _ => nI 0) 0 zC0 0 zC0 0 0 0 (nI 0) zB0 0 0 0 (nI 0) zB0 0 0 0 0 0 4 5 0 0 0 0 (nI 0) (nI 7) (nI 0) (nI 0) (fun _ => nI 0) (fun _ => nI 0) (fun _ => nI 0) (fun _ => nI 0) mpe0 mno0 (fun _ => nI 0) (fun _ => nI 0) (fun _ => nI 0) (fun _ => nI 0) (fun _ => nI 0) (fun _ => nI 0) (fun _ => nI 0) (fun _ => nI 0) (fun _ => nI 0) (fun _ => nI 0)) O (zflat2 _ _) ?_
  refine zr_astore_n (pc2 := 16) (lv2 := [(2, .ref (a2 31)), (1, .ref (a 0)), (0, .ref bS)]) (zk_as O (Nat.le_of_ble_eq_true rfl) (Nat.le_of_ble_eq_true rfl)) dL_law_15 rfl (by decide) rfl rfl ?_
  refine zr_iconst (v := nI 0) (pc2 := 17) (zk_as O (Nat.le_of_ble_eq_true rfl) (Nat.le_of_ble_eq_true rfl)) dL_law_16 (by decide +kernel) rfl ?_
  refine zr_istore_n (pc2 := 18) (lv2 := [(3, .int (nI 0)), (2, .ref (a2 31)), (1, .ref (a 0)), (0, .ref bS)]) (zk_as O (Nat.le_of_ble_eq_true rfl) (Nat.le_of_ble_eq_true rfl)) dL_law_17 rfl (by decide) rfl rfl ?_
  exact law_loop (zk_lo O (fun s _ h => h.1) (Nat.le_of_ble_eq_true rfl) (Nat.le_of_ble_eq_true rfl)) hL hend 2560 0 (by omega) (by decide) SYS_0
