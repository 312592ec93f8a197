/-! ===== answers that need no run ===== -/
theorem within_in (v lo hi : Int32) : s_X6_isWithin v lo hi = s_X7_in v lo hi := rfl
theorem hasB_hasP (Q : Nat) (i : Int32) : s_X0_hasBequest Q i = s_X0_hasPerson Q i := rfl
theorem hasP_in {P : Nat} (hP : P ≤ 100) (i : Int32) : s_X0_hasPerson P i = s_X7_in i (nI 0) (nI P - nI 1) := by
  rw [Bool.eq_iff_iff, in_iff, z_sub1 (by omega), nI_toInt (by decide)]
  unfold s_X0_hasPerson
  by_cases h1 : i < 0
  · rw [if_pos h1]
    rw [Int32.lt_iff_toInt_lt, Int32.toInt_zero] at h1
    exact ⟨fun h => (by cases h), fun h => by omega⟩
  · rw [if_neg h1]
    rw [Int32.lt_iff_toInt_lt, Int32.toInt_zero] at h1
    by_cases h2 : nI P ≤ i
    · rw [if_pos h2]
      rw [Int32.le_iff_toInt_le, nI_toInt (by omega)] at h2
      exact ⟨fun h => (by cases h), fun h => by omega⟩
    · rw [if_neg h2]
      rw [Int32.le_iff_toInt_le, nI_toInt (by omega)] at h2
      exact ⟨fun _ => by omega, fun _ => rfl⟩
theorem hasP_nat9 {P : Nat} {i : Int32} (h : s_X0_hasPerson P i = true) (hP : P ≤ 100) : i = nI i.toNatClampNeg ∧ i.toNatClampNeg < P := by
  unfold s_X0_hasPerson at h
  split at h
  · cases h
  · rename_i h1
    split at h
    · cases h
    · rename_i h2
      obtain ⟨j, hj, rfl⟩ := nI_of h1
      rw [nI_leI (by omega) hj] at h2
      rw [nI_clamp hj]
      exact ⟨rfl, by omega⟩
section
variable {P Q Hn : Nat} {sd msd : Int32} {B : zB} {mP mQ : Nat} {mpe mno : zF}
theorem BK.eP (K : BK P Q Hn sd B mP mQ msd mpe mno) : mP = P := K.1.2.2.2.2.1
theorem BK.eQ (K : BK P Q Hn sd B mP mQ msd mpe mno) : mQ = Q := K.1.2.2.2.2.2.1
theorem BK.es (K : BK P Q Hn sd B mP mQ msd mpe mno) : msd = sd := K.1.2.2.2.2.2.2
theorem BK.leaves (K : BK P Q Hn sd B mP mQ msd mpe mno) (j : Nat) : s_X0_leaves Q B (nI j) = s_X7_leavesOf Q mno (nI j) := by
  have h1 : s_X0_leaves Q B (nI j) = lsum (nzC B Q j) (nI 0) := leaves_eq B (nI j) Q 0 (nI 0)
  have h2 : s_X7_leavesOf Q mno (nI j) = lsum (nzM mno Q j) (nI 0) := leavesOf_eq mno (nI j) Q 0 (nI 0)
  rw [h1, h2, K.lists (B2 := B) (mwi := mno) (fun k _ => ⟨rfl, rfl, rfl⟩) (fun q _ => rfl) j]
theorem ans_person (K : BK P Q Hn sd B mP mQ msd mpe mno) (i wh : Int32) : s_X6_person P Q B i wh = s_X7_person mP mQ mpe mno i wh := by
  have hP := K.1.2.1
  unfold s_X6_person s_X7_person
  rw [K.eP, K.eQ, ← hasP_in (P := P) (by omega)]
  by_cases h : s_X0_hasPerson P i = true
  · rw [if_pos h, if_pos h]
    obtain ⟨e, hi⟩ := hasP_nat9 h (by omega)
    obtain ⟨⟨b, b1, b2, b3⟩, ⟨g, g1, g2, g3⟩, ⟨x, x0, x1, x2, x3⟩, ⟨y, y1, y2, y3⟩, ⟨z, z1, z2, z3⟩⟩ := K.2.1 _ hi
    by_cases hw : s_X7_in wh (nI 0) (nI 5) = true
    · rw [if_pos hw]
      obtain ⟨ew, hw2⟩ := in_nat hw (by decide) (by decide)
      generalize hi9 : i.toNatClampNeg = i9 at *
      generalize hw9 : wh.toNatClampNeg = w9 at *
      subst ew
      have : w9 = 0 ∨ w9 = 1 ∨ w9 = 2 ∨ w9 = 3 ∨ w9 = 4 ∨ w9 = 5 := by omega
      rcases this with rfl | rfl | rfl | rfl | rfl | rfl
      · rw [if_pos rfl, if_neg (by decide), b2]; exact b3.symm
      · rw [if_neg (by decide), if_pos rfl, if_neg (by decide), g2]; exact g3.symm
      · rw [if_neg (by decide), if_neg (by decide), if_pos rfl, if_neg (by decide), x2]; exact x3.symm
      · rw [if_neg (by decide), if_neg (by decide), if_neg (by decide), if_pos rfl, if_neg (by decide), y2]; exact y3.symm
      · rw [if_neg (by decide), if_neg (by decide), if_neg (by decide), if_neg (by decide), if_pos rfl, if_neg (by decide), z2]; exact z3.symm
      · rw [if_neg (by decide), if_neg (by decide), if_neg (by decide), if_neg (by decide), if_neg (by decide), if_pos rfl, if_pos (by decide), e]
        exact K.leaves i9
    · have key : ∀ k : Nat, k ≤ 5 → ¬ wh = nI k := fun k hk z => hw (by
        rw [z]
        have : k = 0 ∨ k = 1 ∨ k = 2 ∨ k = 3 ∨ k = 4 ∨ k = 5 := by omega
        rcases this with rfl | rfl | rfl | rfl | rfl | rfl <;> decide)
      rw [if_neg hw, if_neg (key 0 (by decide)), if_neg (key 1 (by decide)), if_neg (key 2 (by decide)), if_neg (key 3 (by decide)), if_neg (key 4 (by decide)), if_neg (key 5 (by decide))]
  · rw [if_neg h, if_neg h]
theorem ans_bequest (K : BK P Q Hn sd B mP mQ msd mpe mno) (i wh : Int32) : s_X6_bequest Q B i wh = s_X7_bequest mQ mno i wh := by
  have hP := K.1.2.1
  have hQ := K.1.2.2.1
  unfold s_X6_bequest s_X7_bequest
  rw [K.eQ, hasB_hasP, ← hasP_in (P := Q) (by omega)]
  by_cases h : s_X0_hasPerson Q i = true
  · rw [if_pos h, if_pos h]
    obtain ⟨e, hi⟩ := hasP_nat9 h (by omega)
    obtain ⟨⟨f, f1, f2, f3⟩, ⟨t, t1, t2, t3⟩, ⟨z, z0, z1, z2, z3⟩⟩ := K.2.2.1 _ hi
    by_cases hw : s_X7_in wh (nI 0) (nI 2) = true
    · rw [if_pos hw]
      obtain ⟨ew, hw2⟩ := in_nat hw (by decide) (by decide)
      generalize hw9 : wh.toNatClampNeg = w9 at *
      subst ew
      have : w9 = 0 ∨ w9 = 1 ∨ w9 = 2 := by omega
      rcases this with rfl | rfl | rfl
      · rw [if_pos rfl]; exact f2.trans f3.symm
      · rw [if_neg (by decide), if_pos rfl]; exact t2.trans t3.symm
      · rw [if_neg (by decide), if_neg (by decide), if_pos rfl]; exact z2.trans z3.symm
    · have key : ∀ k : Nat, k ≤ 2 → ¬ wh = nI k := fun k hk z => hw (by
        rw [z]
        have : k = 0 ∨ k = 1 ∨ k = 2 := by omega
        rcases this with rfl | rfl | rfl <;> decide)
      rw [if_neg hw, if_neg (key 0 (by decide)), if_neg (key 1 (by decide)), if_neg (key 2 (by decide))]
  · rw [if_neg h, if_neg h]
theorem owes_alg (a b x y : Int32) : (a - b + nI 1000) + x - y = (a + x) - (b + y) + nI 1000 := by
  simp only [Int32.sub_eq_add_neg, Int32.neg_add]
  ac_rfl
theorem owes_rel (K : BK P Q Hn sd B mP mQ msd mpe mno) (i : Int32) : ∀ (n k : Nat) (a b : Int32), k + n = Q → f_X7_owes_16 mno i n k (a - b + nI 1000) = f_X0_leaves_4 B i n k a - f_X0_isLeft_4 B i n k b + nI 1000
  | 0, k, a, b, _ => rfl
  | n + 1, k, a, b, hk => by
    obtain ⟨⟨f, f1, f2, f3⟩, ⟨t, t1, t2, t3⟩, ⟨z, z0, z1, z2, z3⟩⟩ := K.2.2.1 k (by omega)
    have e1 : mno (3 * k) = B.2.2.2.2.2.1 k := f3.trans f2.symm
    have e2 : mno (3 * k + 1) = B.2.2.2.2.2.2.1 k := t3.trans t2.symm
    have e3 : mno (3 * k + 2) = B.2.2.2.2.2.2.2.1 k := z3.trans z2.symm
    rw [f_X7_owes_16, f_X0_leaves_4, f_X0_isLeft_4, e1, e2, e3]
    by_cases c1 : B.2.2.2.2.2.1 k = i
    · rw [if_pos c1, if_pos c1]
      by_cases c2 : B.2.2.2.2.2.2.1 k = i
      · rw [if_pos c2, if_pos c2, owes_alg]
        exact owes_rel K i n (k + 1) _ _ (by omega)
      · rw [if_neg c2, if_neg c2, owes_alg, z_add0]
        exact owes_rel K i n (k + 1) _ _ (by omega)
    · rw [if_neg c1, if_neg c1]
      by_cases c2 : B.2.2.2.2.2.2.1 k = i
      · rw [if_pos c2, if_pos c2, owes_alg, z_add0]
        exact owes_rel K i n (k + 1) _ _ (by omega)
      · rw [if_neg c2, if_neg c2, z_add0, z_sub0]
        exact owes_rel K i n (k + 1) _ _ (by omega)
theorem ans_owes (K : BK P Q Hn sd B mP mQ msd mpe mno) (i : Int32) : s_X6_owes P Q B i = s_X7_owes mP mQ mno i := by
  have hP := K.1.2.1
  unfold s_X6_owes s_X7_owes
  rw [K.eP, K.eQ, ← hasP_in (P := P) (by omega)]
  by_cases h : s_X0_hasPerson P i = true
  · rw [if_pos h, if_pos h]
    have := owes_rel K i Q 0 (nI 0) (nI 0) (by omega)
    rw [show nI 0 - nI 0 + nI 1000 = nI 1000 by decide] at this
    exact this.symm
  · rw [if_neg h, if_neg h]
theorem ring_tab : ∀ v : Fin 64, ∀ j : Fin 6, (nI v.val &&& ((nI 1) <<< ((nI j.val) &&& 31)) = 0 ↔ ¬ ((nI v.val >>> ((nI j.val) &&& 31)) &&& (nI 1)) = nI 1) := by decide +kernel
theorem or_0 : ∀ v : Fin 64, nI v.val ||| nI 0 = nI v.val := by decide +kernel
theorem heirs_rel (K : BK P Q Hn sd B mP mQ msd mpe mno) {r : Nat} (hr : r < 64) : ∀ (n k v : Nat), k + n = Q → v < 64 → f_X0_heirsOf_4 B (nI r) n k (nI v) = f_X7_ring_30 mno (nI r) n k (nI v) ∧ ∃ w, w < 64 ∧ f_X0_heirsOf_4 B (nI r) n k (nI v) = nI w
  | 0, k, v, _, hv => ⟨rfl, v, hv, rfl⟩
  | n + 1, k, v, hk, hv => by
    have hP := K.1.2.1
    obtain ⟨⟨f, f1, f2, f3⟩, ⟨t, t1, t2, t3⟩, -⟩ := K.2.2.1 k (by omega)
    have e1 : B.2.2.2.2.2.1 k = nI f := f2
    have e2 : B.2.2.2.2.2.2.1 k = nI t := t2
    have hT := ring_tab ⟨r, hr⟩ ⟨f, by omega⟩
    rw [f_X0_heirsOf_4, f_X7_ring_30, e1, e2, f3, show mno (3 * k + 1) = nI t from t3]
    by_cases c : nI r &&& ((nI 1) <<< ((nI f) &&& 31)) = 0
    · rw [if_pos c, if_neg (hT.mp c), or_0 ⟨v, hv⟩]
      exact heirs_rel K hr n (k + 1) v (by omega) hv
    · have c2 : ((nI r >>> ((nI f) &&& 31)) &&& (nI 1)) = nI 1 := Classical.byContradiction (fun z => c (hT.mpr z))
      obtain ⟨o1, o2, -⟩ := has_tab ⟨v, hv⟩ ⟨t, by omega⟩
      rw [if_neg c, if_pos c2, show nI v ||| ((nI 1) <<< ((nI t) &&& 31)) = nI (v ||| 2 ^ t) from o1]
      exact heirs_rel K hr n (k + 1) (v ||| 2 ^ t) (by omega) o2
theorem ring_rel (K : BK P Q Hn sd B mP mQ msd mpe mno) {i : Nat} (hi : i < P) : ∀ (n st r : Nat), r < 64 → f_X6_fewestBack_6 Q B (nI i) n st (nI r) = f_X7_ring_16 Q mno (nI i) n st (nI r)
  | 0, st, r, _ => rfl
  | n + 1, st, r, hr => by
    have hP := K.1.2.1
    obtain ⟨h1, w, hw, h2⟩ := heirs_rel K hr Q 0 0 (by omega) (by decide)
    have e1 : s_X0_heirsOf Q B (nI r) = nI w := h2
    have e2 : f_X7_ring_30 mno (nI r) Q 0 (nI 0) = nI w := h1.symm.trans h2
    have hT := ring_tab ⟨w, hw⟩ ⟨i, by omega⟩
    rw [f_X6_fewestBack_6, f_X7_ring_16, e1, e2]
    by_cases c : nI w &&& ((nI 1) <<< ((nI i) &&& 31)) = 0
    · rw [if_pos c, if_neg (hT.mp c)]
      exact ring_rel K hi n (st + 1) w hw
    · rw [if_neg c, if_pos (Classical.byContradiction (fun z => c (hT.mpr z)))]
theorem ans_ring (K : BK P Q Hn sd B mP mQ msd mpe mno) (i : Int32) : s_X6_ring P Q B i = s_X7_ring mP mQ mno i := by
  have hP := K.1.2.1
  unfold s_X6_ring s_X7_ring
  rw [K.eP, K.eQ, ← hasP_in (P := P) (by omega)]
  by_cases h : s_X0_hasPerson P i = true
  · rw [if_pos h, if_pos h]
    obtain ⟨e, hi⟩ := hasP_nat9 h (by omega)
    unfold s_X6_fewestBack
    obtain ⟨o1, o2, -⟩ := has_tab ⟨0, by decide⟩ ⟨i.toNatClampNeg, by omega⟩
    have e1 : (nI 1) <<< (i &&& 31) = nI (0 ||| 2 ^ i.toNatClampNeg) := by
      rw [← show nI 0 ||| ((nI 1) <<< ((nI i.toNatClampNeg) &&& 31)) = nI (0 ||| 2 ^ i.toNatClampNeg) from o1, ← e, nI_0]
      exact (Int32.zero_or).symm
    rw [e1]
    have := ring_rel K hi P 1 (0 ||| 2 ^ i.toNatClampNeg) o2
    rw [← e] at this
    exact this
  · rw [if_neg h, if_neg h]
end
