/-! ===== the class and the reference as made ===== -/
abbrev uB : zB := u0.2.2.2.2.2.2.2
theorem u0_ok : u0.2.2.2.1 = 4 ∧ u0.2.2.2.2.1 = 5 ∧ u0.2.2.2.2.2.1 = 0 ∧ u0.2.2.2.2.2.2.1 = nI 7 := by decide +kernel
theorem mpe0_ok : ∀ j, j < 4 → (mpe0 (5 * j)).toNatClampNeg ≤ 60 ∧ (mpe0 (5 * j + 1)).toNatClampNeg ≤ 9 ∧ (20 ≤ (mpe0 (5 * j + 2)).toNatClampNeg ∧ (mpe0 (5 * j + 2)).toNatClampNeg ≤ 99) ∧ (mpe0 (5 * j + 3)).toNatClampNeg ≤ 3 ∧ (mpe0 (5 * j + 4)).toNatClampNeg ≤ 99 := by decide +kernel
theorem mpe0_nI : ∀ q, q < 20 → mpe0 q = nI (mpe0 q).toNatClampNeg := by decide +kernel
theorem mno0_ok : ∀ j, j < 5 → (mno0 (3 * j)).toNatClampNeg < 4 ∧ (mno0 (3 * j + 1)).toNatClampNeg < 4 ∧ 1 ≤ (mno0 (3 * j + 2)).toNatClampNeg ∧ (mno0 (3 * j + 2)).toNatClampNeg ≤ 99 := by decide +kernel
theorem mno0_nI : ∀ q, q < 15 → mno0 q = nI (mno0 q).toNatClampNeg := by decide +kernel
theorem uB_p : ∀ j, j < 4 → uB.1 j = mpe0 (5 * j) ∧ uB.2.1 j = mpe0 (5 * j + 1) ∧ uB.2.2.1 j = mpe0 (5 * j + 2) ∧ uB.2.2.2.1 j = mpe0 (5 * j + 3) ∧ uB.2.2.2.2.1 j = mpe0 (5 * j + 4) := by decide +kernel
theorem uB_q : ∀ j, j < 5 → yFr uB j = mno0 (3 * j) ∧ yTo uB j = mno0 (3 * j + 1) ∧ ySz uB j = mno0 (3 * j + 2) := by decide +kernel
abbrev zz : zF := fun _ => nI 0
theorem BK_0 : BK 4 5 0 (nI 7) uB 4 5 (nI 7) mpe0 mno0 := by
  refine ⟨⟨by decide, by decide, by decide, by decide, rfl, rfl, rfl⟩, fun j hj => ?_, fun k hk => ?_, by decide +kernel, fun h hh => absurd hh (Nat.not_lt_zero h)⟩
  · obtain ⟨e1, e2, e3, e4, e5⟩ := uB_p j hj
    obtain ⟨a1, a2, ⟨a3, a4⟩, a5, a6⟩ := mpe0_ok j hj
    have n0 := mpe0_nI (5 * j) (by omega)
    have n1 := mpe0_nI (5 * j + 1) (by omega)
    have n2 := mpe0_nI (5 * j + 2) (by omega)
    have n3 := mpe0_nI (5 * j + 3) (by omega)
    have n4 := mpe0_nI (5 * j + 4) (by omega)
    exact ⟨⟨_, a1, e1.trans n0, n0⟩, ⟨_, a2, e2.trans n1, n1⟩, ⟨_, a3, a4, e3.trans n2, n2⟩, ⟨_, a5, e4.trans n3, n3⟩, ⟨_, a6, e5.trans n4, n4⟩⟩
  · obtain ⟨e1, e2, e3⟩ := uB_q k hk
    obtain ⟨a1, a2, a3, a4⟩ := mno0_ok k hk
    have n0 := mno0_nI (3 * k) (by omega)
    have n1 := mno0_nI (3 * k + 1) (by omega)
    have n2 := mno0_nI (3 * k + 2) (by omega)
    exact ⟨⟨_, a1, e1.trans n0, n0⟩, ⟨_, a2, e2.trans n1, n1⟩, ⟨_, a3, a4, e3.trans n2, n2⟩⟩
theorem SYS_0 : SYS true 0 0 (Le0 90) (u0.2.2.2.1) (u0.2.2.2.2.1) (u0.2.2.2.2.2.1) (u0.2.2.2.2.2.2.1) uB (nI 0) zY0 (fun _ _ => nI 0) 0 zC0 0 zC0 0 0 0 (nI 0) zB0 0 0 0 (nI 0) zB0 0 4 5 0 0 0 (nI 7) zz mpe0 mno0 zz zz zz := by
  obtain ⟨h1, h2, h3, h4⟩ := u0_ok
  rw [h1, h2, h3, h4]
  exact ⟨⟨rfl, by decide, fun j hj => absurd hj (Nat.not_lt_zero j)⟩, Le0_nar, BK_0, fun w => (by cases w), ⟨rfl, by decide, fun k hk => absurd hk (Nat.not_lt_zero k)⟩, ⟨rfl, by decide, trivial⟩, rfl, by decide, fun w => absurd w (by decide), fun w => absurd w (by decide)⟩
