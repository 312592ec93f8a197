/-! ===== the whole: changes, kept books ===== -/
theorem upd_back {f : Nat → Int32} {k : Nat} {v w : Int32} (h : w = f k) : upd (upd f k v) k w = f := by
  funext q
  by_cases c : q = k
  · subst c
    rw [pk_us, h]
  · rw [pk_un c, pk_un c]
section
variable {P Q Hn : Nat} {sd msd : Int32} {B : zB} {mP mQ : Nat} {mpe mno : zF}
theorem BK_size (K : BK P Q Hn sd B mP mQ msd mpe mno) {k x : Nat} (hk : k < Q) (h1 : 1 ≤ x) (h2 : x ≤ 99) : BK P Q Hn sd (B.1, B.2.1, B.2.2.1, B.2.2.2.1, B.2.2.2.2.1, B.2.2.2.2.2.1, B.2.2.2.2.2.2.1, (upd B.2.2.2.2.2.2.2.1 k (nI x)), B.2.2.2.2.2.2.2.2) mP mQ msd mpe (upd mno (3 * k + 2) (nI x)) := by
  obtain ⟨k1, k2, k3, k4, k5⟩ := K
  have hQ := k1.2.2.1
  have hH := k1.2.2.2.1
  refine ⟨k1, k2, fun j hj => ?_, (pk_un (by omega)).trans k4, fun h hh => ?_⟩
  · obtain ⟨⟨f, f1, f2, f3⟩, ⟨t, t1, t2, t3⟩, ⟨z, z0, z1, z2, z3⟩⟩ := k3 j hj
    refine ⟨⟨f, f1, f2, (pk_un (by omega)).trans f3⟩, ⟨t, t1, t2, (pk_un (by omega)).trans t3⟩, ?_⟩
    by_cases c : j = k
    · subst c
      exact ⟨x, h1, h2, pk_us, pk_us⟩
    · exact ⟨z, z0, z1, (pk_un c).trans z2, (pk_un (by omega)).trans z3⟩
  · obtain ⟨⟨f, f1, f2, f3⟩, ⟨t, t1, t2, t3⟩, ⟨z, z0, z1, z2, z3⟩⟩ := k5 h hh
    exact ⟨⟨f, f1, f2, (pk_un (by omega)).trans f3⟩, ⟨t, t1, t2, (pk_un (by omega)).trans t3⟩, ⟨z, z0, z1, z2, (pk_un (by omega)).trans z3⟩⟩
theorem BK_to (K : BK P Q Hn sd B mP mQ msd mpe mno) {k x : Nat} (hk : k < Q) (h1 : x < P) : BK P Q Hn sd (B.1, B.2.1, B.2.2.1, B.2.2.2.1, B.2.2.2.2.1, B.2.2.2.2.2.1, (upd B.2.2.2.2.2.2.1 k (nI x)), B.2.2.2.2.2.2.2) mP mQ msd mpe (upd mno (3 * k + 1) (nI x)) := by
  obtain ⟨k1, k2, k3, k4, k5⟩ := K
  have hQ := k1.2.2.1
  have hH := k1.2.2.2.1
  refine ⟨k1, k2, fun j hj => ?_, (pk_un (by omega)).trans k4, fun h hh => ?_⟩
  · obtain ⟨⟨f, f1, f2, f3⟩, ⟨t, t1, t2, t3⟩, ⟨z, z0, z1, z2, z3⟩⟩ := k3 j hj
    refine ⟨⟨f, f1, f2, (pk_un (by omega)).trans f3⟩, ?_, ⟨z, z0, z1, z2, (pk_un (by omega)).trans z3⟩⟩
    by_cases c : j = k
    · subst c
      exact ⟨x, h1, pk_us, pk_us⟩
    · exact ⟨t, t1, (pk_un c).trans t2, (pk_un (by omega)).trans t3⟩
  · obtain ⟨⟨f, f1, f2, f3⟩, ⟨t, t1, t2, t3⟩, ⟨z, z0, z1, z2, z3⟩⟩ := k5 h hh
    exact ⟨⟨f, f1, f2, (pk_un (by omega)).trans f3⟩, ⟨t, t1, t2, (pk_un (by omega)).trans t3⟩, ⟨z, z0, z1, z2, (pk_un (by omega)).trans z3⟩⟩
theorem BK_help (K : BK P Q Hn sd B mP mQ msd mpe mno) {a y c : Nat} (hH : Hn < 4) (h1 : a < P) (h2 : y ≤ 150) (h3 : 1 ≤ c) (h4 : c ≤ 99) : BK P Q (Hn + 1) sd (B.1, B.2.1, B.2.2.1, B.2.2.2.1, B.2.2.2.2.1, B.2.2.2.2.2.1, B.2.2.2.2.2.2.1, B.2.2.2.2.2.2.2.1, (upd B.2.2.2.2.2.2.2.2.1 Hn (nI a)), (upd B.2.2.2.2.2.2.2.2.2.1 Hn (nI y)), (upd B.2.2.2.2.2.2.2.2.2.2 Hn (nI c))) mP mQ msd mpe (upd (upd (upd (upd mno (28 + 3 * Hn) (nI a)) (28 + 3 * Hn + 1) (nI y)) (28 + 3 * Hn + 2) (nI c)) 27 (nI (Hn + 1))) := by
  obtain ⟨k1, k2, k3, k4, k5⟩ := K
  obtain ⟨q1, q2, q3, q4, q5⟩ := k1
  have lo : ∀ q, q < 27 → upd (upd (upd (upd mno (28 + 3 * Hn) (nI a)) (28 + 3 * Hn + 1) (nI y)) (28 + 3 * Hn + 2) (nI c)) 27 (nI (Hn + 1)) q = mno q := fun q hq => by
    rw [pk_un (by omega), pk_un (by omega), pk_un (by omega), pk_un (by omega)]
  refine ⟨⟨q1, q2, q3, by omega, q5⟩, k2, fun j hj => ?_, pk_us, fun h hh => ?_⟩
  · obtain ⟨⟨f, f1, f2, f3⟩, ⟨t, t1, t2, t3⟩, ⟨z, z0, z1, z2, z3⟩⟩ := k3 j hj
    exact ⟨⟨f, f1, f2, (lo _ (by omega)).trans f3⟩, ⟨t, t1, t2, (lo _ (by omega)).trans t3⟩, ⟨z, z0, z1, z2, (lo _ (by omega)).trans z3⟩⟩
  · by_cases w : h = Hn
    · subst w
      refine ⟨⟨a, h1, pk_us, ?_⟩, ⟨y, h2, pk_us, ?_⟩, ⟨c, h3, h4, pk_us, ?_⟩⟩
      · rw [pk_un (by omega), pk_un (by omega), pk_un (by omega), pk_us]
      · rw [pk_un (by omega), pk_un (by omega), pk_us]
      · rw [pk_un (by omega), pk_us]
    · have hi : ∀ q, 28 ≤ q → q < 28 + 3 * Hn → upd (upd (upd (upd mno (28 + 3 * Hn) (nI a)) (28 + 3 * Hn + 1) (nI y)) (28 + 3 * Hn + 2) (nI c)) 27 (nI (Hn + 1)) q = mno q := fun q h0 hq => by
        rw [pk_un (by omega), pk_un (by omega), pk_un (by omega), pk_un (by omega)]
      obtain ⟨⟨f, f1, f2, f3⟩, ⟨t, t1, t2, t3⟩, ⟨z, z0, z1, z2, z3⟩⟩ := k5 h (by omega)
      exact ⟨⟨f, f1, (pk_un w).trans f2, (hi _ (by omega) (by omega)).trans f3⟩, ⟨t, t1, (pk_un w).trans t2, (hi _ (by omega) (by omega)).trans t3⟩, ⟨z, z0, z1, (pk_un w).trans z2, (hi _ (by omega) (by omega)).trans z3⟩⟩
end
theorem EQV_refl (Hn : Nat) (B : zB) : EQV Hn B B := ⟨rfl, rfl, rfl, rfl, rfl, rfl, rfl, rfl, fun _ _ => ⟨rfl, rfl, rfl⟩⟩
section
variable {old : Bool} {kb n : Nat} {Le : Nat → Int32} {P Q Hn : Nat} {sd : Int32} {B : zB} {hav : Int32} {Y : zY} {PA : Nat → Nat → Int32} {cn : Nat} {Ch : zC} {sn : Nat} {Sg : zC} {P3 Q3 H3 : Nat} {sd3 : Int32} {B3 : zB} {P4 Q4 H4 : Nat} {sd4 : Int32} {B4 : zB} {mle mP mQ mbk mkp msg : Nat} {msd : Int32} {mtx mpe mno mbo mim msi : zF}
theorem sys_reword (h : SYS old kb n Le P Q Hn sd B hav Y PA cn Ch sn Sg P3 Q3 H3 sd3 B3 P4 Q4 H4 sd4 B4 mle mP mQ mbk mkp msg msd mtx mpe mno mbo mim msi) (i v : Int32) : (s_X6_reword old Q B cn Ch i v).1 = (s_X7_reword mQ mbk mno mbo i v).1 ∧
    SYS (s_X6_reword old Q B cn Ch i v).2.1 kb n Le P Q Hn sd (s_X6_reword old Q B cn Ch i v).2.2.1 hav Y PA (s_X6_reword old Q B cn Ch i v).2.2.2.1 (s_X6_reword old Q B cn Ch i v).2.2.2.2 sn Sg P3 Q3 H3 sd3 B3 P4 Q4 H4 sd4 B4 mle mP mQ (s_X7_reword mQ mbk mno mbo i v).2.1 mkp msg msd mtx mpe (s_X7_reword mQ mbk mno mbo i v).2.2.1 (s_X7_reword mQ mbk mno mbo i v).2.2.2 mim msi := by
  have h0 := h
  obtain ⟨T, hL, K, hT, hS, ⟨rfl, c1, c2⟩, hK⟩ := h
  have eP := K.eP
  have eQ := K.eQ
  have es := K.es
  subst eP eQ es
  have hQ := K.1.2.2.1
  unfold s_X6_reword s_X7_reword
  rw [hasB_hasP, ← hasP_in (by omega), within_in]
  by_cases d1 : s_X0_hasPerson mQ i = true
  · rw [if_pos d1, if_pos d1]
    by_cases d2 : s_X7_in v (nI 1) (nI 99) = true
    · rw [if_pos d2, if_pos d2]
      obtain ⟨e, hi⟩ := hasP_nat9 d1 (by omega)
      obtain ⟨ev, hv⟩ := in_nat d2 (by decide) (by decide)
      have hv0 : 1 ≤ v.toNatClampNeg := by
        rw [in_iff, nI_toInt (by decide), nI_toInt (by decide)] at d2
        have := z_nat2 (x := v) (by omega)
        omega
      obtain ⟨-, -, ⟨z, z0, z1, z2, z3⟩⟩ := K.2.2.1 _ hi
      have K2 := BK_size K hi hv0 hv
      rw [← ev] at K2
      have ht : tb (nI 0) i (B.2.2.2.2.2.2.2.1 i.toNatClampNeg) mQ Hn (B.1, B.2.1, B.2.2.1, B.2.2.2.1, B.2.2.2.2.1, B.2.2.2.2.2.1, B.2.2.2.2.2.2.1, (upd B.2.2.2.2.2.2.2.1 i.toNatClampNeg v), B.2.2.2.2.2.2.2.2) = (Hn, B) := by
        unfold tb
        rw [if_neg (by decide), hasB_hasP, if_pos d1, if_pos (by decide)]
        dsimp only
        rw [upd_back rfl]
      obtain ⟨n1, n2, n3⟩ := note_rel (a1 := nI 0) (a2 := i) (a3 := B.2.2.2.2.2.2.2.1 i.toNatClampNeg) c1 K c2 ⟨congrArg Prod.fst ht, by rw [ht]; exact EQV_refl Hn B⟩
      exact ⟨z2.trans z3.symm, T, hL, K2, fun w => (by cases w), hS, ⟨n1.symm, n2, n3⟩, hK⟩
    · rw [if_neg d2, if_neg d2]
      exact ⟨rfl, h0⟩
  · rw [if_neg d1, if_neg d1]
    exact ⟨rfl, h0⟩
theorem sys_pass (h : SYS old kb n Le P Q Hn sd B hav Y PA cn Ch sn Sg P3 Q3 H3 sd3 B3 P4 Q4 H4 sd4 B4 mle mP mQ mbk mkp msg msd mtx mpe mno mbo mim msi) (i v : Int32) : (s_X6_pass old P Q B cn Ch i v).1 = (s_X7_pass mP mQ mbk mno mbo i v).1 ∧
    SYS (s_X6_pass old P Q B cn Ch i v).2.1 kb n Le P Q Hn sd (s_X6_pass old P Q B cn Ch i v).2.2.1 hav Y PA (s_X6_pass old P Q B cn Ch i v).2.2.2.1 (s_X6_pass old P Q B cn Ch i v).2.2.2.2 sn Sg P3 Q3 H3 sd3 B3 P4 Q4 H4 sd4 B4 mle mP mQ (s_X7_pass mP mQ mbk mno mbo i v).2.1 mkp msg msd mtx mpe (s_X7_pass mP mQ mbk mno mbo i v).2.2.1 (s_X7_pass mP mQ mbk mno mbo i v).2.2.2 mim msi := by
  have h0 := h
  obtain ⟨T, hL, K, hT, hS, ⟨rfl, c1, c2⟩, hK⟩ := h
  have eP := K.eP
  have eQ := K.eQ
  have es := K.es
  subst eP eQ es
  have hQ := K.1.2.2.1
  have hP := K.1.2.1
  unfold s_X6_pass s_X7_pass
  rw [hasB_hasP, ← hasP_in (by omega), ← hasP_in (by omega)]
  by_cases d1 : s_X0_hasPerson mQ i = true
  · rw [if_pos d1, if_pos d1]
    by_cases d2 : s_X0_hasPerson mP v = true
    · rw [if_pos d2, if_pos d2]
      obtain ⟨e, hi⟩ := hasP_nat9 d1 (by omega)
      obtain ⟨ev, hv⟩ := hasP_nat9 d2 (by omega)
      obtain ⟨⟨f, f1, f2, f3⟩, ⟨t, t1, t2, t3⟩, -⟩ := K.2.2.1 _ hi
      have ef : B.2.2.2.2.2.1 i.toNatClampNeg = mno (3 * i.toNatClampNeg) := f2.trans f3.symm
      rw [ef]
      by_cases d3 : mno (3 * i.toNatClampNeg) = v
      · rw [if_pos d3, if_pos d3]
        exact ⟨rfl, h0⟩
      · rw [if_neg d3, if_neg d3]
        have K2 := BK_to K hi hv
        rw [← ev] at K2
        have ht : tb (nI 1) i (B.2.2.2.2.2.2.1 i.toNatClampNeg) mQ Hn (B.1, B.2.1, B.2.2.1, B.2.2.2.1, B.2.2.2.2.1, B.2.2.2.2.2.1, (upd B.2.2.2.2.2.2.1 i.toNatClampNeg v), B.2.2.2.2.2.2.2) = (Hn, B) := by
          unfold tb
          rw [if_neg (by decide), hasB_hasP, if_pos d1, if_neg (by decide), if_pos (by decide)]
          dsimp only
          rw [upd_back rfl]
        obtain ⟨n1, n2, n3⟩ := note_rel (a1 := nI 1) (a2 := i) (a3 := B.2.2.2.2.2.2.1 i.toNatClampNeg) c1 K c2 ⟨congrArg Prod.fst ht, by rw [ht]; exact EQV_refl Hn B⟩
        exact ⟨t2.trans t3.symm, T, hL, K2, fun w => (by cases w), hS, ⟨n1.symm, n2, n3⟩, hK⟩
    · rw [if_neg d2, if_neg d2]
      exact ⟨rfl, h0⟩
  · rw [if_neg d1, if_neg d1]
    exact ⟨rfl, h0⟩
theorem sys_help (h : SYS old kb n Le P Q Hn sd B hav Y PA cn Ch sn Sg P3 Q3 H3 sd3 B3 P4 Q4 H4 sd4 B4 mle mP mQ mbk mkp msg msd mtx mpe mno mbo mim msi) (a1 a2 a3 : Int32) : (s_X6_help old P Hn B cn Ch a1 a2 a3).1 = (s_X7_help mP mbk mno mbo a1 a2 a3 Hn).1 ∧
    SYS (s_X6_help old P Hn B cn Ch a1 a2 a3).2.1 kb n Le P Q (s_X6_help old P Hn B cn Ch a1 a2 a3).2.2.1 sd (s_X6_help old P Hn B cn Ch a1 a2 a3).2.2.2.1 hav Y PA (s_X6_help old P Hn B cn Ch a1 a2 a3).2.2.2.2.1 (s_X6_help old P Hn B cn Ch a1 a2 a3).2.2.2.2.2 sn Sg P3 Q3 H3 sd3 B3 P4 Q4 H4 sd4 B4 mle mP mQ (s_X7_help mP mbk mno mbo a1 a2 a3 Hn).2.1 mkp msg msd mtx mpe (s_X7_help mP mbk mno mbo a1 a2 a3 Hn).2.2.1 (s_X7_help mP mbk mno mbo a1 a2 a3 Hn).2.2.2 mim msi := by
  have h0 := h
  obtain ⟨T, hL, K, hT, hS, ⟨rfl, c1, c2⟩, hK⟩ := h
  have eP := K.eP
  have eQ := K.eQ
  have es := K.es
  subst eP eQ es
  have hP := K.1.2.1
  have hH := K.1.2.2.2.1
  unfold s_X6_help s_X7_help
  rw [← hasP_in (by omega), within_in, within_in]
  by_cases d1 : s_X0_hasPerson mP a1 = true
  · rw [if_pos d1, if_pos d1]
    by_cases d2 : s_X7_in a2 (nI 0) (nI 150) = true
    · rw [if_pos d2, if_pos d2]
      by_cases d3 : s_X7_in a3 (nI 1) (nI 99) = true
      · rw [if_pos d3, if_pos d3]
        by_cases d4 : Hn < 4
        · have ea : s_X0_addHelp Hn B a1 a2 a3 = (true, Hn + 1, (B.1, B.2.1, B.2.2.1, B.2.2.2.1, B.2.2.2.2.1, B.2.2.2.2.2.1, B.2.2.2.2.2.2.1, B.2.2.2.2.2.2.2.1, (upd B.2.2.2.2.2.2.2.2.1 Hn a1), (upd B.2.2.2.2.2.2.2.2.2.1 Hn a2), (upd B.2.2.2.2.2.2.2.2.2.2 Hn a3))) := by
            unfold s_X0_addHelp
            rw [if_pos d4]
          rw [ea, if_neg (by omega : ¬ Hn = 4)]
          dsimp only
          rw [if_pos rfl]
          obtain ⟨e1, hi⟩ := hasP_nat9 d1 (by omega)
          obtain ⟨e2, hy⟩ := in_nat d2 (by decide) (by decide)
          obtain ⟨e3, hc⟩ := in_nat d3 (by decide) (by decide)
          have hc0 : 1 ≤ a3.toNatClampNeg := by
            rw [in_iff, nI_toInt (by decide), nI_toInt (by decide)] at d3
            have := z_nat2 (x := a3) (by omega)
            omega
          have K2 := BK_help K d4 hi hy hc0 hc
          rw [← e1, ← e2, ← e3] at K2
          have ht : tb (nI 2) (nI 0) (nI 0) mQ (Hn + 1) (B.1, B.2.1, B.2.2.1, B.2.2.2.1, B.2.2.2.2.1, B.2.2.2.2.2.1, B.2.2.2.2.2.2.1, B.2.2.2.2.2.2.2.1, (upd B.2.2.2.2.2.2.2.2.1 Hn a1), (upd B.2.2.2.2.2.2.2.2.2.1 Hn a2), (upd B.2.2.2.2.2.2.2.2.2.2 Hn a3)) = (Hn, (B.1, B.2.1, B.2.2.1, B.2.2.2.1, B.2.2.2.2.1, B.2.2.2.2.2.1, B.2.2.2.2.2.2.1, B.2.2.2.2.2.2.2.1, (upd B.2.2.2.2.2.2.2.2.1 Hn a1), (upd B.2.2.2.2.2.2.2.2.2.1 Hn a2), (upd B.2.2.2.2.2.2.2.2.2.2 Hn a3))) := by
            unfold tb s_X0_dropLastHelp
            rw [if_pos rfl, if_neg (by omega), Nat.add_sub_cancel]
          obtain ⟨n1, n2, n3⟩ := note_rel (a1 := nI 2) (a2 := nI 0) (a3 := nI 0) c1 K c2 ⟨congrArg Prod.fst ht, by rw [ht]; exact ⟨rfl, rfl, rfl, rfl, rfl, rfl, rfl, rfl, fun q hq => ⟨pk_un (by omega), pk_un (by omega), pk_un (by omega)⟩⟩⟩
          exact ⟨pk_us.symm, T, hL, K2, fun w => (by cases w), hS, ⟨n1.symm, n2, n3⟩, hK⟩
        · have ea : s_X0_addHelp Hn B a1 a2 a3 = (false, Hn, B) := by
            unfold s_X0_addHelp
            rw [if_neg d4]
          rw [ea, if_pos (by omega : Hn = 4)]
          dsimp only
          rw [if_neg (by decide)]
          exact ⟨rfl, h0⟩
      · rw [if_neg d3, if_neg d3]
        exact ⟨rfl, h0⟩
    · rw [if_neg d2, if_neg d2]
      exact ⟨rfl, h0⟩
  · rw [if_neg d1, if_neg d1]
    exact ⟨rfl, h0⟩
theorem sys_undo (h : SYS old kb n Le P Q Hn sd B hav Y PA cn Ch sn Sg P3 Q3 H3 sd3 B3 P4 Q4 H4 sd4 B4 mle mP mQ mbk mkp msg msd mtx mpe mno mbo mim msi) : (s_X6_undo old cn Ch Q Hn B).1 = (s_X7_undo mbk mno mbo).1 ∧
    SYS (s_X6_undo old cn Ch Q Hn B).2.1 kb n Le P Q (s_X6_undo old cn Ch Q Hn B).2.2.2.1 sd (s_X6_undo old cn Ch Q Hn B).2.2.2.2 hav Y PA (s_X6_undo old cn Ch Q Hn B).2.2.1 Ch sn Sg P3 Q3 H3 sd3 B3 P4 Q4 H4 sd4 B4 mle mP mQ (s_X7_undo mbk mno mbo).2.1 mkp msg msd mtx mpe (s_X7_undo mbk mno mbo).2.2 mbo mim msi := by
  have h0 := h
  obtain ⟨T, hL, K, hT, hS, ⟨rfl, c1, c2⟩, hK⟩ := h
  have eP := K.eP
  have eQ := K.eQ
  have es := K.es
  subst eP eQ es
  unfold s_X6_undo s_X7_undo
  cases mbk with
  | zero =>
    have ea : s_X1_takeBack 0 Ch mQ Hn B = (false, 0, Hn, B) := rfl
    rw [ea, if_pos rfl]
    dsimp only
    rw [if_neg (by decide)]
    exact ⟨rfl, h0⟩
  | succ t =>
    rw [takeBack_eq, if_neg (by omega : ¬ t + 1 = 0), Nat.add_sub_cancel]
    dsimp only
    rw [if_pos rfl]
    obtain ⟨n1, n2⟩ := c2
    refine ⟨rfl, T, hL, BK_congr n1 (fun q hq => ?_), fun w => (by cases w), hS, ⟨rfl, (by omega : t ≤ 8), n2⟩, hK⟩
    show s_X7_copy mbo mno (40 * t) 0 q = mbo (40 * t + q)
    rw [copy_at, if_pos (by omega)]
    rfl
theorem sys_keep_0 (h : SYS old 0 n Le P Q Hn sd B hav Y PA cn Ch sn Sg P3 Q3 H3 sd3 B3 P4 Q4 H4 sd4 B4 mle mP mQ mbk mkp msg msd mtx mpe mno mbo mim msi) : (s_X6_keep_0 P Q Hn sd B).1 = (s_X7_keep mkp mno mim).1 ∧
    SYS old 1 n Le P Q Hn sd B hav Y PA cn Ch sn Sg P Q Hn sd B P4 Q4 H4 sd4 B4 mle mP mQ mbk (s_X7_keep mkp mno mim).2.1 msg msd mtx mpe mno mbo (s_X7_keep mkp mno mim).2.2 msi := by
  obtain ⟨T, hL, K, hT, hS, hC, ⟨rfl, k1, k2, k3⟩⟩ := h
  have eP := K.eP
  have eQ := K.eQ
  have es := K.es
  subst eP eQ es
  unfold s_X7_keep
  rw [if_neg (by decide)]
  refine ⟨rfl, T, hL, K, hT, hS, hC, rfl, (by decide : 1 ≤ 2), fun _ => BK_congr K (fun q hq => ?_), fun w => absurd w (by decide)⟩
  show s_X7_copy mno mim 0 (40 * 0) q = mno q
  rw [copy_at, if_pos (by omega)]
  congr 1
  omega
theorem sys_keep_1 (h : SYS old 1 n Le P Q Hn sd B hav Y PA cn Ch sn Sg P3 Q3 H3 sd3 B3 P4 Q4 H4 sd4 B4 mle mP mQ mbk mkp msg msd mtx mpe mno mbo mim msi) : (s_X6_keep_1 P Q Hn sd B).1 = (s_X7_keep mkp mno mim).1 ∧
    SYS old 2 n Le P Q Hn sd B hav Y PA cn Ch sn Sg P3 Q3 H3 sd3 B3 P Q Hn sd B mle mP mQ mbk (s_X7_keep mkp mno mim).2.1 msg msd mtx mpe mno mbo (s_X7_keep mkp mno mim).2.2 msi := by
  obtain ⟨T, hL, K, hT, hS, hC, ⟨rfl, k1, k2, k3⟩⟩ := h
  have eP := K.eP
  have eQ := K.eQ
  have es := K.es
  subst eP eQ es
  unfold s_X7_keep
  rw [if_neg (by decide)]
  refine ⟨rfl, T, hL, K, hT, hS, hC, rfl, (by decide : 2 ≤ 2), fun _ => BK_congr (k2 (by decide)) (fun q hq => ?_), fun _ => BK_congr K (fun q hq => ?_)⟩
  · show s_X7_copy mno mim 0 (40 * 1) q = mim q
    rw [copy_at, if_neg (by omega)]
  · show s_X7_copy mno mim 0 (40 * 1) (40 + q) = mno q
    rw [copy_at, if_pos (by omega)]
    congr 1
    omega
theorem sys_keep_2 (h : SYS old 2 n Le P Q Hn sd B hav Y PA cn Ch sn Sg P3 Q3 H3 sd3 B3 P4 Q4 H4 sd4 B4 mle mP mQ mbk mkp msg msd mtx mpe mno mbo mim msi) : s_X6_keep_2 = (s_X7_keep mkp mno mim).1 ∧
    SYS old 2 n Le P Q Hn sd B hav Y PA cn Ch sn Sg P3 Q3 H3 sd3 B3 P4 Q4 H4 sd4 B4 mle mP mQ mbk (s_X7_keep mkp mno mim).2.1 msg msd mtx mpe mno mbo (s_X7_keep mkp mno mim).2.2 msi := by
  have h0 := h
  obtain ⟨T, hL, K, hT, hS, hC, ⟨rfl, k1, k2, k3⟩⟩ := h
  unfold s_X7_keep
  rw [if_pos rfl]
  exact ⟨rfl, h0⟩
theorem sys_back_0 (h : SYS old 0 n Le P Q Hn sd B hav Y PA cn Ch sn Sg P3 Q3 H3 sd3 B3 P4 Q4 H4 sd4 B4 mle mP mQ mbk mkp msg msd mtx mpe mno mbo mim msi) : s_X6_back_0 = (s_X7_back mbk mkp mno mim).1 ∧
    SYS old 0 n Le P Q Hn sd B hav Y PA cn Ch sn Sg P3 Q3 H3 sd3 B3 P4 Q4 H4 sd4 B4 mle mP mQ (s_X7_back mbk mkp mno mim).2.1 (s_X7_back mbk mkp mno mim).2.2.1 msg msd mtx mpe (s_X7_back mbk mkp mno mim).2.2.2 mbo mim msi := by
  have h0 := h
  obtain ⟨T, hL, K, hT, hS, hC, ⟨rfl, k1, k2, k3⟩⟩ := h
  unfold s_X7_back
  rw [if_pos rfl]
  exact ⟨rfl, h0⟩
theorem sys_back_1 (h : SYS old 1 n Le P Q Hn sd B hav Y PA cn Ch sn Sg P3 Q3 H3 sd3 B3 P4 Q4 H4 sd4 B4 mle mP mQ mbk mkp msg msd mtx mpe mno mbo mim msi) : (s_X6_back_1 P3 Q3 H3 sd3 B3).1 = (s_X7_back mbk mkp mno mim).1 ∧
    SYS true 0 n Le P3 Q3 H3 sd3 B3 hav Y PA 0 Ch sn Sg P3 Q3 H3 sd3 B3 P4 Q4 H4 sd4 B4 mle mP mQ (s_X7_back mbk mkp mno mim).2.1 (s_X7_back mbk mkp mno mim).2.2.1 msg msd mtx mpe (s_X7_back mbk mkp mno mim).2.2.2 mbo mim msi := by
  obtain ⟨T, hL, K, hT, hS, hC, ⟨rfl, k1, k2, k3⟩⟩ := h
  have eP := K.eP
  have eQ := K.eQ
  have es := K.es
  subst eP eQ es
  have K3 := k2 (by decide)
  unfold s_X7_back
  rw [if_neg (by decide)]
  refine ⟨rfl, T, hL, BK_congr K3 (fun q hq => ?_), fun w => (by cases w), hS, ⟨rfl, (by decide : 0 ≤ 8), trivial⟩, rfl, (by decide : 0 ≤ 2), fun w => absurd w (by decide), fun w => absurd w (by decide)⟩
  show s_X7_copy mim mno (40 * 0) 0 q = mim q
  rw [copy_at, if_pos (by omega)]
  congr 1
  omega
theorem sys_back_2 (h : SYS old 2 n Le P Q Hn sd B hav Y PA cn Ch sn Sg P3 Q3 H3 sd3 B3 P4 Q4 H4 sd4 B4 mle mP mQ mbk mkp msg msd mtx mpe mno mbo mim msi) : (s_X6_back_2 P4 Q4 H4 sd4 B4).1 = (s_X7_back mbk mkp mno mim).1 ∧
    SYS true 1 n Le P4 Q4 H4 sd4 B4 hav Y PA 0 Ch sn Sg P3 Q3 H3 sd3 B3 P4 Q4 H4 sd4 B4 mle mP mQ (s_X7_back mbk mkp mno mim).2.1 (s_X7_back mbk mkp mno mim).2.2.1 msg msd mtx mpe (s_X7_back mbk mkp mno mim).2.2.2 mbo mim msi := by
  obtain ⟨T, hL, K, hT, hS, hC, ⟨rfl, k1, k2, k3⟩⟩ := h
  have eP := K.eP
  have eQ := K.eQ
  have es := K.es
  subst eP eQ es
  have K3 := k2 (by decide)
  have K4 := k3 (by decide)
  have fP := K4.eP
  have fQ := K4.eQ
  have fs := K4.es
  subst fP fQ fs
  unfold s_X7_back
  rw [if_neg (by decide)]
  refine ⟨rfl, T, hL, BK_congr K4 (fun q hq => ?_), fun w => (by cases w), hS, ⟨rfl, (by decide : 0 ≤ 8), trivial⟩, rfl, (by decide : 1 ≤ 2), fun _ => K3, fun w => absurd w (by decide)⟩
  show s_X7_copy mim mno (40 * 1) 0 q = mim (40 + q)
  rw [copy_at, if_pos (by omega)]
  congr 1
theorem sys_TO {old2 : Bool} {hav2 : Int32} {Y2 : zY} {PA2 : Nat → Nat → Int32} (h : SYS old kb n Le P Q Hn sd B hav Y PA cn Ch sn Sg P3 Q3 H3 sd3 B3 P4 Q4 H4 sd4 B4 mle mP mQ mbk mkp msg msd mtx mpe mno mbo mim msi) (h2 : TO old2 P Q Hn sd B hav2 Y2 PA2) : SYS old2 kb n Le P Q Hn sd B hav2 Y2 PA2 cn Ch sn Sg P3 Q3 H3 sd3 B3 P4 Q4 H4 sd4 B4 mle mP mQ mbk mkp msg msd mtx mpe mno mbo mim msi := by
  obtain ⟨T, hL, K, hT, hr⟩ := h
  exact ⟨T, hL, K, h2, hr⟩
end
