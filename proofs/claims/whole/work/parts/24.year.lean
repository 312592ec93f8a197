/-! ===== a year, on both sides ===== -/
theorem int_neg1 : (-1 : Int32) < 0 := by decide
/-- the turn of the special one -/
theorem turn_sp {P Q Hn i0 dn mwm yr M Ln : Nat} {d hav mhd : Int32} {bn : Nat → Nat} {B : zB} {mno mwi mon mdi mco mgo mbr : zF} {Y : zY} (S : SC P Q Hn i0 d dn bn B mwm mno mwi mon) (hy : yr ≤ 150) (hi : i0 < P) (hR : yFR P i0 d bn (yr + 1) hav Y mhd mdi mco mgo) (hh : ∃ v, v < 64 ∧ mhd = nI v) (hB : Bd P M Y) (hM : M + 891 < 2 ^ 29) (hv : Y.1 i0 = nI 1) (hW : Y.2.2.1 i0 = lsum (nzC B Q i0) (nI 0)) (hL : s_X7_leaving mwm mwi i0 = nI Ln) (hL1 : 0 < Ln) (hL2 : Ln < 2 ^ 30) :
    (yFR P i0 d bn (yr + 1) (s_X5_takeTurn hav Y P Q B i0 yr).1 (s_X5_takeTurn hav Y P Q B i0 yr).2 (s_X7_turn mwm mhd mwi mon mdi mco mgo mbr i0 yr).1 (s_X7_turn mwm mhd mwi mon mdi mco mgo mbr i0 yr).2.1 (s_X7_turn mwm mhd mwi mon mdi mco mgo mbr i0 yr).2.2.1 (s_X7_turn mwm mhd mwi mon mdi mco mgo mbr i0 yr).2.2.2.1 ∧ (bn i0 + 18 ≤ yr → ∃ h, h < 2 ^ 30 ∧ (s_X5_takeTurn hav Y P Q B i0 yr).2.2.2.2.1 i0 = nI h ∧ h + dn < Ln)) ∨
    yPD i0 dn Ln bn (yr + 1) (s_X5_takeTurn hav Y P Q B i0 yr).2 (s_X7_turn mwm mhd mwi mon mdi mco mgo mbr i0 yr).1 (s_X7_turn mwm mhd mwi mon mdi mco mgo mbr i0 yr).2.1 := by
  obtain ⟨⟨hP, hQ, hH, hmw, ed, hdn⟩, hb, hh2, ⟨hs1, hs2⟩, hl1, hl2⟩ := S
  have hu := turnC_unary (hav := hav) (yr := yr) hQ (by omega) hB hi (fun k hk => (hs1 k hk).1)
  obtain ⟨-, -, -, u4⟩ := hu
  obtain ⟨u5, u6⟩ := u4 hv
  obtain ⟨p, hp, ep⟩ := hB i0 hi
  obtain ⟨⟨b1, b2, b3, b4, b5, b6, b7⟩, -, ⟨x, x1, x2, x3⟩, -⟩ := hb i0 hi
  obtain ⟨hR1, eh, hR3⟩ := hR
  obtain ⟨c1, c2, c3, c4, c5⟩ := hR1 i0 hi
  have hbn : bn i0 ≤ yr := by
    rcases Nat.lt_or_ge yr (bn i0) with q | q
    · exact absurd ((c1 q).1.symm.trans hv) n01
    · exact q
  have em : mco i0 = nI (p + dn) := by
    rw [c3, ep, show ofs i0 d Y.1 i0 = d from if_pos ⟨rfl, hv⟩, ed, nI_add]
  have ew : Y.2.2.1 i0 = nI 0 := by rw [hW, hl2 hi]; rfl
  have eage : nI yr - B.1 i0 = nI (yr - bn i0) := by rw [b1, pk_sub hbn]
  obtain ⟨r1, r2⟩ := hR3 hi
  have hcC : ¬ (¬ nI yr - B.1 i0 < nI 18 ∧ ¬ Y.2.2.1 i0 ≤ 0 ∧ ¬ Y.2.1 i0 < Y.2.2.1 i0) := fun q => q.2.1 (by rw [ew]; decide)
  have edm : (s_X7_die mwm mwi mon mdi mco mgo mbr i0 yr).1 = upd mdi i0 (nI yr) := rfl
  by_cases hc : 18 ≤ yr - bn i0 ∧ Ln ≤ p + dn
  · right
    have hcM : ¬ nI yr - mon (5 * i0) < nI 18 ∧ ¬ s_X7_leaving mwm mwi i0 ≤ 0 ∧ ¬ mco i0 < s_X7_leaving mwm mwi i0 := by
      rw [b3, eage, hL, em, nI_ltI (by omega) (by decide), nI_ltI (by omega) (by omega)]
      exact ⟨by omega, nI_nle hL1 (by omega), by omega⟩
    obtain ⟨s1, s2, s3⟩ := has_set hh (show i0 < 6 by omega)
    rw [turnM_form, if_pos hcM]
    refine ⟨?_, by omega, Or.inl ⟨s2, ⟨p, by omega, u5.trans ep, hc.2⟩, fun q => ?_⟩⟩
    · show ¬ upd mdi i0 (nI yr) i0 < 0
      rw [pk_us]
      exact nI_pos (by omega)
    · rcases u6 with z | z
      · exact absurd (z.symm.trans q) n21
      · exact ⟨p, by omega, z.2.trans ep, hc.2⟩
  · have hcM : ¬ (¬ nI yr - mon (5 * i0) < nI 18 ∧ ¬ s_X7_leaving mwm mwi i0 ≤ 0 ∧ ¬ mco i0 < s_X7_leaving mwm mwi i0) := by
      rw [b3, eage, hL, em, nI_ltI (by omega) (by decide), nI_ltI (by omega) (by omega)]
      intro q
      exact hc ⟨by omega, by omega⟩
    rw [turnM_form, if_neg hcM]
    by_cases hl : yr - bn i0 < x
    · left
      have hlC : nI yr - B.1 i0 < B.2.2.1 i0 := by rw [eage, x3, nI_ltI (by omega) (by omega)]; exact hl
      have hlM : nI yr - mon (5 * i0) < mon (5 * i0 + 2) := by rw [b3, b5]; exact hlC
      rw [if_pos hlM]
      have eC : s_X5_takeTurn hav Y P Q B i0 yr = (hav, yHeld Y i0) := by rw [turnC_live hv, if_neg hcC, if_pos hlC]
      refine ⟨?_, fun q => ⟨p, by omega, u5.trans ep, ?_⟩⟩
      · rw [eC]
        exact ⟨fun j hj => hR1 j hj, eh, hR3⟩
      · rcases Nat.lt_or_ge (p + dn) Ln with z | z
        · exact z
        · exact absurd ⟨by omega, z⟩ hc
    · right
      have hlC : ¬ nI yr - B.1 i0 < B.2.2.1 i0 := by rw [eage, x3, nI_ltI (by omega) (by omega)]; exact hl
      have hlM : ¬ nI yr - mon (5 * i0) < mon (5 * i0 + 2) := by rw [b3, b5]; exact hlC
      rw [if_neg hlM]
      have eC : s_X5_takeTurn hav Y P Q B i0 yr = (hav, s_X5_die (yHeld Y i0) P Q B i0 yr) := by rw [turnC_live hv, if_neg hcC, if_neg hlC]
      obtain ⟨d1, -⟩ := dieC_unary (Y := yHeld Y i0) (yr := yr) hQ (by omega : M + 891 < 2 ^ 30) hB hi (fun k hk => (hs1 k hk).1)
      refine ⟨?_, by omega, Or.inr ⟨r2, ?_, p, by omega, u5.trans ep, ?_⟩⟩
      · show ¬ upd mdi i0 (nI yr) i0 < 0
        rw [pk_us]
        exact nI_pos (by omega)
      · rw [eC]
        show (s_X5_die (yHeld Y i0) P Q B i0 yr).1 i0 ≠ nI 1
        rw [d1]
        show upd Y.1 i0 (nI 2) i0 ≠ nI 1
        rw [pk_us]
        exact n21
      · rcases Nat.lt_or_ge (p + dn) Ln with z | z
        · exact z
        · exact absurd ⟨by omega, z⟩ hc
theorem yPD.m {i0 dn Ln y : Nat} {bn : Nat → Nat} {Y : zY} {mhd mhd2 : Int32} {mdi mdi2 : zF} (h : yPD i0 dn Ln bn y Y mhd mdi) (h1 : mdi2 i0 = mdi i0) (h2 : s_X7_has mhd2 i0 = s_X7_has mhd i0) : yPD i0 dn Ln bn y Y mhd2 mdi2 := by
  unfold yPD at h ⊢
  rw [h1, h2]
  exact h
theorem yPD.turn {P Q i0 dn Ln y i yr M : Nat} {bn : Nat → Nat} {hav mhd : Int32} {mdi : zF} {B : zB} {Y : zY} (h : yPD i0 dn Ln bn y Y mhd mdi) (hQ : Q ≤ 9) (hM : M + 891 < 2 ^ 30) (hB : Bd P M Y) (hi : i < P) (h0 : i0 < P) (hz : ∀ k, k < Q → ∃ z, z ≤ 99 ∧ B.2.2.2.2.2.2.2.1 k = nI z) : yPD i0 dn Ln bn y (s_X5_takeTurn hav Y P Q B i yr).2 mhd mdi := by
  obtain ⟨-, -, u3, u4⟩ := turnC_unary (hav := hav) (yr := yr) hQ hM hB hi hz
  obtain ⟨h1, h2, h3⟩ := h
  refine ⟨h1, h2, ?_⟩
  obtain ⟨p, hp, ep⟩ := hB i0 h0
  by_cases q : i0 = i
  · subst q
    by_cases hv : Y.1 i0 = nI 1
    · obtain ⟨u5, u6⟩ := u4 hv
      rcases h3 with ⟨a1, a2, a3⟩ | ⟨a1, a2, a3⟩
      · obtain ⟨p2, g1, g2, g3⟩ := a3 hv
        refine Or.inl ⟨a1, ⟨p2, g1, u5.trans g2, g3⟩, fun z => ?_⟩
        rcases u6 with w | w
        · exact absurd (w.symm.trans z) n21
        · exact ⟨p2, g1, w.2.trans g2, g3⟩
      · exact absurd hv a2
    · rw [turnC_dead hv]
      exact h3
  · obtain ⟨v1, v2, v3⟩ := u3 i0 q
    rcases h3 with ⟨a1, ⟨hh, a2, a3, a4⟩, a5⟩ | ⟨a1, a2, hh, a3, a4, a5⟩
    · refine Or.inl ⟨a1, ⟨hh, a2, v2.trans a3, a4⟩, fun z => ?_⟩
      obtain ⟨p2, g1, g2, g3⟩ := a5 (v1.symm.trans z)
      have e9 : p2 = p := by
        have := g2.symm.trans ep
        rw [nI_eq (by omega) (by omega)] at this
        exact this
      obtain ⟨b2, w1, w2, w3⟩ := v3 p h0 ep hp
      exact ⟨b2, by omega, w1, by omega⟩
    · exact Or.inr ⟨a1, by rw [v1]; exact a2, hh, a3, v2.trans a4, a5⟩
/-- where a turn's loop stands -/
def yLI (P Q i0 dn Ln yr M : Nat) (d : Int32) (bn : Nat → Nat) (B : zB) (i : Nat) (hav : Int32) (Y : zY) (mhd : Int32) (mdi mco mgo : zF) : Prop :=
  Bd P (M + 891 * i) Y ∧ (∀ j, j < P → Y.2.2.1 j = lsum (nzC B Q j) (nI 0)) ∧ (∃ v, v < 64 ∧ mhd = nI v) ∧
  ((yFR P i0 d bn (yr + 1) hav Y mhd mdi mco mgo ∧ (i0 < P → i0 < i → bn i0 + 18 ≤ yr → ∃ h, h < 2 ^ 30 ∧ Y.2.2.2.1 i0 = nI h ∧ h + dn < Ln)) ∨ (i0 < P ∧ yPD i0 dn Ln bn (yr + 1) Y mhd mdi))
theorem turns_rel {P Q Hn i0 dn mwm yr M Ln : Nat} {d : Int32} {bn : Nat → Nat} {B : zB} {mno mwi mon : zF} (S : SC P Q Hn i0 d dn bn B mwm mno mwi mon) (hy : yr ≤ 150) (hM : M + 6000 < 2 ^ 29) {e : Nat} (he : e ≤ P) (hL : i0 < P → s_X7_leaving mwm mwi i0 = nI Ln ∧ 0 < Ln ∧ Ln < 2 ^ 30) : ∀ (n i : Nat) (hav : Int32) (Y : zY) (mhd : Int32) (mdi mco mgo mbr : zF), i + n = e → yLI P Q i0 dn Ln yr M d bn B i hav Y mhd mdi mco mgo →
    yLI P Q i0 dn Ln yr M d bn B e (f_X5_run_30 P Q B yr n i hav Y).1 (f_X5_run_30 P Q B yr n i hav Y).2 (f_X7_run_250 mwm mwi mon yr n i mhd mdi mco mgo mbr).1 (f_X7_run_250 mwm mwi mon yr n i mhd mdi mco mgo mbr).2.1 (f_X7_run_250 mwm mwi mon yr n i mhd mdi mco mgo mbr).2.2.1 (f_X7_run_250 mwm mwi mon yr n i mhd mdi mco mgo mbr).2.2.2.1
  | 0, i, hav, Y, mhd, mdi, mco, mgo, mbr, hn, h => by
    have e9 : i = e := by omega
    subst e9
    exact h
  | n + 1, i, hav, Y, mhd, mdi, mco, mgo, mbr, hn, h => by
    have hi : i < P := by omega
    have hP : P ≤ 6 := S.1.1
    have hQ : Q ≤ 9 := S.1.2.1
    obtain ⟨hB, hW, hh, hc⟩ := h
    have hz : ∀ k, k < Q → ∃ z, z ≤ 99 ∧ B.2.2.2.2.2.2.2.1 k = nI z := fun k hk => (S.2.2.2.1.1 k hk).1
    have hM2 : M + 891 * i + 891 < 2 ^ 29 := by omega
    obtain ⟨t1, t2, t3, t4⟩ := turnC_unary (hav := hav) (yr := yr) hQ (by omega) hB hi hz
    have hB2 : Bd P (M + 891 * (i + 1)) (s_X5_takeTurn hav Y P Q B i yr).2 := fun j hj => by
      obtain ⟨m, m1, m2⟩ := t1 j hj
      have m3 : m ≤ M + 891 * (i + 1) := by
        rw [Nat.mul_succ]
        exact Nat.le_trans m1 (Nat.le_of_eq (Nat.add_assoc _ _ _))
      exact ⟨m, m3, m2⟩
    have hW2 : ∀ j, j < P → (s_X5_takeTurn hav Y P Q B i yr).2.2.2.1 j = lsum (nzC B Q j) (nI 0) := fun j hj => by rw [t2]; exact hW j hj
    have hu := turnM_unary (mwm := mwm) (yr := yr) (mwi := mwi) (mon := mon) (mdi := mdi) (mco := mco) (mgo := mgo) (mbr := mbr) hh hP hi
    rw [f_X5_run_30, f_X7_run_250]
    by_cases hv : s_X7_lives mon mdi i yr = true
    · rw [if_pos hv]
      refine turns_rel S hy hM he hL n (i + 1) _ _ _ _ _ _ _ (by omega) ⟨hB2, hW2, hu.1, ?_⟩
      rcases hc with ⟨hF, hK⟩ | ⟨h0, hD⟩
      · have hst : Y.1 i = nI 1 := (hF.1.lives (mon := mon) (fun j hj => by obtain ⟨⟨c1, c2, c3, -⟩, -⟩ := S.2.1 j hj; exact ⟨c3.trans c1, c2⟩) hy i hi).mpr hv
        by_cases q : i = i0
        · subst q
          obtain ⟨l1, l2, l3⟩ := hL hi
          rcases turn_sp (mbr := mbr) S hy hi hF hh hB hM2 hst (hW i hi) l1 l2 l3 with ⟨w1, w2⟩ | w
          · exact Or.inl ⟨w1, fun _ _ => w2⟩
          · exact Or.inr ⟨hi, w⟩
        · obtain ⟨a, a1, a2⟩ := hB i hi
          refine Or.inl ⟨turn_rel S hy hi q hF hh ⟨a, by omega, a2⟩ hst (hW i hi), fun h0 h1 h2 => ?_⟩
          obtain ⟨g, g1, g2, g3⟩ := hK h0 (by omega) h2
          exact ⟨g, g1, ((t3 i0 (Ne.symm q)).2.1).trans g2, g3⟩
      · have q : i0 ≠ i := by
          intro z
          subst z
          have := hD.1
          unfold s_X7_lives at hv
          rw [if_pos (Int32.not_lt.mp this)] at hv
          cases hv
        obtain ⟨m1, m2⟩ := hu.2 i0 h0 q
        exact Or.inr ⟨h0, (yPD.turn hD hQ (by omega) hB hi h0 hz).m m1 m2⟩
    · rw [if_neg hv]
      refine turns_rel S hy hM he hL n (i + 1) _ _ _ _ _ _ _ (by omega) ⟨hB2, hW2, hh, ?_⟩
      rcases hc with ⟨hF, hK⟩ | ⟨h0, hD⟩
      · have hst : Y.1 i ≠ nI 1 := fun z => hv ((hF.1.lives (mon := mon) (fun j hj => by obtain ⟨⟨c1, c2, c3, -⟩, -⟩ := S.2.1 j hj; exact ⟨c3.trans c1, c2⟩) hy i hi).mp z)
        rw [turnC_dead hst]
        refine Or.inl ⟨hF, fun h0 h1 h2 => ?_⟩
        by_cases q : i = i0
        · subst q
          have := hF.2.2 h0
          exact absurd ((hF.1 i hi).2.1 (by omega) |>.mpr this.1) hst
        · exact hK h0 (by omega) h2
      · exact Or.inr ⟨h0, yPD.turn hD hQ (by omega) hB hi h0 hz⟩
