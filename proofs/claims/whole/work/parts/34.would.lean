/-! ===== answers of what would be: limits, generations, kinds ===== -/
theorem limC_at (v : Int32) : ∀ (n k : Nat) (B : zB), ∃ lm, f_X6_limits_26 v n k B = (B.1, B.2.1, lm, B.2.2.2) ∧ ∀ j, lm j = if k ≤ j ∧ j < k + n then v else B.2.2.1 j
  | 0, k, B => ⟨B.2.2.1, rfl, fun j => (if_neg (by omega)).symm⟩
  | n + 1, k, B => by
    obtain ⟨lm, e, h⟩ := limC_at v n (k + 1) (B.1, B.2.1, (upd B.2.2.1 k v), B.2.2.2)
    rw [f_X6_limits_26]
    refine ⟨lm, e, fun j => ?_⟩
    rw [h j]
    show (if _ then v else upd B.2.2.1 k v j) = _
    by_cases c : k + 1 ≤ j ∧ j < k + 1 + n
    · rw [if_pos c, if_pos (by omega)]
    · rw [if_neg c]
      by_cases q : j = k
      · subst q
        rw [pk_us, if_pos (by omega)]
      · rw [pk_un q, if_neg (by omega)]
theorem limM_at (x : Int32) : ∀ (n i : Nat) (g : zF) (q : Nat), f_X7_limits_19 x n i g q = if q % 5 = 2 ∧ i ≤ q / 5 ∧ q / 5 < i + n then x else g q
  | 0, i, g, q => (if_neg (by omega)).symm
  | n + 1, i, g, q => by
    rw [f_X7_limits_19, limM_at x n (i + 1) _ q]
    by_cases c : q % 5 = 2 ∧ i + 1 ≤ q / 5 ∧ q / 5 < i + 1 + n
    · rw [if_pos c, if_pos (by omega)]
    · rw [if_neg c]
      by_cases w : q = 5 * i + 2
      · subst w
        rw [pk_us, if_pos (by omega)]
      · rw [pk_un w, if_neg (by omega)]
section
variable {P Q Hn : Nat} {sd msd : Int32} {B : zB} {mP mQ : Nat} {mpe mno : zF}
theorem ans_limits (K : BK P Q Hn sd B mP mQ msd mpe mno) (P2 Q2 H2 : Nat) (sd2 : Int32) (B2 : zB) (hav2 : Int32) (Y2 : zY) (PA2 : Nat → Nat → Int32) (mwm : Nat) (mls mhd : Int32) (mwi mon mdi mco mgo mbr mca : zF) (v : Int32) :
    (s_X6_limits P Q Hn sd B P2 Q2 H2 sd2 B2 hav2 Y2 PA2 v).1 = (s_X7_limits mP mQ mwm msd mls mhd mpe mno mwi mon mdi mco mgo mbr mca v Hn).1 := by
  have hP := K.1.2.1
  unfold s_X6_limits s_X7_limits
  rw [K.eP, K.eQ, K.es, within_in]
  by_cases h : s_X7_in v (nI 20) (nI 99) = true
  · rw [if_pos h, if_pos h]
    obtain ⟨e, he⟩ := in_nat h (by decide) (by decide)
    have hge : 20 ≤ v.toNatClampNeg := by
      rw [in_iff, nI_toInt (by decide), nI_toInt (by decide)] at h
      have := z_nat2 (x := v) (by omega)
      omega
    obtain ⟨lm, el, hl⟩ := limC_at v P 0 B
    have S : SC P Q Hn 6 (nI 0) 0 (bnOf B) (B.1, B.2.1, lm, B.2.2.2) Q mno (wiP mno Q mwi) (f_X7_limits_19 v P 0 (onP mpe P mon)) := by
      refine SC_plain K (fun q hq => wiP_at hq) (fun j hj => ?_) rfl rfl rfl
      obtain ⟨-, -, -, ⟨y, y1, y2, y3⟩, -⟩ := K.2.1 j hj
      have l1 : lm j = v := by rw [hl, if_pos ⟨Nat.zero_le _, by omega⟩]
      refine ⟨⟨v.toNatClampNeg, hge, he, l1.trans e⟩, ⟨y, y1, y2⟩, ?_, ?_, ?_, ?_, ?_⟩
      · rw [limM_at, if_neg (by omega), onP_at (by omega)]
      · rw [limM_at, if_neg (by omega), onP_at (by omega)]
      · rw [limM_at, if_pos (by omega)]; exact l1.symm
      · rw [limM_at, if_neg (by omega), onP_at (by omega)]; exact y3.trans y2.symm
      · rw [limM_at, if_neg (by omega), onP_at (by omega)]
    obtain ⟨r1, r2, r3, r4⟩ := run_all (sd := sd) S (by omega) Y2 PA2 mdi mco mgo mbr mca
    rw [el]
    show s_J6_bitCount_0f7a4 (s_X5_run Y2 PA2 P Q Hn sd (B.1, B.2.1, lm, B.2.2.2)).1 = s_X7_hadMany P (s_X7_run P Q sd mno (wiP mno Q mwi) (f_X7_limits_19 v P 0 (onP mpe P mon)) mdi mco mgo mbr mca Hn).1
    rw [r1]
    exact mu_count hP r4
  · rw [if_neg h, if_neg h]
theorem ans_generations (K : BK P Q Hn sd B mP mQ msd mpe mno) (P2 Q2 H2 : Nat) (sd2 : Int32) (B2 : zB) (hav2 : Int32) (Y2 : zY) (PA2 : Nat → Nat → Int32) (mwm : Nat) (mls mhd : Int32) (mwi mon mdi mco mgo mbr mca : zF) (z wh : Int32) :
    (s_X6_generations P Q Hn B P2 Q2 H2 sd2 B2 hav2 Y2 PA2 z wh).1 = (s_X7_generations mP mQ mwm msd mls mhd mpe mno mwi mon mdi mco mgo mbr mca z wh Hn).1 := by
  have hP := K.1.2.1
  unfold s_X6_generations s_X7_generations
  rw [K.eP, K.eQ, K.es, within_in]
  by_cases h : s_X7_in z (nI 0) (nI 99) = true
  · rw [if_pos h, if_pos h]
    obtain ⟨r1, r2, r3, r4⟩ := run_all (sd := z) (K.plain mwi mon) (by omega) Y2 PA2 mdi mco mgo mbr mca
    have hc := mu_count hP r4
    have hlast := last_rel (Y := (s_X5_run Y2 PA2 P Q Hn z B).2.1) (u := s_X7_run P Q z mno (wiP mno Q mwi) (onP mpe P mon) mdi mco mgo mbr mca Hn) hP rfl r4 (fun j hj => (r2 j hj).1) P 0 (nI 0) (by omega) (by decide)
    by_cases h0 : wh = 0
    · have hin : s_X7_in wh (nI 0) (nI 1) = true := by rw [h0]; decide
      rw [if_pos h0, if_pos hin]
      dsimp only
      rw [if_pos h0, if_pos h0]
      show s_J6_bitCount_0f7a4 (s_X5_run Y2 PA2 P Q Hn z B).1 = s_X7_hadMany P (s_X7_run P Q z mno (wiP mno Q mwi) (onP mpe P mon) mdi mco mgo mbr mca Hn).1
      rw [r1]
      exact hc
    · rw [if_neg h0]
      by_cases h1 : wh = nI 1
      · have hin : s_X7_in wh (nI 0) (nI 1) = true := by rw [h1]; decide
        rw [if_pos h1, if_pos hin]
        dsimp only
        rw [if_neg h0, if_neg h0]
        show f_X5_lastHaving_4 (s_X5_run Y2 PA2 P Q Hn z B).1 (s_X5_run Y2 PA2 P Q Hn z B).2.1 P 0 (nI 0) = f_X7_generations_39 (s_X7_run P Q z mno (wiP mno Q mwi) (onP mpe P mon) mdi mco mgo mbr mca Hn) P 0 (nI 0)
        rw [r1]
        exact hlast
      · have hin : ¬ s_X7_in wh (nI 0) (nI 1) = true := fun q => by
          obtain ⟨e, hw⟩ := in_nat q (by decide) (by decide)
          have : wh.toNatClampNeg = 0 ∨ wh.toNatClampNeg = 1 := by omega
          rcases this with q | q
          · rw [q] at e; exact h0 (e.trans nI_0)
          · rw [q] at e; exact h1 e
        rw [if_neg h1, if_neg hin]
  · rw [if_neg h, if_neg h]
/-- what was seen: the same -/
def SG (sn msg : Nat) (Sg : zC) (msi : zF) : Prop := msg = sn ∧ sn ≤ 8 ∧ ∀ k, k < sn → Sg.1 k = msi (3 * k) ∧ Sg.2.1 k = msi (3 * k + 1) ∧ Sg.2.2 k = msi (3 * k + 2) ∧ ∃ y, y < 151 ∧ msi (3 * k + 1) = nI y
theorem kinds_f (msi : zF) (i : Int32) (u : Int32 × zF × zF × zF × zF × zF) : ∀ (n k : Nat), f_X7_kinds_44 msi i u n k false = false
  | 0, k => rfl
  | n + 1, k => by
    rw [f_X7_kinds_44, if_neg (by decide)]
    exact kinds_f msi i u n (k + 1)
theorem fit_rel {sn msg : Nat} {Sg : zC} {msi : zF} (h : SG sn msg Sg msi) {i : Nat} (hi : i < 6) {u : Int32 × zF × zF × zF × zF × zF} {PA : Nat → Nat → Int32} (hr : ∀ y, y < 151 → u.2.2.2.2.2 (6 * y + i) = PA i y) : ∀ (n k : Nat), k + n = sn → f_X7_kinds_44 msi (nI i) u n k true = f_X4_fit_2 Sg PA (nI i) n k
  | 0, k, _ => rfl
  | n + 1, k, hk => by
    obtain ⟨e1, e2, e3, y, y1, y2⟩ := h.2.2 k (by omega)
    have ec : (nI i).toNatClampNeg = i := nI_clamp (by omega)
    rw [f_X7_kinds_44, f_X4_fit_2, if_pos rfl, e1, e2, e3, y2, nI_clamp (by omega : y < 2 ^ 31), ec, hr y y1]
    by_cases c : msi (3 * k) = nI i
    · rw [if_pos c, if_pos c]
      by_cases d : PA i y = msi (3 * k + 2)
      · rw [if_pos d, if_pos d]
        exact fit_rel h hi hr n (k + 1) (by omega)
      · rw [if_neg d, if_neg d]
        exact kinds_f _ _ _ n (k + 1)
    · rw [if_neg c, if_neg c]
      exact fit_rel h hi hr n (k + 1) (by omega)
theorem kinds_rel (K : BK P Q Hn sd B mP mQ msd mpe mno) {sn msg : Nat} {Sg : zC} {msi : zF} (h : SG sn msg Sg msi) {i : Nat} (hi : i < P) : ∀ (n kd : Nat) (bits : Int32) (P9 Q9 H9 : Nat) (sd9 : Int32) (B9 : zB) (hav9 : Int32) (Y9 : zY) (PA9 : Nat → Nat → Int32) (mwm9 : Nat) (mls9 mhd9 : Int32) (mwi9 mon9 mdi9 mco9 mgo9 mbr9 mca9 : zF), kd + n = 4 →
    (f_X6_kinds_17 P Q Hn sd B sn Sg (nI i) n kd bits P9 Q9 H9 sd9 B9 hav9 Y9 PA9).1 = (f_X7_kinds_14 P Q msg sd mpe mno msi (nI i) Hn n kd bits mwm9 mls9 mhd9 mwi9 mon9 mdi9 mco9 mgo9 mbr9 mca9).1
  | 0, kd, bits, P9, Q9, H9, sd9, B9, hav9, Y9, PA9, mwm9, mls9, mhd9, mwi9, mon9, mdi9, mco9, mgo9, mbr9, mca9, _ => rfl
  | n + 1, kd, bits, P9, Q9, H9, sd9, B9, hav9, Y9, PA9, mwm9, mls9, mhd9, mwi9, mon9, mdi9, mco9, mgo9, mbr9, mca9, hn => by
    have hP := K.1.2.1
    have ec : (nI i).toNatClampNeg = i := nI_clamp (by omega)
    have S : SC P Q Hn 6 (nI 0) 0 (bnOf B) (B.1, B.2.1, B.2.2.1, (upd B.2.2.2.1 i (nI kd)), B.2.2.2.2) Q mno (wiP mno Q mwi9) (upd (onP mpe P mon9) ((5 * i) + 3) (nI kd)) := by
      refine SC_plain K (fun q hq => wiP_at hq) (fun j hj => ?_) rfl rfl rfl
      obtain ⟨-, -, ⟨x, x0, x1, x2, x3⟩, ⟨y, y1, y2, y3⟩, -⟩ := K.2.1 j hj
      refine ⟨⟨x, x0, x1, x2⟩, ?_, ?_, ?_, ?_, ?_, ?_⟩
      · by_cases q : j = i
        · subst q
          exact ⟨kd, by omega, pk_us⟩
        · exact ⟨y, y1, (pk_un q).trans y2⟩
      · rw [pk_un (by omega), onP_at (by omega)]
      · rw [pk_un (by omega), onP_at (by omega)]
      · rw [pk_un (by omega), onP_at (by omega)]; exact x3.trans x2.symm
      · show upd (onP mpe P mon9) ((5 * i) + 3) (nI kd) (5 * j + 3) = upd B.2.2.2.1 i (nI kd) j
        by_cases q : j = i
        · subst q
          rw [pk_us, pk_us]
        · rw [pk_un (by omega), pk_un q, onP_at (by omega)]; exact y3.trans y2.symm
      · rw [pk_un (by omega), onP_at (by omega)]
    obtain ⟨r1, r2, r3, r4⟩ := run_all (sd := sd) S (by omega) Y9 PA9 mdi9 mco9 mgo9 mbr9 mca9
    have hf := fit_rel h (show i < 6 by omega) (u := s_X7_run P Q sd mno (wiP mno Q mwi9) (upd (onP mpe P mon9) ((5 * i) + 3) (nI kd)) mdi9 mco9 mgo9 mbr9 mca9 Hn) (PA := (s_X5_run Y9 PA9 P Q Hn sd (B.1, B.2.1, B.2.2.1, (upd B.2.2.2.1 i (nI kd)), B.2.2.2.2)).2.2) (fun y hy => r3 y hy i hi) sn 0 (by omega)
    have hm := h.1
    subst hm
    rw [f_X6_kinds_17, f_X7_kinds_14, ec]
    unfold s_X7_prepare s_X4_fit
    dsimp only
    rw [hf]
    by_cases c : f_X4_fit_2 Sg (s_X5_run Y9 PA9 P Q Hn sd (B.1, B.2.1, B.2.2.1, (upd B.2.2.2.1 i (nI kd)), B.2.2.2.2)).2.2 (nI i) msg 0 = true
    · rw [if_pos c, if_pos c]
      exact kinds_rel K h hi n (kd + 1) _ _ _ _ _ _ _ _ _ _ _ _ _ _ _ _ _ _ _ (by omega)
    · rw [if_neg c, if_neg c, show bits ||| nI 0 = bits by rw [nI_0]; exact Int32.or_zero]
      exact kinds_rel K h hi n (kd + 1) _ _ _ _ _ _ _ _ _ _ _ _ _ _ _ _ _ _ _ (by omega)
theorem ans_kinds (K : BK P Q Hn sd B mP mQ msd mpe mno) {sn msg : Nat} {Sg : zC} {msi : zF} (h : SG sn msg Sg msi) (P2 Q2 H2 : Nat) (sd2 : Int32) (B2 : zB) (hav2 : Int32) (Y2 : zY) (PA2 : Nat → Nat → Int32) (mwm : Nat) (mls mhd : Int32) (mwi mon mdi mco mgo mbr mca : zF) (i : Int32) :
    (s_X6_kinds P Q Hn sd B P2 Q2 H2 sd2 B2 hav2 Y2 PA2 sn Sg i).1 = (s_X7_kinds mP mQ msg mwm msd mls mhd mpe mno msi mwi mon mdi mco mgo mbr mca i Hn).1 := by
  have hP := K.1.2.1
  unfold s_X6_kinds s_X7_kinds
  rw [K.eP, K.eQ, K.es, ← hasP_in (P := P) (by omega)]
  by_cases hp : s_X0_hasPerson P i = true
  · obtain ⟨e, hi⟩ := hasP_nat9 hp (by omega)
    rw [if_pos hp, if_pos hp, e]
    exact kinds_rel K h hi 4 0 (nI 0) P2 Q2 H2 sd2 B2 hav2 Y2 PA2 mwm mls mhd mwi mon mdi mco mgo mbr mca (by decide)
  · rw [if_neg hp, if_neg hp]
end
