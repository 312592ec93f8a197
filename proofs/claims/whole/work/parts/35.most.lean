/-! ===== answers of what would be: mend, greatest, needs ===== -/
theorem nzl_congr2 {fr to sz fr2 to2 sz2 : Nat → Int32} {i : Int32} : ∀ (n k : Nat), (∀ j, k ≤ j → j < k + n → fr j = fr2 j ∧ (fr j = i → to j = to2 j ∧ sz j = sz2 j)) → nzl fr to sz i n k = nzl fr2 to2 sz2 i n k
  | 0, k, _ => rfl
  | n + 1, k, h => by
    obtain ⟨e1, e2⟩ := h k (by omega) (by omega)
    have ih := nzl_congr2 n (k + 1) (fun j h1 h2 => h j (by omega) (by omega))
    rw [nzl, nzl]
    by_cases c : fr k = i
    · obtain ⟨e3, e4⟩ := e2 c
      rw [if_pos c, if_pos (e1.symm.trans c), e3, e4, ih]
    · rw [if_neg c, if_neg (fun z => c (e1.trans z)), ih]
theorem nzl_snoc {fr to sz : Nat → Int32} {i : Int32} : ∀ (n k : Nat), nzl fr to sz i (n + 1) k = nzl fr to sz i n k ++ (if fr (k + n) = i then (if sz (k + n) = nI 0 then [] else [(to (k + n), sz (k + n))]) else [])
  | 0, k => by
    rw [nzl]
    rfl
  | n + 1, k => by
    have ih := nzl_snoc (fr := fr) (to := to) (sz := sz) (i := i) n (k + 1)
    rw [nzl, ih, show k + 1 + n = k + (n + 1) by omega, nzl]
    by_cases c : fr k = i
    · rw [if_pos c, if_pos c]
      by_cases d : sz k = nI 0
      · rw [if_pos d, if_pos d]
      · rw [if_neg d, if_neg d]
        rfl
    · rw [if_neg c, if_neg c]
theorem nzl_nil {fr to sz : Nat → Int32} {i : Int32} : ∀ (n k : Nat), (∀ j, k ≤ j → j < k + n → fr j = i → sz j = nI 0) → nzl fr to sz i n k = []
  | 0, k, _ => rfl
  | n + 1, k, h => by
    have ih := nzl_nil (fr := fr) (to := to) (sz := sz) (i := i) n (k + 1) (fun j h1 h2 => h j (by omega) (by omega))
    rw [nzl]
    by_cases c : fr k = i
    · rw [if_pos c, if_pos (h k (by omega) (by omega) c)]
      exact ih
    · rw [if_neg c]
      exact ih
/-- prepareBut: what is written stays, what is left out is as if it left nothing -/
theorem but_keep (mno : zF) (who left : Int32) : ∀ (n k mwm : Nat) (mwi : zF), mwm ≤ (f_X7_prepareBut_11 mno who left n k mwm mwi).1 ∧ ∀ q, q < 3 * mwm → (f_X7_prepareBut_11 mno who left n k mwm mwi).2 q = mwi q
  | 0, k, mwm, mwi => ⟨Nat.le_refl _, fun _ _ => rfl⟩
  | n + 1, k, mwm, mwi => by
    rw [f_X7_prepareBut_11]
    by_cases c : mno (3 * k) = who
    · rw [if_pos c]
      exact but_keep mno who left n (k + 1) mwm mwi
    · rw [if_neg c]
      by_cases d : nI k = left
      · rw [if_pos d]
        exact but_keep mno who left n (k + 1) mwm mwi
      · rw [if_neg d]
        obtain ⟨h1, h2⟩ := but_keep mno who left n (k + 1) (mwm + 1) (f_X7_prepareBut_39 mno k mwm 3 0 mwi)
        refine ⟨by omega, fun q hq => ?_⟩
        rw [h2 q (by omega), but39_eq, pk_un (by omega), pk_un (by omega), pk_un (by omega)]
theorem but_list (mno : zF) (who left i : Int32) : ∀ (n k mwm : Nat) (mwi : zF), nzl (w3 (f_X7_prepareBut_11 mno who left n k mwm mwi).2 0) (w3 (f_X7_prepareBut_11 mno who left n k mwm mwi).2 1) (w3 (f_X7_prepareBut_11 mno who left n k mwm mwi).2 2) i ((f_X7_prepareBut_11 mno who left n k mwm mwi).1 - mwm) mwm = nzl (w3 mno 0) (w3 mno 1) (fun q => if mno (3 * q) = who ∨ nI q = left then nI 0 else mno (3 * q + 2)) i n k
  | 0, k, mwm, mwi => by
    rw [f_X7_prepareBut_11]
    show nzl _ _ _ i (mwm - mwm) mwm = []
    rw [Nat.sub_self]
    rfl
  | n + 1, k, mwm, mwi => by
    rw [f_X7_prepareBut_11, nzl.eq_2 (w3 mno 0)]
    by_cases c : mno (3 * k) = who
    · have hs : (if mno (3 * k) = who ∨ nI k = left then nI 0 else mno (3 * k + 2)) = nI 0 := if_pos (Or.inl c)
      rw [if_pos c, hs, if_pos rfl, ite_self]
      exact but_list mno who left i n (k + 1) mwm mwi
    · rw [if_neg c]
      by_cases d : nI k = left
      · have hs : (if mno (3 * k) = who ∨ nI k = left then nI 0 else mno (3 * k + 2)) = nI 0 := if_pos (Or.inr d)
        rw [if_pos d, hs, if_pos rfl, ite_self]
        exact but_list mno who left i n (k + 1) mwm mwi
      · have hs : (if mno (3 * k) = who ∨ nI k = left then nI 0 else mno (3 * k + 2)) = mno (3 * k + 2) := if_neg (fun z => z.elim c d)
        rw [if_neg d, hs]
        have ih := but_list mno who left i n (k + 1) (mwm + 1) (f_X7_prepareBut_39 mno k mwm 3 0 mwi)
        obtain ⟨h1, h2⟩ := but_keep mno who left n (k + 1) (mwm + 1) (f_X7_prepareBut_39 mno k mwm 3 0 mwi)
        have e0 : w3 (f_X7_prepareBut_11 mno who left n (k + 1) (mwm + 1) (f_X7_prepareBut_39 mno k mwm 3 0 mwi)).2 0 mwm = w3 mno 0 k := by
          show (f_X7_prepareBut_11 mno who left n (k + 1) (mwm + 1) (f_X7_prepareBut_39 mno k mwm 3 0 mwi)).2 (3 * mwm + 0) = mno (3 * k + 0)
          rw [h2 _ (by omega), but39_eq, pk_un (by omega), pk_un (by omega), pk_us]
        have e1 : w3 (f_X7_prepareBut_11 mno who left n (k + 1) (mwm + 1) (f_X7_prepareBut_39 mno k mwm 3 0 mwi)).2 1 mwm = w3 mno 1 k := by
          show (f_X7_prepareBut_11 mno who left n (k + 1) (mwm + 1) (f_X7_prepareBut_39 mno k mwm 3 0 mwi)).2 (3 * mwm + (0 + 1)) = mno (3 * k + (0 + 1))
          rw [h2 _ (by omega), but39_eq, pk_un (by omega), pk_us]
        have e2 : w3 (f_X7_prepareBut_11 mno who left n (k + 1) (mwm + 1) (f_X7_prepareBut_39 mno k mwm 3 0 mwi)).2 2 mwm = mno (3 * k + 2) := by
          show (f_X7_prepareBut_11 mno who left n (k + 1) (mwm + 1) (f_X7_prepareBut_39 mno k mwm 3 0 mwi)).2 (3 * mwm + (0 + 1 + 1)) = mno (3 * k + (0 + 1 + 1))
          rw [h2 _ (by omega), but39_eq, pk_us]
        rw [show (f_X7_prepareBut_11 mno who left n (k + 1) (mwm + 1) (f_X7_prepareBut_39 mno k mwm 3 0 mwi)).1 - mwm = (f_X7_prepareBut_11 mno who left n (k + 1) (mwm + 1) (f_X7_prepareBut_39 mno k mwm 3 0 mwi)).1 - (mwm + 1) + 1 by omega, nzl.eq_2, e0, e1, e2, ih]
theorem but_sizes (mno : zF) (who left : Int32) {mQ : Nat} (hz : ∀ k, k < mQ → ∃ z, z ≤ 300 ∧ mno (3 * k + 2) = nI z) : ∀ (n k mwm : Nat) (mwi : zF), k + n = mQ → (∀ q, q < mwm → ∃ z, z ≤ 300 ∧ mwi (3 * q + 2) = nI z) → ∀ q, q < (f_X7_prepareBut_11 mno who left n k mwm mwi).1 → ∃ z, z ≤ 300 ∧ (f_X7_prepareBut_11 mno who left n k mwm mwi).2 (3 * q + 2) = nI z
  | 0, k, mwm, mwi, _, h => h
  | n + 1, k, mwm, mwi, hk, h => by
    rw [f_X7_prepareBut_11]
    by_cases c : mno (3 * k) = who
    · rw [if_pos c]
      exact but_sizes mno who left hz n (k + 1) mwm mwi (by omega) h
    · rw [if_neg c]
      by_cases d : nI k = left
      · rw [if_pos d]
        exact but_sizes mno who left hz n (k + 1) mwm mwi (by omega) h
      · rw [if_neg d]
        refine but_sizes mno who left hz n (k + 1) (mwm + 1) _ (by omega) (fun q hq => ?_)
        rw [but39_eq]
        by_cases e : q = mwm
        · subst e
          obtain ⟨z, z1, z2⟩ := hz k (by omega)
          exact ⟨z, z1, by rw [show 3 * q + 2 = 3 * q + (0 + 1 + 1) by omega, pk_us]; exact z2⟩
        · obtain ⟨z, z1, z2⟩ := h q (by omega)
          exact ⟨z, z1, by rw [pk_un (by omega), pk_un (by omega), pk_un (by omega)]; exact z2⟩
theorem nI_ne_m1 {f : Nat} (h : f < 2 ^ 31) : ¬ nI f = -1 := fun e => by
  have := nI_pos h
  rw [e] at this
  exact this (by decide)
section
variable {P Q Hn : Nat} {sd msd : Int32} {B : zB} {mP mQ : Nat} {mpe mno : zF}
/-- MEND's run -/
theorem SC_mend (K : BK P Q Hn sd B mP mQ msd mpe mno) {k : Nat} (hk : k < Q) (mwi mon : zF) : SC P Q Hn 6 (nI 0) 0 (bnOf B) (s_X0_voidBequest Q B (nI k)) (f_X7_prepareBut_11 mno (-1) (nI k) Q 0 0 mwi).1 mno (f_X7_prepareBut_11 mno (-1) (nI k) Q 0 0 mwi).2 (onP mpe P mon) := by
  have hP := K.1.2.1
  have hQ := K.1.2.2.1
  have ev : s_X0_voidBequest Q B (nI k) = (B.1, B.2.1, B.2.2.1, B.2.2.2.1, B.2.2.2.2.1, B.2.2.2.2.2.1, B.2.2.2.2.2.2.1, (upd B.2.2.2.2.2.2.2.1 k (nI 0)), B.2.2.2.2.2.2.2.2) := by
    unfold s_X0_voidBequest
    rw [hasB_hasP, hasP_in (P := Q) (by omega), if_pos (by rw [in_iff, z_sub1 (by omega), nI_toInt (by decide), nI_toInt (by omega)]; omega), nI_clamp (by omega)]
  rw [ev]
  have hle := but11_le mno (-1) (nI k) Q 0 0 mwi
  refine SC_gen K (fun j hj => ?_) rfl (fun q hq => ⟨?_, rfl⟩) (by omega) (but_sizes mno (-1) (nI k) (fun q hq => K.msizes (mwi := mno) (fun _ _ => rfl) hq) Q 0 0 mwi (by omega) (fun q hq => absurd hq (Nat.not_lt_zero q))) ⟨rfl, by decide⟩ (fun j hj _ => ?_) (fun h => absurd h (by omega))
  · obtain ⟨-, -, ⟨x, x0, x1, x2, x3⟩, ⟨y, y1, y2, y3⟩, -⟩ := K.2.1 j hj
    exact ⟨rfl, rfl, ⟨x, x0, x1, x2⟩, ⟨y, y1, y2⟩, rfl, onP_at (by omega), onP_at (by omega), (onP_at (by omega)).trans (x3.trans x2.symm), (onP_at (by omega)).trans (y3.trans y2.symm), by rw [if_neg (by omega), z_add0]; exact onP_at (by omega)⟩
  · obtain ⟨z, z1, z2⟩ := K.sizes hq
    show ∃ z, z ≤ 99 ∧ upd B.2.2.2.2.2.2.2.1 k (nI 0) q = nI z
    by_cases w : q = k
    · rw [w, pk_us]; exact ⟨0, by decide, rfl⟩
    · rw [pk_un w]; exact ⟨z, z1, z2⟩
  · have hb := but_list mno (-1) (nI k) (nI j) Q 0 0 mwi
    rw [Nat.sub_zero] at hb
    refine Eq.trans ?_ hb.symm
    refine nzl_congr Q 0 (fun q _ hq => ?_)
    obtain ⟨⟨f, f1, f2, f3⟩, ⟨t, t1, t2, t3⟩, ⟨z, z0, z1, z2, z3⟩⟩ := K.2.2.1 q (by omega)
    refine ⟨f2.trans f3.symm, t2.trans t3.symm, ?_⟩
    show upd B.2.2.2.2.2.2.2.1 k (nI 0) q = if mno (3 * q) = -1 ∨ nI q = nI k then nI 0 else mno (3 * q + 2)
    by_cases w : q = k
    · rw [w, pk_us, if_pos (Or.inr rfl)]
    · have hn : ¬ (mno (3 * q) = -1 ∨ nI q = nI k) := by
        rw [f3, nI_eq (by omega) (by omega)]
        exact fun z => z.elim (nI_ne_m1 (by omega)) w
      rw [pk_un w, if_neg hn]
      exact z2.trans z3.symm
theorem mend_rel (K : BK P Q Hn sd B mP mQ msd mpe mno) : ∀ (n k : Nat) (be mo : Int32) (P9 Q9 H9 : Nat) (sd9 : Int32) (B9 : zB) (hav9 : Int32) (Y9 : zY) (PA9 : Nat → Nat → Int32) (mwm9 : Nat) (mls9 mhd9 : Int32) (mwi9 mon9 mdi9 mco9 mgo9 mbr9 mca9 : zF), k + n = Q →
    (f_X6_mend_20 P Q Hn sd B n k be mo P9 Q9 H9 sd9 B9 hav9 Y9 PA9).1 = (f_X7_mend_20 P Q sd mpe mno Hn n k be mo mwm9 mls9 mhd9 mwi9 mon9 mdi9 mco9 mgo9 mbr9 mca9).1 ∧ (f_X6_mend_20 P Q Hn sd B n k be mo P9 Q9 H9 sd9 B9 hav9 Y9 PA9).2.1 = (f_X7_mend_20 P Q sd mpe mno Hn n k be mo mwm9 mls9 mhd9 mwi9 mon9 mdi9 mco9 mgo9 mbr9 mca9).2.1
  | 0, k, be, mo, P9, Q9, H9, sd9, B9, hav9, Y9, PA9, mwm9, mls9, mhd9, mwi9, mon9, mdi9, mco9, mgo9, mbr9, mca9, _ => ⟨rfl, rfl⟩
  | n + 1, k, be, mo, P9, Q9, H9, sd9, B9, hav9, Y9, PA9, mwm9, mls9, mhd9, mwi9, mon9, mdi9, mco9, mgo9, mbr9, mca9, hn => by
    have hP := K.1.2.1
    have S := SC_mend K (show k < Q by omega) (wiP mno Q mwi9) mon9
    obtain ⟨r1, r2, r3, r4⟩ := run_all (sd := sd) S (by omega) Y9 PA9 mdi9 mco9 mgo9 mbr9 mca9
    have hc := mu_count hP r4
    rw [f_X6_mend_20, f_X7_mend_20]
    unfold s_X7_prepareBut s_X7_prepare
    dsimp only
    rw [r1, hc]
    by_cases c : s_X7_hadMany P (s_X7_run P (f_X7_prepareBut_11 mno (-1) (nI k) Q 0 0 (wiP mno Q mwi9)).1 sd mno (f_X7_prepareBut_11 mno (-1) (nI k) Q 0 0 (wiP mno Q mwi9)).2 (onP mpe P mon9) mdi9 mco9 mgo9 mbr9 mca9 Hn).1 ≤ mo
    · rw [if_pos c, if_pos c, if_pos c]
      exact mend_rel K n (k + 1) _ _ _ _ _ _ _ _ _ _ _ _ _ _ _ _ _ _ _ _ (by omega)
    · rw [if_neg c, if_neg c, if_neg c]
      exact mend_rel K n (k + 1) _ _ _ _ _ _ _ _ _ _ _ _ _ _ _ _ _ _ _ _ (by omega)
theorem ans_mend (K : BK P Q Hn sd B mP mQ msd mpe mno) (P2 Q2 H2 : Nat) (sd2 : Int32) (B2 : zB) (hav2 : Int32) (Y2 : zY) (PA2 : Nat → Nat → Int32) (mwm : Nat) (mls mhd : Int32) (mwi mon mdi mco mgo mbr mca : zF) (wh : Int32) :
    (s_X6_mend P Q Hn sd B P2 Q2 H2 sd2 B2 hav2 Y2 PA2 wh).1 = (s_X7_mend mP mQ mwm msd mls mhd mpe mno mwi mon mdi mco mgo mbr mca wh Hn).1 := by
  unfold s_X6_mend s_X7_mend
  rw [K.eP, K.eQ, K.es]
  obtain ⟨h1, h2⟩ := mend_rel K Q 0 (-4) (-4) P2 Q2 H2 sd2 B2 hav2 Y2 PA2 mwm mls mhd mwi mon mdi mco mgo mbr mca (by omega)
  by_cases h0 : wh = 0
  · have hin : s_X7_in wh (nI 0) (nI 1) = true := by rw [h0]; decide
    rw [if_pos h0, if_pos hin]
    dsimp only
    rw [if_pos h0, if_pos h0]
    exact h1
  · rw [if_neg h0]
    by_cases hh : wh = nI 1
    · have hin : s_X7_in wh (nI 0) (nI 1) = true := by rw [hh]; decide
      rw [if_pos hh, if_pos hin]
      dsimp only
      rw [if_neg h0, if_neg h0]
      exact h2
    · have hin : ¬ s_X7_in wh (nI 0) (nI 1) = true := fun q => by
        obtain ⟨e, hw⟩ := in_nat q (by decide) (by decide)
        have : wh.toNatClampNeg = 0 ∨ wh.toNatClampNeg = 1 := by omega
        rcases this with q | q
        · rw [q] at e; exact h0 (e.trans nI_0)
        · rw [q] at e; exact hh e
      rw [if_neg hh, if_neg hin]
/-- a person's bequests made void -/
theorem void_at (i : Int32) : ∀ (n k : Nat) (B : zB), ∃ sz, f_X0_voidBequestsOf_2 i n k B = (B.1, B.2.1, B.2.2.1, B.2.2.2.1, B.2.2.2.2.1, B.2.2.2.2.2.1, B.2.2.2.2.2.2.1, sz, B.2.2.2.2.2.2.2.2) ∧ ∀ q, sz q = if k ≤ q ∧ q < k + n ∧ B.2.2.2.2.2.1 q = i then nI 0 else B.2.2.2.2.2.2.2.1 q
  | 0, k, B => ⟨B.2.2.2.2.2.2.2.1, rfl, fun q => (if_neg (by omega)).symm⟩
  | n + 1, k, B => by
    rw [f_X0_voidBequestsOf_2]
    by_cases c : B.2.2.2.2.2.1 k = i
    · rw [if_pos c]
      obtain ⟨sz, e, h⟩ := void_at i n (k + 1) (B.1, B.2.1, B.2.2.1, B.2.2.2.1, B.2.2.2.2.1, B.2.2.2.2.2.1, B.2.2.2.2.2.2.1, (upd B.2.2.2.2.2.2.2.1 k (nI 0)), B.2.2.2.2.2.2.2.2)
      refine ⟨sz, e, fun q => ?_⟩
      rw [h q]
      show (if k + 1 ≤ q ∧ q < k + 1 + n ∧ B.2.2.2.2.2.1 q = i then nI 0 else upd B.2.2.2.2.2.2.2.1 k (nI 0) q) = _
      by_cases w : q = k
      · subst w
        have c1 : ¬ (q + 1 ≤ q ∧ q < q + 1 + n ∧ B.2.2.2.2.2.1 q = i) := by omega
        have c2 : q ≤ q ∧ q < q + (n + 1) ∧ B.2.2.2.2.2.1 q = i := ⟨Nat.le_refl _, by omega, c⟩
        rw [if_neg c1, if_pos c2, pk_us]
      · rw [pk_un w]
        by_cases d : k + 1 ≤ q ∧ q < k + 1 + n ∧ B.2.2.2.2.2.1 q = i
        · rw [if_pos d, if_pos ⟨by omega, by omega, d.2.2⟩]
        · have d2 : ¬ (k ≤ q ∧ q < k + (n + 1) ∧ B.2.2.2.2.2.1 q = i) := fun x => d ⟨by omega, by omega, x.2.2⟩
          rw [if_neg d, if_neg d2]
    · rw [if_neg c]
      obtain ⟨sz, e, h⟩ := void_at i n (k + 1) B
      refine ⟨sz, e, fun q => ?_⟩
      rw [h q]
      by_cases d : k + 1 ≤ q ∧ q < k + 1 + n ∧ B.2.2.2.2.2.1 q = i
      · rw [if_pos d, if_pos ⟨by omega, by omega, d.2.2⟩]
      · have d2 : ¬ (k ≤ q ∧ q < k + (n + 1) ∧ B.2.2.2.2.2.1 q = i) := fun x => by
          by_cases w : q = k
          · subst w; exact c x.2.2
          · exact d ⟨by omega, by omega, x.2.2⟩
        rw [if_neg d, if_neg d2]
theorem BK.void (K : BK P Q Hn sd B mP mQ msd mpe mno) (i : Int32) : ∃ sz, s_X0_voidBequestsOf Q B i = (B.1, B.2.1, B.2.2.1, B.2.2.2.1, B.2.2.2.2.1, B.2.2.2.2.2.1, B.2.2.2.2.2.2.1, sz, B.2.2.2.2.2.2.2.2) ∧ ∀ q, q < Q → sz q = if B.2.2.2.2.2.1 q = i then nI 0 else B.2.2.2.2.2.2.2.1 q := by
  obtain ⟨sz, e, h⟩ := void_at i Q 0 B
  refine ⟨sz, e, fun q hq => ?_⟩
  rw [h q]
  by_cases c : B.2.2.2.2.2.1 q = i
  · rw [if_pos c, if_pos ⟨Nat.zero_le _, by omega, c⟩]
  · rw [if_neg c, if_neg (fun z => c z.2.2)]
end
