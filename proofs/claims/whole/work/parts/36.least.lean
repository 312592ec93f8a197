/-! ===== answers of what would be: greatest, needs ===== -/
theorem lsum_nI : ∀ (l : List (Int32 × Int32)) (s : Nat), (∀ e ∈ l, ∃ z, z ≤ 99 ∧ e.2 = nI z) → ∃ t, t ≤ 99 * l.length ∧ lsum l (nI s) = nI (s + t)
  | [], s, _ => ⟨0, Nat.zero_le _, rfl⟩
  | e :: r, s, h => by
    obtain ⟨z, z1, z2⟩ := h e List.mem_cons_self
    obtain ⟨t, t1, t2⟩ := lsum_nI r (s + z) (fun x hx => h x (List.mem_cons_of_mem _ hx))
    have hlen : (e :: r).length = r.length + 1 := rfl
    refine ⟨z + t, by omega, ?_⟩
    show lsum r (nI s + e.2) = _
    rw [z2, nI_add, t2, Nat.add_assoc]
theorem nh_turns {P mwm yr i0 : Nat} {mwi mon : zF} (hP : P ≤ 6) (h0 : i0 < P) (hL : s_X7_leaving mwm mwi i0 ≤ 0) : ∀ (n i : Nat) (mhd : Int32) (mdi mco mgo mbr : zF), i + n = P → (∃ v, v < 64 ∧ mhd = nI v) → s_X7_has mhd i0 = false → (∃ v, v < 64 ∧ (f_X7_run_250 mwm mwi mon yr n i mhd mdi mco mgo mbr).1 = nI v) ∧ s_X7_has (f_X7_run_250 mwm mwi mon yr n i mhd mdi mco mgo mbr).1 i0 = false
  | 0, i, mhd, mdi, mco, mgo, mbr, _, h1, h2 => ⟨h1, h2⟩
  | n + 1, i, mhd, mdi, mco, mgo, mbr, hn, h1, h2 => by
    rw [f_X7_run_250]
    by_cases hv : s_X7_lives mon mdi i yr = true
    · rw [if_pos hv]
      obtain ⟨u1, u2⟩ := turnM_unary (mwm := mwm) (yr := yr) (mwi := mwi) (mon := mon) (mdi := mdi) (mco := mco) (mgo := mgo) (mbr := mbr) h1 hP (show i < P by omega)
      refine nh_turns hP h0 hL n (i + 1) _ _ _ _ _ (by omega) u1 ?_
      by_cases q : i0 = i
      · subst q
        have hc : ¬ (¬ nI yr - mon (5 * i0) < nI 18 ∧ ¬ s_X7_leaving mwm mwi i0 ≤ 0 ∧ ¬ mco i0 < s_X7_leaving mwm mwi i0) := fun z => z.2.1 hL
        rw [turnM_form, if_neg hc]
        split
        · exact h2
        · exact h2
      · exact (u2 i0 h0 q).2.trans h2
    · rw [if_neg hv]
      exact nh_turns hP h0 hL n (i + 1) _ _ _ _ _ (by omega) h1 h2
theorem nh_years {P mwm Hn i0 : Nat} {sd : Int32} {mno mwi mon : zF} (hP : P ≤ 6) (h0 : i0 < P) (hL : s_X7_leaving mwm mwi i0 ≤ 0) : ∀ (n yr : Nat) (mhd : Int32) (mdi mco mgo mbr mca : zF), (∃ v, v < 64 ∧ mhd = nI v) → s_X7_has mhd i0 = false → s_X7_has (f_X7_run_63 P mwm sd mno mwi mon Hn n yr mhd mdi mco mgo mbr mca).1 i0 = false
  | 0, yr, mhd, mdi, mco, mgo, mbr, mca, _, h => h
  | n + 1, yr, mhd, mdi, mco, mgo, mbr, mca, h1, h2 => by
    rw [f_X7_run_63]
    obtain ⟨g1, g2⟩ := nh_turns (yr := yr) (mon := mon) hP h0 hL P 0 mhd mdi (f_X7_run_206 sd mon yr mdi P 0 (f_X7_run_123 mno mon yr mdi Hn 0 (f_X7_run_72 mon yr P 0 mco))) mgo mbr (by omega) h1 h2
    exact nh_years hP h0 hL n (yr + 1) _ _ _ _ _ _ g1 g2
theorem run_nohas {P mwm Hn i0 : Nat} {sd : Int32} {mno mwi mon : zF} (hP : P ≤ 6) (h0 : i0 < P) (hL : s_X7_leaving mwm mwi i0 ≤ 0) (mdi mco mgo mbr mca : zF) : s_X7_has (s_X7_run P mwm sd mno mwi mon mdi mco mgo mbr mca Hn).1 i0 = false := by
  obtain ⟨N, hN⟩ : ∃ N : Nat, N = 151 := ⟨_, rfl⟩
  rw [run7_eq hN]
  exact nh_years hP h0 hL N 0 _ _ _ _ _ _ ⟨0, by decide, rfl⟩ (has_0 ⟨i0, by omega⟩)
theorem nI_uniq {a b : Nat} {x : Int32} (ha : a < 2 ^ 31) (hb : b < 2 ^ 31) (h1 : x = nI a) (h2 : x = nI b) : a = b := by
  have := h1.symm.trans h2
  rw [nI_eq ha hb] at this
  exact this
section
variable {P Q Hn : Nat} {sd msd : Int32} {B : zB} {mP mQ : Nat} {mpe mno : zF}
theorem SC_great (K : BK P Q Hn sd B mP mQ msd mpe mno) {i n : Nat} (hi : i < P) (hn0 : 0 < n) (hn : n ≤ 300) (mwi mon : zF) {m : Nat} {R : zF} (hm : m = (f_X7_prepareBut_11 mno (nI i) (-1) Q 0 0 mwi).1) (hR : R = (f_X7_prepareBut_11 mno (nI i) (-1) Q 0 0 mwi).2) :
    SC P Q Hn i (nI 0) 0 (bnOf B) (s_X0_voidBequestsOf Q B (nI i)) (m + 1) mno (upd (upd (upd R (3 * m) (nI i)) ((3 * m) + 1) (-1)) ((3 * m) + 2) (nI n)) (onP mpe P mon) ∧ s_X7_leaving (m + 1) (upd (upd (upd R (3 * m) (nI i)) ((3 * m) + 1) (-1)) ((3 * m) + 2) (nI n)) i = nI n := by
  have hP := K.1.2.1
  have hQ := K.1.2.2.1
  have hle := but11_le mno (nI i) (-1) Q 0 0 mwi
  rw [← hm] at hle
  obtain ⟨sz, ev, hsz⟩ := K.void (nI i)
  have hin : ∀ j, nzl (w3 (upd (upd (upd R (3 * m) (nI i)) ((3 * m) + 1) (-1)) ((3 * m) + 2) (nI n)) 0) (w3 (upd (upd (upd R (3 * m) (nI i)) ((3 * m) + 1) (-1)) ((3 * m) + 2) (nI n)) 1) (w3 (upd (upd (upd R (3 * m) (nI i)) ((3 * m) + 1) (-1)) ((3 * m) + 2) (nI n)) 2) (nI j) m 0 = nzl (w3 mno 0) (w3 mno 1) (fun q => if mno (3 * q) = nI i ∨ nI q = -1 then nI 0 else mno (3 * q + 2)) (nI j) Q 0 := by
    intro j
    have hb := but_list mno (nI i) (-1) (nI j) Q 0 0 mwi
    rw [Nat.sub_zero, ← hm, ← hR] at hb
    refine Eq.trans (nzl_congr m 0 (fun q _ hq => ⟨?_, ?_, ?_⟩)) hb
    · show upd (upd (upd R (3 * m) (nI i)) ((3 * m) + 1) (-1)) ((3 * m) + 2) (nI n) (3 * q + 0) = R (3 * q + 0)
      rw [pk_un (by omega), pk_un (by omega), pk_un (by omega)]
    · show upd (upd (upd R (3 * m) (nI i)) ((3 * m) + 1) (-1)) ((3 * m) + 2) (nI n) (3 * q + 1) = R (3 * q + 1)
      rw [pk_un (by omega), pk_un (by omega), pk_un (by omega)]
    · show upd (upd (upd R (3 * m) (nI i)) ((3 * m) + 1) (-1)) ((3 * m) + 2) (nI n) (3 * q + 2) = R (3 * q + 2)
      rw [pk_un (by omega), pk_un (by omega), pk_un (by omega)]
  have e0 : w3 (upd (upd (upd R (3 * m) (nI i)) ((3 * m) + 1) (-1)) ((3 * m) + 2) (nI n)) 0 (0 + m) = nI i := by
    show upd (upd (upd R (3 * m) (nI i)) ((3 * m) + 1) (-1)) ((3 * m) + 2) (nI n) (3 * (0 + m) + 0) = nI i
    rw [Nat.zero_add, pk_un (by omega), pk_un (by omega), Nat.add_zero, pk_us]
  have e2 : w3 (upd (upd (upd R (3 * m) (nI i)) ((3 * m) + 1) (-1)) ((3 * m) + 2) (nI n)) 2 (0 + m) = nI n := by
    show upd (upd (upd R (3 * m) (nI i)) ((3 * m) + 1) (-1)) ((3 * m) + 2) (nI n) (3 * (0 + m) + 2) = nI n
    rw [Nat.zero_add, pk_us]
  refine ⟨?_, ?_⟩
  · rw [ev]
    refine SC_gen K (fun j hj => ?_) rfl (fun q hq => ⟨?_, rfl⟩) (by omega) (fun q hq => ?_) ⟨rfl, by decide⟩ (fun j hj hne => ?_) (fun _ => ?_)
    · obtain ⟨-, -, ⟨x, x0, x1, x2, x3⟩, ⟨y, y1, y2, y3⟩, -⟩ := K.2.1 j hj
      exact ⟨rfl, rfl, ⟨x, x0, x1, x2⟩, ⟨y, y1, y2⟩, rfl, onP_at (by omega), onP_at (by omega), (onP_at (by omega)).trans (x3.trans x2.symm), (onP_at (by omega)).trans (y3.trans y2.symm), by rw [ite_self, z_add0]; exact onP_at (by omega)⟩
    · obtain ⟨z, z1, z2⟩ := K.sizes hq
      show ∃ z, z ≤ 99 ∧ sz q = nI z
      rw [hsz q hq]
      split
      · exact ⟨0, by decide, rfl⟩
      · exact ⟨z, z1, z2⟩
    · by_cases w : q = m
      · subst w
        exact ⟨n, hn, pk_us⟩
      · obtain ⟨z, z1, z2⟩ := but_sizes mno (nI i) (-1) (fun q hq => K.msizes (mwi := mno) (fun _ _ => rfl) hq) Q 0 0 mwi (by omega) (fun q hq => absurd hq (Nat.not_lt_zero q)) q (by omega)
        exact ⟨z, z1, by rw [pk_un (by omega), pk_un (by omega), pk_un (by omega), hR]; exact z2⟩
    · show nzl (yFr B) (yTo B) sz (nI j) Q 0 = nzl _ _ _ (nI j) (m + 1) 0
      have hij : ¬ nI i = nI j := fun z => hne (nI_uniq (a := j) (b := i) (x := nI i) (by omega) (by omega) z rfl)
      rw [nzl_snoc, hin j, e0, if_neg hij, List.append_nil]
      refine nzl_congr Q 0 (fun q _ hq => ?_)
      obtain ⟨⟨f, f1, f2, f3⟩, ⟨t, t1, t2, t3⟩, ⟨z, z0, z1, z2, z3⟩⟩ := K.2.2.1 q (by omega)
      refine ⟨f2.trans f3.symm, t2.trans t3.symm, ?_⟩
      show sz q = if mno (3 * q) = nI i ∨ nI q = -1 then nI 0 else mno (3 * q + 2)
      rw [hsz q (by omega), f3, show B.2.2.2.2.2.1 q = nI f from f2]
      by_cases c : nI f = nI i
      · rw [if_pos c, if_pos (Or.inl c)]
      · rw [if_neg c, if_neg (fun z => z.elim c (nI_ne_m1 (by omega)))]
        exact z2.trans z3.symm
    · refine nzl_nil Q 0 (fun q _ hq he => ?_)
      show sz q = nI 0
      rw [hsz q (by omega), if_pos he]
  · have en : nzl (w3 mno 0) (w3 mno 1) (fun q => if mno (3 * q) = nI i ∨ nI q = -1 then nI 0 else mno (3 * q + 2)) (nI i) Q 0 = [] := nzl_nil Q 0 (fun q _ hq he => if_pos (Or.inl he))
    rw [leavM]
    show lsum (nzl _ _ _ (nI i) (m + 1) 0) (nI 0) = nI n
    have hn9 : ¬ nI n = nI 0 := fun z => by
      have := nI_uniq (a := n) (b := 0) (x := nI n) (by omega) (by decide) rfl z
      omega
    rw [nzl_snoc, hin i, en, e0, if_pos rfl, e2, if_neg hn9]
    show nI 0 + nI n = nI n
    exact z_0add _
theorem great_rel (K : BK P Q Hn sd B mP mQ msd mpe mno) {i h : Nat} (hi : i < P) (hh : h < 2 ^ 30) (Y2 : zY) (PA2 : Nat → Nat → Int32) (eh : (s_X5_run Y2 PA2 P Q Hn sd (s_X0_voidBequestsOf Q B (nI i))).2.1.2.2.2.1 i = nI h) : ∀ (n : Nat) (mwm9 : Nat) (mls9 mhd9 : Int32) (mwi9 mon9 mdi9 mco9 mgo9 mbr9 mca9 : zF), n ≤ 300 →
    (f_X7_greatest_14 P Q sd mpe mno (nI i) Hn n n mwm9 mls9 mhd9 mwi9 mon9 mdi9 mco9 mgo9 mbr9 mca9).1 = if 1 ≤ min h n then nI (min h n) else -4
  | 0, mwm9, mls9, mhd9, mwi9, mon9, mdi9, mco9, mgo9, mbr9, mca9, _ => by
    rw [if_neg (by omega)]
    rfl
  | n + 1, mwm9, mls9, mhd9, mwi9, mon9, mdi9, mco9, mgo9, mbr9, mca9, hn => by
    have hP := K.1.2.1
    have ec : (nI i).toNatClampNeg = i := nI_clamp (by omega)
    obtain ⟨S, L⟩ := SC_great K hi (show 0 < n + 1 by omega) hn (wiP mno Q mwi9) mon9 rfl rfl
    obtain ⟨h2, h3, h4, h5⟩ := run_special (sd := sd) S hi ⟨L, by omega, by omega⟩ Y2 PA2 mdi9 mco9 mgo9 mbr9 mca9
    have e := nI_uniq (by omega) (by omega) eh h4
    subst e
    rw [f_X7_greatest_14, ec]
    unfold s_X7_prepareBut s_X7_prepare
    dsimp only
    by_cases c : n + 1 ≤ h
    · rw [if_pos (h5.mpr (by omega)), if_pos (by omega), Nat.min_eq_right c]
    · rw [if_neg (fun z => c (by have := h5.mp z; omega)), Nat.add_sub_cancel]
      rw [great_rel K hi hh Y2 PA2 eh n _ _ _ _ _ _ _ _ _ _ (by omega), show min h (n + 1) = min h n by omega]
theorem ans_greatest (K : BK P Q Hn sd B mP mQ msd mpe mno) (P2 Q2 H2 : Nat) (sd2 : Int32) (B2 : zB) (hav2 : Int32) (Y2 : zY) (PA2 : Nat → Nat → Int32) (mwm : Nat) (mls mhd : Int32) (mwi mon mdi mco mgo mbr mca : zF) (i : Int32) :
    (s_X6_greatest P Q Hn sd B P2 Q2 H2 sd2 B2 hav2 Y2 PA2 i).1 = (s_X7_greatest mP mQ mwm msd mls mhd mpe mno mwi mon mdi mco mgo mbr mca i Hn).1 := by
  have hP := K.1.2.1
  unfold s_X6_greatest s_X7_greatest
  rw [K.eP, K.eQ, K.es, ← hasP_in (P := P) (by omega)]
  by_cases hp : s_X0_hasPerson P i = true
  · obtain ⟨e, hi⟩ := hasP_nat9 hp (by omega)
    generalize hi9 : i.toNatClampNeg = i9 at e hi
    subst e
    rw [if_pos hp, if_pos hp]
    obtain ⟨S, L⟩ := SC_great K hi (show 0 < 1 by omega) (by decide) (wiP mno Q mwi) mon rfl rfl
    obtain ⟨h, h3, h4, -⟩ := run_special (sd := sd) S hi ⟨L, by omega, by decide⟩ Y2 PA2 mdi mco mgo mbr mca
    obtain ⟨N, hN⟩ : ∃ N : Nat, N = 300 := ⟨_, rfl⟩
    have hg := great_rel K hi h3 Y2 PA2 h4 N mwm mls mhd mwi mon mdi mco mgo mbr mca (by omega)
    rw [← hN, hg]
    have eu : (s_X6_mostEverHeld P Q Hn sd B Y2 PA2 (nI i9)).1 = nI h := by
      show (s_X5_run Y2 PA2 P Q Hn sd (s_X0_voidBequestsOf Q B (nI i9))).2.1.2.2.2.1 (nI i9).toNatClampNeg = nI h
      rw [nI_clamp (by omega)]
      exact h4
    have em : (if nI N < nI h then nI N else nI h) = nI (min h N) := by
      by_cases c : N < h
      · rw [if_pos ((nI_ltI (by omega) (by omega)).mpr c), Nat.min_eq_right (by omega)]
      · rw [if_neg (fun z => c ((nI_ltI (by omega) (by omega)).mp z)), Nat.min_eq_left (by omega)]
    dsimp only
    rw [eu, em]
    by_cases c : 1 ≤ min h N
    · rw [if_pos c, if_neg (fun z => by rw [nI_ltI (by omega) (by decide)] at z; omega)]
    · rw [if_neg c, if_pos ((nI_ltI (by omega) (by decide)).mpr (by omega))]
  · rw [if_neg hp, if_neg hp]
theorem SC_needs (K : BK P Q Hn sd B mP mQ msd mpe mno) {i n : Nat} (hi : i < P) (hn : n ≤ 300) (mwi mon : zF) :
    SC P Q Hn i (nI n) n (bnOf B) (s_X0_voidBequestsOf Q B (nI i)) Q mno (wiP mno Q mwi) (upd (onP mpe P mon) ((5 * i) + 4) ((onP mpe P mon ((5 * i) + 4)) + (nI n))) := by
  have hP := K.1.2.1
  have hQ := K.1.2.2.1
  obtain ⟨sz, ev, hsz⟩ := K.void (nI i)
  rw [ev]
  refine SC_gen K (fun j hj => ?_) rfl (fun q hq => ⟨?_, rfl⟩) (by omega) (fun q hq => K.msizes (fun q hq => wiP_at hq) hq) ⟨rfl, hn⟩ (fun j hj hne => ?_) (fun _ => ?_)
  · obtain ⟨-, -, ⟨x, x0, x1, x2, x3⟩, ⟨y, y1, y2, y3⟩, -⟩ := K.2.1 j hj
    refine ⟨rfl, rfl, ⟨x, x0, x1, x2⟩, ⟨y, y1, y2⟩, rfl, ?_, ?_, ?_, ?_, ?_⟩
    · rw [pk_un (by omega)]; exact onP_at (by omega)
    · rw [pk_un (by omega)]; exact onP_at (by omega)
    · rw [pk_un (by omega)]; exact (onP_at (by omega)).trans (x3.trans x2.symm)
    · rw [pk_un (by omega)]; exact (onP_at (by omega)).trans (y3.trans y2.symm)
    · by_cases w : j = i
      · subst w
        rw [pk_us, if_pos rfl, onP_at (by omega)]
      · rw [pk_un (by omega), if_neg w, z_add0]; exact onP_at (by omega)
  · obtain ⟨z, z1, z2⟩ := K.sizes hq
    show ∃ z, z ≤ 99 ∧ sz q = nI z
    rw [hsz q hq]
    split
    · exact ⟨0, by decide, rfl⟩
    · exact ⟨z, z1, z2⟩
  · show nzl (yFr B) (yTo B) sz (nI j) Q 0 = nzl _ _ _ (nI j) Q 0
    refine nzl_congr2 Q 0 (fun q _ hq => ?_)
    obtain ⟨⟨f, f1, f2, f3⟩, ⟨t, t1, t2, t3⟩, ⟨z, z0, z1, z2, z3⟩⟩ := K.2.2.1 q (by omega)
    have g0 : w3 (wiP mno Q mwi) 0 q = mno (3 * q) := wiP_at (by omega)
    have g1 : w3 (wiP mno Q mwi) 1 q = mno (3 * q + 1) := wiP_at (by omega)
    have g2 : w3 (wiP mno Q mwi) 2 q = mno (3 * q + 2) := wiP_at (by omega)
    rw [g0, g1, g2]
    refine ⟨f2.trans f3.symm, fun he => ⟨t2.trans t3.symm, ?_⟩⟩
    have hne2 : ¬ B.2.2.2.2.2.1 q = nI i := fun z => hne (nI_uniq (by omega) (by omega) he z)
    rw [hsz q (by omega), if_neg hne2]
    exact z2.trans z3.symm
  · refine nzl_nil Q 0 (fun q _ hq he => ?_)
    show sz q = nI 0
    rw [hsz q (by omega), if_pos he]
theorem BK.leaving (K : BK P Q Hn sd B mP mQ msd mpe mno) (mwi : zF) (i : Nat) : s_X7_leaving Q (wiP mno Q mwi) i = s_X0_leaves Q B (nI i) := by
  rw [leavM]
  have h1 : s_X0_leaves Q B (nI i) = lsum (nzC B Q i) (nI 0) := leaves_eq B (nI i) Q 0 (nI 0)
  rw [h1, K.lists (B2 := B) (mwi := wiP mno Q mwi) (fun k _ => ⟨rfl, rfl, rfl⟩) (fun q hq => wiP_at hq) i]
theorem BK.leavesN (K : BK P Q Hn sd B mP mQ msd mpe mno) (i : Nat) : ∃ L, L ≤ 891 ∧ s_X0_leaves Q B (nI i) = nI L := by
  have hQ := K.1.2.2.1
  have h1 : s_X0_leaves Q B (nI i) = lsum (nzC B Q i) (nI 0) := leaves_eq B (nI i) Q 0 (nI 0)
  obtain ⟨t, t1, t2⟩ := lsum_nI (nzC B Q i) 0 (fun e he => by
    obtain ⟨k, k1, k2, k3, k4⟩ := nzl_mem Q 0 he
    obtain ⟨z, z1, z2⟩ := K.sizes (show k < Q by omega)
    exact ⟨z, z1, by rw [k4]; exact z2⟩)
  have hl : (nzC B Q i).length ≤ Q := nzl_len Q 0
  exact ⟨t, by omega, by rw [h1, t2, Nat.zero_add]⟩
theorem needs_rel (K : BK P Q Hn sd B mP mQ msd mpe mno) {i h L : Nat} (hi : i < P) (hh : h < 2 ^ 30) (hL0 : 0 < L) (hL : L ≤ 891) (eL : s_X0_leaves Q B (nI i) = nI L) (Y2 : zY) (PA2 : Nat → Nat → Int32) (eh : (s_X5_run Y2 PA2 P Q Hn sd (s_X0_voidBequestsOf Q B (nI i))).2.1.2.2.2.1 i = nI h) : ∀ (n9 n : Nat) (mwm9 : Nat) (mls9 mhd9 : Int32) (mwi9 mon9 mdi9 mco9 mgo9 mbr9 mca9 : zF), n + n9 = 301 →
    (f_X7_needs_12 P Q sd mpe mno (nI i) Hn n9 n mwm9 mls9 mhd9 mwi9 mon9 mdi9 mco9 mgo9 mbr9 mca9).1 = if max (L - h) n ≤ 300 then nI (max (L - h) n) else -4
  | 0, n, mwm9, mls9, mhd9, mwi9, mon9, mdi9, mco9, mgo9, mbr9, mca9, hn => by
    rw [if_neg (by omega)]
    rfl
  | n9 + 1, n, mwm9, mls9, mhd9, mwi9, mon9, mdi9, mco9, mgo9, mbr9, mca9, hn => by
    have hP := K.1.2.1
    have ec : (nI i).toNatClampNeg = i := nI_clamp (by omega)
    have S := SC_needs K hi (show n ≤ 300 by omega) mwi9 mon9
    obtain ⟨h2, h3, h4, h5⟩ := run_special (sd := sd) S hi ⟨(K.leaving mwi9 i).trans eL, hL0, by omega⟩ Y2 PA2 mdi9 mco9 mgo9 mbr9 mca9
    have e := nI_uniq (by omega) (by omega) eh h4
    subst e
    rw [f_X7_needs_12, ec]
    unfold s_X7_prepare
    dsimp only
    by_cases c : L ≤ h + n
    · rw [if_pos (h5.mpr c), if_pos (by omega), show max (L - h) n = n by omega]
    · rw [if_neg (fun z => c (h5.mp z))]
      rw [needs_rel K hi hh hL0 hL eL Y2 PA2 eh n9 (n + 1) _ _ _ _ _ _ _ _ _ _ (by omega), show max (L - h) (n + 1) = max (L - h) n by omega]
theorem needs_none (K : BK P Q Hn sd B mP mQ msd mpe mno) {i : Nat} (hi : i < P) (eL : s_X0_leaves Q B (nI i) = nI 0) : ∀ (n9 n : Nat) (mwm9 : Nat) (mls9 mhd9 : Int32) (mwi9 mon9 mdi9 mco9 mgo9 mbr9 mca9 : zF),
    (f_X7_needs_12 P Q sd mpe mno (nI i) Hn n9 n mwm9 mls9 mhd9 mwi9 mon9 mdi9 mco9 mgo9 mbr9 mca9).1 = -4
  | 0, n, mwm9, mls9, mhd9, mwi9, mon9, mdi9, mco9, mgo9, mbr9, mca9 => rfl
  | n9 + 1, n, mwm9, mls9, mhd9, mwi9, mon9, mdi9, mco9, mgo9, mbr9, mca9 => by
    have hP := K.1.2.1
    have ec : (nI i).toNatClampNeg = i := nI_clamp (by omega)
    have h5 := run_nohas (sd := sd) (Hn := Hn) (mno := mno) (mon := (upd (onP mpe P mon9) ((5 * i) + 4) ((onP mpe P mon9 ((5 * i) + 4)) + (nI n)))) hP hi (by rw [K.leaving mwi9 i, eL]; decide : s_X7_leaving Q (wiP mno Q mwi9) i ≤ 0) mdi9 mco9 mgo9 mbr9 mca9
    rw [f_X7_needs_12, ec]
    unfold s_X7_prepare
    dsimp only
    rw [if_neg (fun z => by rw [h5] at z; cases z)]
    exact needs_none K hi eL n9 (n + 1) _ _ _ _ _ _ _ _ _ _
theorem ans_needs (K : BK P Q Hn sd B mP mQ msd mpe mno) (P2 Q2 H2 : Nat) (sd2 : Int32) (B2 : zB) (hav2 : Int32) (Y2 : zY) (PA2 : Nat → Nat → Int32) (mwm : Nat) (mls mhd : Int32) (mwi mon mdi mco mgo mbr mca : zF) (i : Int32) :
    (s_X6_needs P Q Hn sd B P2 Q2 H2 sd2 B2 hav2 Y2 PA2 i).1 = (s_X7_needs mP mQ mwm msd mls mhd mpe mno mwi mon mdi mco mgo mbr mca i Hn).1 := by
  have hP := K.1.2.1
  unfold s_X6_needs s_X7_needs
  rw [K.eP, K.eQ, K.es, ← hasP_in (P := P) (by omega)]
  by_cases hp : s_X0_hasPerson P i = true
  · obtain ⟨e, hi⟩ := hasP_nat9 hp (by omega)
    generalize hi9 : i.toNatClampNeg = i9 at e hi
    subst e
    rw [if_pos hp, if_pos hp]
    obtain ⟨L, hL, eL⟩ := K.leavesN i9
    obtain ⟨N, hN⟩ : ∃ N : Nat, N = 301 := ⟨_, rfl⟩
    rw [← hN]
    by_cases h0 : L = 0
    · subst h0
      rw [if_pos (show s_X0_leaves Q B (nI i9) = 0 from eL.trans nI_0)]
      exact (needs_none K hi eL N 0 mwm mls mhd mwi mon mdi mco mgo mbr mca).symm
    · rw [if_neg (show ¬ s_X0_leaves Q B (nI i9) = 0 from fun z => nI_ne0 (by omega) (by omega) (eL.symm.trans z))]
      have S := SC_needs K hi (show 0 ≤ 300 by decide) mwi mon
      obtain ⟨h, h3, h4, -⟩ := run_special (sd := sd) S hi ⟨(K.leaving mwi i9).trans eL, by omega, by omega⟩ Y2 PA2 mdi mco mgo mbr mca
      rw [needs_rel K hi h3 (by omega) hL eL Y2 PA2 h4 N 0 mwm mls mhd mwi mon mdi mco mgo mbr mca (by omega)]
      have eu : (s_X6_mostEverHeld P Q Hn sd B Y2 PA2 (nI i9)).1 = nI h := by
        show (s_X5_run Y2 PA2 P Q Hn sd (s_X0_voidBequestsOf Q B (nI i9))).2.1.2.2.2.1 (nI i9).toNatClampNeg = nI h
        rw [nI_clamp (by omega)]
        exact h4
      have ex : (if (nI L - nI h) < (nI 0) then (nI 0) else (nI L - nI h)) = nI (L - h) := by
        by_cases c : L < h
        · rw [if_pos (by rw [nI_0]; exact pk_sneg (by omega) c), show L - h = 0 by omega]
        · rw [pk_sub (by omega), if_neg (by rw [nI_0]; exact nI_pos (by omega))]
      dsimp only
      rw [eu, eL, ex, Nat.max_zero]
      by_cases c : L - h ≤ 300
      · rw [if_pos c, if_neg (fun z => by rw [nI_ltI (by decide) (by omega)] at z; omega)]
      · rw [if_neg c, if_pos ((nI_ltI (by decide) (by omega)).mpr (by omega))]
  · rw [if_neg hp, if_neg hp]
end
