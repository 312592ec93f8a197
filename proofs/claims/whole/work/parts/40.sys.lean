/-! ===== the whole: class and reference from call to call ===== -/
def SYS (old : Bool) (kb n : Nat) (Le : Nat → Int32) (P Q Hn : Nat) (sd : Int32) (B : zB) (hav : Int32) (Y : zY) (PA : Nat → Nat → Int32) (cn : Nat) (Ch : zC) (sn : Nat) (Sg : zC) (P3 Q3 H3 : Nat) (sd3 : Int32) (B3 : zB) (P4 Q4 H4 : Nat) (sd4 : Int32) (B4 : zB)
    (mle mP mQ mbk mkp msg : Nat) (msd : Int32) (mtx mpe mno mbo mim msi : zF) : Prop :=
  TX n Le mle mtx ∧ (∀ j, narrow .char (.int (Le j)) = .int (Le j)) ∧ BK P Q Hn sd B mP mQ msd mpe mno ∧ TO old P Q Hn sd B hav Y PA ∧ SG sn msg Sg msi ∧
  (mbk = cn ∧ cn ≤ 8 ∧ HIS P Q sd Ch mpe mbo cn Hn B) ∧
  (mkp = kb ∧ kb ≤ 2 ∧ (1 ≤ kb → BK P3 Q3 H3 sd3 B3 P Q sd mpe mim) ∧ (2 ≤ kb → BK P4 Q4 H4 sd4 B4 P Q sd mpe (fun q => mim (40 + q))))
section
variable {old : Bool} {kb n : Nat} {Le : Nat → Int32} {P Q Hn : Nat} {sd : Int32} {B : zB} {hav : Int32} {Y : zY} {PA : Nat → Nat → Int32} {cn : Nat} {Ch : zC} {sn : Nat} {Sg : zC} {P3 Q3 H3 : Nat} {sd3 : Int32} {B3 : zB} {P4 Q4 H4 : Nat} {sd4 : Int32} {B4 : zB} {mle mP mQ mbk mkp msg : Nat} {msd : Int32} {mtx mpe mno mbo mim msi : zF}
theorem chr_nar {c : Nat} (h : c ≤ 126) : narrow .char (.int (nI c)) = .int (nI c) := (pk_charN (q := c) (by omega)).1
theorem sys_write (h : SYS old kb n Le P Q Hn sd B hav Y PA cn Ch sn Sg P3 Q3 H3 sd3 B3 P4 Q4 H4 sd4 B4 mle mP mQ mbk mkp msg msd mtx mpe mno mbo mim msi) (x : Int32) : (s_X6_write n Le x).1 = (s_X7_write mle mtx x).1 ∧
    SYS old kb (s_X6_write n Le x).2.1 (s_X6_write n Le x).2.2 P Q Hn sd B hav Y PA cn Ch sn Sg P3 Q3 H3 sd3 B3 P4 Q4 H4 sd4 B4 (s_X7_write mle mtx x).2.1 mP mQ mbk mkp msg msd (s_X7_write mle mtx x).2.2 mpe mno mbo mim msi := by
  obtain ⟨⟨rfl, t2, t3⟩, hL, hr⟩ := h
  unfold s_X6_write s_X7_write
  by_cases h1 : x < nI 32
  · have hin : ¬ s_X7_in x (nI 32) (nI 126) = true := fun z => by
      rw [in_iff] at z
      rw [Int32.lt_iff_toInt_lt] at h1
      omega
    rw [if_pos h1, if_neg hin]
    exact ⟨rfl, ⟨rfl, t2, t3⟩, hL, hr⟩
  · rw [if_neg h1]
    by_cases h2 : x ≤ nI 126
    · have hin : s_X7_in x (nI 32) (nI 126) = true := by
        rw [in_iff]
        rw [Int32.lt_iff_toInt_lt] at h1
        rw [Int32.le_iff_toInt_le] at h2
        omega
      obtain ⟨e, hc⟩ := in_nat hin (by decide) (by decide)
      have hc0 : 32 ≤ x.toNatClampNeg := by
        rw [in_iff, nI_toInt (by decide), nI_toInt (by decide)] at hin
        have := z_nat2 (x := x) (by omega)
        omega
      rw [if_pos h2, if_pos hin]
      unfold s_X3_append
      by_cases h3 : mle < 200
      · rw [if_pos h3, if_neg (by omega : ¬ mle = 200)]
        refine ⟨rfl, ⟨rfl, (by omega : mle + 1 ≤ 200), fun j hj => ?_⟩, fun j => ?_, hr⟩
        · show ∃ c, 32 ≤ c ∧ c ≤ 126 ∧ upd Le mle x j = nI c ∧ upd mtx mle x j = nI c
          by_cases q : j = mle
          · subst q
            exact ⟨x.toNatClampNeg, hc0, hc, pk_us.trans e, pk_us.trans e⟩
          · obtain ⟨c, c1, c2, c3, c4⟩ := t3 j (by have : j < mle + 1 := hj; omega)
            exact ⟨c, c1, c2, (pk_un q).trans c3, (pk_un q).trans c4⟩
        · show narrow .char (.int (upd Le mle x j)) = .int (upd Le mle x j)
          by_cases q : j = mle
          · subst q
            rw [pk_us, e]
            exact chr_nar hc
          · rw [pk_un q]
            exact hL j
      · rw [if_neg h3, if_pos (by omega : mle = 200)]
        exact ⟨rfl, ⟨rfl, t2, t3⟩, hL, hr⟩
    · have hin : ¬ s_X7_in x (nI 32) (nI 126) = true := fun z => by
        rw [in_iff] at z
        rw [Int32.le_iff_toInt_le] at h2
        omega
      rw [if_neg h2, if_neg hin]
      exact ⟨rfl, ⟨rfl, t2, t3⟩, hL, hr⟩
theorem sys_wipe (h : SYS old kb n Le P Q Hn sd B hav Y PA cn Ch sn Sg P3 Q3 H3 sd3 B3 P4 Q4 H4 sd4 B4 mle mP mQ mbk mkp msg msd mtx mpe mno mbo mim msi) : (s_X6_wipe n).1 = (s_X7_wipe mle).1 ∧
    SYS old kb (s_X6_wipe n).2 Le P Q Hn sd B hav Y PA cn Ch sn Sg P3 Q3 H3 sd3 B3 P4 Q4 H4 sd4 B4 (s_X7_wipe mle).2 mP mQ mbk mkp msg msd mtx mpe mno mbo mim msi := by
  obtain ⟨⟨rfl, t2, t3⟩, hL, hr⟩ := h
  exact ⟨rfl, ⟨rfl, (by decide : 0 ≤ 200), fun j hj => absurd hj (Nat.not_lt_zero j)⟩, hL, hr⟩
theorem lay43_at (u1 : Bool × Nat × Nat × Nat × Nat × Int32 × zF × zF × zF) : ∀ (n k : Nat) (g : zF) (q : Nat), f_X7_lay_43 u1 n k g q = if k ≤ q ∧ q < k + n then u1.2.2.2.2.2.2.2.1 q else g q
  | 0, k, g, q => (if_neg (by omega)).symm
  | n + 1, k, g, q => by
    rw [f_X7_lay_43, lay43_at u1 n (k + 1) _ q]
    by_cases c : k + 1 ≤ q ∧ q < k + 1 + n
    · rw [if_pos c, if_pos (by omega)]
    · rw [if_neg c]
      by_cases w : q = k
      · subst w
        rw [pk_us, if_pos (by omega)]
      · rw [pk_un w, if_neg (by omega)]
theorem lay73_at (u1 : Bool × Nat × Nat × Nat × Nat × Int32 × zF × zF × zF) : ∀ (n k : Nat) (g : zF) (q : Nat), f_X7_lay_73 u1 n k g q = if k ≤ q ∧ q < k + n then (if 3 * u1.2.2.2.2.1 ≤ q then nI 0 else u1.2.2.2.2.2.2.2.2 q) else g q
  | 0, k, g, q => (if_neg (by omega)).symm
  | n + 1, k, g, q => by
    rw [f_X7_lay_73]
    have key : ∀ v : Int32, v = (if 3 * u1.2.2.2.2.1 ≤ k then nI 0 else u1.2.2.2.2.2.2.2.2 k) → f_X7_lay_73 u1 n (k + 1) (upd g k v) q = if k ≤ q ∧ q < k + (n + 1) then (if 3 * u1.2.2.2.2.1 ≤ q then nI 0 else u1.2.2.2.2.2.2.2.2 q) else g q := by
      intro v hv
      rw [lay73_at u1 n (k + 1) _ q]
      by_cases c : k + 1 ≤ q ∧ q < k + 1 + n
      · rw [if_pos c, if_pos (by omega : k ≤ q ∧ q < k + (n + 1))]
      · rw [if_neg c]
        by_cases w : q = k
        · subst w
          rw [pk_us, if_pos (by omega : q ≤ q ∧ q < q + (n + 1)), hv]
        · rw [pk_un w, if_neg (by omega : ¬ (k ≤ q ∧ q < k + (n + 1)))]
    by_cases d : 3 * u1.2.2.2.2.1 ≤ k
    · rw [if_pos d]
      exact key _ (if_pos d).symm
    · rw [if_neg d]
      exact key _ (if_neg d).symm
theorem sys_lay (h : SYS old kb n Le P Q Hn sd B hav Y PA cn Ch sn Sg P3 Q3 H3 sd3 B3 P4 Q4 H4 sd4 B4 mle mP mQ mbk mkp msg msd mtx mpe mno mbo mim msi) (Nu : Nat → Int32) (B2 : zB) (mfa : Nat) (mnu mrd mrl : zF) : (s_X6_lay old kb Nu n Le P Q Hn sd B B2 cn sn).1 = (s_X7_lay mle mfa mP mQ mbk mkp msg msd mtx mnu mrd mrl mpe mno).1 ∧
    SYS (s_X6_lay old kb Nu n Le P Q Hn sd B B2 cn sn).2.1 (s_X6_lay old kb Nu n Le P Q Hn sd B B2 cn sn).2.2.1 n Le (s_X6_lay old kb Nu n Le P Q Hn sd B B2 cn sn).2.2.2.2.2.1 (s_X6_lay old kb Nu n Le P Q Hn sd B B2 cn sn).2.2.2.2.2.2.1 (s_X6_lay old kb Nu n Le P Q Hn sd B B2 cn sn).2.2.2.2.2.2.2.1 (s_X6_lay old kb Nu n Le P Q Hn sd B B2 cn sn).2.2.2.2.2.2.2.2.1 (s_X6_lay old kb Nu n Le P Q Hn sd B B2 cn sn).2.2.2.2.2.2.2.2.2.1 hav Y PA (s_X6_lay old kb Nu n Le P Q Hn sd B B2 cn sn).2.2.2.2.2.2.2.2.2.2.2.2.2.2.2.1 Ch (s_X6_lay old kb Nu n Le P Q Hn sd B B2 cn sn).2.2.2.2.2.2.2.2.2.2.2.2.2.2.2.2 Sg P3 Q3 H3 sd3 B3 P4 Q4 H4 sd4 B4
      mle (s_X7_lay mle mfa mP mQ mbk mkp msg msd mtx mnu mrd mrl mpe mno).2.2.2.2.2.1 (s_X7_lay mle mfa mP mQ mbk mkp msg msd mtx mnu mrd mrl mpe mno).2.2.2.2.2.2.1 (s_X7_lay mle mfa mP mQ mbk mkp msg msd mtx mnu mrd mrl mpe mno).2.2.2.2.2.2.2.1 (s_X7_lay mle mfa mP mQ mbk mkp msg msd mtx mnu mrd mrl mpe mno).2.2.2.2.2.2.2.2.1 (s_X7_lay mle mfa mP mQ mbk mkp msg msd mtx mnu mrd mrl mpe mno).2.2.2.2.2.2.2.2.2.1 (s_X7_lay mle mfa mP mQ mbk mkp msg msd mtx mnu mrd mrl mpe mno).2.2.2.2.2.2.2.2.2.2.2.1 mtx (s_X7_lay mle mfa mP mQ mbk mkp msg msd mtx mnu mrd mrl mpe mno).2.2.2.2.2.2.2.2.2.2.2.2.2.2.2.1 (s_X7_lay mle mfa mP mQ mbk mkp msg msd mtx mnu mrd mrl mpe mno).2.2.2.2.2.2.2.2.2.2.2.2.2.2.2.2 mbo mim msi := by
  have h0 := h
  obtain ⟨T, hL, K, hT, hS, hH, hK⟩ := h
  obtain ⟨rfl, t2, t3⟩ := T
  obtain ⟨i1, i2⟩ := into_rel (mtx := mtx) ⟨rfl, t2, t3⟩ Nu B2 mfa mnu mrd mrl
  unfold s_X6_lay s_X7_lay
  dsimp only
  generalize hU : s_X7_isRead mle mfa mtx mnu mrd mrl = U at i1 i2 ⊢
  generalize hC : s_X2_readInto Nu mle Le B2 = C at i1 i2 ⊢
  by_cases c : U.1 = true
  · obtain ⟨j1, j2, j3, j4, ⟨k1, k2, k3⟩, j6, j7⟩ := i1 c
    rw [if_pos j1, if_pos c, ← j2]
    by_cases d : C.2.2.2.1 = 0
    · rw [if_pos d, if_pos d]
      exact ⟨rfl, h0⟩
    · rw [if_neg d, if_neg d]
      refine ⟨rfl, ⟨rfl, t2, t3⟩, hL, ?_, fun z => (by cases z), ⟨rfl, (by decide : 0 ≤ 8), fun k hk => absurd hk (Nat.not_lt_zero k)⟩, ⟨rfl, (by decide : 0 ≤ 8), trivial⟩, rfl, (by decide : 0 ≤ 2), fun z => absurd z (by decide : ¬ 1 ≤ 0), fun z => absurd z (by decide : ¬ 2 ≤ 0)⟩
      dsimp only
      rw [j4, ← j3]
      refine ⟨⟨by omega, k1, k2, by decide, rfl, rfl, k3⟩, fun j hj => ?_, fun k hk => ?_, ?_, fun x hx => absurd hx (Nat.not_lt_zero x)⟩
      · obtain ⟨⟨y1, z1, w1, v1⟩, ⟨y2, z2, w2, v2⟩, ⟨y3, z3, t3, w3, v3⟩, ⟨y4, z4, w4, v4⟩, ⟨y5, z5, w5, v5⟩⟩ := j6 j hj
        have hu : ∀ q, q < 5 * C.2.2.2.1 → f_X7_lay_43 U (5 * C.2.2.2.1) 0 mpe q = U.2.2.2.2.2.2.2.1 q := fun q hq => by rw [lay43_at, if_pos (by omega)]
        exact ⟨⟨y1, z1, w1, (hu _ (by omega)).trans v1⟩, ⟨y2, z2, w2, (hu _ (by omega)).trans v2⟩, ⟨y3, z3, t3, w3, (hu _ (by omega)).trans v3⟩, ⟨y4, z4, w4, (hu _ (by omega)).trans v4⟩, ⟨y5, z5, w5, (hu _ (by omega)).trans v5⟩⟩
      · obtain ⟨⟨f, f1, f2, f3⟩, ⟨t, t1, t2, t3⟩, ⟨z, z0, z1, z2, z3⟩⟩ := j7 k hk
        have hu : ∀ q, q < 3 * C.2.2.2.2.1 → f_X7_lay_73 U 40 0 mno q = U.2.2.2.2.2.2.2.2 q := fun q hq => by rw [lay73_at, if_pos (by omega), if_neg (by omega)]
        exact ⟨⟨f, f1, f2, (hu _ (by omega)).trans f3⟩, ⟨t, t1, t2, (hu _ (by omega)).trans t3⟩, ⟨z, z0, z1, z2, (hu _ (by omega)).trans z3⟩⟩
      · rw [lay73_at, if_pos (by omega), if_pos (by omega)]
  · have cf : U.1 = false := by cases q : U.1 with | true => exact absurd q c | false => rfl
    obtain ⟨j1, j2⟩ := i2 cf
    rw [if_neg (by rw [j1]; exact nI_neg4 (by omega)), if_neg c]
    exact ⟨rfl, h0⟩
theorem sys_seen (h : SYS old kb n Le P Q Hn sd B hav Y PA cn Ch sn Sg P3 Q3 H3 sd3 B3 P4 Q4 H4 sd4 B4 mle mP mQ mbk mkp msg msd mtx mpe mno mbo mim msi) (a1 a2 a3 : Int32) : (s_X6_seen P sn Sg a1 a2 a3).1 = (s_X7_seen mP msg msi a1 a2 a3).1 ∧
    SYS old kb n Le P Q Hn sd B hav Y PA cn Ch (s_X6_seen P sn Sg a1 a2 a3).2.1 (s_X6_seen P sn Sg a1 a2 a3).2.2 P3 Q3 H3 sd3 B3 P4 Q4 H4 sd4 B4 mle mP mQ mbk mkp (s_X7_seen mP msg msi a1 a2 a3).2.1 msd mtx mpe mno mbo mim (s_X7_seen mP msg msi a1 a2 a3).2.2 := by
  have h0 := h
  obtain ⟨T, hL, K, hT, ⟨rfl, s2, s3⟩, hr⟩ := h
  have hP := K.1.2.1
  have eP := K.eP
  subst eP
  unfold s_X6_seen s_X7_seen
  rw [within_in, within_in, ← hasP_in (by omega)]
  by_cases c1 : s_X0_hasPerson mP a1 = true
  · rw [if_pos c1, if_pos c1]
    by_cases c2 : s_X7_in a2 (nI 0) (nI 150) = true
    · rw [if_pos c2, if_pos c2]
      by_cases c3 : s_X7_in a3 (nI 0) (nI 999) = true
      · rw [if_pos c3, if_pos c3]
        obtain ⟨e2, hy⟩ := in_nat c2 (by decide) (by decide)
        by_cases c4 : msg < 8
        · have ea : s_X4_add msg Sg a1 a2 a3 = (true, msg + 1, upd Sg.1 msg a1, upd Sg.2.1 msg a2, upd Sg.2.2 msg a3) := by
            unfold s_X4_add
            rw [if_pos c4]
          rw [ea, if_neg (by omega : ¬ msg = 8)]
          dsimp only
          rw [if_pos rfl]
          refine ⟨rfl, T, hL, K, hT, ⟨rfl, (by omega : msg + 1 ≤ 8), fun k hk => ?_⟩, hr⟩
          dsimp only
          have hk' : k < msg + 1 := hk
          by_cases q : k = msg
          · subst q
            refine ⟨?_, ?_, ?_, a2.toNatClampNeg, by omega, ?_⟩
            · rw [pk_us, pk_un (by omega), pk_un (by omega), pk_us]
            · rw [pk_us, pk_un (by omega), pk_us]
            · rw [pk_us, pk_us]
            · rw [pk_un (by omega), pk_us]; exact e2
          · obtain ⟨g1, g2, g3, y, y1, y2⟩ := s3 k (by omega)
            have hu : ∀ q, q < 3 * msg → upd (upd (upd msi (3 * msg) a1) (3 * msg + 1) a2) (3 * msg + 2) a3 q = msi q := fun q hq => by
              rw [pk_un (by omega), pk_un (by omega), pk_un (by omega)]
            rw [hu _ (by omega), hu _ (by omega), hu _ (by omega), pk_un q, pk_un q, pk_un q]
            exact ⟨g1, g2, g3, y, y1, y2⟩
        · have ea : s_X4_add msg Sg a1 a2 a3 = (false, msg, Sg) := by
            unfold s_X4_add
            rw [if_neg c4]
          rw [ea, if_pos (by omega : msg = 8)]
          dsimp only
          rw [if_neg (by decide)]
          exact ⟨rfl, h0⟩
      · rw [if_neg c3, if_neg c3]
        exact ⟨rfl, h0⟩
    · rw [if_neg c2, if_neg c2]
      exact ⟨rfl, h0⟩
  · rw [if_neg c1, if_neg c1]
    exact ⟨rfl, h0⟩
theorem sys_forget (h : SYS old kb n Le P Q Hn sd B hav Y PA cn Ch sn Sg P3 Q3 H3 sd3 B3 P4 Q4 H4 sd4 B4 mle mP mQ mbk mkp msg msd mtx mpe mno mbo mim msi) : (s_X6_forget sn).1 = (s_X7_forget msg).1 ∧
    SYS old kb n Le P Q Hn sd B hav Y PA cn Ch (s_X6_forget sn).2 Sg P3 Q3 H3 sd3 B3 P4 Q4 H4 sd4 B4 mle mP mQ mbk mkp (s_X7_forget msg).2 msd mtx mpe mno mbo mim msi := by
  obtain ⟨T, hL, K, hT, ⟨rfl, s2, s3⟩, hr⟩ := h
  exact ⟨rfl, T, hL, K, hT, ⟨rfl, (by decide : 0 ≤ 8), fun k hk => absurd hk (Nat.not_lt_zero k)⟩, hr⟩
theorem ans_count (h : SYS old kb n Le P Q Hn sd B hav Y PA cn Ch sn Sg P3 Q3 H3 sd3 B3 P4 Q4 H4 sd4 B4 mle mP mQ mbk mkp msg msd mtx mpe mno mbo mim msi) (wh : Int32) : s_X6_count kb n P Q Hn cn sn wh = s_X7_count mle mP mQ mbk mkp msg mno wh := by
  obtain ⟨⟨rfl, -⟩, hL, K, hT, ⟨rfl, -⟩, ⟨rfl, -⟩, rfl, -⟩ := h
  unfold s_X6_count s_X7_count
  rw [K.eP, K.eQ, K.2.2.2.1]
end
