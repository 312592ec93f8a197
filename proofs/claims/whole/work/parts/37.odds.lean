/-! ===== chances: all runs of luck, counted one by one and by their numbers ===== -/
def xp (p : Nat → Bool) (j : Nat) : Nat := if p j = true then 1 else 0
/-- how many runs of n years have as many wins as p wants -/
def lk : Nat → (Nat → Bool) → Nat
  | 0, p => xp p 0
  | n + 1, p => lk n p + lk n (fun j => p (j + 1))
theorem lk_0 (p : Nat → Bool) : lk 0 p = 1 * xp p 0 := by
  show xp p 0 = 1 * xp p 0
  omega
theorem lk_1 (p : Nat → Bool) : lk 1 p = 1 * xp p 0 + 1 * xp p 1 := by
  have h1 := lk_0 p
  have h2 := lk_0 (fun j => p (j + 1))
  have h3 : lk 1 p = lk 0 p + lk 0 (fun j => p (j + 1)) := rfl
  have h4 : ∀ j, xp (fun j => p (j + 1)) j = xp p (j + 1) := fun _ => rfl
  simp only [h4] at h2
  rw [h3, h1, h2]
  try simp only [Nat.reduceAdd]
  all_goals omega
theorem lk_2 (p : Nat → Bool) : lk 2 p = 1 * xp p 0 + 2 * xp p 1 + 1 * xp p 2 := by
  have h1 := lk_1 p
  have h2 := lk_1 (fun j => p (j + 1))
  have h3 : lk 2 p = lk 1 p + lk 1 (fun j => p (j + 1)) := rfl
  have h4 : ∀ j, xp (fun j => p (j + 1)) j = xp p (j + 1) := fun _ => rfl
  simp only [h4] at h2
  rw [h3, h1, h2]
  try simp only [Nat.reduceAdd]
  all_goals omega
theorem lk_3 (p : Nat → Bool) : lk 3 p = 1 * xp p 0 + 3 * xp p 1 + 3 * xp p 2 + 1 * xp p 3 := by
  have h1 := lk_2 p
  have h2 := lk_2 (fun j => p (j + 1))
  have h3 : lk 3 p = lk 2 p + lk 2 (fun j => p (j + 1)) := rfl
  have h4 : ∀ j, xp (fun j => p (j + 1)) j = xp p (j + 1) := fun _ => rfl
  simp only [h4] at h2
  rw [h3, h1, h2]
  try simp only [Nat.reduceAdd]
  all_goals omega
theorem lk_4 (p : Nat → Bool) : lk 4 p = 1 * xp p 0 + 4 * xp p 1 + 6 * xp p 2 + 4 * xp p 3 + 1 * xp p 4 := by
  have h1 := lk_3 p
  have h2 := lk_3 (fun j => p (j + 1))
  have h3 : lk 4 p = lk 3 p + lk 3 (fun j => p (j + 1)) := rfl
  have h4 : ∀ j, xp (fun j => p (j + 1)) j = xp p (j + 1) := fun _ => rfl
  simp only [h4] at h2
  rw [h3, h1, h2]
  try simp only [Nat.reduceAdd]
  all_goals omega
theorem lk_5 (p : Nat → Bool) : lk 5 p = 1 * xp p 0 + 5 * xp p 1 + 10 * xp p 2 + 10 * xp p 3 + 5 * xp p 4 + 1 * xp p 5 := by
  have h1 := lk_4 p
  have h2 := lk_4 (fun j => p (j + 1))
  have h3 : lk 5 p = lk 4 p + lk 4 (fun j => p (j + 1)) := rfl
  have h4 : ∀ j, xp (fun j => p (j + 1)) j = xp p (j + 1) := fun _ => rfl
  simp only [h4] at h2
  rw [h3, h1, h2]
  try simp only [Nat.reduceAdd]
  all_goals omega
theorem lk_6 (p : Nat → Bool) : lk 6 p = 1 * xp p 0 + 6 * xp p 1 + 15 * xp p 2 + 20 * xp p 3 + 15 * xp p 4 + 6 * xp p 5 + 1 * xp p 6 := by
  have h1 := lk_5 p
  have h2 := lk_5 (fun j => p (j + 1))
  have h3 : lk 6 p = lk 5 p + lk 5 (fun j => p (j + 1)) := rfl
  have h4 : ∀ j, xp (fun j => p (j + 1)) j = xp p (j + 1) := fun _ => rfl
  simp only [h4] at h2
  rw [h3, h1, h2]
  try simp only [Nat.reduceAdd]
  all_goals omega
theorem lk_7 (p : Nat → Bool) : lk 7 p = 1 * xp p 0 + 7 * xp p 1 + 21 * xp p 2 + 35 * xp p 3 + 35 * xp p 4 + 21 * xp p 5 + 7 * xp p 6 + 1 * xp p 7 := by
  have h1 := lk_6 p
  have h2 := lk_6 (fun j => p (j + 1))
  have h3 : lk 7 p = lk 6 p + lk 6 (fun j => p (j + 1)) := rfl
  have h4 : ∀ j, xp (fun j => p (j + 1)) j = xp p (j + 1) := fun _ => rfl
  simp only [h4] at h2
  rw [h3, h1, h2]
  try simp only [Nat.reduceAdd]
  all_goals omega
theorem lk_8 (p : Nat → Bool) : lk 8 p = 1 * xp p 0 + 8 * xp p 1 + 28 * xp p 2 + 56 * xp p 3 + 70 * xp p 4 + 56 * xp p 5 + 28 * xp p 6 + 8 * xp p 7 + 1 * xp p 8 := by
  have h1 := lk_7 p
  have h2 := lk_7 (fun j => p (j + 1))
  have h3 : lk 8 p = lk 7 p + lk 7 (fun j => p (j + 1)) := rfl
  have h4 : ∀ j, xp (fun j => p (j + 1)) j = xp p (j + 1) := fun _ => rfl
  simp only [h4] at h2
  rw [h3, h1, h2]
  try simp only [Nat.reduceAdd]
  all_goals omega
theorem lk_9 (p : Nat → Bool) : lk 9 p = 1 * xp p 0 + 9 * xp p 1 + 36 * xp p 2 + 84 * xp p 3 + 126 * xp p 4 + 126 * xp p 5 + 84 * xp p 6 + 36 * xp p 7 + 9 * xp p 8 + 1 * xp p 9 := by
  have h1 := lk_8 p
  have h2 := lk_8 (fun j => p (j + 1))
  have h3 : lk 9 p = lk 8 p + lk 8 (fun j => p (j + 1)) := rfl
  have h4 : ∀ j, xp (fun j => p (j + 1)) j = xp p (j + 1) := fun _ => rfl
  simp only [h4] at h2
  rw [h3, h1, h2]
  try simp only [Nat.reduceAdd]
  all_goals omega
theorem lk_10 (p : Nat → Bool) : lk 10 p = 1 * xp p 0 + 10 * xp p 1 + 45 * xp p 2 + 120 * xp p 3 + 210 * xp p 4 + 252 * xp p 5 + 210 * xp p 6 + 120 * xp p 7 + 45 * xp p 8 + 10 * xp p 9 + 1 * xp p 10 := by
  have h1 := lk_9 p
  have h2 := lk_9 (fun j => p (j + 1))
  have h3 : lk 10 p = lk 9 p + lk 9 (fun j => p (j + 1)) := rfl
  have h4 : ∀ j, xp (fun j => p (j + 1)) j = xp p (j + 1) := fun _ => rfl
  simp only [h4] at h2
  rw [h3, h1, h2]
  try simp only [Nat.reduceAdd]
  all_goals omega
def wsum (x : Nat → Nat) (n : Nat) : Nat → Nat → Nat → Nat → Nat
  | 0, _, s, _ => s
  | n9 + 1, wi, s, y => wsum x n n9 (wi + 1) (s + x wi * y) (y * (n - wi) / (wi + 1))
theorem wsum_lk (p : Nat → Bool) {n : Nat} (h : n ≤ 10) : wsum (xp p) n (n + 1) 0 0 1 = lk n p := by
  have : n = 0 ∨ n = 1 ∨ n = 2 ∨ n = 3 ∨ n = 4 ∨ n = 5 ∨ n = 6 ∨ n = 7 ∨ n = 8 ∨ n = 9 ∨ n = 10 := by omega
  rcases this with rfl | rfl | rfl | rfl | rfl | rfl | rfl | rfl | rfl | rfl | rfl
  · rw [lk_0]
    show 0 + xp p 0 * 1 = _
    omega
  · rw [lk_1]
    show 0 + xp p 0 * 1 + xp p 1 * 1 = _
    omega
  · rw [lk_2]
    show 0 + xp p 0 * 1 + xp p 1 * 2 + xp p 2 * 1 = _
    omega
  · rw [lk_3]
    show 0 + xp p 0 * 1 + xp p 1 * 3 + xp p 2 * 3 + xp p 3 * 1 = _
    omega
  · rw [lk_4]
    show 0 + xp p 0 * 1 + xp p 1 * 4 + xp p 2 * 6 + xp p 3 * 4 + xp p 4 * 1 = _
    omega
  · rw [lk_5]
    show 0 + xp p 0 * 1 + xp p 1 * 5 + xp p 2 * 10 + xp p 3 * 10 + xp p 4 * 5 + xp p 5 * 1 = _
    omega
  · rw [lk_6]
    show 0 + xp p 0 * 1 + xp p 1 * 6 + xp p 2 * 15 + xp p 3 * 20 + xp p 4 * 15 + xp p 5 * 6 + xp p 6 * 1 = _
    omega
  · rw [lk_7]
    show 0 + xp p 0 * 1 + xp p 1 * 7 + xp p 2 * 21 + xp p 3 * 35 + xp p 4 * 35 + xp p 5 * 21 + xp p 6 * 7 + xp p 7 * 1 = _
    omega
  · rw [lk_8]
    show 0 + xp p 0 * 1 + xp p 1 * 8 + xp p 2 * 28 + xp p 3 * 56 + xp p 4 * 70 + xp p 5 * 56 + xp p 6 * 28 + xp p 7 * 8 + xp p 8 * 1 = _
    omega
  · rw [lk_9]
    show 0 + xp p 0 * 1 + xp p 1 * 9 + xp p 2 * 36 + xp p 3 * 84 + xp p 4 * 126 + xp p 5 * 126 + xp p 6 * 84 + xp p 7 * 36 + xp p 8 * 9 + xp p 9 * 1 = _
    omega
  · rw [lk_10]
    show 0 + xp p 0 * 1 + xp p 1 * 10 + xp p 2 * 45 + xp p 3 * 120 + xp p 4 * 210 + xp p 5 * 252 + xp p 6 * 210 + xp p 7 * 120 + xp p 8 * 45 + xp p 9 * 10 + xp p 10 * 1 = _
    omega
def yv (n : Nat) : Nat → Nat
  | 0 => 1
  | k + 1 => yv n k * (n - k) / (k + 1)
theorem yv_tab : ∀ n : Fin 11, ∀ k : Fin 12, yv n.val k.val ≤ 300 := by decide +kernel
theorem ways_eq {n w c : Nat} (hn : n ≤ 10) (hw : w ≤ 18) (hc : c < 2 ^ 30) : ∀ (n9 wi s : Nat), wi + n9 = n + 1 → (f_X6_waysToGain_8 n (nI w) (nI c) n9 wi (nI s) (nI (yv n wi))).1 = nI (wsum (xp (fun j => decide (c ≤ j * w))) n n9 wi s (yv n wi))
  | 0, wi, s, _ => rfl
  | n9 + 1, wi, s, h => by
    have hy : yv n wi ≤ 300 := yv_tab ⟨n, by omega⟩ ⟨wi, by omega⟩
    have hm : yv n wi * (n - wi) ≤ 300 * 10 := Nat.mul_le_mul hy (by omega)
    have hm2 : wi * w ≤ 10 * 18 := Nat.mul_le_mul (by omega) hw
    rw [f_X6_waysToGain_8, pk_mul wi w, pk_mul (yv n wi) (n - wi), pk_div (by omega) (by omega) (by omega), wsum]
    have ey : yv n wi * (n - wi) / (wi + 1) = yv n (wi + 1) := rfl
    rw [ey]
    by_cases q : wi * w < c
    · have ex : xp (fun j => decide (c ≤ j * w)) wi = 0 := if_neg (by simp; omega)
      rw [if_pos ((nI_ltI (by omega) (by omega)).mpr q), ex, Nat.zero_mul, Nat.add_zero]
      exact ways_eq hn hw hc n9 (wi + 1) s (by omega)
    · have ex : xp (fun j => decide (c ≤ j * w)) wi = 1 := if_pos (by simp; omega)
      rw [if_neg (fun z => q ((nI_ltI (by omega) (by omega)).mp z)), ex, Nat.one_mul, nI_add]
      exact ways_eq hn hw hc n9 (wi + 1) (s + yv n wi) (by omega)
theorem sm_tab : ∀ k : Fin 32, ((nI k.val &&& 31).toBitVec.smod 32).toNat = k.val := by decide +kernel
def bt (t k : Nat) : Nat := t / 2 ^ k % 2
theorem bit_eq {t k : Nat} (ht : t < 2 ^ 31) (hk : k < 32) : ((nI t >>> ((nI k) &&& 31)) &&& (nI 1)) = nI (bt t k) := by
  rw [pk_shrN ht (nI k &&& 31) k (sm_tab ⟨k, hk⟩), pk_andN (by have := Nat.div_le_self t (2 ^ k); omega) 1 (by decide)]
  rfl
def pop : Nat → Nat → Nat
  | 0, _ => 0
  | n + 1, t => pop n t + bt t n
theorem pop_le (t : Nat) : ∀ n, pop n t ≤ n
  | 0 => Nat.le_refl _
  | n + 1 => by
    have h1 := pop_le t n
    have h2 : bt t n < 2 := Nat.mod_lt _ (by decide)
    show pop n t + bt t n ≤ n + 1
    omega
theorem o61_eq {mpe : zF} {i : Int32} {g t : Nat} (hp : mpe ((5 * i.toNatClampNeg) + 1) = nI g) (ht : t < 2 ^ 31) : ∀ (n9 k : Nat), k + n9 ≤ 31 → f_X7_odds_61 mpe i t n9 k (nI (pop k t * (2 * g))) = nI (pop (k + n9) t * (2 * g))
  | 0, k, _ => rfl
  | n9 + 1, k, h => by
    rw [f_X7_odds_61, hp, bit_eq ht (by omega), pk_mul, pk_mul, nI_add]
    have e : pop k t * (2 * g) + bt t k * 2 * g = pop (k + 1) t * (2 * g) := by
      show _ = (pop k t + bt t k) * (2 * g)
      rw [Nat.add_mul, Nat.mul_assoc (bt t k)]
    rw [e]
    rw [o61_eq hp ht n9 (k + 1) (by omega), show k + 1 + n9 = k + (n9 + 1) by omega]
def cn (f : Nat → Bool) : Nat → Nat → Nat
  | 0, _ => 0
  | m + 1, a => (if f a = true then 1 else 0) + cn f m (a + 1)
theorem cn_add (f : Nat → Bool) : ∀ (m1 m2 a : Nat), cn f (m1 + m2) a = cn f m1 a + cn f m2 (a + m1)
  | 0, m2, a => by rw [Nat.zero_add, Nat.add_zero]; show _ = 0 + _; rw [Nat.zero_add]
  | m1 + 1, m2, a => by
    rw [show m1 + 1 + m2 = (m1 + m2) + 1 by omega, cn, cn, cn_add f m1 m2 (a + 1), show a + 1 + m1 = a + (m1 + 1) by omega, Nat.add_assoc]
theorem cn_congr {f g : Nat → Bool} : ∀ (m a b : Nat), (∀ j, j < m → f (a + j) = g (b + j)) → cn f m a = cn g m b
  | 0, a, b, _ => rfl
  | m + 1, a, b, h => by
    have h0 := h 0 (by omega)
    rw [Nat.add_zero, Nat.add_zero] at h0
    rw [cn, cn, h0, cn_congr m (a + 1) (b + 1) (fun j hj => by
      have := h (j + 1) (by omega)
      rw [show a + 1 + j = a + (j + 1) by omega, show b + 1 + j = b + (j + 1) by omega]
      exact this)]
theorem o47_eq {mpe : zF} {i n c : Int32} {g c9 : Nat} (hp : mpe ((5 * i.toNatClampNeg) + 1) = nI g) (hg : g ≤ 9) (hn : n.toNatClampNeg ≤ 10) (hc : c = nI c9) (hc9 : c9 < 2 ^ 30) : ∀ (n9 t up : Nat), t + n9 ≤ 2 ^ 20 → f_X7_odds_47 mpe i n c n9 t (nI up) = nI (up + cn (fun t => decide (c9 ≤ pop n.toNatClampNeg t * (2 * g))) n9 t)
  | 0, t, up, _ => rfl
  | n9 + 1, t, up, h => by
    have hpl := pop_le t n.toNatClampNeg
    have hm : pop n.toNatClampNeg t * (2 * g) ≤ 10 * 18 := Nat.mul_le_mul (by omega) (by omega)
    have e0 := o61_eq hp (show t < 2 ^ 31 by omega) n.toNatClampNeg 0 (by omega)
    rw [Nat.zero_add, show pop 0 t = 0 from rfl, Nat.zero_mul] at e0
    rw [f_X7_odds_47, e0, hc, cn]
    by_cases q : pop n.toNatClampNeg t * (2 * g) < c9
    · have ex : (if (decide (c9 ≤ pop n.toNatClampNeg t * (2 * g))) = true then 1 else 0) = 0 := if_neg (by simp; omega)
      rw [if_pos ((nI_ltI (by omega) (by omega)).mpr q), ex, z_add0, ← hc, Nat.zero_add]
      exact o47_eq hp hg hn hc hc9 n9 (t + 1) up (by omega)
    · have ex : (if (decide (c9 ≤ pop n.toNatClampNeg t * (2 * g))) = true then 1 else 0) = 1 := if_pos (by simp; omega)
      rw [if_neg (fun z => q ((nI_ltI (by omega) (by omega)).mp z)), ex, ← hc, nI_add, ← Nat.add_assoc]
      exact o47_eq hp hg hn hc hc9 n9 (t + 1) (up + 1) (by omega)
theorem bt_top {t n k : Nat} (hk : k < n) : bt (2 ^ n + t) k = bt t k := by
  unfold bt
  obtain ⟨m, rfl⟩ : ∃ m, n = k + (m + 1) := ⟨n - k - 1, by omega⟩
  rw [Nat.pow_add, Nat.mul_add_div (Nat.two_pow_pos k), Nat.pow_succ, Nat.mul_comm (2 ^ m) 2, Nat.mul_add_mod]
theorem pop_top {t n : Nat} : ∀ k, k ≤ n → pop k (2 ^ n + t) = pop k t
  | 0, _ => rfl
  | k + 1, h => by
    show pop k (2 ^ n + t) + bt (2 ^ n + t) k = pop k t + bt t k
    rw [pop_top k (by omega), bt_top (by omega)]
theorem bt_hi {t n : Nat} (h : t < 2 ^ n) : bt (2 ^ n + t) n = 1 ∧ bt t n = 0 := by
  unfold bt
  refine ⟨?_, ?_⟩
  · rw [Nat.add_div_left t (Nat.two_pow_pos n), Nat.div_eq_of_lt h]
  · rw [Nat.div_eq_of_lt h]
theorem cn_lk : ∀ (n : Nat) (p : Nat → Bool), cn (fun t => p (pop n t)) (2 ^ n) 0 = lk n p
  | 0, p => by
    show (if p 0 = true then 1 else 0) + 0 = xp p 0
    rfl
  | n + 1, p => by
    rw [show 2 ^ (n + 1) = 2 ^ n + 2 ^ n by rw [Nat.pow_succ]; omega, cn_add, Nat.zero_add]
    show _ = lk n p + lk n (fun j => p (j + 1))
    rw [← cn_lk n p, ← cn_lk n (fun j => p (j + 1))]
    congr 1
    · refine cn_congr (2 ^ n) 0 0 (fun j hj => ?_)
      show p (pop n (0 + j) + bt (0 + j) n) = p (pop n (0 + j))
      rw [Nat.zero_add, (bt_hi hj).2]
      rfl
    · refine cn_congr (2 ^ n) (2 ^ n) 0 (fun j hj => ?_)
      show p (pop n (2 ^ n + j) + bt (2 ^ n + j) n) = p (pop n (0 + j) + 1)
      rw [Nat.zero_add, (bt_hi hj).1, pop_top n (Nat.le_refl n)]
theorem half_rel {n : Int32} (hn : n.toNatClampNeg ≤ 10) : ∀ (n9 st : Nat) (ab : Int32), st + n9 = n.toNatClampNeg → f_X6_odds_73 n n9 st ab (nI (2 ^ n9)) = ((f_X7_odds_125 n9 ab (2 ^ n9)).1, nI (f_X7_odds_125 n9 ab (2 ^ n9)).2)
  | 0, st, ab, _ => rfl
  | n9 + 1, st, ab, h => by
    have hp : 2 ^ (n9 + 1) = 2 * 2 ^ n9 := by rw [Nat.pow_succ]; omega
    have hpos := Nat.two_pow_pos n9
    have hle : 2 ^ (n9 + 1) ≤ 2 ^ 10 := Nat.pow_le_pow_right (by decide) (by omega)
    have c1 : ¬ n.toNatClampNeg ≤ st := by omega
    have c2 : ¬ 2 ^ (n9 + 1) ≤ 1 := by omega
    rw [f_X6_odds_73, f_X7_odds_125, if_neg c1, if_neg c2]
    by_cases c : ab - ab / (nI 2) * (nI 2) = 0
    · rw [if_pos c, if_pos c, pk_div (by omega) (by decide) (by decide), show 2 ^ (n9 + 1) / 2 = 2 ^ n9 by omega]
      exact half_rel hn n9 (st + 1) _ (by omega)
    · rw [if_neg c, if_neg c]
section
variable {P Q Hn : Nat} {sd msd : Int32} {B : zB} {mP mQ : Nat} {mpe mno : zF}
theorem ans_odds (K : BK P Q Hn sd B mP mQ msd mpe mno) (i n c pa : Int32) : s_X6_odds P B i n c pa = s_X7_odds mP mpe i n c pa := by
  have hP := K.1.2.1
  unfold s_X6_odds s_X7_odds
  rw [K.eP, ← hasP_in (P := P) (by omega), within_in, within_in]
  by_cases hp : s_X0_hasPerson P i = true
  · rw [if_pos hp, if_pos hp]
    by_cases h2 : s_X7_in n (nI 0) (nI 10) = true
    · rw [if_pos h2, if_pos h2]
      by_cases h3 : s_X7_in c (nI 0) (nI 200) = true
      · rw [if_pos h3, if_pos h3]
        obtain ⟨-, hi⟩ := hasP_nat9 hp (by omega)
        obtain ⟨-, ⟨g, g1, g2, g3⟩, -⟩ := K.2.1 _ hi
        obtain ⟨en, hn⟩ := in_nat h2 (by decide) (by decide)
        obtain ⟨ec, hc⟩ := in_nat h3 (by decide) (by decide)
        have e1 : s_X6_waysToGain n.toNatClampNeg ((nI 2) * (B.2.1 i.toNatClampNeg)) c = nI (lk n.toNatClampNeg (fun j => decide (c.toNatClampNeg ≤ j * (2 * g)))) := by
          rw [g2, pk_mul, ← wsum_lk _ hn]
          have := ways_eq (c := c.toNatClampNeg) hn (show 2 * g ≤ 18 by omega) (by omega) (n.toNatClampNeg + 1) 0 0 (by omega)
          rw [← ec] at this
          exact this
        have hpw : 2 ^ n.toNatClampNeg ≤ 2 ^ 10 := Nat.pow_le_pow_right (by decide) hn
        have e2 : f_X7_odds_47 mpe i n c (2 ^ n.toNatClampNeg) 0 (nI 0) = nI (lk n.toNatClampNeg (fun j => decide (c.toNatClampNeg ≤ j * (2 * g)))) := by
          rw [o47_eq g3 g1 hn ec (by omega) (2 ^ n.toNatClampNeg) 0 0 (by omega), Nat.zero_add, ← cn_lk]
        have e3 := (shl_nat hn).1
        have e4 := half_rel hn n.toNatClampNeg 0 (nI (lk n.toNatClampNeg (fun j => decide (c.toNatClampNeg ≤ j * (2 * g))))) (by omega)
        rw [e1, e2, e3]
        dsimp only
        rw [e4]
        by_cases h0 : pa = 0
        · have hin : s_X7_in pa (nI 0) (nI 1) = true := by rw [h0]; decide
          rw [if_pos h0, if_pos h0, if_pos hin]
        · rw [if_neg h0]
          by_cases h1 : pa = nI 1
          · have hin : s_X7_in pa (nI 0) (nI 1) = true := by rw [h1]; decide
            rw [if_pos h1, if_neg h0, if_pos hin]
          · have hin : ¬ s_X7_in pa (nI 0) (nI 1) = true := fun q => by
              obtain ⟨e, hw⟩ := in_nat q (by decide) (by decide)
              have : pa.toNatClampNeg = 0 ∨ pa.toNatClampNeg = 1 := by omega
              rcases this with q | q
              · rw [q] at e; exact h0 (e.trans nI_0)
              · rw [q] at e; exact h1 e
            rw [if_neg h1, if_neg hin]
      · rw [if_neg h3, if_neg h3]
    · rw [if_neg h2, if_neg h2]
  · rw [if_neg hp, if_neg hp]
end
