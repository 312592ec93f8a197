/-! ===== makers: the class ===== -/
abbrev rm_X6_init : Room := { frames := 5, cells := 90, slots := 2535, locals := 200 }
def zE6 (kS vS : Nat) (A : Nat → Prop) (U : State) : Prop := zAO U ∧ zStr A kS vS U U.heap ∧ vk_R "WillsReadFirst" 75 "p0,3,60,0;p5,4,50,1;p10,2,70,2;p12,5,40,3;w0,1,40;w0,2,20;w1,3,60;w2,0,15;w3,2,30;g2,5;z7;" kS U
def Le0 (j : Nat) : Nat → Int32 := fun k => if k < j then byt0.getD k 0 else nI 0
theorem Le0_0 : Le0 0 = fun _ => nI 0 := funext fun k => if_neg (Nat.not_lt_zero k)
theorem Le0_s (j : Nat) : upd (Le0 j) j (byt0.getD j 0) = Le0 (j + 1) := by
  funext k
  unfold Le0
  by_cases c : k = j
  · subst c
    rw [pk_us, if_pos (by omega)]
  · rw [pk_un c]
    by_cases d : k < j
    · rw [if_pos d, if_pos (by omega)]
    · rw [if_neg d, if_neg (by omega)]
theorem byt_le : ∀ j, j < 90 → narrow .char (.int (byt0.getD j 0)) = .int (byt0.getD j 0) := fun j hj => (byt_chr j hj).2
theorem Le0_nar (j : Nat) : narrow .char (.int (Le0 90 j)) = .int (Le0 90 j) := by
  unfold Le0
  by_cases d : j < 90
  · rw [if_pos d]; exact byt_le j d
  · rw [if_neg d]; rfl
def u0 : Int32 × Nat × (Nat → Int32) × Nat × Nat × Nat × Int32 × zB := s_X2_readInto (fun _ => nI 0) 90 (Le0 90) zB0
def x6W (cI cC cJ : ClassId) (x : Nat) (c r b y t w h g k j : Nat → Nat) : List va_W := [mainW x (c 1) (r 0) (b 0) (y 0) true (t 0) (w 0) (h 3) (g 3) (k 0) (j 0) 0, scrollW cC c 0 (Le0 90), readerW cI r (c 1) (u0.2.1) (u0.2.2.1), bookW cI b (u0.2.2.2.1) (u0.2.2.2.2.1) (u0.2.2.2.2.2.1) (u0.2.2.2.2.2.2.1) (u0.2.2.2.2.2.2.2), yearsW cI cJ y (b 0) (nI 0) zY0 (fun _ _ => nI 0), bookW cI t 0 0 0 (nI 0) zB0, yearsW cI cJ w (t 0) (nI 0) zY0 (fun _ _ => nI 0), changesW cI h 0 zC0, sightsW cI g 0 zC0, bookW cI k 0 0 0 (nI 0) zB0, bookW cI j 0 0 0 (nI 0) zB0]
theorem adr_ex (x : Nat) (c r b y t w h g k j : Nat → Nat) : ∃ a : Nat → Nat, a 0 = x ∧ (fun q => a (1 + 11 * q)) = c ∧ (fun q => a (2 + 11 * q)) = r ∧ (fun q => a (3 + 11 * q)) = b ∧ (fun q => a (4 + 11 * q)) = y ∧ (fun q => a (5 + 11 * q)) = t ∧ (fun q => a (6 + 11 * q)) = w ∧ (fun q => a (7 + 11 * q)) = h ∧ (fun q => a (8 + 11 * q)) = g ∧ (fun q => a (9 + 11 * q)) = k ∧ (fun q => a (10 + 11 * q)) = j := by
  refine ⟨fun q => match q % 11 with | 0 => x | 1 => c (q / 11) | 2 => r (q / 11) | 3 => b (q / 11) | 4 => y (q / 11) | 5 => t (q / 11) | 6 => w (q / 11) | 7 => h (q / 11) | 8 => g (q / 11) | 9 => k (q / 11) | _ => j (q / 11), rfl, ?_, ?_, ?_, ?_, ?_, ?_, ?_, ?_, ?_, ?_⟩
  · funext q
    dsimp only
    rw [show (1 + 11 * q) % 11 = 1 by omega, show (1 + 11 * q) / 11 = q by omega]
    rfl
  · funext q
    dsimp only
    rw [show (2 + 11 * q) % 11 = 2 by omega, show (2 + 11 * q) / 11 = q by omega]
    rfl
  · funext q
    dsimp only
    rw [show (3 + 11 * q) % 11 = 3 by omega, show (3 + 11 * q) / 11 = q by omega]
    rfl
  · funext q
    dsimp only
    rw [show (4 + 11 * q) % 11 = 4 by omega, show (4 + 11 * q) / 11 = q by omega]
    rfl
  · funext q
    dsimp only
    rw [show (5 + 11 * q) % 11 = 5 by omega, show (5 + 11 * q) / 11 = q by omega]
    rfl
  · funext q
    dsimp only
    rw [show (6 + 11 * q) % 11 = 6 by omega, show (6 + 11 * q) / 11 = q by omega]
    rfl
  · funext q
    dsimp only
    rw [show (7 + 11 * q) % 11 = 7 by omega, show (7 + 11 * q) / 11 = q by omega]
    rfl
  · funext q
    dsimp only
    rw [show (8 + 11 * q) % 11 = 8 by omega, show (8 + 11 * q) / 11 = q by omega]
    rfl
  · funext q
    dsimp only
    rw [show (9 + 11 * q) % 11 = 9 by omega, show (9 + 11 * q) / 11 = q by omega]
    rfl
  · funext q
    dsimp only
    rw [show (10 + 11 * q) % 11 = 10 by omega, show (10 + 11 * q) / 11 = q by omega]
    rfl
theorem sQ_X6_init_10 : zFF wsX6_init RX6 10 6 0 (.object "WillsReadFirst$Scroll") := ⟨TX6, 12, tyX6, rfl, inw_X6_init_X6, by decide, rfl, List.mem_of_getElem? (i := 7) (by rfl), tyX6_ok, nmX6, rfl, by decide +kernel⟩
theorem sQ_X6_init_21 : zFF wsX6_init RX6 21 6 1 (.object "WillsReadFirst$Reader") := ⟨TX6, 12, tyX6, rfl, inw_X6_init_X6, by decide, rfl, List.mem_of_getElem? (i := 11) (by rfl), tyX6_ok, nmX6, rfl, by decide +kernel⟩
theorem sQ_X6_init_28 : zFF wsX6_init RX6 28 6 2 (.object "WillsReadFirst$Book") := ⟨TX6, 12, tyX6, rfl, inw_X6_init_X6, by decide, rfl, List.mem_of_getElem? (i := 15) (by rfl), tyX6_ok, nmX6, rfl, by decide +kernel⟩
theorem sQ_X6_init_37 : zFF wsX6_init RX6 37 6 3 (.object "WillsReadFirst$Years") := ⟨TX6, 12, tyX6, rfl, inw_X6_init_X6, by decide, rfl, List.mem_of_getElem? (i := 19) (by rfl), tyX6_ok, nmX6, rfl, by decide +kernel⟩
theorem sQ_X6_init_45 : zFF wsX6_init RX6 45 6 5 (.object "WillsReadFirst$Book") := ⟨TX6, 12, tyX6, rfl, inw_X6_init_X6, by decide, rfl, List.mem_of_getElem? (i := 21) (by rfl), tyX6_ok, nmX6, rfl, by decide +kernel⟩
theorem sQ_X6_init_48 : zFF wsX6_init RX6 48 6 6 (.object "WillsReadFirst$Years") := ⟨TX6, 12, tyX6, rfl, inw_X6_init_X6, by decide, rfl, List.mem_of_getElem? (i := 22) (by rfl), tyX6_ok, nmX6, rfl, by decide +kernel⟩
theorem sQ_X6_init_54 : zFF wsX6_init RX6 54 6 7 (.object "WillsReadFirst$Changes") := ⟨TX6, 12, tyX6, rfl, inw_X6_init_X6, by decide, rfl, List.mem_of_getElem? (i := 26) (by rfl), tyX6_ok, nmX6, rfl, by decide +kernel⟩
theorem sQ_X6_init_61 : zFF wsX6_init RX6 61 6 8 (.object "WillsReadFirst$Sights") := ⟨TX6, 12, tyX6, rfl, inw_X6_init_X6, by decide, rfl, List.mem_of_getElem? (i := 30) (by rfl), tyX6_ok, nmX6, rfl, by decide +kernel⟩
theorem sQ_X6_init_65 : zFF wsX6_init RX6 65 6 9 (.object "WillsReadFirst$Book") := ⟨TX6, 12, tyX6, rfl, inw_X6_init_X6, by decide, rfl, List.mem_of_getElem? (i := 31) (by rfl), tyX6_ok, nmX6, rfl, by decide +kernel⟩
theorem sQ_X6_init_68 : zFF wsX6_init RX6 68 6 10 (.object "WillsReadFirst$Book") := ⟨TX6, 12, tyX6, rfl, inw_X6_init_X6, by decide, rfl, List.mem_of_getElem? (i := 32) (by rfl), tyX6_ok, nmX6, rfl, by decide +kernel⟩
theorem sM_X6_init_9 : zMC rm_X6_init wsX6_init RX6 9 yX3_init wsX3_init rm_X3_init 0 1 200 := ⟨_, _, _, rfl, ggX6_init_X3_init, ⟨rfl, rfl⟩, ⟨(List.mem_of_getElem? (i := 6) (by rfl)), (List.mem_of_getElem? (i := 34) (by rfl)), Or.inl ⟨"WillsReadFirst", List.mem_append_right _ (List.mem_of_getElem? (i := 0) (by rfl))⟩⟩, rfl, by decide +kernel, by decide⟩
theorem sM_X6_init_18 : zMC rm_X6_init wsX6_init RX6 18 yX2_init wsX2_init rm_X2_init 1 1 4 := ⟨_, _, _, rfl, ggX6_init_X2_init, ⟨rfl, rfl⟩, ⟨(List.mem_of_getElem? (i := 10) (by rfl)), (List.mem_of_getElem? (i := 41) (by rfl)), Or.inr (List.mem_of_getElem? (i := 40) (by rfl))⟩, rfl, by decide +kernel, by decide⟩
theorem sM_X6_init_27 : zMC rm_X6_init wsX6_init RX6 27 yX0_init wsX0_init rm_X0_init 0 11 69 := ⟨_, _, _, rfl, ggX6_init_X0_init, ⟨rfl, rfl⟩, ⟨(List.mem_of_getElem? (i := 14) (by rfl)), (List.mem_of_getElem? (i := 48) (by rfl)), Or.inl ⟨"WillsReadFirst", List.mem_append_right _ (List.mem_of_getElem? (i := 1) (by rfl))⟩⟩, rfl, by decide +kernel, by decide⟩
theorem sM_X6_init_34 : zMC rm_X6_init wsX6_init RX6 34 yX5_init wsX5_init rm_X5_init 1 14 957 := ⟨_, _, _, rfl, ggX6_init_X5_init, ⟨rfl, rfl⟩, ⟨(List.mem_of_getElem? (i := 18) (by rfl)), (List.mem_of_getElem? (i := 67) (by rfl)), Or.inr (List.mem_of_getElem? (i := 66) (by rfl))⟩, rfl, by decide +kernel, by decide⟩
theorem sM_X6_init_53 : zMC rm_X6_init wsX6_init RX6 53 yX1_init wsX1_init rm_X1_init 0 3 24 := ⟨_, _, _, rfl, ggX6_init_X1_init, ⟨rfl, rfl⟩, ⟨(List.mem_of_getElem? (i := 25) (by rfl)), (List.mem_of_getElem? (i := 81) (by rfl)), Or.inl ⟨"WillsReadFirst", List.mem_append_right _ (List.mem_of_getElem? (i := 2) (by rfl))⟩⟩, rfl, by decide +kernel, by decide⟩
theorem sM_X6_init_60 : zMC rm_X6_init wsX6_init RX6 60 yX4_init wsX4_init rm_X4_init 0 3 24 := ⟨_, _, _, rfl, ggX6_init_X4_init, ⟨rfl, rfl⟩, ⟨(List.mem_of_getElem? (i := 29) (by rfl)), (List.mem_of_getElem? (i := 88) (by rfl)), Or.inl ⟨"WillsReadFirst", List.mem_append_right _ (List.mem_of_getElem? (i := 3) (by rfl))⟩⟩, rfl, by decide +kernel, by decide⟩
theorem sN_X6_init_7 : zNW wsX6_init RX6 7 3 2 [.null, .int (nI 0)] := ⟨RX3, TX3, tyX3, rfl, inw_X6_init_X3, tyX3_ok, (List.mem_of_getElem? (i := 4) (by rfl)), (List.mem_of_getElem? (i := 5) (by rfl)), (List.mem_of_getElem? (i := 6) (by rfl)), fun j hj => by
  rcases (show j = 0 ∨ j = 1 by omega) with rfl | rfl <;> rfl⟩
theorem sN_X6_init_16 : zNW wsX6_init RX6 16 2 3 [.null, .null, .int (nI 0)] := ⟨RX2, TX2, tyX2, rfl, inw_X6_init_X2, tyX2_ok, (List.mem_of_getElem? (i := 8) (by rfl)), (List.mem_of_getElem? (i := 9) (by rfl)), (List.mem_of_getElem? (i := 10) (by rfl)), fun j hj => by
  rcases (show j = 0 ∨ j = 1 ∨ j = 2 by omega) with rfl | rfl | rfl <;> rfl⟩
theorem sN_X6_init_25 : zNW wsX6_init RX6 25 0 15 [.int (nI 0), .null, .null, .null, .null, .null, .int (nI 0), .null, .null, .null, .int (nI 0), .null, .null, .null, .int (nI 0)] := ⟨RX0, TX0, tyX0, rfl, inw_X6_init_X0, tyX0_ok, (List.mem_of_getElem? (i := 12) (by rfl)), (List.mem_of_getElem? (i := 13) (by rfl)), (List.mem_of_getElem? (i := 14) (by rfl)), fun j hj => by
  rcases (show j = 0 ∨ j = 1 ∨ j = 2 ∨ j = 3 ∨ j = 4 ∨ j = 5 ∨ j = 6 ∨ j = 7 ∨ j = 8 ∨ j = 9 ∨ j = 10 ∨ j = 11 ∨ j = 12 ∨ j = 13 ∨ j = 14 by omega) with rfl | rfl | rfl | rfl | rfl | rfl | rfl | rfl | rfl | rfl | rfl | rfl | rfl | rfl | rfl <;> rfl⟩
theorem sN_X6_init_32 : zNW wsX6_init RX6 32 5 10 [.null, .null, .null, .null, .null, .null, .null, .null, .null, .int (nI 0)] := ⟨RX5, TX5, tyX5, rfl, inw_X6_init_X5, tyX5_ok, (List.mem_of_getElem? (i := 16) (by rfl)), (List.mem_of_getElem? (i := 17) (by rfl)), (List.mem_of_getElem? (i := 18) (by rfl)), fun j hj => by
  rcases (show j = 0 ∨ j = 1 ∨ j = 2 ∨ j = 3 ∨ j = 4 ∨ j = 5 ∨ j = 6 ∨ j = 7 ∨ j = 8 ∨ j = 9 by omega) with rfl | rfl | rfl | rfl | rfl | rfl | rfl | rfl | rfl | rfl <;> rfl⟩
theorem sN_X6_init_51 : zNW wsX6_init RX6 51 1 4 [.null, .null, .null, .int (nI 0)] := ⟨RX1, TX1, tyX1, rfl, inw_X6_init_X1, tyX1_ok, (List.mem_of_getElem? (i := 23) (by rfl)), (List.mem_of_getElem? (i := 24) (by rfl)), (List.mem_of_getElem? (i := 25) (by rfl)), fun j hj => by
  rcases (show j = 0 ∨ j = 1 ∨ j = 2 ∨ j = 3 by omega) with rfl | rfl | rfl | rfl <;> rfl⟩
theorem sN_X6_init_58 : zNW wsX6_init RX6 58 4 4 [.null, .null, .null, .int (nI 0)] := ⟨RX4, TX4, tyX4, rfl, inw_X6_init_X4, tyX4_ok, (List.mem_of_getElem? (i := 27) (by rfl)), (List.mem_of_getElem? (i := 28) (by rfl)), (List.mem_of_getElem? (i := 29) (by rfl)), fun j hj => by
  rcases (show j = 0 ∨ j = 1 ∨ j = 2 ∨ j = 3 by omega) with rfl | rfl | rfl | rfl <;> rfl⟩
theorem sV_X6_init_77 : zSV rm_X6_init wsX6_init RX6 77 yJ0_length_8abf5 wsJ0_length_8abf5 rm_JN 0 := ⟨_, _, _, _, rfl, gX6_init_J0_length_8abf5, ⟨rfl, rfl⟩, by decide +kernel, by decide⟩
theorem sV_X6_init_83 : zSV rm_X6_init wsX6_init RX6 83 yJ0_charAt_5068e wsJ0_charAt_5068e rm_JA 1 := ⟨_, _, _, _, rfl, gX6_init_J0_charAt_5068e, ⟨rfl, rfl⟩, by decide +kernel, by decide⟩
theorem sV_X6_init_87 : zSV rm_X6_init wsX6_init RX6 87 yX3_append wsX3_append rm_X3_append 1 := ⟨_, _, _, _, rfl, gX6_init_X3_append, ⟨rfl, rfl⟩, by decide +kernel, by decide⟩
theorem sV_X6_init_91 : zSV rm_X6_init wsX6_init RX6 91 yX2_readInto wsX2_readInto rm_X2_readInto 1 := ⟨_, _, _, _, rfl, gX6_init_X2_readInto, ⟨rfl, rfl⟩, by decide +kernel, by decide⟩
theorem sV_X6_init_95 : zSV rm_X6_init wsX6_init RX6 95 yX3_clear wsX3_clear rm_X3_clear 0 := ⟨_, _, _, _, rfl, gX6_init_X3_clear, ⟨rfl, rfl⟩, by decide +kernel, by decide⟩
section
variable {l : Launch} {R : Room} {cc : ByteArray} {nL : Nat} {Ts : List Cond} {own : String} {D : va_G} {tys : zTy} {A : Nat → Prop} {E : State → Array Value → Prop} {ini : Bool} {Z : Nat → Nat → List va_W → zL → Nat → List Value → Prop} {k n : Nat} {ws ws2 : List va_W} {lv lv2 : zL} {pc pc2 : Nat} {st : List Value}
theorem zk_so (O : zON l R cc nL Ts own D tys A E ini Z) {kS vS : Nat} (hE : ∀ (s : State) (args : Array Value), E s args → zStr A kS vS s s.heap) (h1 : k ≤ R.cells) (h2 : n ≤ R.slots) : zSO l R cc nL Ts own D tys A kS vS (Z k n) := by
  obtain ⟨p, e, s, m, args, below, meth, c, Q, hF, hK, hA, hi, hE9, rfl⟩ := O
  exact ⟨p, e, s, m, args, below, meth, c, k, n, Q, hF, hK, ⟨h1, h2⟩, hE s args hE9, rfl⟩
theorem zk_ldc (O : zON l R cc nL Ts own D tys A E ini Z) {idx kS : Nat} {tx : String} (hE : ∀ (s : State) (args : Array Value), E s args → vk_R own idx tx kS s) (hdg : decode cc pc = .ok (.ldc idx, 2)) (hpc : pc + 2 = pc2) (kk : Z k n ws lv pc2 (.ref kS :: st)) : Z k n ws lv pc st := by
  obtain ⟨p, e, s, m, args, below, meth, c, Q, ⟨hx, hb, hml, ho, hts⟩, hK, hA, hi, hE9, rfl⟩ := O
  subst hpc
  intro H locs ls hP hD hS hl
  exact va_ldcS hx hb ho (hE s args hE9) hdg (kk H locs ls hP hD hS hl)
end
set_option maxHeartbeats 4000000 in
set_option maxRecDepth 100000 in
theorem c_X6_init (l : Launch) (D : va_G) (cI cC cJ : ClassId) (kS vS b9 : Nat) : zMk l yX6_init wsX6_init rm_X6_init D (zT cI cC cJ) [.ref b9] [(b9, .inr (6, [.null, .null, .null, .null, .int (nI 0), .null, .null, .null, .null, .null, .null, .int (nI 0)]))] (zE6 kS vS) 0 b9 (fun a => (x6W cI cC cJ (a 0) (fun q => a (1 + 11 * q)) (fun q => a (2 + 11 * q)) (fun q => a (3 + 11 * q)) (fun q => a (4 + 11 * q)) (fun q => a (5 + 11 * q)) (fun q => a (6 + 11 * q)) (fun q => a (7 + 11 * q)) (fun q => a (8 + 11 * q)) (fun q => a (9 + 11 * q)) (fun q => a (10 + 11 * q))).flatten) 90 2535 := by
  refine zMk_void (cc := cX6_init) (maxL := 2) (lv := [(0, .ref b9)]) (by decide +kernel) rfl rfl (Nat.le_of_ble_eq_true rfl) rfl (fun A Z O hret => ?_)
  refine zr_aload_n (pc2 := 1) (zk_as O (Nat.le_of_ble_eq_true rfl) (Nat.le_of_ble_eq_true rfl)) dX6_init_0 rfl 0 rfl rfl ?_
  refine zk_obj (pc2 := 4) O (List.mem_of_getElem? (i := 1) (by rfl)) (List.mem_of_getElem? (i := 2) (by rfl)) (List.mem_of_getElem? (i := 3) (by rfl)) dX6_init_1 (Nat.le_of_ble_eq_true rfl) (Nat.le_of_ble_eq_true rfl) rfl ?_
  refine zr_aload_n (pc2 := 5) (zk_as O (Nat.le_of_ble_eq_true rfl) (Nat.le_of_ble_eq_true rfl)) dX6_init_4 rfl 0 rfl rfl ?_
  refine zk_new (pc2 := 8) O sN_X6_init_7 (Nat.le_of_ble_eq_true rfl) (Nat.le_of_ble_eq_true rfl) dX6_init_5 rfl (fun qc => ?_)
  refine zr_dup (pc2 := 9) (zk_as O (Nat.le_of_ble_eq_true rfl) (Nat.le_of_ble_eq_true rfl)) dX6_init_8 rfl rfl ?_
  refine zk_callI (pc2 := 12) (As := []) (rest := [.ref qc, .ref b9]) (ws0 := [[(b9, .inr (6, [.null, .null, .null, .null, .int (nI 0), .null, .null, .null, .null, .null, .null, .int (nI 0)]))]]) (E1 := (fun _ _ => True)) O (c_X3_init l D cI cC cJ qc) sM_X6_init_9 (fun _ _ _ _ _ _ _ _ _ _ _ => trivial) (fun _ _ _ _ _ _ => trivial) rfl rfl rfl dX6_init_9 (Nat.le_of_ble_eq_true rfl) (Nat.le_of_ble_eq_true rfl) (Nat.le_of_ble_eq_true rfl) rfl (fun c hc => ?_)
  subst hc
  refine zk_putF (G2 := [(b9, .inr (6, [.ref (c 1), .null, .null, .null, .int (nI 0), .null, .null, .null, .null, .null, .null, .int (nI 0)]))]) (ws2 := [[(b9, .inr (6, [.ref (c 1), .null, .null, .null, .int (nI 0), .null, .null, .null, .null, .null, .null, .int (nI 0)]))], scrollW cC c 0 (fun _ => nI 0)]) (pc2 := 15) O sQ_X6_init_10 0 0 rfl rfl rfl rfl (Nat.le_of_ble_eq_true rfl) dX6_init_12 rfl rfl rfl ?_
  refine zr_aload_n (pc2 := 16) (zk_as O (Nat.le_of_ble_eq_true rfl) (Nat.le_of_ble_eq_true rfl)) dX6_init_15 rfl 0 rfl rfl ?_
  refine zk_new (pc2 := 19) O sN_X6_init_16 (Nat.le_of_ble_eq_true rfl) (Nat.le_of_ble_eq_true rfl) dX6_init_16 rfl (fun qr => ?_)
  refine zr_dup (pc2 := 20) (zk_as O (Nat.le_of_ble_eq_true rfl) (Nat.le_of_ble_eq_true rfl)) dX6_init_19 rfl rfl ?_
  refine zr_aload_n (pc2 := 21) (zk_as O (Nat.le_of_ble_eq_true rfl) (Nat.le_of_ble_eq_true rfl)) dX6_init_20 rfl 0 rfl rfl ?_
  refine zr_getf (pc2 := 24) (zk_as O (Nat.le_of_ble_eq_true rfl) (Nat.le_of_ble_eq_true rfl)) sF_X6_init_10 0 0 rfl rfl rfl dX6_init_21 rfl ?_
  refine zk_callI (pc2 := 27) (As := [.ref (c 1)]) (rest := [.ref qr, .ref b9]) (ws0 := [[(b9, .inr (6, [.ref (c 1), .null, .null, .null, .int (nI 0), .null, .null, .null, .null, .null, .null, .int (nI 0)]))], scrollW cC c 0 (fun _ => nI 0)]) (E1 := (fun _ _ => True)) O (c_X2_init l D cI cC cJ qr (c 1)) sM_X6_init_18 (fun _ _ _ _ _ _ _ _ _ _ _ => trivial) (fun _ _ _ _ _ _ => trivial) rfl rfl rfl dX6_init_24 (Nat.le_of_ble_eq_true rfl) (Nat.le_of_ble_eq_true rfl) (Nat.le_of_ble_eq_true rfl) rfl (fun r hr => ?_)
  subst hr
  refine zk_putF (G2 := [(b9, .inr (6, [.ref (c 1), .ref (r 0), .null, .null, .int (nI 0), .null, .null, .null, .null, .null, .null, .int (nI 0)]))]) (ws2 := [[(b9, .inr (6, [.ref (c 1), .ref (r 0), .null, .null, .int (nI 0), .null, .null, .null, .null, .null, .null, .int (nI 0)]))], scrollW cC c 0 (fun _ => nI 0), readerW cI r (c 1) 0 (fun _ => nI 0)]) (pc2 := 30) O sQ_X6_init_21 0 0 rfl rfl rfl rfl (Nat.le_of_ble_eq_true rfl) dX6_init_27 rfl rfl rfl ?_
  refine zr_aload_n (pc2 := 31) (zk_as O (Nat.le_of_ble_eq_true rfl) (Nat.le_of_ble_eq_true rfl)) dX6_init_30 rfl 0 rfl rfl ?_
  refine zk_new (pc2 := 34) O sN_X6_init_25 (Nat.le_of_ble_eq_true rfl) (Nat.le_of_ble_eq_true rfl) dX6_init_31 rfl (fun qb => ?_)
  refine zr_dup (pc2 := 35) (zk_as O (Nat.le_of_ble_eq_true rfl) (Nat.le_of_ble_eq_true rfl)) dX6_init_34 rfl rfl ?_
  refine zk_callI (pc2 := 38) (As := []) (rest := [.ref qb, .ref b9]) (ws0 := [[(b9, .inr (6, [.ref (c 1), .ref (r 0), .null, .null, .int (nI 0), .null, .null, .null, .null, .null, .null, .int (nI 0)]))], scrollW cC c 0 (fun _ => nI 0), readerW cI r (c 1) 0 (fun _ => nI 0)]) (E1 := (fun _ _ => True)) O (c_X0_init l D cI cC cJ qb) sM_X6_init_27 (fun _ _ _ _ _ _ _ _ _ _ _ => trivial) (fun _ _ _ _ _ _ => trivial) rfl rfl rfl dX6_init_35 (Nat.le_of_ble_eq_true rfl) (Nat.le_of_ble_eq_true rfl) (Nat.le_of_ble_eq_true rfl) rfl (fun b hb => ?_)
  subst hb
  refine zk_putF (G2 := [(b9, .inr (6, [.ref (c 1), .ref (r 0), .ref (b 0), .null, .int (nI 0), .null, .null, .null, .null, .null, .null, .int (nI 0)]))]) (ws2 := [[(b9, .inr (6, [.ref (c 1), .ref (r 0), .ref (b 0), .null, .int (nI 0), .null, .null, .null, .null, .null, .null, .int (nI 0)]))], scrollW cC c 0 (fun _ => nI 0), readerW cI r (c 1) 0 (fun _ => nI 0), bookW cI b 0 0 0 (nI 0) zB0]) (pc2 := 41) O sQ_X6_init_28 0 0 rfl rfl rfl rfl (Nat.le_of_ble_eq_true rfl) dX6_init_38 rfl rfl rfl ?_
  refine zr_aload_n (pc2 := 42) (zk_as O (Nat.le_of_ble_eq_true rfl) (Nat.le_of_ble_eq_true rfl)) dX6_init_41 rfl 0 rfl rfl ?_
  refine zk_new (pc2 := 45) O sN_X6_init_32 (Nat.le_of_ble_eq_true rfl) (Nat.le_of_ble_eq_true rfl) dX6_init_42 rfl (fun qy => ?_)
  refine zr_dup (pc2 := 46) (zk_as O (Nat.le_of_ble_eq_true rfl) (Nat.le_of_ble_eq_true rfl)) dX6_init_45 rfl rfl ?_
  refine zr_aload_n (pc2 := 47) (zk_as O (Nat.le_of_ble_eq_true rfl) (Nat.le_of_ble_eq_true rfl)) dX6_init_46 rfl 0 rfl rfl ?_
  refine zr_getf (pc2 := 50) (zk_as O (Nat.le_of_ble_eq_true rfl) (Nat.le_of_ble_eq_true rfl)) sF_X6_init_28 0 0 rfl rfl rfl dX6_init_47 rfl ?_
  refine zk_callI (pc2 := 53) (As := [.ref (b 0)]) (rest := [.ref qy, .ref b9]) (ws0 := [[(b9, .inr (6, [.ref (c 1), .ref (r 0), .ref (b 0), .null, .int (nI 0), .null, .null, .null, .null, .null, .null, .int (nI 0)]))], scrollW cC c 0 (fun _ => nI 0), readerW cI r (c 1) 0 (fun _ => nI 0), bookW cI b 0 0 0 (nI 0) zB0]) (E1 := (fun _ U => zAO U)) O (c_X5_init l D cI cC cJ qy (b 0)) sM_X6_init_34 (fun s U args H locs B h _ _ hW _ => zAO.moved hW.alike h.1) (fun B u U h _ h2 => zAO.moved (by rw [h]; exact Vm.Alike.refl _) h2) rfl rfl rfl dX6_init_50 (Nat.le_of_ble_eq_true rfl) (Nat.le_of_ble_eq_true rfl) (Nat.le_of_ble_eq_true rfl) rfl (fun y hy => ?_)
  subst hy
  refine zk_putF (G2 := [(b9, .inr (6, [.ref (c 1), .ref (r 0), .ref (b 0), .ref (y 0), .int (nI 0), .null, .null, .null, .null, .null, .null, .int (nI 0)]))]) (ws2 := [[(b9, .inr (6, [.ref (c 1), .ref (r 0), .ref (b 0), .ref (y 0), .int (nI 0), .null, .null, .null, .null, .null, .null, .int (nI 0)]))], scrollW cC c 0 (fun _ => nI 0), readerW cI r (c 1) 0 (fun _ => nI 0), bookW cI b 0 0 0 (nI 0) zB0, yearsW cI cJ y (b 0) (nI 0) zY0 (fun _ _ => nI 0)]) (pc2 := 56) O sQ_X6_init_37 0 0 rfl rfl rfl rfl (Nat.le_of_ble_eq_true rfl) dX6_init_53 rfl rfl rfl ?_
  refine zr_aload_n (pc2 := 57) (zk_as O (Nat.le_of_ble_eq_true rfl) (Nat.le_of_ble_eq_true rfl)) dX6_init_56 rfl 0 rfl rfl ?_
  refine zr_iconst (v := (nI 1)) (pc2 := 58) (zk_as O (Nat.le_of_ble_eq_true rfl) (Nat.le_of_ble_eq_true rfl)) dX6_init_57 (by decide +kernel) rfl ?_
  refine zr_putf (G2 := [(b9, .inr (6, [.ref (c 1), .ref (r 0), .ref (b 0), .ref (y 0), .int (nI 1), .null, .null, .null, .null, .null, .null, .int (nI 0)]))]) (ws2 := [[(b9, .inr (6, [.ref (c 1), .ref (r 0), .ref (b 0), .ref (y 0), .int (nI 1), .null, .null, .null, .null, .null, .null, .int (nI 0)]))], scrollW cC c 0 (fun _ => nI 0), readerW cI r (c 1) 0 (fun _ => nI 0), bookW cI b 0 0 0 (nI 0) zB0, yearsW cI cJ y (b 0) (nI 0) zY0 (fun _ _ => nI 0)]) (pc2 := 61) (zk_as O (Nat.le_of_ble_eq_true rfl) (Nat.le_of_ble_eq_true rfl)) sP_X6_init_41 0 0 rfl rfl rfl rfl (Nat.le_of_ble_eq_true rfl) dX6_init_58 rfl rfl rfl ?_
  refine zr_aload_n (pc2 := 62) (zk_as O (Nat.le_of_ble_eq_true rfl) (Nat.le_of_ble_eq_true rfl)) dX6_init_61 rfl 0 rfl rfl ?_
  refine zk_new (pc2 := 65) O sN_X6_init_25 (Nat.le_of_ble_eq_true rfl) (Nat.le_of_ble_eq_true rfl) dX6_init_62 rfl (fun qt => ?_)
  refine zr_dup (pc2 := 66) (zk_as O (Nat.le_of_ble_eq_true rfl) (Nat.le_of_ble_eq_true rfl)) dX6_init_65 rfl rfl ?_
  refine zk_callI (pc2 := 69) (As := []) (rest := [.ref qt, .ref b9]) (ws0 := [[(b9, .inr (6, [.ref (c 1), .ref (r 0), .ref (b 0), .ref (y 0), .int (nI 1), .null, .null, .null, .null, .null, .null, .int (nI 0)]))], scrollW cC c 0 (fun _ => nI 0), readerW cI r (c 1) 0 (fun _ => nI 0), bookW cI b 0 0 0 (nI 0) zB0, yearsW cI cJ y (b 0) (nI 0) zY0 (fun _ _ => nI 0)]) (E1 := (fun _ _ => True)) O (c_X0_init l D cI cC cJ qt) sM_X6_init_27 (fun _ _ _ _ _ _ _ _ _ _ _ => trivial) (fun _ _ _ _ _ _ => trivial) rfl rfl rfl dX6_init_66 (Nat.le_of_ble_eq_true rfl) (Nat.le_of_ble_eq_true rfl) (Nat.le_of_ble_eq_true rfl) rfl (fun t ht => ?_)
  subst ht
  refine zk_putF (G2 := [(b9, .inr (6, [.ref (c 1), .ref (r 0), .ref (b 0), .ref (y 0), .int (nI 1), .ref (t 0), .null, .null, .null, .null, .null, .int (nI 0)]))]) (ws2 := [[(b9, .inr (6, [.ref (c 1), .ref (r 0), .ref (b 0), .ref (y 0), .int (nI 1), .ref (t 0), .null, .null, .null, .null, .null, .int (nI 0)]))], scrollW cC c 0 (fun _ => nI 0), readerW cI r (c 1) 0 (fun _ => nI 0), bookW cI b 0 0 0 (nI 0) zB0, yearsW cI cJ y (b 0) (nI 0) zY0 (fun _ _ => nI 0), bookW cI t 0 0 0 (nI 0) zB0]) (pc2 := 72) O sQ_X6_init_45 0 0 rfl rfl rfl rfl (Nat.le_of_ble_eq_true rfl) dX6_init_69 rfl rfl rfl ?_
  refine zr_aload_n (pc2 := 73) (zk_as O (Nat.le_of_ble_eq_true rfl) (Nat.le_of_ble_eq_true rfl)) dX6_init_72 rfl 0 rfl rfl ?_
  refine zk_new (pc2 := 76) O sN_X6_init_32 (Nat.le_of_ble_eq_true rfl) (Nat.le_of_ble_eq_true rfl) dX6_init_73 rfl (fun qw => ?_)
  refine zr_dup (pc2 := 77) (zk_as O (Nat.le_of_ble_eq_true rfl) (Nat.le_of_ble_eq_true rfl)) dX6_init_76 rfl rfl ?_
  refine zr_aload_n (pc2 := 78) (zk_as O (Nat.le_of_ble_eq_true rfl) (Nat.le_of_ble_eq_true rfl)) dX6_init_77 rfl 0 rfl rfl ?_
  refine zr_getf (pc2 := 81) (zk_as O (Nat.le_of_ble_eq_true rfl) (Nat.le_of_ble_eq_true rfl)) sF_X6_init_45 0 0 rfl rfl rfl dX6_init_78 rfl ?_
  refine zk_callI (pc2 := 84) (As := [.ref (t 0)]) (rest := [.ref qw, .ref b9]) (ws0 := [[(b9, .inr (6, [.ref (c 1), .ref (r 0), .ref (b 0), .ref (y 0), .int (nI 1), .ref (t 0), .null, .null, .null, .null, .null, .int (nI 0)]))], scrollW cC c 0 (fun _ => nI 0), readerW cI r (c 1) 0 (fun _ => nI 0), bookW cI b 0 0 0 (nI 0) zB0, yearsW cI cJ y (b 0) (nI 0) zY0 (fun _ _ => nI 0), bookW cI t 0 0 0 (nI 0) zB0]) (E1 := (fun _ U => zAO U)) O (c_X5_init l D cI cC cJ qw (t 0)) sM_X6_init_34 (fun s U args H locs B h _ _ hW _ => zAO.moved hW.alike h.1) (fun B u U h _ h2 => zAO.moved (by rw [h]; exact Vm.Alike.refl _) h2) rfl rfl rfl dX6_init_81 (Nat.le_of_ble_eq_true rfl) (Nat.le_of_ble_eq_true rfl) (Nat.le_of_ble_eq_true rfl) rfl (fun w hw => ?_)
  subst hw
  refine zk_putF (G2 := [(b9, .inr (6, [.ref (c 1), .ref (r 0), .ref (b 0), .ref (y 0), .int (nI 1), .ref (t 0), .ref (w 0), .null, .null, .null, .null, .int (nI 0)]))]) (ws2 := [[(b9, .inr (6, [.ref (c 1), .ref (r 0), .ref (b 0), .ref (y 0), .int (nI 1), .ref (t 0), .ref (w 0), .null, .null, .null, .null, .int (nI 0)]))], scrollW cC c 0 (fun _ => nI 0), readerW cI r (c 1) 0 (fun _ => nI 0), bookW cI b 0 0 0 (nI 0) zB0, yearsW cI cJ y (b 0) (nI 0) zY0 (fun _ _ => nI 0), bookW cI t 0 0 0 (nI 0) zB0, yearsW cI cJ w (t 0) (nI 0) zY0 (fun _ _ => nI 0)]) (pc2 := 87) O sQ_X6_init_48 0 0 rfl rfl rfl rfl (Nat.le_of_ble_eq_true rfl) dX6_init_84 rfl rfl rfl ?_
  refine zr_aload_n (pc2 := 88) (zk_as O (Nat.le_of_ble_eq_true rfl) (Nat.le_of_ble_eq_true rfl)) dX6_init_87 rfl 0 rfl rfl ?_
  refine zk_new (pc2 := 91) O sN_X6_init_51 (Nat.le_of_ble_eq_true rfl) (Nat.le_of_ble_eq_true rfl) dX6_init_88 rfl (fun qh => ?_)
  refine zr_dup (pc2 := 92) (zk_as O (Nat.le_of_ble_eq_true rfl) (Nat.le_of_ble_eq_true rfl)) dX6_init_91 rfl rfl ?_
  refine zk_callI (pc2 := 95) (As := []) (rest := [.ref qh, .ref b9]) (ws0 := [[(b9, .inr (6, [.ref (c 1), .ref (r 0), .ref (b 0), .ref (y 0), .int (nI 1), .ref (t 0), .ref (w 0), .null, .null, .null, .null, .int (nI 0)]))], scrollW cC c 0 (fun _ => nI 0), readerW cI r (c 1) 0 (fun _ => nI 0), bookW cI b 0 0 0 (nI 0) zB0, yearsW cI cJ y (b 0) (nI 0) zY0 (fun _ _ => nI 0), bookW cI t 0 0 0 (nI 0) zB0, yearsW cI cJ w (t 0) (nI 0) zY0 (fun _ _ => nI 0)]) (E1 := (fun _ _ => True)) O (c_X1_init l D cI cC cJ qh) sM_X6_init_53 (fun _ _ _ _ _ _ _ _ _ _ _ => trivial) (fun _ _ _ _ _ _ => trivial) rfl rfl rfl dX6_init_92 (Nat.le_of_ble_eq_true rfl) (Nat.le_of_ble_eq_true rfl) (Nat.le_of_ble_eq_true rfl) rfl (fun h hh => ?_)
  subst hh
  refine zk_putF (G2 := [(b9, .inr (6, [.ref (c 1), .ref (r 0), .ref (b 0), .ref (y 0), .int (nI 1), .ref (t 0), .ref (w 0), .ref (h 3), .null, .null, .null, .int (nI 0)]))]) (ws2 := [[(b9, .inr (6, [.ref (c 1), .ref (r 0), .ref (b 0), .ref (y 0), .int (nI 1), .ref (t 0), .ref (w 0), .ref (h 3), .null, .null, .null, .int (nI 0)]))], scrollW cC c 0 (fun _ => nI 0), readerW cI r (c 1) 0 (fun _ => nI 0), bookW cI b 0 0 0 (nI 0) zB0, yearsW cI cJ y (b 0) (nI 0) zY0 (fun _ _ => nI 0), bookW cI t 0 0 0 (nI 0) zB0, yearsW cI cJ w (t 0) (nI 0) zY0 (fun _ _ => nI 0), changesW cI h 0 zC0]) (pc2 := 98) O sQ_X6_init_54 0 0 rfl rfl rfl rfl (Nat.le_of_ble_eq_true rfl) dX6_init_95 rfl rfl rfl ?_
  refine zr_aload_n (pc2 := 99) (zk_as O (Nat.le_of_ble_eq_true rfl) (Nat.le_of_ble_eq_true rfl)) dX6_init_98 rfl 0 rfl rfl ?_
  refine zk_new (pc2 := 102) O sN_X6_init_58 (Nat.le_of_ble_eq_true rfl) (Nat.le_of_ble_eq_true rfl) dX6_init_99 rfl (fun qg => ?_)
  refine zr_dup (pc2 := 103) (zk_as O (Nat.le_of_ble_eq_true rfl) (Nat.le_of_ble_eq_true rfl)) dX6_init_102 rfl rfl ?_
  refine zk_callI (pc2 := 106) (As := []) (rest := [.ref qg, .ref b9]) (ws0 := [[(b9, .inr (6, [.ref (c 1), .ref (r 0), .ref (b 0), .ref (y 0), .int (nI 1), .ref (t 0), .ref (w 0), .ref (h 3), .null, .null, .null, .int (nI 0)]))], scrollW cC c 0 (fun _ => nI 0), readerW cI r (c 1) 0 (fun _ => nI 0), bookW cI b 0 0 0 (nI 0) zB0, yearsW cI cJ y (b 0) (nI 0) zY0 (fun _ _ => nI 0), bookW cI t 0 0 0 (nI 0) zB0, yearsW cI cJ w (t 0) (nI 0) zY0 (fun _ _ => nI 0), changesW cI h 0 zC0]) (E1 := (fun _ _ => True)) O (c_X4_init l D cI cC cJ qg) sM_X6_init_60 (fun _ _ _ _ _ _ _ _ _ _ _ => trivial) (fun _ _ _ _ _ _ => trivial) rfl rfl rfl dX6_init_103 (Nat.le_of_ble_eq_true rfl) (Nat.le_of_ble_eq_true rfl) (Nat.le_of_ble_eq_true rfl) rfl (fun g hg => ?_)
  subst hg
  refine zk_putF (G2 := [(b9, .inr (6, [.ref (c 1), .ref (r 0), .ref (b 0), .ref (y 0), .int (nI 1), .ref (t 0), .ref (w 0), .ref (h 3), .ref (g 3), .null, .null, .int (nI 0)]))]) (ws2 := [[(b9, .inr (6, [.ref (c 1), .ref (r 0), .ref (b 0), .ref (y 0), .int (nI 1), .ref (t 0), .ref (w 0), .ref (h 3), .ref (g 3), .null, .null, .int (nI 0)]))], scrollW cC c 0 (fun _ => nI 0), readerW cI r (c 1) 0 (fun _ => nI 0), bookW cI b 0 0 0 (nI 0) zB0, yearsW cI cJ y (b 0) (nI 0) zY0 (fun _ _ => nI 0), bookW cI t 0 0 0 (nI 0) zB0, yearsW cI cJ w (t 0) (nI 0) zY0 (fun _ _ => nI 0), changesW cI h 0 zC0, sightsW cI g 0 zC0]) (pc2 := 109) O sQ_X6_init_61 0 0 rfl rfl rfl rfl (Nat.le_of_ble_eq_true rfl) dX6_init_106 rfl rfl rfl ?_
  refine zr_aload_n (pc2 := 110) (zk_as O (Nat.le_of_ble_eq_true rfl) (Nat.le_of_ble_eq_true rfl)) dX6_init_109 rfl 0 rfl rfl ?_
  refine zk_new (pc2 := 113) O sN_X6_init_25 (Nat.le_of_ble_eq_true rfl) (Nat.le_of_ble_eq_true rfl) dX6_init_110 rfl (fun qk => ?_)
  refine zr_dup (pc2 := 114) (zk_as O (Nat.le_of_ble_eq_true rfl) (Nat.le_of_ble_eq_true rfl)) dX6_init_113 rfl rfl ?_
  refine zk_callI (pc2 := 117) (As := []) (rest := [.ref qk, .ref b9]) (ws0 := [[(b9, .inr (6, [.ref (c 1), .ref (r 0), .ref (b 0), .ref (y 0), .int (nI 1), .ref (t 0), .ref (w 0), .ref (h 3), .ref (g 3), .null, .null, .int (nI 0)]))], scrollW cC c 0 (fun _ => nI 0), readerW cI r (c 1) 0 (fun _ => nI 0), bookW cI b 0 0 0 (nI 0) zB0, yearsW cI cJ y (b 0) (nI 0) zY0 (fun _ _ => nI 0), bookW cI t 0 0 0 (nI 0) zB0, yearsW cI cJ w (t 0) (nI 0) zY0 (fun _ _ => nI 0), changesW cI h 0 zC0, sightsW cI g 0 zC0]) (E1 := (fun _ _ => True)) O (c_X0_init l D cI cC cJ qk) sM_X6_init_27 (fun _ _ _ _ _ _ _ _ _ _ _ => trivial) (fun _ _ _ _ _ _ => trivial) rfl rfl rfl dX6_init_114 (Nat.le_of_ble_eq_true rfl) (Nat.le_of_ble_eq_true rfl) (Nat.le_of_ble_eq_true rfl) rfl (fun k hk => ?_)
  subst hk
  refine zk_putF (G2 := [(b9, .inr (6, [.ref (c 1), .ref (r 0), .ref (b 0), .ref (y 0), .int (nI 1), .ref (t 0), .ref (w 0), .ref (h 3), .ref (g 3), .ref (k 0), .null, .int (nI 0)]))]) (ws2 := [[(b9, .inr (6, [.ref (c 1), .ref (r 0), .ref (b 0), .ref (y 0), .int (nI 1), .ref (t 0), .ref (w 0), .ref (h 3), .ref (g 3), .ref (k 0), .null, .int (nI 0)]))], scrollW cC c 0 (fun _ => nI 0), readerW cI r (c 1) 0 (fun _ => nI 0), bookW cI b 0 0 0 (nI 0) zB0, yearsW cI cJ y (b 0) (nI 0) zY0 (fun _ _ => nI 0), bookW cI t 0 0 0 (nI 0) zB0, yearsW cI cJ w (t 0) (nI 0) zY0 (fun _ _ => nI 0), changesW cI h 0 zC0, sightsW cI g 0 zC0, bookW cI k 0 0 0 (nI 0) zB0]) (pc2 := 120) O sQ_X6_init_65 0 0 rfl rfl rfl rfl (Nat.le_of_ble_eq_true rfl) dX6_init_117 rfl rfl rfl ?_
  refine zr_aload_n (pc2 := 121) (zk_as O (Nat.le_of_ble_eq_true rfl) (Nat.le_of_ble_eq_true rfl)) dX6_init_120 rfl 0 rfl rfl ?_
  refine zk_new (pc2 := 124) O sN_X6_init_25 (Nat.le_of_ble_eq_true rfl) (Nat.le_of_ble_eq_true rfl) dX6_init_121 rfl (fun qj => ?_)
  refine zr_dup (pc2 := 125) (zk_as O (Nat.le_of_ble_eq_true rfl) (Nat.le_of_ble_eq_true rfl)) dX6_init_124 rfl rfl ?_
  refine zk_callI (pc2 := 128) (As := []) (rest := [.ref qj, .ref b9]) (ws0 := [[(b9, .inr (6, [.ref (c 1), .ref (r 0), .ref (b 0), .ref (y 0), .int (nI 1), .ref (t 0), .ref (w 0), .ref (h 3), .ref (g 3), .ref (k 0), .null, .int (nI 0)]))], scrollW cC c 0 (fun _ => nI 0), readerW cI r (c 1) 0 (fun _ => nI 0), bookW cI b 0 0 0 (nI 0) zB0, yearsW cI cJ y (b 0) (nI 0) zY0 (fun _ _ => nI 0), bookW cI t 0 0 0 (nI 0) zB0, yearsW cI cJ w (t 0) (nI 0) zY0 (fun _ _ => nI 0), changesW cI h 0 zC0, sightsW cI g 0 zC0, bookW cI k 0 0 0 (nI 0) zB0]) (E1 := (fun _ _ => True)) O (c_X0_init l D cI cC cJ qj) sM_X6_init_27 (fun _ _ _ _ _ _ _ _ _ _ _ => trivial) (fun _ _ _ _ _ _ => trivial) rfl rfl rfl dX6_init_125 (Nat.le_of_ble_eq_true rfl) (Nat.le_of_ble_eq_true rfl) (Nat.le_of_ble_eq_true rfl) rfl (fun j hj => ?_)
  subst hj
  refine zk_putF (G2 := [(b9, .inr (6, [.ref (c 1), .ref (r 0), .ref (b 0), .ref (y 0), .int (nI 1), .ref (t 0), .ref (w 0), .ref (h 3), .ref (g 3), .ref (k 0), .ref (j 0), .int (nI 0)]))]) (ws2 := [[(b9, .inr (6, [.ref (c 1), .ref (r 0), .ref (b 0), .ref (y 0), .int (nI 1), .ref (t 0), .ref (w 0), .ref (h 3), .ref (g 3), .ref (k 0), .ref (j 0), .int (nI 0)]))], scrollW cC c 0 (fun _ => nI 0), readerW cI r (c 1) 0 (fun _ => nI 0), bookW cI b 0 0 0 (nI 0) zB0, yearsW cI cJ y (b 0) (nI 0) zY0 (fun _ _ => nI 0), bookW cI t 0 0 0 (nI 0) zB0, yearsW cI cJ w (t 0) (nI 0) zY0 (fun _ _ => nI 0), changesW cI h 0 zC0, sightsW cI g 0 zC0, bookW cI k 0 0 0 (nI 0) zB0, bookW cI j 0 0 0 (nI 0) zB0]) (pc2 := 131) O sQ_X6_init_68 0 0 rfl rfl rfl rfl (Nat.le_of_ble_eq_true rfl) dX6_init_128 rfl rfl rfl ?_
  refine zr_aload_n (pc2 := 132) (zk_as O (Nat.le_of_ble_eq_true rfl) (Nat.le_of_ble_eq_true rfl)) dX6_init_131 rfl 0 rfl rfl ?_
  refine zr_iconst (v := (nI 0)) (pc2 := 133) (zk_as O (Nat.le_of_ble_eq_true rfl) (Nat.le_of_ble_eq_true rfl)) dX6_init_132 (by decide +kernel) rfl ?_
  refine zr_putf (G2 := [(b9, .inr (6, [.ref (c 1), .ref (r 0), .ref (b 0), .ref (y 0), .int (nI 1), .ref (t 0), .ref (w 0), .ref (h 3), .ref (g 3), .ref (k 0), .ref (j 0), .int (nI 0)]))]) (ws2 := [[(b9, .inr (6, [.ref (c 1), .ref (r 0), .ref (b 0), .ref (y 0), .int (nI 1), .ref (t 0), .ref (w 0), .ref (h 3), .ref (g 3), .ref (k 0), .ref (j 0), .int (nI 0)]))], scrollW cC c 0 (fun _ => nI 0), readerW cI r (c 1) 0 (fun _ => nI 0), bookW cI b 0 0 0 (nI 0) zB0, yearsW cI cJ y (b 0) (nI 0) zY0 (fun _ _ => nI 0), bookW cI t 0 0 0 (nI 0) zB0, yearsW cI cJ w (t 0) (nI 0) zY0 (fun _ _ => nI 0), changesW cI h 0 zC0, sightsW cI g 0 zC0, bookW cI k 0 0 0 (nI 0) zB0, bookW cI j 0 0 0 (nI 0) zB0]) (pc2 := 136) (zk_as O (Nat.le_of_ble_eq_true rfl) (Nat.le_of_ble_eq_true rfl)) sP_X6_init_71 0 0 rfl rfl rfl rfl (Nat.le_of_ble_eq_true rfl) dX6_init_133 rfl rfl rfl ?_
  refine zk_wid (k2 := 90) (n2 := 2535) O (Nat.le_of_ble_eq_true rfl) (Nat.le_of_ble_eq_true rfl) ?_
  refine zr_iconst (v := (nI 0)) (pc2 := 137) (zk_as O (Nat.le_of_ble_eq_true rfl) (Nat.le_of_ble_eq_true rfl)) dX6_init_136 (by decide +kernel) rfl ?_
  refine zr_istore_n (pc2 := 138) (lv2 := [(1, .int (nI 0)), (0, .ref b9)]) (zk_as O (Nat.le_of_ble_eq_true rfl) (Nat.le_of_ble_eq_true rfl)) dX6_init_137 rfl (by decide) rfl rfl ?_
  have loop : ∀ n i : Nat, i + n = 90 → Z 90 2535 [mainW b9 (c 1) (r 0) (b 0) (y 0) true (t 0) (w 0) (h 3) (g 3) (k 0) (j 0) 0, scrollW cC c i (Le0 i), readerW cI r (c 1) 0 (fun _ => nI 0), bookW cI b 0 0 0 (nI 0) zB0, yearsW cI cJ y (b 0) (nI 0) zY0 (fun _ _ => nI 0), bookW cI t 0 0 0 (nI 0) zB0, yearsW cI cJ w (t 0) (nI 0) zY0 (fun _ _ => nI 0), changesW cI h 0 zC0, sightsW cI g 0 zC0, bookW cI k 0 0 0 (nI 0) zB0, bookW cI j 0 0 0 (nI 0) zB0] [(1, .int (nI i)), (0, .ref b9)] 138 [] := by
    intro n
    induction n with
    | zero =>
      intro i hi
      have hi9 : i = 90 := by omega
      subst hi9
      refine zr_iload_n (pc2 := 139) (zk_as O (Nat.le_of_ble_eq_true rfl) (Nat.le_of_ble_eq_true rfl)) dX6_init_138 rfl 0 rfl rfl ?_
      refine zk_ldc (pc2 := 141) O (fun s args h => h.2.2) dX6_init_139 rfl ?_
      refine zj_callV (pc2 := 144) (As := []) (rest := [.int (nI 90)]) (zk_so O (fun s args h => h.2.1) (Nat.le_of_ble_eq_true rfl) (Nat.le_of_ble_eq_true rfl)) (c_J0_length l D (zT cI cC cJ) kS vS) sV_X6_init_77 rfl rfl rfl dX6_init_141 (Nat.le_of_ble_eq_true rfl) rfl ?_
      refine zn_icmp_ge (pc2 := 147) (tgt := 167) (zk_as O (Nat.le_of_ble_eq_true rfl) (Nat.le_of_ble_eq_true rfl)) dX6_init_144 rfl rfl (by decide) (by decide) (fun _ => ?_) (fun h => absurd (Nat.le_refl 90) h)
      refine zr_aload_n (pc2 := 168) (zk_as O (Nat.le_of_ble_eq_true rfl) (Nat.le_of_ble_eq_true rfl)) dX6_init_167 rfl 1 rfl rfl ?_
      refine zr_getf (pc2 := 171) (zk_as O (Nat.le_of_ble_eq_true rfl) (Nat.le_of_ble_eq_true rfl)) sF_X6_init_21 0 0 rfl rfl rfl dX6_init_168 rfl ?_
      refine zr_aload_n (pc2 := 172) (zk_as O (Nat.le_of_ble_eq_true rfl) (Nat.le_of_ble_eq_true rfl)) dX6_init_171 rfl 1 rfl rfl ?_
      refine zr_getf (pc2 := 175) (zk_as O (Nat.le_of_ble_eq_true rfl) (Nat.le_of_ble_eq_true rfl)) sF_X6_init_28 0 0 rfl rfl rfl dX6_init_172 rfl ?_
      refine zr_callV (As := [.ref (b 0)]) (rest := []) (ws2 := [mainW b9 (c 1) (r 0) (b 0) (y 0) true (t 0) (w 0) (h 3) (g 3) (k 0) (j 0) 0, scrollW cC c 90 (Le0 90), readerW cI r (c 1) (u0.2.1) (u0.2.2.1), bookW cI b (u0.2.2.2.1) (u0.2.2.2.2.1) (u0.2.2.2.2.2.1) (u0.2.2.2.2.2.2.1) (u0.2.2.2.2.2.2.2), yearsW cI cJ y (b 0) (nI 0) zY0 (fun _ _ => nI 0), bookW cI t 0 0 0 (nI 0) zB0, yearsW cI cJ w (t 0) (nI 0) zY0 (fun _ _ => nI 0), changesW cI h 0 zC0, sightsW cI g 0 zC0, bookW cI k 0 0 0 (nI 0) zB0, bookW cI j 0 0 0 (nI 0) zB0]) (pc2 := 178) (ci := 2) (g0 := 2) (q0 := 0) (v := (some (.int u0.1))) (W := [readerW cI r (c 1) 0 (fun _ => nI 0), scrollW cC c 90 (Le0 90), bookW cI b 0 0 0 (nI 0) zB0]) (W2 := [readerW cI r (c 1) (u0.2.1) (u0.2.2.1), scrollW cC c 90 (Le0 90), bookW cI b (u0.2.2.2.1) (u0.2.2.2.2.1) (u0.2.2.2.2.2.1) (u0.2.2.2.2.2.2.1) (u0.2.2.2.2.2.2.2)]) (zk_as O (Nat.le_of_ble_eq_true rfl) (Nat.le_of_ble_eq_true rfl)) (c_X2_readInto l D cI cC cJ r c b 0 (fun _ => nI 0) 90 (Le0 90) 0 0 0 (nI 0) zB0 (by decide) Le0_nar) sV_X6_init_91 rfl rfl rfl rfl rfl dX6_init_175 [2, 1, 3] rfl rfl rfl rfl (Nat.le_of_ble_eq_true rfl) rfl ?_
      refine zr_pop (pc2 := 179) (zk_as O (Nat.le_of_ble_eq_true rfl) (Nat.le_of_ble_eq_true rfl)) dX6_init_178 rfl rfl ?_
      refine zr_aload_n (pc2 := 180) (zk_as O (Nat.le_of_ble_eq_true rfl) (Nat.le_of_ble_eq_true rfl)) dX6_init_179 rfl 1 rfl rfl ?_
      refine zr_getf (pc2 := 183) (zk_as O (Nat.le_of_ble_eq_true rfl) (Nat.le_of_ble_eq_true rfl)) sF_X6_init_10 0 0 rfl rfl rfl dX6_init_180 rfl ?_
      refine zr_callV (As := []) (rest := []) (ws2 := [mainW b9 (c 1) (r 0) (b 0) (y 0) true (t 0) (w 0) (h 3) (g 3) (k 0) (j 0) 0, scrollW cC c 0 (Le0 90), readerW cI r (c 1) (u0.2.1) (u0.2.2.1), bookW cI b (u0.2.2.2.1) (u0.2.2.2.2.1) (u0.2.2.2.2.2.1) (u0.2.2.2.2.2.2.1) (u0.2.2.2.2.2.2.2), yearsW cI cJ y (b 0) (nI 0) zY0 (fun _ _ => nI 0), bookW cI t 0 0 0 (nI 0) zB0, yearsW cI cJ w (t 0) (nI 0) zY0 (fun _ _ => nI 0), changesW cI h 0 zC0, sightsW cI g 0 zC0, bookW cI k 0 0 0 (nI 0) zB0, bookW cI j 0 0 0 (nI 0) zB0]) (pc2 := 186) (ci := 3) (g0 := 1) (q0 := 0) (v := none) (W := [scrollW cC c 90 (Le0 90)]) (W2 := [scrollW cC c 0 (Le0 90)]) (zk_as O (Nat.le_of_ble_eq_true rfl) (Nat.le_of_ble_eq_true rfl)) (c_X3_clear l D cI cC cJ c 90 (Le0 90)) sV_X6_init_95 rfl rfl rfl rfl rfl dX6_init_183 [1] rfl rfl rfl rfl (Nat.le_of_ble_eq_true rfl) rfl ?_
      obtain ⟨a, a0, ec, er, eb, ey, et, ew, eh, eg, ek, ej⟩ := adr_ex b9 c r b y t w h g k j
      exact hret _ _ _ a dX6_init_186 a0 (by rw [a0, ec, er, eb, ey, et, ew, eh, eg, ek, ej]; rfl)
    | succ n ih =>
      intro i hi
      have hi9 : i < 90 := by omega
      refine zr_iload_n (pc2 := 139) (zk_as O (Nat.le_of_ble_eq_true rfl) (Nat.le_of_ble_eq_true rfl)) dX6_init_138 rfl 0 rfl rfl ?_
      refine zk_ldc (pc2 := 141) O (fun s args h => h.2.2) dX6_init_139 rfl ?_
      refine zj_callV (pc2 := 144) (As := []) (rest := [.int (nI i)]) (zk_so O (fun s args h => h.2.1) (Nat.le_of_ble_eq_true rfl) (Nat.le_of_ble_eq_true rfl)) (c_J0_length l D (zT cI cC cJ) kS vS) sV_X6_init_77 rfl rfl rfl dX6_init_141 (Nat.le_of_ble_eq_true rfl) rfl ?_
      refine zn_icmp_ge (pc2 := 147) (tgt := 167) (zk_as O (Nat.le_of_ble_eq_true rfl) (Nat.le_of_ble_eq_true rfl)) dX6_init_144 rfl rfl (by omega) (by decide) (fun h9 => absurd h9 (by omega)) (fun _ => ?_)
      refine zr_aload_n (pc2 := 148) (zk_as O (Nat.le_of_ble_eq_true rfl) (Nat.le_of_ble_eq_true rfl)) dX6_init_147 rfl 1 rfl rfl ?_
      refine zr_getf (pc2 := 151) (zk_as O (Nat.le_of_ble_eq_true rfl) (Nat.le_of_ble_eq_true rfl)) sF_X6_init_10 0 0 rfl rfl rfl dX6_init_148 rfl ?_
      refine zk_ldc (pc2 := 153) O (fun s args h => h.2.2) dX6_init_151 rfl ?_
      refine zr_iload_n (pc2 := 154) (zk_as O (Nat.le_of_ble_eq_true rfl) (Nat.le_of_ble_eq_true rfl)) dX6_init_153 rfl 0 rfl rfl ?_
      refine zj_callV (pc2 := 157) (As := [.int (nI i)]) (rest := [.ref (c 1)]) (zk_so O (fun s args h => h.2.1) (Nat.le_of_ble_eq_true rfl) (Nat.le_of_ble_eq_true rfl)) (c_J0_charAt l D (zT cI cC cJ) kS vS hi9) sV_X6_init_83 rfl rfl rfl dX6_init_154 (Nat.le_of_ble_eq_true rfl) rfl ?_
      have happ : s_X3_append i (Le0 i) (byt0.getD i 0) = (true, i + 1, Le0 (i + 1)) := by
        unfold s_X3_append
        rw [if_pos (by omega), Le0_s]
      have hapc := c_X3_append l D cI cC cJ c i (Le0 i) (byt0.getD i 0) (by omega) (Value.int.inj (byt_le i hi9))
      rw [happ] at hapc
      refine zr_callV (As := [.int (byt0.getD i 0)]) (rest := []) (ws2 := [mainW b9 (c 1) (r 0) (b 0) (y 0) true (t 0) (w 0) (h 3) (g 3) (k 0) (j 0) 0, scrollW cC c (i + 1) (Le0 (i + 1)), readerW cI r (c 1) 0 (fun _ => nI 0), bookW cI b 0 0 0 (nI 0) zB0, yearsW cI cJ y (b 0) (nI 0) zY0 (fun _ _ => nI 0), bookW cI t 0 0 0 (nI 0) zB0, yearsW cI cJ w (t 0) (nI 0) zY0 (fun _ _ => nI 0), changesW cI h 0 zC0, sightsW cI g 0 zC0, bookW cI k 0 0 0 (nI 0) zB0, bookW cI j 0 0 0 (nI 0) zB0]) (pc2 := 160) (ci := 3) (g0 := 1) (q0 := 0) (v := (some (.int (zb true)))) (W := [scrollW cC c i (Le0 i)]) (W2 := [scrollW cC c (i + 1) (Le0 (i + 1))]) (zk_as O (Nat.le_of_ble_eq_true rfl) (Nat.le_of_ble_eq_true rfl)) hapc sV_X6_init_87 rfl rfl rfl rfl rfl dX6_init_157 [1] rfl rfl rfl rfl (Nat.le_of_ble_eq_true rfl) rfl ?_
      refine zr_pop (pc2 := 161) (zk_as O (Nat.le_of_ble_eq_true rfl) (Nat.le_of_ble_eq_true rfl)) dX6_init_160 rfl rfl ?_
      refine zr_iinc (v := nI (i + 1)) (pc2 := 164) (lv2 := [(1, .int (nI (i + 1))), (0, .ref b9)]) (zk_as O (Nat.le_of_ble_eq_true rfl) (Nat.le_of_ble_eq_true rfl)) dX6_init_161 0 rfl (zm_ofInt1 i) (by decide) rfl rfl ?_
      refine zr_goto (tgt := 138) (zk_as O (Nat.le_of_ble_eq_true rfl) (Nat.le_of_ble_eq_true rfl)) dX6_init_164 rfl ?_
      exact ih (i + 1) (by omega)
  have h0 := loop 90 0 rfl
  rw [Le0_0] at h0
  exact h0
