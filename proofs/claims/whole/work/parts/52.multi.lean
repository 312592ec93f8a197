/-! ===== rows of rows ===== -/
def zAO (U : State) : Prop := (Cond.arrayOver (.array .int)).before #[] U = true
theorem zAO.moved {u U : State} (hvm : u.vm.Alike U.vm) (h : zAO u) : zAO U := Jvm.Stand.arrayOver_alikeB hvm h
theorem zAO.of {args : Array Value} {U : State} (h : (Cond.arrayOver (.array .int)).before args U = true) : zAO U := h
theorem outerC_is (c : ClassId) (N h0 : Nat) : ∀ i, ∃ S : Array Value, Jvm.Free.Multi.outerC c N h0 i = { cls := c, slots := S, vm := .none }
  | 0 => ⟨_, rfl⟩
  | i + 1 => by
    obtain ⟨S, h⟩ := outerC_is c N h0 i
    refine ⟨S.setIfInBounds i (.ref (h0 + 1 + i)), ?_⟩
    show Cell.setSlot (Jvm.Free.Multi.outerC c N h0 i) i (.ref (h0 + 1 + i)) = _
    rw [h]
    rfl
def rowsW (cI cJ : ClassId) (q : Nat → Nat) : va_W := [(q 8, .inl (cJ, 6, .inr (.inr (.inr (.inr (fun i => if i < 6 then some (q (10 + i)) else none)))))), (q 10, .inl (cI, 151, .inl (fun _ => nI 0))), (q 11, .inl (cI, 151, .inl (fun _ => nI 0))), (q 12, .inl (cI, 151, .inl (fun _ => nI 0))), (q 13, .inl (cI, 151, .inl (fun _ => nI 0))), (q 14, .inl (cI, 151, .inl (fun _ => nI 0))), (q 15, .inl (cI, 151, .inl (fun _ => nI 0)))]
section
variable {l : Launch} {R : Room} {cc : ByteArray} {nL : Nat} {Ts : List Cond} {own : String} {D : va_G} {tys : zTy} {A : Nat → Prop} {E : State → Array Value → Prop} {ini : Bool} {Z : Nat → Nat → List va_W → zL → Nat → List Value → Prop} {k n : Nat} {ws ws2 : List va_W} {lv lv2 : zL} {pc pc2 : Nat} {st : List Value}
theorem zk_multi (O : zON l R cc nL Ts own D tys A E ini Z) {idx t0 t2 : Nat} {cI cJ : ClassId} (hcl : Cond.classLink own idx "[[I" ∈ Ts) (harr : Cond.arrayClass .int ∈ Ts) (hAO : ∀ (s : State) (args : Array Value), E s args → zAO s) (h0 : tys[t0]? = some (cI, .int)) (h2 : tys[t2]? = some (cJ, .array .int)) (hc : k + 7 ≤ R.cells) (hs : n + 912 ≤ R.slots) (hdg : decode cc pc = .ok (.multianewarray idx 2, 4)) (hpc : pc + 4 = pc2) (kk : ∀ q : Nat → Nat, Z (k + 7) (n + 912) (ws ++ [rowsW cI cJ q]) lv pc2 (.ref (q 8) :: st)) : Z k n ws lv pc (.int (nI 151) :: .int (nI 6) :: st) := by
  obtain ⟨p, e, s, m, args, below, meth, c, Q, ⟨hx, hb, hml, ho, hts⟩, ⟨hK, hN9⟩, hA, hi, hE, rfl⟩ := O
  subst hpc
  intro H locs ls hP hD hS hl T hT X
  subst hT
  have e6 : (nI 6).toNatClampNeg = 6 := nI_clamp (by decide)
  have e151 : (nI 151).toNatClampNeg = 151 := nI_clamp (by decide)
  obtain ⟨vm₁, cA, comp, hW, hfA, hfC, hO, hI, X1, step⟩ := X.multianewarray2F hx ho (ty := .int) (hts _ hcl) (hAO s args hE) (hts _ harr) (g := F0 m pc ls (.int (nI 151) :: .int (nI 6) :: st)) rfl (by rw [hb]; exact hdg) rfl (nI_pos (by decide)) (nI_pos (by decide)) (by rw [e6]; decide) (by rw [e151]; decide) (by rw [e151]; decide) rfl rfl (by rw [e6]; exact hc) (by rw [e6, e151]; exact hs)
  rw [e6, e151] at X1 step
  obtain rfl : cA = cJ := Option.some.inj (hfA.symm.trans (hK.2 t2 (cJ, .array .int) h2).2)
  obtain rfl : comp = cI := Option.some.inj (hfC.symm.trans (hK.2 t0 (cI, .int) h0).2)
  obtain ⟨f1, f2, f3, f4⟩ := Jvm.Free.Multi.fill_facts (T.setVm vm₁) cA comp 6 151 (defaultValue .int) 6
  have fo := fun (a : Addr) (ha : a < T.heap.size) => Jvm.Free.Multi.fill_old (T.setVm vm₁) cA comp 6 151 (defaultValue .int) (a := a) ha 6
  have fi := fun (j : Nat) (hj : j < 6) => Jvm.Free.Multi.fill_inner (T.setVm vm₁) cA comp 6 151 (defaultValue .int) 6 j hj
  obtain ⟨o1, o2, o3⟩ := Jvm.Free.Multi.outerC_facts cA 6 T.heap.size 6
  have os := fun (j : Nat) (hj : j < 6) => Jvm.Free.Multi.outerC_slot cA 6 T.heap.size 6 j hj
  change (Jvm.Free.Multi.fill (T.setVm vm₁) cA comp 6 151 (defaultValue .int) 6).heap.size = T.heap.size + 1 + 6 at f1
  change (Jvm.Free.Multi.fill (T.setVm vm₁) cA comp 6 151 (defaultValue .int) 6).heap[T.heap.size]? = some (Jvm.Free.Multi.outerC cA 6 T.heap.size 6) at f2
  change ∀ a, a < T.heap.size → (Jvm.Free.Multi.fill (T.setVm vm₁) cA comp 6 151 (defaultValue .int) 6).heap[a]? = T.heap[a]? at fo
  change ∀ j, j < 6 → (Jvm.Free.Multi.fill (T.setVm vm₁) cA comp 6 151 (defaultValue .int) 6).heap[T.heap.size + 1 + j]? = some (Jvm.Free.Multi.innerC comp 151 (defaultValue .int)) at fi
  generalize Jvm.Free.Multi.fill (T.setVm vm₁) cA comp 6 151 (defaultValue .int) 6 = T2 at X1 step f1 f2 fo fi
  obtain ⟨q, hq⟩ : ∃ q : Nat → Nat, q = fun i => if i = 8 then T.heap.size else T.heap.size + 1 + (i - 10) := ⟨_, rfl⟩
  have q8 : q 8 = T.heap.size := by rw [hq]; rfl
  have q10 : ∀ j, j < 6 → q (10 + j) = T.heap.size + 1 + j := fun j hj => by
    rw [hq]
    show (if 10 + j = 8 then _ else T.heap.size + 1 + (10 + j - 10)) = _
    rw [if_neg (by omega)]
    omega
  have houter : Jvm.Free.Multi.outerC cA 6 T.heap.size 6 = vp_cell cA (6, .inr (.inr (.inr (.inr (fun i => if i < 6 then some (q (10 + i)) else none))))) := by
    rw [vp_cell_q]
    have hsl : (Jvm.Free.Multi.outerC cA 6 T.heap.size 6).slots = Array.ofFn (n := 6) fun j => va_rf (if j.val < 6 then some (q (10 + j.val)) else none) := by
      apply Array.ext_getElem?
      intro i
      by_cases hi9 : i < 6
      · rw [os i hi9, if_pos hi9, Array.getElem?_ofFn, dif_pos hi9, if_pos hi9, q10 i hi9]
        rfl
      · rw [Array.getElem?_eq_none (by rw [o3]; omega), Array.getElem?_eq_none (by rw [Array.size_ofFn]; omega)]
    obtain ⟨S9, hS9⟩ := outerC_is cA 6 T.heap.size 6
    rw [hS9] at hsl ⊢
    show ({ cls := cA, slots := S9, vm := .none } : Cell) = { cls := cA, slots := _, vm := .none }
    rw [show S9 = _ from hsl]
  have hinner : Jvm.Free.Multi.innerC comp 151 (defaultValue .int) = vp_cell comp (151, .inl (fun _ => nI 0)) := by
    rw [vp_cell_i]
    show ({ cls := comp, slots := Array.replicate 151 (.int 0), vm := .none } : Cell) = arrV comp 151 (fun _ => .int 0)
    rw [← arrV_new]
  have hadr : ∀ (i : Nat) (x : Nat × va_E), (rowsW comp cA q)[i]? = some x → x.1 = T.heap.size + i := by
    intro i x hx9
    match i, hx9 with
    | 0, h => cases h; exact q8
    | 1, h => cases h; exact (q10 0 (by decide)).trans (by omega)
    | 2, h => cases h; exact (q10 1 (by decide)).trans (by omega)
    | 3, h => cases h; exact (q10 2 (by decide)).trans (by omega)
    | 4, h => cases h; exact (q10 3 (by decide)).trans (by omega)
    | 5, h => cases h; exact (q10 4 (by decide)).trans (by omega)
    | 6, h => cases h; exact (q10 5 (by decide)).trans (by omega)
    | i + 7, h => cases h
  have hrow : ∀ j, j < 6 → va_at D vwCl (q (10 + j), .inl (comp, 151, .inl (fun _ => nI 0))) T2.heap := fun j hj => by
    show T2.heap[q (10 + j)]? = some (vp_cell comp (151, .inl (fun _ => nI 0)))
    rw [q10 j hj, fi j hj, hinner]
  have hPr : va_P D vwCl (rowsW comp cA q) T2.heap := by
    intro i x hx9
    match i, hx9 with
    | 0, h =>
      cases h
      show T2.heap[q 8]? = some (vp_cell cA (6, .inr (.inr (.inr (.inr (fun i => if i < 6 then some (q (10 + i)) else none))))))
      rw [q8, f2, houter]
    | 1, h => cases h; exact hrow 0 (by decide)
    | 2, h => cases h; exact hrow 1 (by decide)
    | 3, h => cases h; exact hrow 2 (by decide)
    | 4, h => cases h; exact hrow 3 (by decide)
    | 5, h => cases h; exact hrow 4 (by decide)
    | 6, h => cases h; exact hrow 5 (by decide)
    | i + 7, h => cases h
  have hge : ∀ (i : Nat) (x : Nat × va_E), (rowsW comp cA q)[i]? = some x → T.heap.size ≤ x.1 := fun i x h => by rw [hadr i x h]; omega
  have hDr : va_D A (rowsW comp cA q) := ⟨fun i j x y h1 h2 hxy => by have := hadr i x h1; have := hadr j y h2; omega, fun i x h => hA _ (Nat.le_trans hS.1 (hge i x h))⟩
  have hold : ∀ (i : Nat) (x : Nat × va_E), ws.flatten[i]? = some x → x.1 < T.heap.size := fun i x h => (hP i x h).lt
  have hP2 : va_P D vwCl (ws ++ [rowsW comp cA q]).flatten T2.heap := by
    rw [zapp1]
    exact (hP.kept (fun i x h => fo _ (hold i x h))).app hPr
  have hD2 : va_D A (ws ++ [rowsW comp cA q]).flatten := by
    rw [zapp1]
    exact hD.app hDr (fun i j x y h1 h2 hxy => by have := hold i x h1; have := hge j y h2; omega)
  obtain ⟨t2, a1, b1⟩ := kk q T2.heap locs ls hP2 hD2 ⟨Nat.le_trans hS.1 (by rw [f1]; omega), fun x h1 h2 => (fo x (Nat.lt_of_lt_of_le h1 hS.1)).trans (hS.2.1 x h1 h2), hS.2.2⟩ hl T2 rfl X1
  refine ⟨t2, step t2 ?_, b1⟩
  rw [← q8]
  exact a1
end
