-- the state of class and of reference: int fields, int arrays by their cells, the array of longs
abbrev St : Type := (Nat → Int32) × (Nat → Nat → Int32) × (Nat → Int64)
def stI (u : St) (k : Nat) (v : Int32) : St := (va_up u.1 k v, u.2)
def stA (u : St) (k i : Nat) (v : Int32) : St := (u.1, va_up u.2.1 k (upd (u.2.1 k) i v), u.2.2)
def stL (u : St) (i : Nat) (v : Int64) : St := (u.1, u.2.1, vp_updL u.2.2 i v)
def bnd {α : Type} {β : Sort _} (a : α) (f : α → β) : β := f a
def bnd2 {α β : Type} {γ : Sort _} (a : α × β) (f : α → β → γ) : γ := f a.1 a.2
theorem bnd_eq {α : Type} {β : Type} {a z : α} {f : α → β} (h : z = a) : bnd a f = f z := by subst h; rfl
theorem bnd_ok {α : Type} {a z : α} {f : α → Prop} (h : z = a) (k : bnd a f) : f z := by subst h; exact k
theorem bnd2_eq {α β γ : Type} {a : α × β} {x : α} {y : β} {f : α → β → γ} (h : (x, y) = a) : bnd2 a f = f x y := by subst h; rfl
theorem bnd2_ok {α β : Type} {a : α × β} {x : α} {y : β} {f : α → β → Prop} (h : (x, y) = a) (k : bnd2 a f) : f x y := by subst h; exact k
def isB (x : Int32) : Prop := x = 0 ∨ x = 1
theorem isB_ite {c : Prop} [Decidable c] {a b : Int32} (ha : isB a) (hb : isB b) : isB (if c then a else b) := by split <;> assumption
theorem isB_n {x : Int32} (h : isB x) : narrow .boolean (.int x) = .int x := by rcases h with rfl | rfl <;> rfl
theorem isB_f {x : Int32} (h : isB x) : fits .boolean (.int x) = true := by rcases h with rfl | rfl <;> rfl
def partsF : Nat → Int32 := fun j => match j with
  | 0 => 4
  | 1 => 0
  | 2 => 1
  | 3 => 2
  | 4 => 14
  | 5 => 8
  | _ => 9
abbrev Ty2 (cI cL : ClassId) : List (ClassId × FieldType) := [(cI, .int), (cL, .long)]
def AQ (n : Nat) (q : Nat → Nat) : Nat → Prop := fun a => ∃ k, k < n ∧ q k = a
def DQ (n : Nat) (q : Nat → Nat) : Prop := ∀ i j, i < n → j < n → q i = q j → i = j
theorem DQ_va {n : Nat} {q : Nat → Nat} {ws : va_W} (h : ws.map (fun x => x.1) = (List.range n).map q) (hq : DQ n q) : va_D (AQ n q) ws := by
  have key : ∀ (i : Nat) (p : Nat × va_E), ws[i]? = some p → i < n ∧ q i = p.1 := by
    intro i p hi
    have h1 : (ws.map (fun x => x.1))[i]? = some p.1 := by rw [List.getElem?_map, hi]; rfl
    rw [h, List.getElem?_map] at h1
    by_cases hn : i < n
    · rw [List.getElem?_range hn] at h1
      exact ⟨hn, Option.some.inj h1⟩
    · rw [List.getElem?_eq_none (by simpa using hn)] at h1
      cases h1
  refine ⟨fun i j x y hi hj hxy => ?_, fun k x hk => ?_⟩
  · obtain ⟨a1, a2⟩ := key i x hi
    obtain ⟨b1, b2⟩ := key j y hj
    exact hq i j a1 b1 (a2.trans (hxy.trans b2.symm))
  · obtain ⟨a1, a2⟩ := key k x hk
    exact ⟨k, a1, a2⟩
def wX (q : Nat → Nat) (cI cL : ClassId) (u : St) : va_W := [(q 0, .inr (6, [.ref (q 1), .ref (q 2), .ref (q 3), .ref (q 4), .ref (q 5), .ref (q 6), .int (u.1 0)])), (q 1, .inr (5, [.int (u.1 1), .ref (q 7), .ref (q 8), .ref (q 9), .ref (q 10), .ref (q 11), .ref (q 12), .ref (q 13)])), (q 2, .inr (3, [.int (u.1 2), .ref (q 14), .ref (q 15), .ref (q 16), .ref (q 17)])), (q 3, .inr (4, [.int (u.1 3), .ref (q 18), .ref (q 19), .ref (q 20), .ref (q 21), .ref (q 22), .ref (q 23)])), (q 4, .inl (cI, 4, .inl (u.2.1 4))), (q 5, .inl (cI, 4, .inl (u.2.1 5))), (q 6, .inl (cI, 6, .inl (u.2.1 6))), (q 7, .inl (cI, 80, .inl (u.2.1 7))), (q 8, .inl (cI, 80, .inl (u.2.1 8))), (q 9, .inl (cI, 80, .inl (u.2.1 9))), (q 10, .inl (cI, 80, .inl (u.2.1 10))), (q 11, .inl (cI, 80, .inl (u.2.1 11))), (q 12, .inl (cI, 480, .inl (u.2.1 12))), (q 13, .inl (cL, 480, .inr (.inl u.2.2))), (q 14, .inl (cI, 40, .inl (u.2.1 14))), (q 15, .inl (cI, 40, .inl (u.2.1 15))), (q 16, .inl (cI, 40, .inl (u.2.1 16))), (q 17, .inl (cI, 40, .inl (u.2.1 17))), (q 18, .inl (cI, 16, .inl (u.2.1 18))), (q 19, .inl (cI, 16, .inl (u.2.1 19))), (q 20, .inl (cI, 16, .inl (u.2.1 20))), (q 21, .inl (cI, 16, .inl (u.2.1 21))), (q 22, .inl (cI, 16, .inl (u.2.1 22))), (q 23, .inl (cI, 16, .inl (u.2.1 23)))]
theorem dX {q : Nat → Nat} {cI cL : ClassId} {u : St} (hq : DQ 24 q) : va_D (AQ 24 q) (wX q cI cL u) := DQ_va rfl hq
def wM (q : Nat → Nat) (cI cL : ClassId) (u : St) : va_W := [(q 0, .inr (7, [.int (u.1 0), .int (u.1 1), .ref (q 1), .ref (q 2), .ref (q 3), .ref (q 4), .ref (q 5), .int (u.1 2), .ref (q 6), .ref (q 7), .ref (q 8), .ref (q 9), .int (u.1 3), .ref (q 10), .ref (q 11), .ref (q 12), .ref (q 13), .ref (q 14), .ref (q 15), .ref (q 16), .ref (q 17), .ref (q 18), .int (u.1 4), .ref (q 19), .ref (q 20), .ref (q 21), .int (u.1 5), .int (u.1 6), .int (u.1 7)])), (q 1, .inl (cI, 80, .inl (u.2.1 1))), (q 2, .inl (cI, 80, .inl (u.2.1 2))), (q 3, .inl (cI, 80, .inl (u.2.1 3))), (q 4, .inl (cL, 480, .inr (.inl u.2.2))), (q 5, .inl (cI, 480, .inl (u.2.1 5))), (q 6, .inl (cI, 40, .inl (u.2.1 6))), (q 7, .inl (cI, 40, .inl (u.2.1 7))), (q 8, .inl (cI, 40, .inl (u.2.1 8))), (q 9, .inl (cI, 40, .inl (u.2.1 9))), (q 10, .inl (cI, 16, .inl (u.2.1 10))), (q 11, .inl (cI, 16, .inl (u.2.1 11))), (q 12, .inl (cI, 16, .inl (u.2.1 12))), (q 13, .inl (cI, 16, .inl (u.2.1 13))), (q 14, .inl (cI, 16, .inl (u.2.1 14))), (q 15, .inl (cI, 16, .inl (u.2.1 15))), (q 16, .inl (cI, 4, .inl (u.2.1 16))), (q 17, .inl (cI, 4, .inl (u.2.1 17))), (q 18, .inl (cI, 7, .inl (u.2.1 18))), (q 19, .inl (cI, 64, .inl (u.2.1 19))), (q 20, .inl (cI, 64, .inl (u.2.1 20))), (q 21, .inl (cI, 64, .inl (u.2.1 21)))]
theorem dM {q : Nat → Nat} {cI cL : ClassId} {u : St} (hq : DQ 22 q) : va_D (AQ 22 q) (wM q cI cL u) := DQ_va rfl hq
-- what the class finds outside its own cells: PARTS, and the links between nest mates
def ZX (tp : Nat) (A : Nat → Prop) (U : State) (H : Heap) : Prop := va_Z "ThingRules" "PARTS" "[I" (.ref tp) A U H ∧ va_T .int tp 7 (fun j => .int (partsF j)) A U H ∧ va_Nw (.methodLinkNest RX2 75 yX3_isHolderKind RX3) U ∧ va_Nw (.fieldLinkNest RX2 78 "ThingRules" "PARTS" "[I" RX3) U
theorem ZX.kept {tp : Nat} {A : Nat → Prop} {U : State} {H H1 : Heap} (h : ZX tp A U H) (hq : ∀ a : Nat, a < H.size → ¬ A a → H1[a]? = H[a]?) : ZX tp A U H1 := ⟨h.1.kept hq, h.2.1.kept hq, h.2.2⟩
theorem ZX.warm {tp : Nat} {A : Nat → Prop} {s U : State} {H : Heap} (hW : s.WarmedH U.vm) (h : ZX tp A s H) : ZX tp A U H := ⟨h.1.moved hW.alike, h.2.1.moved hW.alike, va_Nw.warmM hW h.2.2.1, va_Nw.warmF hW h.2.2.2⟩
def PX (D : va_G) (q : Nat → Nat) (cI cL : ClassId) (tp : Nat) (u : St) (U : State) : Prop := va_P D vwCl (wX q cI cL u) U.heap ∧ va_K D vwCl (Ty2 cI cL) U ∧ ZX tp (AQ 24 q) U U.heap
theorem PX_blind {D : va_G} {q : Nat → Nat} {cI cL : ClassId} {tp : Nat} {u : St} {av : List Value} : FrameBlind (va_Pc av (fun U => PX D q cI cL tp u U)) := fun a U g mk h => ⟨h.1, h.2.1, va_K.moved (u := U) (U := U.calling g mk a) (Vm.Alike.refl U.vm) h.2.2.1, va_Z.moved (u := U) (U := U.calling g mk a) (Vm.Alike.refl U.vm) h.2.2.2.1, va_T.moved (u := U) (U := U.calling g mk a) (Vm.Alike.refl U.vm) h.2.2.2.2.1, va_Nw.same rfl rfl h.2.2.2.2.2.1, va_Nw.same rfl rfl h.2.2.2.2.2.2⟩
theorem PX_fin {D : va_G} {q : Nat → Nat} {cI cL : ClassId} {tp : Nat} {u : St} {s t : State} {H : Heap} {locs : List Loc} (hP : va_P D vwCl (wX q cI cL u) H) (hK : va_K D vwCl (Ty2 cI cL) s) (hZ : ZX tp (AQ 24 q) s s.heap) (hS : va_S (AQ 24 q) s.heap H locs) (ht : t.heap = H) (hW : s.WarmedH t.vm) : PX D q cI cL tp u t := ⟨by rw [ht]; exact hP, va_K.moved hW.alike hK, by rw [ht]; exact (hZ.kept hS.2.1).warm hW⟩
def PM (D : va_G) (q : Nat → Nat) (cI cL : ClassId) (u : St) (U : State) : Prop := va_P D vwCl (wM q cI cL u) U.heap ∧ va_K D vwCl (Ty2 cI cL) U
theorem PM_blind {D : va_G} {q : Nat → Nat} {cI cL : ClassId} {u : St} {av : List Value} : FrameBlind (va_Pc av (fun U => PM D q cI cL u U)) := fun a U g mk h => ⟨h.1, h.2.1, va_K.moved (u := U) (U := U.calling g mk a) (Vm.Alike.refl U.vm) h.2.2⟩
theorem PM_fin {D : va_G} {q : Nat → Nat} {cI cL : ClassId} {u : St} {s t : State} {H : Heap} (hP : va_P D vwCl (wM q cI cL u) H) (hK : va_K D vwCl (Ty2 cI cL) s) (ht : t.heap = H) (hW : s.WarmedH t.vm) : PM D q cI cL u t := ⟨by rw [ht]; exact hP, va_K.moved hW.alike hK⟩
theorem T_blind {av : List Value} : FrameBlind (va_Pc av (fun _ => True)) := fun _ _ _ _ h => h
