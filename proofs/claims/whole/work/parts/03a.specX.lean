def sX_within (p0 : Int32) (p1 : Int32) (p2 : Int32) : Int32 :=
  if p0 < p1 then
    0
  else
    if p2 < p0 then
      0
    else
      1
theorem bX_within (p0 : Int32) (p1 : Int32) (p2 : Int32) : isB (sX_within p0 p1 p2) := (isB_ite (Or.inl rfl) (isB_ite (Or.inl rfl) (Or.inr rfl)))
def sXT_areFull (u : St)  : Int32 :=
  if (u.1 1) < 80 then
    0
  else
    1
theorem bXT_areFull (u : St)  : isB (sXT_areFull u) := (isB_ite (Or.inl rfl) (Or.inr rfl))
def lXT_make_61 : Nat → St → Int32 → Int32 → Int32 → Int32 → Int32 → Int32 × St
  | 0, u, _, _, _, _, _ => (0, u)
  | n + 1, u, p1, p2, p3, x4, x5 =>
    if 6 ≤ x5 then
      bnd (stI u 1 ((u.1 1) + 1)) (fun u7 =>
      (x4, u7))
    else
      bnd (stA u 12 ((x4 * 6) + x5).toNatClampNeg (-5)) (fun u8 =>
      bnd (stL u8 ((x4 * 6) + x5).toNatClampNeg 0) (fun u9 =>
      lXT_make_61 n u9 p1 p2 p3 x4 (x5 + 1)))
def oklXT_make_61 : Nat → St → Int32 → Int32 → Int32 → Int32 → Int32 → Prop
  | 0, _, _, _, _, _, _ => False
  | n + 1, u, p1, p2, p3, x4, x5 => ((6 ≤ x5) → True) ∧ (¬ (6 ≤ x5) → (vp_in ((x4 * 6) + x5) 480) ∧ (bnd (stA u 12 ((x4 * 6) + x5).toNatClampNeg (-5)) (fun u8 => (vp_in ((x4 * 6) + x5) 480) ∧ (bnd (stL u8 ((x4 * 6) + x5).toNatClampNeg 0) (fun u9 => oklXT_make_61 n u9 p1 p2 p3 x4 (x5 + 1))))))
def sXT_make (u : St) (p1 : Int32) (p2 : Int32) (p3 : Int32) : Int32 × St :=
  if (sXT_areFull u) = 0 then
    bnd (u.1 1) (fun y1 =>
    bnd (stA u 7 y1.toNatClampNeg p1) (fun u2 =>
    bnd (stA u2 8 y1.toNatClampNeg p2) (fun u3 =>
    bnd (stA u3 9 y1.toNatClampNeg p3) (fun u4 =>
    bnd (stA u4 10 y1.toNatClampNeg (-5)) (fun u5 =>
    bnd (stA u5 11 y1.toNatClampNeg (-5)) (fun u6 =>
    lXT_make_61 100 u6 p1 p2 p3 y1 0))))))
  else
    ((-4), u)
def okXT_make (u : St) (p1 : Int32) (p2 : Int32) (p3 : Int32) : Prop := (((sXT_areFull u) = 0) → bnd (u.1 1) (fun y1 => (vp_in y1 80) ∧ (bnd (stA u 7 y1.toNatClampNeg p1) (fun u2 => (vp_in y1 80) ∧ (bnd (stA u2 8 y1.toNatClampNeg p2) (fun u3 => (vp_in y1 80) ∧ (bnd (stA u3 9 y1.toNatClampNeg p3) (fun u4 => (vp_in y1 80) ∧ (bnd (stA u4 10 y1.toNatClampNeg (-5)) (fun u5 => (vp_in y1 80) ∧ (bnd (stA u5 11 y1.toNatClampNeg (-5)) (fun u6 => oklXT_make_61 100 u6 p1 p2 p3 y1 0)))))))))))) ∧ (¬ ((sXT_areFull u) = 0) → True)
theorem lXT_make_61_s (n : Nat) (u : St) (p1 : Int32) (p2 : Int32) (p3 : Int32) (x4 : Int32) (x5 : Int32) : lXT_make_61 (n + 1) u p1 p2 p3 x4 x5 = (if 6 ≤ x5 then
      bnd (stI u 1 ((u.1 1) + 1)) (fun u7 =>
      (x4, u7))
    else
      bnd (stA u 12 ((x4 * 6) + x5).toNatClampNeg (-5)) (fun u8 =>
      bnd (stL u8 ((x4 * 6) + x5).toNatClampNeg 0) (fun u9 =>
      lXT_make_61 n u9 p1 p2 p3 x4 (x5 + 1)))) := rfl
theorem oklXT_make_61_s (n : Nat) (u : St) (p1 : Int32) (p2 : Int32) (p3 : Int32) (x4 : Int32) (x5 : Int32) : oklXT_make_61 (n + 1) u p1 p2 p3 x4 x5 ↔ (((6 ≤ x5) → True) ∧ (¬ (6 ≤ x5) → (vp_in ((x4 * 6) + x5) 480) ∧ (bnd (stA u 12 ((x4 * 6) + x5).toNatClampNeg (-5)) (fun u8 => (vp_in ((x4 * 6) + x5) 480) ∧ (bnd (stL u8 ((x4 * 6) + x5).toNatClampNeg 0) (fun u9 => oklXT_make_61 n u9 p1 p2 p3 x4 (x5 + 1))))))) := Iff.rfl
def sX_thing (u : St) (p1 : Int32) (p2 : Int32) : Int32 × St :=
  if (sX_within p1 0 3) = 0 then
    ((-2), u)
  else
    if (sX_within p2 (-999) 999) = 0 then
      ((-2), u)
    else
      (sXT_make u p1 p2 0)
def okX_thing (u : St) (p1 : Int32) (p2 : Int32) : Prop := (((sX_within p1 0 3) = 0) → True) ∧ (¬ ((sX_within p1 0 3) = 0) → (((sX_within p2 (-999) 999) = 0) → True) ∧ (¬ ((sX_within p2 (-999) 999) = 0) → (okXT_make u p1 p2 0) ∧ (True)))
def sX_counted (u : St) (p1 : Int32) : Int32 × St :=
  bnd ((-20) - p1) (fun y1 =>
  if (sX_within y1 1 6) = 0 then
    (p1, u)
  else
    bnd (stA u 6 (y1 - 1).toNatClampNeg ((u.2.1 6 (y1 - 1).toNatClampNeg) + 1)) (fun u2 =>
    (p1, u2)))
def okX_counted (u : St) (p1 : Int32) : Prop := bnd ((-20) - p1) (fun y1 => (((sX_within y1 1 6) = 0) → True) ∧ (¬ ((sX_within y1 1 6) = 0) → (vp_in (y1 - 1) 6) ∧ ((vp_in (y1 - 1) 6) ∧ (True))))
def sX_row (u : St) (p1 : Int32) (p2 : Int32) : Int32 × St :=
  if (sX_within p1 4 13) = 0 then
    ((-2), u)
  else
    if p2 ≤ 6 then
      if (sXT_areFull u) = 0 then
        if 0 ≤ p2 then
          (sXT_make u p1 0 p2)
        else
          bnd2 (sX_counted u (-25)) (fun r2 u2 =>
          (r2, u2))
      else
        ((-4), u)
    else
      ((-2), u)
def okX_row (u : St) (p1 : Int32) (p2 : Int32) : Prop := (((sX_within p1 4 13) = 0) → True) ∧ (¬ ((sX_within p1 4 13) = 0) → ((p2 ≤ 6) → (((sXT_areFull u) = 0) → ((0 ≤ p2) → (okXT_make u p1 0 p2) ∧ (True)) ∧ (¬ (0 ≤ p2) → (okX_counted u (-25)) ∧ (True))) ∧ (¬ ((sXT_areFull u) = 0) → True)) ∧ (¬ (p2 ≤ 6) → True))
def sXT_know (u : St) (p1 : Int32) : Int32 :=
  if p1 < 0 then
    0
  else
    if (u.1 1) ≤ p1 then
      0
    else
      1
theorem bXT_know (u : St) (p1 : Int32) : isB (sXT_know u p1) := (isB_ite (Or.inl rfl) (isB_ite (Or.inl rfl) (Or.inr rfl)))
def sXT_knowOrNone (u : St) (p1 : Int32) : Int32 :=
  if p1 = (-5) then
    1
  else
    if (sXT_know u p1) = 0 then
      0
    else
      1
theorem bXT_knowOrNone (u : St) (p1 : Int32) : isB (sXT_knowOrNone u p1) := (isB_ite (Or.inr rfl) (isB_ite (Or.inl rfl) (Or.inr rfl)))
def sX_isHolderKind (p0 : Int32) : Int32 :=
  (sX_within p0 7 13)
theorem bX_isHolderKind (p0 : Int32) : isB (sX_isHolderKind p0) := (bX_within p0 7 13)
def sXT_formIsOf (p0 : Int32) (p1 : Int32) : Int32 :=
  if p1 = p0 then
    1
  else
    if p1 = 15 then
      1
    else
      if p0 = 1 then
        if p1 = 0 then
          1
        else
          if p1 = 14 then
            1
          else
            0
      else if p0 = 3 then
        if p1 = 14 then
          1
        else
          0
      else if p0 = 9 then
        if p1 = 8 then
          1
        else
          if p1 = 11 then
            1
          else
            0
      else if p0 = 13 then
        if p1 = 12 then
          1
        else
          0
      else 0
theorem bXT_formIsOf (p0 : Int32) (p1 : Int32) : isB (sXT_formIsOf p0 p1) := (isB_ite (Or.inr rfl) (isB_ite (Or.inr rfl) (isB_ite (isB_ite (Or.inr rfl) (isB_ite (Or.inr rfl) (Or.inl rfl))) (isB_ite (isB_ite (Or.inr rfl) (Or.inl rfl)) (isB_ite (isB_ite (Or.inr rfl) (isB_ite (Or.inr rfl) (Or.inl rfl))) (isB_ite (isB_ite (Or.inr rfl) (Or.inl rfl)) (Or.inl rfl)))))))
def sXT_isOf (u : St) (p1 : Int32) (p2 : Int32) : Int32 :=
  if (sXT_know u p1) = 0 then
    0
  else
    if (sXT_formIsOf (u.2.1 7 p1.toNatClampNeg) p2) = 0 then
      0
    else
      1
def okXT_isOf (u : St) (p1 : Int32) (p2 : Int32) : Prop := (((sXT_know u p1) = 0) → True) ∧ (¬ ((sXT_know u p1) = 0) → (vp_in p1 80) ∧ (True))
theorem bXT_isOf (u : St) (p1 : Int32) (p2 : Int32) : isB (sXT_isOf u p1 p2) := (isB_ite (Or.inl rfl) (isB_ite (Or.inl rfl) (Or.inr rfl)))
def sXT_mayBeTaken (u : St) (p1 : Int32) (p2 : Int32) : Int32 :=
  if p1 = (-5) then
    1
  else
    if (sXT_isOf u p1 p2) = 0 then
      0
    else
      1
def okXT_mayBeTaken (u : St) (p1 : Int32) (p2 : Int32) : Prop := ((p1 = (-5)) → True) ∧ (¬ (p1 = (-5)) → (okXT_isOf u p1 p2) ∧ (True))
theorem bXT_mayBeTaken (u : St) (p1 : Int32) (p2 : Int32) : isB (sXT_mayBeTaken u p1 p2) := (isB_ite (Or.inr rfl) (isB_ite (Or.inl rfl) (Or.inr rfl)))
def sXT_partOf (u : St) (p0 : Int32) : Int32 :=
  if (sX_isHolderKind p0) = 0 then
    (-1)
  else
    (partsF (p0 - 7).toNatClampNeg)
def okXT_partOf (u : St) (p0 : Int32) : Prop := (((sX_isHolderKind p0) = 0) → True) ∧ (¬ ((sX_isHolderKind p0) = 0) → (vp_in (p0 - 7) 7) ∧ (True))
def sXT_take (u : St) (p1 : Int32) (p2 : Int32) : Int32 :=
  if p1 = (-5) then
    (-22)
  else
    if (sXT_isOf u p1 p2) = 0 then
      (-21)
    else
      1
def okXT_take (u : St) (p1 : Int32) (p2 : Int32) : Prop := ((p1 = (-5)) → True) ∧ (¬ (p1 = (-5)) → (okXT_isOf u p1 p2) ∧ (True))
def sXT_hasPlace (u : St) (p1 : Int32) (p2 : Int32) : Int32 :=
  if (sXT_know u p1) = 0 then
    0
  else
    if p2 < 0 then
      0
    else
      if (u.2.1 9 p1.toNatClampNeg) ≤ p2 then
        0
      else
        1
def okXT_hasPlace (u : St) (p1 : Int32) (p2 : Int32) : Prop := (((sXT_know u p1) = 0) → True) ∧ (¬ ((sXT_know u p1) = 0) → ((p2 < 0) → True) ∧ (¬ (p2 < 0) → (vp_in p1 80) ∧ (True)))
theorem bXT_hasPlace (u : St) (p1 : Int32) (p2 : Int32) : isB (sXT_hasPlace u p1 p2) := (isB_ite (Or.inl rfl) (isB_ite (Or.inl rfl) (isB_ite (Or.inl rfl) (Or.inr rfl))))
def sXT_reach (u : St) (p1 : Int32) (p2 : Int32) (p3 : Int32) : Int32 :=
  bnd (sXT_take u p1 p2) (fun y1 =>
  if y1 = 1 then
    if (sXT_hasPlace u p1 p3) = 0 then
      (-23)
    else
      1
  else
    y1)
def okXT_reach (u : St) (p1 : Int32) (p2 : Int32) (p3 : Int32) : Prop := (okXT_take u p1 p2) ∧ (bnd (sXT_take u p1 p2) (fun y1 => ((y1 = 1) → (okXT_hasPlace u p1 p3) ∧ (True)) ∧ (¬ (y1 = 1) → True)))
def sXT_layIn (u : St) (p1 : Int32) (p2 : Int32) (p3 : Int32) (p4 : Int32) : Int32 × St :=
  if (sXT_mayBeTaken u p1 p2) = 0 then
    ((-21), u)
  else
    if (sXT_mayBeTaken u p4 (sXT_partOf u p2)) = 0 then
      ((-21), u)
    else
      bnd (sXT_reach u p1 p2 p3) (fun y1 =>
      if y1 = 1 then
        if (sXT_mayBeTaken u p4 (sXT_partOf u (u.2.1 7 p1.toNatClampNeg))) = 0 then
          ((-24), u)
        else
          bnd (stA u 12 ((p1 * 6) + p3).toNatClampNeg p4) (fun u2 =>
          (1, u2))
      else
        (y1, u))
def okXT_layIn (u : St) (p1 : Int32) (p2 : Int32) (p3 : Int32) (p4 : Int32) : Prop := (okXT_mayBeTaken u p1 p2) ∧ ((((sXT_mayBeTaken u p1 p2) = 0) → True) ∧ (¬ ((sXT_mayBeTaken u p1 p2) = 0) → (okXT_partOf u p2) ∧ ((okXT_mayBeTaken u p4 (sXT_partOf u p2)) ∧ ((((sXT_mayBeTaken u p4 (sXT_partOf u p2)) = 0) → True) ∧ (¬ ((sXT_mayBeTaken u p4 (sXT_partOf u p2)) = 0) → (okXT_reach u p1 p2 p3) ∧ (bnd (sXT_reach u p1 p2 p3) (fun y1 => ((y1 = 1) → (vp_in p1 80) ∧ ((okXT_partOf u (u.2.1 7 p1.toNatClampNeg)) ∧ ((okXT_mayBeTaken u p4 (sXT_partOf u (u.2.1 7 p1.toNatClampNeg))) ∧ ((((sXT_mayBeTaken u p4 (sXT_partOf u (u.2.1 7 p1.toNatClampNeg))) = 0) → True) ∧ (¬ ((sXT_mayBeTaken u p4 (sXT_partOf u (u.2.1 7 p1.toNatClampNeg))) = 0) → (vp_in ((p1 * 6) + p3) 480) ∧ (True)))))) ∧ (¬ (y1 = 1) → True))))))))
def sX_lay (u : St) (p1 : Int32) (p2 : Int32) (p3 : Int32) (p4 : Int32) : Int32 × St :=
  if (sXT_know u p1) = 0 then
    ((-1), u)
  else
    if (sXT_knowOrNone u p4) = 0 then
      ((-1), u)
    else
      if (sX_isHolderKind p2) = 0 then
        ((-2), u)
      else
        bnd2 (sXT_layIn u p1 p2 p3 p4) (fun r1 u1 =>
        bnd2 (sX_counted u1 r1) (fun r2 u2 =>
        (r2, u2)))
def okX_lay (u : St) (p1 : Int32) (p2 : Int32) (p3 : Int32) (p4 : Int32) : Prop := (((sXT_know u p1) = 0) → True) ∧ (¬ ((sXT_know u p1) = 0) → (((sXT_knowOrNone u p4) = 0) → True) ∧ (¬ ((sXT_knowOrNone u p4) = 0) → (((sX_isHolderKind p2) = 0) → True) ∧ (¬ ((sX_isHolderKind p2) = 0) → (okXT_layIn u p1 p2 p3 p4) ∧ (bnd2 (sXT_layIn u p1 p2 p3 p4) (fun r1 u1 => (okX_counted u1 r1) ∧ (True))))))
def sX_isSide (p0 : Int32) : Int32 :=
  (sX_within p0 0 1)
theorem bX_isSide (p0 : Int32) : isB (sX_isSide p0) := (bX_within p0 0 1)
def sXT_setHalf (u : St) (p1 : Int32) (p2 : Int32) (p3 : Int32) : Int32 × St :=
  bnd (sXT_take u p1 2) (fun y1 =>
  if y1 = 1 then
    if p2 = 0 then
      bnd (stA u 10 p1.toNatClampNeg p3) (fun u3 =>
      (1, u3))
    else
      bnd (stA u 11 p1.toNatClampNeg p3) (fun u2 =>
      (1, u2))
  else
    (y1, u))
def okXT_setHalf (u : St) (p1 : Int32) (p2 : Int32) (p3 : Int32) : Prop := (okXT_take u p1 2) ∧ (bnd (sXT_take u p1 2) (fun y1 => ((y1 = 1) → ((p2 = 0) → (vp_in p1 80) ∧ (True)) ∧ (¬ (p2 = 0) → (vp_in p1 80) ∧ (True))) ∧ (¬ (y1 = 1) → True)))
def sX_half (u : St) (p1 : Int32) (p2 : Int32) (p3 : Int32) : Int32 × St :=
  if (sXT_know u p1) = 0 then
    ((-1), u)
  else
    if (sXT_knowOrNone u p3) = 0 then
      ((-1), u)
    else
      if (sX_isSide p2) = 0 then
        ((-2), u)
      else
        bnd2 (sXT_setHalf u p1 p2 p3) (fun r1 u1 =>
        bnd2 (sX_counted u1 r1) (fun r2 u2 =>
        (r2, u2)))
def okX_half (u : St) (p1 : Int32) (p2 : Int32) (p3 : Int32) : Prop := (((sXT_know u p1) = 0) → True) ∧ (¬ ((sXT_know u p1) = 0) → (((sXT_knowOrNone u p3) = 0) → True) ∧ (¬ ((sXT_knowOrNone u p3) = 0) → (((sX_isSide p2) = 0) → True) ∧ (¬ ((sX_isSide p2) = 0) → (okXT_setHalf u p1 p2 p3) ∧ (bnd2 (sXT_setHalf u p1 p2 p3) (fun r1 u1 => (okX_counted u1 r1) ∧ (True))))))
def sX_isNumbersKind (p0 : Int32) : Int32 :=
  (sX_within p0 4 6)
theorem bX_isNumbersKind (p0 : Int32) : isB (sX_isNumbersKind p0) := (bX_within p0 4 6)
def sXT_cutTo (p0 : Int32) (p1 : Int64) : Int64 :=
  if p0 = 4 then
    (((p1.toInt32) : Int32).toInt64)
  else if p0 = 6 then
    ((((((p1.toInt32) : Int32).toUInt32 % 65536).toInt32) : Int32).toInt64)
  else p1
def sXT_putNumber (u : St) (p1 : Int32) (p2 : Int32) (p3 : Int32) (p4 : Int64) : Int32 × St :=
  bnd (sXT_reach u p1 p2 p3) (fun y1 =>
  if y1 = 1 then
    bnd (stL u ((p1 * 6) + p3).toNatClampNeg (sXT_cutTo p2 p4)) (fun u2 =>
    (y1, u2))
  else
    (y1, u))
def okXT_putNumber (u : St) (p1 : Int32) (p2 : Int32) (p3 : Int32) (p4 : Int64) : Prop := (okXT_reach u p1 p2 p3) ∧ (bnd (sXT_reach u p1 p2 p3) (fun y1 => ((y1 = 1) → (vp_in ((p1 * 6) + p3) 480) ∧ (True)) ∧ (¬ (y1 = 1) → True)))
def sX_put (u : St) (p1 : Int32) (p2 : Int32) (p3 : Int32) (p4 : Int64) : Int32 × St :=
  if (sXT_know u p1) = 0 then
    ((-1), u)
  else
    if (sX_isNumbersKind p2) = 0 then
      ((-2), u)
    else
      bnd2 (sXT_putNumber u p1 p2 p3 p4) (fun r1 u1 =>
      bnd2 (sX_counted u1 r1) (fun r2 u2 =>
      (r2, u2)))
def okX_put (u : St) (p1 : Int32) (p2 : Int32) (p3 : Int32) (p4 : Int64) : Prop := (((sXT_know u p1) = 0) → True) ∧ (¬ ((sXT_know u p1) = 0) → (((sX_isNumbersKind p2) = 0) → True) ∧ (¬ ((sX_isNumbersKind p2) = 0) → (okXT_putNumber u p1 p2 p3 p4) ∧ (bnd2 (sXT_putNumber u p1 p2 p3 p4) (fun r1 u1 => (okX_counted u1 r1) ∧ (True)))))
def sXT_numberIn (u : St) (p1 : Int32) (p2 : Int32) : Int64 :=
  if (sXT_hasPlace u p1 p2) = 0 then
    0
  else
    (u.2.2 ((p1 * 6) + p2).toNatClampNeg)
def okXT_numberIn (u : St) (p1 : Int32) (p2 : Int32) : Prop := (okXT_hasPlace u p1 p2) ∧ ((((sXT_hasPlace u p1 p2) = 0) → True) ∧ (¬ ((sXT_hasPlace u p1 p2) = 0) → (vp_in ((p1 * 6) + p2) 480) ∧ (True)))
def sXT_heldHalf (u : St) (p1 : Int32) (p2 : Int32) : Int32 :=
  if (sXT_know u p1) = 0 then
    (-5)
  else
    if p2 = 0 then
      (u.2.1 10 p1.toNatClampNeg)
    else
      (u.2.1 11 p1.toNatClampNeg)
def okXT_heldHalf (u : St) (p1 : Int32) (p2 : Int32) : Prop := (((sXT_know u p1) = 0) → True) ∧ (¬ ((sXT_know u p1) = 0) → ((p2 = 0) → (vp_in p1 80) ∧ (True)) ∧ (¬ (p2 = 0) → (vp_in p1 80) ∧ (True)))
def sX_halfOf (u : St) (p1 : Int32) (p2 : Int32) : Int32 × St :=
  if (sXT_isOf u p1 2) = 0 then
    (sX_counted u (-21))
  else
    ((sXT_heldHalf u p1 p2), u)
def okX_halfOf (u : St) (p1 : Int32) (p2 : Int32) : Prop := (okXT_isOf u p1 2) ∧ ((((sXT_isOf u p1 2) = 0) → (okX_counted u (-21)) ∧ (True)) ∧ (¬ ((sXT_isOf u p1 2) = 0) → (okXT_heldHalf u p1 p2) ∧ (True)))
def sXT_heldIn (u : St) (p1 : Int32) (p2 : Int32) : Int32 :=
  if (sXT_hasPlace u p1 p2) = 0 then
    (-5)
  else
    (u.2.1 12 ((p1 * 6) + p2).toNatClampNeg)
def okXT_heldIn (u : St) (p1 : Int32) (p2 : Int32) : Prop := (okXT_hasPlace u p1 p2) ∧ ((((sXT_hasPlace u p1 p2) = 0) → True) ∧ (¬ ((sXT_hasPlace u p1 p2) = 0) → (vp_in ((p1 * 6) + p2) 480) ∧ (True)))
def sX_at (u : St) (p1 : Int32) (p2 : Int32) (p3 : Int32) : Int32 × St :=
  if (sXT_know u p1) = 0 then
    ((-1), u)
  else
    if p2 = 2 then
      if (sX_isSide p3) = 0 then
        ((-2), u)
      else
        bnd2 (sX_halfOf u p1 p3) (fun r2 u2 =>
        (r2, u2))
    else
      if (sX_isHolderKind p2) = 0 then
        ((-2), u)
      else
        bnd2 (sX_counted u (sXT_reach u p1 p2 p3)) (fun r1 u1 =>
        if r1 = 1 then
          ((sXT_heldIn u1 p1 p3), u1)
        else
          (r1, u1))
def okX_at (u : St) (p1 : Int32) (p2 : Int32) (p3 : Int32) : Prop := (((sXT_know u p1) = 0) → True) ∧ (¬ ((sXT_know u p1) = 0) → ((p2 = 2) → (((sX_isSide p3) = 0) → True) ∧ (¬ ((sX_isSide p3) = 0) → (okX_halfOf u p1 p3) ∧ (True))) ∧ (¬ (p2 = 2) → (((sX_isHolderKind p2) = 0) → True) ∧ (¬ ((sX_isHolderKind p2) = 0) → (okXT_reach u p1 p2 p3) ∧ ((okX_counted u (sXT_reach u p1 p2 p3)) ∧ (bnd2 (sX_counted u (sXT_reach u p1 p2 p3)) (fun r1 u1 => ((r1 = 1) → (okXT_heldIn u1 p1 p3) ∧ (True)) ∧ (¬ (r1 = 1) → True)))))))
def sX_is (u : St) (p1 : Int32) (p2 : Int32) : Int32 :=
  if (sXT_know u p1) = 0 then
    (-1)
  else
    if (sX_within p2 0 15) = 0 then
      (-2)
    else
      if (sXT_isOf u p1 p2) = 0 then
        0
      else
        1
def okX_is (u : St) (p1 : Int32) (p2 : Int32) : Prop := (((sXT_know u p1) = 0) → True) ∧ (¬ ((sXT_know u p1) = 0) → (((sX_within p2 0 15) = 0) → True) ∧ (¬ ((sX_within p2 0 15) = 0) → (okXT_isOf u p1 p2) ∧ (True)))
def sX_isSlot (p0 : Int32) : Int32 :=
  (sX_within p0 0 3)
theorem bX_isSlot (p0 : Int32) : isB (sX_isSlot p0) := (bX_within p0 0 3)
def sX_isAsTold (p0 : Int32) (p1 : Int32) : Int32 :=
  if p0 = 0 then
    (sX_within p1 0 15)
  else if p0 = 1 then
    (sX_within p1 0 15)
  else if p0 = 2 then
    (sX_within p0 0 13)
  else if p0 = 3 then
    (sX_within p0 0 13)
  else if p0 = 4 then
    (sX_isHolderKind p1)
  else if p0 = 5 then
    (sX_isHolderKind p1)
  else if p0 = 6 then
    (sX_isNumbersKind p1)
  else if p0 = 7 then
    (sX_within p0 0 13)
  else if p0 = 8 then
    (sX_within p0 0 13)
  else if p0 = 9 then
    (sX_within p0 0 13)
  else if p0 = 10 then
    (sX_isSlot p1)
  else if p0 = 11 then
    (sX_isSlot p1)
  else if p0 = 12 then
    (sX_within p0 0 13)
  else if p0 = 13 then
    (sX_within p1 4 13)
  else (sX_within p0 0 13)
theorem bX_isAsTold (p0 : Int32) (p1 : Int32) : isB (sX_isAsTold p0 p1) := (isB_ite (bX_within p1 0 15) (isB_ite (bX_within p1 0 15) (isB_ite (bX_within p0 0 13) (isB_ite (bX_within p0 0 13) (isB_ite (bX_isHolderKind p1) (isB_ite (bX_isHolderKind p1) (isB_ite (bX_isNumbersKind p1) (isB_ite (bX_within p0 0 13) (isB_ite (bX_within p0 0 13) (isB_ite (bX_within p0 0 13) (isB_ite (bX_isSlot p1) (isB_ite (bX_isSlot p1) (isB_ite (bX_within p0 0 13) (isB_ite (bX_within p1 4 13) (bX_within p0 0 13)))))))))))))))
def sXP_know (u : St) (p1 : Int32) : Int32 :=
  if p1 < 0 then
    0
  else
    if (u.1 2) ≤ p1 then
      0
    else
      1
theorem bXP_know (u : St) (p1 : Int32) : isB (sXP_know u p1) := (isB_ite (Or.inl rfl) (isB_ite (Or.inl rfl) (Or.inr rfl)))
def sX_namesKnownPatterns (u : St) (p1 : Int32) (p2 : Int32) (p3 : Int32) (p4 : Int32) : Int32 :=
  if p1 = 1 then
    (sXP_know u p3)
  else if p1 = 2 then
    1
  else if p1 = 3 then
    if (sXP_know u p2) = 0 then
      0
    else
      if (sXP_know u p3) = 0 then
        0
      else
        1
  else if p1 = 4 then
    (sXP_know u p3)
  else if p1 = 5 then
    (sXP_know u p4)
  else if p1 = 6 then
    1
  else if p1 = 7 then
    if (sXP_know u p2) = 0 then
      0
    else
      if (sXP_know u p3) = 0 then
        0
      else
        1
  else if p1 = 8 then
    if (sXP_know u p2) = 0 then
      0
    else
      if (sXP_know u p3) = 0 then
        0
      else
        1
  else if p1 = 9 then
    (sXP_know u p2)
  else 1
theorem bX_namesKnownPatterns (u : St) (p1 : Int32) (p2 : Int32) (p3 : Int32) (p4 : Int32) : isB (sX_namesKnownPatterns u p1 p2 p3 p4) := (isB_ite (bXP_know u p3) (isB_ite (Or.inr rfl) (isB_ite (isB_ite (Or.inl rfl) (isB_ite (Or.inl rfl) (Or.inr rfl))) (isB_ite (bXP_know u p3) (isB_ite (bXP_know u p4) (isB_ite (Or.inr rfl) (isB_ite (isB_ite (Or.inl rfl) (isB_ite (Or.inl rfl) (Or.inr rfl))) (isB_ite (isB_ite (Or.inl rfl) (isB_ite (Or.inl rfl) (Or.inr rfl))) (isB_ite (bXP_know u p2) (Or.inr rfl))))))))))
def sXP_make (u : St) (p1 : Int32) (p2 : Int32) (p3 : Int32) (p4 : Int32) : Int32 × St :=
  if (u.1 2) < 40 then
    bnd (u.1 2) (fun y1 =>
    bnd (stA u 14 y1.toNatClampNeg p1) (fun u2 =>
    bnd (stA u2 15 y1.toNatClampNeg p2) (fun u3 =>
    bnd (stA u3 16 y1.toNatClampNeg p3) (fun u4 =>
    bnd (stA u4 17 y1.toNatClampNeg p4) (fun u5 =>
    bnd (stI u5 2 ((u5.1 2) + 1)) (fun u6 =>
    (y1, u6)))))))
  else
    ((-4), u)
def okXP_make (u : St) (p1 : Int32) (p2 : Int32) (p3 : Int32) (p4 : Int32) : Prop := (((u.1 2) < 40) → bnd (u.1 2) (fun y1 => (vp_in y1 40) ∧ (bnd (stA u 14 y1.toNatClampNeg p1) (fun u2 => (vp_in y1 40) ∧ (bnd (stA u2 15 y1.toNatClampNeg p2) (fun u3 => (vp_in y1 40) ∧ (bnd (stA u3 16 y1.toNatClampNeg p3) (fun u4 => (vp_in y1 40) ∧ (True))))))))) ∧ (¬ ((u.1 2) < 40) → True)
def sX_pattern (u : St) (p1 : Int32) (p2 : Int32) (p3 : Int32) (p4 : Int32) : Int32 × St :=
  if (sX_isAsTold p1 p2) = 0 then
    ((-2), u)
  else
    if (sX_namesKnownPatterns u p1 p2 p3 p4) = 0 then
      ((-1), u)
    else
      bnd2 (sXP_make u p1 p2 p3 p4) (fun r1 u1 =>
      (r1, u1))
def okX_pattern (u : St) (p1 : Int32) (p2 : Int32) (p3 : Int32) (p4 : Int32) : Prop := (((sX_isAsTold p1 p2) = 0) → True) ∧ (¬ ((sX_isAsTold p1 p2) = 0) → (((sX_namesKnownPatterns u p1 p2 p3 p4) = 0) → True) ∧ (¬ ((sX_namesKnownPatterns u p1 p2 p3 p4) = 0) → (okXP_make u p1 p2 p3 p4) ∧ (True)))
def sX_fitsIf (p0 : Int32) : Int32 :=
  if p0 = 0 then
    0
  else
    1
def sX_lookAtHalves (lk : St → Int32 → Int32 → Int32 × St) (u : St) (p1 : Int32) (p2 : Int32) (p3 : Int32) : Int32 × St :=
  if (sXT_isOf u p1 2) = 0 then
    (0, u)
  else
    bnd2 (lk u p2 (sXT_heldHalf u p1 0)) (fun r1 u1 =>
    if r1 = 1 then
      bnd2 (lk u1 p3 (sXT_heldHalf u1 p1 1)) (fun r2 u2 =>
      (r2, u2))
    else
      (r1, u1))
def okX_lookAtHalves (lk : St → Int32 → Int32 → Int32 × St) (oklk : St → Int32 → Int32 → Prop) (u : St) (p1 : Int32) (p2 : Int32) (p3 : Int32) : Prop := (okXT_isOf u p1 2) ∧ ((((sXT_isOf u p1 2) = 0) → True) ∧ (¬ ((sXT_isOf u p1 2) = 0) → (okXT_heldHalf u p1 0) ∧ ((oklk u p2 (sXT_heldHalf u p1 0)) ∧ (bnd2 (lk u p2 (sXT_heldHalf u p1 0)) (fun r1 u1 => ((r1 = 1) → (okXT_heldHalf u1 p1 1) ∧ ((oklk u1 p3 (sXT_heldHalf u1 p1 1)) ∧ (True))) ∧ (¬ (r1 = 1) → True))))))
def sXT_placesOf (u : St) (p1 : Int32) : Int32 :=
  if (sXT_know u p1) = 0 then
    0
  else
    (u.2.1 9 p1.toNatClampNeg)
def okXT_placesOf (u : St) (p1 : Int32) : Prop := (((sXT_know u p1) = 0) → True) ∧ (¬ ((sXT_know u p1) = 0) → (vp_in p1 80) ∧ (True))
def lX_lookAtEach_30 (lk : St → Int32 → Int32 → Int32 × St) : Nat → St → Int32 → Int32 → Int32 → Int32 → Int32 → Int32 → Int32 × St
  | 0, u, _, _, _, _, _, _ => (0, u)
  | n + 1, u, p1, p2, p3, x4, x5, x6 =>
    if x5 ≤ x6 then
      (x4, u)
    else
      if x4 = 1 then
        bnd2 (lk u p3 (sXT_heldIn u p1 x6)) (fun r2 u2 =>
        lX_lookAtEach_30 lk n u2 p1 p2 p3 r2 x5 (x6 + 1))
      else
        (x4, u)
def oklX_lookAtEach_30 (lk : St → Int32 → Int32 → Int32 × St) (oklk : St → Int32 → Int32 → Prop) : Nat → St → Int32 → Int32 → Int32 → Int32 → Int32 → Int32 → Prop
  | 0, _, _, _, _, _, _, _ => False
  | n + 1, u, p1, p2, p3, x4, x5, x6 => ((x5 ≤ x6) → True) ∧ (¬ (x5 ≤ x6) → ((x4 = 1) → (okXT_heldIn u p1 x6) ∧ ((oklk u p3 (sXT_heldIn u p1 x6)) ∧ (bnd2 (lk u p3 (sXT_heldIn u p1 x6)) (fun r2 u2 => oklX_lookAtEach_30 lk oklk n u2 p1 p2 p3 r2 x5 (x6 + 1))))) ∧ (¬ (x4 = 1) → True))
def sX_lookAtEach (lk : St → Int32 → Int32 → Int32 × St) (u : St) (p1 : Int32) (p2 : Int32) (p3 : Int32) : Int32 × St :=
  if (sXT_isOf u p1 p2) = 0 then
    (0, u)
  else
    bnd (sXT_placesOf u p1) (fun y1 =>
    lX_lookAtEach_30 lk 100 u p1 p2 p3 1 y1 0)
def okX_lookAtEach (lk : St → Int32 → Int32 → Int32 × St) (oklk : St → Int32 → Int32 → Prop) (u : St) (p1 : Int32) (p2 : Int32) (p3 : Int32) : Prop := (okXT_isOf u p1 p2) ∧ ((((sXT_isOf u p1 p2) = 0) → True) ∧ (¬ ((sXT_isOf u p1 p2) = 0) → (okXT_placesOf u p1) ∧ (bnd (sXT_placesOf u p1) (fun y1 => oklX_lookAtEach_30 lk oklk 100 u p1 p2 p3 1 y1 0))))
theorem lX_lookAtEach_30_s (lk : St → Int32 → Int32 → Int32 × St) (n : Nat) (u : St) (p1 : Int32) (p2 : Int32) (p3 : Int32) (x4 : Int32) (x5 : Int32) (x6 : Int32) : lX_lookAtEach_30 lk (n + 1) u p1 p2 p3 x4 x5 x6 = (if x5 ≤ x6 then
      (x4, u)
    else
      if x4 = 1 then
        bnd2 (lk u p3 (sXT_heldIn u p1 x6)) (fun r2 u2 =>
        lX_lookAtEach_30 lk n u2 p1 p2 p3 r2 x5 (x6 + 1))
      else
        (x4, u)) := rfl
theorem oklX_lookAtEach_30_s (lk : St → Int32 → Int32 → Int32 × St) (oklk : St → Int32 → Int32 → Prop) (n : Nat) (u : St) (p1 : Int32) (p2 : Int32) (p3 : Int32) (x4 : Int32) (x5 : Int32) (x6 : Int32) : oklX_lookAtEach_30 lk oklk (n + 1) u p1 p2 p3 x4 x5 x6 ↔ (((x5 ≤ x6) → True) ∧ (¬ (x5 ≤ x6) → ((x4 = 1) → (okXT_heldIn u p1 x6) ∧ ((oklk u p3 (sXT_heldIn u p1 x6)) ∧ (bnd2 (lk u p3 (sXT_heldIn u p1 x6)) (fun r2 u2 => oklX_lookAtEach_30 lk oklk n u2 p1 p2 p3 r2 x5 (x6 + 1))))) ∧ (¬ (x4 = 1) → True))) := Iff.rfl
def sX_lookAtPlace (lk : St → Int32 → Int32 → Int32 × St) (u : St) (p1 : Int32) (p2 : Int32) (p3 : Int32) (p4 : Int32) : Int32 × St :=
  bnd (sXT_reach u p1 p2 p3) (fun y1 =>
  if y1 = 1 then
    bnd2 (lk u p4 (sXT_heldIn u p1 p3)) (fun r2 u2 =>
    (r2, u2))
  else
    (y1, u))
def okX_lookAtPlace (lk : St → Int32 → Int32 → Int32 × St) (oklk : St → Int32 → Int32 → Prop) (u : St) (p1 : Int32) (p2 : Int32) (p3 : Int32) (p4 : Int32) : Prop := (okXT_reach u p1 p2 p3) ∧ (bnd (sXT_reach u p1 p2 p3) (fun y1 => ((y1 = 1) → (okXT_heldIn u p1 p3) ∧ ((oklk u p4 (sXT_heldIn u p1 p3)) ∧ (True))) ∧ (¬ (y1 = 1) → True)))
def sX_lookAtDigit (u : St) (p1 : Int32) (p2 : Int32) (p3 : Int32) (p4 : Int32) : Int32 :=
  bnd (sXT_reach u p1 p2 p3) (fun y1 =>
  if y1 = 1 then
    if (lg_cmp (sXT_numberIn u p1 p3) ((p4 : Int32).toInt64)) = 0 then
      (sX_fitsIf 1)
    else
      (sX_fitsIf 0)
  else
    y1)
def okX_lookAtDigit (u : St) (p1 : Int32) (p2 : Int32) (p3 : Int32) (p4 : Int32) : Prop := (okXT_reach u p1 p2 p3) ∧ (bnd (sXT_reach u p1 p2 p3) (fun y1 => ((y1 = 1) → (okXT_numberIn u p1 p3) ∧ (True)) ∧ (¬ (y1 = 1) → True)))
def sX_lookWithBoth (lk : St → Int32 → Int32 → Int32 × St) (u : St) (p1 : Int32) (p2 : Int32) (p3 : Int32) : Int32 × St :=
  bnd2 (lk u p2 p1) (fun r1 u1 =>
  if r1 = 1 then
    bnd2 (lk u1 p3 p1) (fun r2 u2 =>
    (r2, u2))
  else
    (r1, u1))
def okX_lookWithBoth (lk : St → Int32 → Int32 → Int32 × St) (oklk : St → Int32 → Int32 → Prop) (u : St) (p1 : Int32) (p2 : Int32) (p3 : Int32) : Prop := (oklk u p2 p1) ∧ (bnd2 (lk u p2 p1) (fun r1 u1 => ((r1 = 1) → (oklk u1 p3 p1) ∧ (True)) ∧ (¬ (r1 = 1) → True)))
def sX_lookWithEither (lk : St → Int32 → Int32 → Int32 × St) (u : St) (p1 : Int32) (p2 : Int32) (p3 : Int32) : Int32 × St :=
  bnd2 (lk u p2 p1) (fun r1 u1 =>
  if r1 = 0 then
    bnd2 (lk u1 p3 p1) (fun r2 u2 =>
    (r2, u2))
  else
    (r1, u1))
def okX_lookWithEither (lk : St → Int32 → Int32 → Int32 × St) (oklk : St → Int32 → Int32 → Prop) (u : St) (p1 : Int32) (p2 : Int32) (p3 : Int32) : Prop := (oklk u p2 p1) ∧ (bnd2 (lk u p2 p1) (fun r1 u1 => ((r1 = 0) → (oklk u1 p3 p1) ∧ (True)) ∧ (¬ (r1 = 0) → True)))
def sX_turnedRound (p0 : Int32) : Int32 :=
  if p0 = 0 then
    1
  else if p0 = 1 then
    0
  else p0
def sX_keep (u : St) (p1 : Int32) (p2 : Int32) : Int32 × St :=
  if (sX_isSlot p2) = 0 then
    (0, u)
  else
    bnd (stA u 4 p2.toNatClampNeg p1) (fun u1 =>
    (1, u1))
def okX_keep (u : St) (p1 : Int32) (p2 : Int32) : Prop := (((sX_isSlot p2) = 0) → True) ∧ (¬ ((sX_isSlot p2) = 0) → (vp_in p2 4) ∧ (True))
def sXT_tellingOf (u : St) (p1 : Int32) : Int32 :=
  if (sXT_know u p1) = 0 then
    0
  else
    if (u.2.1 7 p1.toNatClampNeg) = 1 then
      ((2 * (u.2.1 8 p1.toNatClampNeg)) + 1)
    else
      (u.2.1 8 p1.toNatClampNeg)
def okXT_tellingOf (u : St) (p1 : Int32) : Prop := (((sXT_know u p1) = 0) → True) ∧ (¬ ((sXT_know u p1) = 0) → (vp_in p1 80) ∧ ((((u.2.1 7 p1.toNatClampNeg) = 1) → (vp_in p1 80) ∧ (True)) ∧ (¬ ((u.2.1 7 p1.toNatClampNeg) = 1) → (vp_in p1 80) ∧ (True))))
def sX_lookAtTold (u : St) (p1 : Int32) (p2 : Int32) : Int32 :=
  bnd (sXT_take u p1 14) (fun y1 =>
  if y1 = 1 then
    if (sXT_tellingOf u p1) = p2 then
      (sX_fitsIf 1)
    else
      (sX_fitsIf 0)
  else
    y1)
def okX_lookAtTold (u : St) (p1 : Int32) (p2 : Int32) : Prop := (okXT_take u p1 14) ∧ (bnd (sXT_take u p1 14) (fun y1 => ((y1 = 1) → (okXT_tellingOf u p1) ∧ (True)) ∧ (¬ (y1 = 1) → True)))
def sX_lookAtLength (u : St) (p1 : Int32) (p2 : Int32) (p3 : Int32) : Int32 :=
  bnd (sXT_take u p1 p2) (fun y1 =>
  if y1 = 1 then
    if (sXT_placesOf u p1) = p3 then
      (sX_fitsIf 1)
    else
      (sX_fitsIf 0)
  else
    y1)
def okX_lookAtLength (u : St) (p1 : Int32) (p2 : Int32) (p3 : Int32) : Prop := (okXT_take u p1 p2) ∧ (bnd (sXT_take u p1 p2) (fun y1 => ((y1 = 1) → (okXT_placesOf u p1) ∧ (True)) ∧ (¬ (y1 = 1) → True)))
def sX_look (lk : St → Int32 → Int32 → Int32 × St) (u : St) (p1 : Int32) (p2 : Int32) : Int32 × St :=
  if (u.1 0) < 300 then
    bnd (stI u 0 ((u.1 0) + 1)) (fun u1 =>
    if (sXP_know u1 p1) = 0 then
      (0, u1)
    else
      bnd (u1.2.1 15 p1.toNatClampNeg) (fun y2 =>
      bnd (u1.2.1 16 p1.toNatClampNeg) (fun y3 =>
      bnd (u1.2.1 17 p1.toNatClampNeg) (fun y4 =>
      if (u1.2.1 14 p1.toNatClampNeg) = 0 then
        ((sX_fitsIf (sXT_isOf u1 p2 y2)), u1)
      else if (u1.2.1 14 p1.toNatClampNeg) = 1 then
        if (sXT_mayBeTaken u1 p2 y2) = 0 then
          ((-21), u1)
        else
          bnd2 (lk u1 y3 p2) (fun r5 u5 =>
          (r5, u5))
      else if (u1.2.1 14 p1.toNatClampNeg) = 2 then
        if p2 = (-5) then
          ((sX_fitsIf 1), u1)
        else
          ((sX_fitsIf 0), u1)
      else if (u1.2.1 14 p1.toNatClampNeg) = 3 then
        (sX_lookAtHalves lk u1 p2 y2 y3)
      else if (u1.2.1 14 p1.toNatClampNeg) = 4 then
        (sX_lookAtEach lk u1 p2 y2 y3)
      else if (u1.2.1 14 p1.toNatClampNeg) = 5 then
        (sX_lookAtPlace lk u1 p2 y2 y3 y4)
      else if (u1.2.1 14 p1.toNatClampNeg) = 6 then
        ((sX_lookAtDigit u1 p2 y2 y3 y4), u1)
      else if (u1.2.1 14 p1.toNatClampNeg) = 7 then
        (sX_lookWithBoth lk u1 p2 y2 y3)
      else if (u1.2.1 14 p1.toNatClampNeg) = 8 then
        (sX_lookWithEither lk u1 p2 y2 y3)
      else if (u1.2.1 14 p1.toNatClampNeg) = 9 then
        bnd2 (lk u1 y2 p2) (fun r11 u11 =>
        ((sX_turnedRound r11), u11))
      else if (u1.2.1 14 p1.toNatClampNeg) = 10 then
        (sX_keep u1 p2 y2)
      else if (u1.2.1 14 p1.toNatClampNeg) = 11 then
        if (sX_isSlot y2) = 0 then
          ((sX_fitsIf 0), u1)
        else
          if (u1.2.1 4 y2.toNatClampNeg) = p2 then
            ((sX_fitsIf 1), u1)
          else
            ((sX_fitsIf 0), u1)
      else if (u1.2.1 14 p1.toNatClampNeg) = 12 then
        ((sX_lookAtTold u1 p2 y2), u1)
      else if (u1.2.1 14 p1.toNatClampNeg) = 13 then
        ((sX_lookAtLength u1 p2 y2 y3), u1)
      else (0, u1)))))
  else
    ((-26), u)
def okX_look (lk : St → Int32 → Int32 → Int32 × St) (oklk : St → Int32 → Int32 → Prop) (u : St) (p1 : Int32) (p2 : Int32) : Prop := (((u.1 0) < 300) → bnd (stI u 0 ((u.1 0) + 1)) (fun u1 => (((sXP_know u1 p1) = 0) → True) ∧ (¬ ((sXP_know u1 p1) = 0) → (vp_in p1 40) ∧ (bnd (u1.2.1 15 p1.toNatClampNeg) (fun y2 => (vp_in p1 40) ∧ (bnd (u1.2.1 16 p1.toNatClampNeg) (fun y3 => (vp_in p1 40) ∧ (bnd (u1.2.1 17 p1.toNatClampNeg) (fun y4 => (vp_in p1 40) ∧ ((((u1.2.1 14 p1.toNatClampNeg) = 0) → (okXT_isOf u1 p2 y2) ∧ (True)) ∧ (¬ ((u1.2.1 14 p1.toNatClampNeg) = 0) → (((u1.2.1 14 p1.toNatClampNeg) = 1) → (okXT_mayBeTaken u1 p2 y2) ∧ ((((sXT_mayBeTaken u1 p2 y2) = 0) → True) ∧ (¬ ((sXT_mayBeTaken u1 p2 y2) = 0) → (oklk u1 y3 p2) ∧ (True)))) ∧ (¬ ((u1.2.1 14 p1.toNatClampNeg) = 1) → (((u1.2.1 14 p1.toNatClampNeg) = 2) → True) ∧ (¬ ((u1.2.1 14 p1.toNatClampNeg) = 2) → (((u1.2.1 14 p1.toNatClampNeg) = 3) → (okX_lookAtHalves lk oklk u1 p2 y2 y3) ∧ (True)) ∧ (¬ ((u1.2.1 14 p1.toNatClampNeg) = 3) → (((u1.2.1 14 p1.toNatClampNeg) = 4) → (okX_lookAtEach lk oklk u1 p2 y2 y3) ∧ (True)) ∧ (¬ ((u1.2.1 14 p1.toNatClampNeg) = 4) → (((u1.2.1 14 p1.toNatClampNeg) = 5) → (okX_lookAtPlace lk oklk u1 p2 y2 y3 y4) ∧ (True)) ∧ (¬ ((u1.2.1 14 p1.toNatClampNeg) = 5) → (((u1.2.1 14 p1.toNatClampNeg) = 6) → (okX_lookAtDigit u1 p2 y2 y3 y4) ∧ (True)) ∧ (¬ ((u1.2.1 14 p1.toNatClampNeg) = 6) → (((u1.2.1 14 p1.toNatClampNeg) = 7) → (okX_lookWithBoth lk oklk u1 p2 y2 y3) ∧ (True)) ∧ (¬ ((u1.2.1 14 p1.toNatClampNeg) = 7) → (((u1.2.1 14 p1.toNatClampNeg) = 8) → (okX_lookWithEither lk oklk u1 p2 y2 y3) ∧ (True)) ∧ (¬ ((u1.2.1 14 p1.toNatClampNeg) = 8) → (((u1.2.1 14 p1.toNatClampNeg) = 9) → (oklk u1 y2 p2) ∧ (True)) ∧ (¬ ((u1.2.1 14 p1.toNatClampNeg) = 9) → (((u1.2.1 14 p1.toNatClampNeg) = 10) → (okX_keep u1 p2 y2) ∧ (True)) ∧ (¬ ((u1.2.1 14 p1.toNatClampNeg) = 10) → (((u1.2.1 14 p1.toNatClampNeg) = 11) → (((sX_isSlot y2) = 0) → True) ∧ (¬ ((sX_isSlot y2) = 0) → (vp_in y2 4) ∧ (True))) ∧ (¬ ((u1.2.1 14 p1.toNatClampNeg) = 11) → (((u1.2.1 14 p1.toNatClampNeg) = 12) → (okX_lookAtTold u1 p2 y2) ∧ (True)) ∧ (¬ ((u1.2.1 14 p1.toNatClampNeg) = 12) → (((u1.2.1 14 p1.toNatClampNeg) = 13) → (okX_lookAtLength u1 p2 y2 y3) ∧ (True)) ∧ (¬ ((u1.2.1 14 p1.toNatClampNeg) = 13) → True)))))))))))))))))))))))) ∧ (¬ ((u.1 0) < 300) → True)
def lookX : Nat → St → Int32 → Int32 → Int32 × St
  | 0, u, _, _ => (0, u)
  | n + 1, u, p, it => sX_look (lookX n) u p it
def oklookX : Nat → St → Int32 → Int32 → Prop
  | 0, _, _, _ => False
  | n + 1, u, p, it => okX_look (lookX n) (oklookX n) u p it
theorem lookX_s (n : Nat) (u : St) (p it : Int32) : lookX (n + 1) u p it = sX_look (lookX n) u p it := rfl
theorem oklookX_s (n : Nat) (u : St) (p it : Int32) : oklookX (n + 1) u p it = okX_look (lookX n) (oklookX n) u p it := rfl
def lX_matched_49 : Nat → St → Int32 → Int32 → Int32 → Int32 → Int32 × St
  | 0, u, _, _, _, _ => (0, u)
  | n + 1, u, p1, p2, x3, x4 =>
    if 4 ≤ x4 then
      (x3, u)
    else
      bnd (stA u 4 x4.toNatClampNeg (u.2.1 5 x4.toNatClampNeg)) (fun u4 =>
      lX_matched_49 n u4 p1 p2 x3 (x4 + 1))
def oklX_matched_49 : Nat → St → Int32 → Int32 → Int32 → Int32 → Prop
  | 0, _, _, _, _, _ => False
  | n + 1, u, p1, p2, x3, x4 => ((4 ≤ x4) → True) ∧ (¬ (4 ≤ x4) → (vp_in x4 4) ∧ ((vp_in x4 4) ∧ (bnd (stA u 4 x4.toNatClampNeg (u.2.1 5 x4.toNatClampNeg)) (fun u4 => oklX_matched_49 n u4 p1 p2 x3 (x4 + 1)))))
def lX_matched_7 : Nat → St → Int32 → Int32 → Int32 → Int32 × St
  | 0, u, _, _, _ => (0, u)
  | n + 1, u, p1, p2, x3 =>
    if 4 ≤ x3 then
      bnd2 (lookX 41 u p1 p2) (fun r2 u2 =>
      bnd2 (sX_counted u2 r2) (fun r3 u3 =>
      if r3 = 1 then
        (r3, u3)
      else
        lX_matched_49 100 u3 p1 p2 r3 0))
    else
      bnd (stA u 5 x3.toNatClampNeg (u.2.1 4 x3.toNatClampNeg)) (fun u5 =>
      lX_matched_7 n u5 p1 p2 (x3 + 1))
def oklX_matched_7 : Nat → St → Int32 → Int32 → Int32 → Prop
  | 0, _, _, _, _ => False
  | n + 1, u, p1, p2, x3 => ((4 ≤ x3) → (oklookX 41 u p1 p2) ∧ (bnd2 (lookX 41 u p1 p2) (fun r2 u2 => (okX_counted u2 r2) ∧ (bnd2 (sX_counted u2 r2) (fun r3 u3 => ((r3 = 1) → True) ∧ (¬ (r3 = 1) → oklX_matched_49 100 u3 p1 p2 r3 0)))))) ∧ (¬ (4 ≤ x3) → (vp_in x3 4) ∧ ((vp_in x3 4) ∧ (bnd (stA u 5 x3.toNatClampNeg (u.2.1 4 x3.toNatClampNeg)) (fun u5 => oklX_matched_7 n u5 p1 p2 (x3 + 1)))))
def sX_matched (u : St) (p1 : Int32) (p2 : Int32) : Int32 × St :=
  bnd (stI u 0 0) (fun u1 =>
  lX_matched_7 100 u1 p1 p2 0)
def okX_matched (u : St) (p1 : Int32) (p2 : Int32) : Prop := bnd (stI u 0 0) (fun u1 => oklX_matched_7 100 u1 p1 p2 0)
theorem lX_matched_49_s (n : Nat) (u : St) (p1 : Int32) (p2 : Int32) (x3 : Int32) (x4 : Int32) : lX_matched_49 (n + 1) u p1 p2 x3 x4 = (if 4 ≤ x4 then
      (x3, u)
    else
      bnd (stA u 4 x4.toNatClampNeg (u.2.1 5 x4.toNatClampNeg)) (fun u4 =>
      lX_matched_49 n u4 p1 p2 x3 (x4 + 1))) := rfl
theorem oklX_matched_49_s (n : Nat) (u : St) (p1 : Int32) (p2 : Int32) (x3 : Int32) (x4 : Int32) : oklX_matched_49 (n + 1) u p1 p2 x3 x4 ↔ (((4 ≤ x4) → True) ∧ (¬ (4 ≤ x4) → (vp_in x4 4) ∧ ((vp_in x4 4) ∧ (bnd (stA u 4 x4.toNatClampNeg (u.2.1 5 x4.toNatClampNeg)) (fun u4 => oklX_matched_49 n u4 p1 p2 x3 (x4 + 1)))))) := Iff.rfl
theorem lX_matched_7_s (n : Nat) (u : St) (p1 : Int32) (p2 : Int32) (x3 : Int32) : lX_matched_7 (n + 1) u p1 p2 x3 = (if 4 ≤ x3 then
      bnd2 (lookX 41 u p1 p2) (fun r2 u2 =>
      bnd2 (sX_counted u2 r2) (fun r3 u3 =>
      if r3 = 1 then
        (r3, u3)
      else
        lX_matched_49 100 u3 p1 p2 r3 0))
    else
      bnd (stA u 5 x3.toNatClampNeg (u.2.1 4 x3.toNatClampNeg)) (fun u5 =>
      lX_matched_7 n u5 p1 p2 (x3 + 1))) := rfl
theorem oklX_matched_7_s (n : Nat) (u : St) (p1 : Int32) (p2 : Int32) (x3 : Int32) : oklX_matched_7 (n + 1) u p1 p2 x3 ↔ (((4 ≤ x3) → (oklookX 41 u p1 p2) ∧ (bnd2 (lookX 41 u p1 p2) (fun r2 u2 => (okX_counted u2 r2) ∧ (bnd2 (sX_counted u2 r2) (fun r3 u3 => ((r3 = 1) → True) ∧ (¬ (r3 = 1) → oklX_matched_49 100 u3 p1 p2 r3 0)))))) ∧ (¬ (4 ≤ x3) → (vp_in x3 4) ∧ ((vp_in x3 4) ∧ (bnd (stA u 5 x3.toNatClampNeg (u.2.1 4 x3.toNatClampNeg)) (fun u5 => oklX_matched_7 n u5 p1 p2 (x3 + 1)))))) := Iff.rfl
def sX_match (u : St) (p1 : Int32) (p2 : Int32) : Int32 × St :=
  if (sXP_know u p1) = 0 then
    ((-1), u)
  else
    if (sXT_knowOrNone u p2) = 0 then
      ((-1), u)
    else
      (sX_matched u p1 p2)
def okX_match (u : St) (p1 : Int32) (p2 : Int32) : Prop := (((sXP_know u p1) = 0) → True) ∧ (¬ ((sXP_know u p1) = 0) → (((sXT_knowOrNone u p2) = 0) → True) ∧ (¬ ((sXT_knowOrNone u p2) = 0) → (okX_matched u p1 p2) ∧ (True)))
def sX_slot (u : St) (p1 : Int32) : Int32 :=
  if (sX_isSlot p1) = 0 then
    (-2)
  else
    (u.2.1 4 p1.toNatClampNeg)
def okX_slot (u : St) (p1 : Int32) : Prop := (((sX_isSlot p1) = 0) → True) ∧ (¬ ((sX_isSlot p1) = 0) → (vp_in p1 4) ∧ (True))
def sXR_make (u : St) (p1 : Int32) (p2 : Int32) (p3 : Int32) (p4 : Int32) : Int32 × St :=
  if (u.1 3) < 16 then
    bnd (u.1 3) (fun y1 =>
    bnd (stA u 18 y1.toNatClampNeg p1) (fun u2 =>
    bnd (stA u2 19 y1.toNatClampNeg p2) (fun u3 =>
    bnd (stA u3 20 y1.toNatClampNeg p3) (fun u4 =>
    bnd (stA u4 21 y1.toNatClampNeg p4) (fun u5 =>
    bnd (stA u5 22 y1.toNatClampNeg 0) (fun u6 =>
    bnd (stA u6 23 y1.toNatClampNeg 0) (fun u7 =>
    bnd (stI u7 3 ((u7.1 3) + 1)) (fun u8 =>
    (y1, u8)))))))))
  else
    ((-4), u)
def okXR_make (u : St) (p1 : Int32) (p2 : Int32) (p3 : Int32) (p4 : Int32) : Prop := (((u.1 3) < 16) → bnd (u.1 3) (fun y1 => (vp_in y1 16) ∧ (bnd (stA u 18 y1.toNatClampNeg p1) (fun u2 => (vp_in y1 16) ∧ (bnd (stA u2 19 y1.toNatClampNeg p2) (fun u3 => (vp_in y1 16) ∧ (bnd (stA u3 20 y1.toNatClampNeg p3) (fun u4 => (vp_in y1 16) ∧ (bnd (stA u4 21 y1.toNatClampNeg p4) (fun u5 => (vp_in y1 16) ∧ (bnd (stA u5 22 y1.toNatClampNeg 0) (fun u6 => (vp_in y1 16) ∧ (True))))))))))))) ∧ (¬ ((u.1 3) < 16) → True)
def sX_rule (u : St) (p1 : Int32) (p2 : Int32) (p3 : Int32) (p4 : Int32) : Int32 × St :=
  if (sXP_know u p1) = 0 then
    ((-1), u)
  else
    if (sX_within p2 0 5) = 0 then
      ((-2), u)
    else
      if p2 = 1 then
        if (sX_isHolderKind p3) = 0 then
          ((-2), u)
        else
          (sXR_make u p1 p2 p3 p4)
      else
        (sXR_make u p1 p2 p3 p4)
def okX_rule (u : St) (p1 : Int32) (p2 : Int32) (p3 : Int32) (p4 : Int32) : Prop := (((sXP_know u p1) = 0) → True) ∧ (¬ ((sXP_know u p1) = 0) → (((sX_within p2 0 5) = 0) → True) ∧ (¬ ((sX_within p2 0 5) = 0) → ((p2 = 1) → (((sX_isHolderKind p3) = 0) → True) ∧ (¬ ((sX_isHolderKind p3) = 0) → (okXR_make u p1 p2 p3 p4) ∧ (True))) ∧ (¬ (p2 = 1) → (okXR_make u p1 p2 p3 p4) ∧ (True))))
def sX_turnSlots (u : St)  : Int32 × St :=
  bnd (u.2.1 4 (0 : Int32).toNatClampNeg) (fun y1 =>
  bnd (stA u 4 (0 : Int32).toNatClampNeg (u.2.1 4 (1 : Int32).toNatClampNeg)) (fun u2 =>
  bnd (stA u2 4 (1 : Int32).toNatClampNeg y1) (fun u3 =>
  (1, u3))))
def okX_turnSlots (u : St)  : Prop := (vp_in 0 4) ∧ (bnd (u.2.1 4 (0 : Int32).toNatClampNeg) (fun y1 => (vp_in 1 4) ∧ ((vp_in 0 4) ∧ (bnd (stA u 4 (0 : Int32).toNatClampNeg (u.2.1 4 (1 : Int32).toNatClampNeg)) (fun u2 => (vp_in 1 4) ∧ (True))))))
def sX_doAct (u : St) (p1 : Int32) (p2 : Int32) (p3 : Int32) : Int32 × St :=
  if p1 = 1 then
    (sXT_layIn u (u.2.1 4 (0 : Int32).toNatClampNeg) p2 p3 (u.2.1 4 (1 : Int32).toNatClampNeg))
  else if p1 = 2 then
    (sXT_setHalf u (u.2.1 4 (0 : Int32).toNatClampNeg) 0 (u.2.1 4 (1 : Int32).toNatClampNeg))
  else if p1 = 3 then
    (sXT_setHalf u (u.2.1 4 (0 : Int32).toNatClampNeg) 1 (u.2.1 4 (1 : Int32).toNatClampNeg))
  else if p1 = 4 then
    (sX_turnSlots u)
  else if p1 = 5 then
    (sXT_putNumber u (u.2.1 4 (0 : Int32).toNatClampNeg) 4 p3 ((sXT_numberIn u (u.2.1 4 (0 : Int32).toNatClampNeg) p3) + 1))
  else (1, u)
def okX_doAct (u : St) (p1 : Int32) (p2 : Int32) (p3 : Int32) : Prop := ((p1 = 1) → (vp_in 0 4) ∧ ((vp_in 1 4) ∧ ((okXT_layIn u (u.2.1 4 (0 : Int32).toNatClampNeg) p2 p3 (u.2.1 4 (1 : Int32).toNatClampNeg)) ∧ (True)))) ∧ (¬ (p1 = 1) → ((p1 = 2) → (vp_in 0 4) ∧ ((vp_in 1 4) ∧ ((okXT_setHalf u (u.2.1 4 (0 : Int32).toNatClampNeg) 0 (u.2.1 4 (1 : Int32).toNatClampNeg)) ∧ (True)))) ∧ (¬ (p1 = 2) → ((p1 = 3) → (vp_in 0 4) ∧ ((vp_in 1 4) ∧ ((okXT_setHalf u (u.2.1 4 (0 : Int32).toNatClampNeg) 1 (u.2.1 4 (1 : Int32).toNatClampNeg)) ∧ (True)))) ∧ (¬ (p1 = 3) → ((p1 = 4) → (okX_turnSlots u) ∧ (True)) ∧ (¬ (p1 = 4) → ((p1 = 5) → (vp_in 0 4) ∧ ((vp_in 0 4) ∧ ((okXT_numberIn u (u.2.1 4 (0 : Int32).toNatClampNeg) p3) ∧ ((okXT_putNumber u (u.2.1 4 (0 : Int32).toNatClampNeg) 4 p3 ((sXT_numberIn u (u.2.1 4 (0 : Int32).toNatClampNeg) p3) + 1)) ∧ (True))))) ∧ (¬ (p1 = 5) → True)))))
def lX_apply_15 : Nat → St → Int32 → Int32 → Int32 × St
  | 0, u, _, _ => (0, u)
  | n + 1, u, p1, x2 =>
    if (u.1 3) ≤ x2 then
      ((-5), u)
    else
      bnd2 (sX_matched u (u.2.1 18 x2.toNatClampNeg) p1) (fun r1 u1 =>
      if r1 = 1 then
        bnd (stA u1 22 x2.toNatClampNeg ((u1.2.1 22 x2.toNatClampNeg) + 1)) (fun u3 =>
        bnd2 (sX_doAct u3 (u3.2.1 19 x2.toNatClampNeg) (u3.2.1 20 x2.toNatClampNeg) (u3.2.1 21 x2.toNatClampNeg)) (fun r4 u4 =>
        bnd2 (sX_counted u4 r4) (fun r5 u5 =>
        if r5 = 1 then
          (x2, u5)
        else
          (r5, u5))))
      else
        if r1 = 0 then
          lX_apply_15 n u1 p1 (x2 + 1)
        else
          bnd (stA u1 23 x2.toNatClampNeg ((u1.2.1 23 x2.toNatClampNeg) + 1)) (fun u2 =>
          lX_apply_15 n u2 p1 (x2 + 1)))
def oklX_apply_15 : Nat → St → Int32 → Int32 → Prop
  | 0, _, _, _ => False
  | n + 1, u, p1, x2 => (((u.1 3) ≤ x2) → True) ∧ (¬ ((u.1 3) ≤ x2) → (vp_in x2 16) ∧ ((okX_matched u (u.2.1 18 x2.toNatClampNeg) p1) ∧ (bnd2 (sX_matched u (u.2.1 18 x2.toNatClampNeg) p1) (fun r1 u1 => ((r1 = 1) → (vp_in x2 16) ∧ ((vp_in x2 16) ∧ (bnd (stA u1 22 x2.toNatClampNeg ((u1.2.1 22 x2.toNatClampNeg) + 1)) (fun u3 => (vp_in x2 16) ∧ ((vp_in x2 16) ∧ ((vp_in x2 16) ∧ ((okX_doAct u3 (u3.2.1 19 x2.toNatClampNeg) (u3.2.1 20 x2.toNatClampNeg) (u3.2.1 21 x2.toNatClampNeg)) ∧ (bnd2 (sX_doAct u3 (u3.2.1 19 x2.toNatClampNeg) (u3.2.1 20 x2.toNatClampNeg) (u3.2.1 21 x2.toNatClampNeg)) (fun r4 u4 => (okX_counted u4 r4) ∧ (True)))))))))) ∧ (¬ (r1 = 1) → ((r1 = 0) → oklX_apply_15 n u1 p1 (x2 + 1)) ∧ (¬ (r1 = 0) → (vp_in x2 16) ∧ ((vp_in x2 16) ∧ (bnd (stA u1 23 x2.toNatClampNeg ((u1.2.1 23 x2.toNatClampNeg) + 1)) (fun u2 => oklX_apply_15 n u2 p1 (x2 + 1))))))))))
def sX_apply (u : St) (p1 : Int32) : Int32 × St :=
  if (sXT_know u p1) = 0 then
    ((-1), u)
  else
    lX_apply_15 100 u p1 0
def okX_apply (u : St) (p1 : Int32) : Prop := (((sXT_know u p1) = 0) → True) ∧ (¬ ((sXT_know u p1) = 0) → oklX_apply_15 100 u p1 0)
theorem lX_apply_15_s (n : Nat) (u : St) (p1 : Int32) (x2 : Int32) : lX_apply_15 (n + 1) u p1 x2 = (if (u.1 3) ≤ x2 then
      ((-5), u)
    else
      bnd2 (sX_matched u (u.2.1 18 x2.toNatClampNeg) p1) (fun r1 u1 =>
      if r1 = 1 then
        bnd (stA u1 22 x2.toNatClampNeg ((u1.2.1 22 x2.toNatClampNeg) + 1)) (fun u3 =>
        bnd2 (sX_doAct u3 (u3.2.1 19 x2.toNatClampNeg) (u3.2.1 20 x2.toNatClampNeg) (u3.2.1 21 x2.toNatClampNeg)) (fun r4 u4 =>
        bnd2 (sX_counted u4 r4) (fun r5 u5 =>
        if r5 = 1 then
          (x2, u5)
        else
          (r5, u5))))
      else
        if r1 = 0 then
          lX_apply_15 n u1 p1 (x2 + 1)
        else
          bnd (stA u1 23 x2.toNatClampNeg ((u1.2.1 23 x2.toNatClampNeg) + 1)) (fun u2 =>
          lX_apply_15 n u2 p1 (x2 + 1)))) := rfl
theorem oklX_apply_15_s (n : Nat) (u : St) (p1 : Int32) (x2 : Int32) : oklX_apply_15 (n + 1) u p1 x2 ↔ ((((u.1 3) ≤ x2) → True) ∧ (¬ ((u.1 3) ≤ x2) → (vp_in x2 16) ∧ ((okX_matched u (u.2.1 18 x2.toNatClampNeg) p1) ∧ (bnd2 (sX_matched u (u.2.1 18 x2.toNatClampNeg) p1) (fun r1 u1 => ((r1 = 1) → (vp_in x2 16) ∧ ((vp_in x2 16) ∧ (bnd (stA u1 22 x2.toNatClampNeg ((u1.2.1 22 x2.toNatClampNeg) + 1)) (fun u3 => (vp_in x2 16) ∧ ((vp_in x2 16) ∧ ((vp_in x2 16) ∧ ((okX_doAct u3 (u3.2.1 19 x2.toNatClampNeg) (u3.2.1 20 x2.toNatClampNeg) (u3.2.1 21 x2.toNatClampNeg)) ∧ (bnd2 (sX_doAct u3 (u3.2.1 19 x2.toNatClampNeg) (u3.2.1 20 x2.toNatClampNeg) (u3.2.1 21 x2.toNatClampNeg)) (fun r4 u4 => (okX_counted u4 r4) ∧ (True)))))))))) ∧ (¬ (r1 = 1) → ((r1 = 0) → oklX_apply_15 n u1 p1 (x2 + 1)) ∧ (¬ (r1 = 0) → (vp_in x2 16) ∧ ((vp_in x2 16) ∧ (bnd (stA u1 23 x2.toNatClampNeg ((u1.2.1 23 x2.toNatClampNeg) + 1)) (fun u2 => oklX_apply_15 n u2 p1 (x2 + 1))))))))))) := Iff.rfl
def sXR_know (u : St) (p1 : Int32) : Int32 :=
  if p1 < 0 then
    0
  else
    if (u.1 3) ≤ p1 then
      0
    else
      1
theorem bXR_know (u : St) (p1 : Int32) : isB (sXR_know u p1) := (isB_ite (Or.inl rfl) (isB_ite (Or.inl rfl) (Or.inr rfl)))
def sX_told (u : St) (p1 : Int32) (p2 : Int32) : Int32 :=
  if (sXR_know u p1) = 0 then
    (-1)
  else
    if p2 = 0 then
      (u.2.1 22 p1.toNatClampNeg)
    else if p2 = 1 then
      (u.2.1 23 p1.toNatClampNeg)
    else (-2)
def okX_told (u : St) (p1 : Int32) (p2 : Int32) : Prop := (((sXR_know u p1) = 0) → True) ∧ (¬ ((sXR_know u p1) = 0) → ((p2 = 0) → (vp_in p1 16) ∧ (True)) ∧ (¬ (p2 = 0) → ((p2 = 1) → (vp_in p1 16) ∧ (True)) ∧ (¬ (p2 = 1) → True)))
def sX_count (u : St) (p1 : Int32) : Int32 :=
  if p1 = 0 then
    (u.1 1)
  else if p1 = 1 then
    (u.1 2)
  else if p1 = 2 then
    (u.1 3)
  else if p1 = 3 then
    (u.1 0)
  else if (sX_within p1 4 9) = 0 then
    (-2)
  else
    (u.2.1 6 (p1 - 4).toNatClampNeg)
def okX_count (u : St) (p1 : Int32) : Prop := ((p1 = 0) → True) ∧ (¬ (p1 = 0) → ((p1 = 1) → True) ∧ (¬ (p1 = 1) → ((p1 = 2) → True) ∧ (¬ (p1 = 2) → ((p1 = 3) → True) ∧ (¬ (p1 = 3) → (((sX_within p1 4 9) = 0) → True) ∧ (¬ ((sX_within p1 4 9) = 0) → (vp_in (p1 - 4) 6) ∧ (True))))))
def lX_forgetTraces_23 : Nat → St → Int32 → St
  | 0, u, _ => u
  | n + 1, u, x1 =>
    if 6 ≤ x1 then
      bnd (stI u 0 0) (fun u1 =>
      u1)
    else
      bnd (stA u 6 x1.toNatClampNeg 0) (fun u2 =>
      lX_forgetTraces_23 n u2 (x1 + 1))
def oklX_forgetTraces_23 : Nat → St → Int32 → Prop
  | 0, _, _ => False
  | n + 1, u, x1 => ((6 ≤ x1) → True) ∧ (¬ (6 ≤ x1) → (vp_in x1 6) ∧ (bnd (stA u 6 x1.toNatClampNeg 0) (fun u2 => oklX_forgetTraces_23 n u2 (x1 + 1))))
def lX_forgetTraces_2 : Nat → St → Int32 → St
  | 0, u, _ => u
  | n + 1, u, x1 =>
    if 4 ≤ x1 then
      lX_forgetTraces_23 100 u 0
    else
      bnd (stA u 4 x1.toNatClampNeg (-5)) (fun u3 =>
      lX_forgetTraces_2 n u3 (x1 + 1))
def oklX_forgetTraces_2 : Nat → St → Int32 → Prop
  | 0, _, _ => False
  | n + 1, u, x1 => ((4 ≤ x1) → oklX_forgetTraces_23 100 u 0) ∧ (¬ (4 ≤ x1) → (vp_in x1 4) ∧ (bnd (stA u 4 x1.toNatClampNeg (-5)) (fun u3 => oklX_forgetTraces_2 n u3 (x1 + 1))))
def sX_forgetTraces (u : St)  : St :=
  lX_forgetTraces_2 100 u 0
def okX_forgetTraces (u : St)  : Prop := oklX_forgetTraces_2 100 u 0
theorem lX_forgetTraces_23_s (n : Nat) (u : St)  (x1 : Int32) : lX_forgetTraces_23 (n + 1) u x1 = (if 6 ≤ x1 then
      bnd (stI u 0 0) (fun u1 =>
      u1)
    else
      bnd (stA u 6 x1.toNatClampNeg 0) (fun u2 =>
      lX_forgetTraces_23 n u2 (x1 + 1))) := rfl
theorem oklX_forgetTraces_23_s (n : Nat) (u : St)  (x1 : Int32) : oklX_forgetTraces_23 (n + 1) u x1 ↔ (((6 ≤ x1) → True) ∧ (¬ (6 ≤ x1) → (vp_in x1 6) ∧ (bnd (stA u 6 x1.toNatClampNeg 0) (fun u2 => oklX_forgetTraces_23 n u2 (x1 + 1))))) := Iff.rfl
theorem lX_forgetTraces_2_s (n : Nat) (u : St)  (x1 : Int32) : lX_forgetTraces_2 (n + 1) u x1 = (if 4 ≤ x1 then
      lX_forgetTraces_23 100 u 0
    else
      bnd (stA u 4 x1.toNatClampNeg (-5)) (fun u3 =>
      lX_forgetTraces_2 n u3 (x1 + 1))) := rfl
theorem oklX_forgetTraces_2_s (n : Nat) (u : St)  (x1 : Int32) : oklX_forgetTraces_2 (n + 1) u x1 ↔ (((4 ≤ x1) → oklX_forgetTraces_23 100 u 0) ∧ (¬ (4 ≤ x1) → (vp_in x1 4) ∧ (bnd (stA u 4 x1.toNatClampNeg (-5)) (fun u3 => oklX_forgetTraces_2 n u3 (x1 + 1))))) := Iff.rfl
def sX_clear (u : St)  : Int32 × St :=
  bnd (u.1 1) (fun y1 =>
  bnd (stI u 1 0) (fun u2 =>
  bnd (stI u2 2 0) (fun u3 =>
  bnd (stI u3 3 0) (fun u4 =>
  bnd (sX_forgetTraces u4) (fun u5 =>
  (y1, u5))))))
def okX_clear (u : St)  : Prop := bnd (u.1 1) (fun y1 => bnd (stI u 1 0) (fun u2 => bnd (stI u2 2 0) (fun u3 => bnd (stI u3 3 0) (fun u4 => (okX_forgetTraces u4) ∧ (True)))))
def rmL (d : Nat) : Room := { frames := 2 * d + 12, cells := 0, slots := 0, locals := 60 * d + 400 }
