def sM_thrown (u : St)  : Int32 :=
  (u.1 0)
def sM_in (p0 : Int32) (p1 : Int32) (p2 : Int32) : Int32 :=
  if p0 < p1 then
    0
  else
    if p2 < p0 then
      0
    else
      1
theorem bM_in (p0 : Int32) (p1 : Int32) (p2 : Int32) : isB (sM_in p0 p1 p2) := (isB_ite (Or.inl rfl) (isB_ite (Or.inl rfl) (Or.inr rfl)))
def sM_isThing (u : St) (p1 : Int32) : Int32 :=
  (sM_in p1 0 ((u.1 1) - 1))
theorem bM_isThing (u : St) (p1 : Int32) : isB (sM_isThing u p1) := (bM_in p1 0 ((u.1 1) - 1))
def sM_isThingOrNone (u : St) (p1 : Int32) : Int32 :=
  if p1 = (-5) then
    1
  else
    if (sM_isThing u p1) = 0 then
      0
    else
      1
theorem bM_isThingOrNone (u : St) (p1 : Int32) : isB (sM_isThingOrNone u p1) := (isB_ite (Or.inr rfl) (isB_ite (Or.inl rfl) (Or.inr rfl)))
def sM_finds (u : St) (p1 : Int32) : Int32 × St :=
  bnd (stA u 18 ((-20) - p1).toNatClampNeg ((u.2.1 18 ((-20) - p1).toNatClampNeg) + 1)) (fun u1 =>
  (p1, u1))
def okM_finds (u : St) (p1 : Int32) : Prop := (vp_in ((-20) - p1) 7) ∧ ((vp_in ((-20) - p1) 7) ∧ (True))
def sM_isOf (p0 : Int32) (p1 : Int32) : Int32 :=
  if p1 = 0 then
    if p0 = 0 then
      1
    else
      if p0 = 1 then
        1
      else
        0
  else if p1 = 1 then
    if p0 = p1 then
      1
    else
      0
  else if p1 = 2 then
    if p0 = p1 then
      1
    else
      0
  else if p1 = 3 then
    if p0 = p1 then
      1
    else
      0
  else if p1 = 4 then
    if p0 = p1 then
      1
    else
      0
  else if p1 = 5 then
    if p0 = p1 then
      1
    else
      0
  else if p1 = 6 then
    if p0 = p1 then
      1
    else
      0
  else if p1 = 7 then
    if p0 = p1 then
      1
    else
      0
  else if p1 = 8 then
    if p0 = 8 then
      1
    else
      if p0 = 9 then
        1
      else
        0
  else if p1 = 9 then
    if p0 = p1 then
      1
    else
      0
  else if p1 = 10 then
    if p0 = p1 then
      1
    else
      0
  else if p1 = 11 then
    if p0 = 11 then
      1
    else
      if p0 = 9 then
        1
      else
        0
  else if p1 = 12 then
    if p0 = 12 then
      1
    else
      if p0 = 13 then
        1
      else
        0
  else if p1 = 13 then
    if p0 = p1 then
      1
    else
      0
  else if p1 = 14 then
    if p0 = 1 then
      1
    else
      if p0 = 3 then
        1
      else
        0
  else if p1 = 15 then
    1
  else if p0 = p1 then
    1
  else
    0
theorem bM_isOf (p0 : Int32) (p1 : Int32) : isB (sM_isOf p0 p1) := (isB_ite (isB_ite (Or.inr rfl) (isB_ite (Or.inr rfl) (Or.inl rfl))) (isB_ite (isB_ite (Or.inr rfl) (Or.inl rfl)) (isB_ite (isB_ite (Or.inr rfl) (Or.inl rfl)) (isB_ite (isB_ite (Or.inr rfl) (Or.inl rfl)) (isB_ite (isB_ite (Or.inr rfl) (Or.inl rfl)) (isB_ite (isB_ite (Or.inr rfl) (Or.inl rfl)) (isB_ite (isB_ite (Or.inr rfl) (Or.inl rfl)) (isB_ite (isB_ite (Or.inr rfl) (Or.inl rfl)) (isB_ite (isB_ite (Or.inr rfl) (isB_ite (Or.inr rfl) (Or.inl rfl))) (isB_ite (isB_ite (Or.inr rfl) (Or.inl rfl)) (isB_ite (isB_ite (Or.inr rfl) (Or.inl rfl)) (isB_ite (isB_ite (Or.inr rfl) (isB_ite (Or.inr rfl) (Or.inl rfl))) (isB_ite (isB_ite (Or.inr rfl) (isB_ite (Or.inr rfl) (Or.inl rfl))) (isB_ite (isB_ite (Or.inr rfl) (Or.inl rfl)) (isB_ite (isB_ite (Or.inr rfl) (isB_ite (Or.inr rfl) (Or.inl rfl))) (isB_ite (Or.inr rfl) (isB_ite (Or.inr rfl) (Or.inl rfl))))))))))))))))))
def sM_isA (u : St) (p1 : Int32) (p2 : Int32) : Int32 :=
  if p1 < 0 then
    0
  else
    if (sM_isOf (u.2.1 1 p1.toNatClampNeg) p2) = 0 then
      0
    else
      1
def okM_isA (u : St) (p1 : Int32) (p2 : Int32) : Prop := ((p1 < 0) → True) ∧ (¬ (p1 < 0) → (vp_in p1 80) ∧ (True))
theorem bM_isA (u : St) (p1 : Int32) (p2 : Int32) : isB (sM_isA u p1 p2) := (isB_ite (Or.inl rfl) (isB_ite (Or.inl rfl) (Or.inr rfl)))
def sM_passes (u : St) (p1 : Int32) (p2 : Int32) : Int32 :=
  if p1 < 0 then
    1
  else
    if (sM_isOf (u.2.1 1 p1.toNatClampNeg) p2) = 0 then
      0
    else
      1
def okM_passes (u : St) (p1 : Int32) (p2 : Int32) : Prop := ((p1 < 0) → True) ∧ (¬ (p1 < 0) → (vp_in p1 80) ∧ (True))
theorem bM_passes (u : St) (p1 : Int32) (p2 : Int32) : isB (sM_passes u p1 p2) := (isB_ite (Or.inr rfl) (isB_ite (Or.inl rfl) (Or.inr rfl)))
def sM_of (p0 : Int32) : Int32 :=
  if p0 = 7 then
    4
  else
    if p0 = 8 then
      0
    else
      if p0 = 9 then
        1
      else
        if p0 = 10 then
          2
        else
          if p0 = 11 then
            14
          else
            if p0 = 12 then
              8
            else
              9
def lM_make_39 : Nat → St → Int32 → Int32 → Int32 → Int32 → Int32 × St
  | 0, u, _, _, _, _ => (0, u)
  | n + 1, u, p1, p2, p3, x4 =>
    if ((6 * (u.1 1)) + 6) ≤ x4 then
      bnd (stI u 1 ((u.1 1) + 1)) (fun u5 =>
      (((u5.1 1) - 1), u5))
    else
      bnd (stL u x4.toNatClampNeg 0) (fun u6 =>
      bnd (stA u6 5 x4.toNatClampNeg (-5)) (fun u7 =>
      lM_make_39 n u7 p1 p2 p3 (x4 + 1)))
def oklM_make_39 : Nat → St → Int32 → Int32 → Int32 → Int32 → Prop
  | 0, _, _, _, _, _ => False
  | n + 1, u, p1, p2, p3, x4 => ((((6 * (u.1 1)) + 6) ≤ x4) → True) ∧ (¬ (((6 * (u.1 1)) + 6) ≤ x4) → (vp_in x4 480) ∧ (bnd (stL u x4.toNatClampNeg 0) (fun u6 => (vp_in x4 480) ∧ (bnd (stA u6 5 x4.toNatClampNeg (-5)) (fun u7 => oklM_make_39 n u7 p1 p2 p3 (x4 + 1))))))
def sM_make (u : St) (p1 : Int32) (p2 : Int32) (p3 : Int32) : Int32 × St :=
  bnd (stA u 1 (u.1 1).toNatClampNeg p1) (fun u1 =>
  bnd (stA u1 2 (u1.1 1).toNatClampNeg p2) (fun u2 =>
  bnd (stA u2 3 (u2.1 1).toNatClampNeg p3) (fun u3 =>
  bnd (6 * (u3.1 1)) (fun y4 =>
  lM_make_39 100 u3 p1 p2 p3 y4))))
def okM_make (u : St) (p1 : Int32) (p2 : Int32) (p3 : Int32) : Prop := (vp_in (u.1 1) 80) ∧ (bnd (stA u 1 (u.1 1).toNatClampNeg p1) (fun u1 => (vp_in (u1.1 1) 80) ∧ (bnd (stA u1 2 (u1.1 1).toNatClampNeg p2) (fun u2 => (vp_in (u2.1 1) 80) ∧ (bnd (stA u2 3 (u2.1 1).toNatClampNeg p3) (fun u3 => bnd (6 * (u3.1 1)) (fun y4 => oklM_make_39 100 u3 p1 p2 p3 y4)))))))
theorem lM_make_39_s (n : Nat) (u : St) (p1 : Int32) (p2 : Int32) (p3 : Int32) (x4 : Int32) : lM_make_39 (n + 1) u p1 p2 p3 x4 = (if ((6 * (u.1 1)) + 6) ≤ x4 then
      bnd (stI u 1 ((u.1 1) + 1)) (fun u5 =>
      (((u5.1 1) - 1), u5))
    else
      bnd (stL u x4.toNatClampNeg 0) (fun u6 =>
      bnd (stA u6 5 x4.toNatClampNeg (-5)) (fun u7 =>
      lM_make_39 n u7 p1 p2 p3 (x4 + 1)))) := rfl
theorem oklM_make_39_s (n : Nat) (u : St) (p1 : Int32) (p2 : Int32) (p3 : Int32) (x4 : Int32) : oklM_make_39 (n + 1) u p1 p2 p3 x4 ↔ (((((6 * (u.1 1)) + 6) ≤ x4) → True) ∧ (¬ (((6 * (u.1 1)) + 6) ≤ x4) → (vp_in x4 480) ∧ (bnd (stL u x4.toNatClampNeg 0) (fun u6 => (vp_in x4 480) ∧ (bnd (stA u6 5 x4.toNatClampNeg (-5)) (fun u7 => oklM_make_39 n u7 p1 p2 p3 (x4 + 1))))))) := Iff.rfl
def sM_thing (u : St) (p1 : Int32) (p2 : Int32) : Int32 × St :=
  bnd (stI u 0 0) (fun u1 =>
  if (sM_in p1 0 3) = 0 then
    ((-2), u1)
  else
    if (sM_in p2 (-999) 999) = 0 then
      ((-2), u1)
    else
      if (u1.1 1) = 80 then
        ((-4), u1)
      else
        if p1 = 2 then
          (sM_make u1 p1 p2 2)
        else
          (sM_make u1 p1 p2 0))
def okM_thing (u : St) (p1 : Int32) (p2 : Int32) : Prop := bnd (stI u 0 0) (fun u1 => (((sM_in p1 0 3) = 0) → True) ∧ (¬ ((sM_in p1 0 3) = 0) → (((sM_in p2 (-999) 999) = 0) → True) ∧ (¬ ((sM_in p2 (-999) 999) = 0) → (((u1.1 1) = 80) → True) ∧ (¬ ((u1.1 1) = 80) → ((p1 = 2) → (okM_make u1 p1 p2 2) ∧ (True)) ∧ (¬ (p1 = 2) → (okM_make u1 p1 p2 0) ∧ (True))))))
def sM_row (u : St) (p1 : Int32) (p2 : Int32) : Int32 × St :=
  bnd (stI u 0 0) (fun u1 =>
  if (sM_in p1 4 13) = 0 then
    ((-2), u1)
  else
    if p2 ≤ 6 then
      if (u1.1 1) = 80 then
        ((-4), u1)
      else
        if 0 ≤ p2 then
          (sM_make u1 p1 0 p2)
        else
          bnd2 (sM_finds u1 (-25)) (fun r3 u3 =>
          (r3, u3))
    else
      ((-2), u1))
def okM_row (u : St) (p1 : Int32) (p2 : Int32) : Prop := bnd (stI u 0 0) (fun u1 => (((sM_in p1 4 13) = 0) → True) ∧ (¬ ((sM_in p1 4 13) = 0) → ((p2 ≤ 6) → (((u1.1 1) = 80) → True) ∧ (¬ ((u1.1 1) = 80) → ((0 ≤ p2) → (okM_make u1 p1 0 p2) ∧ (True)) ∧ (¬ (0 ≤ p2) → (okM_finds u1 (-25)) ∧ (True)))) ∧ (¬ (p2 ≤ 6) → True)))
def sM_lays (u : St) (p1 : Int32) (p2 : Int32) (p3 : Int32) (p4 : Int32) : Int32 × St :=
  if (sM_passes u p1 p2) = 0 then
    (sM_finds u (-21))
  else
    if (sM_passes u p4 (sM_of p2)) = 0 then
      (sM_finds u (-21))
    else
      if 0 ≤ p1 then
        if (sM_in p3 0 ((u.2.1 3 p1.toNatClampNeg) - 1)) = 0 then
          (sM_finds u (-23))
        else
          if (sM_passes u p4 (sM_of (u.2.1 1 p1.toNatClampNeg))) = 0 then
            (sM_finds u (-24))
          else
            bnd (stA u 5 ((6 * p1) + p3).toNatClampNeg p4) (fun u2 =>
            (1, u2))
      else
        (sM_finds u (-22))
def okM_lays (u : St) (p1 : Int32) (p2 : Int32) (p3 : Int32) (p4 : Int32) : Prop := (okM_passes u p1 p2) ∧ ((((sM_passes u p1 p2) = 0) → (okM_finds u (-21)) ∧ (True)) ∧ (¬ ((sM_passes u p1 p2) = 0) → (okM_passes u p4 (sM_of p2)) ∧ ((((sM_passes u p4 (sM_of p2)) = 0) → (okM_finds u (-21)) ∧ (True)) ∧ (¬ ((sM_passes u p4 (sM_of p2)) = 0) → ((0 ≤ p1) → (vp_in p1 80) ∧ ((((sM_in p3 0 ((u.2.1 3 p1.toNatClampNeg) - 1)) = 0) → (okM_finds u (-23)) ∧ (True)) ∧ (¬ ((sM_in p3 0 ((u.2.1 3 p1.toNatClampNeg) - 1)) = 0) → (vp_in p1 80) ∧ ((okM_passes u p4 (sM_of (u.2.1 1 p1.toNatClampNeg))) ∧ ((((sM_passes u p4 (sM_of (u.2.1 1 p1.toNatClampNeg))) = 0) → (okM_finds u (-24)) ∧ (True)) ∧ (¬ ((sM_passes u p4 (sM_of (u.2.1 1 p1.toNatClampNeg))) = 0) → (vp_in ((6 * p1) + p3) 480) ∧ (True))))))) ∧ (¬ (0 ≤ p1) → (okM_finds u (-22)) ∧ (True))))))
def sM_lay (u : St) (p1 : Int32) (p2 : Int32) (p3 : Int32) (p4 : Int32) : Int32 × St :=
  bnd (stI u 0 0) (fun u1 =>
  if (sM_isThing u1 p1) = 0 then
    ((-1), u1)
  else
    if (sM_isThingOrNone u1 p4) = 0 then
      ((-1), u1)
    else
      if (sM_in p2 7 13) = 0 then
        ((-2), u1)
      else
        bnd2 (sM_lays u1 p1 p2 p3 p4) (fun r2 u2 =>
        (r2, u2)))
def okM_lay (u : St) (p1 : Int32) (p2 : Int32) (p3 : Int32) (p4 : Int32) : Prop := bnd (stI u 0 0) (fun u1 => (((sM_isThing u1 p1) = 0) → True) ∧ (¬ ((sM_isThing u1 p1) = 0) → (((sM_isThingOrNone u1 p4) = 0) → True) ∧ (¬ ((sM_isThingOrNone u1 p4) = 0) → (((sM_in p2 7 13) = 0) → True) ∧ (¬ ((sM_in p2 7 13) = 0) → (okM_lays u1 p1 p2 p3 p4) ∧ (True)))))
def sM_halves (u : St) (p1 : Int32) (p2 : Int32) (p3 : Int32) : Int32 × St :=
  if (sM_passes u p1 2) = 0 then
    (sM_finds u (-21))
  else
    if 0 ≤ p1 then
      bnd (stA u 5 ((6 * p1) + p2).toNatClampNeg p3) (fun u1 =>
      (1, u1))
    else
      (sM_finds u (-22))
def okM_halves (u : St) (p1 : Int32) (p2 : Int32) (p3 : Int32) : Prop := (okM_passes u p1 2) ∧ ((((sM_passes u p1 2) = 0) → (okM_finds u (-21)) ∧ (True)) ∧ (¬ ((sM_passes u p1 2) = 0) → ((0 ≤ p1) → (vp_in ((6 * p1) + p2) 480) ∧ (True)) ∧ (¬ (0 ≤ p1) → (okM_finds u (-22)) ∧ (True))))
def sM_half (u : St) (p1 : Int32) (p2 : Int32) (p3 : Int32) : Int32 × St :=
  bnd (stI u 0 0) (fun u1 =>
  if (sM_isThing u1 p1) = 0 then
    ((-1), u1)
  else
    if (sM_isThingOrNone u1 p3) = 0 then
      ((-1), u1)
    else
      if (sM_in p2 0 1) = 0 then
        ((-2), u1)
      else
        (sM_halves u1 p1 p2 p3))
def okM_half (u : St) (p1 : Int32) (p2 : Int32) (p3 : Int32) : Prop := bnd (stI u 0 0) (fun u1 => (((sM_isThing u1 p1) = 0) → True) ∧ (¬ ((sM_isThing u1 p1) = 0) → (((sM_isThingOrNone u1 p3) = 0) → True) ∧ (¬ ((sM_isThingOrNone u1 p3) = 0) → (((sM_in p2 0 1) = 0) → True) ∧ (¬ ((sM_in p2 0 1) = 0) → (okM_halves u1 p1 p2 p3) ∧ (True)))))
def sM_put (u : St) (p1 : Int32) (p2 : Int32) (p3 : Int32) (p4 : Int64) : Int32 × St :=
  bnd (stI u 0 0) (fun u1 =>
  if (sM_isThing u1 p1) = 0 then
    ((-1), u1)
  else
    if (sM_in p2 4 6) = 0 then
      ((-2), u1)
    else
      if (sM_isA u1 p1 p2) = 0 then
        (sM_finds u1 (-21))
      else
        if (sM_in p3 0 ((u1.2.1 3 p1.toNatClampNeg) - 1)) = 0 then
          (sM_finds u1 (-23))
        else
          if p2 = 4 then
            bnd (stL u1 ((6 * p1) + p3).toNatClampNeg (((p4.toInt32) : Int32).toInt64)) (fun u4 =>
            (1, u4))
          else
            if p2 = 5 then
              bnd (stL u1 ((6 * p1) + p3).toNatClampNeg p4) (fun u3 =>
              (1, u3))
            else
              bnd (stL u1 ((6 * p1) + p3).toNatClampNeg (p4 &&& 65535)) (fun u2 =>
              (1, u2)))
def okM_put (u : St) (p1 : Int32) (p2 : Int32) (p3 : Int32) (p4 : Int64) : Prop := bnd (stI u 0 0) (fun u1 => (((sM_isThing u1 p1) = 0) → True) ∧ (¬ ((sM_isThing u1 p1) = 0) → (((sM_in p2 4 6) = 0) → True) ∧ (¬ ((sM_in p2 4 6) = 0) → (okM_isA u1 p1 p2) ∧ ((((sM_isA u1 p1 p2) = 0) → (okM_finds u1 (-21)) ∧ (True)) ∧ (¬ ((sM_isA u1 p1 p2) = 0) → (vp_in p1 80) ∧ ((((sM_in p3 0 ((u1.2.1 3 p1.toNatClampNeg) - 1)) = 0) → (okM_finds u1 (-23)) ∧ (True)) ∧ (¬ ((sM_in p3 0 ((u1.2.1 3 p1.toNatClampNeg) - 1)) = 0) → ((p2 = 4) → (vp_in ((6 * p1) + p3) 480) ∧ (True)) ∧ (¬ (p2 = 4) → ((p2 = 5) → (vp_in ((6 * p1) + p3) 480) ∧ (True)) ∧ (¬ (p2 = 5) → (vp_in ((6 * p1) + p3) 480) ∧ (True))))))))))
def sM_number (u : St) (p1 : Int32) (p2 : Int32) (p3 : Int32) : Int64 × St :=
  bnd (stI u 0 0) (fun u1 =>
  if (sM_isThing u1 p1) = 0 then
    (0, u1)
  else
    if (sM_in p2 4 6) = 0 then
      (0, u1)
    else
      if (sM_isA u1 p1 p2) = 0 then
        bnd (stI u1 0 1) (fun u4 =>
        if (u4.1 0) = 0 then
          ((u4.2.2 ((6 * p1) + p3).toNatClampNeg), u4)
        else
          (0, u4))
      else
        if (sM_in p3 0 ((u1.2.1 3 p1.toNatClampNeg) - 1)) = 0 then
          bnd (stI u1 0 2) (fun u2 =>
          if (u2.1 0) = 0 then
            ((u2.2.2 ((6 * p1) + p3).toNatClampNeg), u2)
          else
            (0, u2))
        else
          bnd (stI u1 0 0) (fun u3 =>
          if (u3.1 0) = 0 then
            ((u3.2.2 ((6 * p1) + p3).toNatClampNeg), u3)
          else
            (0, u3)))
def okM_number (u : St) (p1 : Int32) (p2 : Int32) (p3 : Int32) : Prop := bnd (stI u 0 0) (fun u1 => (((sM_isThing u1 p1) = 0) → True) ∧ (¬ ((sM_isThing u1 p1) = 0) → (((sM_in p2 4 6) = 0) → True) ∧ (¬ ((sM_in p2 4 6) = 0) → (okM_isA u1 p1 p2) ∧ ((((sM_isA u1 p1 p2) = 0) → bnd (stI u1 0 1) (fun u4 => (((u4.1 0) = 0) → (vp_in ((6 * p1) + p3) 480) ∧ (True)) ∧ (¬ ((u4.1 0) = 0) → True))) ∧ (¬ ((sM_isA u1 p1 p2) = 0) → (vp_in p1 80) ∧ ((((sM_in p3 0 ((u1.2.1 3 p1.toNatClampNeg) - 1)) = 0) → bnd (stI u1 0 2) (fun u2 => (((u2.1 0) = 0) → (vp_in ((6 * p1) + p3) 480) ∧ (True)) ∧ (¬ ((u2.1 0) = 0) → True))) ∧ (¬ ((sM_in p3 0 ((u1.2.1 3 p1.toNatClampNeg) - 1)) = 0) → bnd (stI u1 0 0) (fun u3 => (((u3.1 0) = 0) → (vp_in ((6 * p1) + p3) 480) ∧ (True)) ∧ (¬ ((u3.1 0) = 0) → True)))))))))
def sM_at (u : St) (p1 : Int32) (p2 : Int32) (p3 : Int32) : Int32 × St :=
  bnd (stI u 0 0) (fun u1 =>
  if (sM_isThing u1 p1) = 0 then
    ((-1), u1)
  else
    if p2 = 2 then
      if (sM_in p3 0 1) = 0 then
        ((-2), u1)
      else
        if (sM_isA u1 p1 p2) = 0 then
          (sM_finds u1 (-21))
        else
          if (sM_in p3 0 ((u1.2.1 3 p1.toNatClampNeg) - 1)) = 0 then
            (sM_finds u1 (-23))
          else
            ((u1.2.1 5 ((6 * p1) + p3).toNatClampNeg), u1)
    else
      if (sM_in p2 7 13) = 0 then
        ((-2), u1)
      else
        if (sM_isA u1 p1 p2) = 0 then
          (sM_finds u1 (-21))
        else
          if (sM_in p3 0 ((u1.2.1 3 p1.toNatClampNeg) - 1)) = 0 then
            (sM_finds u1 (-23))
          else
            ((u1.2.1 5 ((6 * p1) + p3).toNatClampNeg), u1))
def okM_at (u : St) (p1 : Int32) (p2 : Int32) (p3 : Int32) : Prop := bnd (stI u 0 0) (fun u1 => (((sM_isThing u1 p1) = 0) → True) ∧ (¬ ((sM_isThing u1 p1) = 0) → ((p2 = 2) → (((sM_in p3 0 1) = 0) → True) ∧ (¬ ((sM_in p3 0 1) = 0) → (okM_isA u1 p1 p2) ∧ ((((sM_isA u1 p1 p2) = 0) → (okM_finds u1 (-21)) ∧ (True)) ∧ (¬ ((sM_isA u1 p1 p2) = 0) → (vp_in p1 80) ∧ ((((sM_in p3 0 ((u1.2.1 3 p1.toNatClampNeg) - 1)) = 0) → (okM_finds u1 (-23)) ∧ (True)) ∧ (¬ ((sM_in p3 0 ((u1.2.1 3 p1.toNatClampNeg) - 1)) = 0) → (vp_in ((6 * p1) + p3) 480) ∧ (True))))))) ∧ (¬ (p2 = 2) → (((sM_in p2 7 13) = 0) → True) ∧ (¬ ((sM_in p2 7 13) = 0) → (okM_isA u1 p1 p2) ∧ ((((sM_isA u1 p1 p2) = 0) → (okM_finds u1 (-21)) ∧ (True)) ∧ (¬ ((sM_isA u1 p1 p2) = 0) → (vp_in p1 80) ∧ ((((sM_in p3 0 ((u1.2.1 3 p1.toNatClampNeg) - 1)) = 0) → (okM_finds u1 (-23)) ∧ (True)) ∧ (¬ ((sM_in p3 0 ((u1.2.1 3 p1.toNatClampNeg) - 1)) = 0) → (vp_in ((6 * p1) + p3) 480) ∧ (True)))))))))
def sM_is (u : St) (p1 : Int32) (p2 : Int32) : Int32 × St :=
  bnd (stI u 0 0) (fun u1 =>
  if (sM_isThing u1 p1) = 0 then
    ((-1), u1)
  else
    if (sM_in p2 0 15) = 0 then
      ((-2), u1)
    else
      if (sM_isA u1 p1 p2) = 0 then
        (0, u1)
      else
        (1, u1))
def okM_is (u : St) (p1 : Int32) (p2 : Int32) : Prop := bnd (stI u 0 0) (fun u1 => (((sM_isThing u1 p1) = 0) → True) ∧ (¬ ((sM_isThing u1 p1) = 0) → (((sM_in p2 0 15) = 0) → True) ∧ (¬ ((sM_in p2 0 15) = 0) → (okM_isA u1 p1 p2) ∧ (True))))
def sM_isPattern (u : St) (p1 : Int32) : Int32 :=
  (sM_in p1 0 ((u.1 2) - 1))
theorem bM_isPattern (u : St) (p1 : Int32) : isB (sM_isPattern u p1) := (bM_in p1 0 ((u.1 2) - 1))
def sM_isWell (p0 : Int32) (p1 : Int32) : Int32 :=
  if p0 = 0 then
    (sM_in p1 0 15)
  else if p0 = 1 then
    (sM_in p1 0 15)
  else if p0 = 2 then
    1
  else if p0 = 3 then
    1
  else if p0 = 4 then
    (sM_in p1 7 13)
  else if p0 = 5 then
    (sM_in p1 7 13)
  else if p0 = 6 then
    (sM_in p1 4 6)
  else if p0 = 7 then
    1
  else if p0 = 8 then
    1
  else if p0 = 9 then
    1
  else if p0 = 10 then
    (sM_in p1 0 3)
  else if p0 = 11 then
    (sM_in p1 0 3)
  else if p0 = 12 then
    1
  else if p0 = 13 then
    (sM_in p1 4 13)
  else 1
theorem bM_isWell (p0 : Int32) (p1 : Int32) : isB (sM_isWell p0 p1) := (isB_ite (bM_in p1 0 15) (isB_ite (bM_in p1 0 15) (isB_ite (Or.inr rfl) (isB_ite (Or.inr rfl) (isB_ite (bM_in p1 7 13) (isB_ite (bM_in p1 7 13) (isB_ite (bM_in p1 4 6) (isB_ite (Or.inr rfl) (isB_ite (Or.inr rfl) (isB_ite (Or.inr rfl) (isB_ite (bM_in p1 0 3) (isB_ite (bM_in p1 0 3) (isB_ite (Or.inr rfl) (isB_ite (bM_in p1 4 13) (Or.inr rfl)))))))))))))))
def sM_areKnown (u : St) (p1 : Int32) (p2 : Int32) (p3 : Int32) (p4 : Int32) : Int32 :=
  if p1 = 1 then
    (sM_isPattern u p3)
  else if p1 = 2 then
    1
  else if p1 = 3 then
    if (sM_isPattern u p2) = 0 then
      0
    else
      if (sM_isPattern u p3) = 0 then
        0
      else
        1
  else if p1 = 4 then
    (sM_isPattern u p3)
  else if p1 = 5 then
    (sM_isPattern u p4)
  else if p1 = 6 then
    1
  else if p1 = 7 then
    if (sM_isPattern u p2) = 0 then
      0
    else
      if (sM_isPattern u p3) = 0 then
        0
      else
        1
  else if p1 = 8 then
    if (sM_isPattern u p2) = 0 then
      0
    else
      if (sM_isPattern u p3) = 0 then
        0
      else
        1
  else if p1 = 9 then
    (sM_isPattern u p2)
  else 1
theorem bM_areKnown (u : St) (p1 : Int32) (p2 : Int32) (p3 : Int32) (p4 : Int32) : isB (sM_areKnown u p1 p2 p3 p4) := (isB_ite (bM_isPattern u p3) (isB_ite (Or.inr rfl) (isB_ite (isB_ite (Or.inl rfl) (isB_ite (Or.inl rfl) (Or.inr rfl))) (isB_ite (bM_isPattern u p3) (isB_ite (bM_isPattern u p4) (isB_ite (Or.inr rfl) (isB_ite (isB_ite (Or.inl rfl) (isB_ite (Or.inl rfl) (Or.inr rfl))) (isB_ite (isB_ite (Or.inl rfl) (isB_ite (Or.inl rfl) (Or.inr rfl))) (isB_ite (bM_isPattern u p2) (Or.inr rfl))))))))))
def sM_pattern (u : St) (p1 : Int32) (p2 : Int32) (p3 : Int32) (p4 : Int32) : Int32 × St :=
  bnd (stI u 0 0) (fun u1 =>
  if (sM_in p1 0 13) = 0 then
    ((-2), u1)
  else
    if (sM_isWell p1 p2) = 0 then
      ((-2), u1)
    else
      if (sM_areKnown u1 p1 p2 p3 p4) = 0 then
        ((-1), u1)
      else
        if (u1.1 2) = 40 then
          ((-4), u1)
        else
          bnd (stA u1 6 (u1.1 2).toNatClampNeg p1) (fun u2 =>
          bnd (stA u2 7 (u2.1 2).toNatClampNeg p2) (fun u3 =>
          bnd (stA u3 8 (u3.1 2).toNatClampNeg p3) (fun u4 =>
          bnd (stA u4 9 (u4.1 2).toNatClampNeg p4) (fun u5 =>
          bnd (stI u5 2 ((u5.1 2) + 1)) (fun u6 =>
          (((u6.1 2) - 1), u6)))))))
def okM_pattern (u : St) (p1 : Int32) (p2 : Int32) (p3 : Int32) (p4 : Int32) : Prop := bnd (stI u 0 0) (fun u1 => (((sM_in p1 0 13) = 0) → True) ∧ (¬ ((sM_in p1 0 13) = 0) → (((sM_isWell p1 p2) = 0) → True) ∧ (¬ ((sM_isWell p1 p2) = 0) → (((sM_areKnown u1 p1 p2 p3 p4) = 0) → True) ∧ (¬ ((sM_areKnown u1 p1 p2 p3 p4) = 0) → (((u1.1 2) = 40) → True) ∧ (¬ ((u1.1 2) = 40) → (vp_in (u1.1 2) 40) ∧ (bnd (stA u1 6 (u1.1 2).toNatClampNeg p1) (fun u2 => (vp_in (u2.1 2) 40) ∧ (bnd (stA u2 7 (u2.1 2).toNatClampNeg p2) (fun u3 => (vp_in (u3.1 2) 40) ∧ (bnd (stA u3 8 (u3.1 2).toNatClampNeg p3) (fun u4 => (vp_in (u4.1 2) 40) ∧ (True))))))))))))
def sM_look (u : St) (p1 : Int32) (p2 : Int32) : St :=
  if (u.1 6) = 0 then
    if (u.1 4) = 300 then
      bnd (stI u 6 (-26)) (fun u6 =>
      u6)
    else
      bnd (stI u 4 ((u.1 4) + 1)) (fun u1 =>
      bnd (stA u1 19 (u1.1 5).toNatClampNeg p1) (fun u2 =>
      bnd (stA u2 20 (u2.1 5).toNatClampNeg p2) (fun u3 =>
      bnd (stA u3 21 (u3.1 5).toNatClampNeg 0) (fun u4 =>
      bnd (stI u4 5 ((u4.1 5) + 1)) (fun u5 =>
      u5)))))
  else
    u
def okM_look (u : St) (p1 : Int32) (p2 : Int32) : Prop := (((u.1 6) = 0) → (((u.1 4) = 300) → True) ∧ (¬ ((u.1 4) = 300) → bnd (stI u 4 ((u.1 4) + 1)) (fun u1 => (vp_in (u1.1 5) 64) ∧ (bnd (stA u1 19 (u1.1 5).toNatClampNeg p1) (fun u2 => (vp_in (u2.1 5) 64) ∧ (bnd (stA u2 20 (u2.1 5).toNatClampNeg p2) (fun u3 => (vp_in (u3.1 5) 64) ∧ (True)))))))) ∧ (¬ ((u.1 6) = 0) → True)
def sM_ends (u : St) (p1 : Int32) : St :=
  bnd (stI u 7 p1) (fun u1 =>
  bnd (stI u1 5 ((u1.1 5) - 1)) (fun u2 =>
  u2))
def okM_ends (u : St) (p1 : Int32) : Prop := (isB p1) ∧ (True)
def sM_asks (u : St) (p1 : Int32) (p2 : Int32) (p3 : Int32) : St :=
  bnd (stA u 21 ((u.1 5) - 1).toNatClampNeg p3) (fun u1 =>
  (sM_look u1 p1 p2))
def okM_asks (u : St) (p1 : Int32) (p2 : Int32) (p3 : Int32) : Prop := (vp_in ((u.1 5) - 1) 64) ∧ (bnd (stA u 21 ((u.1 5) - 1).toNatClampNeg p3) (fun u1 => (okM_look u1 p1 p2) ∧ (True)))
def sM_taken (u : St) (p1 : Int32) (p2 : Int32) (p3 : Int32) : Int32 :=
  if (sM_passes u p1 p2) = 0 then
    (-21)
  else
    if 0 ≤ p1 then
      if (sM_in p3 0 ((u.2.1 3 p1.toNatClampNeg) - 1)) = 0 then
        (-23)
      else
        0
    else
      (-22)
def okM_taken (u : St) (p1 : Int32) (p2 : Int32) (p3 : Int32) : Prop := (okM_passes u p1 p2) ∧ ((((sM_passes u p1 p2) = 0) → True) ∧ (¬ ((sM_passes u p1 p2) = 0) → ((0 ≤ p1) → (vp_in p1 80) ∧ (True)) ∧ (¬ (0 ≤ p1) → True)))
def sM_tells (p0 : Int32) (p1 : Int32) : Int32 :=
  if p0 = 1 then
    ((2 * p1) + 1)
  else
    p1
def sM_each (u : St) (p1 : Int32) (p2 : Int32) (p3 : Int32) : St :=
  if p3 = (u.2.1 3 p2.toNatClampNeg) then
    bnd (sM_ends u 1) (fun u2 =>
    u2)
  else
    (sM_asks u (u.2.1 8 p1.toNatClampNeg) (u.2.1 5 ((6 * p2) + p3).toNatClampNeg) (10 + p3))
def okM_each (u : St) (p1 : Int32) (p2 : Int32) (p3 : Int32) : Prop := (vp_in p2 80) ∧ (((p3 = (u.2.1 3 p2.toNatClampNeg)) → (okM_ends u 1) ∧ (True)) ∧ (¬ (p3 = (u.2.1 3 p2.toNatClampNeg)) → (vp_in p1 40) ∧ ((vp_in ((6 * p2) + p3) 480) ∧ ((okM_asks u (u.2.1 8 p1.toNatClampNeg) (u.2.1 5 ((6 * p2) + p3).toNatClampNeg) (10 + p3)) ∧ (True)))))
def sM_plain (u : St) (p1 : Int32) (p2 : Int32) (p3 : Int32) (p4 : Int32) : St :=
  if (u.2.1 6 p1.toNatClampNeg) = 10 then
    bnd (stA u 16 p3.toNatClampNeg p2) (fun u1 =>
    bnd (sM_ends u1 1) (fun u2 =>
    u2))
  else if (u.2.1 6 p1.toNatClampNeg) = 11 then
    if (u.2.1 16 p3.toNatClampNeg) = p2 then
      bnd (sM_ends u 1) (fun u4 =>
      u4)
    else
      bnd (sM_ends u 0) (fun u3 =>
      u3)
  else if (u.2.1 6 p1.toNatClampNeg) = 12 then
    if (sM_passes u p2 14) = 0 then
      bnd (stI u 6 (-21)) (fun u11 =>
      if (u11.1 6) = 0 then
        if (sM_tells (u11.2.1 1 p2.toNatClampNeg) (u11.2.1 2 p2.toNatClampNeg)) = p3 then
          bnd (sM_ends u11 1) (fun u13 =>
          u13)
        else
          bnd (sM_ends u11 0) (fun u12 =>
          u12)
      else
        u11)
    else
      if 0 ≤ p2 then
        bnd (stI u 6 0) (fun u5 =>
        if (u5.1 6) = 0 then
          if (sM_tells (u5.2.1 1 p2.toNatClampNeg) (u5.2.1 2 p2.toNatClampNeg)) = p3 then
            bnd (sM_ends u5 1) (fun u7 =>
            u7)
          else
            bnd (sM_ends u5 0) (fun u6 =>
            u6)
        else
          u5)
      else
        bnd (stI u 6 (-22)) (fun u8 =>
        if (u8.1 6) = 0 then
          if (sM_tells (u8.2.1 1 p2.toNatClampNeg) (u8.2.1 2 p2.toNatClampNeg)) = p3 then
            bnd (sM_ends u8 1) (fun u10 =>
            u10)
          else
            bnd (sM_ends u8 0) (fun u9 =>
            u9)
        else
          u8)
  else if (sM_passes u p2 p3) = 0 then
    bnd (stI u 6 (-21)) (fun u20 =>
    if (u20.1 6) = 0 then
      if (u20.2.1 3 p2.toNatClampNeg) = p4 then
        (sM_ends u20 1)
      else
        (sM_ends u20 0)
    else
      u20)
  else
    if 0 ≤ p2 then
      bnd (stI u 6 0) (fun u14 =>
      if (u14.1 6) = 0 then
        if (u14.2.1 3 p2.toNatClampNeg) = p4 then
          (sM_ends u14 1)
        else
          (sM_ends u14 0)
      else
        u14)
    else
      bnd (stI u 6 (-22)) (fun u17 =>
      if (u17.1 6) = 0 then
        if (u17.2.1 3 p2.toNatClampNeg) = p4 then
          (sM_ends u17 1)
        else
          (sM_ends u17 0)
      else
        u17)
def okM_plain (u : St) (p1 : Int32) (p2 : Int32) (p3 : Int32) (p4 : Int32) : Prop := (vp_in p1 40) ∧ ((((u.2.1 6 p1.toNatClampNeg) = 10) → (vp_in p3 4) ∧ (bnd (stA u 16 p3.toNatClampNeg p2) (fun u1 => (okM_ends u1 1) ∧ (True)))) ∧ (¬ ((u.2.1 6 p1.toNatClampNeg) = 10) → (((u.2.1 6 p1.toNatClampNeg) = 11) → (vp_in p3 4) ∧ ((((u.2.1 16 p3.toNatClampNeg) = p2) → (okM_ends u 1) ∧ (True)) ∧ (¬ ((u.2.1 16 p3.toNatClampNeg) = p2) → (okM_ends u 0) ∧ (True)))) ∧ (¬ ((u.2.1 6 p1.toNatClampNeg) = 11) → (((u.2.1 6 p1.toNatClampNeg) = 12) → (okM_passes u p2 14) ∧ ((((sM_passes u p2 14) = 0) → bnd (stI u 6 (-21)) (fun u11 => (((u11.1 6) = 0) → (vp_in p2 80) ∧ ((vp_in p2 80) ∧ ((((sM_tells (u11.2.1 1 p2.toNatClampNeg) (u11.2.1 2 p2.toNatClampNeg)) = p3) → (okM_ends u11 1) ∧ (True)) ∧ (¬ ((sM_tells (u11.2.1 1 p2.toNatClampNeg) (u11.2.1 2 p2.toNatClampNeg)) = p3) → (okM_ends u11 0) ∧ (True))))) ∧ (¬ ((u11.1 6) = 0) → True))) ∧ (¬ ((sM_passes u p2 14) = 0) → ((0 ≤ p2) → bnd (stI u 6 0) (fun u5 => (((u5.1 6) = 0) → (vp_in p2 80) ∧ ((vp_in p2 80) ∧ ((((sM_tells (u5.2.1 1 p2.toNatClampNeg) (u5.2.1 2 p2.toNatClampNeg)) = p3) → (okM_ends u5 1) ∧ (True)) ∧ (¬ ((sM_tells (u5.2.1 1 p2.toNatClampNeg) (u5.2.1 2 p2.toNatClampNeg)) = p3) → (okM_ends u5 0) ∧ (True))))) ∧ (¬ ((u5.1 6) = 0) → True))) ∧ (¬ (0 ≤ p2) → bnd (stI u 6 (-22)) (fun u8 => (((u8.1 6) = 0) → (vp_in p2 80) ∧ ((vp_in p2 80) ∧ ((((sM_tells (u8.2.1 1 p2.toNatClampNeg) (u8.2.1 2 p2.toNatClampNeg)) = p3) → (okM_ends u8 1) ∧ (True)) ∧ (¬ ((sM_tells (u8.2.1 1 p2.toNatClampNeg) (u8.2.1 2 p2.toNatClampNeg)) = p3) → (okM_ends u8 0) ∧ (True))))) ∧ (¬ ((u8.1 6) = 0) → True)))))) ∧ (¬ ((u.2.1 6 p1.toNatClampNeg) = 12) → (okM_passes u p2 p3) ∧ ((((sM_passes u p2 p3) = 0) → bnd (stI u 6 (-21)) (fun u20 => (((u20.1 6) = 0) → (vp_in p2 80) ∧ ((((u20.2.1 3 p2.toNatClampNeg) = p4) → (okM_ends u20 1) ∧ (True)) ∧ (¬ ((u20.2.1 3 p2.toNatClampNeg) = p4) → (okM_ends u20 0) ∧ (True)))) ∧ (¬ ((u20.1 6) = 0) → True))) ∧ (¬ ((sM_passes u p2 p3) = 0) → ((0 ≤ p2) → bnd (stI u 6 0) (fun u14 => (((u14.1 6) = 0) → (vp_in p2 80) ∧ ((((u14.2.1 3 p2.toNatClampNeg) = p4) → (okM_ends u14 1) ∧ (True)) ∧ (¬ ((u14.2.1 3 p2.toNatClampNeg) = p4) → (okM_ends u14 0) ∧ (True)))) ∧ (¬ ((u14.1 6) = 0) → True))) ∧ (¬ (0 ≤ p2) → bnd (stI u 6 (-22)) (fun u17 => (((u17.1 6) = 0) → (vp_in p2 80) ∧ ((((u17.2.1 3 p2.toNatClampNeg) = p4) → (okM_ends u17 1) ∧ (True)) ∧ (¬ ((u17.2.1 3 p2.toNatClampNeg) = p4) → (okM_ends u17 0) ∧ (True)))) ∧ (¬ ((u17.1 6) = 0) → True)))))))))
def sM_begins (u : St) (p1 : Int32) (p2 : Int32) : St :=
  bnd (u.2.1 7 p1.toNatClampNeg) (fun y1 =>
  bnd (u.2.1 8 p1.toNatClampNeg) (fun y2 =>
  bnd (u.2.1 9 p1.toNatClampNeg) (fun y3 =>
  if (u.2.1 6 p1.toNatClampNeg) = 0 then
    bnd (sM_ends u (sM_isA u p2 y1)) (fun u4 =>
    u4)
  else if (u.2.1 6 p1.toNatClampNeg) = 1 then
    if (sM_passes u p2 y1) = 0 then
      bnd (stI u 6 (-21)) (fun u6 =>
      u6)
    else
      bnd (sM_asks u y2 p2 9) (fun u5 =>
      u5)
  else if (u.2.1 6 p1.toNatClampNeg) = 2 then
    if 0 ≤ p2 then
      bnd (sM_ends u 0) (fun u7 =>
      u7)
    else
      bnd (sM_ends u 1) (fun u8 =>
      u8)
  else if (u.2.1 6 p1.toNatClampNeg) = 3 then
    if (sM_isA u p2 2) = 0 then
      bnd (sM_ends u 0) (fun u9 =>
      u9)
    else
      bnd (sM_asks u y1 (u.2.1 5 (6 * p2).toNatClampNeg) 1) (fun u10 =>
      u10)
  else if (u.2.1 6 p1.toNatClampNeg) = 4 then
    if (sM_isA u p2 y1) = 0 then
      bnd (sM_ends u 0) (fun u11 =>
      u11)
    else
      bnd (sM_each u p1 p2 0) (fun u12 =>
      u12)
  else if (u.2.1 6 p1.toNatClampNeg) = 5 then
    bnd (stI u 6 (sM_taken u p2 y1 y2)) (fun u13 =>
    if (u13.1 6) = 0 then
      bnd (sM_asks u13 y3 (u13.2.1 5 ((6 * p2) + y2).toNatClampNeg) 9) (fun u14 =>
      u14)
    else
      u13)
  else if (u.2.1 6 p1.toNatClampNeg) = 6 then
    bnd (stI u 6 (sM_taken u p2 y1 y2)) (fun u15 =>
    if (u15.1 6) = 0 then
      if (lg_cmp (u15.2.2 ((6 * p2) + y2).toNatClampNeg) ((y3 : Int32).toInt64)) = 0 then
        bnd (sM_ends u15 1) (fun u17 =>
        u17)
      else
        bnd (sM_ends u15 0) (fun u16 =>
        u16)
    else
      u15)
  else if (u.2.1 6 p1.toNatClampNeg) = 7 then
    bnd (sM_asks u y1 p2 1) (fun u18 =>
    u18)
  else if (u.2.1 6 p1.toNatClampNeg) = 8 then
    bnd (sM_asks u y1 p2 1) (fun u19 =>
    u19)
  else if (u.2.1 6 p1.toNatClampNeg) = 9 then
    bnd (sM_asks u y1 p2 8) (fun u20 =>
    u20)
  else (sM_plain u p1 p2 y1 y2))))
def okM_begins (u : St) (p1 : Int32) (p2 : Int32) : Prop := (vp_in p1 40) ∧ (bnd (u.2.1 7 p1.toNatClampNeg) (fun y1 => (vp_in p1 40) ∧ (bnd (u.2.1 8 p1.toNatClampNeg) (fun y2 => (vp_in p1 40) ∧ (bnd (u.2.1 9 p1.toNatClampNeg) (fun y3 => (vp_in p1 40) ∧ ((((u.2.1 6 p1.toNatClampNeg) = 0) → (okM_isA u p2 y1) ∧ ((okM_ends u (sM_isA u p2 y1)) ∧ (True))) ∧ (¬ ((u.2.1 6 p1.toNatClampNeg) = 0) → (((u.2.1 6 p1.toNatClampNeg) = 1) → (okM_passes u p2 y1) ∧ ((((sM_passes u p2 y1) = 0) → True) ∧ (¬ ((sM_passes u p2 y1) = 0) → (okM_asks u y2 p2 9) ∧ (True)))) ∧ (¬ ((u.2.1 6 p1.toNatClampNeg) = 1) → (((u.2.1 6 p1.toNatClampNeg) = 2) → ((0 ≤ p2) → (okM_ends u 0) ∧ (True)) ∧ (¬ (0 ≤ p2) → (okM_ends u 1) ∧ (True))) ∧ (¬ ((u.2.1 6 p1.toNatClampNeg) = 2) → (((u.2.1 6 p1.toNatClampNeg) = 3) → (okM_isA u p2 2) ∧ ((((sM_isA u p2 2) = 0) → (okM_ends u 0) ∧ (True)) ∧ (¬ ((sM_isA u p2 2) = 0) → (vp_in (6 * p2) 480) ∧ ((okM_asks u y1 (u.2.1 5 (6 * p2).toNatClampNeg) 1) ∧ (True))))) ∧ (¬ ((u.2.1 6 p1.toNatClampNeg) = 3) → (((u.2.1 6 p1.toNatClampNeg) = 4) → (okM_isA u p2 y1) ∧ ((((sM_isA u p2 y1) = 0) → (okM_ends u 0) ∧ (True)) ∧ (¬ ((sM_isA u p2 y1) = 0) → (okM_each u p1 p2 0) ∧ (True)))) ∧ (¬ ((u.2.1 6 p1.toNatClampNeg) = 4) → (((u.2.1 6 p1.toNatClampNeg) = 5) → (okM_taken u p2 y1 y2) ∧ (bnd (stI u 6 (sM_taken u p2 y1 y2)) (fun u13 => (((u13.1 6) = 0) → (vp_in ((6 * p2) + y2) 480) ∧ ((okM_asks u13 y3 (u13.2.1 5 ((6 * p2) + y2).toNatClampNeg) 9) ∧ (True))) ∧ (¬ ((u13.1 6) = 0) → True)))) ∧ (¬ ((u.2.1 6 p1.toNatClampNeg) = 5) → (((u.2.1 6 p1.toNatClampNeg) = 6) → (okM_taken u p2 y1 y2) ∧ (bnd (stI u 6 (sM_taken u p2 y1 y2)) (fun u15 => (((u15.1 6) = 0) → (vp_in ((6 * p2) + y2) 480) ∧ ((((lg_cmp (u15.2.2 ((6 * p2) + y2).toNatClampNeg) ((y3 : Int32).toInt64)) = 0) → (okM_ends u15 1) ∧ (True)) ∧ (¬ ((lg_cmp (u15.2.2 ((6 * p2) + y2).toNatClampNeg) ((y3 : Int32).toInt64)) = 0) → (okM_ends u15 0) ∧ (True)))) ∧ (¬ ((u15.1 6) = 0) → True)))) ∧ (¬ ((u.2.1 6 p1.toNatClampNeg) = 6) → (((u.2.1 6 p1.toNatClampNeg) = 7) → (okM_asks u y1 p2 1) ∧ (True)) ∧ (¬ ((u.2.1 6 p1.toNatClampNeg) = 7) → (((u.2.1 6 p1.toNatClampNeg) = 8) → (okM_asks u y1 p2 1) ∧ (True)) ∧ (¬ ((u.2.1 6 p1.toNatClampNeg) = 8) → (((u.2.1 6 p1.toNatClampNeg) = 9) → (okM_asks u y1 p2 8) ∧ (True)) ∧ (¬ ((u.2.1 6 p1.toNatClampNeg) = 9) → (okM_plain u p1 p2 y1 y2) ∧ (True))))))))))))))))))
def sM_goesOn (u : St) (p1 : Int32) (p2 : Int32) (p3 : Int32) : St :=
  if p3 = 9 then
    bnd (sM_ends u (u.1 7)) (fun u11 =>
    u11)
  else
    if p3 = 8 then
      if (u.1 7) = 0 then
        bnd (sM_ends u 1) (fun u10 =>
        u10)
      else
        bnd (sM_ends u 0) (fun u9 =>
        u9)
    else
      if p3 < 10 then
        if (u.2.1 6 p1.toNatClampNeg) = 8 then
          if (u.1 7) = 1 then
            bnd (sM_ends u (u.1 7)) (fun u6 =>
            u6)
          else
            if (u.2.1 6 p1.toNatClampNeg) = 3 then
              (sM_asks u (u.2.1 8 p1.toNatClampNeg) (u.2.1 5 ((6 * p2) + 1).toNatClampNeg) 9)
            else
              (sM_asks u (u.2.1 8 p1.toNatClampNeg) p2 9)
        else
          if (u.1 7) = 0 then
            bnd (sM_ends u (u.1 7)) (fun u3 =>
            u3)
          else
            if (u.2.1 6 p1.toNatClampNeg) = 3 then
              (sM_asks u (u.2.1 8 p1.toNatClampNeg) (u.2.1 5 ((6 * p2) + 1).toNatClampNeg) 9)
            else
              (sM_asks u (u.2.1 8 p1.toNatClampNeg) p2 9)
      else
        if (u.1 7) = 0 then
          bnd (sM_ends u 0) (fun u7 =>
          u7)
        else
          bnd (sM_each u p1 p2 (p3 - 9)) (fun u8 =>
          u8)
def okM_goesOn (u : St) (p1 : Int32) (p2 : Int32) (p3 : Int32) : Prop := ((p3 = 9) → (okM_ends u (u.1 7)) ∧ (True)) ∧ (¬ (p3 = 9) → ((p3 = 8) → (((u.1 7) = 0) → (okM_ends u 1) ∧ (True)) ∧ (¬ ((u.1 7) = 0) → (okM_ends u 0) ∧ (True))) ∧ (¬ (p3 = 8) → ((p3 < 10) → (vp_in p1 40) ∧ ((((u.2.1 6 p1.toNatClampNeg) = 8) → (((u.1 7) = 1) → (okM_ends u (u.1 7)) ∧ (True)) ∧ (¬ ((u.1 7) = 1) → (vp_in p1 40) ∧ ((vp_in p1 40) ∧ ((((u.2.1 6 p1.toNatClampNeg) = 3) → (vp_in ((6 * p2) + 1) 480) ∧ ((okM_asks u (u.2.1 8 p1.toNatClampNeg) (u.2.1 5 ((6 * p2) + 1).toNatClampNeg) 9) ∧ (True))) ∧ (¬ ((u.2.1 6 p1.toNatClampNeg) = 3) → (okM_asks u (u.2.1 8 p1.toNatClampNeg) p2 9) ∧ (True)))))) ∧ (¬ ((u.2.1 6 p1.toNatClampNeg) = 8) → (((u.1 7) = 0) → (okM_ends u (u.1 7)) ∧ (True)) ∧ (¬ ((u.1 7) = 0) → (vp_in p1 40) ∧ ((vp_in p1 40) ∧ ((((u.2.1 6 p1.toNatClampNeg) = 3) → (vp_in ((6 * p2) + 1) 480) ∧ ((okM_asks u (u.2.1 8 p1.toNatClampNeg) (u.2.1 5 ((6 * p2) + 1).toNatClampNeg) 9) ∧ (True))) ∧ (¬ ((u.2.1 6 p1.toNatClampNeg) = 3) → (okM_asks u (u.2.1 8 p1.toNatClampNeg) p2 9) ∧ (True)))))))) ∧ (¬ (p3 < 10) → (((u.1 7) = 0) → (okM_ends u 0) ∧ (True)) ∧ (¬ ((u.1 7) = 0) → (okM_each u p1 p2 (p3 - 9)) ∧ (True)))))
def lM_matches_141 : Nat → St → Int32 → Int32 → Int32 → Int32 × St
  | 0, u, _, _, _ => (0, u)
  | n + 1, u, p1, p2, x3 =>
    if 4 ≤ x3 then
      if (u.1 6) = 0 then
        if (u.1 7) = 0 then
          (0, u)
        else
          (1, u)
      else
        bnd2 (sM_finds u (u.1 6)) (fun r6 u6 =>
        (r6, u6))
    else
      bnd (stA u 16 x3.toNatClampNeg (u.2.1 17 x3.toNatClampNeg)) (fun u7 =>
      lM_matches_141 n u7 p1 p2 (x3 + 1))
def oklM_matches_141 : Nat → St → Int32 → Int32 → Int32 → Prop
  | 0, _, _, _, _ => False
  | n + 1, u, p1, p2, x3 => ((4 ≤ x3) → (((u.1 6) = 0) → True) ∧ (¬ ((u.1 6) = 0) → (okM_finds u (u.1 6)) ∧ (True))) ∧ (¬ (4 ≤ x3) → (vp_in x3 4) ∧ ((vp_in x3 4) ∧ (bnd (stA u 16 x3.toNatClampNeg (u.2.1 17 x3.toNatClampNeg)) (fun u7 => oklM_matches_141 n u7 p1 p2 (x3 + 1)))))
def lM_matches_51 : Nat → St → Int32 → Int32 → Int32 → Int32 × St
  | 0, u, _, _, _ => (0, u)
  | n + 1, u, p1, p2, x3 =>
    if (u.1 5) ≤ 0 then
      if (u.1 6) = 0 then
        if (u.1 7) = 0 then
          lM_matches_141 100 u p1 p2 0
        else
          if (u.1 6) = 0 then
            if (u.1 7) = 0 then
              (0, u)
            else
              (1, u)
          else
            bnd2 (sM_finds u (u.1 6)) (fun r8 u8 =>
            (r8, u8))
      else
        lM_matches_141 100 u p1 p2 0
    else
      if (u.1 6) = 0 then
        bnd ((u.1 5) - 1) (fun y10 =>
        if (u.2.1 21 y10.toNatClampNeg) = 0 then
          bnd (sM_begins u (u.2.1 19 y10.toNatClampNeg) (u.2.1 20 y10.toNatClampNeg)) (fun u12 =>
          lM_matches_51 n u12 p1 p2 y10)
        else
          bnd (sM_goesOn u (u.2.1 19 y10.toNatClampNeg) (u.2.1 20 y10.toNatClampNeg) (u.2.1 21 y10.toNatClampNeg)) (fun u11 =>
          lM_matches_51 n u11 p1 p2 y10))
      else
        if (u.1 6) = 0 then
          if (u.1 7) = 0 then
            lM_matches_141 100 u p1 p2 0
          else
            if (u.1 6) = 0 then
              if (u.1 7) = 0 then
                (0, u)
              else
                (1, u)
            else
              bnd2 (sM_finds u (u.1 6)) (fun r9 u9 =>
              (r9, u9))
        else
          lM_matches_141 100 u p1 p2 0
def oklM_matches_51 : Nat → St → Int32 → Int32 → Int32 → Prop
  | 0, _, _, _, _ => False
  | n + 1, u, p1, p2, x3 => (((u.1 5) ≤ 0) → (((u.1 6) = 0) → (((u.1 7) = 0) → oklM_matches_141 100 u p1 p2 0) ∧ (¬ ((u.1 7) = 0) → (((u.1 6) = 0) → True) ∧ (¬ ((u.1 6) = 0) → (okM_finds u (u.1 6)) ∧ (True)))) ∧ (¬ ((u.1 6) = 0) → oklM_matches_141 100 u p1 p2 0)) ∧ (¬ ((u.1 5) ≤ 0) → (((u.1 6) = 0) → bnd ((u.1 5) - 1) (fun y10 => (vp_in y10 64) ∧ ((((u.2.1 21 y10.toNatClampNeg) = 0) → (vp_in y10 64) ∧ ((vp_in y10 64) ∧ ((okM_begins u (u.2.1 19 y10.toNatClampNeg) (u.2.1 20 y10.toNatClampNeg)) ∧ (bnd (sM_begins u (u.2.1 19 y10.toNatClampNeg) (u.2.1 20 y10.toNatClampNeg)) (fun u12 => oklM_matches_51 n u12 p1 p2 y10))))) ∧ (¬ ((u.2.1 21 y10.toNatClampNeg) = 0) → (vp_in y10 64) ∧ ((vp_in y10 64) ∧ ((vp_in y10 64) ∧ ((okM_goesOn u (u.2.1 19 y10.toNatClampNeg) (u.2.1 20 y10.toNatClampNeg) (u.2.1 21 y10.toNatClampNeg)) ∧ (bnd (sM_goesOn u (u.2.1 19 y10.toNatClampNeg) (u.2.1 20 y10.toNatClampNeg) (u.2.1 21 y10.toNatClampNeg)) (fun u11 => oklM_matches_51 n u11 p1 p2 y10))))))))) ∧ (¬ ((u.1 6) = 0) → (((u.1 6) = 0) → (((u.1 7) = 0) → oklM_matches_141 100 u p1 p2 0) ∧ (¬ ((u.1 7) = 0) → (((u.1 6) = 0) → True) ∧ (¬ ((u.1 6) = 0) → (okM_finds u (u.1 6)) ∧ (True)))) ∧ (¬ ((u.1 6) = 0) → oklM_matches_141 100 u p1 p2 0)))
def lM_matches_2 : Nat → St → Int32 → Int32 → Int32 → Int32 × St
  | 0, u, _, _, _ => (0, u)
  | n + 1, u, p1, p2, x3 =>
    if 4 ≤ x3 then
      bnd (stI u 4 0) (fun u1 =>
      bnd (stI u1 5 0) (fun u2 =>
      bnd (stI u2 6 0) (fun u3 =>
      bnd (stI u3 7 0) (fun u4 =>
      bnd (sM_look u4 p1 p2) (fun u5 =>
      lM_matches_51 1000 u5 p1 p2 x3)))))
    else
      bnd (stA u 17 x3.toNatClampNeg (u.2.1 16 x3.toNatClampNeg)) (fun u13 =>
      lM_matches_2 n u13 p1 p2 (x3 + 1))
def oklM_matches_2 : Nat → St → Int32 → Int32 → Int32 → Prop
  | 0, _, _, _, _ => False
  | n + 1, u, p1, p2, x3 => ((4 ≤ x3) → bnd (stI u 4 0) (fun u1 => bnd (stI u1 5 0) (fun u2 => bnd (stI u2 6 0) (fun u3 => bnd (stI u3 7 0) (fun u4 => (okM_look u4 p1 p2) ∧ (bnd (sM_look u4 p1 p2) (fun u5 => oklM_matches_51 1000 u5 p1 p2 x3))))))) ∧ (¬ (4 ≤ x3) → (vp_in x3 4) ∧ ((vp_in x3 4) ∧ (bnd (stA u 17 x3.toNatClampNeg (u.2.1 16 x3.toNatClampNeg)) (fun u13 => oklM_matches_2 n u13 p1 p2 (x3 + 1)))))
def sM_matches (u : St) (p1 : Int32) (p2 : Int32) : Int32 × St :=
  lM_matches_2 100 u p1 p2 0
def okM_matches (u : St) (p1 : Int32) (p2 : Int32) : Prop := oklM_matches_2 100 u p1 p2 0
theorem lM_matches_141_s (n : Nat) (u : St) (p1 : Int32) (p2 : Int32) (x3 : Int32) : lM_matches_141 (n + 1) u p1 p2 x3 = (if 4 ≤ x3 then
      if (u.1 6) = 0 then
        if (u.1 7) = 0 then
          (0, u)
        else
          (1, u)
      else
        bnd2 (sM_finds u (u.1 6)) (fun r6 u6 =>
        (r6, u6))
    else
      bnd (stA u 16 x3.toNatClampNeg (u.2.1 17 x3.toNatClampNeg)) (fun u7 =>
      lM_matches_141 n u7 p1 p2 (x3 + 1))) := rfl
theorem oklM_matches_141_s (n : Nat) (u : St) (p1 : Int32) (p2 : Int32) (x3 : Int32) : oklM_matches_141 (n + 1) u p1 p2 x3 ↔ (((4 ≤ x3) → (((u.1 6) = 0) → True) ∧ (¬ ((u.1 6) = 0) → (okM_finds u (u.1 6)) ∧ (True))) ∧ (¬ (4 ≤ x3) → (vp_in x3 4) ∧ ((vp_in x3 4) ∧ (bnd (stA u 16 x3.toNatClampNeg (u.2.1 17 x3.toNatClampNeg)) (fun u7 => oklM_matches_141 n u7 p1 p2 (x3 + 1)))))) := Iff.rfl
theorem lM_matches_51_s (n : Nat) (u : St) (p1 : Int32) (p2 : Int32) (x3 : Int32) : lM_matches_51 (n + 1) u p1 p2 x3 = (if (u.1 5) ≤ 0 then
      if (u.1 6) = 0 then
        if (u.1 7) = 0 then
          lM_matches_141 100 u p1 p2 0
        else
          if (u.1 6) = 0 then
            if (u.1 7) = 0 then
              (0, u)
            else
              (1, u)
          else
            bnd2 (sM_finds u (u.1 6)) (fun r8 u8 =>
            (r8, u8))
      else
        lM_matches_141 100 u p1 p2 0
    else
      if (u.1 6) = 0 then
        bnd ((u.1 5) - 1) (fun y10 =>
        if (u.2.1 21 y10.toNatClampNeg) = 0 then
          bnd (sM_begins u (u.2.1 19 y10.toNatClampNeg) (u.2.1 20 y10.toNatClampNeg)) (fun u12 =>
          lM_matches_51 n u12 p1 p2 y10)
        else
          bnd (sM_goesOn u (u.2.1 19 y10.toNatClampNeg) (u.2.1 20 y10.toNatClampNeg) (u.2.1 21 y10.toNatClampNeg)) (fun u11 =>
          lM_matches_51 n u11 p1 p2 y10))
      else
        if (u.1 6) = 0 then
          if (u.1 7) = 0 then
            lM_matches_141 100 u p1 p2 0
          else
            if (u.1 6) = 0 then
              if (u.1 7) = 0 then
                (0, u)
              else
                (1, u)
            else
              bnd2 (sM_finds u (u.1 6)) (fun r9 u9 =>
              (r9, u9))
        else
          lM_matches_141 100 u p1 p2 0) := rfl
theorem oklM_matches_51_s (n : Nat) (u : St) (p1 : Int32) (p2 : Int32) (x3 : Int32) : oklM_matches_51 (n + 1) u p1 p2 x3 ↔ ((((u.1 5) ≤ 0) → (((u.1 6) = 0) → (((u.1 7) = 0) → oklM_matches_141 100 u p1 p2 0) ∧ (¬ ((u.1 7) = 0) → (((u.1 6) = 0) → True) ∧ (¬ ((u.1 6) = 0) → (okM_finds u (u.1 6)) ∧ (True)))) ∧ (¬ ((u.1 6) = 0) → oklM_matches_141 100 u p1 p2 0)) ∧ (¬ ((u.1 5) ≤ 0) → (((u.1 6) = 0) → bnd ((u.1 5) - 1) (fun y10 => (vp_in y10 64) ∧ ((((u.2.1 21 y10.toNatClampNeg) = 0) → (vp_in y10 64) ∧ ((vp_in y10 64) ∧ ((okM_begins u (u.2.1 19 y10.toNatClampNeg) (u.2.1 20 y10.toNatClampNeg)) ∧ (bnd (sM_begins u (u.2.1 19 y10.toNatClampNeg) (u.2.1 20 y10.toNatClampNeg)) (fun u12 => oklM_matches_51 n u12 p1 p2 y10))))) ∧ (¬ ((u.2.1 21 y10.toNatClampNeg) = 0) → (vp_in y10 64) ∧ ((vp_in y10 64) ∧ ((vp_in y10 64) ∧ ((okM_goesOn u (u.2.1 19 y10.toNatClampNeg) (u.2.1 20 y10.toNatClampNeg) (u.2.1 21 y10.toNatClampNeg)) ∧ (bnd (sM_goesOn u (u.2.1 19 y10.toNatClampNeg) (u.2.1 20 y10.toNatClampNeg) (u.2.1 21 y10.toNatClampNeg)) (fun u11 => oklM_matches_51 n u11 p1 p2 y10))))))))) ∧ (¬ ((u.1 6) = 0) → (((u.1 6) = 0) → (((u.1 7) = 0) → oklM_matches_141 100 u p1 p2 0) ∧ (¬ ((u.1 7) = 0) → (((u.1 6) = 0) → True) ∧ (¬ ((u.1 6) = 0) → (okM_finds u (u.1 6)) ∧ (True)))) ∧ (¬ ((u.1 6) = 0) → oklM_matches_141 100 u p1 p2 0)))) := Iff.rfl
theorem lM_matches_2_s (n : Nat) (u : St) (p1 : Int32) (p2 : Int32) (x3 : Int32) : lM_matches_2 (n + 1) u p1 p2 x3 = (if 4 ≤ x3 then
      bnd (stI u 4 0) (fun u1 =>
      bnd (stI u1 5 0) (fun u2 =>
      bnd (stI u2 6 0) (fun u3 =>
      bnd (stI u3 7 0) (fun u4 =>
      bnd (sM_look u4 p1 p2) (fun u5 =>
      lM_matches_51 1000 u5 p1 p2 x3)))))
    else
      bnd (stA u 17 x3.toNatClampNeg (u.2.1 16 x3.toNatClampNeg)) (fun u13 =>
      lM_matches_2 n u13 p1 p2 (x3 + 1))) := rfl
theorem oklM_matches_2_s (n : Nat) (u : St) (p1 : Int32) (p2 : Int32) (x3 : Int32) : oklM_matches_2 (n + 1) u p1 p2 x3 ↔ (((4 ≤ x3) → bnd (stI u 4 0) (fun u1 => bnd (stI u1 5 0) (fun u2 => bnd (stI u2 6 0) (fun u3 => bnd (stI u3 7 0) (fun u4 => (okM_look u4 p1 p2) ∧ (bnd (sM_look u4 p1 p2) (fun u5 => oklM_matches_51 1000 u5 p1 p2 x3))))))) ∧ (¬ (4 ≤ x3) → (vp_in x3 4) ∧ ((vp_in x3 4) ∧ (bnd (stA u 17 x3.toNatClampNeg (u.2.1 16 x3.toNatClampNeg)) (fun u13 => oklM_matches_2 n u13 p1 p2 (x3 + 1)))))) := Iff.rfl
def sM_match (u : St) (p1 : Int32) (p2 : Int32) : Int32 × St :=
  bnd (stI u 0 0) (fun u1 =>
  if (sM_isPattern u1 p1) = 0 then
    ((-1), u1)
  else
    if (sM_isThingOrNone u1 p2) = 0 then
      ((-1), u1)
    else
      (sM_matches u1 p1 p2))
def okM_match (u : St) (p1 : Int32) (p2 : Int32) : Prop := bnd (stI u 0 0) (fun u1 => (((sM_isPattern u1 p1) = 0) → True) ∧ (¬ ((sM_isPattern u1 p1) = 0) → (((sM_isThingOrNone u1 p2) = 0) → True) ∧ (¬ ((sM_isThingOrNone u1 p2) = 0) → (okM_matches u1 p1 p2) ∧ (True))))
def sM_slot (u : St) (p1 : Int32) : Int32 × St :=
  bnd (stI u 0 0) (fun u1 =>
  if (sM_in p1 0 3) = 0 then
    ((-2), u1)
  else
    ((u1.2.1 16 p1.toNatClampNeg), u1))
def okM_slot (u : St) (p1 : Int32) : Prop := bnd (stI u 0 0) (fun u1 => (((sM_in p1 0 3) = 0) → True) ∧ (¬ ((sM_in p1 0 3) = 0) → (vp_in p1 4) ∧ (True)))
def sM_rule (u : St) (p1 : Int32) (p2 : Int32) (p3 : Int32) (p4 : Int32) : Int32 × St :=
  bnd (stI u 0 0) (fun u1 =>
  if (sM_isPattern u1 p1) = 0 then
    ((-1), u1)
  else
    if (sM_in p2 0 5) = 0 then
      ((-2), u1)
    else
      if p2 = 1 then
        if (sM_in p3 7 13) = 0 then
          ((-2), u1)
        else
          if (u1.1 3) = 16 then
            ((-4), u1)
          else
            bnd (stA u1 10 (u1.1 3).toNatClampNeg p1) (fun u9 =>
            bnd (stA u9 11 (u9.1 3).toNatClampNeg p2) (fun u10 =>
            bnd (stA u10 12 (u10.1 3).toNatClampNeg p3) (fun u11 =>
            bnd (stA u11 13 (u11.1 3).toNatClampNeg p4) (fun u12 =>
            bnd (stA u12 14 (u12.1 3).toNatClampNeg 0) (fun u13 =>
            bnd (stA u13 15 (u13.1 3).toNatClampNeg 0) (fun u14 =>
            bnd (stI u14 3 ((u14.1 3) + 1)) (fun u15 =>
            (((u15.1 3) - 1), u15))))))))
      else
        if (u1.1 3) = 16 then
          ((-4), u1)
        else
          bnd (stA u1 10 (u1.1 3).toNatClampNeg p1) (fun u2 =>
          bnd (stA u2 11 (u2.1 3).toNatClampNeg p2) (fun u3 =>
          bnd (stA u3 12 (u3.1 3).toNatClampNeg p3) (fun u4 =>
          bnd (stA u4 13 (u4.1 3).toNatClampNeg p4) (fun u5 =>
          bnd (stA u5 14 (u5.1 3).toNatClampNeg 0) (fun u6 =>
          bnd (stA u6 15 (u6.1 3).toNatClampNeg 0) (fun u7 =>
          bnd (stI u7 3 ((u7.1 3) + 1)) (fun u8 =>
          (((u8.1 3) - 1), u8)))))))))
def okM_rule (u : St) (p1 : Int32) (p2 : Int32) (p3 : Int32) (p4 : Int32) : Prop := bnd (stI u 0 0) (fun u1 => (((sM_isPattern u1 p1) = 0) → True) ∧ (¬ ((sM_isPattern u1 p1) = 0) → (((sM_in p2 0 5) = 0) → True) ∧ (¬ ((sM_in p2 0 5) = 0) → ((p2 = 1) → (((sM_in p3 7 13) = 0) → True) ∧ (¬ ((sM_in p3 7 13) = 0) → (((u1.1 3) = 16) → True) ∧ (¬ ((u1.1 3) = 16) → (vp_in (u1.1 3) 16) ∧ (bnd (stA u1 10 (u1.1 3).toNatClampNeg p1) (fun u9 => (vp_in (u9.1 3) 16) ∧ (bnd (stA u9 11 (u9.1 3).toNatClampNeg p2) (fun u10 => (vp_in (u10.1 3) 16) ∧ (bnd (stA u10 12 (u10.1 3).toNatClampNeg p3) (fun u11 => (vp_in (u11.1 3) 16) ∧ (bnd (stA u11 13 (u11.1 3).toNatClampNeg p4) (fun u12 => (vp_in (u12.1 3) 16) ∧ (bnd (stA u12 14 (u12.1 3).toNatClampNeg 0) (fun u13 => (vp_in (u13.1 3) 16) ∧ (True)))))))))))))) ∧ (¬ (p2 = 1) → (((u1.1 3) = 16) → True) ∧ (¬ ((u1.1 3) = 16) → (vp_in (u1.1 3) 16) ∧ (bnd (stA u1 10 (u1.1 3).toNatClampNeg p1) (fun u2 => (vp_in (u2.1 3) 16) ∧ (bnd (stA u2 11 (u2.1 3).toNatClampNeg p2) (fun u3 => (vp_in (u3.1 3) 16) ∧ (bnd (stA u3 12 (u3.1 3).toNatClampNeg p3) (fun u4 => (vp_in (u4.1 3) 16) ∧ (bnd (stA u4 13 (u4.1 3).toNatClampNeg p4) (fun u5 => (vp_in (u5.1 3) 16) ∧ (bnd (stA u5 14 (u5.1 3).toNatClampNeg 0) (fun u6 => (vp_in (u6.1 3) 16) ∧ (True))))))))))))))))
def sM_grows (u : St) (p1 : Int32) (p2 : Int32) : Int32 × St :=
  bnd (sM_taken u p1 4 p2) (fun y1 =>
  if y1 = 0 then
    bnd (stL u ((6 * p1) + p2).toNatClampNeg (((((u.2.2 ((6 * p1) + p2).toNatClampNeg) + 1).toInt32) : Int32).toInt64)) (fun u2 =>
    (1, u2))
  else
    (sM_finds u y1))
def okM_grows (u : St) (p1 : Int32) (p2 : Int32) : Prop := (okM_taken u p1 4 p2) ∧ (bnd (sM_taken u p1 4 p2) (fun y1 => ((y1 = 0) → (vp_in ((6 * p1) + p2) 480) ∧ ((vp_in ((6 * p1) + p2) 480) ∧ (True))) ∧ (¬ (y1 = 0) → (okM_finds u y1) ∧ (True))))
def sM_acts (u : St) (p1 : Int32) : Int32 × St :=
  bnd (u.2.1 16 (0 : Int32).toNatClampNeg) (fun y1 =>
  if (u.2.1 11 p1.toNatClampNeg) = 1 then
    (sM_lays u y1 (u.2.1 12 p1.toNatClampNeg) (u.2.1 13 p1.toNatClampNeg) (u.2.1 16 (1 : Int32).toNatClampNeg))
  else if (u.2.1 11 p1.toNatClampNeg) = 2 then
    (sM_halves u y1 0 (u.2.1 16 (1 : Int32).toNatClampNeg))
  else if (u.2.1 11 p1.toNatClampNeg) = 3 then
    (sM_halves u y1 1 (u.2.1 16 (1 : Int32).toNatClampNeg))
  else if (u.2.1 11 p1.toNatClampNeg) = 4 then
    bnd (stA u 16 (0 : Int32).toNatClampNeg (u.2.1 16 (1 : Int32).toNatClampNeg)) (fun u5 =>
    bnd (stA u5 16 (1 : Int32).toNatClampNeg y1) (fun u6 =>
    (1, u6)))
  else if (u.2.1 11 p1.toNatClampNeg) = 5 then
    (sM_grows u y1 (u.2.1 13 p1.toNatClampNeg))
  else (1, u))
def okM_acts (u : St) (p1 : Int32) : Prop := (vp_in 0 4) ∧ (bnd (u.2.1 16 (0 : Int32).toNatClampNeg) (fun y1 => (vp_in p1 16) ∧ ((((u.2.1 11 p1.toNatClampNeg) = 1) → (vp_in p1 16) ∧ ((vp_in p1 16) ∧ ((vp_in 1 4) ∧ ((okM_lays u y1 (u.2.1 12 p1.toNatClampNeg) (u.2.1 13 p1.toNatClampNeg) (u.2.1 16 (1 : Int32).toNatClampNeg)) ∧ (True))))) ∧ (¬ ((u.2.1 11 p1.toNatClampNeg) = 1) → (((u.2.1 11 p1.toNatClampNeg) = 2) → (vp_in 1 4) ∧ ((okM_halves u y1 0 (u.2.1 16 (1 : Int32).toNatClampNeg)) ∧ (True))) ∧ (¬ ((u.2.1 11 p1.toNatClampNeg) = 2) → (((u.2.1 11 p1.toNatClampNeg) = 3) → (vp_in 1 4) ∧ ((okM_halves u y1 1 (u.2.1 16 (1 : Int32).toNatClampNeg)) ∧ (True))) ∧ (¬ ((u.2.1 11 p1.toNatClampNeg) = 3) → (((u.2.1 11 p1.toNatClampNeg) = 4) → (vp_in 1 4) ∧ ((vp_in 0 4) ∧ (bnd (stA u 16 (0 : Int32).toNatClampNeg (u.2.1 16 (1 : Int32).toNatClampNeg)) (fun u5 => (vp_in 1 4) ∧ (True))))) ∧ (¬ ((u.2.1 11 p1.toNatClampNeg) = 4) → (((u.2.1 11 p1.toNatClampNeg) = 5) → (vp_in p1 16) ∧ ((okM_grows u y1 (u.2.1 13 p1.toNatClampNeg)) ∧ (True))) ∧ (¬ ((u.2.1 11 p1.toNatClampNeg) = 5) → True))))))))
def lM_apply_17 : Nat → St → Int32 → Int32 → Int32 × St
  | 0, u, _, _ => (0, u)
  | n + 1, u, p1, x2 =>
    if (u.1 3) ≤ x2 then
      ((-5), u)
    else
      bnd2 (sM_matches u (u.2.1 10 x2.toNatClampNeg) p1) (fun r2 u2 =>
      if 0 ≤ r2 then
        bnd (stA u2 15 x2.toNatClampNeg ((u2.2.1 15 x2.toNatClampNeg) + 0)) (fun u3 =>
        if r2 = 1 then
          bnd (stA u3 14 x2.toNatClampNeg ((u3.2.1 14 x2.toNatClampNeg) + 1)) (fun u4 =>
          bnd2 (sM_acts u4 x2) (fun r5 u5 =>
          if 0 ≤ r5 then
            (x2, u5)
          else
            (r5, u5)))
        else
          lM_apply_17 n u3 p1 (x2 + 1))
      else
        bnd (stA u2 15 x2.toNatClampNeg ((u2.2.1 15 x2.toNatClampNeg) + 1)) (fun u6 =>
        if r2 = 1 then
          bnd (stA u6 14 x2.toNatClampNeg ((u6.2.1 14 x2.toNatClampNeg) + 1)) (fun u7 =>
          bnd2 (sM_acts u7 x2) (fun r8 u8 =>
          if 0 ≤ r8 then
            (x2, u8)
          else
            (r8, u8)))
        else
          lM_apply_17 n u6 p1 (x2 + 1)))
def oklM_apply_17 : Nat → St → Int32 → Int32 → Prop
  | 0, _, _, _ => False
  | n + 1, u, p1, x2 => (((u.1 3) ≤ x2) → True) ∧ (¬ ((u.1 3) ≤ x2) → (vp_in x2 16) ∧ ((okM_matches u (u.2.1 10 x2.toNatClampNeg) p1) ∧ (bnd2 (sM_matches u (u.2.1 10 x2.toNatClampNeg) p1) (fun r2 u2 => (vp_in x2 16) ∧ (((0 ≤ r2) → (vp_in x2 16) ∧ (bnd (stA u2 15 x2.toNatClampNeg ((u2.2.1 15 x2.toNatClampNeg) + 0)) (fun u3 => ((r2 = 1) → (vp_in x2 16) ∧ ((vp_in x2 16) ∧ (bnd (stA u3 14 x2.toNatClampNeg ((u3.2.1 14 x2.toNatClampNeg) + 1)) (fun u4 => (okM_acts u4 x2) ∧ (True))))) ∧ (¬ (r2 = 1) → oklM_apply_17 n u3 p1 (x2 + 1))))) ∧ (¬ (0 ≤ r2) → (vp_in x2 16) ∧ (bnd (stA u2 15 x2.toNatClampNeg ((u2.2.1 15 x2.toNatClampNeg) + 1)) (fun u6 => ((r2 = 1) → (vp_in x2 16) ∧ ((vp_in x2 16) ∧ (bnd (stA u6 14 x2.toNatClampNeg ((u6.2.1 14 x2.toNatClampNeg) + 1)) (fun u7 => (okM_acts u7 x2) ∧ (True))))) ∧ (¬ (r2 = 1) → oklM_apply_17 n u6 p1 (x2 + 1))))))))))
def sM_apply (u : St) (p1 : Int32) : Int32 × St :=
  bnd (stI u 0 0) (fun u1 =>
  if (sM_isThing u1 p1) = 0 then
    ((-1), u1)
  else
    lM_apply_17 100 u1 p1 0)
def okM_apply (u : St) (p1 : Int32) : Prop := bnd (stI u 0 0) (fun u1 => (((sM_isThing u1 p1) = 0) → True) ∧ (¬ ((sM_isThing u1 p1) = 0) → oklM_apply_17 100 u1 p1 0))
theorem lM_apply_17_s (n : Nat) (u : St) (p1 : Int32) (x2 : Int32) : lM_apply_17 (n + 1) u p1 x2 = (if (u.1 3) ≤ x2 then
      ((-5), u)
    else
      bnd2 (sM_matches u (u.2.1 10 x2.toNatClampNeg) p1) (fun r2 u2 =>
      if 0 ≤ r2 then
        bnd (stA u2 15 x2.toNatClampNeg ((u2.2.1 15 x2.toNatClampNeg) + 0)) (fun u3 =>
        if r2 = 1 then
          bnd (stA u3 14 x2.toNatClampNeg ((u3.2.1 14 x2.toNatClampNeg) + 1)) (fun u4 =>
          bnd2 (sM_acts u4 x2) (fun r5 u5 =>
          if 0 ≤ r5 then
            (x2, u5)
          else
            (r5, u5)))
        else
          lM_apply_17 n u3 p1 (x2 + 1))
      else
        bnd (stA u2 15 x2.toNatClampNeg ((u2.2.1 15 x2.toNatClampNeg) + 1)) (fun u6 =>
        if r2 = 1 then
          bnd (stA u6 14 x2.toNatClampNeg ((u6.2.1 14 x2.toNatClampNeg) + 1)) (fun u7 =>
          bnd2 (sM_acts u7 x2) (fun r8 u8 =>
          if 0 ≤ r8 then
            (x2, u8)
          else
            (r8, u8)))
        else
          lM_apply_17 n u6 p1 (x2 + 1)))) := rfl
theorem oklM_apply_17_s (n : Nat) (u : St) (p1 : Int32) (x2 : Int32) : oklM_apply_17 (n + 1) u p1 x2 ↔ ((((u.1 3) ≤ x2) → True) ∧ (¬ ((u.1 3) ≤ x2) → (vp_in x2 16) ∧ ((okM_matches u (u.2.1 10 x2.toNatClampNeg) p1) ∧ (bnd2 (sM_matches u (u.2.1 10 x2.toNatClampNeg) p1) (fun r2 u2 => (vp_in x2 16) ∧ (((0 ≤ r2) → (vp_in x2 16) ∧ (bnd (stA u2 15 x2.toNatClampNeg ((u2.2.1 15 x2.toNatClampNeg) + 0)) (fun u3 => ((r2 = 1) → (vp_in x2 16) ∧ ((vp_in x2 16) ∧ (bnd (stA u3 14 x2.toNatClampNeg ((u3.2.1 14 x2.toNatClampNeg) + 1)) (fun u4 => (okM_acts u4 x2) ∧ (True))))) ∧ (¬ (r2 = 1) → oklM_apply_17 n u3 p1 (x2 + 1))))) ∧ (¬ (0 ≤ r2) → (vp_in x2 16) ∧ (bnd (stA u2 15 x2.toNatClampNeg ((u2.2.1 15 x2.toNatClampNeg) + 1)) (fun u6 => ((r2 = 1) → (vp_in x2 16) ∧ ((vp_in x2 16) ∧ (bnd (stA u6 14 x2.toNatClampNeg ((u6.2.1 14 x2.toNatClampNeg) + 1)) (fun u7 => (okM_acts u7 x2) ∧ (True))))) ∧ (¬ (r2 = 1) → oklM_apply_17 n u6 p1 (x2 + 1))))))))))) := Iff.rfl
def sM_told (u : St) (p1 : Int32) (p2 : Int32) : Int32 × St :=
  bnd (stI u 0 0) (fun u1 =>
  if (sM_in p1 0 ((u1.1 3) - 1)) = 0 then
    ((-1), u1)
  else
    if p2 = 0 then
      ((u1.2.1 14 p1.toNatClampNeg), u1)
    else
      if p2 = 1 then
        ((u1.2.1 15 p1.toNatClampNeg), u1)
      else
        ((-2), u1))
def okM_told (u : St) (p1 : Int32) (p2 : Int32) : Prop := bnd (stI u 0 0) (fun u1 => (((sM_in p1 0 ((u1.1 3) - 1)) = 0) → True) ∧ (¬ ((sM_in p1 0 ((u1.1 3) - 1)) = 0) → ((p2 = 0) → (vp_in p1 16) ∧ (True)) ∧ (¬ (p2 = 0) → ((p2 = 1) → (vp_in p1 16) ∧ (True)) ∧ (¬ (p2 = 1) → True))))
def sM_count (u : St) (p1 : Int32) : Int32 × St :=
  bnd (stI u 0 0) (fun u1 =>
  if p1 = 0 then
    ((u1.1 1), u1)
  else if p1 = 1 then
    ((u1.1 2), u1)
  else if p1 = 2 then
    ((u1.1 3), u1)
  else if p1 = 3 then
    ((u1.1 4), u1)
  else if (sM_in p1 4 9) = 0 then
    ((-2), u1)
  else
    ((u1.2.1 18 (p1 - 3).toNatClampNeg), u1))
def okM_count (u : St) (p1 : Int32) : Prop := bnd (stI u 0 0) (fun u1 => ((p1 = 0) → True) ∧ (¬ (p1 = 0) → ((p1 = 1) → True) ∧ (¬ (p1 = 1) → ((p1 = 2) → True) ∧ (¬ (p1 = 2) → ((p1 = 3) → True) ∧ (¬ (p1 = 3) → (((sM_in p1 4 9) = 0) → True) ∧ (¬ ((sM_in p1 4 9) = 0) → (vp_in (p1 - 3) 7) ∧ (True)))))))
def lM_clear_53 : Nat → St → Int32 → Int32 → Int32 × St
  | 0, u, _, _ => (0, u)
  | n + 1, u, x1, x2 =>
    if 7 ≤ x2 then
      (x1, u)
    else
      bnd (stA u 18 x2.toNatClampNeg 0) (fun u7 =>
      lM_clear_53 n u7 x1 (x2 + 1))
def oklM_clear_53 : Nat → St → Int32 → Int32 → Prop
  | 0, _, _, _ => False
  | n + 1, u, x1, x2 => ((7 ≤ x2) → True) ∧ (¬ (7 ≤ x2) → (vp_in x2 7) ∧ (bnd (stA u 18 x2.toNatClampNeg 0) (fun u7 => oklM_clear_53 n u7 x1 (x2 + 1))))
def lM_clear_32 : Nat → St → Int32 → Int32 → Int32 × St
  | 0, u, _, _ => (0, u)
  | n + 1, u, x1, x2 =>
    if 4 ≤ x2 then
      lM_clear_53 100 u x1 0
    else
      bnd (stA u 16 x2.toNatClampNeg (-5)) (fun u8 =>
      lM_clear_32 n u8 x1 (x2 + 1))
def oklM_clear_32 : Nat → St → Int32 → Int32 → Prop
  | 0, _, _, _ => False
  | n + 1, u, x1, x2 => ((4 ≤ x2) → oklM_clear_53 100 u x1 0) ∧ (¬ (4 ≤ x2) → (vp_in x2 4) ∧ (bnd (stA u 16 x2.toNatClampNeg (-5)) (fun u8 => oklM_clear_32 n u8 x1 (x2 + 1))))
def sM_clear (u : St)  : Int32 × St :=
  bnd (stI u 0 0) (fun u1 =>
  bnd (u1.1 1) (fun y2 =>
  bnd (stI u1 1 0) (fun u3 =>
  bnd (stI u3 2 0) (fun u4 =>
  bnd (stI u4 3 0) (fun u5 =>
  bnd (stI u5 4 0) (fun u6 =>
  lM_clear_32 100 u6 y2 0))))))
def okM_clear (u : St)  : Prop := bnd (stI u 0 0) (fun u1 => bnd (u1.1 1) (fun y2 => bnd (stI u1 1 0) (fun u3 => bnd (stI u3 2 0) (fun u4 => bnd (stI u4 3 0) (fun u5 => bnd (stI u5 4 0) (fun u6 => oklM_clear_32 100 u6 y2 0))))))
theorem lM_clear_53_s (n : Nat) (u : St)  (x1 : Int32) (x2 : Int32) : lM_clear_53 (n + 1) u x1 x2 = (if 7 ≤ x2 then
      (x1, u)
    else
      bnd (stA u 18 x2.toNatClampNeg 0) (fun u7 =>
      lM_clear_53 n u7 x1 (x2 + 1))) := rfl
theorem oklM_clear_53_s (n : Nat) (u : St)  (x1 : Int32) (x2 : Int32) : oklM_clear_53 (n + 1) u x1 x2 ↔ (((7 ≤ x2) → True) ∧ (¬ (7 ≤ x2) → (vp_in x2 7) ∧ (bnd (stA u 18 x2.toNatClampNeg 0) (fun u7 => oklM_clear_53 n u7 x1 (x2 + 1))))) := Iff.rfl
theorem lM_clear_32_s (n : Nat) (u : St)  (x1 : Int32) (x2 : Int32) : lM_clear_32 (n + 1) u x1 x2 = (if 4 ≤ x2 then
      lM_clear_53 100 u x1 0
    else
      bnd (stA u 16 x2.toNatClampNeg (-5)) (fun u8 =>
      lM_clear_32 n u8 x1 (x2 + 1))) := rfl
theorem oklM_clear_32_s (n : Nat) (u : St)  (x1 : Int32) (x2 : Int32) : oklM_clear_32 (n + 1) u x1 x2 ↔ (((4 ≤ x2) → oklM_clear_53 100 u x1 0) ∧ (¬ (4 ≤ x2) → (vp_in x2 4) ∧ (bnd (stA u 16 x2.toNatClampNeg (-5)) (fun u8 => oklM_clear_32 n u8 x1 (x2 + 1))))) := Iff.rfl
