def fK_isClass (k : kK) (x1 : Int32) : Int32 :=
  if x1 < 0 then
    0
  else
    if (kK_classes k) ≤ x1 then
      0
    else
      1
def fK_isAge (k : kK) (x1 : Int32) : Int32 :=
  if x1 < 0 then
    0
  else
    if (kK_ages k) ≤ x1 then
      0
    else
      1
def fK_isPlace (x0 : Int32) : Int32 :=
  if x0 < 0 then
    0
  else
    if 4 ≤ x0 then
      0
    else
      1
def fK_sizeIn (k : kK) (σ : sK) (x1 : Int32) (x2 : Int32) : Option Int32 :=
  (kld (kK_n k 3) (sK_groupSize σ) ((x1 * (kK_classes k)) + x2)).bind fun v12 =>
  some v12
def fK_cell (k : kK) (x1 : Int32) (x2 : Int32) (x3 : Int32) : Int32 :=
  ((((x1 * (kK_classes k)) + x2) * (kK_ages k)) + x3)
def fK_countReading (k : kK) (σ : sK) (x1 : Int32) (x2 : Int32) (x3 : Int32) : Option sK :=
  (kld (kK_n k 4) (sK_groupOf σ) x2).bind fun v5 =>
  (kld (kK_n k 0) (sK_readings σ) (fK_cell k x1 x2 x3)).bind fun v20 =>
  (kstI (kK_n k 0) (sK_readings σ) (fK_cell k x1 x2 x3) (v20 + 1)).bind fun a23 =>
  (kld (kK_n k 1) (sK_rowSize (uK_readings σ a23)) x1).bind fun v30 =>
  (kstI (kK_n k 1) (sK_rowSize (uK_readings σ a23)) x1 (v30 + 1)).bind fun a33 =>
  (kld (kK_n k 2) (sK_groupReadings (uK_rowSize (uK_readings σ a23) a33)) (fK_cell k x1 v5 x3)).bind fun v47 =>
  (kstI (kK_n k 2) (sK_groupReadings (uK_rowSize (uK_readings σ a23) a33)) (fK_cell k x1 v5 x3) (v47 + 1)).bind fun a50 =>
  (kld (kK_n k 3) (sK_groupSize (uK_groupReadings (uK_rowSize (uK_readings σ a23) a33) a50)) ((x1 * (kK_classes k)) + v5)).bind fun v65 =>
  (kstI (kK_n k 3) (sK_groupSize (uK_groupReadings (uK_rowSize (uK_readings σ a23) a33) a50)) ((x1 * (kK_classes k)) + v5) (v65 + 1)).bind fun a68 =>
  some (uK_groupSize (uK_groupReadings (uK_rowSize (uK_readings σ a23) a33) a50) a68)
def fK_read (k : kK) (σ : sK) (x1 : Int32) (x2 : Int32) (x3 : Int32) : Option (Int32 × sK) :=
  if (fK_isClass k x1) = 0 then
    some (0, σ)
  else
    if (fK_isAge k x2) = 0 then
      some (0, σ)
    else
      if (fK_isPlace x3) = 0 then
        some (0, σ)
      else
        (kld (kK_n k 4) (sK_groupOf σ) x1).bind fun v32 =>
        (fK_sizeIn k σ 4 v32).bind fun v33 =>
        if 20 ≤ v33 then
          some (0, σ)
        else
          (kld (kK_n k 1) (sK_rowSize σ) 4).bind fun v46 =>
          if v46 < 100 then
            (fK_countReading k σ x3 x1 x2).bind fun s58 =>
            (fK_countReading k s58 4 x1 x2).bind fun s65 =>
            some (1, s65)
          else
            some (0, σ)
def fK_place_25 (k : kK) (σ : sK) (y1 : Int32) : Option (Int32 × sK) :=
  (kld (kK_n k 1) (sK_rowSize (uK_chosenRow σ y1)) (sK_chosenRow (uK_chosenRow σ y1))).bind fun v36 =>
  some (v36, (uK_chosenRow σ y1))
def fK_place_14 (k : kK) (σ : sK) (x1 : Int32) : Option (Int32 × sK) :=
  if x1 = (-1) then
    fK_place_25 k σ 4
  else
    fK_place_25 k σ x1
def fK_place (k : kK) (σ : sK) (x1 : Int32) : Option (Int32 × sK) :=
  if x1 = (-1) then
    fK_place_14 k σ x1
  else
    if (fK_isPlace x1) = 0 then
      some ((-1), σ)
    else
      fK_place_14 k σ x1
def fK_isZeroOrOne_9 : Int32 :=
  1
def fK_isZeroOrOne (x0 : Int32) : Int32 :=
  if x0 = 0 then
    fK_isZeroOrOne_9
  else
    if x0 = 1 then
      fK_isZeroOrOne_9
    else
      0
def fK_own (k : kK) (σ : sK) (x1 : Int32) : Option Int32 :=
  (fK_sizeIn k σ (sK_chosenRow σ) x1).bind fun v6 =>
  some v6
def fK_sourceOf (k : kK) (σ : sK) (x1 : Int32) : Option Int32 :=
  (fK_own k σ x1).bind fun v2 =>
  if v2 ≤ 0 then
    (kld (kK_n k 5) (sK_filledBy σ) x1).bind fun v15 =>
    if v15 = (-1) then
      some (-1)
    else
      (fK_own k σ v15).bind fun v24 =>
      if v24 ≤ 0 then
        some (-1)
      else
        some v15
  else
    some x1
def fK_ownOfAge (k : kK) (σ : sK) (x1 : Int32) (x2 : Int32) : Option Int32 :=
  (kld (kK_n k 2) (sK_groupReadings σ) (fK_cell k (sK_chosenRow σ) x1 x2)).bind fun v14 =>
  some v14
def fK_commonDivisor_9 (fu : Nat) : Nat → Int64 → Int64 → Int32 → Option Int64
  | 0, _, _, _ => none
  | n + 1, x4, x6, x8 =>
    if 100 ≤ x8 then
      some x4
    else
      if x6 = (0 : Int64) then
        some x4
      else
        (kremJ x4 x6).bind fun v27 =>
        fK_commonDivisor_9 fu n x6 v27 (x8 + 1)
def fK_commonDivisor (fu : Nat) (x0 : Int64) (x2 : Int64) : Option Int64 :=
  fK_commonDivisor_9 fu fu x0 x2 0
def fK_fractionPart (fu : Nat) (x0 : Int64) (x2 : Int64) (x4 : Int32) : Option Int64 :=
  (fK_commonDivisor fu (if 0 < x0 then x0 else -x0) x2).bind fun v5 =>
  if (0 : Int64) < v5 then
    if x4 = 0 then
      (kdivJ x0 v5).bind fun v33 =>
      some v33
    else
      (kdivJ x2 v5).bind fun v33 =>
      some v33
  else
    some (-1 : Int64)
def fK_share (fu : Nat) (k : kK) (σ : sK) (x1 : Int32) (x2 : Int32) (x3 : Int32) : Option Int64 :=
  if (fK_isClass k x1) = 0 then
    some (-1 : Int64)
  else
    if (fK_isAge k x2) = 0 then
      some (-1 : Int64)
    else
      if (fK_isZeroOrOne x3) = 0 then
        some (-1 : Int64)
      else
        (kld (kK_n k 4) (sK_groupOf σ) x1).bind fun v33 =>
        (fK_sourceOf k σ v33).bind fun v34 =>
        if v34 = (-1) then
          some (-1 : Int64)
        else
          (fK_ownOfAge k σ v34 x2).bind fun v53 =>
          (fK_own k σ v34).bind fun v60 =>
          (fK_fractionPart fu v53.toInt64 v60.toInt64 x3).bind fun v65 =>
          some v65
def fK_without_117 (fu : Nat) (k : kK) (σ : sK) (y0 : Int64) (x4 : Int32) (x5 : Int32) : Option Int64 :=
  (fK_fractionPart fu y0 ((x5 - 1).toInt64) x4).bind fun v124 =>
  some v124
def fK_without_99 (fu : Nat) (k : kK) (σ : sK) (y0 : Int32) (x4 : Int32) (x5 : Int32) (x6 : Int32) : Option Int64 :=
  if y0 = 0 then
    fK_without_117 fu k σ x6.toInt64 x4 x5
  else
    fK_without_117 fu k σ ((x6 - 1).toInt64) x4 x5
def fK_without (fu : Nat) (k : kK) (σ : sK) (x1 : Int32) (x2 : Int32) (x3 : Int32) (x4 : Int32) : Option Int64 :=
  if (fK_isClass k x1) = 0 then
    some (-1 : Int64)
  else
    if (fK_isAge k x2) = 0 then
      some (-1 : Int64)
    else
      if (fK_isZeroOrOne x3) = 0 then
        some (-1 : Int64)
      else
        if (fK_isZeroOrOne x4) = 0 then
          some (-1 : Int64)
        else
          (kld (kK_n k 4) (sK_groupOf σ) x1).bind fun v41 =>
          (fK_own k σ v41).bind fun v42 =>
          if 2 ≤ v42 then
            (kld (kK_n k 4) (sK_groupOf σ) x1).bind fun v63 =>
            (fK_ownOfAge k σ v63 x2).bind fun v65 =>
            if x3 = 0 then
              if v65 ≤ 0 then
                fK_without_99 fu k σ 0 x4 v42 v65
              else
                fK_without_99 fu k σ 1 x4 v42 v65
            else
              if v65 = v42 then
                fK_without_99 fu k σ 1 x4 v42 v65
              else
                fK_without_99 fu k σ 0 x4 v42 v65
          else
            some (-1 : Int64)
def fK_isLeastOfGroup (k : kK) (σ : sK) (x1 : Int32) : Option Int32 :=
  (kld (kK_n k 4) (sK_groupOf σ) x1).bind fun v5 =>
  if v5 = x1 then
    some 1
  else
    some 0
def fK_empty_4 (fu : Nat) (k : kK) (σ : sK) : Nat → Int32 → Int32 → Int32 → Option Int32
  | 0, _, _, _ => none
  | n + 1, x1, x2, x3 =>
    if (kK_classes k) ≤ x3 then
      some (-1)
    else
      (fK_isLeastOfGroup k σ x3).bind fun v14 =>
      if v14 = 0 then
        fK_empty_4 fu k σ n x1 x2 (x3 + 1)
      else
        (fK_own k σ x3).bind fun v22 =>
        if v22 = 0 then
          (kld (kK_n k 5) (sK_filledBy σ) x3).bind fun v33 =>
          if v33 = (-1) then
            if x2 = x1 then
              some x3
            else
              fK_empty_4 fu k σ n x1 (x2 + 1) (x3 + 1)
          else
            fK_empty_4 fu k σ n x1 x2 (x3 + 1)
        else
          fK_empty_4 fu k σ n x1 x2 (x3 + 1)
def fK_empty (fu : Nat) (k : kK) (σ : sK) (x1 : Int32) : Option Int32 :=
  fK_empty_4 fu k σ fu x1 0 0
def fK_distanceTo_8 (fu : Nat) (k : kK) (σ : sK) : Nat → Int32 → Int32 → Int32 → Int32 → Option Int32
  | 0, _, _, _, _ => none
  | n + 1, x1, x2, x3, x4 =>
    if (kK_classes k) ≤ x4 then
      some x3
    else
      (kld (kK_n k 4) (sK_groupOf σ) x4).bind fun v23 =>
      if v23 = x1 then
        fK_distanceTo_8 fu k σ n x1 x2 (if (if 0 ≤ (x4 - x2) then (x4 - x2) else 0 - (x4 - x2)) < x3 then (if 0 ≤ (x4 - x2) then (x4 - x2) else 0 - (x4 - x2)) else x3) (x4 + 1)
      else
        fK_distanceTo_8 fu k σ n x1 x2 x3 (x4 + 1)
def fK_distanceTo (fu : Nat) (k : kK) (σ : sK) (x1 : Int32) (x2 : Int32) : Option Int32 :=
  fK_distanceTo_8 fu k σ fu x1 x2 (kK_classes k) 0
def fK_nearestWithReadings_67 (fu : Nat) (k : kK) (σ : sK) (h10 : Int32 → Int32 → Int32 → Int32 → Option Int32) (x1 : Int32) (x4 : Int32) (x5 : Int32) (x6 : Int32) : Option Int32 :=
  h10 x1 x5 x6 (x4 + 1)
def fK_nearestWithReadings_10 (fu : Nat) (k : kK) (σ : sK) : Nat → Int32 → Int32 → Int32 → Int32 → Option Int32
  | 0, _, _, _, _ => none
  | n + 1, x1, x2, x3, x4 =>
    if (kK_classes k) ≤ x4 then
      some x2
    else
      (kld (kK_n k 4) (sK_groupOf σ) x4).bind fun v25 =>
      (fK_own k σ v25).bind fun v31 =>
      if v31 = 0 then
        fK_nearestWithReadings_10 fu k σ n x1 x2 x3 (x4 + 1)
      else
        (fK_distanceTo fu k σ x1 x4).bind fun v44 =>
        if v44 < x3 then
          fK_nearestWithReadings_67 fu k σ (fK_nearestWithReadings_10 fu k σ n) x1 x4 v25 v44
        else
          if v44 = x3 then
            if x2 ≤ v25 then
              fK_nearestWithReadings_10 fu k σ n x1 x2 x3 (x4 + 1)
            else
              fK_nearestWithReadings_67 fu k σ (fK_nearestWithReadings_10 fu k σ n) x1 x4 v25 v44
          else
            fK_nearestWithReadings_10 fu k σ n x1 x2 x3 (x4 + 1)
def fK_nearestWithReadings (fu : Nat) (k : kK) (σ : sK) (x1 : Int32) : Option Int32 :=
  fK_nearestWithReadings_10 fu k σ fu x1 (-1) (kK_classes k) 0
def fK_fill (fu : Nat) (k : kK) (σ : sK) (x1 : Int32) : Option (Int32 × sK) :=
  if (fK_isClass k x1) = 0 then
    some ((-1), σ)
  else
    (kld (kK_n k 4) (sK_groupOf σ) x1).bind fun v14 =>
    (fK_own k σ v14).bind fun v15 =>
    if v15 ≤ 0 then
      (kld (kK_n k 4) (sK_groupOf σ) x1).bind fun v29 =>
      (fK_nearestWithReadings fu k σ v29).bind fun v30 =>
      if v30 = (-1) then
        some (v30, σ)
      else
        (kld (kK_n k 4) (sK_groupOf σ) x1).bind fun v48 =>
        (kstI (kK_n k 5) (sK_filledBy σ) v48 v30).bind fun a50 =>
        some (v30, (uK_filledBy σ a50))
    else
      some ((-1), σ)
def fK_marked (k : kK) (σ : sK) (x1 : Int32) : Option Int32 :=
  if (fK_isClass k x1) = 0 then
    some 0
  else
    (kld (kK_n k 4) (sK_groupOf σ) x1).bind fun v17 =>
    (kld (kK_n k 5) (sK_filledBy σ) v17).bind fun v18 =>
    if v18 = (-1) then
      some 0
    else
      (kld (kK_n k 4) (sK_groupOf σ) x1).bind fun v29 =>
      (fK_own k σ v29).bind fun v30 =>
      if v30 = 0 then
        some 1
      else
        some 0
def fK_dropFills_44 (fu : Nat) (k : kK) (h16 : sK → Int32 → Int32 → Int32 → Option sK) (σ : sK) (x1 : Int32) (x2 : Int32) (x3 : Int32) : Option sK :=
  (kstI (kK_n k 5) (sK_filledBy σ) x3 (-1)).bind fun a50 =>
  h16 (uK_filledBy σ a50) x1 x2 (x3 + 1)
def fK_dropFills_16 (fu : Nat) (k : kK) : Nat → sK → Int32 → Int32 → Int32 → Option sK
  | 0, _, _, _, _ => none
  | n + 1, σ, x1, x2, x3 =>
    if (kK_classes k) ≤ x3 then
      some σ
    else
      (kld (kK_n k 5) (sK_filledBy σ) x3).bind fun v29 =>
      if v29 = x1 then
        fK_dropFills_44 fu k (fK_dropFills_16 fu k n) σ x1 x2 x3
      else
        (kld (kK_n k 5) (sK_filledBy σ) x3).bind fun v39 =>
        if v39 = x2 then
          fK_dropFills_44 fu k (fK_dropFills_16 fu k n) σ x1 x2 x3
        else
          fK_dropFills_16 fu k n σ x1 x2 (x3 + 1)
def fK_dropFills (fu : Nat) (k : kK) (σ : sK) (x1 : Int32) (x2 : Int32) : Option sK :=
  (kstI (kK_n k 5) (sK_filledBy σ) x1 (-1)).bind fun a6 =>
  (kstI (kK_n k 5) (sK_filledBy (uK_filledBy σ a6)) x2 (-1)).bind fun a13 =>
  fK_dropFills_16 fu k fu (uK_filledBy (uK_filledBy σ a6) a13) x1 x2 0
def fK_moveReadings_39 (fu : Nat) (k : kK) (h2 : sK → Int32 → Int32 → Int32 → Option sK) : Nat → sK → Int32 → Int32 → Int32 → Int32 → Option sK
  | 0, _, _, _, _, _ => none
  | n + 1, σ, x1, x2, x3, x4 =>
    if (kK_ages k) ≤ x4 then
      h2 σ x1 x2 (x3 + 1)
    else
      (kld (kK_n k 2) (sK_groupReadings σ) (fK_cell k x3 x1 x4)).bind fun v61 =>
      (kld (kK_n k 2) (sK_groupReadings σ) (fK_cell k x3 x2 x4)).bind fun v74 =>
      (kstI (kK_n k 2) (sK_groupReadings σ) (fK_cell k x3 x1 x4) (v61 + v74)).bind fun a76 =>
      fK_moveReadings_39 fu k h2 n (uK_groupReadings σ a76) x1 x2 x3 (x4 + 1)
def fK_moveReadings_2 (fu : Nat) (k : kK) : Nat → sK → Int32 → Int32 → Int32 → Option sK
  | 0, _, _, _, _ => none
  | n + 1, σ, x1, x2, x3 =>
    if 5 ≤ x3 then
      some σ
    else
      (kld (kK_n k 3) (sK_groupSize σ) ((x3 * (kK_classes k)) + x1)).bind fun v20 =>
      (kld (kK_n k 3) (sK_groupSize σ) ((x3 * (kK_classes k)) + x2)).bind fun v33 =>
      (kstI (kK_n k 3) (sK_groupSize σ) ((x3 * (kK_classes k)) + x1) (v20 + v33)).bind fun a35 =>
      fK_moveReadings_39 fu k (fK_moveReadings_2 fu k n) fu (uK_groupSize σ a35) x1 x2 x3 0
def fK_moveReadings (fu : Nat) (k : kK) (σ : sK) (x1 : Int32) (x2 : Int32) : Option sK :=
  fK_moveReadings_2 fu k fu σ x1 x2 0
def fK_joined_95 (fu : Nat) (k : kK) : Nat → sK → Int32 → Int32 → Int32 → Option (Int32 × sK)
  | 0, _, _, _, _ => none
  | n + 1, σ, x3, x4, x5 =>
    if (kK_classes k) ≤ x5 then
      some (x3, σ)
    else
      (kld (kK_n k 4) (sK_groupOf σ) x5).bind fun v110 =>
      if v110 = x4 then
        (kstI (kK_n k 4) (sK_groupOf σ) x5 x3).bind fun a123 =>
        fK_joined_95 fu k n (uK_groupOf σ a123) x3 x4 (x5 + 1)
      else
        fK_joined_95 fu k n σ x3 x4 (x5 + 1)
def fK_joined (fu : Nat) (k : kK) (σ : sK) (x1 : Int32) (x2 : Int32) : Option (Int32 × sK) :=
  if (fK_isClass k x1) = 0 then
    some ((-1), σ)
  else
    if (fK_isClass k x2) = 0 then
      some ((-1), σ)
    else
      (kld (kK_n k 4) (sK_groupOf σ) x1).bind fun v23 =>
      (kld (kK_n k 4) (sK_groupOf σ) x2).bind fun v29 =>
      (kld (kK_n k 4) (sK_groupOf σ) x1).bind fun v39 =>
      (kld (kK_n k 4) (sK_groupOf σ) x2).bind fun v45 =>
      if (if v29 < v23 then v29 else v23) = (if v39 < v45 then v45 else v39) then
        some ((-1), σ)
      else
        (fK_sizeIn k σ 4 (if v29 < v23 then v29 else v23)).bind fun v60 =>
        (fK_sizeIn k σ 4 (if v39 < v45 then v45 else v39)).bind fun v67 =>
        if (v60 + v67) ≤ 20 then
          (fK_dropFills fu k σ (if v29 < v23 then v29 else v23) (if v39 < v45 then v45 else v39)).bind fun s82 =>
          (fK_moveReadings fu k s82 (if v29 < v23 then v29 else v23) (if v39 < v45 then v45 else v39)).bind fun s89 =>
          fK_joined_95 fu k fu s89 (if v29 < v23 then v29 else v23) (if v39 < v45 then v45 else v39) 0
        else
          some ((-1), σ)
def fK_groups_4 (fu : Nat) (k : kK) (σ : sK) : Nat → Int32 → Int32 → Option Int32
  | 0, _, _ => none
  | n + 1, x1, x2 =>
    if (kK_classes k) ≤ x2 then
      some x1
    else
      (fK_isLeastOfGroup k σ x2).bind fun v14 =>
      if v14 = 0 then
        fK_groups_4 fu k σ n x1 (x2 + 1)
      else
        fK_groups_4 fu k σ n (x1 + 1) (x2 + 1)
def fK_groups (fu : Nat) (k : kK) (σ : sK) : Option Int32 :=
  fK_groups_4 fu k σ fu 0 0
def fK_sample (k : kK) (σ : sK) (x1 : Int32) (x2 : Int64) : Option (Int32 × sK) :=
  if (fK_isClass k x1) = 0 then
    some (0, σ)
  else
    if x2 < (0 : Int64) then
      some (0, σ)
    else
      if x2 ≤ ((10000 : Int64) - (sK_measuredInAll σ)) then
        (kld (kK_n k 6) (sK_measured σ) x1).bind fun v35 =>
        (kstJ (kK_n k 6) (sK_measured σ) x1 (v35 + x2)).bind fun a38 =>
        some (1, (uK_measuredInAll (uK_measured σ a38) ((sK_measuredInAll (uK_measured σ a38)) + x2)))
      else
        some (0, σ)
def fK_canRaise_27 (fu : Nat) (k : kK) (σ : sK) : Nat → Int32 → Option Int32
  | 0, _ => none
  | n + 1, x3 =>
    if (kK_classes k) ≤ x3 then
      some 1
    else
      (kld (kK_n k 6) (sK_measured σ) x3).bind fun v40 =>
      if v40 ≤ (0 : Int64) then
        fK_canRaise_27 fu k σ n (x3 + 1)
      else
        (kld (kK_n k 4) (sK_groupOf σ) x3).bind fun v52 =>
        (fK_sourceOf k σ v52).bind fun v53 =>
        if v53 = (-1) then
          some 0
        else
          fK_canRaise_27 fu k σ n (x3 + 1)
def fK_canRaise (fu : Nat) (k : kK) (σ : sK) (x1 : Int64) : Option Int32 :=
  if x1 < (0 : Int64) then
    some 0
  else
    if (10000 : Int64) < x1 then
      some 0
    else
      if (sK_measuredInAll σ) = (0 : Int64) then
        some 0
      else
        fK_canRaise_27 fu k σ fu 0
def fK_commonShare (k : kK) (σ : sK) (x1 : Int32) (x2 : Int32) : Option Int64 :=
  (fK_sourceOf k σ x1).bind fun v2 =>
  if v2 = (-1) then
    some (0 : Int64)
  else
    (fK_own k σ v2).bind fun v15 =>
    if v15 ≤ 0 then
      some (0 : Int64)
    else
      (fK_ownOfAge k σ v2 x2).bind fun v28 =>
      (kdivJ (232792560 : Int64) v15.toInt64).bind fun v38 =>
      some (v28.toInt64 * v38)
def fK_measuredOfAge_5 (fu : Nat) (k : kK) (σ : sK) : Nat → Int32 → Int64 → Int32 → Option Int64
  | 0, _, _, _ => none
  | n + 1, x1, x2, x4 =>
    if (kK_classes k) ≤ x4 then
      some x2
    else
      (kld (kK_n k 6) (sK_measured σ) x4).bind fun v20 =>
      if v20 ≤ (0 : Int64) then
        fK_measuredOfAge_5 fu k σ n x1 x2 (x4 + 1)
      else
        (kld (kK_n k 6) (sK_measured σ) x4).bind fun v33 =>
        (kld (kK_n k 4) (sK_groupOf σ) x4).bind fun v41 =>
        (fK_commonShare k σ v41 x1).bind fun v43 =>
        fK_measuredOfAge_5 fu k σ n x1 (x2 + (v33 * v43)) (x4 + 1)
def fK_measuredOfAge (fu : Nat) (k : kK) (σ : sK) (x1 : Int32) : Option Int64 :=
  fK_measuredOfAge_5 fu k σ fu x1 (0 : Int64) 0
def fK_raised (fu : Nat) (k : kK) (σ : sK) (x1 : Int64) (x3 : Int32) (x4 : Int32) : Option Int64 :=
  if (fK_isAge k x3) = 0 then
    some (-1 : Int64)
  else
    if (fK_isZeroOrOne x4) = 0 then
      some (-1 : Int64)
    else
      (fK_canRaise fu k σ x1).bind fun v18 =>
      if v18 = 0 then
        some (-1 : Int64)
      else
        (fK_measuredOfAge fu k σ x3).bind fun v31 =>
        (fK_fractionPart fu (x1 * v31) ((sK_measuredInAll σ) * (232792560 : Int64)) x4).bind fun v45 =>
        some v45
def fK_sums_15 (fu : Nat) (k : kK) (σ : sK) : Nat → Int64 → Int64 → Int32 → Option Int32
  | 0, _, _, _ => none
  | n + 1, x1, x3, x5 =>
    if (kK_ages k) ≤ x5 then
      if x3 = ((x1 * (sK_measuredInAll σ)) * (232792560 : Int64)) then
        some 1
      else
        some 0
    else
      (fK_measuredOfAge fu k σ x5).bind fun v29 =>
      fK_sums_15 fu k σ n x1 (x3 + (x1 * v29)) (x5 + 1)
def fK_sums (fu : Nat) (k : kK) (σ : sK) (x1 : Int64) : Option Int32 :=
  (fK_canRaise fu k σ x1).bind fun v2 =>
  if v2 = 0 then
    some 0
  else
    fK_sums_15 fu k σ fu x1 (0 : Int64) 0
def fK_error (k : kK) (σ : sK) (x1 : Int32) (x2 : Int32) (x3 : Int32) : Option (Int32 × sK) :=
  if (fK_isAge k x1) = 0 then
    some (0, σ)
  else
    if (fK_isAge k x2) = 0 then
      some (0, σ)
    else
      if x3 < 0 then
        some (0, σ)
      else
        if x3 ≤ 20 then
          (kstI (kK_n k 7) (sK_errors σ) ((x1 * (kK_ages k)) + x2) x3).bind fun a41 =>
          some (1, (uK_errors σ a41))
        else
          some (0, σ)
def fK_errorSum_4 (fu : Nat) (k : kK) (σ : sK) : Nat → Int32 → Int32 → Int32 → Option Int32
  | 0, _, _, _ => none
  | n + 1, x1, x2, x3 =>
    if (kK_ages k) ≤ x3 then
      some x2
    else
      (kld (kK_n k 7) (sK_errors σ) ((x1 * (kK_ages k)) + x3)).bind fun v25 =>
      fK_errorSum_4 fu k σ n x1 (x2 + v25) (x3 + 1)
def fK_errorSum (fu : Nat) (k : kK) (σ : sK) (x1 : Int32) : Option Int32 :=
  fK_errorSum_4 fu k σ fu x1 0 0
def fK_loadErrors_2 (fu : Nat) (k : kK) : Nat → sK → Int32 → Option sK
  | 0, _, _ => none
  | n + 1, σ, x1 =>
    if (Int32.ofNat (kK_n k 8)) ≤ x1 then
      some σ
    else
      if (Int32.ofNat (kK_n k 7)) ≤ x1 then
        some σ
      else
        (kld (kK_n k 7) (sK_errors σ) x1).bind fun v30 =>
        (kstJ (kK_n k 8) (sK_square σ) x1 v30.toInt64).bind fun a32 =>
        fK_loadErrors_2 fu k n (uK_square σ a32) (x1 + 1)
def fK_loadErrors (fu : Nat) (k : kK) (σ : sK) : Option sK :=
  fK_loadErrors_2 fu k fu σ 0
def fK_pivotRow_2 (fu : Nat) (k : kK) (σ : sK) : Nat → Int32 → Int32 → Option Int32
  | 0, _, _ => none
  | n + 1, x1, x2 =>
    if (kK_ages k) ≤ x2 then
      some (-1)
    else
      (kld (kK_n k 8) (sK_square σ) ((x2 * (kK_ages k)) + x1)).bind fun v22 =>
      if v22 = (0 : Int64) then
        fK_pivotRow_2 fu k σ n x1 (x2 + 1)
      else
        some x2
def fK_pivotRow (fu : Nat) (k : kK) (σ : sK) (x1 : Int32) : Option Int32 :=
  fK_pivotRow_2 fu k σ fu x1 x1
def fK_swapRows_2 (fu : Nat) (k : kK) : Nat → sK → Int32 → Int32 → Int32 → Option sK
  | 0, _, _, _, _ => none
  | n + 1, σ, x1, x2, x3 =>
    if (kK_ages k) ≤ x3 then
      some σ
    else
      (kld (kK_n k 8) (sK_square σ) ((x1 * (kK_ages k)) + x3)).bind fun v22 =>
      (kld (kK_n k 8) (sK_square σ) ((x2 * (kK_ages k)) + x3)).bind fun v49 =>
      (kstJ (kK_n k 8) (sK_square σ) ((x1 * (kK_ages k)) + x3) v49).bind fun a50 =>
      (kstJ (kK_n k 8) (sK_square (uK_square σ a50)) ((x2 * (kK_ages k)) + x3) v22).bind fun a65 =>
      fK_swapRows_2 fu k n (uK_square (uK_square σ a50) a65) x1 x2 (x3 + 1)
def fK_swapRows (fu : Nat) (k : kK) (σ : sK) (x1 : Int32) (x2 : Int32) : Option sK :=
  fK_swapRows_2 fu k fu σ x1 x2 0
def fK_clearBelow_55 (fu : Nat) (k : kK) (h27 : sK → Int32 → Int64 → Int64 → Int32 → Option sK) : Nat → sK → Int32 → Int64 → Int64 → Int32 → Int64 → Int32 → Option sK
  | 0, _, _, _, _, _, _, _ => none
  | n + 1, σ, x1, x2, x4, x6, x7, x9 =>
    if (kK_ages k) ≤ x9 then
      h27 σ x1 x2 x4 (x6 + 1)
    else
      (kld (kK_n k 8) (sK_square σ) ((x6 * (kK_ages k)) + x9)).bind fun v80 =>
      (kld (kK_n k 8) (sK_square σ) ((x1 * (kK_ages k)) + x9)).bind fun v97 =>
      (kdivJ ((x4 * v80) - (x7 * v97)) x2).bind fun v119 =>
      (kstJ (kK_n k 8) (sK_square σ) ((x6 * (kK_ages k)) + x9) v119).bind fun a120 =>
      fK_clearBelow_55 fu k h27 n (uK_square σ a120) x1 x2 x4 x6 x7 (x9 + 1)
def fK_clearBelow_27 (fu : Nat) (k : kK) : Nat → sK → Int32 → Int64 → Int64 → Int32 → Option sK
  | 0, _, _, _, _, _ => none
  | n + 1, σ, x1, x2, x4, x6 =>
    if (kK_ages k) ≤ x6 then
      some σ
    else
      (kld (kK_n k 8) (sK_square σ) ((x6 * (kK_ages k)) + x1)).bind fun v49 =>
      fK_clearBelow_55 fu k (fK_clearBelow_27 fu k n) fu σ x1 x2 x4 x6 v49 x1
def fK_clearBelow (fu : Nat) (k : kK) (σ : sK) (x1 : Int32) (x2 : Int64) : Option sK :=
  if x2 = (0 : Int64) then
    some σ
  else
    (kld (kK_n k 8) (sK_square σ) ((x1 * (kK_ages k)) + x1)).bind fun v19 =>
    fK_clearBelow_27 fu k fu σ x1 x2 v19 (x1 + 1)
def fK_determinant_50 (fu : Nat) (k : kK) (h7 : sK → Int64 → Int64 → Int32 → Option (Int64 × sK)) (σ : sK) (x1 : Int64) (x3 : Int64) (x5 : Int32) : Option (Int64 × sK) :=
  (fK_clearBelow fu k σ x5 x3).bind fun s54 =>
  (kld (kK_n k 8) (sK_square s54) ((x5 * (kK_ages k)) + x5)).bind fun v71 =>
  h7 s54 x1 v71 (x5 + 1)
def fK_determinant_7 (fu : Nat) (k : kK) : Nat → sK → Int64 → Int64 → Int32 → Option (Int64 × sK)
  | 0, _, _, _, _ => none
  | n + 1, σ, x1, x3, x5 =>
    if (kK_ages k) ≤ x5 then
      some ((x1 * x3), σ)
    else
      (fK_pivotRow fu k σ x5).bind fun v19 =>
      if v19 = (-1) then
        some ((0 : Int64), σ)
      else
        if v19 = x5 then
          fK_determinant_50 fu k (fK_determinant_7 fu k n) σ x1 x3 x5
        else
          (fK_swapRows fu k σ v19 x5).bind fun s44 =>
          fK_determinant_50 fu k (fK_determinant_7 fu k n) s44 (-x1) x3 x5
def fK_determinant (fu : Nat) (k : kK) (σ : sK) : Option (Int64 × sK) :=
  fK_determinant_7 fu k fu σ (1 : Int64) (1 : Int64) 0
def fK_undo_2 (fu : Nat) (k : kK) : Nat → sK → Int32 → Option (Int32 × sK)
  | 0, _, _ => none
  | n + 1, σ, x1 =>
    if (kK_ages k) ≤ x1 then
      (fK_loadErrors fu k σ).bind fun s29 =>
      kbind2 (fK_determinant fu k s29) fun v33 s33 =>
      if v33 = (0 : Int64) then
        some (1, s33)
      else
        some (0, s33)
    else
      (fK_errorSum fu k σ x1).bind fun v12 =>
      if v12 = 20 then
        fK_undo_2 fu k n σ (x1 + 1)
      else
        some (2, σ)
def fK_undo (fu : Nat) (k : kK) (σ : sK) : Option (Int32 × sK) :=
  fK_undo_2 fu k fu σ 0
def fK_undone_51 (fu : Nat) (k : kK) : Nat → sK → Int32 → Int32 → Int32 → Int64 → Int32 → Option (Int64 × sK)
  | 0, _, _, _, _, _, _ => none
  | n + 1, σ, x1, x2, x3, x4, x6 =>
    if (kK_ages k) ≤ x6 then
      kbind2 (fK_determinant fu k σ) fun v98 s98 =>
      if (0 : Int64) ≤ x4 then
        (fK_fractionPart fu v98 x4 x3).bind fun v128 =>
        some (v128, s98)
      else
        (fK_fractionPart fu (-v98) (-x4) x3).bind fun v117 =>
        some (v117, s98)
    else
      (kld (kK_n k 4) (sK_groupOf σ) x1).bind fun v82 =>
      (fK_ownOfAge k σ v82 x6).bind fun v85 =>
      (kstJ (kK_n k 8) (sK_square σ) ((x2 * (kK_ages k)) + x6) ((20 : Int64) * v85.toInt64)).bind fun a90 =>
      fK_undone_51 fu k n (uK_square σ a90) x1 x2 x3 x4 (x6 + 1)
def fK_undone (fu : Nat) (k : kK) (σ : sK) (x1 : Int32) (x2 : Int32) (x3 : Int32) : Option (Int64 × sK) :=
  if (fK_isClass k x1) = 0 then
    some ((-1 : Int64), σ)
  else
    if (fK_isAge k x2) = 0 then
      some ((-1 : Int64), σ)
    else
      if (fK_isZeroOrOne x3) = 0 then
        some ((-1 : Int64), σ)
      else
        kbind2 (fK_undo fu k σ) fun v24 s24 =>
        if v24 = 0 then
          (fK_loadErrors fu k s24).bind fun s35 =>
          kbind2 (fK_determinant fu k s35) fun v39 s39 =>
          (fK_loadErrors fu k s39).bind fun s45 =>
          fK_undone_51 fu k fu s45 x1 x2 x3 v39 0
        else
          some ((-1 : Int64), s24)
def fK_apart_73 (fu : Nat) (k : kK) (σ : sK) (h61 : Int32 → Int32 → Int32 → Int32 → Int32 → Int32 → Int32 → Option Int64) : Nat → Int32 → Int32 → Int32 → Int32 → Int32 → Int32 → Int32 → Int32 → Option Int64
  | 0, _, _, _, _, _, _, _, _ => none
  | n + 1, x1, x2, x3, x4, x5, x6, x7, x8 =>
    if (kK_ages k) ≤ x8 then
      h61 x1 x2 x3 x4 x5 x6 (x7 + 1)
    else
      (kld (kK_n k 0) (sK_readings σ) (fK_cell k x1 x7 x8)).bind fun v97 =>
      (kld (kK_n k 0) (sK_readings σ) (fK_cell k x2 x7 x8)).bind fun v114 =>
      fK_apart_73 fu k σ h61 n x1 x2 x3 x4 x5 (x6 + (if 0 ≤ ((v97 * x5) - (v114 * x4)) then ((v97 * x5) - (v114 * x4)) else 0 - ((v97 * x5) - (v114 * x4)))) x7 (x8 + 1)
def fK_apart_61 (fu : Nat) (k : kK) (σ : sK) : Nat → Int32 → Int32 → Int32 → Int32 → Int32 → Int32 → Int32 → Option Int64
  | 0, _, _, _, _, _, _, _ => none
  | n + 1, x1, x2, x3, x4, x5, x6, x7 =>
    if (kK_classes k) ≤ x7 then
      (fK_fractionPart fu x6.toInt64 ((x4 * x5).toInt64) x3).bind fun v147 =>
      some v147
    else
      fK_apart_73 fu k σ (fK_apart_61 fu k σ n) fu x1 x2 x3 x4 x5 x6 x7 0
def fK_apart (fu : Nat) (k : kK) (σ : sK) (x1 : Int32) (x2 : Int32) (x3 : Int32) : Option Int64 :=
  if (fK_isPlace x1) = 0 then
    some (-1 : Int64)
  else
    if (fK_isPlace x2) = 0 then
      some (-1 : Int64)
    else
      if (fK_isZeroOrOne x3) = 0 then
        some (-1 : Int64)
      else
        (kld (kK_n k 1) (sK_rowSize σ) x1).bind fun v30 =>
        (kld (kK_n k 1) (sK_rowSize σ) x2).bind fun v38 =>
        if v30 = 0 then
          some (-1 : Int64)
        else
          if v38 = 0 then
            some (-1 : Int64)
          else
            fK_apart_61 fu k σ fu x1 x2 x3 v30 v38 0 0
def fK_readingsOfAge_4 (fu : Nat) (k : kK) (σ : sK) : Nat → Int32 → Int32 → Int32 → Option Int32
  | 0, _, _, _ => none
  | n + 1, x1, x2, x3 =>
    if (kK_classes k) ≤ x3 then
      some x2
    else
      (kld (kK_n k 0) (sK_readings σ) (fK_cell k (sK_chosenRow σ) x3 x1)).bind fun v27 =>
      fK_readingsOfAge_4 fu k σ n x1 (x2 + v27) (x3 + 1)
def fK_readingsOfAge (fu : Nat) (k : kK) (σ : sK) (x1 : Int32) : Option Int32 :=
  fK_readingsOfAge_4 fu k σ fu x1 0 0
def fK_openPool_5 (fu : Nat) (k : kK) : Nat → sK → Int32 → Int32 → Int32 → Int32 → Option sK
  | 0, _, _, _, _, _ => none
  | n + 1, σ, x1, x2, x3, x4 =>
    if (kK_classes k) ≤ x4 then
      (kstI (kK_n k 9) (sK_poolSum σ) x1 x3).bind fun a48 =>
      (fK_readingsOfAge fu k (uK_poolSum σ a48) x2).bind fun v56 =>
      (kstI (kK_n k 10) (sK_poolSize (uK_poolSum σ a48)) x1 v56).bind fun a59 =>
      (kstI (kK_n k 11) (sK_poolAges (uK_poolSize (uK_poolSum σ a48) a59)) x1 1).bind fun a66 =>
      (kstI (kK_n k 12) (sK_poolLastAge (uK_poolAges (uK_poolSize (uK_poolSum σ a48) a59) a66)) x1 x2).bind fun a73 =>
      some (uK_poolLastAge (uK_poolAges (uK_poolSize (uK_poolSum σ a48) a59) a66) a73)
    else
      (kld (kK_n k 0) (sK_readings σ) (fK_cell k (sK_chosenRow σ) x4 x2)).bind fun v32 =>
      fK_openPool_5 fu k n σ x1 x2 (x3 + (x4 * v32)) (x4 + 1)
def fK_openPool (fu : Nat) (k : kK) (σ : sK) (x1 : Int32) (x2 : Int32) : Option sK :=
  fK_openPool_5 fu k fu σ x1 x2 0 0
def fK_doesNotRise (k : kK) (σ : sK) (x1 : Int32) : Option Int32 :=
  (kld (kK_n k 9) (sK_poolSum σ) x1).bind fun v5 =>
  (kld (kK_n k 10) (sK_poolSize σ) (x1 - 1)).bind fun v13 =>
  (kld (kK_n k 9) (sK_poolSum σ) (x1 - 1)).bind fun v22 =>
  (kld (kK_n k 10) (sK_poolSize σ) x1).bind fun v28 =>
  if (v22 * v28) < (v5 * v13) then
    some 0
  else
    some 1
def fK_joinWithPoolBefore (k : kK) (σ : sK) (x1 : Int32) : Option sK :=
  (kld (kK_n k 9) (sK_poolSum σ) (x1 - 1)).bind fun v8 =>
  (kld (kK_n k 9) (sK_poolSum σ) x1).bind fun v14 =>
  (kstI (kK_n k 9) (sK_poolSum σ) (x1 - 1) (v8 + v14)).bind fun a16 =>
  (kld (kK_n k 10) (sK_poolSize (uK_poolSum σ a16)) (x1 - 1)).bind fun v25 =>
  (kld (kK_n k 10) (sK_poolSize (uK_poolSum σ a16)) x1).bind fun v31 =>
  (kstI (kK_n k 10) (sK_poolSize (uK_poolSum σ a16)) (x1 - 1) (v25 + v31)).bind fun a33 =>
  (kld (kK_n k 11) (sK_poolAges (uK_poolSize (uK_poolSum σ a16) a33)) (x1 - 1)).bind fun v42 =>
  (kld (kK_n k 11) (sK_poolAges (uK_poolSize (uK_poolSum σ a16) a33)) x1).bind fun v48 =>
  (kstI (kK_n k 11) (sK_poolAges (uK_poolSize (uK_poolSum σ a16) a33)) (x1 - 1) (v42 + v48)).bind fun a50 =>
  (kld (kK_n k 12) (sK_poolLastAge (uK_poolAges (uK_poolSize (uK_poolSum σ a16) a33) a50)) x1).bind fun v63 =>
  (kstI (kK_n k 12) (sK_poolLastAge (uK_poolAges (uK_poolSize (uK_poolSum σ a16) a33) a50)) (x1 - 1) v63).bind fun a64 =>
  some (uK_poolLastAge (uK_poolAges (uK_poolSize (uK_poolSum σ a16) a33) a50) a64)
def fK_makePools_32 (fu : Nat) (k : kK) (h4 : sK → Int32 → Int32 → Option (Int32 × sK)) : Nat → sK → Int32 → Int32 → Option (Int32 × sK)
  | 0, _, _, _ => none
  | n + 1, σ, x1, x2 =>
    if x1 ≤ 1 then
      h4 σ x1 (x2 + 1)
    else
      (fK_doesNotRise k σ (x1 - 1)).bind fun v41 =>
      if v41 = 0 then
        h4 σ x1 (x2 + 1)
      else
        (fK_joinWithPoolBefore k σ (x1 - 1)).bind fun s51 =>
        fK_makePools_32 fu k h4 n s51 (x1 + (-1)) x2
def fK_makePools_4 (fu : Nat) (k : kK) : Nat → sK → Int32 → Int32 → Option (Int32 × sK)
  | 0, _, _, _ => none
  | n + 1, σ, x1, x2 =>
    if (kK_ages k) ≤ x2 then
      some (x1, σ)
    else
      (fK_readingsOfAge fu k σ x2).bind fun v14 =>
      if v14 = 0 then
        fK_makePools_4 fu k n σ x1 (x2 + 1)
      else
        (fK_openPool fu k σ x1 x2).bind fun s26 =>
        fK_makePools_32 fu k (fK_makePools_4 fu k n) fu s26 (x1 + 1) x2
def fK_makePools (fu : Nat) (k : kK) (σ : sK) : Option (Int32 × sK) :=
  fK_makePools_4 fu k fu σ 0 0
def fK_poolOf_25 (fu : Nat) (k : kK) : Nat → sK → Int32 → Int32 → Int32 → Option (Int32 × sK)
  | 0, _, _, _, _ => none
  | n + 1, σ, x1, x2, x3 =>
    if x2 ≤ x3 then
      some ((-1), σ)
    else
      (kld (kK_n k 12) (sK_poolLastAge σ) x3).bind fun v36 =>
      if v36 < x1 then
        fK_poolOf_25 fu k n σ x1 x2 (x3 + 1)
      else
        some (x3, σ)
def fK_poolOf (fu : Nat) (k : kK) (σ : sK) (x1 : Int32) : Option (Int32 × sK) :=
  if (fK_isAge k x1) = 0 then
    some ((-1), σ)
  else
    (fK_readingsOfAge fu k σ x1).bind fun v10 =>
    if v10 = 0 then
      some ((-1), σ)
    else
      kbind2 (fK_makePools fu k σ) fun v19 s19 =>
      fK_poolOf_25 fu k fu s19 x1 v19 0
def fK_length (fu : Nat) (k : kK) (σ : sK) (x1 : Int32) (x2 : Int32) : Option (Int64 × sK) :=
  if (fK_isZeroOrOne x2) = 0 then
    some ((-1 : Int64), σ)
  else
    kbind2 (fK_poolOf fu k σ x1) fun v13 s13 =>
    if v13 = (-1) then
      some ((-1 : Int64), s13)
    else
      (kld (kK_n k 9) (sK_poolSum s13) v13).bind fun v33 =>
      (kld (kK_n k 10) (sK_poolSize s13) v13).bind fun v40 =>
      (fK_fractionPart fu v33.toInt64 v40.toInt64 x2).bind fun v43 =>
      some (v43, s13)
def fK_pooled (fu : Nat) (k : kK) (σ : sK) (x1 : Int32) : Option (Int32 × sK) :=
  kbind2 (fK_poolOf fu k σ x1) fun v2 s2 =>
  if v2 = (-1) then
    some (0, s2)
  else
    (kld (kK_n k 11) (sK_poolAges s2) v2).bind fun v20 =>
    some (v20, s2)
def fK_sex (k : kK) (σ : sK) (x1 : Int32) (x2 : Int32) (x3 : Int32) : Option (Int32 × sK) :=
  if (fK_isClass k x1) = 0 then
    some (0, σ)
  else
    if x2 < 0 then
      some (0, σ)
    else
      if x3 < x2 then
        some (0, σ)
      else
        if x3 ≤ 100 then
          (kstI (kK_n k 13) (sK_maleCount σ) x1 x2).bind fun a31 =>
          (kstI (kK_n k 14) (sK_lookedAt (uK_maleCount σ a31)) x1 x3).bind fun a38 =>
          some (1, (uK_lookedAt (uK_maleCount σ a31) a38))
        else
          some (0, σ)
def fK_males_27 (fu : Nat) (k : kK) (σ : sK) : Nat → Int32 → Int32 → Int32 → Int32 → Int32 → Option Int64
  | 0, _, _, _, _, _ => none
  | n + 1, x1, x2, x3, x4, x5 =>
    if (kK_classes k) ≤ x5 then
      if x4 = 0 then
        some (-1 : Int64)
      else
        (fK_fractionPart fu x3.toInt64 x4.toInt64 x2).bind fun v97 =>
        some v97
    else
      (kld (kK_n k 4) (sK_groupOf σ) x5).bind fun v42 =>
      (kld (kK_n k 4) (sK_groupOf σ) x1).bind fun v48 =>
      if v42 = v48 then
        (kld (kK_n k 13) (sK_maleCount σ) x5).bind fun v59 =>
        (kld (kK_n k 14) (sK_lookedAt σ) x5).bind fun v70 =>
        fK_males_27 fu k σ n x1 x2 (x3 + v59) (x4 + v70) (x5 + 1)
      else
        fK_males_27 fu k σ n x1 x2 x3 x4 (x5 + 1)
def fK_males (fu : Nat) (k : kK) (σ : sK) (x1 : Int32) (x2 : Int32) : Option Int64 :=
  if (fK_isClass k x1) = 0 then
    some (-1 : Int64)
  else
    if (fK_isZeroOrOne x2) = 0 then
      some (-1 : Int64)
    else
      fK_males_27 fu k σ fu x1 x2 0 0 0
