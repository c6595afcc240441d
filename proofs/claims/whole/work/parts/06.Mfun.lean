def fM_isClass (k : kM) (x1 : Int32) : Int32 :=
  if x1 < 0 then
    0
  else
    if (kM_classes k) ≤ x1 then
      0
    else
      1
def fM_isAge (k : kM) (x1 : Int32) : Int32 :=
  if x1 < 0 then
    0
  else
    if (kM_ages k) ≤ x1 then
      0
    else
      1
def fM_isPart_9 : Int32 :=
  1
def fM_isPart (x0 : Int32) : Int32 :=
  if x0 = 0 then
    fM_isPart_9
  else
    if x0 = 1 then
      fM_isPart_9
    else
      0
def fM_at (x0 : Int32) (x1 : Int32) (x2 : Int32) : Int32 :=
  (((60 * x0) + (6 * x1)) + x2)
def fM_count_41 (fu : Nat) (k : kM) (σ : sM) (h6 : Int32 → Int32 → Int32 → Int32 → Int32 → Option Int32) (y0 : Int32) (y1 : Int32) (x1 : Int32) (x2 : Int32) (x3 : Int32) (x5 : Int32) : Option Int32 :=
  h6 x1 x2 x3 (y0 + y1) (x5 + 1)
def fM_count_25 (fu : Nat) (k : kM) (σ : sM) (h6 : Int32 → Int32 → Int32 → Int32 → Int32 → Option Int32) (y0 : Int32) (x1 : Int32) (x2 : Int32) (x3 : Int32) (x5 : Int32) : Option Int32 :=
  (kld (kM_n k 0) (sM_counts σ) (fM_at x5 x2 x3)).bind fun v36 =>
  fM_count_41 fu k σ h6 y0 v36 x1 x2 x3 x5
def fM_count_6 (fu : Nat) (k : kM) (σ : sM) : Nat → Int32 → Int32 → Int32 → Int32 → Int32 → Option Int32
  | 0, _, _, _, _, _ => none
  | n + 1, x1, x2, x3, x4, x5 =>
    if 4 ≤ x5 then
      some x4
    else
      if x1 = (-1) then
        fM_count_25 fu k σ (fM_count_6 fu k σ n) x4 x1 x2 x3 x5
      else
        if x1 = x5 then
          fM_count_25 fu k σ (fM_count_6 fu k σ n) x4 x1 x2 x3 x5
        else
          fM_count_41 fu k σ (fM_count_6 fu k σ n) x4 0 x1 x2 x3 x5
def fM_count (fu : Nat) (k : kM) (σ : sM) (x1 : Int32) (x2 : Int32) (x3 : Int32) : Option Int32 :=
  fM_count_6 fu k σ fu x1 x2 x3 0 0
def fM_inGroup_64 (fu : Nat) (k : kM) (σ : sM) (h6 : Int32 → Int32 → Int32 → Int32 → Int32 → Option Int32) (h18 : Int32 → Int32 → Int32 → Int32 → Int32 → Int32 → Option Int32) (y0 : Int32) (y1 : Int32) (x1 : Int32) (x2 : Int32) (x3 : Int32) (x5 : Int32) (x6 : Int32) : Option Int32 :=
  h18 x1 x2 x3 (y0 + y1) x5 (x6 + 1)
def fM_inGroup_51 (fu : Nat) (k : kM) (σ : sM) (h6 : Int32 → Int32 → Int32 → Int32 → Int32 → Option Int32) (h18 : Int32 → Int32 → Int32 → Int32 → Int32 → Int32 → Option Int32) (y0 : Int32) (x1 : Int32) (x2 : Int32) (x3 : Int32) (x5 : Int32) (x6 : Int32) : Option Int32 :=
  (fM_count fu k σ x2 x5 x6).bind fun v57 =>
  fM_inGroup_64 fu k σ h6 h18 y0 v57 x1 x2 x3 x5 x6
def fM_inGroup_63 (fu : Nat) (k : kM) (σ : sM) (h6 : Int32 → Int32 → Int32 → Int32 → Int32 → Option Int32) (h18 : Int32 → Int32 → Int32 → Int32 → Int32 → Int32 → Option Int32) (y0 : Int32) (x1 : Int32) (x2 : Int32) (x3 : Int32) (x5 : Int32) (x6 : Int32) : Option Int32 :=
  fM_inGroup_64 fu k σ h6 h18 y0 0 x1 x2 x3 x5 x6
def fM_inGroup_18 (fu : Nat) (k : kM) (σ : sM) (h6 : Int32 → Int32 → Int32 → Int32 → Int32 → Option Int32) : Nat → Int32 → Int32 → Int32 → Int32 → Int32 → Int32 → Option Int32
  | 0, _, _, _, _, _, _ => none
  | n + 1, x1, x2, x3, x4, x5, x6 =>
    if (kM_ages k) ≤ x6 then
      h6 x1 x2 x3 x4 (x5 + 1)
    else
      (kld (kM_n k 1) (sM_group σ) x5).bind fun v35 =>
      if v35 = x1 then
        if x3 = (-1) then
          fM_inGroup_51 fu k σ h6 (fM_inGroup_18 fu k σ h6 n) x4 x1 x2 x3 x5 x6
        else
          if x3 = x6 then
            fM_inGroup_51 fu k σ h6 (fM_inGroup_18 fu k σ h6 n) x4 x1 x2 x3 x5 x6
          else
            fM_inGroup_63 fu k σ h6 (fM_inGroup_18 fu k σ h6 n) x4 x1 x2 x3 x5 x6
      else
        fM_inGroup_63 fu k σ h6 (fM_inGroup_18 fu k σ h6 n) x4 x1 x2 x3 x5 x6
def fM_inGroup_6 (fu : Nat) (k : kM) (σ : sM) : Nat → Int32 → Int32 → Int32 → Int32 → Int32 → Option Int32
  | 0, _, _, _, _, _ => none
  | n + 1, x1, x2, x3, x4, x5 =>
    if (kM_classes k) ≤ x5 then
      some x4
    else
      fM_inGroup_18 fu k σ (fM_inGroup_6 fu k σ n) fu x1 x2 x3 x4 x5 0
def fM_inGroup (fu : Nat) (k : kM) (σ : sM) (x1 : Int32) (x2 : Int32) (x3 : Int32) : Option Int32 :=
  fM_inGroup_6 fu k σ fu x1 x2 x3 0 0
def fM_inAll_15 (fu : Nat) (k : kM) (σ : sM) (h4 : Int32 → Int32 → Int32 → Option Int32) : Nat → Int32 → Int32 → Int32 → Int32 → Option Int32
  | 0, _, _, _, _ => none
  | n + 1, x1, x2, x3, x4 =>
    if (kM_ages k) ≤ x4 then
      h4 x1 x2 (x3 + 1)
    else
      (fM_count fu k σ x1 x3 x4).bind fun v30 =>
      fM_inAll_15 fu k σ h4 n x1 (x2 + v30) x3 (x4 + 1)
def fM_inAll_4 (fu : Nat) (k : kM) (σ : sM) : Nat → Int32 → Int32 → Int32 → Option Int32
  | 0, _, _, _ => none
  | n + 1, x1, x2, x3 =>
    if (kM_classes k) ≤ x3 then
      some x2
    else
      fM_inAll_15 fu k σ (fM_inAll_4 fu k σ n) fu x1 x2 x3 0
def fM_inAll (fu : Nat) (k : kM) (σ : sM) (x1 : Int32) : Option Int32 :=
  fM_inAll_4 fu k σ fu x1 0 0
def fM_partOf_110 (fu : Nat) (y0 : Int64) (y1 : Int64) (x5 : Int64) : Option Int64 :=
  (kdivJ y1 x5).bind fun v112 =>
  some (y0 * v112)
def fM_partOf_89 (fu : Nat) (y0 : Int64) (x0 : Int64) (x4 : Int32) (x5 : Int64) (x9 : Int64) : Option Int64 :=
  if x4 = 0 then
    if (0 : Int64) ≤ x0 then
      fM_partOf_110 fu y0 x0 x5
    else
      fM_partOf_110 fu y0 (-x0) x5
  else
    (kdivJ x9 x5).bind fun v121 =>
    some v121
def fM_partOf_79 (fu : Nat) (y0 : Int32) (y1 : Int32) (x0 : Int64) (x4 : Int32) (x5 : Int64) (x9 : Int64) : Option Int64 :=
  if y0 = y1 then
    fM_partOf_89 fu (1 : Int64) x0 x4 x5 x9
  else
    fM_partOf_89 fu (-1 : Int64) x0 x4 x5 x9
def fM_partOf_68 (fu : Nat) (y0 : Int32) (x0 : Int64) (x2 : Int64) (x4 : Int32) (x5 : Int64) (x9 : Int64) : Option Int64 :=
  if (0 : Int64) ≤ x2 then
    fM_partOf_79 fu y0 0 x0 x4 x5 x9
  else
    fM_partOf_79 fu y0 1 x0 x4 x5 x9
def fM_partOf_32 (fu : Nat) : Nat → Int64 → Int64 → Int32 → Int64 → Int64 → Int64 → Option Int64
  | 0, _, _, _, _, _, _ => none
  | n + 1, x0, x2, x4, x5, x7, x9 =>
    if x7 = (0 : Int64) then
      if (0 : Int64) ≤ x0 then
        fM_partOf_68 fu 0 x0 x2 x4 x5 x9
      else
        fM_partOf_68 fu 1 x0 x2 x4 x5 x9
    else
      (kremJ x5 x7).bind fun v43 =>
      fM_partOf_32 fu n x0 x2 x4 x7 v43 x9
def fM_partOf_26 (fu : Nat) (y0 : Int64) (x0 : Int64) (x2 : Int64) (x4 : Int32) (x5 : Int64) : Option Int64 :=
  fM_partOf_32 fu fu x0 x2 x4 x5 y0 y0
def fM_partOf_12 (fu : Nat) (y0 : Int64) (x0 : Int64) (x2 : Int64) (x4 : Int32) : Option Int64 :=
  if (0 : Int64) ≤ x2 then
    fM_partOf_26 fu x2 x0 x2 x4 y0
  else
    fM_partOf_26 fu (-x2) x0 x2 x4 y0
def fM_partOf (fu : Nat) (x0 : Int64) (x2 : Int64) (x4 : Int32) : Option Int64 :=
  if (0 : Int64) ≤ x0 then
    fM_partOf_12 fu x0 x0 x2 x4
  else
    fM_partOf_12 fu (-x0) x0 x2 x4
def fM_read (fu : Nat) (k : kM) (σ : sM) (x1 : Int32) (x2 : Int32) (x3 : Int32) : Option (Int32 × sM) :=
  if (fM_isClass k x1) = 0 then
    some (0, σ)
  else
    if (fM_isAge k x2) = 0 then
      some (0, σ)
    else
      if x3 < 0 then
        some (0, σ)
      else
        if x3 < 4 then
          (kld (kM_n k 1) (sM_group σ) x1).bind fun v33 =>
          (fM_inGroup fu k σ v33 (-1) (-1)).bind fun v36 =>
          if 20 ≤ v36 then
            some (0, σ)
          else
            (fM_inAll fu k σ (-1)).bind fun v46 =>
            if v46 < 100 then
              (kld (kM_n k 0) (sM_counts σ) (fM_at x3 x1 x2)).bind fun v67 =>
              (kstI (kM_n k 0) (sM_counts σ) (fM_at x3 x1 x2) (v67 + 1)).bind fun a70 =>
              some (1, (uM_counts σ a70))
            else
              some (0, σ)
        else
          some (0, σ)
def fM_place (fu : Nat) (k : kM) (σ : sM) (x1 : Int32) : Option (Int32 × sM) :=
  if x1 < (-1) then
    some ((-1), σ)
  else
    if x1 < 4 then
      (fM_inAll fu k (uM_chosen σ x1) x1).bind fun v19 =>
      some (v19, (uM_chosen σ x1))
    else
      some ((-1), σ)
def fM_own (fu : Nat) (k : kM) (σ : sM) (x1 : Int32) : Option Int32 :=
  (fM_inGroup fu k σ x1 (sM_chosen σ) (-1)).bind fun v7 =>
  some v7
def fM_source_18 (fu : Nat) (k : kM) (σ : sM) (y0 : Int32) : Option Int32 :=
  if y0 = (-1) then
    some (-1)
  else
    (fM_own fu k σ y0).bind fun v26 =>
    if v26 ≤ 0 then
      some (-1)
    else
      some y0
def fM_source (fu : Nat) (k : kM) (σ : sM) (x1 : Int32) : Option Int32 :=
  (fM_own fu k σ x1).bind fun v2 =>
  if v2 ≤ 0 then
    (kld (kM_n k 2) (sM_filler σ) x1).bind fun v17 =>
    fM_source_18 fu k σ v17
  else
    fM_source_18 fu k σ x1
def fM_share (fu : Nat) (k : kM) (σ : sM) (x1 : Int32) (x2 : Int32) (x3 : Int32) : Option Int64 :=
  if (fM_isClass k x1) = 0 then
    some (-1 : Int64)
  else
    if (fM_isAge k x2) = 0 then
      some (-1 : Int64)
    else
      if (fM_isPart x3) = 0 then
        some (-1 : Int64)
      else
        (kld (kM_n k 1) (sM_group σ) x1).bind fun v33 =>
        (fM_source fu k σ v33).bind fun v34 =>
        if v34 = (-1) then
          some (-1 : Int64)
        else
          (fM_inGroup fu k σ v34 (sM_chosen σ) x2).bind fun v59 =>
          (fM_own fu k σ v34).bind fun v66 =>
          (fM_partOf fu v59.toInt64 v66.toInt64 x3).bind fun v71 =>
          some v71
def fM_empty_4 (fu : Nat) (k : kM) (σ : sM) : Nat → Int32 → Int32 → Int32 → Option Int32
  | 0, _, _, _ => none
  | n + 1, x1, x2, x3 =>
    if (kM_classes k) ≤ x3 then
      some (-1)
    else
      (kld (kM_n k 1) (sM_group σ) x3).bind fun v17 =>
      if v17 = x3 then
        (fM_own fu k σ x3).bind fun v24 =>
        if v24 = 0 then
          (kld (kM_n k 2) (sM_filler σ) x3).bind fun v35 =>
          if v35 = (-1) then
            if x2 = x1 then
              some x3
            else
              fM_empty_4 fu k σ n x1 (x2 + 1) (x3 + 1)
          else
            fM_empty_4 fu k σ n x1 x2 (x3 + 1)
        else
          fM_empty_4 fu k σ n x1 x2 (x3 + 1)
      else
        fM_empty_4 fu k σ n x1 x2 (x3 + 1)
def fM_empty (fu : Nat) (k : kM) (σ : sM) (x1 : Int32) : Option Int32 :=
  fM_empty_4 fu k σ fu x1 0 0
def fM_distance_83 (fu : Nat) (k : kM) (σ : sM) (h6 : Int32 → Int32 → Int32 → Int32 → Option Int32) (h18 : Int32 → Int32 → Int32 → Int32 → Int32 → Option Int32) (y0 : Int32) (x1 : Int32) (x2 : Int32) (x4 : Int32) (x5 : Int32) : Option Int32 :=
  h18 x1 x2 y0 x4 (x5 + 1)
def fM_distance_82 (fu : Nat) (k : kM) (σ : sM) (h6 : Int32 → Int32 → Int32 → Int32 → Option Int32) (h18 : Int32 → Int32 → Int32 → Int32 → Int32 → Option Int32) (x1 : Int32) (x2 : Int32) (x3 : Int32) (x4 : Int32) (x5 : Int32) : Option Int32 :=
  fM_distance_83 fu k σ h6 h18 x3 x1 x2 x4 x5
def fM_distance_47 (fu : Nat) (k : kM) (σ : sM) (h6 : Int32 → Int32 → Int32 → Int32 → Option Int32) (h18 : Int32 → Int32 → Int32 → Int32 → Int32 → Option Int32) (y0 : Int32) (x1 : Int32) (x2 : Int32) (x3 : Int32) (x4 : Int32) (x5 : Int32) : Option Int32 :=
  (kld (kM_n k 1) (sM_group σ) x4).bind fun v55 =>
  if v55 = x1 then
    (kld (kM_n k 1) (sM_group σ) x5).bind fun v66 =>
    if v66 = x2 then
      if x3 ≤ y0 then
        fM_distance_82 fu k σ h6 h18 x1 x2 x3 x4 x5
      else
        fM_distance_83 fu k σ h6 h18 y0 x1 x2 x4 x5
    else
      fM_distance_82 fu k σ h6 h18 x1 x2 x3 x4 x5
  else
    fM_distance_82 fu k σ h6 h18 x1 x2 x3 x4 x5
def fM_distance_18 (fu : Nat) (k : kM) (σ : sM) (h6 : Int32 → Int32 → Int32 → Int32 → Option Int32) : Nat → Int32 → Int32 → Int32 → Int32 → Int32 → Option Int32
  | 0, _, _, _, _, _ => none
  | n + 1, x1, x2, x3, x4, x5 =>
    if (kM_classes k) ≤ x5 then
      h6 x1 x2 x3 (x4 + 1)
    else
      if x5 ≤ x4 then
        fM_distance_47 fu k σ h6 (fM_distance_18 fu k σ h6 n) (x4 - x5) x1 x2 x3 x4 x5
      else
        fM_distance_47 fu k σ h6 (fM_distance_18 fu k σ h6 n) (x5 - x4) x1 x2 x3 x4 x5
def fM_distance_6 (fu : Nat) (k : kM) (σ : sM) : Nat → Int32 → Int32 → Int32 → Int32 → Option Int32
  | 0, _, _, _, _ => none
  | n + 1, x1, x2, x3, x4 =>
    if (kM_classes k) ≤ x4 then
      some x3
    else
      fM_distance_18 fu k σ (fM_distance_6 fu k σ n) fu x1 x2 x3 x4 0
def fM_distance (fu : Nat) (k : kM) (σ : sM) (x1 : Int32) (x2 : Int32) : Option Int32 :=
  fM_distance_6 fu k σ fu x1 x2 100 0
def fM_fill_83 (fu : Nat) (k : kM) (h27 : sM → Int32 → Int32 → Int32 → Option (Int32 × sM)) (σ : sM) (x1 : Int32) (x3 : Int32) : Option (Int32 × sM) :=
  h27 σ x1 x3 (x3 + 1)
def fM_fill_27 (fu : Nat) (k : kM) : Nat → sM → Int32 → Int32 → Int32 → Option (Int32 × sM)
  | 0, _, _, _, _ => none
  | n + 1, σ, x1, x2, x3 =>
    if (kM_classes k) ≤ x3 then
      if x2 = (-1) then
        some (x2, σ)
      else
        (kld (kM_n k 1) (sM_group σ) x1).bind fun v105 =>
        (kstI (kM_n k 2) (sM_filler σ) v105 x2).bind fun a107 =>
        some (x2, (uM_filler σ a107))
    else
      (kld (kM_n k 1) (sM_group σ) x3).bind fun v40 =>
      if v40 = x3 then
        (fM_own fu k σ x3).bind fun v47 =>
        if v47 ≤ 0 then
          fM_fill_27 fu k n σ x1 x2 (x3 + 1)
        else
          if x2 = (-1) then
            fM_fill_83 fu k (fM_fill_27 fu k n) σ x1 x3
          else
            (kld (kM_n k 1) (sM_group σ) x1).bind fun v64 =>
            (fM_distance fu k σ v64 x3).bind fun v66 =>
            (kld (kM_n k 1) (sM_group σ) x1).bind fun v75 =>
            (fM_distance fu k σ v75 x2).bind fun v77 =>
            if v77 ≤ v66 then
              fM_fill_27 fu k n σ x1 x2 (x3 + 1)
            else
              fM_fill_83 fu k (fM_fill_27 fu k n) σ x1 x3
      else
        fM_fill_27 fu k n σ x1 x2 (x3 + 1)
def fM_fill (fu : Nat) (k : kM) (σ : sM) (x1 : Int32) : Option (Int32 × sM) :=
  if (fM_isClass k x1) = 0 then
    some ((-1), σ)
  else
    (kld (kM_n k 1) (sM_group σ) x1).bind fun v14 =>
    (fM_own fu k σ v14).bind fun v15 =>
    if v15 ≤ 0 then
      fM_fill_27 fu k fu σ x1 (-1) 0
    else
      some ((-1), σ)
def fM_marked (fu : Nat) (k : kM) (σ : sM) (x1 : Int32) : Option Int32 :=
  if (fM_isClass k x1) = 0 then
    some 0
  else
    (kld (kM_n k 1) (sM_group σ) x1).bind fun v17 =>
    (kld (kM_n k 2) (sM_filler σ) v17).bind fun v18 =>
    if v18 = (-1) then
      some 0
    else
      (kld (kM_n k 1) (sM_group σ) x1).bind fun v29 =>
      (fM_own fu k σ v29).bind fun v30 =>
      if v30 = 0 then
        some 1
      else
        some 0
def fM_joined_208 (fu : Nat) (k : kM) (h129 : sM → Int32 → Int32 → Int32 → Option (Int32 × sM)) (σ : sM) (y1 : Int32) (y2 : Int32) (x3 : Int32) (x4 : Int32) (x5 : Int32) : Option (Int32 × sM) :=
  (kstI (kM_n k 1) (sM_group σ) y1 y2).bind fun a208 =>
  h129 (uM_group σ a208) x3 x4 (x5 + 1)
def fM_joined_178 (fu : Nat) (k : kM) (h129 : sM → Int32 → Int32 → Int32 → Option (Int32 × sM)) (σ : sM) (y1 : Int32) (y2 : Int32) (x3 : Int32) (x4 : Int32) (x5 : Int32) : Option (Int32 × sM) :=
  (kstI (kM_n k 2) (sM_filler σ) y1 y2).bind fun a178 =>
  (kld (kM_n k 1) (sM_group (uM_filler σ a178)) x5).bind fun v191 =>
  if v191 = x4 then
    fM_joined_208 fu k h129 (uM_filler σ a178) x5 x3 x3 x4 x5
  else
    (kld (kM_n k 1) (sM_group (uM_filler σ a178)) x5).bind fun v207 =>
    fM_joined_208 fu k h129 (uM_filler σ a178) x5 v207 x3 x4 x5
def fM_joined_167 (fu : Nat) (k : kM) (h129 : sM → Int32 → Int32 → Int32 → Option (Int32 × sM)) (σ : sM) (y1 : Int32) (x3 : Int32) (x4 : Int32) (x5 : Int32) : Option (Int32 × sM) :=
  fM_joined_178 fu k h129 σ y1 (-1) x3 x4 x5
def fM_joined_129 (fu : Nat) (k : kM) : Nat → sM → Int32 → Int32 → Int32 → Option (Int32 × sM)
  | 0, _, _, _, _ => none
  | n + 1, σ, x3, x4, x5 =>
    if (kM_classes k) ≤ x5 then
      (kstI (kM_n k 2) (sM_filler σ) x3 (-1)).bind fun a221 =>
      (kstI (kM_n k 2) (sM_filler (uM_filler σ a221)) x4 (-1)).bind fun a229 =>
      some (x3, (uM_filler (uM_filler σ a221) a229))
    else
      (kld (kM_n k 2) (sM_filler σ) x5).bind fun v150 =>
      if v150 = x3 then
        fM_joined_167 fu k (fM_joined_129 fu k n) σ x5 x3 x4 x5
      else
        (kld (kM_n k 2) (sM_filler σ) x5).bind fun v161 =>
        if v161 = x4 then
          fM_joined_167 fu k (fM_joined_129 fu k n) σ x5 x3 x4 x5
        else
          (kld (kM_n k 2) (sM_filler σ) x5).bind fun v177 =>
          fM_joined_178 fu k (fM_joined_129 fu k n) σ x5 v177 x3 x4 x5
def fM_joined_124 (fu : Nat) (k : kM) (σ : sM) (y0 : Int32) (x3 : Int32) : Option (Int32 × sM) :=
  fM_joined_129 fu k fu σ x3 y0 0
def fM_joined_93 (fu : Nat) (k : kM) (σ : sM) (y0 : Int32) (x1 : Int32) (x2 : Int32) : Option (Int32 × sM) :=
  (kld (kM_n k 1) (sM_group σ) x1).bind fun v99 =>
  (kld (kM_n k 1) (sM_group σ) x2).bind fun v105 =>
  if v105 ≤ v99 then
    (kld (kM_n k 1) (sM_group σ) x1).bind fun v123 =>
    fM_joined_124 fu k σ v123 y0
  else
    (kld (kM_n k 1) (sM_group σ) x2).bind fun v114 =>
    fM_joined_124 fu k σ v114 y0
def fM_joined (fu : Nat) (k : kM) (σ : sM) (x1 : Int32) (x2 : Int32) : Option (Int32 × sM) :=
  if (fM_isClass k x1) = 0 then
    some ((-1), σ)
  else
    if (fM_isClass k x2) = 0 then
      some ((-1), σ)
    else
      (kld (kM_n k 1) (sM_group σ) x1).bind fun v21 =>
      (kld (kM_n k 1) (sM_group σ) x2).bind fun v27 =>
      if v21 = v27 then
        some ((-1), σ)
      else
        (kld (kM_n k 1) (sM_group σ) x1).bind fun v37 =>
        (fM_inGroup fu k σ v37 (-1) (-1)).bind fun v40 =>
        (kld (kM_n k 1) (sM_group σ) x2).bind fun v49 =>
        (fM_inGroup fu k σ v49 (-1) (-1)).bind fun v52 =>
        if (v40 + v52) ≤ 20 then
          (kld (kM_n k 1) (sM_group σ) x1).bind fun v68 =>
          (kld (kM_n k 1) (sM_group σ) x2).bind fun v74 =>
          if v74 ≤ v68 then
            (kld (kM_n k 1) (sM_group σ) x2).bind fun v92 =>
            fM_joined_93 fu k σ v92 x1 x2
          else
            (kld (kM_n k 1) (sM_group σ) x1).bind fun v83 =>
            fM_joined_93 fu k σ v83 x1 x2
        else
          some ((-1), σ)
def fM_groups_28 (fu : Nat) (k : kM) (σ : sM) (h4 : Int32 → Int32 → Option Int32) (y0 : Int32) (y1 : Int32) (x2 : Int32) : Option Int32 :=
  h4 (y0 + y1) (x2 + 1)
def fM_groups_4 (fu : Nat) (k : kM) (σ : sM) : Nat → Int32 → Int32 → Option Int32
  | 0, _, _ => none
  | n + 1, x1, x2 =>
    if (kM_classes k) ≤ x2 then
      some x1
    else
      (kld (kM_n k 1) (sM_group σ) x2).bind fun v18 =>
      if v18 = x2 then
        fM_groups_28 fu k σ (fM_groups_4 fu k σ n) x1 1 x2
      else
        fM_groups_28 fu k σ (fM_groups_4 fu k σ n) x1 0 x2
def fM_groups (fu : Nat) (k : kM) (σ : sM) : Option Int32 :=
  fM_groups_4 fu k σ fu 0 0
def fM_allMeasured_4 (fu : Nat) (k : kM) (σ : sM) : Nat → Int64 → Int32 → Option Int64
  | 0, _, _ => none
  | n + 1, x1, x3 =>
    if (kM_classes k) ≤ x3 then
      some x1
    else
      (kld (kM_n k 3) (sM_measured σ) x3).bind fun v18 =>
      fM_allMeasured_4 fu k σ n (x1 + v18) (x3 + 1)
def fM_allMeasured (fu : Nat) (k : kM) (σ : sM) : Option Int64 :=
  fM_allMeasured_4 fu k σ fu (0 : Int64) 0
def fM_sample (fu : Nat) (k : kM) (σ : sM) (x1 : Int32) (x2 : Int64) : Option (Int32 × sM) :=
  if (fM_isClass k x1) = 0 then
    some (0, σ)
  else
    if x2 < (0 : Int64) then
      some (0, σ)
    else
      if (10000 : Int64) < x2 then
        some (0, σ)
      else
        (fM_allMeasured fu k σ).bind fun v23 =>
        if (v23 + x2) ≤ (10000 : Int64) then
          (kld (kM_n k 3) (sM_measured σ) x1).bind fun v43 =>
          (kstJ (kM_n k 3) (sM_measured σ) x1 (v43 + x2)).bind fun a46 =>
          some (1, (uM_measured σ a46))
        else
          some (0, σ)
def fM_raise_125 (fu : Nat) (k : kM) (h59 : sM → Int64 → Int32 → Int32 → Int32 → Option (Int32 × sM)) (σ : sM) (y0 : Int32) (x1 : Int64) (x3 : Int32) (x5 : Int32) (x6 : Int32) : Option (Int32 × sM) :=
  if x6 = (-1) then
    h59 σ x1 x3 y0 (x5 + 1)
  else
    (kld (kM_n k 3) (sM_measured σ) x5).bind fun v145 =>
    (fM_inGroup fu k σ x6 (sM_chosen σ) x3).bind fun v155 =>
    (fM_own fu k σ x6).bind fun v165 =>
    (kdivJ (232792560 : Int64) v165.toInt64).bind fun v169 =>
    h59 (uM_above σ ((sM_above σ) + ((x1 * v145) * (v155.toInt64 * v169)))) x1 x3 y0 (x5 + 1)
def fM_raise_120 (fu : Nat) (k : kM) (h59 : sM → Int64 → Int32 → Int32 → Int32 → Option (Int32 × sM)) (σ : sM) (x1 : Int64) (x3 : Int32) (x5 : Int32) (x6 : Int32) : Option (Int32 × sM) :=
  fM_raise_125 fu k h59 σ 1 x1 x3 x5 x6
def fM_raise_100 (fu : Nat) (k : kM) (h59 : sM → Int64 → Int32 → Int32 → Int32 → Option (Int32 × sM)) (σ : sM) (y0 : Int32) (x1 : Int64) (x3 : Int32) (x5 : Int32) : Option (Int32 × sM) :=
  if y0 = (-1) then
    (kld (kM_n k 3) (sM_measured σ) x5).bind fun v114 =>
    if v114 = (0 : Int64) then
      fM_raise_120 fu k h59 σ x1 x3 x5 y0
    else
      fM_raise_125 fu k h59 σ 0 x1 x3 x5 y0
  else
    fM_raise_120 fu k h59 σ x1 x3 x5 y0
def fM_raise_59 (fu : Nat) (k : kM) : Nat → sM → Int64 → Int32 → Int32 → Int32 → Option (Int32 × sM)
  | 0, _, _, _, _, _ => none
  | n + 1, σ, x1, x3, x4, x5 =>
    if (kM_classes k) ≤ x5 then
      (kbool x4).bind fun b184 =>
      some (b184, σ)
    else
      if x4 = 0 then
        (kbool x4).bind fun b184 =>
        some (b184, σ)
      else
        (kld (kM_n k 3) (sM_measured σ) x5).bind fun v79 =>
        if v79 = (0 : Int64) then
          fM_raise_100 fu k (fM_raise_59 fu k n) σ (-1) x1 x3 x5
        else
          (kld (kM_n k 1) (sM_group σ) x5).bind fun v96 =>
          (fM_source fu k σ v96).bind fun v97 =>
          fM_raise_100 fu k (fM_raise_59 fu k n) σ v97 x1 x3 x5
def fM_raise_53 (fu : Nat) (k : kM) (σ : sM) (y1 : Int64) (x1 : Int64) (x3 : Int32) (x4 : Int32) : Option (Int32 × sM) :=
  fM_raise_59 fu k fu (uM_below σ y1) x1 x3 x4 0
def fM_raise_28 (fu : Nat) (k : kM) (σ : sM) (y0 : Int32) (x1 : Int64) (x3 : Int32) : Option (Int32 × sM) :=
  if y0 = 0 then
    fM_raise_53 fu k (uM_above σ (0 : Int64)) (1 : Int64) x1 x3 y0
  else
    (fM_allMeasured fu k (uM_above σ (0 : Int64))).bind fun v42 =>
    fM_raise_53 fu k (uM_above σ (0 : Int64)) (v42 * (232792560 : Int64)) x1 x3 y0
def fM_raise_27 (fu : Nat) (k : kM) (σ : sM) (x1 : Int64) (x3 : Int32) : Option (Int32 × sM) :=
  fM_raise_28 fu k σ 0 x1 x3
def fM_raise (fu : Nat) (k : kM) (σ : sM) (x1 : Int64) (x3 : Int32) : Option (Int32 × sM) :=
  if x1 < (0 : Int64) then
    fM_raise_27 fu k σ x1 x3
  else
    if (10000 : Int64) < x1 then
      fM_raise_27 fu k σ x1 x3
    else
      (fM_allMeasured fu k σ).bind fun v15 =>
      if v15 ≤ (0 : Int64) then
        fM_raise_27 fu k σ x1 x3
      else
        fM_raise_28 fu k σ 1 x1 x3
def fM_raised (fu : Nat) (k : kM) (σ : sM) (x1 : Int64) (x3 : Int32) (x4 : Int32) : Option (Int64 × sM) :=
  if (fM_isAge k x3) = 0 then
    some ((-1 : Int64), σ)
  else
    if (fM_isPart x4) = 0 then
      some ((-1 : Int64), σ)
    else
      kbind2 (fM_raise fu k σ x1 x3) fun v19 s19 =>
      if v19 = 0 then
        some ((-1 : Int64), s19)
      else
        (fM_partOf fu (sM_above s19) (sM_below s19) x4).bind fun v35 =>
        some (v35, s19)
def fM_sums_51 (fu : Nat) (k : kM) (h8 : sM → Int64 → Int32 → Int64 → Int32 → Option (Int32 × sM)) (σ : sM) (y0 : Int64) (y1 : Int64) (x1 : Int64) (x3 : Int32) (x6 : Int32) : Option (Int32 × sM) :=
  h8 σ x1 x3 (y0 + y1) (x6 + 1)
def fM_sums_36 (fu : Nat) (k : kM) (h8 : sM → Int64 → Int32 → Int64 → Int32 → Option (Int32 × sM)) (σ : sM) (y0 : Int32) (x1 : Int64) (x4 : Int64) (x6 : Int32) : Option (Int32 × sM) :=
  if y0 = 0 then
    fM_sums_51 fu k h8 σ x4 (0 : Int64) x1 y0 x6
  else
    fM_sums_51 fu k h8 σ x4 (sM_above σ) x1 y0 x6
def fM_sums_35 (fu : Nat) (k : kM) (h8 : sM → Int64 → Int32 → Int64 → Int32 → Option (Int32 × sM)) (σ : sM) (x1 : Int64) (x4 : Int64) (x6 : Int32) : Option (Int32 × sM) :=
  fM_sums_36 fu k h8 σ 0 x1 x4 x6
def fM_sums_8 (fu : Nat) (k : kM) : Nat → sM → Int64 → Int32 → Int64 → Int32 → Option (Int32 × sM)
  | 0, _, _, _, _, _ => none
  | n + 1, σ, x1, x3, x4, x6 =>
    if (kM_ages k) ≤ x6 then
      if x3 = 0 then
        some (0, σ)
      else
        if x4 = (x1 * (sM_below σ)) then
          some (1, σ)
        else
          some (0, σ)
    else
      if x3 = 0 then
        fM_sums_35 fu k (fM_sums_8 fu k n) σ x1 x4 x6
      else
        kbind2 (fM_raise fu k σ x1 x6) fun v25 s25 =>
        if v25 = 0 then
          fM_sums_35 fu k (fM_sums_8 fu k n) s25 x1 x4 x6
        else
          fM_sums_36 fu k (fM_sums_8 fu k n) s25 1 x1 x4 x6
def fM_sums (fu : Nat) (k : kM) (σ : sM) (x1 : Int64) : Option (Int32 × sM) :=
  fM_sums_8 fu k fu σ x1 1 (0 : Int64) 0
def fM_without_127 (fu : Nat) (k : kM) (σ : sM) (y0 : Int64) (x4 : Int32) (x5 : Int32) : Option Int64 :=
  (fM_partOf fu y0 ((x5 - 1).toInt64) x4).bind fun v134 =>
  some v134
def fM_without_112 (fu : Nat) (k : kM) (σ : sM) (y0 : Int32) (x3 : Int32) (x4 : Int32) (x5 : Int32) (x7 : Int32) : Option Int64 :=
  if x3 = 0 then
    fM_without_127 fu k σ x7.toInt64 x4 x5
  else
    fM_without_127 fu k σ y0.toInt64 x4 x5
def fM_without_94 (fu : Nat) (k : kM) (σ : sM) (y0 : Int32) (x3 : Int32) (x4 : Int32) (x5 : Int32) (x6 : Int32) : Option Int64 :=
  if x5 ≤ x6 then
    fM_without_112 fu k σ (x6 - 1) x3 x4 x5 y0
  else
    fM_without_112 fu k σ x6 x3 x4 x5 y0
def fM_without (fu : Nat) (k : kM) (σ : sM) (x1 : Int32) (x2 : Int32) (x3 : Int32) (x4 : Int32) : Option Int64 :=
  if (fM_isClass k x1) = 0 then
    some (-1 : Int64)
  else
    if (fM_isAge k x2) = 0 then
      some (-1 : Int64)
    else
      if x3 < 0 then
        some (-1 : Int64)
      else
        if 1 < x3 then
          some (-1 : Int64)
        else
          if (fM_isPart x4) = 0 then
            some (-1 : Int64)
          else
            (kld (kM_n k 1) (sM_group σ) x1).bind fun v39 =>
            (fM_own fu k σ v39).bind fun v40 =>
            if 2 ≤ v40 then
              (kld (kM_n k 1) (sM_group σ) x1).bind fun v57 =>
              (fM_own fu k σ v57).bind fun v58 =>
              (kld (kM_n k 1) (sM_group σ) x1).bind fun v69 =>
              (fM_inGroup fu k σ v69 (sM_chosen σ) x2).bind fun v75 =>
              if v75 ≤ 0 then
                fM_without_94 fu k σ v75 x3 x4 v58 v75
              else
                fM_without_94 fu k σ (v75 - 1) x3 x4 v58 v75
            else
              some (-1 : Int64)
def fM_error (k : kM) (σ : sM) (x1 : Int32) (x2 : Int32) (x3 : Int32) : Option (Int32 × sM) :=
  if (fM_isAge k x1) = 0 then
    some (0, σ)
  else
    if (fM_isAge k x2) = 0 then
      some (0, σ)
    else
      if x3 < 0 then
        some (0, σ)
      else
        if x3 ≤ 20 then
          (kstI (kM_n k 4) (sM_errors σ) ((6 * x1) + x2) x3).bind fun a39 =>
          some (1, (uM_errors σ a39))
        else
          some (0, σ)
def fM_determinant_180 (fu : Nat) (k : kM) (h7 : sM → Int64 → Int64 → Int32 → Option (Int64 × sM)) (h165 : sM → Int64 → Int64 → Int32 → Int32 → Option (Int64 × sM)) : Nat → sM → Int64 → Int64 → Int32 → Int32 → Int32 → Option (Int64 × sM)
  | 0, _, _, _, _, _, _ => none
  | n + 1, σ, x1, x3, x5, x7, x8 =>
    if (kM_ages k) ≤ x8 then
      h165 σ x1 x3 x5 (x7 + 1)
    else
      (kld (kM_n k 7) (sM_cells σ) ((6 * x7) + x8)).bind fun v213 =>
      (kld (kM_n k 7) (sM_cells σ) ((6 * x5) + x5)).bind fun v226 =>
      (kld (kM_n k 7) (sM_cells σ) ((6 * x7) + x5)).bind fun v240 =>
      (kld (kM_n k 7) (sM_cells σ) ((6 * x5) + x8)).bind fun v253 =>
      (kdivJ ((v213 * v226) - (v240 * v253)) x1).bind fun v257 =>
      (kstJ (kM_n k 7) (sM_cells σ) ((6 * x7) + x8) v257).bind fun a258 =>
      fM_determinant_180 fu k h7 h165 n (uM_cells σ a258) x1 x3 x5 x7 (x8 + 1)
def fM_determinant_165 (fu : Nat) (k : kM) (h7 : sM → Int64 → Int64 → Int32 → Option (Int64 × sM)) : Nat → sM → Int64 → Int64 → Int32 → Int32 → Option (Int64 × sM)
  | 0, _, _, _, _, _ => none
  | n + 1, σ, x1, x3, x5, x7 =>
    if (kM_ages k) ≤ x7 then
      (kld (kM_n k 7) (sM_cells σ) ((6 * x5) + x5)).bind fun v283 =>
      h7 σ v283 x3 (x5 + 1)
    else
      fM_determinant_180 fu k h7 (fM_determinant_165 fu k h7 n) fu σ x1 x3 x5 x7 (x5 + 1)
def fM_determinant_158 (fu : Nat) (k : kM) (h7 : sM → Int64 → Int64 → Int32 → Option (Int64 × sM)) (σ : sM) (y0 : Int64) (x1 : Int64) (x5 : Int32) : Option (Int64 × sM) :=
  fM_determinant_165 fu k h7 fu σ x1 y0 x5 (x5 + 1)
def fM_determinant_145 (fu : Nat) (k : kM) (h7 : sM → Int64 → Int64 → Int32 → Option (Int64 × sM)) (σ : sM) (x1 : Int64) (x3 : Int64) (x5 : Int32) (x6 : Int32) : Option (Int64 × sM) :=
  if x6 = x5 then
    fM_determinant_158 fu k h7 σ x3 x1 x5
  else
    fM_determinant_158 fu k h7 σ (-x3) x1 x5
def fM_determinant_67 (fu : Nat) (k : kM) (h7 : sM → Int64 → Int64 → Int32 → Option (Int64 × sM)) : Nat → sM → Int64 → Int64 → Int32 → Int32 → Int32 → Option (Int64 × sM)
  | 0, _, _, _, _, _, _ => none
  | n + 1, σ, x1, x3, x5, x6, x7 =>
    if (kM_ages k) ≤ x7 then
      fM_determinant_145 fu k h7 σ x1 x3 x5 x6
    else
      if x6 = x5 then
        fM_determinant_145 fu k h7 σ x1 x3 x5 x6
      else
        (kld (kM_n k 7) (sM_cells σ) ((6 * x5) + x7)).bind fun v95 =>
        (kld (kM_n k 7) (sM_cells σ) ((6 * x6) + x7)).bind fun v122 =>
        (kstJ (kM_n k 7) (sM_cells σ) ((6 * x5) + x7) v122).bind fun a123 =>
        (kstJ (kM_n k 7) (sM_cells (uM_cells σ a123)) ((6 * x6) + x7) v95).bind fun a138 =>
        fM_determinant_67 fu k h7 n (uM_cells (uM_cells σ a123) a138) x1 x3 x5 x6 (x7 + 1)
def fM_determinant_53 (fu : Nat) (k : kM) (h7 : sM → Int64 → Int64 → Int32 → Option (Int64 × sM)) (σ : sM) (x1 : Int64) (x3 : Int64) (x5 : Int32) (x6 : Int32) : Option (Int64 × sM) :=
  if x6 = (kM_ages k) then
    some ((0 : Int64), σ)
  else
    fM_determinant_67 fu k h7 fu σ x1 x3 x5 x6 0
def fM_determinant_20 (fu : Nat) (k : kM) (h7 : sM → Int64 → Int64 → Int32 → Option (Int64 × sM)) : Nat → sM → Int64 → Int64 → Int32 → Int32 → Option (Int64 × sM)
  | 0, _, _, _, _, _ => none
  | n + 1, σ, x1, x3, x5, x6 =>
    if (kM_ages k) ≤ x6 then
      fM_determinant_53 fu k h7 σ x1 x3 x5 x6
    else
      (kld (kM_n k 7) (sM_cells σ) ((6 * x6) + x5)).bind fun v41 =>
      if v41 = (0 : Int64) then
        fM_determinant_20 fu k h7 n σ x1 x3 x5 (x6 + 1)
      else
        fM_determinant_53 fu k h7 σ x1 x3 x5 x6
def fM_determinant_7 (fu : Nat) (k : kM) : Nat → sM → Int64 → Int64 → Int32 → Option (Int64 × sM)
  | 0, _, _, _, _ => none
  | n + 1, σ, x1, x3, x5 =>
    if (kM_ages k) ≤ x5 then
      some ((x3 * x1), σ)
    else
      fM_determinant_20 fu k (fM_determinant_7 fu k n) fu σ x1 x3 x5 x5
def fM_determinant (fu : Nat) (k : kM) (σ : sM) : Option (Int64 × sM) :=
  fM_determinant_7 fu k fu σ (1 : Int64) (1 : Int64) 0
def fM_lay_70 (fu : Nat) (k : kM) (h2 : sM → Int32 → Int32 → Int32 → Option sM) (h13 : sM → Int32 → Int32 → Int32 → Int32 → Option sM) (σ : sM) (y1 : Int32) (y2 : Int64) (x1 : Int32) (x2 : Int32) (x3 : Int32) (x4 : Int32) : Option sM :=
  (kstJ (kM_n k 7) (sM_cells σ) y1 y2).bind fun a70 =>
  h13 (uM_cells σ a70) x1 x2 x3 (x4 + 1)
def fM_lay_13 (fu : Nat) (k : kM) (h2 : sM → Int32 → Int32 → Int32 → Option sM) : Nat → sM → Int32 → Int32 → Int32 → Int32 → Option sM
  | 0, _, _, _, _, _ => none
  | n + 1, σ, x1, x2, x3, x4 =>
    if (kM_ages k) ≤ x4 then
      h2 σ x1 x2 (x3 + 1)
    else
      if x4 = x2 then
        (fM_inGroup fu k σ x1 (sM_chosen σ) x3).bind fun v49 =>
        fM_lay_70 fu k h2 (fM_lay_13 fu k h2 n) σ ((6 * x3) + x4) ((20 : Int64) * v49.toInt64) x1 x2 x3 x4
      else
        (kld (kM_n k 4) (sM_errors σ) ((6 * x4) + x3)).bind fun v68 =>
        fM_lay_70 fu k h2 (fM_lay_13 fu k h2 n) σ ((6 * x3) + x4) v68.toInt64 x1 x2 x3 x4
def fM_lay_2 (fu : Nat) (k : kM) : Nat → sM → Int32 → Int32 → Int32 → Option sM
  | 0, _, _, _, _ => none
  | n + 1, σ, x1, x2, x3 =>
    if (kM_ages k) ≤ x3 then
      some σ
    else
      fM_lay_13 fu k (fM_lay_2 fu k n) fu σ x1 x2 x3 0
def fM_lay (fu : Nat) (k : kM) (σ : sM) (x1 : Int32) (x2 : Int32) : Option sM :=
  fM_lay_2 fu k fu σ x1 x2 0
def fM_undo_14 (fu : Nat) (k : kM) (h2 : sM → Int32 → Option (Int32 × sM)) : Nat → sM → Int32 → Int32 → Int32 → Option (Int32 × sM)
  | 0, _, _, _, _ => none
  | n + 1, σ, x1, x2, x3 =>
    if (kM_ages k) ≤ x3 then
      if x2 = 20 then
        h2 σ (x1 + 1)
      else
        some (2, σ)
    else
      (kld (kM_n k 4) (sM_errors σ) ((6 * x1) + x3)).bind fun v33 =>
      fM_undo_14 fu k h2 n σ x1 (x2 + v33) (x3 + 1)
def fM_undo_2 (fu : Nat) (k : kM) : Nat → sM → Int32 → Option (Int32 × sM)
  | 0, _, _ => none
  | n + 1, σ, x1 =>
    if (kM_ages k) ≤ x1 then
      (fM_lay fu k σ 0 (-1)).bind fun s59 =>
      kbind2 (fM_determinant fu k s59) fun v63 s63 =>
      if v63 = (0 : Int64) then
        some (1, s63)
      else
        some (0, s63)
    else
      fM_undo_14 fu k (fM_undo_2 fu k n) fu σ x1 0 0
def fM_undo (fu : Nat) (k : kM) (σ : sM) : Option (Int32 × sM) :=
  fM_undo_2 fu k fu σ 0
def fM_undone (fu : Nat) (k : kM) (σ : sM) (x1 : Int32) (x2 : Int32) (x3 : Int32) : Option (Int64 × sM) :=
  if (fM_isClass k x1) = 0 then
    some ((-1 : Int64), σ)
  else
    if (fM_isAge k x2) = 0 then
      some ((-1 : Int64), σ)
    else
      if (fM_isPart x3) = 0 then
        some ((-1 : Int64), σ)
      else
        kbind2 (fM_undo fu k σ) fun v24 s24 =>
        if v24 = 0 then
          (kld (kM_n k 1) (sM_group s24) x1).bind fun v40 =>
          (fM_lay fu k s24 v40 (-1)).bind fun s42 =>
          kbind2 (fM_determinant fu k s42) fun v46 s46 =>
          (kld (kM_n k 1) (sM_group s46) x1).bind fun v57 =>
          (fM_lay fu k s46 v57 x2).bind fun s59 =>
          kbind2 (fM_determinant fu k s59) fun v63 s63 =>
          (fM_partOf fu v63 v46 x3).bind fun v73 =>
          some (v73, s63)
        else
          some ((-1 : Int64), s24)
def fM_apart_134 (fu : Nat) (k : kM) (σ : sM) (h67 : Int32 → Int32 → Int32 → Int64 → Int64 → Int64 → Int32 → Option Int64) (h79 : Int32 → Int32 → Int32 → Int64 → Int64 → Int64 → Int32 → Int32 → Option Int64) (y0 : Int64) (y1 : Int64) (x1 : Int32) (x2 : Int32) (x3 : Int32) (x4 : Int64) (x6 : Int64) (x10 : Int32) (x11 : Int32) : Option Int64 :=
  h79 x1 x2 x3 x4 x6 (y0 + y1) x10 (x11 + 1)
def fM_apart_79 (fu : Nat) (k : kM) (σ : sM) (h67 : Int32 → Int32 → Int32 → Int64 → Int64 → Int64 → Int32 → Option Int64) : Nat → Int32 → Int32 → Int32 → Int64 → Int64 → Int64 → Int32 → Int32 → Option Int64
  | 0, _, _, _, _, _, _, _, _ => none
  | n + 1, x1, x2, x3, x4, x6, x8, x10, x11 =>
    if (kM_ages k) ≤ x11 then
      h67 x1 x2 x3 x4 x6 x8 (x10 + 1)
    else
      (fM_count fu k σ x1 x10 x11).bind fun v94 =>
      (fM_count fu k σ x2 x10 x11).bind fun v107 =>
      if (0 : Int64) ≤ ((v94.toInt64 * x6) - (v107.toInt64 * x4)) then
        fM_apart_134 fu k σ h67 (fM_apart_79 fu k σ h67 n) x8 ((v94.toInt64 * x6) - (v107.toInt64 * x4)) x1 x2 x3 x4 x6 x10 x11
      else
        fM_apart_134 fu k σ h67 (fM_apart_79 fu k σ h67 n) x8 (-((v94.toInt64 * x6) - (v107.toInt64 * x4))) x1 x2 x3 x4 x6 x10 x11
def fM_apart_67 (fu : Nat) (k : kM) (σ : sM) : Nat → Int32 → Int32 → Int32 → Int64 → Int64 → Int64 → Int32 → Option Int64
  | 0, _, _, _, _, _, _, _ => none
  | n + 1, x1, x2, x3, x4, x6, x8, x10 =>
    if (kM_classes k) ≤ x10 then
      (fM_partOf fu x8 (x4 * x6) x3).bind fun v157 =>
      some v157
    else
      fM_apart_79 fu k σ (fM_apart_67 fu k σ n) fu x1 x2 x3 x4 x6 x8 x10 0
def fM_apart (fu : Nat) (k : kM) (σ : sM) (x1 : Int32) (x2 : Int32) (x3 : Int32) : Option Int64 :=
  if x1 < 0 then
    some (-1 : Int64)
  else
    if 4 ≤ x1 then
      some (-1 : Int64)
    else
      if x2 < 0 then
        some (-1 : Int64)
      else
        if 4 ≤ x2 then
          some (-1 : Int64)
        else
          if (fM_isPart x3) = 0 then
            some (-1 : Int64)
          else
            (fM_inAll fu k σ x1).bind fun v27 =>
            if v27 = 0 then
              some (-1 : Int64)
            else
              (fM_inAll fu k σ x2).bind fun v35 =>
              if v35 = 0 then
                some (-1 : Int64)
              else
                (fM_inAll fu k σ x1).bind fun v47 =>
                (fM_inAll fu k σ x2).bind fun v55 =>
                fM_apart_67 fu k σ fu x1 x2 x3 v47.toInt64 v55.toInt64 (0 : Int64) 0
def fM_ofAge_4 (fu : Nat) (k : kM) (σ : sM) : Nat → Int32 → Int32 → Int32 → Option Int32
  | 0, _, _, _ => none
  | n + 1, x1, x2, x3 =>
    if (kM_classes k) ≤ x3 then
      some x2
    else
      (fM_count fu k σ (sM_chosen σ) x3 x1).bind fun v20 =>
      fM_ofAge_4 fu k σ n x1 (x2 + v20) (x3 + 1)
def fM_ofAge (fu : Nat) (k : kM) (σ : sM) (x1 : Int32) : Option Int32 :=
  fM_ofAge_4 fu k σ fu x1 0 0
def fM_classesOf_4 (fu : Nat) (k : kM) (σ : sM) : Nat → Int32 → Int32 → Int32 → Option Int32
  | 0, _, _, _ => none
  | n + 1, x1, x2, x3 =>
    if (kM_classes k) ≤ x3 then
      some x2
    else
      (fM_count fu k σ (sM_chosen σ) x3 x1).bind fun v21 =>
      fM_classesOf_4 fu k σ n x1 (x2 + (x3 * v21)) (x3 + 1)
def fM_classesOf (fu : Nat) (k : kM) (σ : sM) (x1 : Int32) : Option Int32 :=
  fM_classesOf_4 fu k σ fu x1 0 0
def fM_mean_101 (fu : Nat) (k : kM) (h14 : sM → Int32 → Int32 → Option sM) (h26 : sM → Int32 → Int32 → Int64 → Int64 → Int32 → Option sM) (σ : sM) (x1 : Int32) (x2 : Int32) (x7 : Int32) (x8 : Int64) (x10 : Int64) : Option sM :=
  h26 σ x1 x2 x8 x10 (x7 + 1)
def fM_mean_44 (fu : Nat) (k : kM) (h14 : sM → Int32 → Int32 → Option sM) (h26 : sM → Int32 → Int32 → Int64 → Int64 → Int32 → Option sM) : Nat → sM → Int32 → Int32 → Int64 → Int64 → Int32 → Int64 → Int64 → Int32 → Option sM
  | 0, _, _, _, _, _, _, _, _, _ => none
  | n + 1, σ, x1, x2, x3, x5, x7, x8, x10, x12 =>
    if x7 < x12 then
      if x5 = (0 : Int64) then
        fM_mean_101 fu k h14 h26 σ x1 x2 x7 x8 x10
      else
        if (x3 * x10) ≤ (x8 * x5) then
          h26 σ x1 x2 x3 x5 (x7 + 1)
        else
          fM_mean_101 fu k h14 h26 σ x1 x2 x7 x8 x10
    else
      (fM_classesOf fu k σ x12).bind fun v56 =>
      (fM_ofAge fu k σ x12).bind fun v68 =>
      fM_mean_44 fu k h14 h26 n σ x1 x2 x3 x5 x7 (x8 + v56.toInt64) (x10 + v68.toInt64) (x12 + 1)
def fM_mean_26 (fu : Nat) (k : kM) (h14 : sM → Int32 → Int32 → Option sM) : Nat → sM → Int32 → Int32 → Int64 → Int64 → Int32 → Option sM
  | 0, _, _, _, _, _, _ => none
  | n + 1, σ, x1, x2, x3, x5, x7 =>
    if (kM_ages k) ≤ x7 then
      if (x3 * (sM_below σ)) ≤ ((sM_above σ) * x5) then
        h14 σ x1 (x2 + (-1))
      else
        h14 (uM_below (uM_above σ x3) x5) x1 (x2 + (-1))
    else
      fM_mean_44 fu k h14 (fM_mean_26 fu k h14 n) fu σ x1 x2 x3 x5 x7 (0 : Int64) (0 : Int64) x2
def fM_mean_14 (fu : Nat) (k : kM) : Nat → sM → Int32 → Int32 → Option sM
  | 0, _, _, _ => none
  | n + 1, σ, x1, x2 =>
    if x2 < 0 then
      some σ
    else
      fM_mean_26 fu k (fM_mean_14 fu k n) fu σ x1 x2 (0 : Int64) (0 : Int64) x1
def fM_mean (fu : Nat) (k : kM) (σ : sM) (x1 : Int32) : Option sM :=
  fM_mean_14 fu k fu (uM_below (uM_above σ (-1 : Int64)) (1 : Int64)) x1 x1
def fM_length (fu : Nat) (k : kM) (σ : sM) (x1 : Int32) (x2 : Int32) : Option (Int64 × sM) :=
  if (fM_isAge k x1) = 0 then
    some ((-1 : Int64), σ)
  else
    if (fM_isPart x2) = 0 then
      some ((-1 : Int64), σ)
    else
      (fM_ofAge fu k σ x1).bind fun v17 =>
      if v17 = 0 then
        some ((-1 : Int64), σ)
      else
        (fM_mean fu k σ x1).bind fun s29 =>
        (fM_partOf fu (sM_above s29) (sM_below s29) x2).bind fun v41 =>
        some (v41, s29)
def fM_isSame (fu : Nat) (k : kM) (σ : sM) (x1 : Int32) (x2 : Int32) : Option (Int32 × sM) :=
  (fM_mean fu k σ x1).bind fun s2 =>
  (fM_mean fu k s2 x2).bind fun s18 =>
  if ((sM_above s2) * (sM_below s18)) = ((sM_above s18) * (sM_below s2)) then
    some (1, s18)
  else
    some (0, s18)
def fM_pooled_53 (fu : Nat) (k : kM) (h22 : sM → Int32 → Int32 → Int32 → Option (Int32 × sM)) (σ : sM) (y0 : Int32) (y1 : Int32) (x1 : Int32) (x3 : Int32) : Option (Int32 × sM) :=
  h22 σ x1 (y0 + y1) (x3 + 1)
def fM_pooled_52 (fu : Nat) (k : kM) (h22 : sM → Int32 → Int32 → Int32 → Option (Int32 × sM)) (σ : sM) (y0 : Int32) (x1 : Int32) (x3 : Int32) : Option (Int32 × sM) :=
  fM_pooled_53 fu k h22 σ y0 0 x1 x3
def fM_pooled_22 (fu : Nat) (k : kM) : Nat → sM → Int32 → Int32 → Int32 → Option (Int32 × sM)
  | 0, _, _, _, _ => none
  | n + 1, σ, x1, x2, x3 =>
    if (kM_ages k) ≤ x3 then
      some (x2, σ)
    else
      (fM_ofAge fu k σ x3).bind fun v33 =>
      if v33 ≤ 0 then
        fM_pooled_52 fu k (fM_pooled_22 fu k n) σ x2 x1 x3
      else
        kbind2 (fM_isSame fu k σ x1 x3) fun v42 s42 =>
        if v42 = 0 then
          fM_pooled_52 fu k (fM_pooled_22 fu k n) s42 x2 x1 x3
        else
          fM_pooled_53 fu k (fM_pooled_22 fu k n) s42 x2 1 x1 x3
def fM_pooled (fu : Nat) (k : kM) (σ : sM) (x1 : Int32) : Option (Int32 × sM) :=
  if (fM_isAge k x1) = 0 then
    some (0, σ)
  else
    (fM_ofAge fu k σ x1).bind fun v10 =>
    if v10 = 0 then
      some (0, σ)
    else
      fM_pooled_22 fu k fu σ x1 0 0
def fM_sex (k : kM) (σ : sM) (x1 : Int32) (x2 : Int32) (x3 : Int32) : Option (Int32 × sM) :=
  if (fM_isClass k x1) = 0 then
    some (0, σ)
  else
    if x2 < 0 then
      some (0, σ)
    else
      if x3 < x2 then
        some (0, σ)
      else
        if x3 ≤ 100 then
          (kstI (kM_n k 5) (sM_maleCount σ) x1 x2).bind fun a31 =>
          (kstI (kM_n k 6) (sM_sexCount (uM_maleCount σ a31)) x1 x3).bind fun a38 =>
          some (1, (uM_sexCount (uM_maleCount σ a31) a38))
        else
          some (0, σ)
def fM_males_95 (fu : Nat) (k : kM) (σ : sM) (h27 : Int32 → Int32 → Int32 → Int32 → Int32 → Option Int64) (y0 : Int32) (y1 : Int32) (x1 : Int32) (x2 : Int32) (x3 : Int32) (x5 : Int32) : Option Int64 :=
  h27 x1 x2 x3 (y0 + y1) (x5 + 1)
def fM_males_64 (fu : Nat) (k : kM) (σ : sM) (h27 : Int32 → Int32 → Int32 → Int32 → Int32 → Option Int64) (y0 : Int32) (y1 : Int32) (x1 : Int32) (x2 : Int32) (x4 : Int32) (x5 : Int32) : Option Int64 :=
  (kld (kM_n k 1) (sM_group σ) x5).bind fun v74 =>
  (kld (kM_n k 1) (sM_group σ) x1).bind fun v80 =>
  if v74 = v80 then
    (kld (kM_n k 6) (sM_sexCount σ) x5).bind fun v90 =>
    fM_males_95 fu k σ h27 x4 v90 x1 x2 (y0 + y1) x5
  else
    fM_males_95 fu k σ h27 x4 0 x1 x2 (y0 + y1) x5
def fM_males_27 (fu : Nat) (k : kM) (σ : sM) : Nat → Int32 → Int32 → Int32 → Int32 → Int32 → Option Int64
  | 0, _, _, _, _, _ => none
  | n + 1, x1, x2, x3, x4, x5 =>
    if (kM_classes k) ≤ x5 then
      if x4 = 0 then
        some (-1 : Int64)
      else
        (fM_partOf fu x3.toInt64 x4.toInt64 x2).bind fun v121 =>
        some v121
    else
      (kld (kM_n k 1) (sM_group σ) x5).bind fun v43 =>
      (kld (kM_n k 1) (sM_group σ) x1).bind fun v49 =>
      if v43 = v49 then
        (kld (kM_n k 5) (sM_maleCount σ) x5).bind fun v59 =>
        fM_males_64 fu k σ (fM_males_27 fu k σ n) x3 v59 x1 x2 x4 x5
      else
        fM_males_64 fu k σ (fM_males_27 fu k σ n) x3 0 x1 x2 x4 x5
def fM_males (fu : Nat) (k : kM) (σ : sM) (x1 : Int32) (x2 : Int32) : Option Int64 :=
  if (fM_isClass k x1) = 0 then
    some (-1 : Int64)
  else
    if (fM_isPart x2) = 0 then
      some (-1 : Int64)
    else
      fM_males_27 fu k σ fu x1 x2 0 0 0
