set_option maxHeartbeats 4000000 in
set_option maxRecDepth 100000 in
theorem c_X2_letterAt (l : Launch) (G : GP) (q : Nat → Nat) (k : Nat) (t_letters : Nat → Int32) (t_length : Int32) (v1 : Int32) {o : Int32} (h : f_X2_letterAt t_letters t_length v1 = o) : CtI l yX2_letterAt cX2_letterAt 2 (some .int) ({ frames := 1, cells := 0, slots := 0, locals := 21 } : Room) G (tC G q k t_letters t_length) [.ref (q k), .int v1] o (tC G q k t_letters t_length) := by
  refine CtI.of (by decide) (Nat.le_of_ble_eq_true rfl) ?_
  intro p e s m below meth c A ls K hl hw
  have hl : lv_has ls 2 [(0, .ref (q k)), (1, .int v1)] := hl
  generalize ([.ref (q k), .int v1] : List Value).toArray = args at K ⊢
  have hx := K.1.1
  have hb := K.1.2.1
  unfold f_X2_letterAt at h
  refine lv_iload_n hx hb dX2_letterAt_0 rfl (lv_at hl 1 rfl) ?_
  refine lv_aload_n hx hb dX2_letterAt_1 rfl (lv_at hl 0 rfl) ?_
  refine getX K hw inTX2 0 1 fl_X2_15 dX2_letterAt_2 rfl rfl (by decide) rfl rfl ?_
  refine lv_icmp_ge (tgt := 19) hx hb dX2_letterAt_5 (by decide) (fun hc1 => ?_) (fun hc1 => ?_)
  · have h := ifp hc1 h
    refine lv_iconst (v := (-1 : Int32)) hx hb dX2_letterAt_19 (by decide) ?_
    subst h
    exact retI K hw rfl dX2_letterAt_20
  · have h := ifn hc1 h
    refine lv_aload_n hx hb dX2_letterAt_8 rfl (lv_at hl 0 rfl) ?_
    refine getX K hw inTX2 0 0 fl_X2_9 dX2_letterAt_9 rfl rfl (by decide) rfl rfl ?_
    refine lv_iload_n hx hb dX2_letterAt_12 rfl (lv_at hl 1 rfl) ?_
    refine callNI K (c_at l G (q (k + 1)) 96 t_letters v1 rfl) mt_yX3_at (List.mem_of_getElem? (i := 4) rfl) ⟨rfl, rfl, Nat.le_of_ble_eq_true rfl, Nat.le_of_ble_eq_true rfl⟩ hw dX2_letterAt_13 hl.1 ⟨Nat.zero_le _, Nat.zero_le _⟩ (wa := ((tC G q k t_letters t_length).take 1)) (wb := ((tC G q k t_letters t_length).drop 2)) rfl (rest := []) rfl rfl (Nat.le_of_ble_eq_true rfl) (fun H locs hw => ?_)
    have hw : Wx G A (tC G q k t_letters t_length) s H locs := hw
    refine lv_goto (tgt := 20) hx hb dX2_letterAt_16 (by decide) ?_
    subst h
    exact retI K hw rfl dX2_letterAt_20
set_option maxHeartbeats 4000000 in
set_option maxRecDepth 100000 in
theorem c_X2_digitAt (l : Launch) (G : GP) (q : Nat → Nat) (k : Nat) (t_letters : Nat → Int32) (t_length : Int32) (v1 : Int32) {o : Int32} (h : f_X2_digitAt t_letters t_length v1 = o) : CtI l yX2_digitAt cX2_digitAt 2 (some .int) ({ frames := 2, cells := 0, slots := 0, locals := 42 } : Room) G (tC G q k t_letters t_length) [.ref (q k), .int v1] o (tC G q k t_letters t_length) := by
  refine CtI.of (by decide) (Nat.le_of_ble_eq_true rfl) ?_
  intro p e s m below meth c A ls K hl hw
  have hl : lv_has ls 2 [(0, .ref (q k)), (1, .int v1)] := hl
  generalize ([.ref (q k), .int v1] : List Value).toArray = args at K ⊢
  have hx := K.1.1
  have hb := K.1.2.1
  unfold f_X2_digitAt at h
  refine lv_aload_n hx hb dX2_digitAt_0 rfl (lv_at hl 0 rfl) ?_
  refine lv_iload_n hx hb dX2_digitAt_1 rfl (lv_at hl 1 rfl) ?_
  refine callVI K (c_X2_letterAt l G q k t_letters t_length v1 rfl) mt_yX2_letterAt lk_X2_27 ⟨rfl, rfl, Nat.le_of_ble_eq_true rfl, Nat.le_of_ble_eq_true rfl⟩ hw dX2_digitAt_2 hl.1 ⟨Nat.zero_le _, Nat.zero_le _⟩ (wa := ((tC G q k t_letters t_length).take 0)) (wb := ((tC G q k t_letters t_length).drop 2)) rfl rfl rfl (rest := []) rfl rfl (Nat.le_of_ble_eq_true rfl) (fun H locs hw => ?_)
  have hw : Wx G A (tC G q k t_letters t_length) s H locs := hw
  refine lv_bipush (v := (48 : Int32)) hx hb dX2_digitAt_5 (by decide) ?_
  refine lv_isub hx hb dX2_digitAt_7 ?_
  subst h
  exact retI K hw rfl dX2_digitAt_8
set_option maxHeartbeats 4000000 in
set_option maxRecDepth 100000 in
theorem c_X2_numberAt (l : Launch) (G : GP) (q : Nat → Nat) (k : Nat) (t_letters : Nat → Int32) (t_length : Int32) (v1 : Int32) {o : Int32} (h : f_X2_numberAt t_letters t_length v1 = o) : CtI l yX2_numberAt cX2_numberAt 2 (some .int) ({ frames := 3, cells := 0, slots := 0, locals := 63 } : Room) G (tC G q k t_letters t_length) [.ref (q k), .int v1] o (tC G q k t_letters t_length) := by
  refine CtI.of (by decide) (Nat.le_of_ble_eq_true rfl) ?_
  intro p e s m below meth c A ls K hl hw
  have hl : lv_has ls 2 [(0, .ref (q k)), (1, .int v1)] := hl
  generalize ([.ref (q k), .int v1] : List Value).toArray = args at K ⊢
  have hx := K.1.1
  have hb := K.1.2.1
  unfold f_X2_numberAt at h
  refine lv_bipush (v := (10 : Int32)) hx hb dX2_numberAt_0 (by decide) ?_
  refine lv_aload_n hx hb dX2_numberAt_2 rfl (lv_at hl 0 rfl) ?_
  refine lv_iload_n hx hb dX2_numberAt_3 rfl (lv_at hl 1 rfl) ?_
  refine callVI K (c_X2_digitAt l G q k t_letters t_length v1 rfl) mt_yX2_digitAt lk_X2_31 ⟨rfl, rfl, Nat.le_of_ble_eq_true rfl, Nat.le_of_ble_eq_true rfl⟩ hw dX2_numberAt_4 hl.1 ⟨Nat.zero_le _, Nat.zero_le _⟩ (wa := ((tC G q k t_letters t_length).take 0)) (wb := ((tC G q k t_letters t_length).drop 2)) rfl rfl rfl (rest := [.int (10 : Int32)]) rfl rfl (Nat.le_of_ble_eq_true rfl) (fun H locs hw => ?_)
  have hw : Wx G A (tC G q k t_letters t_length) s H locs := hw
  refine lv_imul hx hb dX2_numberAt_7 ?_
  refine lv_aload_n hx hb dX2_numberAt_8 rfl (lv_at hl 0 rfl) ?_
  refine lv_iload_n hx hb dX2_numberAt_9 rfl (lv_at hl 1 rfl) ?_
  refine lv_iconst (v := (1 : Int32)) hx hb dX2_numberAt_10 (by decide) ?_
  refine lv_iadd hx hb dX2_numberAt_11 ?_
  refine callVI K (c_X2_digitAt l G q k t_letters t_length (v1 + (1 : Int32)) rfl) mt_yX2_digitAt lk_X2_31 ⟨rfl, rfl, Nat.le_of_ble_eq_true rfl, Nat.le_of_ble_eq_true rfl⟩ hw dX2_numberAt_12 hl.1 ⟨Nat.zero_le _, Nat.zero_le _⟩ (wa := ((tC G q k t_letters t_length).take 0)) (wb := ((tC G q k t_letters t_length).drop 2)) rfl rfl rfl (rest := [.int ((10 : Int32) * (f_X2_digitAt t_letters t_length v1))]) rfl rfl (Nat.le_of_ble_eq_true rfl) (fun H locs hw => ?_)
  have hw : Wx G A (tC G q k t_letters t_length) s H locs := hw
  refine lv_iadd hx hb dX2_numberAt_15 ?_
  subst h
  exact retI K hw rfl dX2_numberAt_16
set_option maxHeartbeats 4000000 in
set_option maxRecDepth 100000 in
theorem c_X2_formOf (l : Launch) (G : GP) (v0 : Int32) {o : Nat} (h : f_X2_formOf v0 = o) : CtR l yX2_formOf cX2_formOf 1 (some (.object "java/lang/String")) ({ frames := 0, cells := 0, slots := 0, locals := 0 } : Room) G ([] : va_W) [.int v0] (G.2.2.2.1 o) ([] : va_W) := by
  refine CtR.of (by decide) (Nat.le_of_ble_eq_true rfl) ?_
  intro p e s m below meth c A ls K hl hw
  have hl : lv_has ls 1 [(0, .int v0)] := hl
  generalize ([.int v0] : List Value).toArray = args at K ⊢
  have hx := K.1.1
  have hb := K.1.2.1
  unfold f_X2_formOf at h
  refine lv_iload_n hx hb dX2_formOf_0 rfl (lv_at hl 0 rfl) ?_
  by_cases hs1 : v0 = (99 : Int32)
  · have h := ifp hs1 h
    refine lv_tableIn (off := 91) (tgt := 92) hx hb dX2_formOf_1 (by rw [hs1]; decide) (by rw [hs1]; decide) (by rw [hs1]; rfl) (by decide) ?_
    refine va_ldcS hx hb K.1.2.2.2.1 (K.2.2.2.2.2.2.2.2.2.2 0 (by decide)) dX2_formOf_92 ?_
    subst h
    exact retR K hw rfl dX2_formOf_94
  have h := ifn hs1 h
  by_cases hs2 : v0 = (100 : Int32)
  · have h := ifp hs2 h
    refine lv_tableIn (off := 109) (tgt := 110) hx hb dX2_formOf_1 (by rw [hs2]; decide) (by rw [hs2]; decide) (by rw [hs2]; rfl) (by decide) ?_
    refine va_ldcS hx hb K.1.2.2.2.1 (K.2.2.2.2.2.2.2.2.2.2 6 (by decide)) dX2_formOf_110 ?_
    subst h
    exact retR K hw rfl dX2_formOf_112
  have h := ifn hs2 h
  by_cases hs3 : v0 = (104 : Int32)
  · have h := ifp hs3 h
    refine lv_tableIn (off := 97) (tgt := 98) hx hb dX2_formOf_1 (by rw [hs3]; decide) (by rw [hs3]; decide) (by rw [hs3]; rfl) (by decide) ?_
    refine va_ldcS hx hb K.1.2.2.2.1 (K.2.2.2.2.2.2.2.2.2.2 2 (by decide)) dX2_formOf_98 ?_
    subst h
    exact retR K hw rfl dX2_formOf_100
  have h := ifn hs3 h
  by_cases hs4 : v0 = (107 : Int32)
  · have h := ifp hs4 h
    refine lv_tableIn (off := 94) (tgt := 95) hx hb dX2_formOf_1 (by rw [hs4]; decide) (by rw [hs4]; decide) (by rw [hs4]; rfl) (by decide) ?_
    refine va_ldcS hx hb K.1.2.2.2.1 (K.2.2.2.2.2.2.2.2.2.2 1 (by decide)) dX2_formOf_95 ?_
    subst h
    exact retR K hw rfl dX2_formOf_97
  have h := ifn hs4 h
  by_cases hs5 : v0 = (112 : Int32)
  · have h := ifp hs5 h
    refine lv_tableIn (off := 106) (tgt := 107) hx hb dX2_formOf_1 (by rw [hs5]; decide) (by rw [hs5]; decide) (by rw [hs5]; rfl) (by decide) ?_
    refine va_ldcS hx hb K.1.2.2.2.1 (K.2.2.2.2.2.2.2.2.2.2 5 (by decide)) dX2_formOf_107 ?_
    subst h
    exact retR K hw rfl dX2_formOf_109
  have h := ifn hs5 h
  by_cases hs6 : v0 = (116 : Int32)
  · have h := ifp hs6 h
    refine lv_tableIn (off := 100) (tgt := 101) hx hb dX2_formOf_1 (by rw [hs6]; decide) (by rw [hs6]; decide) (by rw [hs6]; rfl) (by decide) ?_
    refine va_ldcS hx hb K.1.2.2.2.1 (K.2.2.2.2.2.2.2.2.2.2 3 (by decide)) dX2_formOf_101 ?_
    subst h
    exact retR K hw rfl dX2_formOf_103
  have h := ifn hs6 h
  by_cases hs7 : v0 = (117 : Int32)
  · have h := ifp hs7 h
    refine lv_tableIn (off := 103) (tgt := 104) hx hb dX2_formOf_1 (by rw [hs7]; decide) (by rw [hs7]; decide) (by rw [hs7]; rfl) (by decide) ?_
    refine va_ldcS hx hb K.1.2.2.2.1 (K.2.2.2.2.2.2.2.2.2.2 4 (by decide)) dX2_formOf_104 ?_
    subst h
    exact retR K hw rfl dX2_formOf_106
  have h := ifn hs7 h
  refine tsw_d (tgt := 113) (n := 19) hx hb dX2_formOf_1 rfl (by decide) (fun j hj => ?_) (by decide) ?_
  · have hj2 : j = 0 ∨ j = 1 ∨ j = 2 ∨ j = 3 ∨ j = 4 ∨ j = 5 ∨ j = 6 ∨ j = 7 ∨ j = 8 ∨ j = 9 ∨ j = 10 ∨ j = 11 ∨ j = 12 ∨ j = 13 ∨ j = 14 ∨ j = 15 ∨ j = 16 ∨ j = 17 ∨ j = 18 := by omega
    rcases hj2 with rfl | rfl | rfl | rfl | rfl | rfl | rfl | rfl | rfl | rfl | rfl | rfl | rfl | rfl | rfl | rfl | rfl | rfl | rfl
    · exact Or.inr (lv_neT hs1 (by decide))
    · exact Or.inr (lv_neT hs2 (by decide))
    · exact Or.inl rfl
    · exact Or.inl rfl
    · exact Or.inl rfl
    · exact Or.inr (lv_neT hs3 (by decide))
    · exact Or.inl rfl
    · exact Or.inl rfl
    · exact Or.inr (lv_neT hs4 (by decide))
    · exact Or.inl rfl
    · exact Or.inl rfl
    · exact Or.inl rfl
    · exact Or.inl rfl
    · exact Or.inr (lv_neT hs5 (by decide))
    · exact Or.inl rfl
    · exact Or.inl rfl
    · exact Or.inl rfl
    · exact Or.inr (lv_neT hs6 (by decide))
    · exact Or.inr (lv_neT hs7 (by decide))
  refine va_ldcS hx hb K.1.2.2.2.1 (K.2.2.2.2.2.2.2.2.2.2 7 (by decide)) dX2_formOf_113 ?_
  subst h
  exact retR K hw rfl dX2_formOf_115
set_option maxHeartbeats 4000000 in
set_option maxRecDepth 100000 in
theorem c_X2_kindOf (l : Launch) (G : GP) (v0 : Int32) {o : Int32} (h : f_X2_kindOf v0 = some o) : CtI l yX2_kindOf cX2_kindOf 1 (some .int) ({ frames := 4, cells := 0, slots := 0, locals := 91 } : Room) G ([] : va_W) [.int v0] o ([] : va_W) := by
  refine CtI.of (by decide) (Nat.le_of_ble_eq_true rfl) ?_
  intro p e s m below meth c A ls K hl hw
  have hl : lv_has ls 1 [(0, .int v0)] := hl
  generalize ([.int v0] : List Value).toArray = args at K ⊢
  have hx := K.1.1
  have hb := K.1.2.1
  unfold f_X2_kindOf at h
  refine lv_iload_n hx hb dX2_kindOf_0 rfl (lv_at hl 0 rfl) ?_
  refine lv_iconst (v := (-1 : Int32)) hx hb dX2_kindOf_1 (by decide) ?_
  refine lv_icmp_ne (tgt := 9) hx hb dX2_kindOf_2 (by decide) (fun hc3 => ?_) (fun hc3 => ?_)
  · have h := ifn hc3 h
    refine va_ldcS hx hb K.1.2.2.2.1 (K.2.2.2.2.2.2.2.2.2.2 8 (by decide)) dX2_kindOf_9 ?_
    refine lv_iload_n hx hb dX2_kindOf_11 rfl (lv_at hl 0 rfl) ?_
    refine lv_i2c (v := (v0.toUInt32 % 65536).toInt32) hx hb dX2_kindOf_12 rfl ?_
    obtain ⟨z4, hz4, h⟩ := bd h
    obtain ⟨hg5, h⟩ := gd h
    refine callXI K (s9_l hg5) (c_indexOf l G 8 ((v0.toUInt32 % 65536).toInt32) hz4) mt_yJ0_indexOf_0f7a4 lk_X2_55 ⟨rfl, rfl, Nat.le_of_ble_eq_true rfl, Nat.le_of_ble_eq_true rfl⟩ hw dX2_kindOf_13 hl.1 ⟨Nat.zero_le _, Nat.zero_le _⟩ (wa := (([] : va_W).take 0)) (wb := (([] : va_W).drop 0)) rfl rfl (rest := []) rfl rfl (Nat.le_of_ble_eq_true rfl) (fun H locs hw => ?_)
    have hw : Wx G A ([] : va_W) s H locs := hw
    have h := Option.some.inj h
    subst h
    exact retI K hw rfl dX2_kindOf_16
  · have h := ifp hc3 h
    refine lv_iconst (v := (-1 : Int32)) hx hb dX2_kindOf_5 (by decide) ?_
    refine lv_goto (tgt := 16) hx hb dX2_kindOf_6 (by decide) ?_
    have h := Option.some.inj h
    subst h
    exact retI K hw rfl dX2_kindOf_16
set_option maxHeartbeats 4000000 in
set_option maxRecDepth 100000 in
theorem c_X2_isOfForm (l : Launch) (G : GP) (v0 : Int32) (v1 : Int32) {o : Int32} (h : f_X2_isOfForm v0 v1 = some o) : CtI l yX2_isOfForm cX2_isOfForm 2 (some .boolean) ({ frames := 5, cells := 0, slots := 0, locals := 111 } : Room) G ([] : va_W) [.int v0, .int v1] o ([] : va_W) := by
  refine CtI.of (by decide) (Nat.le_of_ble_eq_true rfl) ?_
  intro p e s m below meth c A ls K hl hw
  have hl : lv_has ls 2 [(0, .int v0), (1, .int v1)] := hl
  generalize ([.int v0, .int v1] : List Value).toArray = args at K ⊢
  have hx := K.1.1
  have hb := K.1.2.1
  unfold f_X2_isOfForm at h
  refine lv_iload_n hx hb dX2_isOfForm_0 rfl (lv_at hl 0 rfl) ?_
  refine lv_bipush (v := (75 : Int32)) hx hb dX2_isOfForm_1 (by decide) ?_
  refine lv_icmp_ne (tgt := 19) hx hb dX2_isOfForm_3 (by decide) (fun hc2 => ?_) (fun hc2 => ?_)
  · have h := ifn hc2 h
    refine lv_iload_n hx hb dX2_isOfForm_19 rfl (lv_at hl 0 rfl) ?_
    refine lv_bipush (v := (35 : Int32)) hx hb dX2_isOfForm_20 (by decide) ?_
    refine lv_icmp_ne (tgt := 45) hx hb dX2_isOfForm_22 (by decide) (fun hc3 => ?_) (fun hc3 => ?_)
    · have h := ifn hc3 h
      refine lv_iload_n hx hb dX2_isOfForm_45 rfl (lv_at hl 1 rfl) ?_
      refine lv_iload_n hx hb dX2_isOfForm_46 rfl (lv_at hl 0 rfl) ?_
      refine lv_icmp_ne (tgt := 54) hx hb dX2_isOfForm_47 (by decide) (fun hc4 => ?_) (fun hc4 => ?_)
      · have h := ifn hc4 h
        refine lv_iconst (v := (0 : Int32)) hx hb dX2_isOfForm_54 (by decide) ?_
        have h := Option.some.inj h
        subst h
        exact retZ K hw rfl rfl dX2_isOfForm_55
      · have h := ifp hc4 h
        refine lv_iconst (v := (1 : Int32)) hx hb dX2_isOfForm_50 (by decide) ?_
        refine lv_goto (tgt := 55) hx hb dX2_isOfForm_51 (by decide) ?_
        have h := Option.some.inj h
        subst h
        exact retZ K hw rfl rfl dX2_isOfForm_55
    · have h := ifp hc3 h
      refine lv_iload_n hx hb dX2_isOfForm_25 rfl (lv_at hl 1 rfl) ?_
      refine lv_bipush (v := (48 : Int32)) hx hb dX2_isOfForm_26 (by decide) ?_
      refine lv_icmp_lt (tgt := 41) hx hb dX2_isOfForm_28 (by decide) (fun hc5 => ?_) (fun hc5 => ?_)
      · have h := ifp hc5 h
        refine lv_iconst (v := (0 : Int32)) hx hb dX2_isOfForm_41 (by decide) ?_
        refine lv_goto (tgt := 55) hx hb dX2_isOfForm_42 (by decide) ?_
        have h := Option.some.inj h
        subst h
        exact retZ K hw rfl rfl dX2_isOfForm_55
      · have h := ifn hc5 h
        refine lv_iload_n hx hb dX2_isOfForm_31 rfl (lv_at hl 1 rfl) ?_
        refine lv_bipush (v := (57 : Int32)) hx hb dX2_isOfForm_32 (by decide) ?_
        refine lv_icmp_gt (tgt := 41) hx hb dX2_isOfForm_34 (by decide) (fun hc6 => ?_) (fun hc6 => ?_)
        · have h := ifp hc6 h
          refine lv_iconst (v := (0 : Int32)) hx hb dX2_isOfForm_41 (by decide) ?_
          refine lv_goto (tgt := 55) hx hb dX2_isOfForm_42 (by decide) ?_
          have h := Option.some.inj h
          subst h
          exact retZ K hw rfl rfl dX2_isOfForm_55
        · have h := ifn hc6 h
          refine lv_iconst (v := (1 : Int32)) hx hb dX2_isOfForm_37 (by decide) ?_
          refine lv_goto (tgt := 55) hx hb dX2_isOfForm_38 (by decide) ?_
          have h := Option.some.inj h
          subst h
          exact retZ K hw rfl rfl dX2_isOfForm_55
  · have h := ifp hc2 h
    refine lv_iload_n hx hb dX2_isOfForm_6 rfl (lv_at hl 1 rfl) ?_
    obtain ⟨z7, hz7, h⟩ := bd h
    refine callSI K (c_X2_kindOf l G v1 hz7) mt_yX2_kindOf lk_X2_50 ⟨rfl, rfl, Nat.le_of_ble_eq_true rfl, Nat.le_of_ble_eq_true rfl⟩ hw dX2_isOfForm_7 hl.1 ⟨Nat.zero_le _, Nat.zero_le _⟩ (wa := (([] : va_W).take 0)) (wb := (([] : va_W).drop 0)) rfl (rest := []) rfl rfl (Nat.le_of_ble_eq_true rfl) (fun H locs hw => ?_)
    have hw : Wx G A ([] : va_W) s H locs := hw
    refine lv_if_lt (tgt := 17) hx hb dX2_isOfForm_10 (by decide) (fun hc8 => ?_) (fun hc8 => ?_)
    · have h := ifp hc8 h
      refine lv_iconst (v := (0 : Int32)) hx hb dX2_isOfForm_17 (by decide) ?_
      have h := Option.some.inj h
      subst h
      exact retZ K hw rfl rfl dX2_isOfForm_18
    · have h := ifn hc8 h
      refine lv_iconst (v := (1 : Int32)) hx hb dX2_isOfForm_13 (by decide) ?_
      refine lv_goto (tgt := 18) hx hb dX2_isOfForm_14 (by decide) ?_
      have h := Option.some.inj h
      subst h
      exact retZ K hw rfl rfl dX2_isOfForm_18
set_option maxHeartbeats 4000000 in
set_option maxRecDepth 100000 in
theorem c_X2_stepFrom (l : Launch) (G : GP) (q : Nat → Nat) (k : Nat) (t_letters : Nat → Int32) (t_length : Int32) (v1 : Int32) {o : Int32} (h : f_X2_stepFrom t_letters t_length v1 = some o) : CtI l yX2_stepFrom cX2_stepFrom 2 (some .int) ({ frames := 2, cells := 0, slots := 0, locals := 42 } : Room) G (tC G q k t_letters t_length) [.ref (q k), .int v1] o (tC G q k t_letters t_length) := by
  refine CtI.of (by decide) (Nat.le_of_ble_eq_true rfl) ?_
  intro p e s m below meth c A ls K hl hw
  have hl : lv_has ls 2 [(0, .ref (q k)), (1, .int v1)] := hl
  generalize ([.ref (q k), .int v1] : List Value).toArray = args at K ⊢
  have hx := K.1.1
  have hb := K.1.2.1
  unfold f_X2_stepFrom at h
  refine lv_aload_n hx hb dX2_stepFrom_0 rfl (lv_at hl 0 rfl) ?_
  refine lv_iload_n hx hb dX2_stepFrom_1 rfl (lv_at hl 1 rfl) ?_
  refine callVI K (c_X2_letterAt l G q k t_letters t_length v1 rfl) mt_yX2_letterAt lk_X2_27 ⟨rfl, rfl, Nat.le_of_ble_eq_true rfl, Nat.le_of_ble_eq_true rfl⟩ hw dX2_stepFrom_2 hl.1 ⟨Nat.zero_le _, Nat.zero_le _⟩ (wa := ((tC G q k t_letters t_length).take 0)) (wb := ((tC G q k t_letters t_length).drop 2)) rfl rfl rfl (rest := []) rfl rfl (Nat.le_of_ble_eq_true rfl) (fun H locs hw => ?_)
  have hw : Wx G A (tC G q k t_letters t_length) s H locs := hw
  refine callSR K (c_X2_formOf l G (f_X2_letterAt t_letters t_length v1) rfl) mt_yX2_formOf lk_X2_60 ⟨rfl, rfl, Nat.le_of_ble_eq_true rfl, Nat.le_of_ble_eq_true rfl⟩ hw dX2_stepFrom_5 hl.1 ⟨Nat.zero_le _, Nat.zero_le _⟩ (wa := ((tC G q k t_letters t_length).take 0)) (wb := ((tC G q k t_letters t_length).drop 0)) rfl (rest := []) rfl rfl (Nat.le_of_ble_eq_true rfl) (fun H locs hw => ?_)
  have hw : Wx G A (tC G q k t_letters t_length) s H locs := hw
  obtain ⟨z3, hz3, h⟩ := bd h
  obtain ⟨hg4, h⟩ := gd h
  refine callXI K (s9_l hg4) (c_strlen l G (f_X2_formOf (f_X2_letterAt t_letters t_length v1)) hz3) mt_yJ0_length_8abf5 lk_X2_64 ⟨rfl, rfl, Nat.le_of_ble_eq_true rfl, Nat.le_of_ble_eq_true rfl⟩ hw dX2_stepFrom_8 hl.1 ⟨Nat.zero_le _, Nat.zero_le _⟩ (wa := ((tC G q k t_letters t_length).take 0)) (wb := ((tC G q k t_letters t_length).drop 0)) rfl rfl (rest := []) rfl rfl (Nat.le_of_ble_eq_true rfl) (fun H locs hw => ?_)
  have hw : Wx G A (tC G q k t_letters t_length) s H locs := hw
  have h := Option.some.inj h
  subst h
  exact retI K hw rfl dX2_stepFrom_11
set_option maxHeartbeats 4000000 in
set_option maxRecDepth 100000 in
theorem c_X2_add (l : Launch) (G : GP) (q : Nat → Nat) (k : Nat) (t_letters : Nat → Int32) (t_length : Int32) (v1 : Int32) {o : (Nat → Int32) × Int32} (h : f_X2_add t_letters t_length v1 = o) : CtV l yX2_add cX2_add 2 ({ frames := 1, cells := 0, slots := 0, locals := 22 } : Room) G (tC G q k t_letters t_length) [.ref (q k), .int v1] (tC G q k o.1 o.2) := by
  refine CtV.of (by decide) (Nat.le_of_ble_eq_true rfl) ?_
  intro p e s m below meth c A ls K hl hw
  have hl : lv_has ls 2 [(0, .ref (q k)), (1, .int v1)] := hl
  generalize ([.ref (q k), .int v1] : List Value).toArray = args at K ⊢
  have hx := K.1.1
  have hb := K.1.2.1
  unfold f_X2_add at h
  refine lv_aload_n hx hb dX2_add_0 rfl (lv_at hl 0 rfl) ?_
  refine getX K hw inTX2 0 1 fl_X2_15 dX2_add_1 rfl rfl (by decide) rfl rfl ?_
  refine lv_bipush (v := (96 : Int32)) hx hb dX2_add_4 (by decide) ?_
  refine lv_icmp_ge (tgt := 31) hx hb dX2_add_6 (by decide) (fun hc1 => ?_) (fun hc1 => ?_)
  · have h := ifp hc1 h
    subst h
    exact retV K hw dX2_add_31
  · have h := ifn hc1 h
    refine lv_aload_n hx hb dX2_add_9 rfl (lv_at hl 0 rfl) ?_
    refine getX K hw inTX2 0 0 fl_X2_9 dX2_add_10 rfl rfl (by decide) rfl rfl ?_
    refine lv_aload_n hx hb dX2_add_13 rfl (lv_at hl 0 rfl) ?_
    refine getX K hw inTX2 0 1 fl_X2_15 dX2_add_14 rfl rfl (by decide) rfl rfl ?_
    refine lv_iload_n hx hb dX2_add_17 rfl (lv_at hl 1 rfl) ?_
    refine callNV K (c_put l G (q (k + 1)) 96 t_letters t_length v1 rfl) mt_yX3_put (List.mem_of_getElem? (i := 3) rfl) ⟨rfl, rfl, Nat.le_of_ble_eq_true rfl, Nat.le_of_ble_eq_true rfl⟩ hw dX2_add_18 hl.1 ⟨Nat.zero_le _, Nat.zero_le _⟩ (wa := ((tC G q k t_letters t_length).take 1)) (wb := ((tC G q k t_letters t_length).drop 2)) rfl (rest := []) rfl rfl (Nat.le_of_ble_eq_true rfl) (fun H locs hw => ?_)
    have hw : Wx G A (tC G q k (f_put 96 t_letters t_length v1) t_length) s H locs := hw
    refine lv_aload_n hx hb dX2_add_21 rfl (lv_at hl 0 rfl) ?_
    refine lv_dup hx hb dX2_add_22 rfl ?_
    refine getX K hw inTX2 0 1 fl_X2_15 dX2_add_23 rfl rfl (by decide) rfl rfl ?_
    refine lv_iconst (v := (1 : Int32)) hx hb dX2_add_26 (by decide) ?_
    refine lv_iadd hx hb dX2_add_27 ?_
    refine putX K hw inTX2 tyX2_ok nmX2 0 1 fl_X2_15 dX2_add_28 rfl rfl (by decide) rfl rfl rfl rfl (Nat.le_of_ble_eq_true rfl) (fun H locs hw => ?_)
    have hw : Wx G A (tC G q k (f_put 96 t_letters t_length v1) (t_length + (1 : Int32))) s H locs := hw
    subst h
    exact retV K hw dX2_add_31
set_option maxHeartbeats 4000000 in
set_option maxRecDepth 100000 in
theorem b_X2_faultOfForm_L39 {l : Launch} {G : GP} {q : Nat → Nat} {k : Nat} {p : Program} {e : Env} {s : State} {m : MethodId} {args : Array Value} {below : List Frame} {meth : Method} {c : Code} {A : Nat → Prop} {t_letters : Nat → Int32} {t_length : Int32} {v1 : Int32} {v2 : Nat} {v3 : Int32} {o : Int32} (K : Cx p s m args meth c A G cX2_faultOfForm 4 RX2 (some .int)) {H : Heap} {locs : List Loc} {ls : Array Slot} (hl : lv_has ls 4 [(0, .ref (q k)), (1, .int v1), (2, .ref (G.2.2.2.1 v2)), (3, .int v3)]) (hw : Wx G A (tC G q k t_letters t_length) s H locs) {y : (Int32) ⊕ ((Int32) ⊕ (Int32))} (h : f_X2_faultOfForm_L39 v1 v2 t_letters t_length v3 = some y) (hk39 : ∀ (b : Int32) (H : Heap) (locs : List Loc) (ls : Array Slot), y = .inl b → lv_has ls 4 [(0, .ref (q k)), (1, .int v1), (2, .ref (G.2.2.2.1 v2)), (3, .int b)] → Wx G A (tC G q k t_letters t_length) s H locs → W p l e ({ frames := 6, cells := 0, slots := 0, locals := 132 } : Room) s m args below meth c H locs 0 0 (MQ below (QI G A (tC G q k t_letters t_length) o) args s 0 0 A) (F0 m 39 ls [])) (hk11 : ∀ (b : Int32) (H : Heap) (locs : List Loc) (ls : Array Slot), y = .inr (.inl b) → lv_has ls 4 [(0, .ref (q k)), (1, .int b)] → Wx G A (tC G q k t_letters t_length) s H locs → W p l e ({ frames := 6, cells := 0, slots := 0, locals := 132 } : Room) s m args below meth c H locs 0 0 (MQ below (QI G A (tC G q k t_letters t_length) o) args s 0 0 A) (F0 m 11 ls [])) (hr : ∀ r : Int32, y = .inr (.inr r) → r = o) : W p l e ({ frames := 6, cells := 0, slots := 0, locals := 132 } : Room) s m args below meth c H locs 0 0 (MQ below (QI G A (tC G q k t_letters t_length) o) args s 0 0 A) (F0 m 39 ls []) := by
  have hx := K.1.1
  have hb := K.1.2.1
  unfold f_X2_faultOfForm_L39 at h
  refine lv_iload_n hx hb dX2_faultOfForm_39 rfl (lv_at hl 3 rfl) ?_
  refine lv_aload_n hx hb dX2_faultOfForm_40 rfl (lv_at hl 2 rfl) ?_
  obtain ⟨z30, hz30, h⟩ := bd h
  obtain ⟨hg31, h⟩ := gd h
  refine callXI K (s9_l hg31) (c_strlen l G v2 hz30) mt_yJ0_length_8abf5 lk_X2_64 ⟨rfl, rfl, Nat.le_of_ble_eq_true rfl, Nat.le_of_ble_eq_true rfl⟩ hw dX2_faultOfForm_41 hl.1 ⟨Nat.zero_le _, Nat.zero_le _⟩ (wa := ((tC G q k t_letters t_length).take 0)) (wb := ((tC G q k t_letters t_length).drop 0)) rfl rfl (rest := [.int v3]) rfl rfl (Nat.le_of_ble_eq_true rfl) (fun H locs hw => ?_)
  have hw : Wx G A (tC G q k t_letters t_length) s H locs := hw
  refine lv_icmp_ge (tgt := 75) hx hb dX2_faultOfForm_44 (by decide) (fun hc32 => ?_) (fun hc32 => ?_)
  · have h := ifp hc32 h
    refine lv_iload_n hx hb dX2_faultOfForm_75 rfl (lv_at hl 1 rfl) ?_
    refine lv_iconst (v := (1 : Int32)) hx hb dX2_faultOfForm_76 (by decide) ?_
    refine lv_aload_n hx hb dX2_faultOfForm_77 rfl (lv_at hl 0 rfl) ?_
    refine lv_iload_n hx hb dX2_faultOfForm_78 rfl (lv_at hl 1 rfl) ?_
    obtain ⟨z33, hz33, h⟩ := bd h
    refine callVI K (c_X2_stepFrom l G q k t_letters t_length v1 hz33) mt_yX2_stepFrom lk_X2_79 ⟨rfl, rfl, Nat.le_of_ble_eq_true rfl, Nat.le_of_ble_eq_true rfl⟩ hw dX2_faultOfForm_79 hl.1 ⟨Nat.zero_le _, Nat.zero_le _⟩ (wa := ((tC G q k t_letters t_length).take 0)) (wb := ((tC G q k t_letters t_length).drop 2)) rfl rfl rfl (rest := [.int (1 : Int32), .int v1]) rfl rfl (Nat.le_of_ble_eq_true rfl) (fun H locs hw => ?_)
    have hw : Wx G A (tC G q k t_letters t_length) s H locs := hw
    refine va_mmax hx hb (K.1.2.2.1.trans hl.1.symm) K.1.2.2.2.1 (K.1.2.2.2.2 _ lk_X2_82) (K.1.2.2.2.2 _ st_Mathmax) (K.1.2.2.2.2 _ ini_J9) (K.1.2.2.2.2 _ cd_Mathmax) (Nat.le_of_ble_eq_true rfl) (Nat.le_of_ble_eq_true rfl) (Nat.zero_le _) (Nat.zero_le _) dX2_faultOfForm_82 ?_
    refine lv_iadd hx hb dX2_faultOfForm_85 ?_
    refine lv_istore_n (lv' := [(1, .int (v1 + (if (1 : Int32) < z33 then z33 else (1 : Int32)))), (0, .ref (q k)), (2, .ref (G.2.2.2.1 v2)), (3, .int v3)]) hx hb dX2_faultOfForm_86 rfl hl (by decide) rfl (fun ls hl => ?_)
    refine lv_goto (tgt := 11) hx hb dX2_faultOfForm_87 (by decide) ?_
    exact hk11 (v1 + (if (1 : Int32) < z33 then z33 else (1 : Int32))) _ _ _ (Option.some.inj h).symm (lv_sub hl [1, 0] rfl) hw
  · have h := ifn hc32 h
    refine lv_aload_n hx hb dX2_faultOfForm_47 rfl (lv_at hl 2 rfl) ?_
    refine lv_iload_n hx hb dX2_faultOfForm_48 rfl (lv_at hl 3 rfl) ?_
    obtain ⟨z34, hz34, h⟩ := bd h
    obtain ⟨hg35, h⟩ := gd h
    refine callXI K (s9_l hg35) (c_charAt l G v2 v3 hz34) mt_yJ0_charAt_5068e lk_X2_71 ⟨rfl, rfl, Nat.le_of_ble_eq_true rfl, Nat.le_of_ble_eq_true rfl⟩ hw dX2_faultOfForm_49 hl.1 ⟨Nat.zero_le _, Nat.zero_le _⟩ (wa := ((tC G q k t_letters t_length).take 0)) (wb := ((tC G q k t_letters t_length).drop 0)) rfl rfl (rest := []) rfl rfl (Nat.le_of_ble_eq_true rfl) (fun H locs hw => ?_)
    have hw : Wx G A (tC G q k t_letters t_length) s H locs := hw
    refine lv_aload_n hx hb dX2_faultOfForm_52 rfl (lv_at hl 0 rfl) ?_
    refine lv_iload_n hx hb dX2_faultOfForm_53 rfl (lv_at hl 1 rfl) ?_
    refine lv_iload_n hx hb dX2_faultOfForm_54 rfl (lv_at hl 3 rfl) ?_
    refine lv_iadd hx hb dX2_faultOfForm_55 ?_
    refine callVI K (c_X2_letterAt l G q k t_letters t_length (v1 + v3) rfl) mt_yX2_letterAt lk_X2_27 ⟨rfl, rfl, Nat.le_of_ble_eq_true rfl, Nat.le_of_ble_eq_true rfl⟩ hw dX2_faultOfForm_56 hl.1 ⟨Nat.zero_le _, Nat.zero_le _⟩ (wa := ((tC G q k t_letters t_length).take 0)) (wb := ((tC G q k t_letters t_length).drop 2)) rfl rfl rfl (rest := [.int z34]) rfl rfl (Nat.le_of_ble_eq_true rfl) (fun H locs hw => ?_)
    have hw : Wx G A (tC G q k t_letters t_length) s H locs := hw
    obtain ⟨z36, hz36, h⟩ := bd h
    refine callSI K (c_X2_isOfForm l G z34 (f_X2_letterAt t_letters t_length (v1 + v3)) hz36) mt_yX2_isOfForm lk_X2_75 ⟨rfl, rfl, Nat.le_of_ble_eq_true rfl, Nat.le_of_ble_eq_true rfl⟩ hw dX2_faultOfForm_59 hl.1 ⟨Nat.zero_le _, Nat.zero_le _⟩ (wa := ((tC G q k t_letters t_length).take 0)) (wb := ((tC G q k t_letters t_length).drop 0)) rfl (rest := []) rfl rfl (Nat.le_of_ble_eq_true rfl) (fun H locs hw => ?_)
    have hw : Wx G A (tC G q k t_letters t_length) s H locs := hw
    refine lv_if_ne (tgt := 69) hx hb dX2_faultOfForm_62 (by decide) (fun hc37 => ?_) (fun hc37 => ?_)
    · have h := ifn hc37 h
      refine lv_iinc (v := (v3 + (1 : Int32))) (lv' := [(3, .int (v3 + (1 : Int32))), (0, .ref (q k)), (1, .int v1), (2, .ref (G.2.2.2.1 v2))]) hx hb dX2_faultOfForm_69 hl (k := 3) rfl rfl (by decide) rfl (fun ls hl => ?_)
      refine lv_goto (tgt := 39) hx hb dX2_faultOfForm_72 (by decide) ?_
      exact hk39 (v3 + (1 : Int32)) _ _ _ (Option.some.inj h).symm (lv_sub hl [1, 2, 3, 0] rfl) hw
    · have h := ifp hc37 h
      refine lv_iload_n hx hb dX2_faultOfForm_65 rfl (lv_at hl 1 rfl) ?_
      refine lv_iload_n hx hb dX2_faultOfForm_66 rfl (lv_at hl 3 rfl) ?_
      refine lv_iadd hx hb dX2_faultOfForm_67 ?_
      have ho := hr _ (Option.some.inj h).symm
      subst ho
      exact retI K hw rfl dX2_faultOfForm_68
set_option maxHeartbeats 4000000 in
set_option maxRecDepth 100000 in
theorem w_X2_faultOfForm_L39 {l : Launch} {G : GP} {q : Nat → Nat} {k : Nat} {p : Program} {e : Env} {s : State} {m : MethodId} {args : Array Value} {below : List Frame} {meth : Method} {c : Code} {A : Nat → Prop} {t_letters : Nat → Int32} {t_length : Int32} {v1 : Int32} {v2 : Nat} {o : Int32} (K : Cx p s m args meth c A G cX2_faultOfForm 4 RX2 (some .int)) : ∀ (fu : Nat) (v3 : Int32) (H : Heap) (locs : List Loc) (ls : Array Slot), lv_has ls 4 [(0, .ref (q k)), (1, .int v1), (2, .ref (G.2.2.2.1 v2)), (3, .int v3)] → Wx G A (tC G q k t_letters t_length) s H locs → ∀ (x : (Int32) ⊕ (Int32)), lp (fun z : Int32 => f_X2_faultOfForm_L39 v1 v2 t_letters t_length (z)) fu v3 = some x → (∀ (b : Int32) (H : Heap) (locs : List Loc) (ls : Array Slot), x = .inl b → lv_has ls 4 [(0, .ref (q k)), (1, .int b)] → Wx G A (tC G q k t_letters t_length) s H locs → W p l e ({ frames := 6, cells := 0, slots := 0, locals := 132 } : Room) s m args below meth c H locs 0 0 (MQ below (QI G A (tC G q k t_letters t_length) o) args s 0 0 A) (F0 m 11 ls [])) → (∀ r : Int32, x = .inr r → r = o) → W p l e ({ frames := 6, cells := 0, slots := 0, locals := 132 } : Room) s m args below meth c H locs 0 0 (MQ below (QI G A (tC G q k t_letters t_length) o) args s 0 0 A) (F0 m 39 ls []) := by
  intro fu
  induction fu with
  | zero => intro v3 H locs ls hl hw x h; exact absurd (show none = some x from h) (by simp)
  | succ fu ih =>
    intro v3 H locs ls hl hw x h hk11 hr
    obtain ⟨y, hy, hc⟩ := lp_s h
    exact b_X2_faultOfForm_L39 K hl hw hy (fun b H locs ls hE hl hw => ih b H locs ls hl hw _ (lp_b hc hE) hk11 hr) (fun b H locs ls hE hl hw => hk11 b H locs ls (lp_x hc hE) hl hw) (fun r hE => hr r (lp_x hc hE))
set_option maxHeartbeats 4000000 in
set_option maxRecDepth 100000 in
theorem b_X2_faultOfForm_L11 {l : Launch} {G : GP} {q : Nat → Nat} {k : Nat} {p : Program} {e : Env} {s : State} {m : MethodId} {args : Array Value} {below : List Frame} {meth : Method} {c : Code} {A : Nat → Prop} {t_letters : Nat → Int32} {t_length : Int32} {v1 : Int32} {o : Int32} (K : Cx p s m args meth c A G cX2_faultOfForm 4 RX2 (some .int)) {H : Heap} {locs : List Loc} {ls : Array Slot} (hl : lv_has ls 4 [(0, .ref (q k)), (1, .int v1)]) (hw : Wx G A (tC G q k t_letters t_length) s H locs) {y : (Int32) ⊕ (Int32)} (h : f_X2_faultOfForm_L11 t_letters t_length v1 = some y) (hk11 : ∀ (b : Int32) (H : Heap) (locs : List Loc) (ls : Array Slot), y = .inl b → lv_has ls 4 [(0, .ref (q k)), (1, .int b)] → Wx G A (tC G q k t_letters t_length) s H locs → W p l e ({ frames := 6, cells := 0, slots := 0, locals := 132 } : Room) s m args below meth c H locs 0 0 (MQ below (QI G A (tC G q k t_letters t_length) o) args s 0 0 A) (F0 m 11 ls [])) (hr : ∀ r : Int32, y = .inr r → r = o) : W p l e ({ frames := 6, cells := 0, slots := 0, locals := 132 } : Room) s m args below meth c H locs 0 0 (MQ below (QI G A (tC G q k t_letters t_length) o) args s 0 0 A) (F0 m 11 ls []) := by
  have hx := K.1.1
  have hb := K.1.2.1
  unfold f_X2_faultOfForm_L11 at h
  refine lv_iload_n hx hb dX2_faultOfForm_11 rfl (lv_at hl 1 rfl) ?_
  refine lv_aload_n hx hb dX2_faultOfForm_12 rfl (lv_at hl 0 rfl) ?_
  refine getX K hw inTX2 0 1 fl_X2_15 dX2_faultOfForm_13 rfl rfl (by decide) rfl rfl ?_
  refine lv_icmp_ge (tgt := 90) hx hb dX2_faultOfForm_16 (by decide) (fun hc26 => ?_) (fun hc26 => ?_)
  · have h := ifp hc26 h
    refine lv_bipush (v := (-9 : Int32)) hx hb dX2_faultOfForm_90 (by decide) ?_
    have ho := hr _ (Option.some.inj h).symm
    subst ho
    exact retI K hw rfl dX2_faultOfForm_92
  · have h := ifn hc26 h
    refine lv_aload_n hx hb dX2_faultOfForm_19 rfl (lv_at hl 0 rfl) ?_
    refine lv_iload_n hx hb dX2_faultOfForm_20 rfl (lv_at hl 1 rfl) ?_
    refine callVI K (c_X2_letterAt l G q k t_letters t_length v1 rfl) mt_yX2_letterAt lk_X2_27 ⟨rfl, rfl, Nat.le_of_ble_eq_true rfl, Nat.le_of_ble_eq_true rfl⟩ hw dX2_faultOfForm_21 hl.1 ⟨Nat.zero_le _, Nat.zero_le _⟩ (wa := ((tC G q k t_letters t_length).take 0)) (wb := ((tC G q k t_letters t_length).drop 2)) rfl rfl rfl (rest := []) rfl rfl (Nat.le_of_ble_eq_true rfl) (fun H locs hw => ?_)
    have hw : Wx G A (tC G q k t_letters t_length) s H locs := hw
    refine callSR K (c_X2_formOf l G (f_X2_letterAt t_letters t_length v1) rfl) mt_yX2_formOf lk_X2_60 ⟨rfl, rfl, Nat.le_of_ble_eq_true rfl, Nat.le_of_ble_eq_true rfl⟩ hw dX2_faultOfForm_24 hl.1 ⟨Nat.zero_le _, Nat.zero_le _⟩ (wa := ((tC G q k t_letters t_length).take 0)) (wb := ((tC G q k t_letters t_length).drop 0)) rfl (rest := []) rfl rfl (Nat.le_of_ble_eq_true rfl) (fun H locs hw => ?_)
    have hw : Wx G A (tC G q k t_letters t_length) s H locs := hw
    refine lv_astore_n (lv' := [(2, .ref (G.2.2.2.1 (f_X2_formOf (f_X2_letterAt t_letters t_length v1)))), (0, .ref (q k)), (1, .int v1)]) hx hb dX2_faultOfForm_27 rfl hl (by decide) rfl (fun ls hl => ?_)
    refine lv_aload_n hx hb dX2_faultOfForm_28 rfl (lv_at hl 0 rfl) ?_
    obtain ⟨z27, hz27, h⟩ := bd h
    obtain ⟨hg28, h⟩ := gd h
    refine callXI K (s9_l hg28) (c_isEmpty l G (f_X2_formOf (f_X2_letterAt t_letters t_length v1)) hz27) mt_yJ0_isEmpty_aae02 lk_X2_67 ⟨rfl, rfl, Nat.le_of_ble_eq_true rfl, Nat.le_of_ble_eq_true rfl⟩ hw dX2_faultOfForm_29 hl.1 ⟨Nat.zero_le _, Nat.zero_le _⟩ (wa := ((tC G q k t_letters t_length).take 0)) (wb := ((tC G q k t_letters t_length).drop 0)) rfl rfl (rest := []) rfl rfl (Nat.le_of_ble_eq_true rfl) (fun H locs hw => ?_)
    have hw : Wx G A (tC G q k t_letters t_length) s H locs := hw
    refine lv_if_eq (tgt := 37) hx hb dX2_faultOfForm_32 (by decide) (fun hc29 => ?_) (fun hc29 => ?_)
    · have h := ifp hc29 h
      refine lv_iconst (v := (1 : Int32)) hx hb dX2_faultOfForm_37 (by decide) ?_
      refine lv_istore_n (lv' := [(3, .int (1 : Int32)), (2, .ref (G.2.2.2.1 (f_X2_formOf (f_X2_letterAt t_letters t_length v1)))), (0, .ref (q k)), (1, .int v1)]) hx hb dX2_faultOfForm_38 rfl hl (by decide) rfl (fun ls hl => ?_)
      exact w_X2_faultOfForm_L39 K 1000 (1 : Int32) _ _ _ (lv_sub hl [2, 3, 1, 0] rfl) hw _ h hk11 hr
    · have h := ifn hc29 h
      refine lv_iload_n hx hb dX2_faultOfForm_35 rfl (lv_at hl 2 rfl) ?_
      have ho := hr _ (Option.some.inj h).symm
      subst ho
      exact retI K hw rfl dX2_faultOfForm_36
set_option maxHeartbeats 4000000 in
set_option maxRecDepth 100000 in
theorem w_X2_faultOfForm_L11 {l : Launch} {G : GP} {q : Nat → Nat} {k : Nat} {p : Program} {e : Env} {s : State} {m : MethodId} {args : Array Value} {below : List Frame} {meth : Method} {c : Code} {A : Nat → Prop} {t_letters : Nat → Int32} {t_length : Int32} {o : Int32} (K : Cx p s m args meth c A G cX2_faultOfForm 4 RX2 (some .int)) : ∀ (fu : Nat) (v1 : Int32) (H : Heap) (locs : List Loc) (ls : Array Slot), lv_has ls 4 [(0, .ref (q k)), (1, .int v1)] → Wx G A (tC G q k t_letters t_length) s H locs → ∀ (x : Int32), lp (fun z : Int32 => f_X2_faultOfForm_L11 t_letters t_length (z)) fu v1 = some x → (x = o) → W p l e ({ frames := 6, cells := 0, slots := 0, locals := 132 } : Room) s m args below meth c H locs 0 0 (MQ below (QI G A (tC G q k t_letters t_length) o) args s 0 0 A) (F0 m 11 ls []) := by
  intro fu
  induction fu with
  | zero => intro v1 H locs ls hl hw x h; exact absurd (show none = some x from h) (by simp)
  | succ fu ih =>
    intro v1 H locs ls hl hw x h hr
    obtain ⟨y, hy, hc⟩ := lp_s h
    exact b_X2_faultOfForm_L11 K hl hw hy (fun b H locs ls hE hl hw => ih b H locs ls hl hw _ (lp_b hc hE) hr) (fun r hE => (lp_x hc hE).symm.trans hr)
set_option maxHeartbeats 4000000 in
set_option maxRecDepth 100000 in
theorem c_X2_faultOfForm (l : Launch) (G : GP) (q : Nat → Nat) (k : Nat) (t_letters : Nat → Int32) (t_length : Int32) {o : Int32} (h : f_X2_faultOfForm t_letters t_length = some o) : CtI l yX2_faultOfForm cX2_faultOfForm 4 (some .int) ({ frames := 6, cells := 0, slots := 0, locals := 132 } : Room) G (tC G q k t_letters t_length) [.ref (q k)] o (tC G q k t_letters t_length) := by
  refine CtI.of (by decide) (Nat.le_of_ble_eq_true rfl) ?_
  intro p e s m below meth c A ls K hl hw
  have hl : lv_has ls 4 [(0, .ref (q k))] := hl
  generalize ([.ref (q k)] : List Value).toArray = args at K ⊢
  have hx := K.1.1
  have hb := K.1.2.1
  unfold f_X2_faultOfForm at h
  refine lv_aload_n hx hb dX2_faultOfForm_0 rfl (lv_at hl 0 rfl) ?_
  refine getX K hw inTX2 0 1 fl_X2_15 dX2_faultOfForm_1 rfl rfl (by decide) rfl rfl ?_
  refine lv_if_ne (tgt := 9) hx hb dX2_faultOfForm_4 (by decide) (fun hc25 => ?_) (fun hc25 => ?_)
  · have h := ifn hc25 h
    refine lv_iconst (v := (0 : Int32)) hx hb dX2_faultOfForm_9 (by decide) ?_
    refine lv_istore_n (lv' := [(1, .int (0 : Int32)), (0, .ref (q k))]) hx hb dX2_faultOfForm_10 rfl hl (by decide) rfl (fun ls hl => ?_)
    exact w_X2_faultOfForm_L11 K 1000 (0 : Int32) _ _ _ (lv_sub hl [1, 0] rfl) hw _ h rfl
  · have h := ifp hc25 h
    refine lv_iconst (v := (0 : Int32)) hx hb dX2_faultOfForm_7 (by decide) ?_
    have h := Option.some.inj h
    subst h
    exact retI K hw rfl dX2_faultOfForm_8
set_option maxHeartbeats 4000000 in
set_option maxRecDepth 100000 in
theorem c_X2_isSensible (l : Launch) (G : GP) (q : Nat → Nat) (k : Nat) (t_letters : Nat → Int32) (t_length : Int32) (v1 : Int32) (v2 : Int32) (v3 : Int32) {o : Int32} (h : f_X2_isSensible t_letters t_length v1 v2 v3 = o) : CtI l yX2_isSensible cX2_isSensible 4 (some .boolean) ({ frames := 4, cells := 0, slots := 0, locals := 84 } : Room) G (tC G q k t_letters t_length) [.ref (q k), .int v1, .int v2, .int v3] o (tC G q k t_letters t_length) := by
  refine CtI.of (by decide) (Nat.le_of_ble_eq_true rfl) ?_
  intro p e s m below meth c A ls K hl hw
  have hl : lv_has ls 4 [(0, .ref (q k)), (1, .int v1), (2, .int v2), (3, .int v3)] := hl
  generalize ([.ref (q k), .int v1, .int v2, .int v3] : List Value).toArray = args at K ⊢
  have hx := K.1.1
  have hb := K.1.2.1
  unfold f_X2_isSensible at h
  refine lv_aload_n hx hb dX2_isSensible_0 rfl (lv_at hl 0 rfl) ?_
  refine lv_iload_n hx hb dX2_isSensible_1 rfl (lv_at hl 1 rfl) ?_
  refine callVI K (c_X2_letterAt l G q k t_letters t_length v1 rfl) mt_yX2_letterAt lk_X2_27 ⟨rfl, rfl, Nat.le_of_ble_eq_true rfl, Nat.le_of_ble_eq_true rfl⟩ hw dX2_isSensible_2 hl.1 ⟨Nat.zero_le _, Nat.zero_le _⟩ (wa := ((tC G q k t_letters t_length).take 0)) (wb := ((tC G q k t_letters t_length).drop 2)) rfl rfl rfl (rest := []) rfl rfl (Nat.le_of_ble_eq_true rfl) (fun H locs hw => ?_)
  have hw : Wx G A (tC G q k t_letters t_length) s H locs := hw
  by_cases hs1 : (f_X2_letterAt t_letters t_length v1) = (99 : Int32)
  · have h := ifp hs1 h
    refine lv_tableIn (off := 71) (tgt := 76) hx hb dX2_isSensible_5 (by rw [hs1]; decide) (by rw [hs1]; decide) (by rw [hs1]; rfl) (by decide) ?_
    refine lv_iload_n hx hb dX2_isSensible_76 rfl (lv_at hl 2 rfl) ?_
    refine lv_bipush (v := (7 : Int32)) hx hb dX2_isSensible_77 (by decide) ?_
    refine lv_icmp_ge (tgt := 110) hx hb dX2_isSensible_79 (by decide) (fun hc2 => ?_) (fun hc2 => ?_)
    · have h := ifp hc2 h
      refine lv_iconst (v := (0 : Int32)) hx hb dX2_isSensible_110 (by decide) ?_
      subst h
      exact retZ K hw rfl rfl dX2_isSensible_111
    · have h := ifn hc2 h
      refine lv_aload_n hx hb dX2_isSensible_82 rfl (lv_at hl 0 rfl) ?_
      refine lv_iload_n hx hb dX2_isSensible_83 rfl (lv_at hl 1 rfl) ?_
      refine lv_iconst (v := (4 : Int32)) hx hb dX2_isSensible_84 (by decide) ?_
      refine lv_iadd hx hb dX2_isSensible_85 ?_
      refine callVI K (c_X2_digitAt l G q k t_letters t_length (v1 + (4 : Int32)) rfl) mt_yX2_digitAt lk_X2_31 ⟨rfl, rfl, Nat.le_of_ble_eq_true rfl, Nat.le_of_ble_eq_true rfl⟩ hw dX2_isSensible_86 hl.1 ⟨Nat.zero_le _, Nat.zero_le _⟩ (wa := ((tC G q k t_letters t_length).take 0)) (wb := ((tC G q k t_letters t_length).drop 2)) rfl rfl rfl (rest := []) rfl rfl (Nat.le_of_ble_eq_true rfl) (fun H locs hw => ?_)
      have hw : Wx G A (tC G q k t_letters t_length) s H locs := hw
      refine lv_bipush (v := (8 : Int32)) hx hb dX2_isSensible_89 (by decide) ?_
      refine lv_icmp_ge (tgt := 110) hx hb dX2_isSensible_91 (by decide) (fun hc3 => ?_) (fun hc3 => ?_)
      · have h := ifp hc3 h
        refine lv_iconst (v := (0 : Int32)) hx hb dX2_isSensible_110 (by decide) ?_
        subst h
        exact retZ K hw rfl rfl dX2_isSensible_111
      · have h := ifn hc3 h
        refine lv_aload_n hx hb dX2_isSensible_94 rfl (lv_at hl 0 rfl) ?_
        refine lv_iload_n hx hb dX2_isSensible_95 rfl (lv_at hl 1 rfl) ?_
        refine lv_iconst (v := (5 : Int32)) hx hb dX2_isSensible_96 (by decide) ?_
        refine lv_iadd hx hb dX2_isSensible_97 ?_
        refine callVI K (c_X2_numberAt l G q k t_letters t_length (v1 + (5 : Int32)) rfl) mt_yX2_numberAt lk_X2_92 ⟨rfl, rfl, Nat.le_of_ble_eq_true rfl, Nat.le_of_ble_eq_true rfl⟩ hw dX2_isSensible_98 hl.1 ⟨Nat.zero_le _, Nat.zero_le _⟩ (wa := ((tC G q k t_letters t_length).take 0)) (wb := ((tC G q k t_letters t_length).drop 2)) rfl rfl rfl (rest := []) rfl rfl (Nat.le_of_ble_eq_true rfl) (fun H locs hw => ?_)
        have hw : Wx G A (tC G q k t_letters t_length) s H locs := hw
        refine lv_bipush (v := (24 : Int32)) hx hb dX2_isSensible_101 (by decide) ?_
        refine lv_icmp_ge (tgt := 110) hx hb dX2_isSensible_103 (by decide) (fun hc4 => ?_) (fun hc4 => ?_)
        · have h := ifp hc4 h
          refine lv_iconst (v := (0 : Int32)) hx hb dX2_isSensible_110 (by decide) ?_
          subst h
          exact retZ K hw rfl rfl dX2_isSensible_111
        · have h := ifn hc4 h
          refine lv_iconst (v := (1 : Int32)) hx hb dX2_isSensible_106 (by decide) ?_
          refine lv_goto (tgt := 111) hx hb dX2_isSensible_107 (by decide) ?_
          subst h
          exact retZ K hw rfl rfl dX2_isSensible_111
  have h := ifn hs1 h
  by_cases hs5 : (f_X2_letterAt t_letters t_length v1) = (100 : Int32)
  · have h := ifp hs5 h
    refine lv_tableIn (off := 188) (tgt := 193) hx hb dX2_isSensible_5 (by rw [hs5]; decide) (by rw [hs5]; decide) (by rw [hs5]; rfl) (by decide) ?_
    refine lv_aload_n hx hb dX2_isSensible_193 rfl (lv_at hl 0 rfl) ?_
    refine lv_iload_n hx hb dX2_isSensible_194 rfl (lv_at hl 1 rfl) ?_
    refine lv_iconst (v := (1 : Int32)) hx hb dX2_isSensible_195 (by decide) ?_
    refine lv_iadd hx hb dX2_isSensible_196 ?_
    refine callVI K (c_X2_numberAt l G q k t_letters t_length (v1 + (1 : Int32)) rfl) mt_yX2_numberAt lk_X2_92 ⟨rfl, rfl, Nat.le_of_ble_eq_true rfl, Nat.le_of_ble_eq_true rfl⟩ hw dX2_isSensible_197 hl.1 ⟨Nat.zero_le _, Nat.zero_le _⟩ (wa := ((tC G q k t_letters t_length).take 0)) (wb := ((tC G q k t_letters t_length).drop 2)) rfl rfl rfl (rest := []) rfl rfl (Nat.le_of_ble_eq_true rfl) (fun H locs hw => ?_)
    have hw : Wx G A (tC G q k t_letters t_length) s H locs := hw
    refine lv_iconst (v := (1 : Int32)) hx hb dX2_isSensible_200 (by decide) ?_
    refine lv_bipush (v := (60 : Int32)) hx hb dX2_isSensible_201 (by decide) ?_
    refine callNI K (c_X3_rangeNo l G (f_X2_numberAt t_letters t_length (v1 + (1 : Int32))) (1 : Int32) (60 : Int32) rfl) mt_yX3_rangeNo (List.mem_of_getElem? (i := 5) rfl) ⟨rfl, rfl, Nat.le_of_ble_eq_true rfl, Nat.le_of_ble_eq_true rfl⟩ hw dX2_isSensible_203 hl.1 ⟨Nat.zero_le _, Nat.zero_le _⟩ (wa := ((tC G q k t_letters t_length).take 0)) (wb := ((tC G q k t_letters t_length).drop 0)) rfl (rest := []) rfl rfl (Nat.le_of_ble_eq_true rfl) (fun H locs hw => ?_)
    have hw : Wx G A (tC G q k t_letters t_length) s H locs := hw
    refine lv_if_ne (tgt := 228) hx hb dX2_isSensible_206 (by decide) (fun hc6 => ?_) (fun hc6 => ?_)
    · have h := ifn hc6 h
      refine lv_iconst (v := (0 : Int32)) hx hb dX2_isSensible_228 (by decide) ?_
      subst h
      exact retZ K hw rfl rfl dX2_isSensible_229
    · have h := ifp hc6 h
      refine lv_iload_n hx hb dX2_isSensible_209 rfl (lv_at hl 3 rfl) ?_
      refine lv_aload_n hx hb dX2_isSensible_210 rfl (lv_at hl 0 rfl) ?_
      refine lv_iload_n hx hb dX2_isSensible_211 rfl (lv_at hl 1 rfl) ?_
      refine lv_iconst (v := (1 : Int32)) hx hb dX2_isSensible_212 (by decide) ?_
      refine lv_iadd hx hb dX2_isSensible_213 ?_
      refine callVI K (c_X2_numberAt l G q k t_letters t_length (v1 + (1 : Int32)) rfl) mt_yX2_numberAt lk_X2_92 ⟨rfl, rfl, Nat.le_of_ble_eq_true rfl, Nat.le_of_ble_eq_true rfl⟩ hw dX2_isSensible_214 hl.1 ⟨Nat.zero_le _, Nat.zero_le _⟩ (wa := ((tC G q k t_letters t_length).take 0)) (wb := ((tC G q k t_letters t_length).drop 2)) rfl rfl rfl (rest := [.int v3]) rfl rfl (Nat.le_of_ble_eq_true rfl) (fun H locs hw => ?_)
      have hw : Wx G A (tC G q k t_letters t_length) s H locs := hw
      refine lv_iadd hx hb dX2_isSensible_217 ?_
      refine lv_sipush (v := (999 : Int32)) hx hb dX2_isSensible_218 (by decide) ?_
      refine lv_icmp_gt (tgt := 228) hx hb dX2_isSensible_221 (by decide) (fun hc7 => ?_) (fun hc7 => ?_)
      · have h := ifp hc7 h
        refine lv_iconst (v := (0 : Int32)) hx hb dX2_isSensible_228 (by decide) ?_
        subst h
        exact retZ K hw rfl rfl dX2_isSensible_229
      · have h := ifn hc7 h
        refine lv_iconst (v := (1 : Int32)) hx hb dX2_isSensible_224 (by decide) ?_
        refine lv_goto (tgt := 229) hx hb dX2_isSensible_225 (by decide) ?_
        subst h
        exact retZ K hw rfl rfl dX2_isSensible_229
  have h := ifn hs5 h
  by_cases hs8 : (f_X2_letterAt t_letters t_length v1) = (104 : Int32)
  · have h := ifp hs8 h
    refine lv_tableIn (off := 137) (tgt := 142) hx hb dX2_isSensible_5 (by rw [hs8]; decide) (by rw [hs8]; decide) (by rw [hs8]; rfl) (by decide) ?_
    refine lv_aload_n hx hb dX2_isSensible_142 rfl (lv_at hl 0 rfl) ?_
    refine lv_iload_n hx hb dX2_isSensible_143 rfl (lv_at hl 1 rfl) ?_
    refine lv_iconst (v := (1 : Int32)) hx hb dX2_isSensible_144 (by decide) ?_
    refine lv_iadd hx hb dX2_isSensible_145 ?_
    refine callVI K (c_X2_digitAt l G q k t_letters t_length (v1 + (1 : Int32)) rfl) mt_yX2_digitAt lk_X2_31 ⟨rfl, rfl, Nat.le_of_ble_eq_true rfl, Nat.le_of_ble_eq_true rfl⟩ hw dX2_isSensible_146 hl.1 ⟨Nat.zero_le _, Nat.zero_le _⟩ (wa := ((tC G q k t_letters t_length).take 0)) (wb := ((tC G q k t_letters t_length).drop 2)) rfl rfl rfl (rest := []) rfl rfl (Nat.le_of_ble_eq_true rfl) (fun H locs hw => ?_)
    have hw : Wx G A (tC G q k t_letters t_length) s H locs := hw
    refine lv_iload_n hx hb dX2_isSensible_149 rfl (lv_at hl 2 rfl) ?_
    refine lv_icmp_ge (tgt := 169) hx hb dX2_isSensible_150 (by decide) (fun hc9 => ?_) (fun hc9 => ?_)
    · have h := ifp hc9 h
      refine lv_iconst (v := (0 : Int32)) hx hb dX2_isSensible_169 (by decide) ?_
      subst h
      exact retZ K hw rfl rfl dX2_isSensible_170
    · have h := ifn hc9 h
      refine lv_aload_n hx hb dX2_isSensible_153 rfl (lv_at hl 0 rfl) ?_
      refine lv_iload_n hx hb dX2_isSensible_154 rfl (lv_at hl 1 rfl) ?_
      refine lv_iconst (v := (2 : Int32)) hx hb dX2_isSensible_155 (by decide) ?_
      refine lv_iadd hx hb dX2_isSensible_156 ?_
      refine callVI K (c_X2_numberAt l G q k t_letters t_length (v1 + (2 : Int32)) rfl) mt_yX2_numberAt lk_X2_92 ⟨rfl, rfl, Nat.le_of_ble_eq_true rfl, Nat.le_of_ble_eq_true rfl⟩ hw dX2_isSensible_157 hl.1 ⟨Nat.zero_le _, Nat.zero_le _⟩ (wa := ((tC G q k t_letters t_length).take 0)) (wb := ((tC G q k t_letters t_length).drop 2)) rfl rfl rfl (rest := []) rfl rfl (Nat.le_of_ble_eq_true rfl) (fun H locs hw => ?_)
      have hw : Wx G A (tC G q k t_letters t_length) s H locs := hw
      refine lv_bipush (v := (24 : Int32)) hx hb dX2_isSensible_160 (by decide) ?_
      refine lv_icmp_ge (tgt := 169) hx hb dX2_isSensible_162 (by decide) (fun hc10 => ?_) (fun hc10 => ?_)
      · have h := ifp hc10 h
        refine lv_iconst (v := (0 : Int32)) hx hb dX2_isSensible_169 (by decide) ?_
        subst h
        exact retZ K hw rfl rfl dX2_isSensible_170
      · have h := ifn hc10 h
        refine lv_iconst (v := (1 : Int32)) hx hb dX2_isSensible_165 (by decide) ?_
        refine lv_goto (tgt := 170) hx hb dX2_isSensible_166 (by decide) ?_
        subst h
        exact retZ K hw rfl rfl dX2_isSensible_170
  have h := ifn hs8 h
  by_cases hs11 : (f_X2_letterAt t_letters t_length v1) = (107 : Int32)
  · have h := ifp hs11 h
    refine lv_tableIn (off := 107) (tgt := 112) hx hb dX2_isSensible_5 (by rw [hs11]; decide) (by rw [hs11]; decide) (by rw [hs11]; rfl) (by decide) ?_
    refine lv_aload_n hx hb dX2_isSensible_112 rfl (lv_at hl 0 rfl) ?_
    refine lv_iload_n hx hb dX2_isSensible_113 rfl (lv_at hl 1 rfl) ?_
    refine lv_iconst (v := (1 : Int32)) hx hb dX2_isSensible_114 (by decide) ?_
    refine lv_iadd hx hb dX2_isSensible_115 ?_
    refine callVI K (c_X2_digitAt l G q k t_letters t_length (v1 + (1 : Int32)) rfl) mt_yX2_digitAt lk_X2_31 ⟨rfl, rfl, Nat.le_of_ble_eq_true rfl, Nat.le_of_ble_eq_true rfl⟩ hw dX2_isSensible_116 hl.1 ⟨Nat.zero_le _, Nat.zero_le _⟩ (wa := ((tC G q k t_letters t_length).take 0)) (wb := ((tC G q k t_letters t_length).drop 2)) rfl rfl rfl (rest := []) rfl rfl (Nat.le_of_ble_eq_true rfl) (fun H locs hw => ?_)
    have hw : Wx G A (tC G q k t_letters t_length) s H locs := hw
    refine lv_bipush (v := (8 : Int32)) hx hb dX2_isSensible_119 (by decide) ?_
    refine lv_icmp_ge (tgt := 140) hx hb dX2_isSensible_121 (by decide) (fun hc12 => ?_) (fun hc12 => ?_)
    · have h := ifp hc12 h
      refine lv_iconst (v := (0 : Int32)) hx hb dX2_isSensible_140 (by decide) ?_
      subst h
      exact retZ K hw rfl rfl dX2_isSensible_141
    · have h := ifn hc12 h
      refine lv_aload_n hx hb dX2_isSensible_124 rfl (lv_at hl 0 rfl) ?_
      refine lv_iload_n hx hb dX2_isSensible_125 rfl (lv_at hl 1 rfl) ?_
      refine lv_iconst (v := (2 : Int32)) hx hb dX2_isSensible_126 (by decide) ?_
      refine lv_iadd hx hb dX2_isSensible_127 ?_
      refine callVI K (c_X2_numberAt l G q k t_letters t_length (v1 + (2 : Int32)) rfl) mt_yX2_numberAt lk_X2_92 ⟨rfl, rfl, Nat.le_of_ble_eq_true rfl, Nat.le_of_ble_eq_true rfl⟩ hw dX2_isSensible_128 hl.1 ⟨Nat.zero_le _, Nat.zero_le _⟩ (wa := ((tC G q k t_letters t_length).take 0)) (wb := ((tC G q k t_letters t_length).drop 2)) rfl rfl rfl (rest := []) rfl rfl (Nat.le_of_ble_eq_true rfl) (fun H locs hw => ?_)
      have hw : Wx G A (tC G q k t_letters t_length) s H locs := hw
      refine lv_bipush (v := (20 : Int32)) hx hb dX2_isSensible_131 (by decide) ?_
      refine lv_icmp_gt (tgt := 140) hx hb dX2_isSensible_133 (by decide) (fun hc13 => ?_) (fun hc13 => ?_)
      · have h := ifp hc13 h
        refine lv_iconst (v := (0 : Int32)) hx hb dX2_isSensible_140 (by decide) ?_
        subst h
        exact retZ K hw rfl rfl dX2_isSensible_141
      · have h := ifn hc13 h
        refine lv_iconst (v := (1 : Int32)) hx hb dX2_isSensible_136 (by decide) ?_
        refine lv_goto (tgt := 141) hx hb dX2_isSensible_137 (by decide) ?_
        subst h
        exact retZ K hw rfl rfl dX2_isSensible_141
  have h := ifn hs11 h
  by_cases hs14 : (f_X2_letterAt t_letters t_length v1) = (112 : Int32)
  · have h := ifp hs14 h
    refine lv_tableIn (off := 166) (tgt := 171) hx hb dX2_isSensible_5 (by rw [hs14]; decide) (by rw [hs14]; decide) (by rw [hs14]; rfl) (by decide) ?_
    refine lv_aload_n hx hb dX2_isSensible_171 rfl (lv_at hl 0 rfl) ?_
    refine lv_iload_n hx hb dX2_isSensible_172 rfl (lv_at hl 1 rfl) ?_
    refine lv_iconst (v := (1 : Int32)) hx hb dX2_isSensible_173 (by decide) ?_
    refine lv_iadd hx hb dX2_isSensible_174 ?_
    refine callVI K (c_X2_numberAt l G q k t_letters t_length (v1 + (1 : Int32)) rfl) mt_yX2_numberAt lk_X2_92 ⟨rfl, rfl, Nat.le_of_ble_eq_true rfl, Nat.le_of_ble_eq_true rfl⟩ hw dX2_isSensible_175 hl.1 ⟨Nat.zero_le _, Nat.zero_le _⟩ (wa := ((tC G q k t_letters t_length).take 0)) (wb := ((tC G q k t_letters t_length).drop 2)) rfl rfl rfl (rest := []) rfl rfl (Nat.le_of_ble_eq_true rfl) (fun H locs hw => ?_)
    have hw : Wx G A (tC G q k t_letters t_length) s H locs := hw
    refine lv_iconst (v := (1 : Int32)) hx hb dX2_isSensible_178 (by decide) ?_
    refine lv_bipush (v := (20 : Int32)) hx hb dX2_isSensible_179 (by decide) ?_
    refine callNI K (c_X3_rangeNo l G (f_X2_numberAt t_letters t_length (v1 + (1 : Int32))) (1 : Int32) (20 : Int32) rfl) mt_yX3_rangeNo (List.mem_of_getElem? (i := 5) rfl) ⟨rfl, rfl, Nat.le_of_ble_eq_true rfl, Nat.le_of_ble_eq_true rfl⟩ hw dX2_isSensible_181 hl.1 ⟨Nat.zero_le _, Nat.zero_le _⟩ (wa := ((tC G q k t_letters t_length).take 0)) (wb := ((tC G q k t_letters t_length).drop 0)) rfl (rest := []) rfl rfl (Nat.le_of_ble_eq_true rfl) (fun H locs hw => ?_)
    have hw : Wx G A (tC G q k t_letters t_length) s H locs := hw
    refine lv_if_ne (tgt := 191) hx hb dX2_isSensible_184 (by decide) (fun hc15 => ?_) (fun hc15 => ?_)
    · have h := ifn hc15 h
      refine lv_iconst (v := (0 : Int32)) hx hb dX2_isSensible_191 (by decide) ?_
      subst h
      exact retZ K hw rfl rfl dX2_isSensible_192
    · have h := ifp hc15 h
      refine lv_iconst (v := (1 : Int32)) hx hb dX2_isSensible_187 (by decide) ?_
      refine lv_goto (tgt := 192) hx hb dX2_isSensible_188 (by decide) ?_
      subst h
      exact retZ K hw rfl rfl dX2_isSensible_192
  have h := ifn hs14 h
  refine tsw_d (tgt := 230) (n := 14) hx hb dX2_isSensible_5 rfl (by decide) (fun j hj => ?_) (by decide) ?_
  · have hj2 : j = 0 ∨ j = 1 ∨ j = 2 ∨ j = 3 ∨ j = 4 ∨ j = 5 ∨ j = 6 ∨ j = 7 ∨ j = 8 ∨ j = 9 ∨ j = 10 ∨ j = 11 ∨ j = 12 ∨ j = 13 := by omega
    rcases hj2 with rfl | rfl | rfl | rfl | rfl | rfl | rfl | rfl | rfl | rfl | rfl | rfl | rfl | rfl
    · exact Or.inr (lv_neT hs1 (by decide))
    · exact Or.inr (lv_neT hs5 (by decide))
    · exact Or.inl rfl
    · exact Or.inl rfl
    · exact Or.inl rfl
    · exact Or.inr (lv_neT hs8 (by decide))
    · exact Or.inl rfl
    · exact Or.inl rfl
    · exact Or.inr (lv_neT hs11 (by decide))
    · exact Or.inl rfl
    · exact Or.inl rfl
    · exact Or.inl rfl
    · exact Or.inl rfl
    · exact Or.inr (lv_neT hs14 (by decide))
  refine lv_iconst (v := (1 : Int32)) hx hb dX2_isSensible_230 (by decide) ?_
  subst h
  exact retZ K hw rfl rfl dX2_isSensible_231
set_option maxHeartbeats 4000000 in
set_option maxRecDepth 100000 in
theorem w_X2_faultOfSense_J70 {l : Launch} {G : GP} {q : Nat → Nat} {k : Nat} {p : Program} {e : Env} {s : State} {m : MethodId} {args : Array Value} {below : List Frame} {meth : Method} {c : Code} {A : Nat → Prop} {t_letters : Nat → Int32} {t_length : Int32} {v3 : Int32} {v4 : Int32} {v5 : Int32} {o : Int32} (K : Cx p s m args meth c A G cX2_faultOfSense 6 RX2 (some .int)) {H : Heap} {locs : List Loc} {ls : Array Slot} (hl : lv_has ls 6 [(0, .ref (q k)), (3, .int v3), (4, .int v4), (5, .int v5)]) (hw : Wx G A (tC G q k t_letters t_length) s H locs) {y : (Int32 × Int32 × Int32) ⊕ (Int32)} (h : f_X2_faultOfSense_J70 v3 v4 v5 t_letters t_length = some y) (hk8 : ∀ (b : Int32 × Int32 × Int32) (H : Heap) (locs : List Loc) (ls : Array Slot), y = .inl b → lv_has ls 6 [(0, .ref (q k)), (3, .int b.1), (4, .int b.2.1), (5, .int b.2.2)] → Wx G A (tC G q k t_letters t_length) s H locs → W p l e ({ frames := 5, cells := 0, slots := 0, locals := 107 } : Room) s m args below meth c H locs 0 0 (MQ below (QI G A (tC G q k t_letters t_length) o) args s 0 0 A) (F0 m 8 ls [])) (hr : ∀ r : Int32, y = .inr r → r = o) : W p l e ({ frames := 5, cells := 0, slots := 0, locals := 107 } : Room) s m args below meth c H locs 0 0 (MQ below (QI G A (tC G q k t_letters t_length) o) args s 0 0 A) (F0 m 70 ls []) := by
  have hx := K.1.1
  have hb := K.1.2.1
  unfold f_X2_faultOfSense_J70 at h
  refine lv_iload hx hb dX2_faultOfSense_70 (lv_at hl 3 rfl) ?_
  refine lv_iconst (v := (1 : Int32)) hx hb dX2_faultOfSense_72 (by decide) ?_
  refine lv_aload_n hx hb dX2_faultOfSense_73 rfl (lv_at hl 0 rfl) ?_
  refine lv_iload hx hb dX2_faultOfSense_74 (lv_at hl 3 rfl) ?_
  obtain ⟨z16, hz16, h⟩ := bd h
  refine callVI K (c_X2_stepFrom l G q k t_letters t_length v5 hz16) mt_yX2_stepFrom lk_X2_79 ⟨rfl, rfl, Nat.le_of_ble_eq_true rfl, Nat.le_of_ble_eq_true rfl⟩ hw dX2_faultOfSense_76 hl.1 ⟨Nat.zero_le _, Nat.zero_le _⟩ (wa := ((tC G q k t_letters t_length).take 0)) (wb := ((tC G q k t_letters t_length).drop 2)) rfl rfl rfl (rest := [.int (1 : Int32), .int v5]) rfl rfl (Nat.le_of_ble_eq_true rfl) (fun H locs hw => ?_)
  have hw : Wx G A (tC G q k t_letters t_length) s H locs := hw
  refine va_mmax hx hb (K.1.2.2.1.trans hl.1.symm) K.1.2.2.2.1 (K.1.2.2.2.2 _ lk_X2_82) (K.1.2.2.2.2 _ st_Mathmax) (K.1.2.2.2.2 _ ini_J9) (K.1.2.2.2.2 _ cd_Mathmax) (Nat.le_of_ble_eq_true rfl) (Nat.le_of_ble_eq_true rfl) (Nat.zero_le _) (Nat.zero_le _) dX2_faultOfSense_79 ?_
  refine lv_iadd hx hb dX2_faultOfSense_82 ?_
  refine lv_istore (lv' := [(5, .int (v5 + (if (1 : Int32) < z16 then z16 else (1 : Int32)))), (0, .ref (q k)), (3, .int v3), (4, .int v4)]) hx hb dX2_faultOfSense_83 hl (by decide) rfl (fun ls hl => ?_)
  refine lv_goto (tgt := 8) hx hb dX2_faultOfSense_85 (by decide) ?_
  exact hk8 (v3, v4, (v5 + (if (1 : Int32) < z16 then z16 else (1 : Int32)))) _ _ _ (Option.some.inj h).symm (lv_sub hl [1, 2, 3, 0] rfl) hw
set_option maxHeartbeats 4000000 in
set_option maxRecDepth 100000 in
theorem w_X2_faultOfSense_J46 {l : Launch} {G : GP} {q : Nat → Nat} {k : Nat} {p : Program} {e : Env} {s : State} {m : MethodId} {args : Array Value} {below : List Frame} {meth : Method} {c : Code} {A : Nat → Prop} {t_letters : Nat → Int32} {t_length : Int32} {v3 : Int32} {v4 : Int32} {v5 : Int32} {o : Int32} (K : Cx p s m args meth c A G cX2_faultOfSense 6 RX2 (some .int)) {H : Heap} {locs : List Loc} {ls : Array Slot} (hl : lv_has ls 6 [(0, .ref (q k)), (3, .int v3), (4, .int v4), (5, .int v5)]) (hw : Wx G A (tC G q k t_letters t_length) s H locs) {y : (Int32 × Int32 × Int32) ⊕ (Int32)} (h : f_X2_faultOfSense_J46 v3 v4 v5 t_letters t_length = some y) (hk8 : ∀ (b : Int32 × Int32 × Int32) (H : Heap) (locs : List Loc) (ls : Array Slot), y = .inl b → lv_has ls 6 [(0, .ref (q k)), (3, .int b.1), (4, .int b.2.1), (5, .int b.2.2)] → Wx G A (tC G q k t_letters t_length) s H locs → W p l e ({ frames := 5, cells := 0, slots := 0, locals := 107 } : Room) s m args below meth c H locs 0 0 (MQ below (QI G A (tC G q k t_letters t_length) o) args s 0 0 A) (F0 m 8 ls [])) (hr : ∀ r : Int32, y = .inr r → r = o) : W p l e ({ frames := 5, cells := 0, slots := 0, locals := 107 } : Room) s m args below meth c H locs 0 0 (MQ below (QI G A (tC G q k t_letters t_length) o) args s 0 0 A) (F0 m 46 ls []) := by
  have hx := K.1.1
  have hb := K.1.2.1
  unfold f_X2_faultOfSense_J46 at h
  refine lv_aload_n hx hb dX2_faultOfSense_46 rfl (lv_at hl 0 rfl) ?_
  refine lv_iload hx hb dX2_faultOfSense_47 (lv_at hl 3 rfl) ?_
  refine callVI K (c_X2_letterAt l G q k t_letters t_length v5 rfl) mt_yX2_letterAt lk_X2_27 ⟨rfl, rfl, Nat.le_of_ble_eq_true rfl, Nat.le_of_ble_eq_true rfl⟩ hw dX2_faultOfSense_49 hl.1 ⟨Nat.zero_le _, Nat.zero_le _⟩ (wa := ((tC G q k t_letters t_length).take 0)) (wb := ((tC G q k t_letters t_length).drop 2)) rfl rfl rfl (rest := []) rfl rfl (Nat.le_of_ble_eq_true rfl) (fun H locs hw => ?_)
  have hw : Wx G A (tC G q k t_letters t_length) s H locs := hw
  refine lv_bipush (v := (100 : Int32)) hx hb dX2_faultOfSense_52 (by decide) ?_
  refine lv_icmp_ne (tgt := 70) hx hb dX2_faultOfSense_54 (by decide) (fun hc15 => ?_) (fun hc15 => ?_)
  · have h := ifn hc15 h
    exact w_X2_faultOfSense_J70 K (lv_sub hl [0, 1, 2, 3] rfl) hw h hk8 hr
  · have h := ifp hc15 h
    refine lv_iload hx hb dX2_faultOfSense_57 (lv_at hl 2 rfl) ?_
    refine lv_aload_n hx hb dX2_faultOfSense_59 rfl (lv_at hl 0 rfl) ?_
    refine lv_iload hx hb dX2_faultOfSense_60 (lv_at hl 3 rfl) ?_
    refine lv_iconst (v := (1 : Int32)) hx hb dX2_faultOfSense_62 (by decide) ?_
    refine lv_iadd hx hb dX2_faultOfSense_63 ?_
    refine callVI K (c_X2_numberAt l G q k t_letters t_length (v5 + (1 : Int32)) rfl) mt_yX2_numberAt lk_X2_92 ⟨rfl, rfl, Nat.le_of_ble_eq_true rfl, Nat.le_of_ble_eq_true rfl⟩ hw dX2_faultOfSense_64 hl.1 ⟨Nat.zero_le _, Nat.zero_le _⟩ (wa := ((tC G q k t_letters t_length).take 0)) (wb := ((tC G q k t_letters t_length).drop 2)) rfl rfl rfl (rest := [.int v4]) rfl rfl (Nat.le_of_ble_eq_true rfl) (fun H locs hw => ?_)
    have hw : Wx G A (tC G q k t_letters t_length) s H locs := hw
    refine lv_iadd hx hb dX2_faultOfSense_67 ?_
    refine lv_istore (lv' := [(4, .int (v4 + (f_X2_numberAt t_letters t_length (v5 + (1 : Int32))))), (0, .ref (q k)), (3, .int v3), (5, .int v5)]) hx hb dX2_faultOfSense_68 hl (by decide) rfl (fun ls hl => ?_)
    exact w_X2_faultOfSense_J70 K (lv_sub hl [1, 2, 0, 3] rfl) hw h hk8 hr
set_option maxHeartbeats 4000000 in
set_option maxRecDepth 100000 in
theorem b_X2_faultOfSense_L8 {l : Launch} {G : GP} {q : Nat → Nat} {k : Nat} {p : Program} {e : Env} {s : State} {m : MethodId} {args : Array Value} {below : List Frame} {meth : Method} {c : Code} {A : Nat → Prop} {t_letters : Nat → Int32} {t_length : Int32} {v3 : Int32} {v4 : Int32} {v5 : Int32} {o : Int32} (K : Cx p s m args meth c A G cX2_faultOfSense 6 RX2 (some .int)) {H : Heap} {locs : List Loc} {ls : Array Slot} (hl : lv_has ls 6 [(0, .ref (q k)), (3, .int v3), (4, .int v4), (5, .int v5)]) (hw : Wx G A (tC G q k t_letters t_length) s H locs) {y : (Int32 × Int32 × Int32) ⊕ (Int32)} (h : f_X2_faultOfSense_L8 t_letters t_length v3 v4 v5 = some y) (hk8 : ∀ (b : Int32 × Int32 × Int32) (H : Heap) (locs : List Loc) (ls : Array Slot), y = .inl b → lv_has ls 6 [(0, .ref (q k)), (3, .int b.1), (4, .int b.2.1), (5, .int b.2.2)] → Wx G A (tC G q k t_letters t_length) s H locs → W p l e ({ frames := 5, cells := 0, slots := 0, locals := 107 } : Room) s m args below meth c H locs 0 0 (MQ below (QI G A (tC G q k t_letters t_length) o) args s 0 0 A) (F0 m 8 ls [])) (hr : ∀ r : Int32, y = .inr r → r = o) : W p l e ({ frames := 5, cells := 0, slots := 0, locals := 107 } : Room) s m args below meth c H locs 0 0 (MQ below (QI G A (tC G q k t_letters t_length) o) args s 0 0 A) (F0 m 8 ls []) := by
  have hx := K.1.1
  have hb := K.1.2.1
  unfold f_X2_faultOfSense_L8 at h
  refine lv_iload hx hb dX2_faultOfSense_8 (lv_at hl 3 rfl) ?_
  refine lv_aload_n hx hb dX2_faultOfSense_10 rfl (lv_at hl 0 rfl) ?_
  refine getX K hw inTX2 0 1 fl_X2_15 dX2_faultOfSense_11 rfl rfl (by decide) rfl rfl ?_
  refine lv_icmp_ge (tgt := 88) hx hb dX2_faultOfSense_14 (by decide) (fun hc12 => ?_) (fun hc12 => ?_)
  · have h := ifp hc12 h
    refine lv_bipush (v := (-9 : Int32)) hx hb dX2_faultOfSense_88 (by decide) ?_
    have ho := hr _ (Option.some.inj h).symm
    subst ho
    exact retI K hw rfl dX2_faultOfSense_90
  · have h := ifn hc12 h
    refine lv_aload_n hx hb dX2_faultOfSense_17 rfl (lv_at hl 0 rfl) ?_
    refine lv_iload hx hb dX2_faultOfSense_18 (lv_at hl 3 rfl) ?_
    refine lv_iload_n hx hb dX2_faultOfSense_20 rfl (lv_at hl 1 rfl) ?_
    refine lv_iload hx hb dX2_faultOfSense_21 (lv_at hl 2 rfl) ?_
    refine callVI K (c_X2_isSensible l G q k t_letters t_length v5 v3 v4 rfl) mt_yX2_isSensible lk_X2_88 ⟨rfl, rfl, Nat.le_of_ble_eq_true rfl, Nat.le_of_ble_eq_true rfl⟩ hw dX2_faultOfSense_23 hl.1 ⟨Nat.zero_le _, Nat.zero_le _⟩ (wa := ((tC G q k t_letters t_length).take 0)) (wb := ((tC G q k t_letters t_length).drop 2)) rfl rfl rfl (rest := []) rfl rfl (Nat.le_of_ble_eq_true rfl) (fun H locs hw => ?_)
    have hw : Wx G A (tC G q k t_letters t_length) s H locs := hw
    refine lv_if_ne (tgt := 32) hx hb dX2_faultOfSense_26 (by decide) (fun hc13 => ?_) (fun hc13 => ?_)
    · have h := ifn hc13 h
      refine lv_aload_n hx hb dX2_faultOfSense_32 rfl (lv_at hl 0 rfl) ?_
      refine lv_iload hx hb dX2_faultOfSense_33 (lv_at hl 3 rfl) ?_
      refine callVI K (c_X2_letterAt l G q k t_letters t_length v5 rfl) mt_yX2_letterAt lk_X2_27 ⟨rfl, rfl, Nat.le_of_ble_eq_true rfl, Nat.le_of_ble_eq_true rfl⟩ hw dX2_faultOfSense_35 hl.1 ⟨Nat.zero_le _, Nat.zero_le _⟩ (wa := ((tC G q k t_letters t_length).take 0)) (wb := ((tC G q k t_letters t_length).drop 2)) rfl rfl rfl (rest := []) rfl rfl (Nat.le_of_ble_eq_true rfl) (fun H locs hw => ?_)
      have hw : Wx G A (tC G q k t_letters t_length) s H locs := hw
      refine lv_bipush (v := (99 : Int32)) hx hb dX2_faultOfSense_38 (by decide) ?_
      refine lv_icmp_ne (tgt := 46) hx hb dX2_faultOfSense_40 (by decide) (fun hc14 => ?_) (fun hc14 => ?_)
      · have h := ifn hc14 h
        exact w_X2_faultOfSense_J46 K (lv_sub hl [0, 1, 2, 3] rfl) hw h hk8 hr
      · have h := ifp hc14 h
        refine lv_iinc (v := (v3 + (1 : Int32))) (lv' := [(3, .int (v3 + (1 : Int32))), (0, .ref (q k)), (4, .int v4), (5, .int v5)]) hx hb dX2_faultOfSense_43 hl (k := 1) rfl rfl (by decide) rfl (fun ls hl => ?_)
        exact w_X2_faultOfSense_J46 K (lv_sub hl [1, 0, 2, 3] rfl) hw h hk8 hr
    · have h := ifp hc13 h
      refine lv_iload hx hb dX2_faultOfSense_29 (lv_at hl 3 rfl) ?_
      have ho := hr _ (Option.some.inj h).symm
      subst ho
      exact retI K hw rfl dX2_faultOfSense_31
set_option maxHeartbeats 4000000 in
set_option maxRecDepth 100000 in
theorem w_X2_faultOfSense_L8 {l : Launch} {G : GP} {q : Nat → Nat} {k : Nat} {p : Program} {e : Env} {s : State} {m : MethodId} {args : Array Value} {below : List Frame} {meth : Method} {c : Code} {A : Nat → Prop} {t_letters : Nat → Int32} {t_length : Int32} {o : Int32} (K : Cx p s m args meth c A G cX2_faultOfSense 6 RX2 (some .int)) : ∀ (fu : Nat) (v3 : Int32) (v4 : Int32) (v5 : Int32) (H : Heap) (locs : List Loc) (ls : Array Slot), lv_has ls 6 [(0, .ref (q k)), (3, .int v3), (4, .int v4), (5, .int v5)] → Wx G A (tC G q k t_letters t_length) s H locs → ∀ (x : Int32), lp (fun z : Int32 × Int32 × Int32 => f_X2_faultOfSense_L8 t_letters t_length (z.1) (z.2.1) (z.2.2)) fu (v3, v4, v5) = some x → (x = o) → W p l e ({ frames := 5, cells := 0, slots := 0, locals := 107 } : Room) s m args below meth c H locs 0 0 (MQ below (QI G A (tC G q k t_letters t_length) o) args s 0 0 A) (F0 m 8 ls []) := by
  intro fu
  induction fu with
  | zero => intro v3 v4 v5 H locs ls hl hw x h; exact absurd (show none = some x from h) (by simp)
  | succ fu ih =>
    intro v3 v4 v5 H locs ls hl hw x h hr
    obtain ⟨y, hy, hc⟩ := lp_s h
    exact b_X2_faultOfSense_L8 K hl hw hy (fun b H locs ls hE hl hw => ih b.1 b.2.1 b.2.2 H locs ls hl hw _ (lp_b hc hE) hr) (fun r hE => (lp_x hc hE).symm.trans hr)
set_option maxHeartbeats 4000000 in
set_option maxRecDepth 100000 in
theorem c_X2_faultOfSense (l : Launch) (G : GP) (q : Nat → Nat) (k : Nat) (t_letters : Nat → Int32) (t_length : Int32) (v1 : Int32) (v2 : Int32) {o : Int32} (h : f_X2_faultOfSense t_letters t_length v1 v2 = some o) : CtI l yX2_faultOfSense cX2_faultOfSense 6 (some .int) ({ frames := 5, cells := 0, slots := 0, locals := 107 } : Room) G (tC G q k t_letters t_length) [.ref (q k), .int v1, .int v2] o (tC G q k t_letters t_length) := by
  refine CtI.of (by decide) (Nat.le_of_ble_eq_true rfl) ?_
  intro p e s m below meth c A ls K hl hw
  have hl : lv_has ls 6 [(0, .ref (q k)), (1, .int v1), (2, .int v2)] := hl
  generalize ([.ref (q k), .int v1, .int v2] : List Value).toArray = args at K ⊢
  have hx := K.1.1
  have hb := K.1.2.1
  unfold f_X2_faultOfSense at h
  refine lv_iload_n hx hb dX2_faultOfSense_0 rfl (lv_at hl 1 rfl) ?_
  refine lv_istore_n (lv' := [(3, .int v1), (0, .ref (q k)), (1, .int v1), (2, .int v2)]) hx hb dX2_faultOfSense_1 rfl hl (by decide) rfl (fun ls hl => ?_)
  refine lv_iload_n hx hb dX2_faultOfSense_2 rfl (lv_at hl 3 rfl) ?_
  refine lv_istore (lv' := [(4, .int v2), (3, .int v1), (0, .ref (q k)), (1, .int v1), (2, .int v2)]) hx hb dX2_faultOfSense_3 hl (by decide) rfl (fun ls hl => ?_)
  refine lv_iconst (v := (0 : Int32)) hx hb dX2_faultOfSense_5 (by decide) ?_
  refine lv_istore (lv' := [(5, .int (0 : Int32)), (4, .int v2), (3, .int v1), (0, .ref (q k)), (1, .int v1), (2, .int v2)]) hx hb dX2_faultOfSense_6 hl (by decide) rfl (fun ls hl => ?_)
  exact w_X2_faultOfSense_L8 K 1000 v1 v2 (0 : Int32) _ _ _ (lv_sub hl [3, 2, 1, 0] rfl) hw _ h rfl
set_option maxHeartbeats 4000000 in
set_option maxRecDepth 100000 in
theorem b_X2_bring_L239 {l : Launch} {G : GP} {q : Nat → Nat} {k : Nat} {k2 : Nat} {p : Program} {e : Env} {s : State} {m : MethodId} {args : Array Value} {below : List Frame} {meth : Method} {c : Code} {A : Nat → Prop} {g_callers : Int32} {g_kinds : Nat → Int32} {g_figures : Nat → Int32} {g_tones : Nat → Int32} {g_words : Nat → Int32} {g_hours : Nat → Int32} {g_order : Nat → Int32} {g_known : Nat → Int32} {g_tune : Int32} {g_hurt : Int32} {g_patience : Int32} {g_day : Int32} {g_answered : Int32} {g_unanswered : Int32} {g_said : Int32} {g_times : Nat → Int32} {g_last : Nat → Int32} {t_letters : Nat → Int32} {t_length : Int32} {v3 : Int32} {v4 : Int32} {o : Int32 × (Nat → Int32) × (Nat → Int32) × (Nat → Int32) × (Nat → Int32) × (Nat → Int32) × (Nat → Int32) × (Nat → Int32) × Int32 × Int32 × Int32 × Int32 × Int32 × Int32 × Int32 × (Nat → Int32) × (Nat → Int32)} (K : Cx p s m args meth c A G cX2_bring 5 RX2 none) {H : Heap} {locs : List Loc} {ls : Array Slot} (hl : lv_has ls 5 [(2, .ref (q k)), (3, .int v3), (4, .int v4)]) (hw : Wx G A (gC G q k g_callers g_kinds g_figures g_tones g_words g_hours g_order g_known g_tune g_hurt g_patience g_day g_answered g_unanswered g_said g_times g_last ++ tC G q k2 t_letters t_length) s H locs) {y : (Int32 × (Nat → Int32) × Int32 × Int32 × Int32 × Int32 × Int32 × (Nat → Int32) × (Nat → Int32)) ⊕ ((Nat → Int32) × Int32 × Int32 × Int32 × Int32 × Int32 × (Nat → Int32) × (Nat → Int32))} (h : f_X2_bring_L239 v3 g_callers g_kinds g_figures g_tones g_words g_hours g_order g_tune g_patience v4 g_known g_hurt g_day g_answered g_unanswered g_said g_times g_last = some y) (hk239 : ∀ (b : Int32 × (Nat → Int32) × Int32 × Int32 × Int32 × Int32 × Int32 × (Nat → Int32) × (Nat → Int32)) (H : Heap) (locs : List Loc) (ls : Array Slot), y = .inl b → lv_has ls 5 [(2, .ref (q k)), (3, .int v3), (4, .int b.1)] → Wx G A (gC G q k g_callers g_kinds g_figures g_tones g_words g_hours g_order b.2.1 g_tune b.2.2.1 g_patience b.2.2.2.1 b.2.2.2.2.1 b.2.2.2.2.2.1 b.2.2.2.2.2.2.1 b.2.2.2.2.2.2.2.1 b.2.2.2.2.2.2.2.2 ++ tC G q k2 t_letters t_length) s H locs → W p l e ({ frames := 5, cells := 0, slots := 0, locals := 111 } : Room) s m args below meth c H locs 0 0 (MQ below (QV G A (gC G q k o.1 o.2.1 o.2.2.1 o.2.2.2.1 o.2.2.2.2.1 o.2.2.2.2.2.1 o.2.2.2.2.2.2.1 o.2.2.2.2.2.2.2.1 o.2.2.2.2.2.2.2.2.1 o.2.2.2.2.2.2.2.2.2.1 o.2.2.2.2.2.2.2.2.2.2.1 o.2.2.2.2.2.2.2.2.2.2.2.1 o.2.2.2.2.2.2.2.2.2.2.2.2.1 o.2.2.2.2.2.2.2.2.2.2.2.2.2.1 o.2.2.2.2.2.2.2.2.2.2.2.2.2.2.1 o.2.2.2.2.2.2.2.2.2.2.2.2.2.2.2.1 o.2.2.2.2.2.2.2.2.2.2.2.2.2.2.2.2 ++ tC G q k2 t_letters t_length)) args s 0 0 A) (F0 m 239 ls [])) (hx239 : ∀ (b : (Nat → Int32) × Int32 × Int32 × Int32 × Int32 × Int32 × (Nat → Int32) × (Nat → Int32)) (H : Heap) (locs : List Loc) (ls : Array Slot), y = .inr b → lv_has ls 5 [] → Wx G A (gC G q k g_callers g_kinds g_figures g_tones g_words g_hours g_order b.1 g_tune b.2.1 g_patience b.2.2.1 b.2.2.2.1 b.2.2.2.2.1 b.2.2.2.2.2.1 b.2.2.2.2.2.2.1 b.2.2.2.2.2.2.2 ++ tC G q k2 t_letters t_length) s H locs → W p l e ({ frames := 5, cells := 0, slots := 0, locals := 111 } : Room) s m args below meth c H locs 0 0 (MQ below (QV G A (gC G q k o.1 o.2.1 o.2.2.1 o.2.2.2.1 o.2.2.2.2.1 o.2.2.2.2.2.1 o.2.2.2.2.2.2.1 o.2.2.2.2.2.2.2.1 o.2.2.2.2.2.2.2.2.1 o.2.2.2.2.2.2.2.2.2.1 o.2.2.2.2.2.2.2.2.2.2.1 o.2.2.2.2.2.2.2.2.2.2.2.1 o.2.2.2.2.2.2.2.2.2.2.2.2.1 o.2.2.2.2.2.2.2.2.2.2.2.2.2.1 o.2.2.2.2.2.2.2.2.2.2.2.2.2.2.1 o.2.2.2.2.2.2.2.2.2.2.2.2.2.2.2.1 o.2.2.2.2.2.2.2.2.2.2.2.2.2.2.2.2 ++ tC G q k2 t_letters t_length)) args s 0 0 A) (F0 m 257 ls [])) : W p l e ({ frames := 5, cells := 0, slots := 0, locals := 111 } : Room) s m args below meth c H locs 0 0 (MQ below (QV G A (gC G q k o.1 o.2.1 o.2.2.1 o.2.2.2.1 o.2.2.2.2.1 o.2.2.2.2.2.1 o.2.2.2.2.2.2.1 o.2.2.2.2.2.2.2.1 o.2.2.2.2.2.2.2.2.1 o.2.2.2.2.2.2.2.2.2.1 o.2.2.2.2.2.2.2.2.2.2.1 o.2.2.2.2.2.2.2.2.2.2.2.1 o.2.2.2.2.2.2.2.2.2.2.2.2.1 o.2.2.2.2.2.2.2.2.2.2.2.2.2.1 o.2.2.2.2.2.2.2.2.2.2.2.2.2.2.1 o.2.2.2.2.2.2.2.2.2.2.2.2.2.2.2.1 o.2.2.2.2.2.2.2.2.2.2.2.2.2.2.2.2 ++ tC G q k2 t_letters t_length)) args s 0 0 A) (F0 m 239 ls []) := by
  have hx := K.1.1
  have hb := K.1.2.1
  unfold f_X2_bring_L239 at h
  refine lv_iload hx hb dX2_bring_239 (lv_at hl 2 rfl) ?_
  refine lv_iload_n hx hb dX2_bring_241 rfl (lv_at hl 1 rfl) ?_
  refine lv_icmp_ge (tgt := 257) hx hb dX2_bring_242 (by decide) (fun hc19 => ?_) (fun hc19 => ?_)
  · have h := ifp hc19 h
    exact hx239 (g_known, g_hurt, g_day, g_answered, g_unanswered, g_said, g_times, g_last) _ _ _ (Option.some.inj h).symm (lv_sub hl [] rfl) hw
  · have h := ifn hc19 h
    refine lv_aload_n hx hb dX2_bring_245 rfl (lv_at hl 0 rfl) ?_
    refine lv_bipush (v := (127 : Int32)) hx hb dX2_bring_246 (by decide) ?_
    obtain ⟨z20, hz20, h⟩ := bd h
    refine callVV K (c_X0_passDay l G q k g_callers g_kinds g_figures g_tones g_words g_hours g_order g_known g_tune g_hurt g_patience g_day g_answered g_unanswered g_said g_times g_last (127 : Int32) hz20) mt_yX0_passDay lk_X2_125 ⟨rfl, rfl, Nat.le_of_ble_eq_true rfl, Nat.le_of_ble_eq_true rfl⟩ hw dX2_bring_248 hl.1 ⟨Nat.zero_le _, Nat.zero_le _⟩ (wa := ((gC G q k g_callers g_kinds g_figures g_tones g_words g_hours g_order g_known g_tune g_hurt g_patience g_day g_answered g_unanswered g_said g_times g_last ++ tC G q k2 t_letters t_length).take 0)) (wb := ((gC G q k g_callers g_kinds g_figures g_tones g_words g_hours g_order g_known g_tune g_hurt g_patience g_day g_answered g_unanswered g_said g_times g_last ++ tC G q k2 t_letters t_length).drop 11)) rfl rfl rfl (rest := []) rfl rfl (Nat.le_of_ble_eq_true rfl) (fun H locs hw => ?_)
    have hw : Wx G A (gC G q k g_callers g_kinds g_figures g_tones g_words g_hours g_order z20.1 g_tune z20.2.1 g_patience z20.2.2.1 z20.2.2.2.1 z20.2.2.2.2.1 z20.2.2.2.2.2.1 z20.2.2.2.2.2.2.1 z20.2.2.2.2.2.2.2 ++ tC G q k2 t_letters t_length) s H locs := hw
    refine lv_iinc (v := (v4 + (1 : Int32))) (lv' := [(4, .int (v4 + (1 : Int32))), (2, .ref (q k)), (3, .int v3)]) hx hb dX2_bring_251 hl (k := 2) rfl rfl (by decide) rfl (fun ls hl => ?_)
    refine lv_goto (tgt := 239) hx hb dX2_bring_254 (by decide) ?_
    exact hk239 ((v4 + (1 : Int32)), z20.1, z20.2.1, z20.2.2.1, z20.2.2.2.1, z20.2.2.2.2.1, z20.2.2.2.2.2.1, z20.2.2.2.2.2.2.1, z20.2.2.2.2.2.2.2) _ _ _ (Option.some.inj h).symm (lv_sub hl [1, 2, 0] rfl) hw
set_option maxHeartbeats 4000000 in
set_option maxRecDepth 100000 in
theorem w_X2_bring_L239 {l : Launch} {G : GP} {q : Nat → Nat} {k : Nat} {k2 : Nat} {p : Program} {e : Env} {s : State} {m : MethodId} {args : Array Value} {below : List Frame} {meth : Method} {c : Code} {A : Nat → Prop} {g_callers : Int32} {g_kinds : Nat → Int32} {g_figures : Nat → Int32} {g_tones : Nat → Int32} {g_words : Nat → Int32} {g_hours : Nat → Int32} {g_order : Nat → Int32} {g_tune : Int32} {g_patience : Int32} {t_letters : Nat → Int32} {t_length : Int32} {v3 : Int32} {o : Int32 × (Nat → Int32) × (Nat → Int32) × (Nat → Int32) × (Nat → Int32) × (Nat → Int32) × (Nat → Int32) × (Nat → Int32) × Int32 × Int32 × Int32 × Int32 × Int32 × Int32 × Int32 × (Nat → Int32) × (Nat → Int32)} (K : Cx p s m args meth c A G cX2_bring 5 RX2 none) : ∀ (fu : Nat) (v4 : Int32) (g_known : Nat → Int32) (g_hurt : Int32) (g_day : Int32) (g_answered : Int32) (g_unanswered : Int32) (g_said : Int32) (g_times : Nat → Int32) (g_last : Nat → Int32) (H : Heap) (locs : List Loc) (ls : Array Slot), lv_has ls 5 [(2, .ref (q k)), (3, .int v3), (4, .int v4)] → Wx G A (gC G q k g_callers g_kinds g_figures g_tones g_words g_hours g_order g_known g_tune g_hurt g_patience g_day g_answered g_unanswered g_said g_times g_last ++ tC G q k2 t_letters t_length) s H locs → ∀ (x : (Nat → Int32) × Int32 × Int32 × Int32 × Int32 × Int32 × (Nat → Int32) × (Nat → Int32)), lp (fun z : Int32 × (Nat → Int32) × Int32 × Int32 × Int32 × Int32 × Int32 × (Nat → Int32) × (Nat → Int32) => f_X2_bring_L239 v3 g_callers g_kinds g_figures g_tones g_words g_hours g_order g_tune g_patience (z.1) (z.2.1) (z.2.2.1) (z.2.2.2.1) (z.2.2.2.2.1) (z.2.2.2.2.2.1) (z.2.2.2.2.2.2.1) (z.2.2.2.2.2.2.2.1) (z.2.2.2.2.2.2.2.2)) fu (v4, g_known, g_hurt, g_day, g_answered, g_unanswered, g_said, g_times, g_last) = some x → (∀ (H : Heap) (locs : List Loc) (ls : Array Slot), lv_has ls 5 [] → Wx G A (gC G q k g_callers g_kinds g_figures g_tones g_words g_hours g_order x.1 g_tune x.2.1 g_patience x.2.2.1 x.2.2.2.1 x.2.2.2.2.1 x.2.2.2.2.2.1 x.2.2.2.2.2.2.1 x.2.2.2.2.2.2.2 ++ tC G q k2 t_letters t_length) s H locs → W p l e ({ frames := 5, cells := 0, slots := 0, locals := 111 } : Room) s m args below meth c H locs 0 0 (MQ below (QV G A (gC G q k o.1 o.2.1 o.2.2.1 o.2.2.2.1 o.2.2.2.2.1 o.2.2.2.2.2.1 o.2.2.2.2.2.2.1 o.2.2.2.2.2.2.2.1 o.2.2.2.2.2.2.2.2.1 o.2.2.2.2.2.2.2.2.2.1 o.2.2.2.2.2.2.2.2.2.2.1 o.2.2.2.2.2.2.2.2.2.2.2.1 o.2.2.2.2.2.2.2.2.2.2.2.2.1 o.2.2.2.2.2.2.2.2.2.2.2.2.2.1 o.2.2.2.2.2.2.2.2.2.2.2.2.2.2.1 o.2.2.2.2.2.2.2.2.2.2.2.2.2.2.2.1 o.2.2.2.2.2.2.2.2.2.2.2.2.2.2.2.2 ++ tC G q k2 t_letters t_length)) args s 0 0 A) (F0 m 257 ls [])) → W p l e ({ frames := 5, cells := 0, slots := 0, locals := 111 } : Room) s m args below meth c H locs 0 0 (MQ below (QV G A (gC G q k o.1 o.2.1 o.2.2.1 o.2.2.2.1 o.2.2.2.2.1 o.2.2.2.2.2.1 o.2.2.2.2.2.2.1 o.2.2.2.2.2.2.2.1 o.2.2.2.2.2.2.2.2.1 o.2.2.2.2.2.2.2.2.2.1 o.2.2.2.2.2.2.2.2.2.2.1 o.2.2.2.2.2.2.2.2.2.2.2.1 o.2.2.2.2.2.2.2.2.2.2.2.2.1 o.2.2.2.2.2.2.2.2.2.2.2.2.2.1 o.2.2.2.2.2.2.2.2.2.2.2.2.2.2.1 o.2.2.2.2.2.2.2.2.2.2.2.2.2.2.2.1 o.2.2.2.2.2.2.2.2.2.2.2.2.2.2.2.2 ++ tC G q k2 t_letters t_length)) args s 0 0 A) (F0 m 239 ls []) := by
  intro fu
  induction fu with
  | zero => intro v4 g_known g_hurt g_day g_answered g_unanswered g_said g_times g_last H locs ls hl hw x h; exact absurd (show none = some x from h) (by simp)
  | succ fu ih =>
    intro v4 g_known g_hurt g_day g_answered g_unanswered g_said g_times g_last H locs ls hl hw x h hx239
    obtain ⟨y, hy, hc⟩ := lp_s h
    exact b_X2_bring_L239 K hl hw hy (fun b H locs ls hE hl hw => ih b.1 b.2.1 b.2.2.1 b.2.2.2.1 b.2.2.2.2.1 b.2.2.2.2.2.1 b.2.2.2.2.2.2.1 b.2.2.2.2.2.2.2.1 b.2.2.2.2.2.2.2.2 H locs ls hl hw _ (lp_b hc hE) hx239) (fun b H locs ls hE hl hw => by
      have e9 := lp_x hc hE
      subst e9
      exact hx239 H locs ls hl hw)
set_option maxHeartbeats 4000000 in
set_option maxRecDepth 100000 in
theorem c_X2_bring (l : Launch) (G : GP) (q : Nat → Nat) (k : Nat) (k2 : Nat) (g_callers : Int32) (g_kinds : Nat → Int32) (g_figures : Nat → Int32) (g_tones : Nat → Int32) (g_words : Nat → Int32) (g_hours : Nat → Int32) (g_order : Nat → Int32) (g_known : Nat → Int32) (g_tune : Int32) (g_hurt : Int32) (g_patience : Int32) (g_day : Int32) (g_answered : Int32) (g_unanswered : Int32) (g_said : Int32) (g_times : Nat → Int32) (g_last : Nat → Int32) (t_letters : Nat → Int32) (t_length : Int32) (v1 : Int32) {o : Int32 × (Nat → Int32) × (Nat → Int32) × (Nat → Int32) × (Nat → Int32) × (Nat → Int32) × (Nat → Int32) × (Nat → Int32) × Int32 × Int32 × Int32 × Int32 × Int32 × Int32 × Int32 × (Nat → Int32) × (Nat → Int32)} (h : f_X2_bring g_callers g_kinds g_figures g_tones g_words g_hours g_order g_known g_tune g_hurt g_patience g_day g_answered g_unanswered g_said g_times g_last t_letters t_length v1 = some o) : CtV l yX2_bring cX2_bring 5 ({ frames := 5, cells := 0, slots := 0, locals := 111 } : Room) G (gC G q k g_callers g_kinds g_figures g_tones g_words g_hours g_order g_known g_tune g_hurt g_patience g_day g_answered g_unanswered g_said g_times g_last ++ tC G q k2 t_letters t_length) [.ref (q k2), .int v1, .ref (q k)] (gC G q k o.1 o.2.1 o.2.2.1 o.2.2.2.1 o.2.2.2.2.1 o.2.2.2.2.2.1 o.2.2.2.2.2.2.1 o.2.2.2.2.2.2.2.1 o.2.2.2.2.2.2.2.2.1 o.2.2.2.2.2.2.2.2.2.1 o.2.2.2.2.2.2.2.2.2.2.1 o.2.2.2.2.2.2.2.2.2.2.2.1 o.2.2.2.2.2.2.2.2.2.2.2.2.1 o.2.2.2.2.2.2.2.2.2.2.2.2.2.1 o.2.2.2.2.2.2.2.2.2.2.2.2.2.2.1 o.2.2.2.2.2.2.2.2.2.2.2.2.2.2.2.1 o.2.2.2.2.2.2.2.2.2.2.2.2.2.2.2.2 ++ tC G q k2 t_letters t_length) := by
  refine CtV.of (by decide) (Nat.le_of_ble_eq_true rfl) ?_
  intro p e s m below meth c A ls K hl hw
  have hl : lv_has ls 5 [(0, .ref (q k2)), (1, .int v1), (2, .ref (q k))] := hl
  generalize ([.ref (q k2), .int v1, .ref (q k)] : List Value).toArray = args at K ⊢
  have hx := K.1.1
  have hb := K.1.2.1
  unfold f_X2_bring at h
  refine lv_aload_n hx hb dX2_bring_0 rfl (lv_at hl 0 rfl) ?_
  refine lv_iload_n hx hb dX2_bring_1 rfl (lv_at hl 1 rfl) ?_
  refine callVI K (c_X2_letterAt l G q k2 t_letters t_length v1 rfl) mt_yX2_letterAt lk_X2_27 ⟨rfl, rfl, Nat.le_of_ble_eq_true rfl, Nat.le_of_ble_eq_true rfl⟩ hw dX2_bring_2 hl.1 ⟨Nat.zero_le _, Nat.zero_le _⟩ (wa := ((gC G q k g_callers g_kinds g_figures g_tones g_words g_hours g_order g_known g_tune g_hurt g_patience g_day g_answered g_unanswered g_said g_times g_last ++ tC G q k2 t_letters t_length).take 11)) (wb := ((gC G q k g_callers g_kinds g_figures g_tones g_words g_hours g_order g_known g_tune g_hurt g_patience g_day g_answered g_unanswered g_said g_times g_last ++ tC G q k2 t_letters t_length).drop 13)) rfl rfl rfl (rest := []) rfl rfl (Nat.le_of_ble_eq_true rfl) (fun H locs hw => ?_)
  have hw : Wx G A (gC G q k g_callers g_kinds g_figures g_tones g_words g_hours g_order g_known g_tune g_hurt g_patience g_day g_answered g_unanswered g_said g_times g_last ++ tC G q k2 t_letters t_length) s H locs := hw
  by_cases hs15 : (f_X2_letterAt t_letters t_length v1) = (99 : Int32)
  · have h := ifp hs15 h
    refine lv_tableIn (off := 91) (tgt := 96) hx hb dX2_bring_5 (by rw [hs15]; decide) (by rw [hs15]; decide) (by rw [hs15]; rfl) (by decide) ?_
    refine lv_aload_n hx hb dX2_bring_96 rfl (lv_at hl 2 rfl) ?_
    refine lv_aload_n hx hb dX2_bring_97 rfl (lv_at hl 0 rfl) ?_
    refine lv_iload_n hx hb dX2_bring_98 rfl (lv_at hl 1 rfl) ?_
    refine lv_iconst (v := (1 : Int32)) hx hb dX2_bring_99 (by decide) ?_
    refine lv_iadd hx hb dX2_bring_100 ?_
    refine callVI K (c_X2_letterAt l G q k2 t_letters t_length (v1 + (1 : Int32)) rfl) mt_yX2_letterAt lk_X2_27 ⟨rfl, rfl, Nat.le_of_ble_eq_true rfl, Nat.le_of_ble_eq_true rfl⟩ hw dX2_bring_101 hl.1 ⟨Nat.zero_le _, Nat.zero_le _⟩ (wa := ((gC G q k g_callers g_kinds g_figures g_tones g_words g_hours g_order g_known g_tune g_hurt g_patience g_day g_answered g_unanswered g_said g_times g_last ++ tC G q k2 t_letters t_length).take 11)) (wb := ((gC G q k g_callers g_kinds g_figures g_tones g_words g_hours g_order g_known g_tune g_hurt g_patience g_day g_answered g_unanswered g_said g_times g_last ++ tC G q k2 t_letters t_length).drop 13)) rfl rfl rfl (rest := [.ref (q k)]) rfl rfl (Nat.le_of_ble_eq_true rfl) (fun H locs hw => ?_)
    have hw : Wx G A (gC G q k g_callers g_kinds g_figures g_tones g_words g_hours g_order g_known g_tune g_hurt g_patience g_day g_answered g_unanswered g_said g_times g_last ++ tC G q k2 t_letters t_length) s H locs := hw
    obtain ⟨z16, hz16, h⟩ := bd h
    refine callSI K (c_X2_kindOf l G (f_X2_letterAt t_letters t_length (v1 + (1 : Int32))) hz16) mt_yX2_kindOf lk_X2_50 ⟨rfl, rfl, Nat.le_of_ble_eq_true rfl, Nat.le_of_ble_eq_true rfl⟩ hw dX2_bring_104 hl.1 ⟨Nat.zero_le _, Nat.zero_le _⟩ (wa := ((gC G q k g_callers g_kinds g_figures g_tones g_words g_hours g_order g_known g_tune g_hurt g_patience g_day g_answered g_unanswered g_said g_times g_last ++ tC G q k2 t_letters t_length).take 0)) (wb := ((gC G q k g_callers g_kinds g_figures g_tones g_words g_hours g_order g_known g_tune g_hurt g_patience g_day g_answered g_unanswered g_said g_times g_last ++ tC G q k2 t_letters t_length).drop 0)) rfl (rest := [.ref (q k)]) rfl rfl (Nat.le_of_ble_eq_true rfl) (fun H locs hw => ?_)
    have hw : Wx G A (gC G q k g_callers g_kinds g_figures g_tones g_words g_hours g_order g_known g_tune g_hurt g_patience g_day g_answered g_unanswered g_said g_times g_last ++ tC G q k2 t_letters t_length) s H locs := hw
    refine lv_aload_n hx hb dX2_bring_107 rfl (lv_at hl 0 rfl) ?_
    refine lv_iload_n hx hb dX2_bring_108 rfl (lv_at hl 1 rfl) ?_
    refine lv_iconst (v := (2 : Int32)) hx hb dX2_bring_109 (by decide) ?_
    refine lv_iadd hx hb dX2_bring_110 ?_
    refine callVI K (c_X2_digitAt l G q k2 t_letters t_length (v1 + (2 : Int32)) rfl) mt_yX2_digitAt lk_X2_31 ⟨rfl, rfl, Nat.le_of_ble_eq_true rfl, Nat.le_of_ble_eq_true rfl⟩ hw dX2_bring_111 hl.1 ⟨Nat.zero_le _, Nat.zero_le _⟩ (wa := ((gC G q k g_callers g_kinds g_figures g_tones g_words g_hours g_order g_known g_tune g_hurt g_patience g_day g_answered g_unanswered g_said g_times g_last ++ tC G q k2 t_letters t_length).take 11)) (wb := ((gC G q k g_callers g_kinds g_figures g_tones g_words g_hours g_order g_known g_tune g_hurt g_patience g_day g_answered g_unanswered g_said g_times g_last ++ tC G q k2 t_letters t_length).drop 13)) rfl rfl rfl (rest := [.int z16, .ref (q k)]) rfl rfl (Nat.le_of_ble_eq_true rfl) (fun H locs hw => ?_)
    have hw : Wx G A (gC G q k g_callers g_kinds g_figures g_tones g_words g_hours g_order g_known g_tune g_hurt g_patience g_day g_answered g_unanswered g_said g_times g_last ++ tC G q k2 t_letters t_length) s H locs := hw
    refine lv_aload_n hx hb dX2_bring_114 rfl (lv_at hl 0 rfl) ?_
    refine lv_iload_n hx hb dX2_bring_115 rfl (lv_at hl 1 rfl) ?_
    refine lv_iconst (v := (3 : Int32)) hx hb dX2_bring_116 (by decide) ?_
    refine lv_iadd hx hb dX2_bring_117 ?_
    refine callVI K (c_X2_digitAt l G q k2 t_letters t_length (v1 + (3 : Int32)) rfl) mt_yX2_digitAt lk_X2_31 ⟨rfl, rfl, Nat.le_of_ble_eq_true rfl, Nat.le_of_ble_eq_true rfl⟩ hw dX2_bring_118 hl.1 ⟨Nat.zero_le _, Nat.zero_le _⟩ (wa := ((gC G q k g_callers g_kinds g_figures g_tones g_words g_hours g_order g_known g_tune g_hurt g_patience g_day g_answered g_unanswered g_said g_times g_last ++ tC G q k2 t_letters t_length).take 11)) (wb := ((gC G q k g_callers g_kinds g_figures g_tones g_words g_hours g_order g_known g_tune g_hurt g_patience g_day g_answered g_unanswered g_said g_times g_last ++ tC G q k2 t_letters t_length).drop 13)) rfl rfl rfl (rest := [.int (f_X2_digitAt t_letters t_length (v1 + (2 : Int32))), .int z16, .ref (q k)]) rfl rfl (Nat.le_of_ble_eq_true rfl) (fun H locs hw => ?_)
    have hw : Wx G A (gC G q k g_callers g_kinds g_figures g_tones g_words g_hours g_order g_known g_tune g_hurt g_patience g_day g_answered g_unanswered g_said g_times g_last ++ tC G q k2 t_letters t_length) s H locs := hw
    refine lv_aload_n hx hb dX2_bring_121 rfl (lv_at hl 0 rfl) ?_
    refine lv_iload_n hx hb dX2_bring_122 rfl (lv_at hl 1 rfl) ?_
    refine lv_iconst (v := (4 : Int32)) hx hb dX2_bring_123 (by decide) ?_
    refine lv_iadd hx hb dX2_bring_124 ?_
    refine callVI K (c_X2_digitAt l G q k2 t_letters t_length (v1 + (4 : Int32)) rfl) mt_yX2_digitAt lk_X2_31 ⟨rfl, rfl, Nat.le_of_ble_eq_true rfl, Nat.le_of_ble_eq_true rfl⟩ hw dX2_bring_125 hl.1 ⟨Nat.zero_le _, Nat.zero_le _⟩ (wa := ((gC G q k g_callers g_kinds g_figures g_tones g_words g_hours g_order g_known g_tune g_hurt g_patience g_day g_answered g_unanswered g_said g_times g_last ++ tC G q k2 t_letters t_length).take 11)) (wb := ((gC G q k g_callers g_kinds g_figures g_tones g_words g_hours g_order g_known g_tune g_hurt g_patience g_day g_answered g_unanswered g_said g_times g_last ++ tC G q k2 t_letters t_length).drop 13)) rfl rfl rfl (rest := [.int (f_X2_digitAt t_letters t_length (v1 + (3 : Int32))), .int (f_X2_digitAt t_letters t_length (v1 + (2 : Int32))), .int z16, .ref (q k)]) rfl rfl (Nat.le_of_ble_eq_true rfl) (fun H locs hw => ?_)
    have hw : Wx G A (gC G q k g_callers g_kinds g_figures g_tones g_words g_hours g_order g_known g_tune g_hurt g_patience g_day g_answered g_unanswered g_said g_times g_last ++ tC G q k2 t_letters t_length) s H locs := hw
    refine lv_aload_n hx hb dX2_bring_128 rfl (lv_at hl 0 rfl) ?_
    refine lv_iload_n hx hb dX2_bring_129 rfl (lv_at hl 1 rfl) ?_
    refine lv_iconst (v := (5 : Int32)) hx hb dX2_bring_130 (by decide) ?_
    refine lv_iadd hx hb dX2_bring_131 ?_
    refine callVI K (c_X2_numberAt l G q k2 t_letters t_length (v1 + (5 : Int32)) rfl) mt_yX2_numberAt lk_X2_92 ⟨rfl, rfl, Nat.le_of_ble_eq_true rfl, Nat.le_of_ble_eq_true rfl⟩ hw dX2_bring_132 hl.1 ⟨Nat.zero_le _, Nat.zero_le _⟩ (wa := ((gC G q k g_callers g_kinds g_figures g_tones g_words g_hours g_order g_known g_tune g_hurt g_patience g_day g_answered g_unanswered g_said g_times g_last ++ tC G q k2 t_letters t_length).take 11)) (wb := ((gC G q k g_callers g_kinds g_figures g_tones g_words g_hours g_order g_known g_tune g_hurt g_patience g_day g_answered g_unanswered g_said g_times g_last ++ tC G q k2 t_letters t_length).drop 13)) rfl rfl rfl (rest := [.int (f_X2_digitAt t_letters t_length (v1 + (4 : Int32))), .int (f_X2_digitAt t_letters t_length (v1 + (3 : Int32))), .int (f_X2_digitAt t_letters t_length (v1 + (2 : Int32))), .int z16, .ref (q k)]) rfl rfl (Nat.le_of_ble_eq_true rfl) (fun H locs hw => ?_)
    have hw : Wx G A (gC G q k g_callers g_kinds g_figures g_tones g_words g_hours g_order g_known g_tune g_hurt g_patience g_day g_answered g_unanswered g_said g_times g_last ++ tC G q k2 t_letters t_length) s H locs := hw
    obtain ⟨z17, hz17, h⟩ := bd h
    refine callVV K (c_X0_addCaller l G q k g_callers g_kinds g_figures g_tones g_words g_hours g_order g_known g_tune g_hurt g_patience g_day g_answered g_unanswered g_said g_times g_last z16 (f_X2_digitAt t_letters t_length (v1 + (2 : Int32))) (f_X2_digitAt t_letters t_length (v1 + (3 : Int32))) (f_X2_digitAt t_letters t_length (v1 + (4 : Int32))) (f_X2_numberAt t_letters t_length (v1 + (5 : Int32))) hz17) mt_yX0_addCaller lk_X2_103 ⟨rfl, rfl, Nat.le_of_ble_eq_true rfl, Nat.le_of_ble_eq_true rfl⟩ hw dX2_bring_135 hl.1 ⟨Nat.zero_le _, Nat.zero_le _⟩ (wa := ((gC G q k g_callers g_kinds g_figures g_tones g_words g_hours g_order g_known g_tune g_hurt g_patience g_day g_answered g_unanswered g_said g_times g_last ++ tC G q k2 t_letters t_length).take 0)) (wb := ((gC G q k g_callers g_kinds g_figures g_tones g_words g_hours g_order g_known g_tune g_hurt g_patience g_day g_answered g_unanswered g_said g_times g_last ++ tC G q k2 t_letters t_length).drop 11)) rfl rfl rfl (rest := []) rfl rfl (Nat.le_of_ble_eq_true rfl) (fun H locs hw => ?_)
    have hw : Wx G A (gC G q k z17.1 z17.2.1 z17.2.2.1 z17.2.2.2.1 z17.2.2.2.2.1 z17.2.2.2.2.2.1 z17.2.2.2.2.2.2 g_known g_tune g_hurt g_patience g_day g_answered g_unanswered g_said g_times g_last ++ tC G q k2 t_letters t_length) s H locs := hw
    refine lv_goto (tgt := 260) hx hb dX2_bring_138 (by decide) ?_
    have h := Option.some.inj h
    subst h
    exact retV K hw dX2_bring_260
  have h := ifn hs15 h
  by_cases hs18 : (f_X2_letterAt t_letters t_length v1) = (100 : Int32)
  · have h := ifp hs18 h
    refine lv_tableIn (off := 223) (tgt := 228) hx hb dX2_bring_5 (by rw [hs18]; decide) (by rw [hs18]; decide) (by rw [hs18]; rfl) (by decide) ?_
    refine lv_aload_n hx hb dX2_bring_228 rfl (lv_at hl 0 rfl) ?_
    refine lv_iload_n hx hb dX2_bring_229 rfl (lv_at hl 1 rfl) ?_
    refine lv_iconst (v := (1 : Int32)) hx hb dX2_bring_230 (by decide) ?_
    refine lv_iadd hx hb dX2_bring_231 ?_
    refine callVI K (c_X2_numberAt l G q k2 t_letters t_length (v1 + (1 : Int32)) rfl) mt_yX2_numberAt lk_X2_92 ⟨rfl, rfl, Nat.le_of_ble_eq_true rfl, Nat.le_of_ble_eq_true rfl⟩ hw dX2_bring_232 hl.1 ⟨Nat.zero_le _, Nat.zero_le _⟩ (wa := ((gC G q k g_callers g_kinds g_figures g_tones g_words g_hours g_order g_known g_tune g_hurt g_patience g_day g_answered g_unanswered g_said g_times g_last ++ tC G q k2 t_letters t_length).take 11)) (wb := ((gC G q k g_callers g_kinds g_figures g_tones g_words g_hours g_order g_known g_tune g_hurt g_patience g_day g_answered g_unanswered g_said g_times g_last ++ tC G q k2 t_letters t_length).drop 13)) rfl rfl rfl (rest := []) rfl rfl (Nat.le_of_ble_eq_true rfl) (fun H locs hw => ?_)
    have hw : Wx G A (gC G q k g_callers g_kinds g_figures g_tones g_words g_hours g_order g_known g_tune g_hurt g_patience g_day g_answered g_unanswered g_said g_times g_last ++ tC G q k2 t_letters t_length) s H locs := hw
    refine lv_istore_n (lv' := [(3, .int (f_X2_numberAt t_letters t_length (v1 + (1 : Int32)))), (0, .ref (q k2)), (1, .int v1), (2, .ref (q k))]) hx hb dX2_bring_235 rfl hl (by decide) rfl (fun ls hl => ?_)
    refine lv_iconst (v := (0 : Int32)) hx hb dX2_bring_236 (by decide) ?_
    refine lv_istore (lv' := [(4, .int (0 : Int32)), (3, .int (f_X2_numberAt t_letters t_length (v1 + (1 : Int32)))), (0, .ref (q k2)), (1, .int v1), (2, .ref (q k))]) hx hb dX2_bring_237 hl (by decide) rfl (fun ls hl => ?_)
    obtain ⟨z21, hz21, h⟩ := bd h
    refine w_X2_bring_L239 K 1000 (0 : Int32) g_known g_hurt g_day g_answered g_unanswered g_said g_times g_last _ _ _ (lv_sub hl [4, 1, 0] rfl) hw _ hz21 (fun H locs ls hl hw => ?_)
    refine lv_goto (tgt := 260) hx hb dX2_bring_257 (by decide) ?_
    have h := Option.some.inj h
    subst h
    exact retV K hw dX2_bring_260
  have h := ifn hs18 h
  by_cases hs22 : (f_X2_letterAt t_letters t_length v1) = (104 : Int32)
  · have h := ifp hs22 h
    refine lv_tableIn (off := 160) (tgt := 165) hx hb dX2_bring_5 (by rw [hs22]; decide) (by rw [hs22]; decide) (by rw [hs22]; rfl) (by decide) ?_
    refine lv_aload_n hx hb dX2_bring_165 rfl (lv_at hl 2 rfl) ?_
    refine lv_aload_n hx hb dX2_bring_166 rfl (lv_at hl 0 rfl) ?_
    refine lv_iload_n hx hb dX2_bring_167 rfl (lv_at hl 1 rfl) ?_
    refine lv_iconst (v := (1 : Int32)) hx hb dX2_bring_168 (by decide) ?_
    refine lv_iadd hx hb dX2_bring_169 ?_
    refine callVI K (c_X2_digitAt l G q k2 t_letters t_length (v1 + (1 : Int32)) rfl) mt_yX2_digitAt lk_X2_31 ⟨rfl, rfl, Nat.le_of_ble_eq_true rfl, Nat.le_of_ble_eq_true rfl⟩ hw dX2_bring_170 hl.1 ⟨Nat.zero_le _, Nat.zero_le _⟩ (wa := ((gC G q k g_callers g_kinds g_figures g_tones g_words g_hours g_order g_known g_tune g_hurt g_patience g_day g_answered g_unanswered g_said g_times g_last ++ tC G q k2 t_letters t_length).take 11)) (wb := ((gC G q k g_callers g_kinds g_figures g_tones g_words g_hours g_order g_known g_tune g_hurt g_patience g_day g_answered g_unanswered g_said g_times g_last ++ tC G q k2 t_letters t_length).drop 13)) rfl rfl rfl (rest := [.ref (q k)]) rfl rfl (Nat.le_of_ble_eq_true rfl) (fun H locs hw => ?_)
    have hw : Wx G A (gC G q k g_callers g_kinds g_figures g_tones g_words g_hours g_order g_known g_tune g_hurt g_patience g_day g_answered g_unanswered g_said g_times g_last ++ tC G q k2 t_letters t_length) s H locs := hw
    refine lv_aload_n hx hb dX2_bring_173 rfl (lv_at hl 0 rfl) ?_
    refine lv_iload_n hx hb dX2_bring_174 rfl (lv_at hl 1 rfl) ?_
    refine lv_iconst (v := (2 : Int32)) hx hb dX2_bring_175 (by decide) ?_
    refine lv_iadd hx hb dX2_bring_176 ?_
    refine callVI K (c_X2_numberAt l G q k2 t_letters t_length (v1 + (2 : Int32)) rfl) mt_yX2_numberAt lk_X2_92 ⟨rfl, rfl, Nat.le_of_ble_eq_true rfl, Nat.le_of_ble_eq_true rfl⟩ hw dX2_bring_177 hl.1 ⟨Nat.zero_le _, Nat.zero_le _⟩ (wa := ((gC G q k g_callers g_kinds g_figures g_tones g_words g_hours g_order g_known g_tune g_hurt g_patience g_day g_answered g_unanswered g_said g_times g_last ++ tC G q k2 t_letters t_length).take 11)) (wb := ((gC G q k g_callers g_kinds g_figures g_tones g_words g_hours g_order g_known g_tune g_hurt g_patience g_day g_answered g_unanswered g_said g_times g_last ++ tC G q k2 t_letters t_length).drop 13)) rfl rfl rfl (rest := [.int (f_X2_digitAt t_letters t_length (v1 + (1 : Int32))), .ref (q k)]) rfl rfl (Nat.le_of_ble_eq_true rfl) (fun H locs hw => ?_)
    have hw : Wx G A (gC G q k g_callers g_kinds g_figures g_tones g_words g_hours g_order g_known g_tune g_hurt g_patience g_day g_answered g_unanswered g_said g_times g_last ++ tC G q k2 t_letters t_length) s H locs := hw
    obtain ⟨z23, hz23, h⟩ := bd h
    refine callVV K (c_X0_moveTo l G q k g_callers g_kinds g_figures g_tones g_words g_hours g_order g_known g_tune g_hurt g_patience g_day g_answered g_unanswered g_said g_times g_last (f_X2_digitAt t_letters t_length (v1 + (1 : Int32))) (f_X2_numberAt t_letters t_length (v1 + (2 : Int32))) hz23) mt_yX0_moveTo lk_X2_112 ⟨rfl, rfl, Nat.le_of_ble_eq_true rfl, Nat.le_of_ble_eq_true rfl⟩ hw dX2_bring_180 hl.1 ⟨Nat.zero_le _, Nat.zero_le _⟩ (wa := ((gC G q k g_callers g_kinds g_figures g_tones g_words g_hours g_order g_known g_tune g_hurt g_patience g_day g_answered g_unanswered g_said g_times g_last ++ tC G q k2 t_letters t_length).take 0)) (wb := ((gC G q k g_callers g_kinds g_figures g_tones g_words g_hours g_order g_known g_tune g_hurt g_patience g_day g_answered g_unanswered g_said g_times g_last ++ tC G q k2 t_letters t_length).drop 11)) rfl rfl rfl (rest := []) rfl rfl (Nat.le_of_ble_eq_true rfl) (fun H locs hw => ?_)
    have hw : Wx G A (gC G q k g_callers g_kinds g_figures g_tones g_words z23.1 z23.2 g_known g_tune g_hurt g_patience g_day g_answered g_unanswered g_said g_times g_last ++ tC G q k2 t_letters t_length) s H locs := hw
    refine lv_goto (tgt := 260) hx hb dX2_bring_183 (by decide) ?_
    have h := Option.some.inj h
    subst h
    exact retV K hw dX2_bring_260
  have h := ifn hs22 h
  by_cases hs24 : (f_X2_letterAt t_letters t_length v1) = (107 : Int32)
  · have h := ifp hs24 h
    refine lv_tableIn (off := 136) (tgt := 141) hx hb dX2_bring_5 (by rw [hs24]; decide) (by rw [hs24]; decide) (by rw [hs24]; rfl) (by decide) ?_
    refine lv_aload_n hx hb dX2_bring_141 rfl (lv_at hl 2 rfl) ?_
    refine getX K hw inTX0 0 7 fl_X2_109 dX2_bring_142 rfl rfl (by decide) rfl rfl ?_
    refine lv_aload_n hx hb dX2_bring_145 rfl (lv_at hl 0 rfl) ?_
    refine lv_iload_n hx hb dX2_bring_146 rfl (lv_at hl 1 rfl) ?_
    refine lv_iconst (v := (1 : Int32)) hx hb dX2_bring_147 (by decide) ?_
    refine lv_iadd hx hb dX2_bring_148 ?_
    refine callVI K (c_X2_digitAt l G q k2 t_letters t_length (v1 + (1 : Int32)) rfl) mt_yX2_digitAt lk_X2_31 ⟨rfl, rfl, Nat.le_of_ble_eq_true rfl, Nat.le_of_ble_eq_true rfl⟩ hw dX2_bring_149 hl.1 ⟨Nat.zero_le _, Nat.zero_le _⟩ (wa := ((gC G q k g_callers g_kinds g_figures g_tones g_words g_hours g_order g_known g_tune g_hurt g_patience g_day g_answered g_unanswered g_said g_times g_last ++ tC G q k2 t_letters t_length).take 11)) (wb := ((gC G q k g_callers g_kinds g_figures g_tones g_words g_hours g_order g_known g_tune g_hurt g_patience g_day g_answered g_unanswered g_said g_times g_last ++ tC G q k2 t_letters t_length).drop 13)) rfl rfl rfl (rest := [.ref (q (k + 7))]) rfl rfl (Nat.le_of_ble_eq_true rfl) (fun H locs hw => ?_)
    have hw : Wx G A (gC G q k g_callers g_kinds g_figures g_tones g_words g_hours g_order g_known g_tune g_hurt g_patience g_day g_answered g_unanswered g_said g_times g_last ++ tC G q k2 t_letters t_length) s H locs := hw
    refine lv_aload_n hx hb dX2_bring_152 rfl (lv_at hl 0 rfl) ?_
    refine lv_iload_n hx hb dX2_bring_153 rfl (lv_at hl 1 rfl) ?_
    refine lv_iconst (v := (2 : Int32)) hx hb dX2_bring_154 (by decide) ?_
    refine lv_iadd hx hb dX2_bring_155 ?_
    refine callVI K (c_X2_numberAt l G q k2 t_letters t_length (v1 + (2 : Int32)) rfl) mt_yX2_numberAt lk_X2_92 ⟨rfl, rfl, Nat.le_of_ble_eq_true rfl, Nat.le_of_ble_eq_true rfl⟩ hw dX2_bring_156 hl.1 ⟨Nat.zero_le _, Nat.zero_le _⟩ (wa := ((gC G q k g_callers g_kinds g_figures g_tones g_words g_hours g_order g_known g_tune g_hurt g_patience g_day g_answered g_unanswered g_said g_times g_last ++ tC G q k2 t_letters t_length).take 11)) (wb := ((gC G q k g_callers g_kinds g_figures g_tones g_words g_hours g_order g_known g_tune g_hurt g_patience g_day g_answered g_unanswered g_said g_times g_last ++ tC G q k2 t_letters t_length).drop 13)) rfl rfl rfl (rest := [.int (f_X2_digitAt t_letters t_length (v1 + (1 : Int32))), .ref (q (k + 7))]) rfl rfl (Nat.le_of_ble_eq_true rfl) (fun H locs hw => ?_)
    have hw : Wx G A (gC G q k g_callers g_kinds g_figures g_tones g_words g_hours g_order g_known g_tune g_hurt g_patience g_day g_answered g_unanswered g_said g_times g_last ++ tC G q k2 t_letters t_length) s H locs := hw
    refine callNV K (c_put l G (q (k + 7)) 8 g_known (f_X2_digitAt t_letters t_length (v1 + (1 : Int32))) (f_X2_numberAt t_letters t_length (v1 + (2 : Int32))) rfl) mt_yX3_put (List.mem_of_getElem? (i := 3) rfl) ⟨rfl, rfl, Nat.le_of_ble_eq_true rfl, Nat.le_of_ble_eq_true rfl⟩ hw dX2_bring_159 hl.1 ⟨Nat.zero_le _, Nat.zero_le _⟩ (wa := ((gC G q k g_callers g_kinds g_figures g_tones g_words g_hours g_order g_known g_tune g_hurt g_patience g_day g_answered g_unanswered g_said g_times g_last ++ tC G q k2 t_letters t_length).take 7)) (wb := ((gC G q k g_callers g_kinds g_figures g_tones g_words g_hours g_order g_known g_tune g_hurt g_patience g_day g_answered g_unanswered g_said g_times g_last ++ tC G q k2 t_letters t_length).drop 8)) rfl (rest := []) rfl rfl (Nat.le_of_ble_eq_true rfl) (fun H locs hw => ?_)
    have hw : Wx G A (gC G q k g_callers g_kinds g_figures g_tones g_words g_hours g_order (f_put 8 g_known (f_X2_digitAt t_letters t_length (v1 + (1 : Int32))) (f_X2_numberAt t_letters t_length (v1 + (2 : Int32)))) g_tune g_hurt g_patience g_day g_answered g_unanswered g_said g_times g_last ++ tC G q k2 t_letters t_length) s H locs := hw
    refine lv_goto (tgt := 260) hx hb dX2_bring_162 (by decide) ?_
    have h := Option.some.inj h
    subst h
    exact retV K hw dX2_bring_260
  have h := ifn hs24 h
  by_cases hs25 : (f_X2_letterAt t_letters t_length v1) = (112 : Int32)
  · have h := ifp hs25 h
    refine lv_tableIn (off := 209) (tgt := 214) hx hb dX2_bring_5 (by rw [hs25]; decide) (by rw [hs25]; decide) (by rw [hs25]; rfl) (by decide) ?_
    refine lv_aload_n hx hb dX2_bring_214 rfl (lv_at hl 2 rfl) ?_
    refine lv_aload_n hx hb dX2_bring_215 rfl (lv_at hl 0 rfl) ?_
    refine lv_iload_n hx hb dX2_bring_216 rfl (lv_at hl 1 rfl) ?_
    refine lv_iconst (v := (1 : Int32)) hx hb dX2_bring_217 (by decide) ?_
    refine lv_iadd hx hb dX2_bring_218 ?_
    refine callVI K (c_X2_numberAt l G q k2 t_letters t_length (v1 + (1 : Int32)) rfl) mt_yX2_numberAt lk_X2_92 ⟨rfl, rfl, Nat.le_of_ble_eq_true rfl, Nat.le_of_ble_eq_true rfl⟩ hw dX2_bring_219 hl.1 ⟨Nat.zero_le _, Nat.zero_le _⟩ (wa := ((gC G q k g_callers g_kinds g_figures g_tones g_words g_hours g_order g_known g_tune g_hurt g_patience g_day g_answered g_unanswered g_said g_times g_last ++ tC G q k2 t_letters t_length).take 11)) (wb := ((gC G q k g_callers g_kinds g_figures g_tones g_words g_hours g_order g_known g_tune g_hurt g_patience g_day g_answered g_unanswered g_said g_times g_last ++ tC G q k2 t_letters t_length).drop 13)) rfl rfl rfl (rest := [.ref (q k)]) rfl rfl (Nat.le_of_ble_eq_true rfl) (fun H locs hw => ?_)
    have hw : Wx G A (gC G q k g_callers g_kinds g_figures g_tones g_words g_hours g_order g_known g_tune g_hurt g_patience g_day g_answered g_unanswered g_said g_times g_last ++ tC G q k2 t_letters t_length) s H locs := hw
    refine putX K hw inTX0 tyX0_ok nmX0 0 10 fl_X2_122 dX2_bring_222 rfl rfl (by decide) rfl rfl rfl rfl (Nat.le_of_ble_eq_true rfl) (fun H locs hw => ?_)
    have hw : Wx G A (gC G q k g_callers g_kinds g_figures g_tones g_words g_hours g_order g_known g_tune g_hurt (f_X2_numberAt t_letters t_length (v1 + (1 : Int32))) g_day g_answered g_unanswered g_said g_times g_last ++ tC G q k2 t_letters t_length) s H locs := hw
    refine lv_goto (tgt := 260) hx hb dX2_bring_225 (by decide) ?_
    have h := Option.some.inj h
    subst h
    exact retV K hw dX2_bring_260
  have h := ifn hs25 h
  by_cases hs26 : (f_X2_letterAt t_letters t_length v1) = (116 : Int32)
  · have h := ifp hs26 h
    refine lv_tableIn (off := 181) (tgt := 186) hx hb dX2_bring_5 (by rw [hs26]; decide) (by rw [hs26]; decide) (by rw [hs26]; rfl) (by decide) ?_
    refine lv_aload_n hx hb dX2_bring_186 rfl (lv_at hl 2 rfl) ?_
    refine lv_aload_n hx hb dX2_bring_187 rfl (lv_at hl 0 rfl) ?_
    refine lv_iload_n hx hb dX2_bring_188 rfl (lv_at hl 1 rfl) ?_
    refine lv_iconst (v := (1 : Int32)) hx hb dX2_bring_189 (by decide) ?_
    refine lv_iadd hx hb dX2_bring_190 ?_
    refine callVI K (c_X2_digitAt l G q k2 t_letters t_length (v1 + (1 : Int32)) rfl) mt_yX2_digitAt lk_X2_31 ⟨rfl, rfl, Nat.le_of_ble_eq_true rfl, Nat.le_of_ble_eq_true rfl⟩ hw dX2_bring_191 hl.1 ⟨Nat.zero_le _, Nat.zero_le _⟩ (wa := ((gC G q k g_callers g_kinds g_figures g_tones g_words g_hours g_order g_known g_tune g_hurt g_patience g_day g_answered g_unanswered g_said g_times g_last ++ tC G q k2 t_letters t_length).take 11)) (wb := ((gC G q k g_callers g_kinds g_figures g_tones g_words g_hours g_order g_known g_tune g_hurt g_patience g_day g_answered g_unanswered g_said g_times g_last ++ tC G q k2 t_letters t_length).drop 13)) rfl rfl rfl (rest := [.ref (q k)]) rfl rfl (Nat.le_of_ble_eq_true rfl) (fun H locs hw => ?_)
    have hw : Wx G A (gC G q k g_callers g_kinds g_figures g_tones g_words g_hours g_order g_known g_tune g_hurt g_patience g_day g_answered g_unanswered g_said g_times g_last ++ tC G q k2 t_letters t_length) s H locs := hw
    refine putX K hw inTX0 tyX0_ok nmX0 0 8 fl_X2_116 dX2_bring_194 rfl rfl (by decide) rfl rfl rfl rfl (Nat.le_of_ble_eq_true rfl) (fun H locs hw => ?_)
    have hw : Wx G A (gC G q k g_callers g_kinds g_figures g_tones g_words g_hours g_order g_known (f_X2_digitAt t_letters t_length (v1 + (1 : Int32))) g_hurt g_patience g_day g_answered g_unanswered g_said g_times g_last ++ tC G q k2 t_letters t_length) s H locs := hw
    refine lv_goto (tgt := 260) hx hb dX2_bring_197 (by decide) ?_
    have h := Option.some.inj h
    subst h
    exact retV K hw dX2_bring_260
  have h := ifn hs26 h
  by_cases hs27 : (f_X2_letterAt t_letters t_length v1) = (117 : Int32)
  · have h := ifp hs27 h
    refine lv_tableIn (off := 195) (tgt := 200) hx hb dX2_bring_5 (by rw [hs27]; decide) (by rw [hs27]; decide) (by rw [hs27]; rfl) (by decide) ?_
    refine lv_aload_n hx hb dX2_bring_200 rfl (lv_at hl 2 rfl) ?_
    refine lv_aload_n hx hb dX2_bring_201 rfl (lv_at hl 0 rfl) ?_
    refine lv_iload_n hx hb dX2_bring_202 rfl (lv_at hl 1 rfl) ?_
    refine lv_iconst (v := (1 : Int32)) hx hb dX2_bring_203 (by decide) ?_
    refine lv_iadd hx hb dX2_bring_204 ?_
    refine callVI K (c_X2_numberAt l G q k2 t_letters t_length (v1 + (1 : Int32)) rfl) mt_yX2_numberAt lk_X2_92 ⟨rfl, rfl, Nat.le_of_ble_eq_true rfl, Nat.le_of_ble_eq_true rfl⟩ hw dX2_bring_205 hl.1 ⟨Nat.zero_le _, Nat.zero_le _⟩ (wa := ((gC G q k g_callers g_kinds g_figures g_tones g_words g_hours g_order g_known g_tune g_hurt g_patience g_day g_answered g_unanswered g_said g_times g_last ++ tC G q k2 t_letters t_length).take 11)) (wb := ((gC G q k g_callers g_kinds g_figures g_tones g_words g_hours g_order g_known g_tune g_hurt g_patience g_day g_answered g_unanswered g_said g_times g_last ++ tC G q k2 t_letters t_length).drop 13)) rfl rfl rfl (rest := [.ref (q k)]) rfl rfl (Nat.le_of_ble_eq_true rfl) (fun H locs hw => ?_)
    have hw : Wx G A (gC G q k g_callers g_kinds g_figures g_tones g_words g_hours g_order g_known g_tune g_hurt g_patience g_day g_answered g_unanswered g_said g_times g_last ++ tC G q k2 t_letters t_length) s H locs := hw
    refine putX K hw inTX0 tyX0_ok nmX0 0 9 fl_X2_119 dX2_bring_208 rfl rfl (by decide) rfl rfl rfl rfl (Nat.le_of_ble_eq_true rfl) (fun H locs hw => ?_)
    have hw : Wx G A (gC G q k g_callers g_kinds g_figures g_tones g_words g_hours g_order g_known g_tune (f_X2_numberAt t_letters t_length (v1 + (1 : Int32))) g_patience g_day g_answered g_unanswered g_said g_times g_last ++ tC G q k2 t_letters t_length) s H locs := hw
    refine lv_goto (tgt := 260) hx hb dX2_bring_211 (by decide) ?_
    have h := Option.some.inj h
    subst h
    exact retV K hw dX2_bring_260
  have h := ifn hs27 h
  refine tsw_d (tgt := 260) (n := 19) hx hb dX2_bring_5 rfl (by decide) (fun j hj => ?_) (by decide) ?_
  · have hj2 : j = 0 ∨ j = 1 ∨ j = 2 ∨ j = 3 ∨ j = 4 ∨ j = 5 ∨ j = 6 ∨ j = 7 ∨ j = 8 ∨ j = 9 ∨ j = 10 ∨ j = 11 ∨ j = 12 ∨ j = 13 ∨ j = 14 ∨ j = 15 ∨ j = 16 ∨ j = 17 ∨ j = 18 := by omega
    rcases hj2 with rfl | rfl | rfl | rfl | rfl | rfl | rfl | rfl | rfl | rfl | rfl | rfl | rfl | rfl | rfl | rfl | rfl | rfl | rfl
    · exact Or.inr (lv_neT hs15 (by decide))
    · exact Or.inr (lv_neT hs18 (by decide))
    · exact Or.inl rfl
    · exact Or.inl rfl
    · exact Or.inl rfl
    · exact Or.inr (lv_neT hs22 (by decide))
    · exact Or.inl rfl
    · exact Or.inl rfl
    · exact Or.inr (lv_neT hs24 (by decide))
    · exact Or.inl rfl
    · exact Or.inl rfl
    · exact Or.inl rfl
    · exact Or.inl rfl
    · exact Or.inr (lv_neT hs25 (by decide))
    · exact Or.inl rfl
    · exact Or.inl rfl
    · exact Or.inl rfl
    · exact Or.inr (lv_neT hs26 (by decide))
    · exact Or.inr (lv_neT hs27 (by decide))
  have h := Option.some.inj h
  subst h
  exact retV K hw dX2_bring_260
set_option maxHeartbeats 4000000 in
set_option maxRecDepth 100000 in
theorem b_X2_comeTo_L4 {l : Launch} {G : GP} {q : Nat → Nat} {k : Nat} {k2 : Nat} {p : Program} {e : Env} {s : State} {m : MethodId} {args : Array Value} {below : List Frame} {meth : Method} {c : Code} {A : Nat → Prop} {g_callers : Int32} {g_kinds : Nat → Int32} {g_figures : Nat → Int32} {g_tones : Nat → Int32} {g_words : Nat → Int32} {g_hours : Nat → Int32} {g_order : Nat → Int32} {g_known : Nat → Int32} {g_tune : Int32} {g_hurt : Int32} {g_patience : Int32} {g_day : Int32} {g_answered : Int32} {g_unanswered : Int32} {g_said : Int32} {g_times : Nat → Int32} {g_last : Nat → Int32} {t_letters : Nat → Int32} {t_length : Int32} {v2 : Int32} {v3 : Int32} {o : Int32 × Int32 × (Nat → Int32) × (Nat → Int32) × (Nat → Int32) × (Nat → Int32) × (Nat → Int32) × (Nat → Int32) × (Nat → Int32) × Int32 × Int32 × Int32 × Int32 × Int32 × Int32 × Int32 × (Nat → Int32) × (Nat → Int32)} (K : Cx p s m args meth c A G cX2_comeTo 4 RX2 (some .int)) {H : Heap} {locs : List Loc} {ls : Array Slot} (hl : lv_has ls 4 [(0, .ref (q k2)), (1, .ref (q k)), (2, .int v2), (3, .int v3)]) (hw : Wx G A (gC G q k g_callers g_kinds g_figures g_tones g_words g_hours g_order g_known g_tune g_hurt g_patience g_day g_answered g_unanswered g_said g_times g_last ++ tC G q k2 t_letters t_length) s H locs) {y : (Int32 × Int32 × Int32 × (Nat → Int32) × (Nat → Int32) × (Nat → Int32) × (Nat → Int32) × (Nat → Int32) × (Nat → Int32) × (Nat → Int32) × Int32 × Int32 × Int32 × Int32 × Int32 × Int32 × Int32 × (Nat → Int32) × (Nat → Int32)) ⊕ (Int32 × Int32 × (Nat → Int32) × (Nat → Int32) × (Nat → Int32) × (Nat → Int32) × (Nat → Int32) × (Nat → Int32) × (Nat → Int32) × Int32 × Int32 × Int32 × Int32 × Int32 × Int32 × Int32 × (Nat → Int32) × (Nat → Int32))} (h : f_X2_comeTo_L4 t_letters t_length v2 v3 g_callers g_kinds g_figures g_tones g_words g_hours g_order g_known g_tune g_hurt g_patience g_day g_answered g_unanswered g_said g_times g_last = some y) (hk4 : ∀ (b : Int32 × Int32 × Int32 × (Nat → Int32) × (Nat → Int32) × (Nat → Int32) × (Nat → Int32) × (Nat → Int32) × (Nat → Int32) × (Nat → Int32) × Int32 × Int32 × Int32 × Int32 × Int32 × Int32 × Int32 × (Nat → Int32) × (Nat → Int32)) (H : Heap) (locs : List Loc) (ls : Array Slot), y = .inl b → lv_has ls 4 [(0, .ref (q k2)), (1, .ref (q k)), (2, .int b.1), (3, .int b.2.1)] → Wx G A (gC G q k b.2.2.1 b.2.2.2.1 b.2.2.2.2.1 b.2.2.2.2.2.1 b.2.2.2.2.2.2.1 b.2.2.2.2.2.2.2.1 b.2.2.2.2.2.2.2.2.1 b.2.2.2.2.2.2.2.2.2.1 b.2.2.2.2.2.2.2.2.2.2.1 b.2.2.2.2.2.2.2.2.2.2.2.1 b.2.2.2.2.2.2.2.2.2.2.2.2.1 b.2.2.2.2.2.2.2.2.2.2.2.2.2.1 b.2.2.2.2.2.2.2.2.2.2.2.2.2.2.1 b.2.2.2.2.2.2.2.2.2.2.2.2.2.2.2.1 b.2.2.2.2.2.2.2.2.2.2.2.2.2.2.2.2.1 b.2.2.2.2.2.2.2.2.2.2.2.2.2.2.2.2.2.1 b.2.2.2.2.2.2.2.2.2.2.2.2.2.2.2.2.2.2 ++ tC G q k2 t_letters t_length) s H locs → W p l e ({ frames := 6, cells := 0, slots := 0, locals := 135 } : Room) s m args below meth c H locs 0 0 (MQ below (QI G A (gC G q k o.2.1 o.2.2.1 o.2.2.2.1 o.2.2.2.2.1 o.2.2.2.2.2.1 o.2.2.2.2.2.2.1 o.2.2.2.2.2.2.2.1 o.2.2.2.2.2.2.2.2.1 o.2.2.2.2.2.2.2.2.2.1 o.2.2.2.2.2.2.2.2.2.2.1 o.2.2.2.2.2.2.2.2.2.2.2.1 o.2.2.2.2.2.2.2.2.2.2.2.2.1 o.2.2.2.2.2.2.2.2.2.2.2.2.2.1 o.2.2.2.2.2.2.2.2.2.2.2.2.2.2.1 o.2.2.2.2.2.2.2.2.2.2.2.2.2.2.2.1 o.2.2.2.2.2.2.2.2.2.2.2.2.2.2.2.2.1 o.2.2.2.2.2.2.2.2.2.2.2.2.2.2.2.2.2 ++ tC G q k2 t_letters t_length) o.1) args s 0 0 A) (F0 m 4 ls [])) (hx4 : ∀ (b : Int32 × Int32 × (Nat → Int32) × (Nat → Int32) × (Nat → Int32) × (Nat → Int32) × (Nat → Int32) × (Nat → Int32) × (Nat → Int32) × Int32 × Int32 × Int32 × Int32 × Int32 × Int32 × Int32 × (Nat → Int32) × (Nat → Int32)) (H : Heap) (locs : List Loc) (ls : Array Slot), y = .inr b → lv_has ls 4 [(2, .int b.1)] → Wx G A (gC G q k b.2.1 b.2.2.1 b.2.2.2.1 b.2.2.2.2.1 b.2.2.2.2.2.1 b.2.2.2.2.2.2.1 b.2.2.2.2.2.2.2.1 b.2.2.2.2.2.2.2.2.1 b.2.2.2.2.2.2.2.2.2.1 b.2.2.2.2.2.2.2.2.2.2.1 b.2.2.2.2.2.2.2.2.2.2.2.1 b.2.2.2.2.2.2.2.2.2.2.2.2.1 b.2.2.2.2.2.2.2.2.2.2.2.2.2.1 b.2.2.2.2.2.2.2.2.2.2.2.2.2.2.1 b.2.2.2.2.2.2.2.2.2.2.2.2.2.2.2.1 b.2.2.2.2.2.2.2.2.2.2.2.2.2.2.2.2.1 b.2.2.2.2.2.2.2.2.2.2.2.2.2.2.2.2.2 ++ tC G q k2 t_letters t_length) s H locs → W p l e ({ frames := 6, cells := 0, slots := 0, locals := 135 } : Room) s m args below meth c H locs 0 0 (MQ below (QI G A (gC G q k o.2.1 o.2.2.1 o.2.2.2.1 o.2.2.2.2.1 o.2.2.2.2.2.1 o.2.2.2.2.2.2.1 o.2.2.2.2.2.2.2.1 o.2.2.2.2.2.2.2.2.1 o.2.2.2.2.2.2.2.2.2.1 o.2.2.2.2.2.2.2.2.2.2.1 o.2.2.2.2.2.2.2.2.2.2.2.1 o.2.2.2.2.2.2.2.2.2.2.2.2.1 o.2.2.2.2.2.2.2.2.2.2.2.2.2.1 o.2.2.2.2.2.2.2.2.2.2.2.2.2.2.1 o.2.2.2.2.2.2.2.2.2.2.2.2.2.2.2.1 o.2.2.2.2.2.2.2.2.2.2.2.2.2.2.2.2.1 o.2.2.2.2.2.2.2.2.2.2.2.2.2.2.2.2.2 ++ tC G q k2 t_letters t_length) o.1) args s 0 0 A) (F0 m 36 ls [])) : W p l e ({ frames := 6, cells := 0, slots := 0, locals := 135 } : Room) s m args below meth c H locs 0 0 (MQ below (QI G A (gC G q k o.2.1 o.2.2.1 o.2.2.2.1 o.2.2.2.2.1 o.2.2.2.2.2.1 o.2.2.2.2.2.2.1 o.2.2.2.2.2.2.2.1 o.2.2.2.2.2.2.2.2.1 o.2.2.2.2.2.2.2.2.2.1 o.2.2.2.2.2.2.2.2.2.2.1 o.2.2.2.2.2.2.2.2.2.2.2.1 o.2.2.2.2.2.2.2.2.2.2.2.2.1 o.2.2.2.2.2.2.2.2.2.2.2.2.2.1 o.2.2.2.2.2.2.2.2.2.2.2.2.2.2.1 o.2.2.2.2.2.2.2.2.2.2.2.2.2.2.2.1 o.2.2.2.2.2.2.2.2.2.2.2.2.2.2.2.2.1 o.2.2.2.2.2.2.2.2.2.2.2.2.2.2.2.2.2 ++ tC G q k2 t_letters t_length) o.1) args s 0 0 A) (F0 m 4 ls []) := by
  have hx := K.1.1
  have hb := K.1.2.1
  unfold f_X2_comeTo_L4 at h
  refine lv_iload_n hx hb dX2_comeTo_4 rfl (lv_at hl 3 rfl) ?_
  refine lv_aload_n hx hb dX2_comeTo_5 rfl (lv_at hl 0 rfl) ?_
  refine getX K hw inTX2 11 1 fl_X2_15 dX2_comeTo_6 rfl rfl (by decide) rfl rfl ?_
  refine lv_icmp_ge (tgt := 36) hx hb dX2_comeTo_9 (by decide) (fun hc24 => ?_) (fun hc24 => ?_)
  · have h := ifp hc24 h
    exact hx4 (v2, g_callers, g_kinds, g_figures, g_tones, g_words, g_hours, g_order, g_known, g_tune, g_hurt, g_patience, g_day, g_answered, g_unanswered, g_said, g_times, g_last) _ _ _ (Option.some.inj h).symm (lv_sub hl [2] rfl) hw
  · have h := ifn hc24 h
    refine lv_aload_n hx hb dX2_comeTo_12 rfl (lv_at hl 0 rfl) ?_
    refine lv_iload_n hx hb dX2_comeTo_13 rfl (lv_at hl 3 rfl) ?_
    refine lv_aload_n hx hb dX2_comeTo_14 rfl (lv_at hl 1 rfl) ?_
    obtain ⟨z25, hz25, h⟩ := bd h
    refine callVV2 (i2 := 11) K (c_X2_bring l G q k k2 g_callers g_kinds g_figures g_tones g_words g_hours g_order g_known g_tune g_hurt g_patience g_day g_answered g_unanswered g_said g_times g_last t_letters t_length v3 hz25) mt_yX2_bring lk_X2_99 ⟨rfl, rfl, Nat.le_of_ble_eq_true rfl, Nat.le_of_ble_eq_true rfl⟩ hw dX2_comeTo_15 hl.1 ⟨Nat.zero_le _, Nat.zero_le _⟩ (wa := ((gC G q k g_callers g_kinds g_figures g_tones g_words g_hours g_order g_known g_tune g_hurt g_patience g_day g_answered g_unanswered g_said g_times g_last ++ tC G q k2 t_letters t_length).take 0)) (wb := ((gC G q k g_callers g_kinds g_figures g_tones g_words g_hours g_order g_known g_tune g_hurt g_patience g_day g_answered g_unanswered g_said g_times g_last ++ tC G q k2 t_letters t_length).drop 13)) rfl rfl rfl (rest := []) rfl rfl (Nat.le_of_ble_eq_true rfl) (fun H locs hw => ?_)
    have hw : Wx G A (gC G q k z25.1 z25.2.1 z25.2.2.1 z25.2.2.2.1 z25.2.2.2.2.1 z25.2.2.2.2.2.1 z25.2.2.2.2.2.2.1 z25.2.2.2.2.2.2.2.1 z25.2.2.2.2.2.2.2.2.1 z25.2.2.2.2.2.2.2.2.2.1 z25.2.2.2.2.2.2.2.2.2.2.1 z25.2.2.2.2.2.2.2.2.2.2.2.1 z25.2.2.2.2.2.2.2.2.2.2.2.2.1 z25.2.2.2.2.2.2.2.2.2.2.2.2.2.1 z25.2.2.2.2.2.2.2.2.2.2.2.2.2.2.1 z25.2.2.2.2.2.2.2.2.2.2.2.2.2.2.2.1 z25.2.2.2.2.2.2.2.2.2.2.2.2.2.2.2.2 ++ tC G q k2 t_letters t_length) s H locs := hw
    refine lv_iinc (v := (v2 + (1 : Int32))) (lv' := [(2, .int (v2 + (1 : Int32))), (0, .ref (q k2)), (1, .ref (q k)), (3, .int v3)]) hx hb dX2_comeTo_18 hl (k := 2) rfl rfl (by decide) rfl (fun ls hl => ?_)
    refine lv_iload_n hx hb dX2_comeTo_21 rfl (lv_at hl 3 rfl) ?_
    refine lv_iconst (v := (1 : Int32)) hx hb dX2_comeTo_22 (by decide) ?_
    refine lv_aload_n hx hb dX2_comeTo_23 rfl (lv_at hl 1 rfl) ?_
    refine lv_iload_n hx hb dX2_comeTo_24 rfl (lv_at hl 3 rfl) ?_
    obtain ⟨z26, hz26, h⟩ := bd h
    refine callVI K (c_X2_stepFrom l G q k2 t_letters t_length v3 hz26) mt_yX2_stepFrom lk_X2_79 ⟨rfl, rfl, Nat.le_of_ble_eq_true rfl, Nat.le_of_ble_eq_true rfl⟩ hw dX2_comeTo_25 hl.1 ⟨Nat.zero_le _, Nat.zero_le _⟩ (wa := ((gC G q k z25.1 z25.2.1 z25.2.2.1 z25.2.2.2.1 z25.2.2.2.2.1 z25.2.2.2.2.2.1 z25.2.2.2.2.2.2.1 z25.2.2.2.2.2.2.2.1 z25.2.2.2.2.2.2.2.2.1 z25.2.2.2.2.2.2.2.2.2.1 z25.2.2.2.2.2.2.2.2.2.2.1 z25.2.2.2.2.2.2.2.2.2.2.2.1 z25.2.2.2.2.2.2.2.2.2.2.2.2.1 z25.2.2.2.2.2.2.2.2.2.2.2.2.2.1 z25.2.2.2.2.2.2.2.2.2.2.2.2.2.2.1 z25.2.2.2.2.2.2.2.2.2.2.2.2.2.2.2.1 z25.2.2.2.2.2.2.2.2.2.2.2.2.2.2.2.2 ++ tC G q k2 t_letters t_length).take 11)) (wb := ((gC G q k z25.1 z25.2.1 z25.2.2.1 z25.2.2.2.1 z25.2.2.2.2.1 z25.2.2.2.2.2.1 z25.2.2.2.2.2.2.1 z25.2.2.2.2.2.2.2.1 z25.2.2.2.2.2.2.2.2.1 z25.2.2.2.2.2.2.2.2.2.1 z25.2.2.2.2.2.2.2.2.2.2.1 z25.2.2.2.2.2.2.2.2.2.2.2.1 z25.2.2.2.2.2.2.2.2.2.2.2.2.1 z25.2.2.2.2.2.2.2.2.2.2.2.2.2.1 z25.2.2.2.2.2.2.2.2.2.2.2.2.2.2.1 z25.2.2.2.2.2.2.2.2.2.2.2.2.2.2.2.1 z25.2.2.2.2.2.2.2.2.2.2.2.2.2.2.2.2 ++ tC G q k2 t_letters t_length).drop 13)) rfl rfl rfl (rest := [.int (1 : Int32), .int v3]) rfl rfl (Nat.le_of_ble_eq_true rfl) (fun H locs hw => ?_)
    have hw : Wx G A (gC G q k z25.1 z25.2.1 z25.2.2.1 z25.2.2.2.1 z25.2.2.2.2.1 z25.2.2.2.2.2.1 z25.2.2.2.2.2.2.1 z25.2.2.2.2.2.2.2.1 z25.2.2.2.2.2.2.2.2.1 z25.2.2.2.2.2.2.2.2.2.1 z25.2.2.2.2.2.2.2.2.2.2.1 z25.2.2.2.2.2.2.2.2.2.2.2.1 z25.2.2.2.2.2.2.2.2.2.2.2.2.1 z25.2.2.2.2.2.2.2.2.2.2.2.2.2.1 z25.2.2.2.2.2.2.2.2.2.2.2.2.2.2.1 z25.2.2.2.2.2.2.2.2.2.2.2.2.2.2.2.1 z25.2.2.2.2.2.2.2.2.2.2.2.2.2.2.2.2 ++ tC G q k2 t_letters t_length) s H locs := hw
    refine va_mmax hx hb (K.1.2.2.1.trans hl.1.symm) K.1.2.2.2.1 (K.1.2.2.2.2 _ lk_X2_82) (K.1.2.2.2.2 _ st_Mathmax) (K.1.2.2.2.2 _ ini_J9) (K.1.2.2.2.2 _ cd_Mathmax) (Nat.le_of_ble_eq_true rfl) (Nat.le_of_ble_eq_true rfl) (Nat.zero_le _) (Nat.zero_le _) dX2_comeTo_28 ?_
    refine lv_iadd hx hb dX2_comeTo_31 ?_
    refine lv_istore_n (lv' := [(3, .int (v3 + (if (1 : Int32) < z26 then z26 else (1 : Int32)))), (2, .int (v2 + (1 : Int32))), (0, .ref (q k2)), (1, .ref (q k))]) hx hb dX2_comeTo_32 rfl hl (by decide) rfl (fun ls hl => ?_)
    refine lv_goto (tgt := 4) hx hb dX2_comeTo_33 (by decide) ?_
    exact hk4 ((v2 + (1 : Int32)), (v3 + (if (1 : Int32) < z26 then z26 else (1 : Int32))), z25.1, z25.2.1, z25.2.2.1, z25.2.2.2.1, z25.2.2.2.2.1, z25.2.2.2.2.2.1, z25.2.2.2.2.2.2.1, z25.2.2.2.2.2.2.2.1, z25.2.2.2.2.2.2.2.2.1, z25.2.2.2.2.2.2.2.2.2.1, z25.2.2.2.2.2.2.2.2.2.2.1, z25.2.2.2.2.2.2.2.2.2.2.2.1, z25.2.2.2.2.2.2.2.2.2.2.2.2.1, z25.2.2.2.2.2.2.2.2.2.2.2.2.2.1, z25.2.2.2.2.2.2.2.2.2.2.2.2.2.2.1, z25.2.2.2.2.2.2.2.2.2.2.2.2.2.2.2.1, z25.2.2.2.2.2.2.2.2.2.2.2.2.2.2.2.2) _ _ _ (Option.some.inj h).symm (lv_sub hl [2, 3, 1, 0] rfl) hw
set_option maxHeartbeats 4000000 in
set_option maxRecDepth 100000 in
theorem w_X2_comeTo_L4 {l : Launch} {G : GP} {q : Nat → Nat} {k : Nat} {k2 : Nat} {p : Program} {e : Env} {s : State} {m : MethodId} {args : Array Value} {below : List Frame} {meth : Method} {c : Code} {A : Nat → Prop} {t_letters : Nat → Int32} {t_length : Int32} {o : Int32 × Int32 × (Nat → Int32) × (Nat → Int32) × (Nat → Int32) × (Nat → Int32) × (Nat → Int32) × (Nat → Int32) × (Nat → Int32) × Int32 × Int32 × Int32 × Int32 × Int32 × Int32 × Int32 × (Nat → Int32) × (Nat → Int32)} (K : Cx p s m args meth c A G cX2_comeTo 4 RX2 (some .int)) : ∀ (fu : Nat) (v2 : Int32) (v3 : Int32) (g_callers : Int32) (g_kinds : Nat → Int32) (g_figures : Nat → Int32) (g_tones : Nat → Int32) (g_words : Nat → Int32) (g_hours : Nat → Int32) (g_order : Nat → Int32) (g_known : Nat → Int32) (g_tune : Int32) (g_hurt : Int32) (g_patience : Int32) (g_day : Int32) (g_answered : Int32) (g_unanswered : Int32) (g_said : Int32) (g_times : Nat → Int32) (g_last : Nat → Int32) (H : Heap) (locs : List Loc) (ls : Array Slot), lv_has ls 4 [(0, .ref (q k2)), (1, .ref (q k)), (2, .int v2), (3, .int v3)] → Wx G A (gC G q k g_callers g_kinds g_figures g_tones g_words g_hours g_order g_known g_tune g_hurt g_patience g_day g_answered g_unanswered g_said g_times g_last ++ tC G q k2 t_letters t_length) s H locs → ∀ (x : Int32 × Int32 × (Nat → Int32) × (Nat → Int32) × (Nat → Int32) × (Nat → Int32) × (Nat → Int32) × (Nat → Int32) × (Nat → Int32) × Int32 × Int32 × Int32 × Int32 × Int32 × Int32 × Int32 × (Nat → Int32) × (Nat → Int32)), lp (fun z : Int32 × Int32 × Int32 × (Nat → Int32) × (Nat → Int32) × (Nat → Int32) × (Nat → Int32) × (Nat → Int32) × (Nat → Int32) × (Nat → Int32) × Int32 × Int32 × Int32 × Int32 × Int32 × Int32 × Int32 × (Nat → Int32) × (Nat → Int32) => f_X2_comeTo_L4 t_letters t_length (z.1) (z.2.1) (z.2.2.1) (z.2.2.2.1) (z.2.2.2.2.1) (z.2.2.2.2.2.1) (z.2.2.2.2.2.2.1) (z.2.2.2.2.2.2.2.1) (z.2.2.2.2.2.2.2.2.1) (z.2.2.2.2.2.2.2.2.2.1) (z.2.2.2.2.2.2.2.2.2.2.1) (z.2.2.2.2.2.2.2.2.2.2.2.1) (z.2.2.2.2.2.2.2.2.2.2.2.2.1) (z.2.2.2.2.2.2.2.2.2.2.2.2.2.1) (z.2.2.2.2.2.2.2.2.2.2.2.2.2.2.1) (z.2.2.2.2.2.2.2.2.2.2.2.2.2.2.2.1) (z.2.2.2.2.2.2.2.2.2.2.2.2.2.2.2.2.1) (z.2.2.2.2.2.2.2.2.2.2.2.2.2.2.2.2.2.1) (z.2.2.2.2.2.2.2.2.2.2.2.2.2.2.2.2.2.2)) fu (v2, v3, g_callers, g_kinds, g_figures, g_tones, g_words, g_hours, g_order, g_known, g_tune, g_hurt, g_patience, g_day, g_answered, g_unanswered, g_said, g_times, g_last) = some x → (∀ (H : Heap) (locs : List Loc) (ls : Array Slot), lv_has ls 4 [(2, .int x.1)] → Wx G A (gC G q k x.2.1 x.2.2.1 x.2.2.2.1 x.2.2.2.2.1 x.2.2.2.2.2.1 x.2.2.2.2.2.2.1 x.2.2.2.2.2.2.2.1 x.2.2.2.2.2.2.2.2.1 x.2.2.2.2.2.2.2.2.2.1 x.2.2.2.2.2.2.2.2.2.2.1 x.2.2.2.2.2.2.2.2.2.2.2.1 x.2.2.2.2.2.2.2.2.2.2.2.2.1 x.2.2.2.2.2.2.2.2.2.2.2.2.2.1 x.2.2.2.2.2.2.2.2.2.2.2.2.2.2.1 x.2.2.2.2.2.2.2.2.2.2.2.2.2.2.2.1 x.2.2.2.2.2.2.2.2.2.2.2.2.2.2.2.2.1 x.2.2.2.2.2.2.2.2.2.2.2.2.2.2.2.2.2 ++ tC G q k2 t_letters t_length) s H locs → W p l e ({ frames := 6, cells := 0, slots := 0, locals := 135 } : Room) s m args below meth c H locs 0 0 (MQ below (QI G A (gC G q k o.2.1 o.2.2.1 o.2.2.2.1 o.2.2.2.2.1 o.2.2.2.2.2.1 o.2.2.2.2.2.2.1 o.2.2.2.2.2.2.2.1 o.2.2.2.2.2.2.2.2.1 o.2.2.2.2.2.2.2.2.2.1 o.2.2.2.2.2.2.2.2.2.2.1 o.2.2.2.2.2.2.2.2.2.2.2.1 o.2.2.2.2.2.2.2.2.2.2.2.2.1 o.2.2.2.2.2.2.2.2.2.2.2.2.2.1 o.2.2.2.2.2.2.2.2.2.2.2.2.2.2.1 o.2.2.2.2.2.2.2.2.2.2.2.2.2.2.2.1 o.2.2.2.2.2.2.2.2.2.2.2.2.2.2.2.2.1 o.2.2.2.2.2.2.2.2.2.2.2.2.2.2.2.2.2 ++ tC G q k2 t_letters t_length) o.1) args s 0 0 A) (F0 m 36 ls [])) → W p l e ({ frames := 6, cells := 0, slots := 0, locals := 135 } : Room) s m args below meth c H locs 0 0 (MQ below (QI G A (gC G q k o.2.1 o.2.2.1 o.2.2.2.1 o.2.2.2.2.1 o.2.2.2.2.2.1 o.2.2.2.2.2.2.1 o.2.2.2.2.2.2.2.1 o.2.2.2.2.2.2.2.2.1 o.2.2.2.2.2.2.2.2.2.1 o.2.2.2.2.2.2.2.2.2.2.1 o.2.2.2.2.2.2.2.2.2.2.2.1 o.2.2.2.2.2.2.2.2.2.2.2.2.1 o.2.2.2.2.2.2.2.2.2.2.2.2.2.1 o.2.2.2.2.2.2.2.2.2.2.2.2.2.2.1 o.2.2.2.2.2.2.2.2.2.2.2.2.2.2.2.1 o.2.2.2.2.2.2.2.2.2.2.2.2.2.2.2.2.1 o.2.2.2.2.2.2.2.2.2.2.2.2.2.2.2.2.2 ++ tC G q k2 t_letters t_length) o.1) args s 0 0 A) (F0 m 4 ls []) := by
  intro fu
  induction fu with
  | zero => intro v2 v3 g_callers g_kinds g_figures g_tones g_words g_hours g_order g_known g_tune g_hurt g_patience g_day g_answered g_unanswered g_said g_times g_last H locs ls hl hw x h; exact absurd (show none = some x from h) (by simp)
  | succ fu ih =>
    intro v2 v3 g_callers g_kinds g_figures g_tones g_words g_hours g_order g_known g_tune g_hurt g_patience g_day g_answered g_unanswered g_said g_times g_last H locs ls hl hw x h hx4
    obtain ⟨y, hy, hc⟩ := lp_s h
    exact b_X2_comeTo_L4 K hl hw hy (fun b H locs ls hE hl hw => ih b.1 b.2.1 b.2.2.1 b.2.2.2.1 b.2.2.2.2.1 b.2.2.2.2.2.1 b.2.2.2.2.2.2.1 b.2.2.2.2.2.2.2.1 b.2.2.2.2.2.2.2.2.1 b.2.2.2.2.2.2.2.2.2.1 b.2.2.2.2.2.2.2.2.2.2.1 b.2.2.2.2.2.2.2.2.2.2.2.1 b.2.2.2.2.2.2.2.2.2.2.2.2.1 b.2.2.2.2.2.2.2.2.2.2.2.2.2.1 b.2.2.2.2.2.2.2.2.2.2.2.2.2.2.1 b.2.2.2.2.2.2.2.2.2.2.2.2.2.2.2.1 b.2.2.2.2.2.2.2.2.2.2.2.2.2.2.2.2.1 b.2.2.2.2.2.2.2.2.2.2.2.2.2.2.2.2.2.1 b.2.2.2.2.2.2.2.2.2.2.2.2.2.2.2.2.2.2 H locs ls hl hw _ (lp_b hc hE) hx4) (fun b H locs ls hE hl hw => by
      have e9 := lp_x hc hE
      subst e9
      exact hx4 H locs ls hl hw)
set_option maxHeartbeats 4000000 in
set_option maxRecDepth 100000 in
theorem c_X2_comeTo (l : Launch) (G : GP) (q : Nat → Nat) (k : Nat) (k2 : Nat) (g_callers : Int32) (g_kinds : Nat → Int32) (g_figures : Nat → Int32) (g_tones : Nat → Int32) (g_words : Nat → Int32) (g_hours : Nat → Int32) (g_order : Nat → Int32) (g_known : Nat → Int32) (g_tune : Int32) (g_hurt : Int32) (g_patience : Int32) (g_day : Int32) (g_answered : Int32) (g_unanswered : Int32) (g_said : Int32) (g_times : Nat → Int32) (g_last : Nat → Int32) (t_letters : Nat → Int32) (t_length : Int32) {o : Int32 × Int32 × (Nat → Int32) × (Nat → Int32) × (Nat → Int32) × (Nat → Int32) × (Nat → Int32) × (Nat → Int32) × (Nat → Int32) × Int32 × Int32 × Int32 × Int32 × Int32 × Int32 × Int32 × (Nat → Int32) × (Nat → Int32)} (h : f_X2_comeTo g_callers g_kinds g_figures g_tones g_words g_hours g_order g_known g_tune g_hurt g_patience g_day g_answered g_unanswered g_said g_times g_last t_letters t_length = some o) : CtI l yX2_comeTo cX2_comeTo 4 (some .int) ({ frames := 6, cells := 0, slots := 0, locals := 135 } : Room) G (gC G q k g_callers g_kinds g_figures g_tones g_words g_hours g_order g_known g_tune g_hurt g_patience g_day g_answered g_unanswered g_said g_times g_last ++ tC G q k2 t_letters t_length) [.ref (q k2), .ref (q k)] o.1 (gC G q k o.2.1 o.2.2.1 o.2.2.2.1 o.2.2.2.2.1 o.2.2.2.2.2.1 o.2.2.2.2.2.2.1 o.2.2.2.2.2.2.2.1 o.2.2.2.2.2.2.2.2.1 o.2.2.2.2.2.2.2.2.2.1 o.2.2.2.2.2.2.2.2.2.2.1 o.2.2.2.2.2.2.2.2.2.2.2.1 o.2.2.2.2.2.2.2.2.2.2.2.2.1 o.2.2.2.2.2.2.2.2.2.2.2.2.2.1 o.2.2.2.2.2.2.2.2.2.2.2.2.2.2.1 o.2.2.2.2.2.2.2.2.2.2.2.2.2.2.2.1 o.2.2.2.2.2.2.2.2.2.2.2.2.2.2.2.2.1 o.2.2.2.2.2.2.2.2.2.2.2.2.2.2.2.2.2 ++ tC G q k2 t_letters t_length) := by
  refine CtI.of (by decide) (Nat.le_of_ble_eq_true rfl) ?_
  intro p e s m below meth c A ls K hl hw
  have hl : lv_has ls 4 [(0, .ref (q k2)), (1, .ref (q k))] := hl
  generalize ([.ref (q k2), .ref (q k)] : List Value).toArray = args at K ⊢
  have hx := K.1.1
  have hb := K.1.2.1
  unfold f_X2_comeTo at h
  refine lv_iconst (v := (0 : Int32)) hx hb dX2_comeTo_0 (by decide) ?_
  refine lv_istore_n (lv' := [(2, .int (0 : Int32)), (0, .ref (q k2)), (1, .ref (q k))]) hx hb dX2_comeTo_1 rfl hl (by decide) rfl (fun ls hl => ?_)
  refine lv_iconst (v := (0 : Int32)) hx hb dX2_comeTo_2 (by decide) ?_
  refine lv_istore_n (lv' := [(3, .int (0 : Int32)), (2, .int (0 : Int32)), (0, .ref (q k2)), (1, .ref (q k))]) hx hb dX2_comeTo_3 rfl hl (by decide) rfl (fun ls hl => ?_)
  obtain ⟨z27, hz27, h⟩ := bd h
  refine w_X2_comeTo_L4 K 1000 (0 : Int32) (0 : Int32) g_callers g_kinds g_figures g_tones g_words g_hours g_order g_known g_tune g_hurt g_patience g_day g_answered g_unanswered g_said g_times g_last _ _ _ (lv_sub hl [2, 3, 1, 0] rfl) hw _ hz27 (fun H locs ls hl hw => ?_)
  refine lv_iload_n hx hb dX2_comeTo_36 rfl (lv_at hl 0 rfl) ?_
  have h := Option.some.inj h
  subst h
  exact retI K hw rfl dX2_comeTo_37
set_option maxHeartbeats 4000000 in
set_option maxRecDepth 100000 in
theorem w_X3_letter_J28 {l : Launch} {G : GP} {q : Nat → Nat} {p : Program} {e : Env} {s : State} {m : MethodId} {args : Array Value} {below : List Frame} {meth : Method} {c : Code} {A : Nat → Prop} {x_imageTaken : Int32} {x_toldCount : Int32} {d_callers : Int32} {d_kinds : Nat → Int32} {d_figures : Nat → Int32} {d_tones : Nat → Int32} {d_words : Nat → Int32} {d_hours : Nat → Int32} {d_order : Nat → Int32} {d_known : Nat → Int32} {d_tune : Int32} {d_hurt : Int32} {d_patience : Int32} {d_day : Int32} {d_answered : Int32} {d_unanswered : Int32} {d_said : Int32} {d_times : Nat → Int32} {d_last : Nat → Int32} {n_callers : Int32} {n_kinds : Nat → Int32} {n_figures : Nat → Int32} {n_tones : Nat → Int32} {n_words : Nat → Int32} {n_hours : Nat → Int32} {n_order : Nat → Int32} {n_known : Nat → Int32} {n_tune : Int32} {n_hurt : Int32} {n_patience : Int32} {n_day : Int32} {n_answered : Int32} {n_unanswered : Int32} {n_said : Int32} {n_times : Nat → Int32} {n_last : Nat → Int32} {t_letters : Nat → Int32} {t_length : Int32} {x_told : Nat → Int32} {x_refusals : Nat → Int32} {k_callers : Int32} {k_kinds : Nat → Int32} {k_figures : Nat → Int32} {k_tones : Nat → Int32} {k_words : Nat → Int32} {k_hours : Nat → Int32} {k_order : Nat → Int32} {k_known : Nat → Int32} {k_tune : Int32} {k_hurt : Int32} {k_patience : Int32} {k_day : Int32} {k_answered : Int32} {k_unanswered : Int32} {k_said : Int32} {k_times : Nat → Int32} {k_last : Nat → Int32} {v1 : Int32} {v2 : Int32} {o : Int32 × (Nat → Int32) × Int32 × (Nat → Int32)} (K : Cx p s m args meth c A G cX3_letter 3 RX3 (some .int)) {H : Heap} {locs : List Loc} {ls : Array Slot} (hl : lv_has ls 3 [(0, .ref (q 0)), (1, .int v1), (2, .int v2)]) (hw : Wx G A (xC G q x_imageTaken x_toldCount d_callers d_kinds d_figures d_tones d_words d_hours d_order d_known d_tune d_hurt d_patience d_day d_answered d_unanswered d_said d_times d_last n_callers n_kinds n_figures n_tones n_words n_hours n_order n_known n_tune n_hurt n_patience n_day n_answered n_unanswered n_said n_times n_last t_letters t_length x_told x_refusals k_callers k_kinds k_figures k_tones k_words k_hours k_order k_known k_tune k_hurt k_patience k_day k_answered k_unanswered k_said k_times k_last) s H locs) (h : f_X3_letter_J28 v1 v2 t_letters t_length x_refusals = o)  : W p l e ({ frames := 2, cells := 0, slots := 0, locals := 44 } : Room) s m args below meth c H locs 0 0 (MQ below (QI G A (xC G q x_imageTaken x_toldCount d_callers d_kinds d_figures d_tones d_words d_hours d_order d_known d_tune d_hurt d_patience d_day d_answered d_unanswered d_said d_times d_last n_callers n_kinds n_figures n_tones n_words n_hours n_order n_known n_tune n_hurt n_patience n_day n_answered n_unanswered n_said n_times n_last o.2.1 o.2.2.1 x_told o.2.2.2 k_callers k_kinds k_figures k_tones k_words k_hours k_order k_known k_tune k_hurt k_patience k_day k_answered k_unanswered k_said k_times k_last) o.1) args s 0 0 A) (F0 m 28 ls []) := by
  have hx := K.1.1
  have hb := K.1.2.1
  unfold f_X3_letter_J28 at h
  refine lv_iload_n hx hb dX3_letter_28 rfl (lv_at hl 2 rfl) ?_
  refine lv_if_eq (tgt := 38) hx hb dX3_letter_29 (by decide) (fun hc2 => ?_) (fun hc2 => ?_)
  · have h := ifp hc2 h
    refine lv_aload_n hx hb dX3_letter_38 rfl (lv_at hl 0 rfl) ?_
    refine getX K hw inTX3 0 4 fl_X3_29 dX3_letter_39 rfl rfl (by decide) rfl rfl ?_
    refine lv_iload_n hx hb dX3_letter_42 rfl (lv_at hl 1 rfl) ?_
    refine callVV K (c_X2_add l G q 23 t_letters t_length v1 rfl) mt_yX2_add lk_X3_55 ⟨rfl, rfl, Nat.le_of_ble_eq_true rfl, Nat.le_of_ble_eq_true rfl⟩ hw dX3_letter_43 hl.1 ⟨Nat.zero_le _, Nat.zero_le _⟩ (wa := ((xC G q x_imageTaken x_toldCount d_callers d_kinds d_figures d_tones d_words d_hours d_order d_known d_tune d_hurt d_patience d_day d_answered d_unanswered d_said d_times d_last n_callers n_kinds n_figures n_tones n_words n_hours n_order n_known n_tune n_hurt n_patience n_day n_answered n_unanswered n_said n_times n_last t_letters t_length x_told x_refusals k_callers k_kinds k_figures k_tones k_words k_hours k_order k_known k_tune k_hurt k_patience k_day k_answered k_unanswered k_said k_times k_last).take 23)) (wb := ((xC G q x_imageTaken x_toldCount d_callers d_kinds d_figures d_tones d_words d_hours d_order d_known d_tune d_hurt d_patience d_day d_answered d_unanswered d_said d_times d_last n_callers n_kinds n_figures n_tones n_words n_hours n_order n_known n_tune n_hurt n_patience n_day n_answered n_unanswered n_said n_times n_last t_letters t_length x_told x_refusals k_callers k_kinds k_figures k_tones k_words k_hours k_order k_known k_tune k_hurt k_patience k_day k_answered k_unanswered k_said k_times k_last).drop 25)) rfl rfl rfl (rest := []) rfl rfl (Nat.le_of_ble_eq_true rfl) (fun H locs hw => ?_)
    have hw : Wx G A (xC G q x_imageTaken x_toldCount d_callers d_kinds d_figures d_tones d_words d_hours d_order d_known d_tune d_hurt d_patience d_day d_answered d_unanswered d_said d_times d_last n_callers n_kinds n_figures n_tones n_words n_hours n_order n_known n_tune n_hurt n_patience n_day n_answered n_unanswered n_said n_times n_last (f_X2_add t_letters t_length v1).1 (f_X2_add t_letters t_length v1).2 x_told x_refusals k_callers k_kinds k_figures k_tones k_words k_hours k_order k_known k_tune k_hurt k_patience k_day k_answered k_unanswered k_said k_times k_last) s H locs := hw
    refine lv_aload_n hx hb dX3_letter_46 rfl (lv_at hl 0 rfl) ?_
    refine getX K hw inTX3 0 4 fl_X3_29 dX3_letter_47 rfl rfl (by decide) rfl rfl ?_
    refine getX K hw inTX2 23 1 fl_X3_48 dX3_letter_50 rfl rfl (by decide) rfl rfl ?_
    subst h
    exact retI K hw rfl dX3_letter_53
  · have h := ifn hc2 h
    refine lv_aload_n hx hb dX3_letter_32 rfl (lv_at hl 0 rfl) ?_
    refine lv_iload_n hx hb dX3_letter_33 rfl (lv_at hl 2 rfl) ?_
    refine callVI K (c_X3_refuse l G q x_imageTaken x_toldCount d_callers d_kinds d_figures d_tones d_words d_hours d_order d_known d_tune d_hurt d_patience d_day d_answered d_unanswered d_said d_times d_last n_callers n_kinds n_figures n_tones n_words n_hours n_order n_known n_tune n_hurt n_patience n_day n_answered n_unanswered n_said n_times n_last t_letters t_length x_told x_refusals k_callers k_kinds k_figures k_tones k_words k_hours k_order k_known k_tune k_hurt k_patience k_day k_answered k_unanswered k_said k_times k_last v2 rfl) mt_yX3_refuse lk_X3_51 ⟨rfl, rfl, Nat.le_of_ble_eq_true rfl, Nat.le_of_ble_eq_true rfl⟩ hw dX3_letter_34 hl.1 ⟨Nat.zero_le _, Nat.zero_le _⟩ (wa := ((xC G q x_imageTaken x_toldCount d_callers d_kinds d_figures d_tones d_words d_hours d_order d_known d_tune d_hurt d_patience d_day d_answered d_unanswered d_said d_times d_last n_callers n_kinds n_figures n_tones n_words n_hours n_order n_known n_tune n_hurt n_patience n_day n_answered n_unanswered n_said n_times n_last t_letters t_length x_told x_refusals k_callers k_kinds k_figures k_tones k_words k_hours k_order k_known k_tune k_hurt k_patience k_day k_answered k_unanswered k_said k_times k_last).take 0)) (wb := ((xC G q x_imageTaken x_toldCount d_callers d_kinds d_figures d_tones d_words d_hours d_order d_known d_tune d_hurt d_patience d_day d_answered d_unanswered d_said d_times d_last n_callers n_kinds n_figures n_tones n_words n_hours n_order n_known n_tune n_hurt n_patience n_day n_answered n_unanswered n_said n_times n_last t_letters t_length x_told x_refusals k_callers k_kinds k_figures k_tones k_words k_hours k_order k_known k_tune k_hurt k_patience k_day k_answered k_unanswered k_said k_times k_last).drop 38)) rfl rfl rfl (rest := []) rfl rfl (Nat.le_of_ble_eq_true rfl) (fun H locs hw => ?_)
    have hw : Wx G A (xC G q x_imageTaken x_toldCount d_callers d_kinds d_figures d_tones d_words d_hours d_order d_known d_tune d_hurt d_patience d_day d_answered d_unanswered d_said d_times d_last n_callers n_kinds n_figures n_tones n_words n_hours n_order n_known n_tune n_hurt n_patience n_day n_answered n_unanswered n_said n_times n_last t_letters t_length x_told (f_X3_refuse x_refusals v2).2 k_callers k_kinds k_figures k_tones k_words k_hours k_order k_known k_tune k_hurt k_patience k_day k_answered k_unanswered k_said k_times k_last) s H locs := hw
    subst h
    exact retI K hw rfl dX3_letter_37
set_option maxHeartbeats 4000000 in
set_option maxRecDepth 100000 in
theorem c_X3_letter (l : Launch) (G : GP) (q : Nat → Nat) (x_imageTaken : Int32) (x_toldCount : Int32) (d_callers : Int32) (d_kinds : Nat → Int32) (d_figures : Nat → Int32) (d_tones : Nat → Int32) (d_words : Nat → Int32) (d_hours : Nat → Int32) (d_order : Nat → Int32) (d_known : Nat → Int32) (d_tune : Int32) (d_hurt : Int32) (d_patience : Int32) (d_day : Int32) (d_answered : Int32) (d_unanswered : Int32) (d_said : Int32) (d_times : Nat → Int32) (d_last : Nat → Int32) (n_callers : Int32) (n_kinds : Nat → Int32) (n_figures : Nat → Int32) (n_tones : Nat → Int32) (n_words : Nat → Int32) (n_hours : Nat → Int32) (n_order : Nat → Int32) (n_known : Nat → Int32) (n_tune : Int32) (n_hurt : Int32) (n_patience : Int32) (n_day : Int32) (n_answered : Int32) (n_unanswered : Int32) (n_said : Int32) (n_times : Nat → Int32) (n_last : Nat → Int32) (t_letters : Nat → Int32) (t_length : Int32) (x_told : Nat → Int32) (x_refusals : Nat → Int32) (k_callers : Int32) (k_kinds : Nat → Int32) (k_figures : Nat → Int32) (k_tones : Nat → Int32) (k_words : Nat → Int32) (k_hours : Nat → Int32) (k_order : Nat → Int32) (k_known : Nat → Int32) (k_tune : Int32) (k_hurt : Int32) (k_patience : Int32) (k_day : Int32) (k_answered : Int32) (k_unanswered : Int32) (k_said : Int32) (k_times : Nat → Int32) (k_last : Nat → Int32) (v1 : Int32) {o : Int32 × (Nat → Int32) × Int32 × (Nat → Int32)} (h : f_X3_letter t_letters t_length x_refusals v1 = o) : CtI l yX3_letter cX3_letter 3 (some .int) ({ frames := 2, cells := 0, slots := 0, locals := 44 } : Room) G (xC G q x_imageTaken x_toldCount d_callers d_kinds d_figures d_tones d_words d_hours d_order d_known d_tune d_hurt d_patience d_day d_answered d_unanswered d_said d_times d_last n_callers n_kinds n_figures n_tones n_words n_hours n_order n_known n_tune n_hurt n_patience n_day n_answered n_unanswered n_said n_times n_last t_letters t_length x_told x_refusals k_callers k_kinds k_figures k_tones k_words k_hours k_order k_known k_tune k_hurt k_patience k_day k_answered k_unanswered k_said k_times k_last) [.ref (q 0), .int v1] o.1 (xC G q x_imageTaken x_toldCount d_callers d_kinds d_figures d_tones d_words d_hours d_order d_known d_tune d_hurt d_patience d_day d_answered d_unanswered d_said d_times d_last n_callers n_kinds n_figures n_tones n_words n_hours n_order n_known n_tune n_hurt n_patience n_day n_answered n_unanswered n_said n_times n_last o.2.1 o.2.2.1 x_told o.2.2.2 k_callers k_kinds k_figures k_tones k_words k_hours k_order k_known k_tune k_hurt k_patience k_day k_answered k_unanswered k_said k_times k_last) := by
  refine CtI.of (by decide) (Nat.le_of_ble_eq_true rfl) ?_
  intro p e s m below meth c A ls K hl hw
  have hl : lv_has ls 3 [(0, .ref (q 0)), (1, .int v1)] := hl
  generalize ([.ref (q 0), .int v1] : List Value).toArray = args at K ⊢
  have hx := K.1.1
  have hb := K.1.2.1
  unfold f_X3_letter at h
  refine lv_iload_n hx hb dX3_letter_0 rfl (lv_at hl 1 rfl) ?_
  refine lv_iconst (v := (0 : Int32)) hx hb dX3_letter_1 (by decide) ?_
  refine lv_sipush (v := (255 : Int32)) hx hb dX3_letter_2 (by decide) ?_
  refine callSI K (c_X3_rangeNo l G v1 (0 : Int32) (255 : Int32) rfl) mt_yX3_rangeNo lk_X3_44 ⟨rfl, rfl, Nat.le_of_ble_eq_true rfl, Nat.le_of_ble_eq_true rfl⟩ hw dX3_letter_5 hl.1 ⟨Nat.zero_le _, Nat.zero_le _⟩ (wa := ((xC G q x_imageTaken x_toldCount d_callers d_kinds d_figures d_tones d_words d_hours d_order d_known d_tune d_hurt d_patience d_day d_answered d_unanswered d_said d_times d_last n_callers n_kinds n_figures n_tones n_words n_hours n_order n_known n_tune n_hurt n_patience n_day n_answered n_unanswered n_said n_times n_last t_letters t_length x_told x_refusals k_callers k_kinds k_figures k_tones k_words k_hours k_order k_known k_tune k_hurt k_patience k_day k_answered k_unanswered k_said k_times k_last).take 0)) (wb := ((xC G q x_imageTaken x_toldCount d_callers d_kinds d_figures d_tones d_words d_hours d_order d_known d_tune d_hurt d_patience d_day d_answered d_unanswered d_said d_times d_last n_callers n_kinds n_figures n_tones n_words n_hours n_order n_known n_tune n_hurt n_patience n_day n_answered n_unanswered n_said n_times n_last t_letters t_length x_told x_refusals k_callers k_kinds k_figures k_tones k_words k_hours k_order k_known k_tune k_hurt k_patience k_day k_answered k_unanswered k_said k_times k_last).drop 0)) rfl (rest := []) rfl rfl (Nat.le_of_ble_eq_true rfl) (fun H locs hw => ?_)
  have hw : Wx G A (xC G q x_imageTaken x_toldCount d_callers d_kinds d_figures d_tones d_words d_hours d_order d_known d_tune d_hurt d_patience d_day d_answered d_unanswered d_said d_times d_last n_callers n_kinds n_figures n_tones n_words n_hours n_order n_known n_tune n_hurt n_patience n_day n_answered n_unanswered n_said n_times n_last t_letters t_length x_told x_refusals k_callers k_kinds k_figures k_tones k_words k_hours k_order k_known k_tune k_hurt k_patience k_day k_answered k_unanswered k_said k_times k_last) s H locs := hw
  refine lv_istore_n (lv' := [(2, .int (f_X3_rangeNo v1 (0 : Int32) (255 : Int32))), (0, .ref (q 0)), (1, .int v1)]) hx hb dX3_letter_8 rfl hl (by decide) rfl (fun ls hl => ?_)
  refine lv_iload_n hx hb dX3_letter_9 rfl (lv_at hl 0 rfl) ?_
  refine lv_if_ne (tgt := 28) hx hb dX3_letter_10 (by decide) (fun hc1 => ?_) (fun hc1 => ?_)
  · have h := ifn hc1 h
    exact w_X3_letter_J28 K (lv_sub hl [1, 2, 0] rfl) hw h
  · have h := ifp hc1 h
    refine lv_aload_n hx hb dX3_letter_13 rfl (lv_at hl 1 rfl) ?_
    refine getX K hw inTX3 0 4 fl_X3_29 dX3_letter_14 rfl rfl (by decide) rfl rfl ?_
    refine getX K hw inTX2 23 1 fl_X3_48 dX3_letter_17 rfl rfl (by decide) rfl rfl ?_
    refine lv_bipush (v := (96 : Int32)) hx hb dX3_letter_20 (by decide) ?_
    refine lv_icmp_lt (tgt := 28) hx hb dX3_letter_22 (by decide) (fun hc3 => ?_) (fun hc3 => ?_)
    · have h := ifp hc3 h
      exact w_X3_letter_J28 K (lv_sub hl [1, 2, 0] rfl) hw h
    · have h := ifn hc3 h
      refine lv_bipush (v := (-6 : Int32)) hx hb dX3_letter_25 (by decide) ?_
      refine lv_istore_n (lv' := [(2, .int (-6 : Int32)), (0, .ref (q 0)), (1, .int v1)]) hx hb dX3_letter_27 rfl hl (by decide) rfl (fun ls hl => ?_)
      exact w_X3_letter_J28 K (lv_sub hl [1, 2, 0] rfl) hw h
set_option maxHeartbeats 4000000 in
set_option maxRecDepth 100000 in
theorem w_X3_gorge_J83 {l : Launch} {G : GP} {q : Nat → Nat} {p : Program} {e : Env} {s : State} {m : MethodId} {args : Array Value} {below : List Frame} {meth : Method} {c : Code} {A : Nat → Prop} {x_imageTaken : Int32} {x_toldCount : Int32} {d_callers : Int32} {d_kinds : Nat → Int32} {d_figures : Nat → Int32} {d_tones : Nat → Int32} {d_words : Nat → Int32} {d_hours : Nat → Int32} {d_order : Nat → Int32} {d_known : Nat → Int32} {d_tune : Int32} {d_hurt : Int32} {d_patience : Int32} {d_day : Int32} {d_answered : Int32} {d_unanswered : Int32} {d_said : Int32} {d_times : Nat → Int32} {d_last : Nat → Int32} {n_callers : Int32} {n_kinds : Nat → Int32} {n_figures : Nat → Int32} {n_tones : Nat → Int32} {n_words : Nat → Int32} {n_hours : Nat → Int32} {n_order : Nat → Int32} {n_known : Nat → Int32} {n_tune : Int32} {n_hurt : Int32} {n_patience : Int32} {n_day : Int32} {n_answered : Int32} {n_unanswered : Int32} {n_said : Int32} {n_times : Nat → Int32} {n_last : Nat → Int32} {t_letters : Nat → Int32} {t_length : Int32} {x_told : Nat → Int32} {x_refusals : Nat → Int32} {k_callers : Int32} {k_kinds : Nat → Int32} {k_figures : Nat → Int32} {k_tones : Nat → Int32} {k_words : Nat → Int32} {k_hours : Nat → Int32} {k_order : Nat → Int32} {k_known : Nat → Int32} {k_tune : Int32} {k_hurt : Int32} {k_patience : Int32} {k_day : Int32} {k_answered : Int32} {k_unanswered : Int32} {k_said : Int32} {k_times : Nat → Int32} {k_last : Nat → Int32} {v3 : Int32} {o : Int32 × Int32 × (Nat → Int32) × (Nat → Int32) × (Nat → Int32) × (Nat → Int32) × (Nat → Int32) × (Nat → Int32) × (Nat → Int32) × Int32 × Int32 × Int32 × Int32 × Int32 × Int32 × Int32 × (Nat → Int32) × (Nat → Int32) × Int32} (K : Cx p s m args meth c A G cX3_gorge 4 RX3 (some .int)) {H : Heap} {locs : List Loc} {ls : Array Slot} (hl : lv_has ls 4 [(0, .ref (q 0)), (3, .int v3)]) (hw : Wx G A (xC G q x_imageTaken x_toldCount d_callers d_kinds d_figures d_tones d_words d_hours d_order d_known d_tune d_hurt d_patience d_day d_answered d_unanswered d_said d_times d_last n_callers n_kinds n_figures n_tones n_words n_hours n_order n_known n_tune n_hurt n_patience n_day n_answered n_unanswered n_said n_times n_last t_letters t_length x_told x_refusals k_callers k_kinds k_figures k_tones k_words k_hours k_order k_known k_tune k_hurt k_patience k_day k_answered k_unanswered k_said k_times k_last) s H locs) (h : f_X3_gorge_J83 v3 n_callers n_kinds n_figures n_tones n_words n_hours n_order n_known n_tune n_hurt n_patience n_day n_answered n_unanswered n_said n_times n_last = some o)  : W p l e ({ frames := 7, cells := 0, slots := 0, locals := 158 } : Room) s m args below meth c H locs 0 0 (MQ below (QI G A (xC G q x_imageTaken x_toldCount d_callers d_kinds d_figures d_tones d_words d_hours d_order d_known d_tune d_hurt d_patience d_day d_answered d_unanswered d_said d_times d_last o.2.1 o.2.2.1 o.2.2.2.1 o.2.2.2.2.1 o.2.2.2.2.2.1 o.2.2.2.2.2.2.1 o.2.2.2.2.2.2.2.1 o.2.2.2.2.2.2.2.2.1 o.2.2.2.2.2.2.2.2.2.1 o.2.2.2.2.2.2.2.2.2.2.1 o.2.2.2.2.2.2.2.2.2.2.2.1 o.2.2.2.2.2.2.2.2.2.2.2.2.1 o.2.2.2.2.2.2.2.2.2.2.2.2.2.1 o.2.2.2.2.2.2.2.2.2.2.2.2.2.2.1 o.2.2.2.2.2.2.2.2.2.2.2.2.2.2.2.1 o.2.2.2.2.2.2.2.2.2.2.2.2.2.2.2.2.1 o.2.2.2.2.2.2.2.2.2.2.2.2.2.2.2.2.2.1 t_letters o.2.2.2.2.2.2.2.2.2.2.2.2.2.2.2.2.2.2 x_told x_refusals k_callers k_kinds k_figures k_tones k_words k_hours k_order k_known k_tune k_hurt k_patience k_day k_answered k_unanswered k_said k_times k_last) o.1) args s 0 0 A) (F0 m 83 ls []) := by
  have hx := K.1.1
  have hb := K.1.2.1
  unfold f_X3_gorge_J83 at h
  refine lv_aload_n hx hb dX3_gorge_83 rfl (lv_at hl 0 rfl) ?_
  refine getX K hw inTX3 0 4 fl_X3_29 dX3_gorge_84 rfl rfl (by decide) rfl rfl ?_
  refine lv_iconst (v := (0 : Int32)) hx hb dX3_gorge_87 (by decide) ?_
  refine putX K hw inTX2 tyX2_ok nmX2 23 1 fl_X3_48 dX3_gorge_88 rfl rfl (by decide) rfl rfl rfl rfl (Nat.le_of_ble_eq_true rfl) (fun H locs hw => ?_)
  have hw : Wx G A (xC G q x_imageTaken x_toldCount d_callers d_kinds d_figures d_tones d_words d_hours d_order d_known d_tune d_hurt d_patience d_day d_answered d_unanswered d_said d_times d_last n_callers n_kinds n_figures n_tones n_words n_hours n_order n_known n_tune n_hurt n_patience n_day n_answered n_unanswered n_said n_times n_last t_letters (0 : Int32) x_told x_refusals k_callers k_kinds k_figures k_tones k_words k_hours k_order k_known k_tune k_hurt k_patience k_day k_answered k_unanswered k_said k_times k_last) s H locs := hw
  refine lv_iload_n hx hb dX3_gorge_91 rfl (lv_at hl 1 rfl) ?_
  have h := Option.some.inj h
  subst h
  exact retI K hw rfl dX3_gorge_92
set_option maxHeartbeats 4000000 in
set_option maxRecDepth 100000 in
theorem w_X3_gorge_J40 {l : Launch} {G : GP} {q : Nat → Nat} {p : Program} {e : Env} {s : State} {m : MethodId} {args : Array Value} {below : List Frame} {meth : Method} {c : Code} {A : Nat → Prop} {x_imageTaken : Int32} {x_toldCount : Int32} {d_callers : Int32} {d_kinds : Nat → Int32} {d_figures : Nat → Int32} {d_tones : Nat → Int32} {d_words : Nat → Int32} {d_hours : Nat → Int32} {d_order : Nat → Int32} {d_known : Nat → Int32} {d_tune : Int32} {d_hurt : Int32} {d_patience : Int32} {d_day : Int32} {d_answered : Int32} {d_unanswered : Int32} {d_said : Int32} {d_times : Nat → Int32} {d_last : Nat → Int32} {n_callers : Int32} {n_kinds : Nat → Int32} {n_figures : Nat → Int32} {n_tones : Nat → Int32} {n_words : Nat → Int32} {n_hours : Nat → Int32} {n_order : Nat → Int32} {n_known : Nat → Int32} {n_tune : Int32} {n_hurt : Int32} {n_patience : Int32} {n_day : Int32} {n_answered : Int32} {n_unanswered : Int32} {n_said : Int32} {n_times : Nat → Int32} {n_last : Nat → Int32} {t_letters : Nat → Int32} {t_length : Int32} {x_told : Nat → Int32} {x_refusals : Nat → Int32} {k_callers : Int32} {k_kinds : Nat → Int32} {k_figures : Nat → Int32} {k_tones : Nat → Int32} {k_words : Nat → Int32} {k_hours : Nat → Int32} {k_order : Nat → Int32} {k_known : Nat → Int32} {k_tune : Int32} {k_hurt : Int32} {k_patience : Int32} {k_day : Int32} {k_answered : Int32} {k_unanswered : Int32} {k_said : Int32} {k_times : Nat → Int32} {k_last : Nat → Int32} {v1 : Int32} {s0 : Int32} {o : Int32 × Int32 × (Nat → Int32) × (Nat → Int32) × (Nat → Int32) × (Nat → Int32) × (Nat → Int32) × (Nat → Int32) × (Nat → Int32) × Int32 × Int32 × Int32 × Int32 × Int32 × Int32 × Int32 × (Nat → Int32) × (Nat → Int32) × Int32} (K : Cx p s m args meth c A G cX3_gorge 4 RX3 (some .int)) {H : Heap} {locs : List Loc} {ls : Array Slot} (hl : lv_has ls 4 [(0, .ref (q 0)), (1, .int v1)]) (hw : Wx G A (xC G q x_imageTaken x_toldCount d_callers d_kinds d_figures d_tones d_words d_hours d_order d_known d_tune d_hurt d_patience d_day d_answered d_unanswered d_said d_times d_last n_callers n_kinds n_figures n_tones n_words n_hours n_order n_known n_tune n_hurt n_patience n_day n_answered n_unanswered n_said n_times n_last t_letters t_length x_told x_refusals k_callers k_kinds k_figures k_tones k_words k_hours k_order k_known k_tune k_hurt k_patience k_day k_answered k_unanswered k_said k_times k_last) s H locs) (h : f_X3_gorge_J40 v1 s0 n_callers n_kinds n_figures n_tones n_words n_hours n_order n_known n_tune n_hurt n_patience n_day n_answered n_unanswered n_said n_times n_last t_letters t_length = some o)  : W p l e ({ frames := 7, cells := 0, slots := 0, locals := 158 } : Room) s m args below meth c H locs 0 0 (MQ below (QI G A (xC G q x_imageTaken x_toldCount d_callers d_kinds d_figures d_tones d_words d_hours d_order d_known d_tune d_hurt d_patience d_day d_answered d_unanswered d_said d_times d_last o.2.1 o.2.2.1 o.2.2.2.1 o.2.2.2.2.1 o.2.2.2.2.2.1 o.2.2.2.2.2.2.1 o.2.2.2.2.2.2.2.1 o.2.2.2.2.2.2.2.2.1 o.2.2.2.2.2.2.2.2.2.1 o.2.2.2.2.2.2.2.2.2.2.1 o.2.2.2.2.2.2.2.2.2.2.2.1 o.2.2.2.2.2.2.2.2.2.2.2.2.1 o.2.2.2.2.2.2.2.2.2.2.2.2.2.1 o.2.2.2.2.2.2.2.2.2.2.2.2.2.2.1 o.2.2.2.2.2.2.2.2.2.2.2.2.2.2.2.1 o.2.2.2.2.2.2.2.2.2.2.2.2.2.2.2.2.1 o.2.2.2.2.2.2.2.2.2.2.2.2.2.2.2.2.2.1 t_letters o.2.2.2.2.2.2.2.2.2.2.2.2.2.2.2.2.2.2 x_told x_refusals k_callers k_kinds k_figures k_tones k_words k_hours k_order k_known k_tune k_hurt k_patience k_day k_answered k_unanswered k_said k_times k_last) o.1) args s 0 0 A) (F0 m 40 ls [.int s0]) := by
  have hx := K.1.1
  have hb := K.1.2.1
  unfold f_X3_gorge_J40 at h
  refine lv_istore_n (lv' := [(2, .int s0), (0, .ref (q 0)), (1, .int v1)]) hx hb dX3_gorge_40 rfl hl (by decide) rfl (fun ls hl => ?_)
  refine lv_iload_n hx hb dX3_gorge_41 rfl (lv_at hl 2 rfl) ?_
  refine lv_bipush (v := (-9 : Int32)) hx hb dX3_gorge_42 (by decide) ?_
  refine lv_icmp_eq (tgt := 56) hx hb dX3_gorge_44 (by decide) (fun hc7 => ?_) (fun hc7 => ?_)
  · have h := ifp hc7 h
    refine lv_iload_n hx hb dX3_gorge_56 rfl (lv_at hl 0 rfl) ?_
    refine lv_bipush (v := (-9 : Int32)) hx hb dX3_gorge_57 (by decide) ?_
    refine lv_icmp_eq (tgt := 71) hx hb dX3_gorge_59 (by decide) (fun hc8 => ?_) (fun hc8 => ?_)
    · have h := ifp hc8 h
      refine lv_aload_n hx hb dX3_gorge_71 rfl (lv_at hl 1 rfl) ?_
      refine getX K hw inTX3 0 4 fl_X3_29 dX3_gorge_72 rfl rfl (by decide) rfl rfl ?_
      refine lv_aload_n hx hb dX3_gorge_75 rfl (lv_at hl 1 rfl) ?_
      refine getX K hw inTX3 0 0 fl_X3_12 dX3_gorge_76 rfl rfl (by decide) rfl rfl ?_
      obtain ⟨z9, hz9, h⟩ := bd h
      refine callVI2 (i2 := 11) K (c_X2_comeTo l G q 12 23 n_callers n_kinds n_figures n_tones n_words n_hours n_order n_known n_tune n_hurt n_patience n_day n_answered n_unanswered n_said n_times n_last t_letters t_length hz9) mt_yX2_comeTo lk_X3_73 ⟨rfl, rfl, Nat.le_of_ble_eq_true rfl, Nat.le_of_ble_eq_true rfl⟩ hw dX3_gorge_79 hl.1 ⟨Nat.zero_le _, Nat.zero_le _⟩ (wa := ((xC G q x_imageTaken x_toldCount d_callers d_kinds d_figures d_tones d_words d_hours d_order d_known d_tune d_hurt d_patience d_day d_answered d_unanswered d_said d_times d_last n_callers n_kinds n_figures n_tones n_words n_hours n_order n_known n_tune n_hurt n_patience n_day n_answered n_unanswered n_said n_times n_last t_letters t_length x_told x_refusals k_callers k_kinds k_figures k_tones k_words k_hours k_order k_known k_tune k_hurt k_patience k_day k_answered k_unanswered k_said k_times k_last).take 12)) (wb := ((xC G q x_imageTaken x_toldCount d_callers d_kinds d_figures d_tones d_words d_hours d_order d_known d_tune d_hurt d_patience d_day d_answered d_unanswered d_said d_times d_last n_callers n_kinds n_figures n_tones n_words n_hours n_order n_known n_tune n_hurt n_patience n_day n_answered n_unanswered n_said n_times n_last t_letters t_length x_told x_refusals k_callers k_kinds k_figures k_tones k_words k_hours k_order k_known k_tune k_hurt k_patience k_day k_answered k_unanswered k_said k_times k_last).drop 25)) rfl rfl rfl (rest := []) rfl rfl (Nat.le_of_ble_eq_true rfl) (fun H locs hw => ?_)
      have hw : Wx G A (xC G q x_imageTaken x_toldCount d_callers d_kinds d_figures d_tones d_words d_hours d_order d_known d_tune d_hurt d_patience d_day d_answered d_unanswered d_said d_times d_last z9.2.1 z9.2.2.1 z9.2.2.2.1 z9.2.2.2.2.1 z9.2.2.2.2.2.1 z9.2.2.2.2.2.2.1 z9.2.2.2.2.2.2.2.1 z9.2.2.2.2.2.2.2.2.1 z9.2.2.2.2.2.2.2.2.2.1 z9.2.2.2.2.2.2.2.2.2.2.1 z9.2.2.2.2.2.2.2.2.2.2.2.1 z9.2.2.2.2.2.2.2.2.2.2.2.2.1 z9.2.2.2.2.2.2.2.2.2.2.2.2.2.1 z9.2.2.2.2.2.2.2.2.2.2.2.2.2.2.1 z9.2.2.2.2.2.2.2.2.2.2.2.2.2.2.2.1 z9.2.2.2.2.2.2.2.2.2.2.2.2.2.2.2.2.1 z9.2.2.2.2.2.2.2.2.2.2.2.2.2.2.2.2.2 t_letters t_length x_told x_refusals k_callers k_kinds k_figures k_tones k_words k_hours k_order k_known k_tune k_hurt k_patience k_day k_answered k_unanswered k_said k_times k_last) s H locs := hw
      refine lv_istore_n (lv' := [(3, .int z9.1), (2, .int s0), (0, .ref (q 0)), (1, .int v1)]) hx hb dX3_gorge_82 rfl hl (by decide) rfl (fun ls hl => ?_)
      exact w_X3_gorge_J83 K (lv_sub hl [2, 0] rfl) hw h
    · have h := ifn hc8 h
      refine lv_sipush (v := (-2000 : Int32)) hx hb dX3_gorge_62 (by decide) ?_
      refine lv_iload_n hx hb dX3_gorge_65 rfl (lv_at hl 0 rfl) ?_
      refine lv_isub hx hb dX3_gorge_66 ?_
      refine lv_istore_n (lv' := [(3, .int ((-2000 : Int32) - s0)), (2, .int s0), (0, .ref (q 0)), (1, .int v1)]) hx hb dX3_gorge_67 rfl hl (by decide) rfl (fun ls hl => ?_)
      refine lv_goto (tgt := 83) hx hb dX3_gorge_68 (by decide) ?_
      exact w_X3_gorge_J83 K (lv_sub hl [2, 0] rfl) hw h
  · have h := ifn hc7 h
    refine lv_sipush (v := (-1000 : Int32)) hx hb dX3_gorge_47 (by decide) ?_
    refine lv_iload_n hx hb dX3_gorge_50 rfl (lv_at hl 2 rfl) ?_
    refine lv_isub hx hb dX3_gorge_51 ?_
    refine lv_istore_n (lv' := [(3, .int ((-1000 : Int32) - v1)), (2, .int s0), (0, .ref (q 0)), (1, .int v1)]) hx hb dX3_gorge_52 rfl hl (by decide) rfl (fun ls hl => ?_)
    refine lv_goto (tgt := 83) hx hb dX3_gorge_53 (by decide) ?_
    exact w_X3_gorge_J83 K (lv_sub hl [2, 0] rfl) hw h
set_option maxHeartbeats 4000000 in
set_option maxRecDepth 100000 in
theorem c_X3_gorge (l : Launch) (G : GP) (q : Nat → Nat) (x_imageTaken : Int32) (x_toldCount : Int32) (d_callers : Int32) (d_kinds : Nat → Int32) (d_figures : Nat → Int32) (d_tones : Nat → Int32) (d_words : Nat → Int32) (d_hours : Nat → Int32) (d_order : Nat → Int32) (d_known : Nat → Int32) (d_tune : Int32) (d_hurt : Int32) (d_patience : Int32) (d_day : Int32) (d_answered : Int32) (d_unanswered : Int32) (d_said : Int32) (d_times : Nat → Int32) (d_last : Nat → Int32) (n_callers : Int32) (n_kinds : Nat → Int32) (n_figures : Nat → Int32) (n_tones : Nat → Int32) (n_words : Nat → Int32) (n_hours : Nat → Int32) (n_order : Nat → Int32) (n_known : Nat → Int32) (n_tune : Int32) (n_hurt : Int32) (n_patience : Int32) (n_day : Int32) (n_answered : Int32) (n_unanswered : Int32) (n_said : Int32) (n_times : Nat → Int32) (n_last : Nat → Int32) (t_letters : Nat → Int32) (t_length : Int32) (x_told : Nat → Int32) (x_refusals : Nat → Int32) (k_callers : Int32) (k_kinds : Nat → Int32) (k_figures : Nat → Int32) (k_tones : Nat → Int32) (k_words : Nat → Int32) (k_hours : Nat → Int32) (k_order : Nat → Int32) (k_known : Nat → Int32) (k_tune : Int32) (k_hurt : Int32) (k_patience : Int32) (k_day : Int32) (k_answered : Int32) (k_unanswered : Int32) (k_said : Int32) (k_times : Nat → Int32) (k_last : Nat → Int32) {o : Int32 × Int32 × (Nat → Int32) × (Nat → Int32) × (Nat → Int32) × (Nat → Int32) × (Nat → Int32) × (Nat → Int32) × (Nat → Int32) × Int32 × Int32 × Int32 × Int32 × Int32 × Int32 × Int32 × (Nat → Int32) × (Nat → Int32) × Int32} (h : f_X3_gorge n_callers n_kinds n_figures n_tones n_words n_hours n_order n_known n_tune n_hurt n_patience n_day n_answered n_unanswered n_said n_times n_last t_letters t_length = some o) : CtI l yX3_gorge cX3_gorge 4 (some .int) ({ frames := 7, cells := 0, slots := 0, locals := 158 } : Room) G (xC G q x_imageTaken x_toldCount d_callers d_kinds d_figures d_tones d_words d_hours d_order d_known d_tune d_hurt d_patience d_day d_answered d_unanswered d_said d_times d_last n_callers n_kinds n_figures n_tones n_words n_hours n_order n_known n_tune n_hurt n_patience n_day n_answered n_unanswered n_said n_times n_last t_letters t_length x_told x_refusals k_callers k_kinds k_figures k_tones k_words k_hours k_order k_known k_tune k_hurt k_patience k_day k_answered k_unanswered k_said k_times k_last) [.ref (q 0)] o.1 (xC G q x_imageTaken x_toldCount d_callers d_kinds d_figures d_tones d_words d_hours d_order d_known d_tune d_hurt d_patience d_day d_answered d_unanswered d_said d_times d_last o.2.1 o.2.2.1 o.2.2.2.1 o.2.2.2.2.1 o.2.2.2.2.2.1 o.2.2.2.2.2.2.1 o.2.2.2.2.2.2.2.1 o.2.2.2.2.2.2.2.2.1 o.2.2.2.2.2.2.2.2.2.1 o.2.2.2.2.2.2.2.2.2.2.1 o.2.2.2.2.2.2.2.2.2.2.2.1 o.2.2.2.2.2.2.2.2.2.2.2.2.1 o.2.2.2.2.2.2.2.2.2.2.2.2.2.1 o.2.2.2.2.2.2.2.2.2.2.2.2.2.2.1 o.2.2.2.2.2.2.2.2.2.2.2.2.2.2.2.1 o.2.2.2.2.2.2.2.2.2.2.2.2.2.2.2.2.1 o.2.2.2.2.2.2.2.2.2.2.2.2.2.2.2.2.2.1 t_letters o.2.2.2.2.2.2.2.2.2.2.2.2.2.2.2.2.2.2 x_told x_refusals k_callers k_kinds k_figures k_tones k_words k_hours k_order k_known k_tune k_hurt k_patience k_day k_answered k_unanswered k_said k_times k_last) := by
  refine CtI.of (by decide) (Nat.le_of_ble_eq_true rfl) ?_
  intro p e s m below meth c A ls K hl hw
  have hl : lv_has ls 4 [(0, .ref (q 0))] := hl
  generalize ([.ref (q 0)] : List Value).toArray = args at K ⊢
  have hx := K.1.1
  have hb := K.1.2.1
  unfold f_X3_gorge at h
  refine lv_aload_n hx hb dX3_gorge_0 rfl (lv_at hl 0 rfl) ?_
  refine getX K hw inTX3 0 4 fl_X3_29 dX3_gorge_1 rfl rfl (by decide) rfl rfl ?_
  obtain ⟨z5, hz5, h⟩ := bd h
  refine callVI K (c_X2_faultOfForm l G q 23 t_letters t_length hz5) mt_yX2_faultOfForm lk_X3_59 ⟨rfl, rfl, Nat.le_of_ble_eq_true rfl, Nat.le_of_ble_eq_true rfl⟩ hw dX3_gorge_4 hl.1 ⟨Nat.zero_le _, Nat.zero_le _⟩ (wa := ((xC G q x_imageTaken x_toldCount d_callers d_kinds d_figures d_tones d_words d_hours d_order d_known d_tune d_hurt d_patience d_day d_answered d_unanswered d_said d_times d_last n_callers n_kinds n_figures n_tones n_words n_hours n_order n_known n_tune n_hurt n_patience n_day n_answered n_unanswered n_said n_times n_last t_letters t_length x_told x_refusals k_callers k_kinds k_figures k_tones k_words k_hours k_order k_known k_tune k_hurt k_patience k_day k_answered k_unanswered k_said k_times k_last).take 23)) (wb := ((xC G q x_imageTaken x_toldCount d_callers d_kinds d_figures d_tones d_words d_hours d_order d_known d_tune d_hurt d_patience d_day d_answered d_unanswered d_said d_times d_last n_callers n_kinds n_figures n_tones n_words n_hours n_order n_known n_tune n_hurt n_patience n_day n_answered n_unanswered n_said n_times n_last t_letters t_length x_told x_refusals k_callers k_kinds k_figures k_tones k_words k_hours k_order k_known k_tune k_hurt k_patience k_day k_answered k_unanswered k_said k_times k_last).drop 25)) rfl rfl rfl (rest := []) rfl rfl (Nat.le_of_ble_eq_true rfl) (fun H locs hw => ?_)
  have hw : Wx G A (xC G q x_imageTaken x_toldCount d_callers d_kinds d_figures d_tones d_words d_hours d_order d_known d_tune d_hurt d_patience d_day d_answered d_unanswered d_said d_times d_last n_callers n_kinds n_figures n_tones n_words n_hours n_order n_known n_tune n_hurt n_patience n_day n_answered n_unanswered n_said n_times n_last t_letters t_length x_told x_refusals k_callers k_kinds k_figures k_tones k_words k_hours k_order k_known k_tune k_hurt k_patience k_day k_answered k_unanswered k_said k_times k_last) s H locs := hw
  refine lv_istore_n (lv' := [(1, .int z5), (0, .ref (q 0))]) hx hb dX3_gorge_7 rfl hl (by decide) rfl (fun ls hl => ?_)
  refine lv_iload_n hx hb dX3_gorge_8 rfl (lv_at hl 0 rfl) ?_
  refine lv_bipush (v := (-9 : Int32)) hx hb dX3_gorge_9 (by decide) ?_
  refine lv_icmp_ne (tgt := 38) hx hb dX3_gorge_11 (by decide) (fun hc6 => ?_) (fun hc6 => ?_)
  · have h := ifn hc6 h
    refine lv_bipush (v := (-9 : Int32)) hx hb dX3_gorge_38 (by decide) ?_
    exact w_X3_gorge_J40 K (lv_sub hl [1, 0] rfl) hw h
  · have h := ifp hc6 h
    refine lv_aload_n hx hb dX3_gorge_14 rfl (lv_at hl 1 rfl) ?_
    refine getX K hw inTX3 0 4 fl_X3_29 dX3_gorge_15 rfl rfl (by decide) rfl rfl ?_
    refine lv_aload_n hx hb dX3_gorge_18 rfl (lv_at hl 1 rfl) ?_
    refine getX K hw inTX3 0 0 fl_X3_12 dX3_gorge_19 rfl rfl (by decide) rfl rfl ?_
    refine getX K hw inTX0 12 0 fl_X3_63 dX3_gorge_22 rfl rfl (by decide) rfl rfl ?_
    refine lv_aload_n hx hb dX3_gorge_25 rfl (lv_at hl 1 rfl) ?_
    refine getX K hw inTX3 0 0 fl_X3_12 dX3_gorge_26 rfl rfl (by decide) rfl rfl ?_
    refine getX K hw inTX0 12 11 fl_X3_66 dX3_gorge_29 rfl rfl (by decide) rfl rfl ?_
    obtain ⟨z10, hz10, h⟩ := bd h
    refine callVI K (c_X2_faultOfSense l G q 23 t_letters t_length n_callers n_day hz10) mt_yX2_faultOfSense lk_X3_69 ⟨rfl, rfl, Nat.le_of_ble_eq_true rfl, Nat.le_of_ble_eq_true rfl⟩ hw dX3_gorge_32 hl.1 ⟨Nat.zero_le _, Nat.zero_le _⟩ (wa := ((xC G q x_imageTaken x_toldCount d_callers d_kinds d_figures d_tones d_words d_hours d_order d_known d_tune d_hurt d_patience d_day d_answered d_unanswered d_said d_times d_last n_callers n_kinds n_figures n_tones n_words n_hours n_order n_known n_tune n_hurt n_patience n_day n_answered n_unanswered n_said n_times n_last t_letters t_length x_told x_refusals k_callers k_kinds k_figures k_tones k_words k_hours k_order k_known k_tune k_hurt k_patience k_day k_answered k_unanswered k_said k_times k_last).take 23)) (wb := ((xC G q x_imageTaken x_toldCount d_callers d_kinds d_figures d_tones d_words d_hours d_order d_known d_tune d_hurt d_patience d_day d_answered d_unanswered d_said d_times d_last n_callers n_kinds n_figures n_tones n_words n_hours n_order n_known n_tune n_hurt n_patience n_day n_answered n_unanswered n_said n_times n_last t_letters t_length x_told x_refusals k_callers k_kinds k_figures k_tones k_words k_hours k_order k_known k_tune k_hurt k_patience k_day k_answered k_unanswered k_said k_times k_last).drop 25)) rfl rfl rfl (rest := []) rfl rfl (Nat.le_of_ble_eq_true rfl) (fun H locs hw => ?_)
    have hw : Wx G A (xC G q x_imageTaken x_toldCount d_callers d_kinds d_figures d_tones d_words d_hours d_order d_known d_tune d_hurt d_patience d_day d_answered d_unanswered d_said d_times d_last n_callers n_kinds n_figures n_tones n_words n_hours n_order n_known n_tune n_hurt n_patience n_day n_answered n_unanswered n_said n_times n_last t_letters t_length x_told x_refusals k_callers k_kinds k_figures k_tones k_words k_hours k_order k_known k_tune k_hurt k_patience k_day k_answered k_unanswered k_said k_times k_last) s H locs := hw
    refine lv_goto (tgt := 40) hx hb dX3_gorge_35 (by decide) ?_
    exact w_X3_gorge_J40 K (lv_sub hl [1, 0] rfl) hw h
