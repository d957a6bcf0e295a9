set_option maxHeartbeats 4000000 in
set_option maxRecDepth 100000 in
theorem w_ciN_J9 {l : Launch} {G : GP}  {p : Program} {e : Env} {s : State} {m : MethodId} {args : Array Value} {below : List Frame} {meth : Method} {c : Code} {A : Nat → Prop}  {v0 : Int32} {v1 : Int32} {o : Int32} (K : Cx p s m args meth c A G cJ3_checkIndex_8e157 3 RJ3 (some .int)) {H : Heap} {locs : List Loc} {ls : Array Slot} (hl : lv_has ls 3 [(0, .int v0), (1, .int v1), (2, .null)]) (hw : Wx G A ([] : va_W) s H locs) (h : f_ciN_J9  = some o)  : W p l e ({ frames := 0, cells := 0, slots := 0, locals := 0 } : Room) s m args below meth c H locs 0 0 (MQ below (QI G A ([] : va_W) o) args s 0 0 A) (F0 m 9 ls []) := by
  have hx := K.1.1
  have hb := K.1.2.1
  unfold f_ciN_J9 at h
  cases h
set_option maxHeartbeats 4000000 in
set_option maxRecDepth 100000 in
theorem c_ciN (l : Launch) (G : GP) (v0 : Int32) (v1 : Int32) {o : Int32} (h : f_ciN v0 v1 = some o) : CtI l yJ3_checkIndex_8e157 cJ3_checkIndex_8e157 3 (some .int) ({ frames := 0, cells := 0, slots := 0, locals := 0 } : Room) G ([] : va_W) [.int v0, .int v1, .null] o ([] : va_W) := by
  refine CtI.of (by decide) (Nat.le_of_ble_eq_true rfl) ?_
  intro p e s m below meth c A ls K hl hw
  have hl : lv_has ls 3 [(0, .int v0), (1, .int v1), (2, .null)] := hl
  generalize ([.int v0, .int v1, .null] : List Value).toArray = args at K ⊢
  have hx := K.1.1
  have hb := K.1.2.1
  unfold f_ciN at h
  refine lv_iload_n hx hb dJ3_checkIndex_8e157_0 rfl (lv_at hl 0 rfl) ?_
  refine lv_if_lt (tgt := 9) hx hb dJ3_checkIndex_8e157_1 (by decide) (fun hc1 => ?_) (fun hc1 => ?_)
  · have h := ifp hc1 h
    exact w_ciN_J9 K (lv_sub hl [0, 1, 2] rfl) hw h
  · have h := ifn hc1 h
    refine lv_iload_n hx hb dJ3_checkIndex_8e157_4 rfl (lv_at hl 0 rfl) ?_
    refine lv_iload_n hx hb dJ3_checkIndex_8e157_5 rfl (lv_at hl 1 rfl) ?_
    refine lv_icmp_lt (tgt := 16) hx hb dJ3_checkIndex_8e157_6 (by decide) (fun hc2 => ?_) (fun hc2 => ?_)
    · have h := ifp hc2 h
      refine lv_iload_n hx hb dJ3_checkIndex_8e157_16 rfl (lv_at hl 0 rfl) ?_
      have h := Option.some.inj h
      subst h
      exact retI K hw rfl dJ3_checkIndex_8e157_17
    · have h := ifn hc2 h
      exact w_ciN_J9 K (lv_sub hl [0, 1, 2] rfl) hw h
set_option maxHeartbeats 4000000 in
set_option maxRecDepth 100000 in
theorem w_ciF_J9 {l : Launch} {G : GP} {t : Nat} {p : Program} {e : Env} {s : State} {m : MethodId} {args : Array Value} {below : List Frame} {meth : Method} {c : Code} {A : Nat → Prop}  {v0 : Int32} {v1 : Int32} {o : Int32} (K : Cx p s m args meth c A G cJ3_checkIndex_8e157 3 RJ3 (some .int)) {H : Heap} {locs : List Loc} {ls : Array Slot} (hl : lv_has ls 3 [(0, .int v0), (1, .int v1), (2, .ref t)]) (hw : Wx G A ([] : va_W) s H locs) (h : f_ciF_J9  = some o)  : W p l e ({ frames := 0, cells := 0, slots := 0, locals := 0 } : Room) s m args below meth c H locs 0 0 (MQ below (QI G A ([] : va_W) o) args s 0 0 A) (F0 m 9 ls []) := by
  have hx := K.1.1
  have hb := K.1.2.1
  unfold f_ciF_J9 at h
  cases h
set_option maxHeartbeats 4000000 in
set_option maxRecDepth 100000 in
theorem c_ciF (l : Launch) (G : GP) (t : Nat) (v0 : Int32) (v1 : Int32) {o : Int32} (h : f_ciF v0 v1 = some o) : CtI l yJ3_checkIndex_8e157 cJ3_checkIndex_8e157 3 (some .int) ({ frames := 0, cells := 0, slots := 0, locals := 0 } : Room) G ([] : va_W) [.int v0, .int v1, .ref t] o ([] : va_W) := by
  refine CtI.of (by decide) (Nat.le_of_ble_eq_true rfl) ?_
  intro p e s m below meth c A ls K hl hw
  have hl : lv_has ls 3 [(0, .int v0), (1, .int v1), (2, .ref t)] := hl
  generalize ([.int v0, .int v1, .ref t] : List Value).toArray = args at K ⊢
  have hx := K.1.1
  have hb := K.1.2.1
  unfold f_ciF at h
  refine lv_iload_n hx hb dJ3_checkIndex_8e157_0 rfl (lv_at hl 0 rfl) ?_
  refine lv_if_lt (tgt := 9) hx hb dJ3_checkIndex_8e157_1 (by decide) (fun hc1 => ?_) (fun hc1 => ?_)
  · have h := ifp hc1 h
    exact w_ciF_J9 K (lv_sub hl [0, 1, 2] rfl) hw h
  · have h := ifn hc1 h
    refine lv_iload_n hx hb dJ3_checkIndex_8e157_4 rfl (lv_at hl 0 rfl) ?_
    refine lv_iload_n hx hb dJ3_checkIndex_8e157_5 rfl (lv_at hl 1 rfl) ?_
    refine lv_icmp_lt (tgt := 16) hx hb dJ3_checkIndex_8e157_6 (by decide) (fun hc2 => ?_) (fun hc2 => ?_)
    · have h := ifp hc2 h
      refine lv_iload_n hx hb dJ3_checkIndex_8e157_16 rfl (lv_at hl 0 rfl) ?_
      have h := Option.some.inj h
      subst h
      exact retI K hw rfl dJ3_checkIndex_8e157_17
    · have h := ifn hc2 h
      exact w_ciF_J9 K (lv_sub hl [0, 1, 2] rfl) hw h
set_option maxHeartbeats 4000000 in
set_option maxRecDepth 100000 in
theorem c_J0_checkIndex (l : Launch) (G : GP) (v0 v1 : Int32) {o : Int32} (h : f_ciN v0 v1 = some o) : CtV l yJ0_checkIndex_df160 cJ0_checkIndex_df160 2 ({ frames := 1, cells := 0, slots := 0, locals := 22 } : Room) G ([] : va_W) [.int v0, .int v1] ([] : va_W) := by
  refine CtV.of (by decide) (Nat.le_of_ble_eq_true rfl) ?_
  intro p e s m below meth c A ls K hl hw
  have hl : lv_has ls 2 [(0, .int v0), (1, .int v1)] := hl
  generalize ([.int v0, .int v1] : List Value).toArray = args at K ⊢
  have hx := K.1.1
  have hb := K.1.2.1
  refine lv_iload_n hx hb dJ0_checkIndex_df160_0 rfl (lv_at hl 0 rfl) ?_
  refine lv_iload_n hx hb dJ0_checkIndex_df160_1 rfl (lv_at hl 1 rfl) ?_
  rcases K.2.2.2.2.2.2.2.2.1 with hz | ⟨t, hz⟩
  · refine va_gets hx hb hz hw.2 K.1.2.2.2.1 (K.1.2.2.2.2 _ fl_J0_1053) (fun _ h => h) dJ0_checkIndex_df160_2 ?_
    refine callSI K (c_ciN l G v0 v1 h) mt_yJ3_checkIndex_8e157 lk_J0_1059 ⟨rfl, rfl, Nat.le_of_ble_eq_true rfl, Nat.le_of_ble_eq_true rfl⟩ hw dJ0_checkIndex_df160_5 hl.1 ⟨Nat.zero_le _, Nat.zero_le _⟩ (wa := ([] : va_W)) (wb := ([] : va_W)) rfl (rest := []) rfl rfl (Nat.le_of_ble_eq_true rfl) (fun H locs hw => ?_)
    refine lv_pop hx hb dJ0_checkIndex_df160_8 rfl ?_
    exact retV K hw dJ0_checkIndex_df160_9
  · have h2 : f_ciF v0 v1 = some o := h
    refine va_gets hx hb hz hw.2 K.1.2.2.2.1 (K.1.2.2.2.2 _ fl_J0_1053) (fun _ h => h) dJ0_checkIndex_df160_2 ?_
    refine callSI K (c_ciF l G t v0 v1 h2) mt_yJ3_checkIndex_8e157 lk_J0_1059 ⟨rfl, rfl, Nat.le_of_ble_eq_true rfl, Nat.le_of_ble_eq_true rfl⟩ hw dJ0_checkIndex_df160_5 hl.1 ⟨Nat.zero_le _, Nat.zero_le _⟩ (wa := ([] : va_W)) (wb := ([] : va_W)) rfl (rest := []) rfl rfl (Nat.le_of_ble_eq_true rfl) (fun H locs hw => ?_)
    refine lv_pop hx hb dJ0_checkIndex_df160_8 rfl ?_
    exact retV K hw dJ0_checkIndex_df160_9
set_option maxHeartbeats 4000000 in
set_option maxRecDepth 100000 in
theorem c_coder (l : Launch) (G : GP) (j : Nat) {o : Int32} (h : f_coder j = some o) : CtI l yJ0_coder_7d493 cJ0_coder_7d493 1 (some .byte) ({ frames := 0, cells := 0, slots := 0, locals := 0 } : Room) G ([] : va_W) [.ref (G.2.2.2.1 j)] o ([] : va_W) := by
  refine CtI.of (by decide) (Nat.le_of_ble_eq_true rfl) ?_
  intro p e s m below meth c A ls K hl hw
  have hl : lv_has ls 1 [(0, .ref (G.2.2.2.1 j))] := hl
  generalize ([.ref (G.2.2.2.1 j)] : List Value).toArray = args at K ⊢
  have hx := K.1.1
  have hb := K.1.2.1
  unfold f_coder at h
  refine va_gets hx hb K.2.2.2.2.2.2.2.1 hw.2 K.1.2.2.2.1 (K.1.2.2.2.2 _ fl_J0_38) (fun _ h => h) dJ0_coder_7d493_0 ?_
  refine lv_if_eq (tgt := 13) hx hb dJ0_coder_7d493_3 (by decide) (fun hc2 => ?_) (fun hc2 => ?_)
  · have h := ifp hc2 h
    refine lv_iconst (v := (1 : Int32)) hx hb dJ0_coder_7d493_13 (by decide) ?_
    have h := Option.some.inj h
    subst h
    exact retZ K hw rfl rfl dJ0_coder_7d493_14
  · have h := ifn hc2 h
    refine lv_aload_n hx hb dJ0_coder_7d493_6 rfl (lv_at hl 0 rfl) ?_
    obtain ⟨hg3, h⟩ := gd h
    refine vk_getf hx hb ((K.2.2.2.2.2.2.2.2.2.1.1 j (s9_l hg3)).2.1) hw.2 K.1.2.2.2.1 (K.1.2.2.2.2 _ fl_J0_15) (fun _ h => h) dJ0_coder_7d493_7 ?_
    refine lv_goto (tgt := 14) hx hb dJ0_coder_7d493_10 (by decide) ?_
    have h := Option.some.inj h
    subst h
    exact retZ K hw rfl rfl dJ0_coder_7d493_14
set_option maxHeartbeats 4000000 in
set_option maxRecDepth 100000 in
theorem c_isLatin1 (l : Launch) (G : GP) (j : Nat) {o : Int32} (h : f_isLatin1 j = some o) : CtI l yJ0_isLatin1_aae02 cJ0_isLatin1_aae02 1 (some .boolean) ({ frames := 0, cells := 0, slots := 0, locals := 0 } : Room) G ([] : va_W) [.ref (G.2.2.2.1 j)] o ([] : va_W) := by
  refine CtI.of (by decide) (Nat.le_of_ble_eq_true rfl) ?_
  intro p e s m below meth c A ls K hl hw
  have hl : lv_has ls 1 [(0, .ref (G.2.2.2.1 j))] := hl
  generalize ([.ref (G.2.2.2.1 j)] : List Value).toArray = args at K ⊢
  have hx := K.1.1
  have hb := K.1.2.1
  unfold f_isLatin1 at h
  refine va_gets hx hb K.2.2.2.2.2.2.2.1 hw.2 K.1.2.2.2.1 (K.1.2.2.2.2 _ fl_J0_38) (fun _ h => h) dJ0_isLatin1_aae02_0 ?_
  refine lv_if_eq (tgt := 17) hx hb dJ0_isLatin1_aae02_3 (by decide) (fun hc2 => ?_) (fun hc2 => ?_)
  · have h := ifp hc2 h
    refine lv_iconst (v := (0 : Int32)) hx hb dJ0_isLatin1_aae02_17 (by decide) ?_
    have h := Option.some.inj h
    subst h
    exact retZ K hw rfl rfl dJ0_isLatin1_aae02_18
  · have h := ifn hc2 h
    refine lv_aload_n hx hb dJ0_isLatin1_aae02_6 rfl (lv_at hl 0 rfl) ?_
    obtain ⟨hg3, h⟩ := gd h
    refine vk_getf hx hb ((K.2.2.2.2.2.2.2.2.2.1.1 j (s9_l hg3)).2.1) hw.2 K.1.2.2.2.1 (K.1.2.2.2.2 _ fl_J0_15) (fun _ h => h) dJ0_isLatin1_aae02_7 ?_
    refine lv_if_ne (tgt := 17) hx hb dJ0_isLatin1_aae02_10 (by decide) (fun hc4 => ?_) (fun hc4 => ?_)
    · have h := ifn hc4 h
      refine lv_iconst (v := (0 : Int32)) hx hb dJ0_isLatin1_aae02_17 (by decide) ?_
      have h := Option.some.inj h
      subst h
      exact retZ K hw rfl rfl dJ0_isLatin1_aae02_18
    · have h := ifp hc4 h
      refine lv_iconst (v := (1 : Int32)) hx hb dJ0_isLatin1_aae02_13 (by decide) ?_
      refine lv_goto (tgt := 18) hx hb dJ0_isLatin1_aae02_14 (by decide) ?_
      have h := Option.some.inj h
      subst h
      exact retZ K hw rfl rfl dJ0_isLatin1_aae02_18
set_option maxHeartbeats 4000000 in
set_option maxRecDepth 100000 in
theorem c_strlen (l : Launch) (G : GP) (j : Nat) {o : Int32} (h : f_strlen j = some o) : CtI l yJ0_length_8abf5 cJ0_length_8abf5 1 (some .int) ({ frames := 1, cells := 0, slots := 0, locals := 20 } : Room) G ([] : va_W) [.ref (G.2.2.2.1 j)] o ([] : va_W) := by
  refine CtI.of (by decide) (Nat.le_of_ble_eq_true rfl) ?_
  intro p e s m below meth c A ls K hl hw
  have hl : lv_has ls 1 [(0, .ref (G.2.2.2.1 j))] := hl
  generalize ([.ref (G.2.2.2.1 j)] : List Value).toArray = args at K ⊢
  have hx := K.1.1
  have hb := K.1.2.1
  unfold f_strlen at h
  refine lv_aload_n hx hb dJ0_length_8abf5_0 rfl (lv_at hl 0 rfl) ?_
  obtain ⟨hg5, h⟩ := gd h
  refine vk_getf hx hb ((K.2.2.2.2.2.2.2.2.2.1.1 j (s9_l hg5)).2.2.1) hw.2 K.1.2.2.2.1 (K.1.2.2.2.2 _ fl_J0_9) (fun _ h => h) dJ0_length_8abf5_1 ?_
  obtain ⟨hg6, h⟩ := gd h
  refine va_tlen hx hb ((K.2.2.2.2.2.2.2.2.2.1.1 j (s9_l hg6)).2.2.2) hw.2 (v := (Int32.ofNat (sLen.getD j 0))) rfl dJ0_length_8abf5_4 ?_
  refine lv_aload_n hx hb dJ0_length_8abf5_5 rfl (lv_at hl 0 rfl) ?_
  obtain ⟨z7, hz7, h⟩ := bd h
  obtain ⟨hg8, h⟩ := gd h
  refine callXI K (s9_l hg8) (c_coder l G j hz7) mt_yJ0_coder_7d493 lk_J0_335 ⟨rfl, rfl, Nat.le_of_ble_eq_true rfl, Nat.le_of_ble_eq_true rfl⟩ hw dJ0_length_8abf5_6 hl.1 ⟨Nat.zero_le _, Nat.zero_le _⟩ (wa := (([] : va_W).take 0)) (wb := (([] : va_W).drop 0)) rfl rfl (rest := [.int (Int32.ofNat (sLen.getD j 0))]) rfl rfl (Nat.le_of_ble_eq_true rfl) (fun H locs hw => ?_)
  have hw : Wx G A ([] : va_W) s H locs := hw
  refine lv_ishr hx hb dJ0_length_8abf5_9 ?_
  have h := Option.some.inj h
  subst h
  exact retI K hw rfl dJ0_length_8abf5_10
set_option maxHeartbeats 4000000 in
set_option maxRecDepth 100000 in
theorem c_isEmpty (l : Launch) (G : GP) (j : Nat) {o : Int32} (h : f_isEmpty j = some o) : CtI l yJ0_isEmpty_aae02 cJ0_isEmpty_aae02 1 (some .boolean) ({ frames := 0, cells := 0, slots := 0, locals := 0 } : Room) G ([] : va_W) [.ref (G.2.2.2.1 j)] o ([] : va_W) := by
  refine CtI.of (by decide) (Nat.le_of_ble_eq_true rfl) ?_
  intro p e s m below meth c A ls K hl hw
  have hl : lv_has ls 1 [(0, .ref (G.2.2.2.1 j))] := hl
  generalize ([.ref (G.2.2.2.1 j)] : List Value).toArray = args at K ⊢
  have hx := K.1.1
  have hb := K.1.2.1
  unfold f_isEmpty at h
  refine lv_aload_n hx hb dJ0_isEmpty_aae02_0 rfl (lv_at hl 0 rfl) ?_
  obtain ⟨hg3, h⟩ := gd h
  refine vk_getf hx hb ((K.2.2.2.2.2.2.2.2.2.1.1 j (s9_l hg3)).2.2.1) hw.2 K.1.2.2.2.1 (K.1.2.2.2.2 _ fl_J0_9) (fun _ h => h) dJ0_isEmpty_aae02_1 ?_
  obtain ⟨hg4, h⟩ := gd h
  refine va_tlen hx hb ((K.2.2.2.2.2.2.2.2.2.1.1 j (s9_l hg4)).2.2.2) hw.2 (v := (Int32.ofNat (sLen.getD j 0))) rfl dJ0_isEmpty_aae02_4 ?_
  refine lv_if_ne (tgt := 12) hx hb dJ0_isEmpty_aae02_5 (by decide) (fun hc5 => ?_) (fun hc5 => ?_)
  · have h := ifn hc5 h
    refine lv_iconst (v := (0 : Int32)) hx hb dJ0_isEmpty_aae02_12 (by decide) ?_
    have h := Option.some.inj h
    subst h
    exact retZ K hw rfl rfl dJ0_isEmpty_aae02_13
  · have h := ifp hc5 h
    refine lv_iconst (v := (1 : Int32)) hx hb dJ0_isEmpty_aae02_8 (by decide) ?_
    refine lv_goto (tgt := 13) hx hb dJ0_isEmpty_aae02_9 (by decide) ?_
    have h := Option.some.inj h
    subst h
    exact retZ K hw rfl rfl dJ0_isEmpty_aae02_13
set_option maxHeartbeats 4000000 in
set_option maxRecDepth 100000 in
theorem c_charAt1 (l : Launch) (G : GP) (j : Nat) (v1 : Int32) {o : Int32} (h : f_charAt1 v1 j = some o) : CtI l yJ1_charAt_3b067 cJ1_charAt_3b067 2 (some .char) ({ frames := 2, cells := 0, slots := 0, locals := 43 } : Room) G ([] : va_W) [.ref (G.2.2.2.2 j), .int v1] o ([] : va_W) := by
  refine CtI.of (by decide) (Nat.le_of_ble_eq_true rfl) ?_
  intro p e s m below meth c A ls K hl hw
  have hl : lv_has ls 2 [(0, .ref (G.2.2.2.2 j)), (1, .int v1)] := hl
  generalize ([.ref (G.2.2.2.2 j), .int v1] : List Value).toArray = args at K ⊢
  have hx := K.1.1
  have hb := K.1.2.1
  unfold f_charAt1 at h
  refine lv_iload_n hx hb dJ1_charAt_3b067_0 rfl (lv_at hl 1 rfl) ?_
  refine lv_aload_n hx hb dJ1_charAt_3b067_1 rfl (lv_at hl 0 rfl) ?_
  obtain ⟨hg5, h⟩ := gd h
  refine va_tlen hx hb ((K.2.2.2.2.2.2.2.2.2.1.1 j (s9_l hg5)).2.2.2) hw.2 (v := (Int32.ofNat (sLen.getD j 0))) rfl dJ1_charAt_3b067_2 ?_
  obtain ⟨z6, hz6, h⟩ := bd h
  refine callSV K (c_J0_checkIndex l G v1 (Int32.ofNat (sLen.getD j 0)) hz6) mt_yJ0_checkIndex_df160 lk_J1_9 ⟨rfl, rfl, Nat.le_of_ble_eq_true rfl, Nat.le_of_ble_eq_true rfl⟩ hw dJ1_charAt_3b067_3 hl.1 ⟨Nat.zero_le _, Nat.zero_le _⟩ (wa := (([] : va_W).take 0)) (wb := (([] : va_W).drop 0)) rfl (rest := []) rfl rfl (Nat.le_of_ble_eq_true rfl) (fun H locs hw => ?_)
  have hw : Wx G A ([] : va_W) s H locs := hw
  refine lv_aload_n hx hb dJ1_charAt_3b067_6 rfl (lv_at hl 0 rfl) ?_
  refine lv_iload_n hx hb dJ1_charAt_3b067_7 rfl (lv_at hl 1 rfl) ?_
  obtain ⟨hg7, h⟩ := gd h
  obtain ⟨hg8, h⟩ := gd h
  refine va_tb hx hb ((K.2.2.2.2.2.2.2.2.2.1.1 j (s9_l hg7)).2.2.2) hw.2 (inB_in hg8) (v := .int (sB j v1.toNatClampNeg)) rfl dJ1_charAt_3b067_8 ?_
  refine lv_sipush (v := (255 : Int32)) hx hb dJ1_charAt_3b067_9 (by decide) ?_
  refine lv_iand hx hb dJ1_charAt_3b067_12 ?_
  refine lv_i2c (v := (((sB j v1.toNatClampNeg) &&& (255 : Int32)).toUInt32 % 65536).toInt32) hx hb dJ1_charAt_3b067_13 rfl ?_
  obtain ⟨hg9, h⟩ := gd h
  have h := Option.some.inj h
  subst h
  exact retZ K hw (isC_n hg9) rfl dJ1_charAt_3b067_14
set_option maxHeartbeats 4000000 in
set_option maxRecDepth 100000 in
theorem c_charAt (l : Launch) (G : GP) (j : Nat) (v1 : Int32) {o : Int32} (h : f_charAt v1 j = some o) : CtI l yJ0_charAt_5068e cJ0_charAt_5068e 2 (some .char) ({ frames := 3, cells := 0, slots := 0, locals := 64 } : Room) G ([] : va_W) [.ref (G.2.2.2.1 j), .int v1] o ([] : va_W) := by
  refine CtI.of (by decide) (Nat.le_of_ble_eq_true rfl) ?_
  intro p e s m below meth c A ls K hl hw
  have hl : lv_has ls 2 [(0, .ref (G.2.2.2.1 j)), (1, .int v1)] := hl
  generalize ([.ref (G.2.2.2.1 j), .int v1] : List Value).toArray = args at K ⊢
  have hx := K.1.1
  have hb := K.1.2.1
  unfold f_charAt at h
  refine lv_aload_n hx hb dJ0_charAt_5068e_0 rfl (lv_at hl 0 rfl) ?_
  obtain ⟨z6, hz6, h⟩ := bd h
  obtain ⟨hg7, h⟩ := gd h
  refine callXI K (s9_l hg7) (c_isLatin1 l G j hz6) mt_yJ0_isLatin1_aae02 lk_J0_492 ⟨rfl, rfl, Nat.le_of_ble_eq_true rfl, Nat.le_of_ble_eq_true rfl⟩ hw dJ0_charAt_5068e_1 hl.1 ⟨Nat.zero_le _, Nat.zero_le _⟩ (wa := (([] : va_W).take 0)) (wb := (([] : va_W).drop 0)) rfl rfl (rest := []) rfl rfl (Nat.le_of_ble_eq_true rfl) (fun H locs hw => ?_)
  have hw : Wx G A ([] : va_W) s H locs := hw
  refine lv_if_eq (tgt := 16) hx hb dJ0_charAt_5068e_4 (by decide) (fun hc8 => ?_) (fun hc8 => ?_)
  · have h := ifp hc8 h
    refine lv_aload_n hx hb dJ0_charAt_5068e_16 rfl (lv_at hl 0 rfl) ?_
    obtain ⟨hg9, h⟩ := gd h
    refine vk_getf hx hb ((K.2.2.2.2.2.2.2.2.2.1.1 j (s9_l hg9)).2.2.1) hw.2 K.1.2.2.2.1 (K.1.2.2.2.2 _ fl_J0_9) (fun _ h => h) dJ0_charAt_5068e_17 ?_
    refine lv_iload_n hx hb dJ0_charAt_5068e_20 rfl (lv_at hl 1 rfl) ?_
    cases h
  · have h := ifn hc8 h
    refine lv_aload_n hx hb dJ0_charAt_5068e_7 rfl (lv_at hl 0 rfl) ?_
    obtain ⟨hg10, h⟩ := gd h
    refine vk_getf hx hb ((K.2.2.2.2.2.2.2.2.2.1.1 j (s9_l hg10)).2.2.1) hw.2 K.1.2.2.2.1 (K.1.2.2.2.2 _ fl_J0_9) (fun _ h => h) dJ0_charAt_5068e_8 ?_
    refine lv_iload_n hx hb dJ0_charAt_5068e_11 rfl (lv_at hl 1 rfl) ?_
    obtain ⟨z11, hz11, h⟩ := bd h
    refine callSI K (c_charAt1 l G j v1 hz11) mt_yJ1_charAt_3b067 lk_J0_495 ⟨rfl, rfl, Nat.le_of_ble_eq_true rfl, Nat.le_of_ble_eq_true rfl⟩ hw dJ0_charAt_5068e_12 hl.1 ⟨Nat.zero_le _, Nat.zero_le _⟩ (wa := (([] : va_W).take 0)) (wb := (([] : va_W).drop 0)) rfl (rest := []) rfl rfl (Nat.le_of_ble_eq_true rfl) (fun H locs hw => ?_)
    have hw : Wx G A ([] : va_W) s H locs := hw
    obtain ⟨hg12, h⟩ := gd h
    have h := Option.some.inj h
    subst h
    exact retZ K hw (isC_n hg12) rfl dJ0_charAt_5068e_15
set_option maxHeartbeats 4000000 in
set_option maxRecDepth 100000 in
theorem c_canEncode (l : Launch) (G : GP) (v0 : Int32) {o : Int32} (h : f_canEncode v0 = o) : CtI l yJ1_canEncode_9a6ad cJ1_canEncode_9a6ad 1 (some .boolean) ({ frames := 0, cells := 0, slots := 0, locals := 0 } : Room) G ([] : va_W) [.int v0] o ([] : va_W) := by
  refine CtI.of (by decide) (Nat.le_of_ble_eq_true rfl) ?_
  intro p e s m below meth c A ls K hl hw
  have hl : lv_has ls 1 [(0, .int v0)] := hl
  generalize ([.int v0] : List Value).toArray = args at K ⊢
  have hx := K.1.1
  have hb := K.1.2.1
  unfold f_canEncode at h
  refine lv_iload_n hx hb dJ1_canEncode_9a6ad_0 rfl (lv_at hl 0 rfl) ?_
  refine lv_if_lt (tgt := 15) hx hb dJ1_canEncode_9a6ad_1 (by decide) (fun hc1 => ?_) (fun hc1 => ?_)
  · have h := ifp hc1 h
    refine lv_iconst (v := (0 : Int32)) hx hb dJ1_canEncode_9a6ad_15 (by decide) ?_
    subst h
    exact retZ K hw rfl rfl dJ1_canEncode_9a6ad_16
  · have h := ifn hc1 h
    refine lv_iload_n hx hb dJ1_canEncode_9a6ad_4 rfl (lv_at hl 0 rfl) ?_
    refine lv_sipush (v := (255 : Int32)) hx hb dJ1_canEncode_9a6ad_5 (by decide) ?_
    refine lv_icmp_gt (tgt := 15) hx hb dJ1_canEncode_9a6ad_8 (by decide) (fun hc2 => ?_) (fun hc2 => ?_)
    · have h := ifp hc2 h
      refine lv_iconst (v := (0 : Int32)) hx hb dJ1_canEncode_9a6ad_15 (by decide) ?_
      subst h
      exact retZ K hw rfl rfl dJ1_canEncode_9a6ad_16
    · have h := ifn hc2 h
      refine lv_iconst (v := (1 : Int32)) hx hb dJ1_canEncode_9a6ad_11 (by decide) ?_
      refine lv_goto (tgt := 16) hx hb dJ1_canEncode_9a6ad_12 (by decide) ?_
      subst h
      exact retZ K hw rfl rfl dJ1_canEncode_9a6ad_16
set_option maxHeartbeats 4000000 in
set_option maxRecDepth 100000 in
theorem b_indexOfChar_L7 {l : Launch} {G : GP} {j : Nat} {p : Program} {e : Env} {s : State} {m : MethodId} {args : Array Value} {below : List Frame} {meth : Method} {c : Code} {A : Nat → Prop}  {v3 : Int32} {v4 : Int32} {v5 : Int32} {o : Int32} (K : Cx p s m args meth c A G cJ1_indexOfChar_4cfef 6 RJ1 (some .int)) {H : Heap} {locs : List Loc} {ls : Array Slot} (hl : lv_has ls 6 [(0, .ref (G.2.2.2.2 j)), (3, .int v3), (4, .int v4), (5, .int v5)]) (hw : Wx G A ([] : va_W) s H locs) {y : (Int32) ⊕ (Int32)} (h : f_indexOfChar_L7 v3 v4 j v5 = some y) (hk7 : ∀ (b : Int32) (H : Heap) (locs : List Loc) (ls : Array Slot), y = .inl b → lv_has ls 6 [(0, .ref (G.2.2.2.2 j)), (3, .int v3), (4, .int v4), (5, .int b)] → Wx G A ([] : va_W) s H locs → W p l e ({ frames := 0, cells := 0, slots := 0, locals := 0 } : Room) s m args below meth c H locs 0 0 (MQ below (QI G A ([] : va_W) o) args s 0 0 A) (F0 m 7 ls [])) (hr : ∀ r : Int32, y = .inr r → r = o) : W p l e ({ frames := 0, cells := 0, slots := 0, locals := 0 } : Room) s m args below meth c H locs 0 0 (MQ below (QI G A ([] : va_W) o) args s 0 0 A) (F0 m 7 ls []) := by
  have hx := K.1.1
  have hb := K.1.2.1
  unfold f_indexOfChar_L7 at h
  refine lv_iload hx hb dJ1_indexOfChar_4cfef_7 (lv_at hl 3 rfl) ?_
  refine lv_iload_n hx hb dJ1_indexOfChar_4cfef_9 rfl (lv_at hl 1 rfl) ?_
  refine lv_icmp_ge (tgt := 31) hx hb dJ1_indexOfChar_4cfef_10 (by decide) (fun hc6 => ?_) (fun hc6 => ?_)
  · have h := ifp hc6 h
    refine lv_iconst (v := (-1 : Int32)) hx hb dJ1_indexOfChar_4cfef_31 (by decide) ?_
    have ho := hr _ (Option.some.inj h).symm
    subst ho
    exact retI K hw rfl dJ1_indexOfChar_4cfef_32
  · have h := ifn hc6 h
    refine lv_aload_n hx hb dJ1_indexOfChar_4cfef_13 rfl (lv_at hl 0 rfl) ?_
    refine lv_iload hx hb dJ1_indexOfChar_4cfef_14 (lv_at hl 3 rfl) ?_
    obtain ⟨hg7, h⟩ := gd h
    obtain ⟨hg8, h⟩ := gd h
    refine va_tb hx hb ((K.2.2.2.2.2.2.2.2.2.1.1 j (s9_l hg7)).2.2.2) hw.2 (inB_in hg8) (v := .int (sB j v5.toNatClampNeg)) rfl dJ1_indexOfChar_4cfef_16 ?_
    refine lv_iload hx hb dJ1_indexOfChar_4cfef_17 (lv_at hl 2 rfl) ?_
    refine lv_icmp_ne (tgt := 25) hx hb dJ1_indexOfChar_4cfef_19 (by decide) (fun hc9 => ?_) (fun hc9 => ?_)
    · have h := ifn hc9 h
      refine lv_iinc (v := (v5 + (1 : Int32))) (lv' := [(5, .int (v5 + (1 : Int32))), (0, .ref (G.2.2.2.2 j)), (3, .int v3), (4, .int v4)]) hx hb dJ1_indexOfChar_4cfef_25 hl (k := 3) rfl rfl (by decide) rfl (fun ls hl => ?_)
      refine lv_goto (tgt := 7) hx hb dJ1_indexOfChar_4cfef_28 (by decide) ?_
      exact hk7 (v5 + (1 : Int32)) _ _ _ (Option.some.inj h).symm (lv_sub hl [1, 2, 3, 0] rfl) hw
    · have h := ifp hc9 h
      refine lv_iload hx hb dJ1_indexOfChar_4cfef_22 (lv_at hl 3 rfl) ?_
      have ho := hr _ (Option.some.inj h).symm
      subst ho
      exact retI K hw rfl dJ1_indexOfChar_4cfef_24
set_option maxHeartbeats 4000000 in
set_option maxRecDepth 100000 in
theorem w_indexOfChar_L7 {l : Launch} {G : GP} {j : Nat} {p : Program} {e : Env} {s : State} {m : MethodId} {args : Array Value} {below : List Frame} {meth : Method} {c : Code} {A : Nat → Prop} {v3 : Int32} {v4 : Int32} {o : Int32} (K : Cx p s m args meth c A G cJ1_indexOfChar_4cfef 6 RJ1 (some .int)) : ∀ (fu : Nat) (v5 : Int32) (H : Heap) (locs : List Loc) (ls : Array Slot), lv_has ls 6 [(0, .ref (G.2.2.2.2 j)), (3, .int v3), (4, .int v4), (5, .int v5)] → Wx G A ([] : va_W) s H locs → ∀ (x : Int32), lp (fun z : Int32 => f_indexOfChar_L7 v3 v4 j (z)) fu v5 = some x → (x = o) → W p l e ({ frames := 0, cells := 0, slots := 0, locals := 0 } : Room) s m args below meth c H locs 0 0 (MQ below (QI G A ([] : va_W) o) args s 0 0 A) (F0 m 7 ls []) := by
  intro fu
  induction fu with
  | zero => intro v5 H locs ls hl hw x h; exact absurd (show none = some x from h) (by simp)
  | succ fu ih =>
    intro v5 H locs ls hl hw x h hr
    obtain ⟨y, hy, hc⟩ := lp_s h
    exact b_indexOfChar_L7 K hl hw hy (fun b H locs ls hE hl hw => ih b H locs ls hl hw _ (lp_b hc hE) hr) (fun r hE => (lp_x hc hE).symm.trans hr)
set_option maxHeartbeats 4000000 in
set_option maxRecDepth 100000 in
theorem c_indexOfChar (l : Launch) (G : GP) (j : Nat) (v1 : Int32) (v2 : Int32) (v3 : Int32) {o : Int32} (h : f_indexOfChar v1 v2 v3 j = some o) : CtI l yJ1_indexOfChar_4cfef cJ1_indexOfChar_4cfef 6 (some .int) ({ frames := 0, cells := 0, slots := 0, locals := 0 } : Room) G ([] : va_W) [.ref (G.2.2.2.2 j), .int v1, .int v2, .int v3] o ([] : va_W) := by
  refine CtI.of (by decide) (Nat.le_of_ble_eq_true rfl) ?_
  intro p e s m below meth c A ls K hl hw
  have hl : lv_has ls 6 [(0, .ref (G.2.2.2.2 j)), (1, .int v1), (2, .int v2), (3, .int v3)] := hl
  generalize ([.ref (G.2.2.2.2 j), .int v1, .int v2, .int v3] : List Value).toArray = args at K ⊢
  have hx := K.1.1
  have hb := K.1.2.1
  unfold f_indexOfChar at h
  refine lv_iload_n hx hb dJ1_indexOfChar_4cfef_0 rfl (lv_at hl 1 rfl) ?_
  refine lv_i2b (v := v1.toInt8.toInt32) hx hb dJ1_indexOfChar_4cfef_1 rfl ?_
  refine lv_istore (lv' := [(4, .int (v1.toInt8.toInt32)), (0, .ref (G.2.2.2.2 j)), (1, .int v1), (2, .int v2), (3, .int v3)]) hx hb dJ1_indexOfChar_4cfef_2 hl (by decide) rfl (fun ls hl => ?_)
  refine lv_iload_n hx hb dJ1_indexOfChar_4cfef_4 rfl (lv_at hl 3 rfl) ?_
  refine lv_istore (lv' := [(5, .int v2), (4, .int (v1.toInt8.toInt32)), (0, .ref (G.2.2.2.2 j)), (1, .int v1), (2, .int v2), (3, .int v3)]) hx hb dJ1_indexOfChar_4cfef_5 hl (by decide) rfl (fun ls hl => ?_)
  exact w_indexOfChar_L7 K 1000 v2 _ _ _ (lv_sub hl [2, 5, 1, 0] rfl) hw _ h rfl
set_option maxHeartbeats 4000000 in
set_option maxRecDepth 100000 in
theorem c_indexOf1 (l : Launch) (G : GP) (j : Nat) (v1 : Int32) (v2 : Int32) (v3 : Int32) {o : Int32} (h : f_indexOf1 v1 v2 v3 j = some o) : CtI l yJ1_indexOf_4cfef cJ1_indexOf_4cfef 4 (some .int) ({ frames := 1, cells := 0, slots := 0, locals := 25 } : Room) G ([] : va_W) [.ref (G.2.2.2.2 j), .int v1, .int v2, .int v3] o ([] : va_W) := by
  refine CtI.of (by decide) (Nat.le_of_ble_eq_true rfl) ?_
  intro p e s m below meth c A ls K hl hw
  have hl : lv_has ls 4 [(0, .ref (G.2.2.2.2 j)), (1, .int v1), (2, .int v2), (3, .int v3)] := hl
  generalize ([.ref (G.2.2.2.2 j), .int v1, .int v2, .int v3] : List Value).toArray = args at K ⊢
  have hx := K.1.1
  have hb := K.1.2.1
  unfold f_indexOf1 at h
  refine lv_iload_n hx hb dJ1_indexOf_4cfef_0 rfl (lv_at hl 1 rfl) ?_
  refine callSI K (c_canEncode l G v1 rfl) mt_yJ1_canEncode_9a6ad lk_J1_88 ⟨rfl, rfl, Nat.le_of_ble_eq_true rfl, Nat.le_of_ble_eq_true rfl⟩ hw dJ1_indexOf_4cfef_1 hl.1 ⟨Nat.zero_le _, Nat.zero_le _⟩ (wa := (([] : va_W).take 0)) (wb := (([] : va_W).drop 0)) rfl (rest := []) rfl rfl (Nat.le_of_ble_eq_true rfl) (fun H locs hw => ?_)
  have hw : Wx G A ([] : va_W) s H locs := hw
  refine lv_if_ne (tgt := 9) hx hb dJ1_indexOf_4cfef_4 (by decide) (fun hc3 => ?_) (fun hc3 => ?_)
  · have h := ifn hc3 h
    refine lv_iload_n hx hb dJ1_indexOf_4cfef_9 rfl (lv_at hl 2 rfl) ?_
    refine lv_iconst (v := (0 : Int32)) hx hb dJ1_indexOf_4cfef_10 (by decide) ?_
    refine va_mmax hx hb (K.1.2.2.1.trans hl.1.symm) K.1.2.2.2.1 (K.1.2.2.2.2 _ lk_J1_92) (K.1.2.2.2.2 _ st_Mathmax) (K.1.2.2.2.2 _ ini_J9) (K.1.2.2.2.2 _ cd_Mathmax) (Nat.le_of_ble_eq_true rfl) (Nat.le_of_ble_eq_true rfl) (Nat.zero_le _) (Nat.zero_le _) dJ1_indexOf_4cfef_11 ?_
    refine lv_istore_n (lv' := [(2, .int (if v2 < (0 : Int32) then (0 : Int32) else v2)), (0, .ref (G.2.2.2.2 j)), (1, .int v1), (3, .int v3)]) hx hb dJ1_indexOf_4cfef_14 rfl hl (by decide) rfl (fun ls hl => ?_)
    refine lv_iload_n hx hb dJ1_indexOf_4cfef_15 rfl (lv_at hl 3 rfl) ?_
    refine lv_aload_n hx hb dJ1_indexOf_4cfef_16 rfl (lv_at hl 1 rfl) ?_
    obtain ⟨hg4, h⟩ := gd h
    refine va_tlen hx hb ((K.2.2.2.2.2.2.2.2.2.1.1 j (s9_l hg4)).2.2.2) hw.2 (v := (Int32.ofNat (sLen.getD j 0))) rfl dJ1_indexOf_4cfef_17 ?_
    refine va_mmin hx hb (K.1.2.2.1.trans hl.1.symm) K.1.2.2.2.1 (K.1.2.2.2.2 _ lk_J1_38) (K.1.2.2.2.2 _ st_Mathmin) (K.1.2.2.2.2 _ ini_J9) (K.1.2.2.2.2 _ cd_Mathmin) (Nat.le_of_ble_eq_true rfl) (Nat.le_of_ble_eq_true rfl) (Nat.zero_le _) (Nat.zero_le _) dJ1_indexOf_4cfef_18 ?_
    refine lv_istore_n (lv' := [(3, .int (if (Int32.ofNat (sLen.getD j 0)) < v3 then (Int32.ofNat (sLen.getD j 0)) else v3)), (2, .int (if v2 < (0 : Int32) then (0 : Int32) else v2)), (0, .ref (G.2.2.2.2 j)), (1, .int v1)]) hx hb dJ1_indexOf_4cfef_21 rfl hl (by decide) rfl (fun ls hl => ?_)
    refine lv_iload_n hx hb dJ1_indexOf_4cfef_22 rfl (lv_at hl 1 rfl) ?_
    refine lv_iload_n hx hb dJ1_indexOf_4cfef_23 rfl (lv_at hl 0 rfl) ?_
    refine lv_icmp_lt (tgt := 29) hx hb dJ1_indexOf_4cfef_24 (by decide) (fun hc5 => ?_) (fun hc5 => ?_)
    · have h := ifp hc5 h
      refine lv_aload_n hx hb dJ1_indexOf_4cfef_29 rfl (lv_at hl 2 rfl) ?_
      refine lv_iload_n hx hb dJ1_indexOf_4cfef_30 rfl (lv_at hl 3 rfl) ?_
      refine lv_iload_n hx hb dJ1_indexOf_4cfef_31 rfl (lv_at hl 1 rfl) ?_
      refine lv_iload_n hx hb dJ1_indexOf_4cfef_32 rfl (lv_at hl 0 rfl) ?_
      obtain ⟨z6, hz6, h⟩ := bd h
      refine callSI K (c_indexOfChar l G j v1 (if v2 < (0 : Int32) then (0 : Int32) else v2) (if (Int32.ofNat (sLen.getD j 0)) < v3 then (Int32.ofNat (sLen.getD j 0)) else v3) hz6) mt_yJ1_indexOfChar_4cfef lk_J1_95 ⟨rfl, rfl, Nat.le_of_ble_eq_true rfl, Nat.le_of_ble_eq_true rfl⟩ hw dJ1_indexOf_4cfef_33 hl.1 ⟨Nat.zero_le _, Nat.zero_le _⟩ (wa := (([] : va_W).take 0)) (wb := (([] : va_W).drop 0)) rfl (rest := []) rfl rfl (Nat.le_of_ble_eq_true rfl) (fun H locs hw => ?_)
      have hw : Wx G A ([] : va_W) s H locs := hw
      have h := Option.some.inj h
      subst h
      exact retI K hw rfl dJ1_indexOf_4cfef_36
    · have h := ifn hc5 h
      refine lv_iconst (v := (-1 : Int32)) hx hb dJ1_indexOf_4cfef_27 (by decide) ?_
      have h := Option.some.inj h
      subst h
      exact retI K hw rfl dJ1_indexOf_4cfef_28
  · have h := ifp hc3 h
    refine lv_iconst (v := (-1 : Int32)) hx hb dJ1_indexOf_4cfef_7 (by decide) ?_
    have h := Option.some.inj h
    subst h
    exact retI K hw rfl dJ1_indexOf_4cfef_8
set_option maxHeartbeats 4000000 in
set_option maxRecDepth 100000 in
theorem c_indexOf2 (l : Launch) (G : GP) (j : Nat) (v1 : Int32) (v2 : Int32) {o : Int32} (h : f_indexOf2 v1 v2 j = some o) : CtI l yJ0_indexOf_7cf53 cJ0_indexOf_7cf53 3 (some .int) ({ frames := 2, cells := 0, slots := 0, locals := 48 } : Room) G ([] : va_W) [.ref (G.2.2.2.1 j), .int v1, .int v2] o ([] : va_W) := by
  refine CtI.of (by decide) (Nat.le_of_ble_eq_true rfl) ?_
  intro p e s m below meth c A ls K hl hw
  have hl : lv_has ls 3 [(0, .ref (G.2.2.2.1 j)), (1, .int v1), (2, .int v2)] := hl
  generalize ([.ref (G.2.2.2.1 j), .int v1, .int v2] : List Value).toArray = args at K ⊢
  have hx := K.1.1
  have hb := K.1.2.1
  unfold f_indexOf2 at h
  refine lv_aload_n hx hb dJ0_indexOf_7cf53_0 rfl (lv_at hl 0 rfl) ?_
  obtain ⟨z10, hz10, h⟩ := bd h
  obtain ⟨hg11, h⟩ := gd h
  refine callXI K (s9_l hg11) (c_isLatin1 l G j hz10) mt_yJ0_isLatin1_aae02 lk_J0_492 ⟨rfl, rfl, Nat.le_of_ble_eq_true rfl, Nat.le_of_ble_eq_true rfl⟩ hw dJ0_indexOf_7cf53_1 hl.1 ⟨Nat.zero_le _, Nat.zero_le _⟩ (wa := (([] : va_W).take 0)) (wb := (([] : va_W).drop 0)) rfl rfl (rest := []) rfl rfl (Nat.le_of_ble_eq_true rfl) (fun H locs hw => ?_)
  have hw : Wx G A ([] : va_W) s H locs := hw
  refine lv_if_eq (tgt := 23) hx hb dJ0_indexOf_7cf53_4 (by decide) (fun hc12 => ?_) (fun hc12 => ?_)
  · have h := ifp hc12 h
    refine lv_aload_n hx hb dJ0_indexOf_7cf53_23 rfl (lv_at hl 0 rfl) ?_
    obtain ⟨hg13, h⟩ := gd h
    refine vk_getf hx hb ((K.2.2.2.2.2.2.2.2.2.1.1 j (s9_l hg13)).2.2.1) hw.2 K.1.2.2.2.1 (K.1.2.2.2.2 _ fl_J0_9) (fun _ h => h) dJ0_indexOf_7cf53_24 ?_
    refine lv_iload_n hx hb dJ0_indexOf_7cf53_27 rfl (lv_at hl 1 rfl) ?_
    refine lv_iload_n hx hb dJ0_indexOf_7cf53_28 rfl (lv_at hl 2 rfl) ?_
    refine lv_aload_n hx hb dJ0_indexOf_7cf53_29 rfl (lv_at hl 0 rfl) ?_
    obtain ⟨z14, hz14, h⟩ := bd h
    obtain ⟨hg15, h⟩ := gd h
    refine callXI K (s9_l hg15) (c_strlen l G j hz14) mt_yJ0_length_8abf5 lk_J0_505 ⟨rfl, rfl, Nat.le_of_ble_eq_true rfl, Nat.le_of_ble_eq_true rfl⟩ hw dJ0_indexOf_7cf53_30 hl.1 ⟨Nat.zero_le _, Nat.zero_le _⟩ (wa := (([] : va_W).take 0)) (wb := (([] : va_W).drop 0)) rfl rfl (rest := [.int v2, .int v1, .ref (G.2.2.2.2 j)]) rfl rfl (Nat.le_of_ble_eq_true rfl) (fun H locs hw => ?_)
    have hw : Wx G A ([] : va_W) s H locs := hw
    cases h
  · have h := ifn hc12 h
    refine lv_aload_n hx hb dJ0_indexOf_7cf53_7 rfl (lv_at hl 0 rfl) ?_
    obtain ⟨hg16, h⟩ := gd h
    refine vk_getf hx hb ((K.2.2.2.2.2.2.2.2.2.1.1 j (s9_l hg16)).2.2.1) hw.2 K.1.2.2.2.1 (K.1.2.2.2.2 _ fl_J0_9) (fun _ h => h) dJ0_indexOf_7cf53_8 ?_
    refine lv_iload_n hx hb dJ0_indexOf_7cf53_11 rfl (lv_at hl 1 rfl) ?_
    refine lv_iload_n hx hb dJ0_indexOf_7cf53_12 rfl (lv_at hl 2 rfl) ?_
    refine lv_aload_n hx hb dJ0_indexOf_7cf53_13 rfl (lv_at hl 0 rfl) ?_
    obtain ⟨z17, hz17, h⟩ := bd h
    obtain ⟨hg18, h⟩ := gd h
    refine callXI K (s9_l hg18) (c_strlen l G j hz17) mt_yJ0_length_8abf5 lk_J0_505 ⟨rfl, rfl, Nat.le_of_ble_eq_true rfl, Nat.le_of_ble_eq_true rfl⟩ hw dJ0_indexOf_7cf53_14 hl.1 ⟨Nat.zero_le _, Nat.zero_le _⟩ (wa := (([] : va_W).take 0)) (wb := (([] : va_W).drop 0)) rfl rfl (rest := [.int v2, .int v1, .ref (G.2.2.2.2 j)]) rfl rfl (Nat.le_of_ble_eq_true rfl) (fun H locs hw => ?_)
    have hw : Wx G A ([] : va_W) s H locs := hw
    obtain ⟨z19, hz19, h⟩ := bd h
    refine callSI K (c_indexOf1 l G j v1 v2 z17 hz19) mt_yJ1_indexOf_4cfef lk_J0_637 ⟨rfl, rfl, Nat.le_of_ble_eq_true rfl, Nat.le_of_ble_eq_true rfl⟩ hw dJ0_indexOf_7cf53_17 hl.1 ⟨Nat.zero_le _, Nat.zero_le _⟩ (wa := (([] : va_W).take 0)) (wb := (([] : va_W).drop 0)) rfl (rest := []) rfl rfl (Nat.le_of_ble_eq_true rfl) (fun H locs hw => ?_)
    have hw : Wx G A ([] : va_W) s H locs := hw
    refine lv_goto (tgt := 36) hx hb dJ0_indexOf_7cf53_20 (by decide) ?_
    have h := Option.some.inj h
    subst h
    exact retI K hw rfl dJ0_indexOf_7cf53_36
set_option maxHeartbeats 4000000 in
set_option maxRecDepth 100000 in
theorem c_indexOf (l : Launch) (G : GP) (j : Nat) (v1 : Int32) {o : Int32} (h : f_indexOf v1 j = some o) : CtI l yJ0_indexOf_0f7a4 cJ0_indexOf_0f7a4 2 (some .int) ({ frames := 3, cells := 0, slots := 0, locals := 70 } : Room) G ([] : va_W) [.ref (G.2.2.2.1 j), .int v1] o ([] : va_W) := by
  refine CtI.of (by decide) (Nat.le_of_ble_eq_true rfl) ?_
  intro p e s m below meth c A ls K hl hw
  have hl : lv_has ls 2 [(0, .ref (G.2.2.2.1 j)), (1, .int v1)] := hl
  generalize ([.ref (G.2.2.2.1 j), .int v1] : List Value).toArray = args at K ⊢
  have hx := K.1.1
  have hb := K.1.2.1
  unfold f_indexOf at h
  refine lv_aload_n hx hb dJ0_indexOf_0f7a4_0 rfl (lv_at hl 0 rfl) ?_
  refine lv_iload_n hx hb dJ0_indexOf_0f7a4_1 rfl (lv_at hl 1 rfl) ?_
  refine lv_iconst (v := (0 : Int32)) hx hb dJ0_indexOf_0f7a4_2 (by decide) ?_
  obtain ⟨z3, hz3, h⟩ := bd h
  obtain ⟨hg4, h⟩ := gd h
  refine callXI K (s9_l hg4) (c_indexOf2 l G j v1 (0 : Int32) hz3) mt_yJ0_indexOf_7cf53 lk_J0_633 ⟨rfl, rfl, Nat.le_of_ble_eq_true rfl, Nat.le_of_ble_eq_true rfl⟩ hw dJ0_indexOf_0f7a4_3 hl.1 ⟨Nat.zero_le _, Nat.zero_le _⟩ (wa := (([] : va_W).take 0)) (wb := (([] : va_W).drop 0)) rfl rfl (rest := []) rfl rfl (Nat.le_of_ble_eq_true rfl) (fun H locs hw => ?_)
  have hw : Wx G A ([] : va_W) s H locs := hw
  have h := Option.some.inj h
  subst h
  exact retI K hw rfl dJ0_indexOf_0f7a4_6
