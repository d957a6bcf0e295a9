theorem z_set : upd (upd z0 (0 : Int32).toNatClampNeg 5) (2 : Int32).toNatClampNeg 10 = st3 5 0 10 := by
  funext i
  match i with
  | 0 => rfl
  | 1 => rfl
  | 2 => rfl
  | i + 3 => rfl
theorem w3_x (G : GP) (qa : Nat) (u : Nat → Nat) : w_X3 G qa u = xC G (fun k => match k with | 0 => qa | k + 1 => u (k + 1)) 0 0 0 z0 z0 z0 z0 z0 z0 z0 5 0 10 0 0 0 0 z0 z0 0 z0 z0 z0 z0 z0 z0 z0 5 0 10 0 0 0 0 z0 z0 z0 0 z0 z0 0 z0 z0 z0 z0 z0 z0 z0 5 0 10 0 0 0 0 z0 z0 := rfl
theorem w4_m (G : GP) (qb : Nat) (v : Nat → Nat) : w_X4 G qb v = mC G (fun k => match k with | 0 => qb | k + 1 => v (k + 1)) z0 z0 (st3 5 0 10) z0 z0 z0 z0 z0 0 0 z0 z0 z0 z0 0 0 0 z0 0 0 0 z0 z0 0 0 0 0 0 0 z0 0 0 z0 z0 0 z0 z0 := by
  unfold w_X4
  rw [z_set]
  rfl
set_option maxHeartbeats 1000000 in
theorem wp_0 (G : GP) (qx qm : Nat → Nat) : WP G qx qm (xC G qx 0 0 0 z0 z0 z0 z0 z0 z0 z0 5 0 10 0 0 0 0 z0 z0 0 z0 z0 z0 z0 z0 z0 z0 5 0 10 0 0 0 0 z0 z0 z0 0 z0 z0 0 z0 z0 z0 z0 z0 z0 z0 5 0 10 0 0 0 0 z0 z0) (mC G qm z0 z0 (st3 5 0 10) z0 z0 z0 z0 z0 0 0 z0 z0 z0 z0 0 0 0 z0 0 0 0 z0 z0 0 0 0 0 0 0 z0 0 0 z0 z0 0 z0 z0) := by
  have hz : GZ z0 z0 z0 z0 z0 z0 z0 := ⟨⟨z0_z 7, z0_z 7, z0_z 7, z0_z 7, z0_z 7⟩, z0_z 7, z0_z 8⟩
  have ht : TZ z0 z0 := ⟨z0_z 7, z0_z 7⟩
  exact fun P k => k 0 0 0 0 0 z0 z0 z0 z0 z0 z0 z0 5 0 10 0 0 0 0 z0 z0 0 0 0 z0 z0 z0 z0 z0 0 z0 z0 z0 z0 z0 z0 z0 5 0 10 0 0 0 0 z0 z0 z0 z0 z0 z0 z0 z0 z0 5 0 10 0 z0 z0 z0 z0 0 0 z0 0 0 z0 z0 0 0 0 0 0 z0 0 0 z0 z0 z0 ⟨⟨Nat.zero_le _, fun c hc => absurd hc (Nat.not_lt_zero _)⟩, ⟨5, by omega, rfl⟩, hz.1, fun i hi => absurd hi (Nat.not_lt_zero _), hz.2.1, hz.2.2, ⟨0, by omega, rfl⟩⟩ hz ht ht hz (Or.inl rfl) ⟨Nat.zero_le _, fun i hi => absurd hi (Nat.not_lt_zero _)⟩ ⟨Nat.zero_le _, fun i hi => absurd hi (Nat.not_lt_zero _)⟩ (fun _ _ => rfl) ht
set_option maxHeartbeats 4000000 in
set_option maxRecDepth 100000 in
theorem whole_start {p : Program} {e : Env} {s : State} {m : MethodId} {below : List Frame} {meth : Method} {c : Code} (l : Launch) (hflags : l.flags = flags0) {b L : Nat} {xs : Nat → Int32} (hL : L ≤ 2048) (C0 : lw_At p s m meth c b L xs) : W p l e room_1 s m #[Value.ref b] below meth c s.heap [] 0 0 (lw_Z below #[Value.ref b] s) (entryFrame m ([Value.ref b] : List Value).toArray 4) := by
  obtain ⟨hx, hb, hr, hml, hown, hts, hX, hbl, hlocks, hgv⟩ := id C0
  obtain ⟨G, hK, hE⟩ := start_G hts hgv
  have K : Cx p s m #[Value.ref b] meth c (AL s) G cL_law 4 RL ret := ⟨⟨hx, hb, hml, hown, fun w h => hts w (List.mem_filter.mp h).1⟩, hr, hlocks, fun _ h => h, hE⟩
  have hw : Wx G (AL s) [] s s.heap [] := ⟨⟨hK, fun k q h => by simp at h, ⟨fun i j p q h => by simp at h, fun k q h => by simp at h⟩⟩, va_S.rf⟩
  have hl := lv_entry ([.ref b]) (n := 4) (Nat.le_of_ble_eq_true rfl)
  rw [lg_entry_eq]
  generalize (lg_sl ([.ref b]) ++ List.replicate (4 - (lg_sl ([.ref b])).length) Slot.unset).toArray = ls at hl ⊢
  have hl : lv_has ls 4 [(0, .ref b)] := hl
  generalize s.heap = H0 at hw ⊢
  refine newX (ci := 3) (fs := [.null, .null, .null, .int 0, .null, .null, .int 0, .null]) K hw inTX3 tyX3_ok cl_L_7 inst_X3 ini_X3 rfl (by decide) (by decide) (by decide) dL_law_0 (fun qa H hw => ?_)
  have hw : Wx G (AL s) [(qa, .inr (3, [.null, .null, .null, .int 0, .null, .null, .int 0, .null]))] s H [] := hw
  refine lv_dup hx hb dL_law_3 rfl ?_
  refine callN (wa := []) (w := [(qa, .inr (3, [.null, .null, .null, .int 0, .null, .null, .int 0, .null]))]) (wb := []) K (c_X3_init l G qa) mtN_X3 lk_L_9 ⟨rfl, rfl, by decide, by decide⟩ hw dL_law_4 hl.1 (by decide) rfl rfl (Nat.le_of_ble_eq_true rfl) (fun u H locs hw => ?_)
  have hw : Wx G (AL s) (w_X3 G qa u) s H locs := by rw [List.append_nil] at hw; exact hw
  refine lv_astore_n (lv' := [(1, .ref qa), (0, .ref b)]) hx hb dL_law_7 rfl hl (by decide) rfl (fun ls hl => ?_)
  refine newX (ci := 4) (fs := [.null, .null, .null, .null, .null, .null, .null, .null, .int 0, .int 0, .null, .null, .null, .null, .int 0, .int 0, .int 0, .null, .int 0, .int 0, .int 0, .null, .null, .int 0, .int 0, .int 0, .int 0, .int 0, .int 0, .null, .int 0, .int 0, .null, .null, .int 0, .null, .null]) K hw inTX4 tyX4_ok cl_L_10 inst_X4 ini_X4 rfl (by decide) (by decide) (by decide) dL_law_8 (fun qb H hw => ?_)
  refine lv_dup hx hb dL_law_11 rfl ?_
  refine callN (wa := w_X3 G qa u) (w := [(qb, .inr (4, [.null, .null, .null, .null, .null, .null, .null, .null, .int 0, .int 0, .null, .null, .null, .null, .int 0, .int 0, .int 0, .null, .int 0, .int 0, .int 0, .null, .null, .int 0, .int 0, .int 0, .int 0, .int 0, .int 0, .null, .int 0, .int 0, .null, .null, .int 0, .null, .null]))]) (wb := []) K (c_X4_init l G qb) mtN_X4 lk_L_12 ⟨rfl, rfl, by decide, by decide⟩ hw dL_law_12 hl.1 (by decide) rfl rfl (Nat.le_of_ble_eq_true rfl) (fun v H locs hw => ?_)
  have hw : Wx G (AL s) (w_X3 G qa u ++ w_X4 G qb v) s H locs := by rw [List.append_nil] at hw; exact hw
  refine lv_astore_n (lv' := [(2, .ref qb), (1, .ref qa), (0, .ref b)]) hx hb dL_law_15 rfl hl (by decide) rfl (fun ls hl => ?_)
  refine lv_iconst (v := (0 : Int32)) hx hb dL_law_16 (by decide) ?_
  refine lv_istore_n (lv' := [(3, .int 0), (2, .ref qb), (1, .ref qa), (0, .ref b)]) hx hb dL_law_17 rfl hl (by decide) rfl (fun ls hl => ?_)
  rw [w3_x, w4_m] at hw
  refine W.widen (k := 59) (n := 1099) (by decide) (by decide) ?_
  exact law_loop hL C0 K (qx := (fun k => match k with | 0 => qa | k + 1 => u (k + 1))) (qm := (fun k => match k with | 0 => qb | k + 1 => v (k + 1))) (L + 1) 0 (Nat.zero_le L) (by omega) _ _ H locs hw (wp_0 G _ _) ls hl
