set_option maxHeartbeats 1000000 in
theorem arm_letter {p : Program} {e : Env} {s : State} {m : MethodId} {below : List Frame} {meth : Method} {c : Code} {l : Launch} {b L : Nat} {xs : Nat → Int32} {G : GP} (C0 : lw_At p s m meth c b L xs) (K : Cx p s m #[Value.ref b] meth c (AL s) G cL_law 4 RL ret) {qx qm : Nat → Nat} {w1 w2 : va_W} {H : Heap} {locs : List Loc} {iv : Int32} {ls : Array Slot} (hw : Wx G (AL s) (w1 ++ w2) s H locs) (hp : WP G qx qm w1 w2) (hl : lv_has ls 4 [(3, .int iv), (2, .ref (qm 0)), (1, .ref (qx 0)), (0, .ref b)]) (i1 : vp_in (iv + 1) L) (i2 : vp_in (iv + 2) L) (i3 : vp_in (iv + 3) L) (kk : ∀ (w1 w2 : va_W) (H : Heap) (locs : List Loc), Wx G (AL s) (w1 ++ w2) s H locs → WP G qx qm w1 w2 → W p l e room_1 s m #[Value.ref b] below meth c H locs 59 1099 (lw_Z below #[Value.ref b] s) (F0 m 1090 ls [])) : W p l e room_1 s m #[Value.ref b] below meth c H locs 59 1099 (lw_Z below #[Value.ref b] s) (F0 m 192 ls []) := by
  obtain ⟨hx, hb, hr, hml, hown, hts, hX, hbl, hlocks, hgv⟩ := C0
  have hbA : ¬ AL s b := Nat.not_le.mpr hbl
  obtain ⟨⟨fs1, v1, r1⟩, fs2, v2, r2⟩ := hp.hd
  obtain ⟨r, w1', w2', m1, m2, hp'⟩ := pr_letter l hp (xs (iv + 1).toNatClampNeg)
  refine lv_aload_n hx hb dL_law_192 rfl (lv_at hl 2 rfl) ?_
  refine lv_aload_n hx hb dL_law_193 rfl (lv_at hl 3 rfl) ?_
  refine lv_iload_n hx hb dL_law_194 rfl (lv_at hl 0 rfl) ?_
  refine lv_iconst (v := (1 : Int32)) hx hb dL_law_195 (by decide) ?_
  refine lv_iadd hx hb dL_law_196 ?_
  refine va_sld hx hb hX hbl hbA hw.2 i1 dL_law_197 ?_
  refine callVI (wa := []) (w := w1) (wb := w2) K m1 mt_yX3_letter lk_L_13 ⟨rfl, rfl, by decide, by decide⟩ hw dL_law_198 hl.1 (by decide) rfl r1 rfl rfl rfl (Nat.le_of_ble_eq_true rfl) (fun H locs hw => ?_)
  have hw : Wx G (AL s) (w1' ++ w2) s H locs := hw
  refine lv_aload_n hx hb dL_law_201 rfl (lv_at hl 1 rfl) ?_
  refine lv_aload_n hx hb dL_law_202 rfl (lv_at hl 3 rfl) ?_
  refine lv_iload_n hx hb dL_law_203 rfl (lv_at hl 0 rfl) ?_
  refine lv_iconst (v := (1 : Int32)) hx hb dL_law_204 (by decide) ?_
  refine lv_iadd hx hb dL_law_205 ?_
  refine va_sld hx hb hX hbl hbA hw.2 i1 dL_law_206 ?_
  refine callVI (wa := w1') (w := w2) (wb := []) K m2 mt_yX4_letter lk_L_17 ⟨rfl, rfl, by decide, by decide⟩ hw dL_law_207 hl.1 (by decide) (by rw [List.append_nil]) r2 rfl rfl rfl (Nat.le_of_ble_eq_true rfl) (fun H locs hw => ?_)
  have hw : Wx G (AL s) (w1' ++ w2') s H locs := by rw [List.append_nil] at hw; exact hw
  refine lv_icmp_eq (tgt := 1090) hx hb dL_law_210 (by decide) (fun hc => ?_) (fun hc => ?_)
  · exact kk _ _ H locs hw hp'
  · exact absurd rfl hc
set_option maxHeartbeats 1000000 in
theorem arm_gorge {p : Program} {e : Env} {s : State} {m : MethodId} {below : List Frame} {meth : Method} {c : Code} {l : Launch} {b L : Nat} {xs : Nat → Int32} {G : GP} (C0 : lw_At p s m meth c b L xs) (K : Cx p s m #[Value.ref b] meth c (AL s) G cL_law 4 RL ret) {qx qm : Nat → Nat} {w1 w2 : va_W} {H : Heap} {locs : List Loc} {iv : Int32} {ls : Array Slot} (hw : Wx G (AL s) (w1 ++ w2) s H locs) (hp : WP G qx qm w1 w2) (hl : lv_has ls 4 [(3, .int iv), (2, .ref (qm 0)), (1, .ref (qx 0)), (0, .ref b)]) (i1 : vp_in (iv + 1) L) (i2 : vp_in (iv + 2) L) (i3 : vp_in (iv + 3) L) (kk : ∀ (w1 w2 : va_W) (H : Heap) (locs : List Loc), Wx G (AL s) (w1 ++ w2) s H locs → WP G qx qm w1 w2 → W p l e room_1 s m #[Value.ref b] below meth c H locs 59 1099 (lw_Z below #[Value.ref b] s) (F0 m 1090 ls [])) : W p l e room_1 s m #[Value.ref b] below meth c H locs 59 1099 (lw_Z below #[Value.ref b] s) (F0 m 215 ls []) := by
  obtain ⟨hx, hb, hr, hml, hown, hts, hX, hbl, hlocks, hgv⟩ := C0
  have hbA : ¬ AL s b := Nat.not_le.mpr hbl
  obtain ⟨⟨fs1, v1, r1⟩, fs2, v2, r2⟩ := hp.hd
  obtain ⟨r, w1', w2', m1, m2, hp'⟩ := pr_gorge l hp 
  refine lv_aload_n hx hb dL_law_215 rfl (lv_at hl 2 rfl) ?_
  refine callVI (wa := []) (w := w1) (wb := w2) K m1 mt_yX3_gorge lk_L_18 ⟨rfl, rfl, by decide, by decide⟩ hw dL_law_216 hl.1 (by decide) rfl r1 rfl rfl rfl (Nat.le_of_ble_eq_true rfl) (fun H locs hw => ?_)
  have hw : Wx G (AL s) (w1' ++ w2) s H locs := hw
  refine lv_aload_n hx hb dL_law_219 rfl (lv_at hl 1 rfl) ?_
  refine callVI (wa := w1') (w := w2) (wb := []) K m2 mt_yX4_gorge lk_L_22 ⟨rfl, rfl, by decide, by decide⟩ hw dL_law_220 hl.1 (by decide) (by rw [List.append_nil]) r2 rfl rfl rfl (Nat.le_of_ble_eq_true rfl) (fun H locs hw => ?_)
  have hw : Wx G (AL s) (w1' ++ w2') s H locs := by rw [List.append_nil] at hw; exact hw
  refine lv_icmp_eq (tgt := 1090) hx hb dL_law_223 (by decide) (fun hc => ?_) (fun hc => ?_)
  · exact kk _ _ H locs hw hp'
  · exact absurd rfl hc
set_option maxHeartbeats 1000000 in
theorem arm_caller {p : Program} {e : Env} {s : State} {m : MethodId} {below : List Frame} {meth : Method} {c : Code} {l : Launch} {b L : Nat} {xs : Nat → Int32} {G : GP} (C0 : lw_At p s m meth c b L xs) (K : Cx p s m #[Value.ref b] meth c (AL s) G cL_law 4 RL ret) {qx qm : Nat → Nat} {w1 w2 : va_W} {H : Heap} {locs : List Loc} {iv : Int32} {ls : Array Slot} (hw : Wx G (AL s) (w1 ++ w2) s H locs) (hp : WP G qx qm w1 w2) (hl : lv_has ls 4 [(3, .int iv), (2, .ref (qm 0)), (1, .ref (qx 0)), (0, .ref b)]) (i1 : vp_in (iv + 1) L) (i2 : vp_in (iv + 2) L) (i3 : vp_in (iv + 3) L) (kk : ∀ (w1 w2 : va_W) (H : Heap) (locs : List Loc), Wx G (AL s) (w1 ++ w2) s H locs → WP G qx qm w1 w2 → W p l e room_1 s m #[Value.ref b] below meth c H locs 59 1099 (lw_Z below #[Value.ref b] s) (F0 m 1090 ls [])) : W p l e room_1 s m #[Value.ref b] below meth c H locs 59 1099 (lw_Z below #[Value.ref b] s) (F0 m 228 ls []) := by
  obtain ⟨hx, hb, hr, hml, hown, hts, hX, hbl, hlocks, hgv⟩ := C0
  have hbA : ¬ AL s b := Nat.not_le.mpr hbl
  obtain ⟨⟨fs1, v1, r1⟩, fs2, v2, r2⟩ := hp.hd
  obtain ⟨r, w1', w2', m1, m2, hp'⟩ := pr_caller l hp (xs (iv + 1).toNatClampNeg) (xs (iv + 2).toNatClampNeg)
  refine lv_aload_n hx hb dL_law_228 rfl (lv_at hl 2 rfl) ?_
  refine lv_aload_n hx hb dL_law_229 rfl (lv_at hl 3 rfl) ?_
  refine lv_iload_n hx hb dL_law_230 rfl (lv_at hl 0 rfl) ?_
  refine lv_iconst (v := (1 : Int32)) hx hb dL_law_231 (by decide) ?_
  refine lv_iadd hx hb dL_law_232 ?_
  refine va_sld hx hb hX hbl hbA hw.2 i1 dL_law_233 ?_
  refine lv_aload_n hx hb dL_law_234 rfl (lv_at hl 3 rfl) ?_
  refine lv_iload_n hx hb dL_law_235 rfl (lv_at hl 0 rfl) ?_
  refine lv_iconst (v := (2 : Int32)) hx hb dL_law_236 (by decide) ?_
  refine lv_iadd hx hb dL_law_237 ?_
  refine va_sld hx hb hX hbl hbA hw.2 i2 dL_law_238 ?_
  refine callVI (wa := []) (w := w1) (wb := w2) K m1 mt_yX3_caller lk_L_23 ⟨rfl, rfl, by decide, by decide⟩ hw dL_law_239 hl.1 (by decide) rfl r1 rfl rfl rfl (Nat.le_of_ble_eq_true rfl) (fun H locs hw => ?_)
  have hw : Wx G (AL s) (w1' ++ w2) s H locs := hw
  refine lv_aload_n hx hb dL_law_242 rfl (lv_at hl 1 rfl) ?_
  refine lv_aload_n hx hb dL_law_243 rfl (lv_at hl 3 rfl) ?_
  refine lv_iload_n hx hb dL_law_244 rfl (lv_at hl 0 rfl) ?_
  refine lv_iconst (v := (1 : Int32)) hx hb dL_law_245 (by decide) ?_
  refine lv_iadd hx hb dL_law_246 ?_
  refine va_sld hx hb hX hbl hbA hw.2 i1 dL_law_247 ?_
  refine lv_aload_n hx hb dL_law_248 rfl (lv_at hl 3 rfl) ?_
  refine lv_iload_n hx hb dL_law_249 rfl (lv_at hl 0 rfl) ?_
  refine lv_iconst (v := (2 : Int32)) hx hb dL_law_250 (by decide) ?_
  refine lv_iadd hx hb dL_law_251 ?_
  refine va_sld hx hb hX hbl hbA hw.2 i2 dL_law_252 ?_
  refine callVI (wa := w1') (w := w2) (wb := []) K m2 mt_yX4_caller lk_L_27 ⟨rfl, rfl, by decide, by decide⟩ hw dL_law_253 hl.1 (by decide) (by rw [List.append_nil]) r2 rfl rfl rfl (Nat.le_of_ble_eq_true rfl) (fun H locs hw => ?_)
  have hw : Wx G (AL s) (w1' ++ w2') s H locs := by rw [List.append_nil] at hw; exact hw
  refine lv_icmp_eq (tgt := 1090) hx hb dL_law_256 (by decide) (fun hc => ?_) (fun hc => ?_)
  · exact kk _ _ H locs hw hp'
  · exact absurd rfl hc
set_option maxHeartbeats 1000000 in
theorem arm_known {p : Program} {e : Env} {s : State} {m : MethodId} {below : List Frame} {meth : Method} {c : Code} {l : Launch} {b L : Nat} {xs : Nat → Int32} {G : GP} (C0 : lw_At p s m meth c b L xs) (K : Cx p s m #[Value.ref b] meth c (AL s) G cL_law 4 RL ret) {qx qm : Nat → Nat} {w1 w2 : va_W} {H : Heap} {locs : List Loc} {iv : Int32} {ls : Array Slot} (hw : Wx G (AL s) (w1 ++ w2) s H locs) (hp : WP G qx qm w1 w2) (hl : lv_has ls 4 [(3, .int iv), (2, .ref (qm 0)), (1, .ref (qx 0)), (0, .ref b)]) (i1 : vp_in (iv + 1) L) (i2 : vp_in (iv + 2) L) (i3 : vp_in (iv + 3) L) (kk : ∀ (w1 w2 : va_W) (H : Heap) (locs : List Loc), Wx G (AL s) (w1 ++ w2) s H locs → WP G qx qm w1 w2 → W p l e room_1 s m #[Value.ref b] below meth c H locs 59 1099 (lw_Z below #[Value.ref b] s) (F0 m 1090 ls [])) : W p l e room_1 s m #[Value.ref b] below meth c H locs 59 1099 (lw_Z below #[Value.ref b] s) (F0 m 261 ls []) := by
  obtain ⟨hx, hb, hr, hml, hown, hts, hX, hbl, hlocks, hgv⟩ := C0
  have hbA : ¬ AL s b := Nat.not_le.mpr hbl
  obtain ⟨⟨fs1, v1, r1⟩, fs2, v2, r2⟩ := hp.hd
  obtain ⟨r, w1', w2', m1, m2, hp'⟩ := pr_known l hp (xs (iv + 1).toNatClampNeg)
  refine lv_aload_n hx hb dL_law_261 rfl (lv_at hl 2 rfl) ?_
  refine lv_aload_n hx hb dL_law_262 rfl (lv_at hl 3 rfl) ?_
  refine lv_iload_n hx hb dL_law_263 rfl (lv_at hl 0 rfl) ?_
  refine lv_iconst (v := (1 : Int32)) hx hb dL_law_264 (by decide) ?_
  refine lv_iadd hx hb dL_law_265 ?_
  refine va_sld hx hb hX hbl hbA hw.2 i1 dL_law_266 ?_
  refine callVI (wa := []) (w := w1) (wb := w2) K m1 mt_yX3_known lk_L_28 ⟨rfl, rfl, by decide, by decide⟩ hw dL_law_267 hl.1 (by decide) rfl r1 rfl rfl rfl (Nat.le_of_ble_eq_true rfl) (fun H locs hw => ?_)
  have hw : Wx G (AL s) (w1' ++ w2) s H locs := hw
  refine lv_aload_n hx hb dL_law_270 rfl (lv_at hl 1 rfl) ?_
  refine lv_aload_n hx hb dL_law_271 rfl (lv_at hl 3 rfl) ?_
  refine lv_iload_n hx hb dL_law_272 rfl (lv_at hl 0 rfl) ?_
  refine lv_iconst (v := (1 : Int32)) hx hb dL_law_273 (by decide) ?_
  refine lv_iadd hx hb dL_law_274 ?_
  refine va_sld hx hb hX hbl hbA hw.2 i1 dL_law_275 ?_
  refine callVI (wa := w1') (w := w2) (wb := []) K m2 mt_yX4_known lk_L_31 ⟨rfl, rfl, by decide, by decide⟩ hw dL_law_276 hl.1 (by decide) (by rw [List.append_nil]) r2 rfl rfl rfl (Nat.le_of_ble_eq_true rfl) (fun H locs hw => ?_)
  have hw : Wx G (AL s) (w1' ++ w2') s H locs := by rw [List.append_nil] at hw; exact hw
  refine lv_icmp_eq (tgt := 1090) hx hb dL_law_279 (by decide) (fun hc => ?_) (fun hc => ?_)
  · exact kk _ _ H locs hw hp'
  · exact absurd rfl hc
set_option maxHeartbeats 1000000 in
theorem arm_learn {p : Program} {e : Env} {s : State} {m : MethodId} {below : List Frame} {meth : Method} {c : Code} {l : Launch} {b L : Nat} {xs : Nat → Int32} {G : GP} (C0 : lw_At p s m meth c b L xs) (K : Cx p s m #[Value.ref b] meth c (AL s) G cL_law 4 RL ret) {qx qm : Nat → Nat} {w1 w2 : va_W} {H : Heap} {locs : List Loc} {iv : Int32} {ls : Array Slot} (hw : Wx G (AL s) (w1 ++ w2) s H locs) (hp : WP G qx qm w1 w2) (hl : lv_has ls 4 [(3, .int iv), (2, .ref (qm 0)), (1, .ref (qx 0)), (0, .ref b)]) (i1 : vp_in (iv + 1) L) (i2 : vp_in (iv + 2) L) (i3 : vp_in (iv + 3) L) (kk : ∀ (w1 w2 : va_W) (H : Heap) (locs : List Loc), Wx G (AL s) (w1 ++ w2) s H locs → WP G qx qm w1 w2 → W p l e room_1 s m #[Value.ref b] below meth c H locs 59 1099 (lw_Z below #[Value.ref b] s) (F0 m 1090 ls [])) : W p l e room_1 s m #[Value.ref b] below meth c H locs 59 1099 (lw_Z below #[Value.ref b] s) (F0 m 284 ls []) := by
  obtain ⟨hx, hb, hr, hml, hown, hts, hX, hbl, hlocks, hgv⟩ := C0
  have hbA : ¬ AL s b := Nat.not_le.mpr hbl
  obtain ⟨⟨fs1, v1, r1⟩, fs2, v2, r2⟩ := hp.hd
  obtain ⟨r, w1', w2', m1, m2, hp'⟩ := pr_learn l hp (xs (iv + 1).toNatClampNeg) (xs (iv + 2).toNatClampNeg)
  refine lv_aload_n hx hb dL_law_284 rfl (lv_at hl 2 rfl) ?_
  refine lv_aload_n hx hb dL_law_285 rfl (lv_at hl 3 rfl) ?_
  refine lv_iload_n hx hb dL_law_286 rfl (lv_at hl 0 rfl) ?_
  refine lv_iconst (v := (1 : Int32)) hx hb dL_law_287 (by decide) ?_
  refine lv_iadd hx hb dL_law_288 ?_
  refine va_sld hx hb hX hbl hbA hw.2 i1 dL_law_289 ?_
  refine lv_aload_n hx hb dL_law_290 rfl (lv_at hl 3 rfl) ?_
  refine lv_iload_n hx hb dL_law_291 rfl (lv_at hl 0 rfl) ?_
  refine lv_iconst (v := (2 : Int32)) hx hb dL_law_292 (by decide) ?_
  refine lv_iadd hx hb dL_law_293 ?_
  refine va_sld hx hb hX hbl hbA hw.2 i2 dL_law_294 ?_
  refine callVI (wa := []) (w := w1) (wb := w2) K m1 mt_yX3_learn lk_L_32 ⟨rfl, rfl, by decide, by decide⟩ hw dL_law_295 hl.1 (by decide) rfl r1 rfl rfl rfl (Nat.le_of_ble_eq_true rfl) (fun H locs hw => ?_)
  have hw : Wx G (AL s) (w1' ++ w2) s H locs := hw
  refine lv_aload_n hx hb dL_law_298 rfl (lv_at hl 1 rfl) ?_
  refine lv_aload_n hx hb dL_law_299 rfl (lv_at hl 3 rfl) ?_
  refine lv_iload_n hx hb dL_law_300 rfl (lv_at hl 0 rfl) ?_
  refine lv_iconst (v := (1 : Int32)) hx hb dL_law_301 (by decide) ?_
  refine lv_iadd hx hb dL_law_302 ?_
  refine va_sld hx hb hX hbl hbA hw.2 i1 dL_law_303 ?_
  refine lv_aload_n hx hb dL_law_304 rfl (lv_at hl 3 rfl) ?_
  refine lv_iload_n hx hb dL_law_305 rfl (lv_at hl 0 rfl) ?_
  refine lv_iconst (v := (2 : Int32)) hx hb dL_law_306 (by decide) ?_
  refine lv_iadd hx hb dL_law_307 ?_
  refine va_sld hx hb hX hbl hbA hw.2 i2 dL_law_308 ?_
  refine callVI (wa := w1') (w := w2) (wb := []) K m2 mt_yX4_learn lk_L_35 ⟨rfl, rfl, by decide, by decide⟩ hw dL_law_309 hl.1 (by decide) (by rw [List.append_nil]) r2 rfl rfl rfl (Nat.le_of_ble_eq_true rfl) (fun H locs hw => ?_)
  have hw : Wx G (AL s) (w1' ++ w2') s H locs := by rw [List.append_nil] at hw; exact hw
  refine lv_icmp_eq (tgt := 1090) hx hb dL_law_312 (by decide) (fun hc => ?_) (fun hc => ?_)
  · exact kk _ _ H locs hw hp'
  · exact absurd rfl hc
set_option maxHeartbeats 1000000 in
theorem arm_set {p : Program} {e : Env} {s : State} {m : MethodId} {below : List Frame} {meth : Method} {c : Code} {l : Launch} {b L : Nat} {xs : Nat → Int32} {G : GP} (C0 : lw_At p s m meth c b L xs) (K : Cx p s m #[Value.ref b] meth c (AL s) G cL_law 4 RL ret) {qx qm : Nat → Nat} {w1 w2 : va_W} {H : Heap} {locs : List Loc} {iv : Int32} {ls : Array Slot} (hw : Wx G (AL s) (w1 ++ w2) s H locs) (hp : WP G qx qm w1 w2) (hl : lv_has ls 4 [(3, .int iv), (2, .ref (qm 0)), (1, .ref (qx 0)), (0, .ref b)]) (i1 : vp_in (iv + 1) L) (i2 : vp_in (iv + 2) L) (i3 : vp_in (iv + 3) L) (kk : ∀ (w1 w2 : va_W) (H : Heap) (locs : List Loc), Wx G (AL s) (w1 ++ w2) s H locs → WP G qx qm w1 w2 → W p l e room_1 s m #[Value.ref b] below meth c H locs 59 1099 (lw_Z below #[Value.ref b] s) (F0 m 1090 ls [])) : W p l e room_1 s m #[Value.ref b] below meth c H locs 59 1099 (lw_Z below #[Value.ref b] s) (F0 m 317 ls []) := by
  obtain ⟨hx, hb, hr, hml, hown, hts, hX, hbl, hlocks, hgv⟩ := C0
  have hbA : ¬ AL s b := Nat.not_le.mpr hbl
  obtain ⟨⟨fs1, v1, r1⟩, fs2, v2, r2⟩ := hp.hd
  obtain ⟨r, w1', w2', m1, m2, hp'⟩ := pr_set l hp (xs (iv + 1).toNatClampNeg) (xs (iv + 2).toNatClampNeg)
  refine lv_aload_n hx hb dL_law_317 rfl (lv_at hl 2 rfl) ?_
  refine lv_aload_n hx hb dL_law_318 rfl (lv_at hl 3 rfl) ?_
  refine lv_iload_n hx hb dL_law_319 rfl (lv_at hl 0 rfl) ?_
  refine lv_iconst (v := (1 : Int32)) hx hb dL_law_320 (by decide) ?_
  refine lv_iadd hx hb dL_law_321 ?_
  refine va_sld hx hb hX hbl hbA hw.2 i1 dL_law_322 ?_
  refine lv_aload_n hx hb dL_law_323 rfl (lv_at hl 3 rfl) ?_
  refine lv_iload_n hx hb dL_law_324 rfl (lv_at hl 0 rfl) ?_
  refine lv_iconst (v := (2 : Int32)) hx hb dL_law_325 (by decide) ?_
  refine lv_iadd hx hb dL_law_326 ?_
  refine va_sld hx hb hX hbl hbA hw.2 i2 dL_law_327 ?_
  refine callVI (wa := []) (w := w1) (wb := w2) K m1 mt_yX3_set lk_L_36 ⟨rfl, rfl, by decide, by decide⟩ hw dL_law_328 hl.1 (by decide) rfl r1 rfl rfl rfl (Nat.le_of_ble_eq_true rfl) (fun H locs hw => ?_)
  have hw : Wx G (AL s) (w1' ++ w2) s H locs := hw
  refine lv_aload_n hx hb dL_law_331 rfl (lv_at hl 1 rfl) ?_
  refine lv_aload_n hx hb dL_law_332 rfl (lv_at hl 3 rfl) ?_
  refine lv_iload_n hx hb dL_law_333 rfl (lv_at hl 0 rfl) ?_
  refine lv_iconst (v := (1 : Int32)) hx hb dL_law_334 (by decide) ?_
  refine lv_iadd hx hb dL_law_335 ?_
  refine va_sld hx hb hX hbl hbA hw.2 i1 dL_law_336 ?_
  refine lv_aload_n hx hb dL_law_337 rfl (lv_at hl 3 rfl) ?_
  refine lv_iload_n hx hb dL_law_338 rfl (lv_at hl 0 rfl) ?_
  refine lv_iconst (v := (2 : Int32)) hx hb dL_law_339 (by decide) ?_
  refine lv_iadd hx hb dL_law_340 ?_
  refine va_sld hx hb hX hbl hbA hw.2 i2 dL_law_341 ?_
  refine callVI (wa := w1') (w := w2) (wb := []) K m2 mt_yX4_set lk_L_39 ⟨rfl, rfl, by decide, by decide⟩ hw dL_law_342 hl.1 (by decide) (by rw [List.append_nil]) r2 rfl rfl rfl (Nat.le_of_ble_eq_true rfl) (fun H locs hw => ?_)
  have hw : Wx G (AL s) (w1' ++ w2') s H locs := by rw [List.append_nil] at hw; exact hw
  refine lv_icmp_eq (tgt := 1090) hx hb dL_law_345 (by decide) (fun hc => ?_) (fun hc => ?_)
  · exact kk _ _ H locs hw hp'
  · exact absurd rfl hc
set_option maxHeartbeats 1000000 in
theorem arm_hour {p : Program} {e : Env} {s : State} {m : MethodId} {below : List Frame} {meth : Method} {c : Code} {l : Launch} {b L : Nat} {xs : Nat → Int32} {G : GP} (C0 : lw_At p s m meth c b L xs) (K : Cx p s m #[Value.ref b] meth c (AL s) G cL_law 4 RL ret) {qx qm : Nat → Nat} {w1 w2 : va_W} {H : Heap} {locs : List Loc} {iv : Int32} {ls : Array Slot} (hw : Wx G (AL s) (w1 ++ w2) s H locs) (hp : WP G qx qm w1 w2) (hl : lv_has ls 4 [(3, .int iv), (2, .ref (qm 0)), (1, .ref (qx 0)), (0, .ref b)]) (i1 : vp_in (iv + 1) L) (i2 : vp_in (iv + 2) L) (i3 : vp_in (iv + 3) L) (kk : ∀ (w1 w2 : va_W) (H : Heap) (locs : List Loc), Wx G (AL s) (w1 ++ w2) s H locs → WP G qx qm w1 w2 → W p l e room_1 s m #[Value.ref b] below meth c H locs 59 1099 (lw_Z below #[Value.ref b] s) (F0 m 1090 ls [])) : W p l e room_1 s m #[Value.ref b] below meth c H locs 59 1099 (lw_Z below #[Value.ref b] s) (F0 m 350 ls []) := by
  obtain ⟨hx, hb, hr, hml, hown, hts, hX, hbl, hlocks, hgv⟩ := C0
  have hbA : ¬ AL s b := Nat.not_le.mpr hbl
  obtain ⟨⟨fs1, v1, r1⟩, fs2, v2, r2⟩ := hp.hd
  obtain ⟨r, w1', w2', m1, m2, hp'⟩ := pr_hour l hp (xs (iv + 1).toNatClampNeg) (xs (iv + 2).toNatClampNeg)
  refine lv_aload_n hx hb dL_law_350 rfl (lv_at hl 2 rfl) ?_
  refine lv_aload_n hx hb dL_law_351 rfl (lv_at hl 3 rfl) ?_
  refine lv_iload_n hx hb dL_law_352 rfl (lv_at hl 0 rfl) ?_
  refine lv_iconst (v := (1 : Int32)) hx hb dL_law_353 (by decide) ?_
  refine lv_iadd hx hb dL_law_354 ?_
  refine va_sld hx hb hX hbl hbA hw.2 i1 dL_law_355 ?_
  refine lv_aload_n hx hb dL_law_356 rfl (lv_at hl 3 rfl) ?_
  refine lv_iload_n hx hb dL_law_357 rfl (lv_at hl 0 rfl) ?_
  refine lv_iconst (v := (2 : Int32)) hx hb dL_law_358 (by decide) ?_
  refine lv_iadd hx hb dL_law_359 ?_
  refine va_sld hx hb hX hbl hbA hw.2 i2 dL_law_360 ?_
  refine callVI (wa := []) (w := w1) (wb := w2) K m1 mt_yX3_hour lk_L_40 ⟨rfl, rfl, by decide, by decide⟩ hw dL_law_361 hl.1 (by decide) rfl r1 rfl rfl rfl (Nat.le_of_ble_eq_true rfl) (fun H locs hw => ?_)
  have hw : Wx G (AL s) (w1' ++ w2) s H locs := hw
  refine lv_aload_n hx hb dL_law_364 rfl (lv_at hl 1 rfl) ?_
  refine lv_aload_n hx hb dL_law_365 rfl (lv_at hl 3 rfl) ?_
  refine lv_iload_n hx hb dL_law_366 rfl (lv_at hl 0 rfl) ?_
  refine lv_iconst (v := (1 : Int32)) hx hb dL_law_367 (by decide) ?_
  refine lv_iadd hx hb dL_law_368 ?_
  refine va_sld hx hb hX hbl hbA hw.2 i1 dL_law_369 ?_
  refine lv_aload_n hx hb dL_law_370 rfl (lv_at hl 3 rfl) ?_
  refine lv_iload_n hx hb dL_law_371 rfl (lv_at hl 0 rfl) ?_
  refine lv_iconst (v := (2 : Int32)) hx hb dL_law_372 (by decide) ?_
  refine lv_iadd hx hb dL_law_373 ?_
  refine va_sld hx hb hX hbl hbA hw.2 i2 dL_law_374 ?_
  refine callVI (wa := w1') (w := w2) (wb := []) K m2 mt_yX4_hour lk_L_43 ⟨rfl, rfl, by decide, by decide⟩ hw dL_law_375 hl.1 (by decide) (by rw [List.append_nil]) r2 rfl rfl rfl (Nat.le_of_ble_eq_true rfl) (fun H locs hw => ?_)
  have hw : Wx G (AL s) (w1' ++ w2') s H locs := by rw [List.append_nil] at hw; exact hw
  refine lv_icmp_eq (tgt := 1090) hx hb dL_law_378 (by decide) (fun hc => ?_) (fun hc => ?_)
  · exact kk _ _ H locs hw hp'
  · exact absurd rfl hc
set_option maxHeartbeats 1000000 in
theorem arm_days {p : Program} {e : Env} {s : State} {m : MethodId} {below : List Frame} {meth : Method} {c : Code} {l : Launch} {b L : Nat} {xs : Nat → Int32} {G : GP} (C0 : lw_At p s m meth c b L xs) (K : Cx p s m #[Value.ref b] meth c (AL s) G cL_law 4 RL ret) {qx qm : Nat → Nat} {w1 w2 : va_W} {H : Heap} {locs : List Loc} {iv : Int32} {ls : Array Slot} (hw : Wx G (AL s) (w1 ++ w2) s H locs) (hp : WP G qx qm w1 w2) (hl : lv_has ls 4 [(3, .int iv), (2, .ref (qm 0)), (1, .ref (qx 0)), (0, .ref b)]) (i1 : vp_in (iv + 1) L) (i2 : vp_in (iv + 2) L) (i3 : vp_in (iv + 3) L) (kk : ∀ (w1 w2 : va_W) (H : Heap) (locs : List Loc), Wx G (AL s) (w1 ++ w2) s H locs → WP G qx qm w1 w2 → W p l e room_1 s m #[Value.ref b] below meth c H locs 59 1099 (lw_Z below #[Value.ref b] s) (F0 m 1090 ls [])) : W p l e room_1 s m #[Value.ref b] below meth c H locs 59 1099 (lw_Z below #[Value.ref b] s) (F0 m 383 ls []) := by
  obtain ⟨hx, hb, hr, hml, hown, hts, hX, hbl, hlocks, hgv⟩ := C0
  have hbA : ¬ AL s b := Nat.not_le.mpr hbl
  obtain ⟨⟨fs1, v1, r1⟩, fs2, v2, r2⟩ := hp.hd
  obtain ⟨r, w1', w2', m1, m2, hp'⟩ := pr_days l hp (xs (iv + 1).toNatClampNeg)
  refine lv_aload_n hx hb dL_law_383 rfl (lv_at hl 2 rfl) ?_
  refine lv_aload_n hx hb dL_law_384 rfl (lv_at hl 3 rfl) ?_
  refine lv_iload_n hx hb dL_law_385 rfl (lv_at hl 0 rfl) ?_
  refine lv_iconst (v := (1 : Int32)) hx hb dL_law_386 (by decide) ?_
  refine lv_iadd hx hb dL_law_387 ?_
  refine va_sld hx hb hX hbl hbA hw.2 i1 dL_law_388 ?_
  refine callVI (wa := []) (w := w1) (wb := w2) K m1 mt_yX3_days lk_L_44 ⟨rfl, rfl, by decide, by decide⟩ hw dL_law_389 hl.1 (by decide) rfl r1 rfl rfl rfl (Nat.le_of_ble_eq_true rfl) (fun H locs hw => ?_)
  have hw : Wx G (AL s) (w1' ++ w2) s H locs := hw
  refine lv_aload_n hx hb dL_law_392 rfl (lv_at hl 1 rfl) ?_
  refine lv_aload_n hx hb dL_law_393 rfl (lv_at hl 3 rfl) ?_
  refine lv_iload_n hx hb dL_law_394 rfl (lv_at hl 0 rfl) ?_
  refine lv_iconst (v := (1 : Int32)) hx hb dL_law_395 (by decide) ?_
  refine lv_iadd hx hb dL_law_396 ?_
  refine va_sld hx hb hX hbl hbA hw.2 i1 dL_law_397 ?_
  refine callVI (wa := w1') (w := w2) (wb := []) K m2 mt_yX4_days lk_L_47 ⟨rfl, rfl, by decide, by decide⟩ hw dL_law_398 hl.1 (by decide) (by rw [List.append_nil]) r2 rfl rfl rfl (Nat.le_of_ble_eq_true rfl) (fun H locs hw => ?_)
  have hw : Wx G (AL s) (w1' ++ w2') s H locs := by rw [List.append_nil] at hw; exact hw
  refine lv_icmp_eq (tgt := 1090) hx hb dL_law_401 (by decide) (fun hc => ?_) (fun hc => ?_)
  · exact kk _ _ H locs hw hp'
  · exact absurd rfl hc
set_option maxHeartbeats 1000000 in
theorem arm_answers {p : Program} {e : Env} {s : State} {m : MethodId} {below : List Frame} {meth : Method} {c : Code} {l : Launch} {b L : Nat} {xs : Nat → Int32} {G : GP} (C0 : lw_At p s m meth c b L xs) (K : Cx p s m #[Value.ref b] meth c (AL s) G cL_law 4 RL ret) {qx qm : Nat → Nat} {w1 w2 : va_W} {H : Heap} {locs : List Loc} {iv : Int32} {ls : Array Slot} (hw : Wx G (AL s) (w1 ++ w2) s H locs) (hp : WP G qx qm w1 w2) (hl : lv_has ls 4 [(3, .int iv), (2, .ref (qm 0)), (1, .ref (qx 0)), (0, .ref b)]) (i1 : vp_in (iv + 1) L) (i2 : vp_in (iv + 2) L) (i3 : vp_in (iv + 3) L) (kk : ∀ (w1 w2 : va_W) (H : Heap) (locs : List Loc), Wx G (AL s) (w1 ++ w2) s H locs → WP G qx qm w1 w2 → W p l e room_1 s m #[Value.ref b] below meth c H locs 59 1099 (lw_Z below #[Value.ref b] s) (F0 m 1090 ls [])) : W p l e room_1 s m #[Value.ref b] below meth c H locs 59 1099 (lw_Z below #[Value.ref b] s) (F0 m 406 ls []) := by
  obtain ⟨hx, hb, hr, hml, hown, hts, hX, hbl, hlocks, hgv⟩ := C0
  have hbA : ¬ AL s b := Nat.not_le.mpr hbl
  obtain ⟨⟨fs1, v1, r1⟩, fs2, v2, r2⟩ := hp.hd
  obtain ⟨r, w1', w2', m1, m2, hp'⟩ := pr_answers l hp (xs (iv + 1).toNatClampNeg)
  refine lv_aload_n hx hb dL_law_406 rfl (lv_at hl 2 rfl) ?_
  refine lv_aload_n hx hb dL_law_407 rfl (lv_at hl 3 rfl) ?_
  refine lv_iload_n hx hb dL_law_408 rfl (lv_at hl 0 rfl) ?_
  refine lv_iconst (v := (1 : Int32)) hx hb dL_law_409 (by decide) ?_
  refine lv_iadd hx hb dL_law_410 ?_
  refine va_sld hx hb hX hbl hbA hw.2 i1 dL_law_411 ?_
  refine callVI (wa := []) (w := w1) (wb := w2) K m1 mt_yX3_answers lk_L_48 ⟨rfl, rfl, by decide, by decide⟩ hw dL_law_412 hl.1 (by decide) rfl r1 rfl rfl rfl (Nat.le_of_ble_eq_true rfl) (fun H locs hw => ?_)
  have hw : Wx G (AL s) (w1' ++ w2) s H locs := hw
  refine lv_aload_n hx hb dL_law_415 rfl (lv_at hl 1 rfl) ?_
  refine lv_aload_n hx hb dL_law_416 rfl (lv_at hl 3 rfl) ?_
  refine lv_iload_n hx hb dL_law_417 rfl (lv_at hl 0 rfl) ?_
  refine lv_iconst (v := (1 : Int32)) hx hb dL_law_418 (by decide) ?_
  refine lv_iadd hx hb dL_law_419 ?_
  refine va_sld hx hb hX hbl hbA hw.2 i1 dL_law_420 ?_
  refine callVI (wa := w1') (w := w2) (wb := []) K m2 mt_yX4_answers lk_L_51 ⟨rfl, rfl, by decide, by decide⟩ hw dL_law_421 hl.1 (by decide) (by rw [List.append_nil]) r2 rfl rfl rfl (Nat.le_of_ble_eq_true rfl) (fun H locs hw => ?_)
  have hw : Wx G (AL s) (w1' ++ w2') s H locs := by rw [List.append_nil] at hw; exact hw
  refine lv_icmp_eq (tgt := 1090) hx hb dL_law_424 (by decide) (fun hc => ?_) (fun hc => ?_)
  · exact kk _ _ H locs hw hp'
  · exact absurd rfl hc
set_option maxHeartbeats 1000000 in
theorem arm_says {p : Program} {e : Env} {s : State} {m : MethodId} {below : List Frame} {meth : Method} {c : Code} {l : Launch} {b L : Nat} {xs : Nat → Int32} {G : GP} (C0 : lw_At p s m meth c b L xs) (K : Cx p s m #[Value.ref b] meth c (AL s) G cL_law 4 RL ret) {qx qm : Nat → Nat} {w1 w2 : va_W} {H : Heap} {locs : List Loc} {iv : Int32} {ls : Array Slot} (hw : Wx G (AL s) (w1 ++ w2) s H locs) (hp : WP G qx qm w1 w2) (hl : lv_has ls 4 [(3, .int iv), (2, .ref (qm 0)), (1, .ref (qx 0)), (0, .ref b)]) (i1 : vp_in (iv + 1) L) (i2 : vp_in (iv + 2) L) (i3 : vp_in (iv + 3) L) (kk : ∀ (w1 w2 : va_W) (H : Heap) (locs : List Loc), Wx G (AL s) (w1 ++ w2) s H locs → WP G qx qm w1 w2 → W p l e room_1 s m #[Value.ref b] below meth c H locs 59 1099 (lw_Z below #[Value.ref b] s) (F0 m 1090 ls [])) : W p l e room_1 s m #[Value.ref b] below meth c H locs 59 1099 (lw_Z below #[Value.ref b] s) (F0 m 429 ls []) := by
  obtain ⟨hx, hb, hr, hml, hown, hts, hX, hbl, hlocks, hgv⟩ := C0
  have hbA : ¬ AL s b := Nat.not_le.mpr hbl
  obtain ⟨⟨fs1, v1, r1⟩, fs2, v2, r2⟩ := hp.hd
  obtain ⟨r, w1', w2', m1, m2, hp'⟩ := pr_says l hp (xs (iv + 1).toNatClampNeg)
  refine lv_aload_n hx hb dL_law_429 rfl (lv_at hl 2 rfl) ?_
  refine lv_aload_n hx hb dL_law_430 rfl (lv_at hl 3 rfl) ?_
  refine lv_iload_n hx hb dL_law_431 rfl (lv_at hl 0 rfl) ?_
  refine lv_iconst (v := (1 : Int32)) hx hb dL_law_432 (by decide) ?_
  refine lv_iadd hx hb dL_law_433 ?_
  refine va_sld hx hb hX hbl hbA hw.2 i1 dL_law_434 ?_
  refine callVI (wa := []) (w := w1) (wb := w2) K m1 mt_yX3_says lk_L_52 ⟨rfl, rfl, by decide, by decide⟩ hw dL_law_435 hl.1 (by decide) rfl r1 rfl rfl rfl (Nat.le_of_ble_eq_true rfl) (fun H locs hw => ?_)
  have hw : Wx G (AL s) (w1' ++ w2) s H locs := hw
  refine lv_aload_n hx hb dL_law_438 rfl (lv_at hl 1 rfl) ?_
  refine lv_aload_n hx hb dL_law_439 rfl (lv_at hl 3 rfl) ?_
  refine lv_iload_n hx hb dL_law_440 rfl (lv_at hl 0 rfl) ?_
  refine lv_iconst (v := (1 : Int32)) hx hb dL_law_441 (by decide) ?_
  refine lv_iadd hx hb dL_law_442 ?_
  refine va_sld hx hb hX hbl hbA hw.2 i1 dL_law_443 ?_
  refine callVI (wa := w1') (w := w2) (wb := []) K m2 mt_yX4_says lk_L_55 ⟨rfl, rfl, by decide, by decide⟩ hw dL_law_444 hl.1 (by decide) (by rw [List.append_nil]) r2 rfl rfl rfl (Nat.le_of_ble_eq_true rfl) (fun H locs hw => ?_)
  have hw : Wx G (AL s) (w1' ++ w2') s H locs := by rw [List.append_nil] at hw; exact hw
  refine lv_icmp_eq (tgt := 1090) hx hb dL_law_447 (by decide) (fun hc => ?_) (fun hc => ?_)
  · exact kk _ _ H locs hw hp'
  · exact absurd rfl hc
set_option maxHeartbeats 1000000 in
theorem arm_behind {p : Program} {e : Env} {s : State} {m : MethodId} {below : List Frame} {meth : Method} {c : Code} {l : Launch} {b L : Nat} {xs : Nat → Int32} {G : GP} (C0 : lw_At p s m meth c b L xs) (K : Cx p s m #[Value.ref b] meth c (AL s) G cL_law 4 RL ret) {qx qm : Nat → Nat} {w1 w2 : va_W} {H : Heap} {locs : List Loc} {iv : Int32} {ls : Array Slot} (hw : Wx G (AL s) (w1 ++ w2) s H locs) (hp : WP G qx qm w1 w2) (hl : lv_has ls 4 [(3, .int iv), (2, .ref (qm 0)), (1, .ref (qx 0)), (0, .ref b)]) (i1 : vp_in (iv + 1) L) (i2 : vp_in (iv + 2) L) (i3 : vp_in (iv + 3) L) (kk : ∀ (w1 w2 : va_W) (H : Heap) (locs : List Loc), Wx G (AL s) (w1 ++ w2) s H locs → WP G qx qm w1 w2 → W p l e room_1 s m #[Value.ref b] below meth c H locs 59 1099 (lw_Z below #[Value.ref b] s) (F0 m 1090 ls [])) : W p l e room_1 s m #[Value.ref b] below meth c H locs 59 1099 (lw_Z below #[Value.ref b] s) (F0 m 452 ls []) := by
  obtain ⟨hx, hb, hr, hml, hown, hts, hX, hbl, hlocks, hgv⟩ := C0
  have hbA : ¬ AL s b := Nat.not_le.mpr hbl
  obtain ⟨⟨fs1, v1, r1⟩, fs2, v2, r2⟩ := hp.hd
  obtain ⟨r, w1', w2', m1, m2, hp'⟩ := pr_behind l hp (xs (iv + 1).toNatClampNeg) (xs (iv + 2).toNatClampNeg)
  refine lv_aload_n hx hb dL_law_452 rfl (lv_at hl 2 rfl) ?_
  refine lv_aload_n hx hb dL_law_453 rfl (lv_at hl 3 rfl) ?_
  refine lv_iload_n hx hb dL_law_454 rfl (lv_at hl 0 rfl) ?_
  refine lv_iconst (v := (1 : Int32)) hx hb dL_law_455 (by decide) ?_
  refine lv_iadd hx hb dL_law_456 ?_
  refine va_sld hx hb hX hbl hbA hw.2 i1 dL_law_457 ?_
  refine lv_aload_n hx hb dL_law_458 rfl (lv_at hl 3 rfl) ?_
  refine lv_iload_n hx hb dL_law_459 rfl (lv_at hl 0 rfl) ?_
  refine lv_iconst (v := (2 : Int32)) hx hb dL_law_460 (by decide) ?_
  refine lv_iadd hx hb dL_law_461 ?_
  refine va_sld hx hb hX hbl hbA hw.2 i2 dL_law_462 ?_
  refine callVI (wa := []) (w := w1) (wb := w2) K m1 mt_yX3_behind lk_L_56 ⟨rfl, rfl, by decide, by decide⟩ hw dL_law_463 hl.1 (by decide) rfl r1 rfl rfl rfl (Nat.le_of_ble_eq_true rfl) (fun H locs hw => ?_)
  have hw : Wx G (AL s) (w1' ++ w2) s H locs := hw
  refine lv_aload_n hx hb dL_law_466 rfl (lv_at hl 1 rfl) ?_
  refine lv_aload_n hx hb dL_law_467 rfl (lv_at hl 3 rfl) ?_
  refine lv_iload_n hx hb dL_law_468 rfl (lv_at hl 0 rfl) ?_
  refine lv_iconst (v := (1 : Int32)) hx hb dL_law_469 (by decide) ?_
  refine lv_iadd hx hb dL_law_470 ?_
  refine va_sld hx hb hX hbl hbA hw.2 i1 dL_law_471 ?_
  refine lv_aload_n hx hb dL_law_472 rfl (lv_at hl 3 rfl) ?_
  refine lv_iload_n hx hb dL_law_473 rfl (lv_at hl 0 rfl) ?_
  refine lv_iconst (v := (2 : Int32)) hx hb dL_law_474 (by decide) ?_
  refine lv_iadd hx hb dL_law_475 ?_
  refine va_sld hx hb hX hbl hbA hw.2 i2 dL_law_476 ?_
  refine callVI (wa := w1') (w := w2) (wb := []) K m2 mt_yX4_behind lk_L_59 ⟨rfl, rfl, by decide, by decide⟩ hw dL_law_477 hl.1 (by decide) (by rw [List.append_nil]) r2 rfl rfl rfl (Nat.le_of_ble_eq_true rfl) (fun H locs hw => ?_)
  have hw : Wx G (AL s) (w1' ++ w2') s H locs := by rw [List.append_nil] at hw; exact hw
  refine lv_icmp_eq (tgt := 1090) hx hb dL_law_480 (by decide) (fun hc => ?_) (fun hc => ?_)
  · exact kk _ _ H locs hw hp'
  · exact absurd rfl hc
set_option maxHeartbeats 1000000 in
theorem arm_knownIn {p : Program} {e : Env} {s : State} {m : MethodId} {below : List Frame} {meth : Method} {c : Code} {l : Launch} {b L : Nat} {xs : Nat → Int32} {G : GP} (C0 : lw_At p s m meth c b L xs) (K : Cx p s m #[Value.ref b] meth c (AL s) G cL_law 4 RL ret) {qx qm : Nat → Nat} {w1 w2 : va_W} {H : Heap} {locs : List Loc} {iv : Int32} {ls : Array Slot} (hw : Wx G (AL s) (w1 ++ w2) s H locs) (hp : WP G qx qm w1 w2) (hl : lv_has ls 4 [(3, .int iv), (2, .ref (qm 0)), (1, .ref (qx 0)), (0, .ref b)]) (i1 : vp_in (iv + 1) L) (i2 : vp_in (iv + 2) L) (i3 : vp_in (iv + 3) L) (kk : ∀ (w1 w2 : va_W) (H : Heap) (locs : List Loc), Wx G (AL s) (w1 ++ w2) s H locs → WP G qx qm w1 w2 → W p l e room_1 s m #[Value.ref b] below meth c H locs 59 1099 (lw_Z below #[Value.ref b] s) (F0 m 1090 ls [])) : W p l e room_1 s m #[Value.ref b] below meth c H locs 59 1099 (lw_Z below #[Value.ref b] s) (F0 m 485 ls []) := by
  obtain ⟨hx, hb, hr, hml, hown, hts, hX, hbl, hlocks, hgv⟩ := C0
  have hbA : ¬ AL s b := Nat.not_le.mpr hbl
  obtain ⟨⟨fs1, v1, r1⟩, fs2, v2, r2⟩ := hp.hd
  obtain ⟨r, w1', w2', m1, m2, hp'⟩ := pr_knownIn l hp (xs (iv + 1).toNatClampNeg) (xs (iv + 2).toNatClampNeg)
  refine lv_aload_n hx hb dL_law_485 rfl (lv_at hl 2 rfl) ?_
  refine lv_aload_n hx hb dL_law_486 rfl (lv_at hl 3 rfl) ?_
  refine lv_iload_n hx hb dL_law_487 rfl (lv_at hl 0 rfl) ?_
  refine lv_iconst (v := (1 : Int32)) hx hb dL_law_488 (by decide) ?_
  refine lv_iadd hx hb dL_law_489 ?_
  refine va_sld hx hb hX hbl hbA hw.2 i1 dL_law_490 ?_
  refine lv_aload_n hx hb dL_law_491 rfl (lv_at hl 3 rfl) ?_
  refine lv_iload_n hx hb dL_law_492 rfl (lv_at hl 0 rfl) ?_
  refine lv_iconst (v := (2 : Int32)) hx hb dL_law_493 (by decide) ?_
  refine lv_iadd hx hb dL_law_494 ?_
  refine va_sld hx hb hX hbl hbA hw.2 i2 dL_law_495 ?_
  refine callVI (wa := []) (w := w1) (wb := w2) K m1 mt_yX3_knownIn lk_L_60 ⟨rfl, rfl, by decide, by decide⟩ hw dL_law_496 hl.1 (by decide) rfl r1 rfl rfl rfl (Nat.le_of_ble_eq_true rfl) (fun H locs hw => ?_)
  have hw : Wx G (AL s) (w1' ++ w2) s H locs := hw
  refine lv_aload_n hx hb dL_law_499 rfl (lv_at hl 1 rfl) ?_
  refine lv_aload_n hx hb dL_law_500 rfl (lv_at hl 3 rfl) ?_
  refine lv_iload_n hx hb dL_law_501 rfl (lv_at hl 0 rfl) ?_
  refine lv_iconst (v := (1 : Int32)) hx hb dL_law_502 (by decide) ?_
  refine lv_iadd hx hb dL_law_503 ?_
  refine va_sld hx hb hX hbl hbA hw.2 i1 dL_law_504 ?_
  refine lv_aload_n hx hb dL_law_505 rfl (lv_at hl 3 rfl) ?_
  refine lv_iload_n hx hb dL_law_506 rfl (lv_at hl 0 rfl) ?_
  refine lv_iconst (v := (2 : Int32)) hx hb dL_law_507 (by decide) ?_
  refine lv_iadd hx hb dL_law_508 ?_
  refine va_sld hx hb hX hbl hbA hw.2 i2 dL_law_509 ?_
  refine callVI (wa := w1') (w := w2) (wb := []) K m2 mt_yX4_knownIn lk_L_63 ⟨rfl, rfl, by decide, by decide⟩ hw dL_law_510 hl.1 (by decide) (by rw [List.append_nil]) r2 rfl rfl rfl (Nat.le_of_ble_eq_true rfl) (fun H locs hw => ?_)
  have hw : Wx G (AL s) (w1' ++ w2') s H locs := by rw [List.append_nil] at hw; exact hw
  refine lv_icmp_eq (tgt := 1090) hx hb dL_law_513 (by decide) (fun hc => ?_) (fun hc => ?_)
  · exact kk _ _ H locs hw hp'
  · exact absurd rfl hc
set_option maxHeartbeats 1000000 in
theorem arm_of {p : Program} {e : Env} {s : State} {m : MethodId} {below : List Frame} {meth : Method} {c : Code} {l : Launch} {b L : Nat} {xs : Nat → Int32} {G : GP} (C0 : lw_At p s m meth c b L xs) (K : Cx p s m #[Value.ref b] meth c (AL s) G cL_law 4 RL ret) {qx qm : Nat → Nat} {w1 w2 : va_W} {H : Heap} {locs : List Loc} {iv : Int32} {ls : Array Slot} (hw : Wx G (AL s) (w1 ++ w2) s H locs) (hp : WP G qx qm w1 w2) (hl : lv_has ls 4 [(3, .int iv), (2, .ref (qm 0)), (1, .ref (qx 0)), (0, .ref b)]) (i1 : vp_in (iv + 1) L) (i2 : vp_in (iv + 2) L) (i3 : vp_in (iv + 3) L) (kk : ∀ (w1 w2 : va_W) (H : Heap) (locs : List Loc), Wx G (AL s) (w1 ++ w2) s H locs → WP G qx qm w1 w2 → W p l e room_1 s m #[Value.ref b] below meth c H locs 59 1099 (lw_Z below #[Value.ref b] s) (F0 m 1090 ls [])) : W p l e room_1 s m #[Value.ref b] below meth c H locs 59 1099 (lw_Z below #[Value.ref b] s) (F0 m 518 ls []) := by
  obtain ⟨hx, hb, hr, hml, hown, hts, hX, hbl, hlocks, hgv⟩ := C0
  have hbA : ¬ AL s b := Nat.not_le.mpr hbl
  obtain ⟨⟨fs1, v1, r1⟩, fs2, v2, r2⟩ := hp.hd
  obtain ⟨r, w1', w2', m1, m2, hp'⟩ := pr_of l hp (xs (iv + 1).toNatClampNeg) (xs (iv + 2).toNatClampNeg) (xs (iv + 3).toNatClampNeg)
  refine lv_aload_n hx hb dL_law_518 rfl (lv_at hl 2 rfl) ?_
  refine lv_aload_n hx hb dL_law_519 rfl (lv_at hl 3 rfl) ?_
  refine lv_iload_n hx hb dL_law_520 rfl (lv_at hl 0 rfl) ?_
  refine lv_iconst (v := (1 : Int32)) hx hb dL_law_521 (by decide) ?_
  refine lv_iadd hx hb dL_law_522 ?_
  refine va_sld hx hb hX hbl hbA hw.2 i1 dL_law_523 ?_
  refine lv_aload_n hx hb dL_law_524 rfl (lv_at hl 3 rfl) ?_
  refine lv_iload_n hx hb dL_law_525 rfl (lv_at hl 0 rfl) ?_
  refine lv_iconst (v := (2 : Int32)) hx hb dL_law_526 (by decide) ?_
  refine lv_iadd hx hb dL_law_527 ?_
  refine va_sld hx hb hX hbl hbA hw.2 i2 dL_law_528 ?_
  refine lv_aload_n hx hb dL_law_529 rfl (lv_at hl 3 rfl) ?_
  refine lv_iload_n hx hb dL_law_530 rfl (lv_at hl 0 rfl) ?_
  refine lv_iconst (v := (3 : Int32)) hx hb dL_law_531 (by decide) ?_
  refine lv_iadd hx hb dL_law_532 ?_
  refine va_sld hx hb hX hbl hbA hw.2 i3 dL_law_533 ?_
  refine callVI (wa := []) (w := w1) (wb := w2) K m1 mt_yX3_of lk_L_64 ⟨rfl, rfl, by decide, by decide⟩ hw dL_law_534 hl.1 (by decide) rfl r1 rfl rfl rfl (Nat.le_of_ble_eq_true rfl) (fun H locs hw => ?_)
  have hw : Wx G (AL s) (w1' ++ w2) s H locs := hw
  refine lv_aload_n hx hb dL_law_537 rfl (lv_at hl 1 rfl) ?_
  refine lv_aload_n hx hb dL_law_538 rfl (lv_at hl 3 rfl) ?_
  refine lv_iload_n hx hb dL_law_539 rfl (lv_at hl 0 rfl) ?_
  refine lv_iconst (v := (1 : Int32)) hx hb dL_law_540 (by decide) ?_
  refine lv_iadd hx hb dL_law_541 ?_
  refine va_sld hx hb hX hbl hbA hw.2 i1 dL_law_542 ?_
  refine lv_aload_n hx hb dL_law_543 rfl (lv_at hl 3 rfl) ?_
  refine lv_iload_n hx hb dL_law_544 rfl (lv_at hl 0 rfl) ?_
  refine lv_iconst (v := (2 : Int32)) hx hb dL_law_545 (by decide) ?_
  refine lv_iadd hx hb dL_law_546 ?_
  refine va_sld hx hb hX hbl hbA hw.2 i2 dL_law_547 ?_
  refine lv_aload_n hx hb dL_law_548 rfl (lv_at hl 3 rfl) ?_
  refine lv_iload_n hx hb dL_law_549 rfl (lv_at hl 0 rfl) ?_
  refine lv_iconst (v := (3 : Int32)) hx hb dL_law_550 (by decide) ?_
  refine lv_iadd hx hb dL_law_551 ?_
  refine va_sld hx hb hX hbl hbA hw.2 i3 dL_law_552 ?_
  refine callVI (wa := w1') (w := w2) (wb := []) K m2 mt_yX4_of lk_L_68 ⟨rfl, rfl, by decide, by decide⟩ hw dL_law_553 hl.1 (by decide) (by rw [List.append_nil]) r2 rfl rfl rfl (Nat.le_of_ble_eq_true rfl) (fun H locs hw => ?_)
  have hw : Wx G (AL s) (w1' ++ w2') s H locs := by rw [List.append_nil] at hw; exact hw
  refine lv_icmp_eq (tgt := 1090) hx hb dL_law_556 (by decide) (fun hc => ?_) (fun hc => ?_)
  · exact kk _ _ H locs hw hp'
  · exact absurd rfl hc
set_option maxHeartbeats 1000000 in
theorem arm_knows {p : Program} {e : Env} {s : State} {m : MethodId} {below : List Frame} {meth : Method} {c : Code} {l : Launch} {b L : Nat} {xs : Nat → Int32} {G : GP} (C0 : lw_At p s m meth c b L xs) (K : Cx p s m #[Value.ref b] meth c (AL s) G cL_law 4 RL ret) {qx qm : Nat → Nat} {w1 w2 : va_W} {H : Heap} {locs : List Loc} {iv : Int32} {ls : Array Slot} (hw : Wx G (AL s) (w1 ++ w2) s H locs) (hp : WP G qx qm w1 w2) (hl : lv_has ls 4 [(3, .int iv), (2, .ref (qm 0)), (1, .ref (qx 0)), (0, .ref b)]) (i1 : vp_in (iv + 1) L) (i2 : vp_in (iv + 2) L) (i3 : vp_in (iv + 3) L) (kk : ∀ (w1 w2 : va_W) (H : Heap) (locs : List Loc), Wx G (AL s) (w1 ++ w2) s H locs → WP G qx qm w1 w2 → W p l e room_1 s m #[Value.ref b] below meth c H locs 59 1099 (lw_Z below #[Value.ref b] s) (F0 m 1090 ls [])) : W p l e room_1 s m #[Value.ref b] below meth c H locs 59 1099 (lw_Z below #[Value.ref b] s) (F0 m 561 ls []) := by
  obtain ⟨hx, hb, hr, hml, hown, hts, hX, hbl, hlocks, hgv⟩ := C0
  have hbA : ¬ AL s b := Nat.not_le.mpr hbl
  obtain ⟨⟨fs1, v1, r1⟩, fs2, v2, r2⟩ := hp.hd
  obtain ⟨r, w1', w2', m1, m2, hp'⟩ := pr_knows l hp (xs (iv + 1).toNatClampNeg) (xs (iv + 2).toNatClampNeg)
  refine lv_aload_n hx hb dL_law_561 rfl (lv_at hl 2 rfl) ?_
  refine lv_aload_n hx hb dL_law_562 rfl (lv_at hl 3 rfl) ?_
  refine lv_iload_n hx hb dL_law_563 rfl (lv_at hl 0 rfl) ?_
  refine lv_iconst (v := (1 : Int32)) hx hb dL_law_564 (by decide) ?_
  refine lv_iadd hx hb dL_law_565 ?_
  refine va_sld hx hb hX hbl hbA hw.2 i1 dL_law_566 ?_
  refine lv_aload_n hx hb dL_law_567 rfl (lv_at hl 3 rfl) ?_
  refine lv_iload_n hx hb dL_law_568 rfl (lv_at hl 0 rfl) ?_
  refine lv_iconst (v := (2 : Int32)) hx hb dL_law_569 (by decide) ?_
  refine lv_iadd hx hb dL_law_570 ?_
  refine va_sld hx hb hX hbl hbA hw.2 i2 dL_law_571 ?_
  refine callVI (wa := []) (w := w1) (wb := w2) K m1 mt_yX3_knows lk_L_69 ⟨rfl, rfl, by decide, by decide⟩ hw dL_law_572 hl.1 (by decide) rfl r1 rfl rfl rfl (Nat.le_of_ble_eq_true rfl) (fun H locs hw => ?_)
  have hw : Wx G (AL s) (w1' ++ w2) s H locs := hw
  refine lv_aload_n hx hb dL_law_575 rfl (lv_at hl 1 rfl) ?_
  refine lv_aload_n hx hb dL_law_576 rfl (lv_at hl 3 rfl) ?_
  refine lv_iload_n hx hb dL_law_577 rfl (lv_at hl 0 rfl) ?_
  refine lv_iconst (v := (1 : Int32)) hx hb dL_law_578 (by decide) ?_
  refine lv_iadd hx hb dL_law_579 ?_
  refine va_sld hx hb hX hbl hbA hw.2 i1 dL_law_580 ?_
  refine lv_aload_n hx hb dL_law_581 rfl (lv_at hl 3 rfl) ?_
  refine lv_iload_n hx hb dL_law_582 rfl (lv_at hl 0 rfl) ?_
  refine lv_iconst (v := (2 : Int32)) hx hb dL_law_583 (by decide) ?_
  refine lv_iadd hx hb dL_law_584 ?_
  refine va_sld hx hb hX hbl hbA hw.2 i2 dL_law_585 ?_
  refine callVI (wa := w1') (w := w2) (wb := []) K m2 mt_yX4_knows lk_L_72 ⟨rfl, rfl, by decide, by decide⟩ hw dL_law_586 hl.1 (by decide) (by rw [List.append_nil]) r2 rfl rfl rfl (Nat.le_of_ble_eq_true rfl) (fun H locs hw => ?_)
  have hw : Wx G (AL s) (w1' ++ w2') s H locs := by rw [List.append_nil] at hw; exact hw
  refine lv_icmp_eq (tgt := 1090) hx hb dL_law_589 (by decide) (fun hc => ?_) (fun hc => ?_)
  · exact kk _ _ H locs hw hp'
  · exact absurd rfl hc
set_option maxHeartbeats 1000000 in
theorem arm_silent {p : Program} {e : Env} {s : State} {m : MethodId} {below : List Frame} {meth : Method} {c : Code} {l : Launch} {b L : Nat} {xs : Nat → Int32} {G : GP} (C0 : lw_At p s m meth c b L xs) (K : Cx p s m #[Value.ref b] meth c (AL s) G cL_law 4 RL ret) {qx qm : Nat → Nat} {w1 w2 : va_W} {H : Heap} {locs : List Loc} {iv : Int32} {ls : Array Slot} (hw : Wx G (AL s) (w1 ++ w2) s H locs) (hp : WP G qx qm w1 w2) (hl : lv_has ls 4 [(3, .int iv), (2, .ref (qm 0)), (1, .ref (qx 0)), (0, .ref b)]) (i1 : vp_in (iv + 1) L) (i2 : vp_in (iv + 2) L) (i3 : vp_in (iv + 3) L) (kk : ∀ (w1 w2 : va_W) (H : Heap) (locs : List Loc), Wx G (AL s) (w1 ++ w2) s H locs → WP G qx qm w1 w2 → W p l e room_1 s m #[Value.ref b] below meth c H locs 59 1099 (lw_Z below #[Value.ref b] s) (F0 m 1090 ls [])) : W p l e room_1 s m #[Value.ref b] below meth c H locs 59 1099 (lw_Z below #[Value.ref b] s) (F0 m 594 ls []) := by
  obtain ⟨hx, hb, hr, hml, hown, hts, hX, hbl, hlocks, hgv⟩ := C0
  have hbA : ¬ AL s b := Nat.not_le.mpr hbl
  obtain ⟨⟨fs1, v1, r1⟩, fs2, v2, r2⟩ := hp.hd
  obtain ⟨r, w1', w2', m1, m2, hp'⟩ := pr_silent l hp 
  refine lv_aload_n hx hb dL_law_594 rfl (lv_at hl 2 rfl) ?_
  refine callVI (wa := []) (w := w1) (wb := w2) K m1 mt_yX3_silent lk_L_73 ⟨rfl, rfl, by decide, by decide⟩ hw dL_law_595 hl.1 (by decide) rfl r1 rfl rfl rfl (Nat.le_of_ble_eq_true rfl) (fun H locs hw => ?_)
  have hw : Wx G (AL s) (w1' ++ w2) s H locs := hw
  refine lv_aload_n hx hb dL_law_598 rfl (lv_at hl 1 rfl) ?_
  refine callVI (wa := w1') (w := w2) (wb := []) K m2 mt_yX4_silent lk_L_76 ⟨rfl, rfl, by decide, by decide⟩ hw dL_law_599 hl.1 (by decide) (by rw [List.append_nil]) r2 rfl rfl rfl (Nat.le_of_ble_eq_true rfl) (fun H locs hw => ?_)
  have hw : Wx G (AL s) (w1' ++ w2') s H locs := by rw [List.append_nil] at hw; exact hw
  refine lv_icmp_eq (tgt := 1090) hx hb dL_law_602 (by decide) (fun hc => ?_) (fun hc => ?_)
  · exact kk _ _ H locs hw hp'
  · exact absurd rfl hc
set_option maxHeartbeats 1000000 in
theorem arm_week {p : Program} {e : Env} {s : State} {m : MethodId} {below : List Frame} {meth : Method} {c : Code} {l : Launch} {b L : Nat} {xs : Nat → Int32} {G : GP} (C0 : lw_At p s m meth c b L xs) (K : Cx p s m #[Value.ref b] meth c (AL s) G cL_law 4 RL ret) {qx qm : Nat → Nat} {w1 w2 : va_W} {H : Heap} {locs : List Loc} {iv : Int32} {ls : Array Slot} (hw : Wx G (AL s) (w1 ++ w2) s H locs) (hp : WP G qx qm w1 w2) (hl : lv_has ls 4 [(3, .int iv), (2, .ref (qm 0)), (1, .ref (qx 0)), (0, .ref b)]) (i1 : vp_in (iv + 1) L) (i2 : vp_in (iv + 2) L) (i3 : vp_in (iv + 3) L) (kk : ∀ (w1 w2 : va_W) (H : Heap) (locs : List Loc), Wx G (AL s) (w1 ++ w2) s H locs → WP G qx qm w1 w2 → W p l e room_1 s m #[Value.ref b] below meth c H locs 59 1099 (lw_Z below #[Value.ref b] s) (F0 m 1090 ls [])) : W p l e room_1 s m #[Value.ref b] below meth c H locs 59 1099 (lw_Z below #[Value.ref b] s) (F0 m 607 ls []) := by
  obtain ⟨hx, hb, hr, hml, hown, hts, hX, hbl, hlocks, hgv⟩ := C0
  have hbA : ¬ AL s b := Nat.not_le.mpr hbl
  obtain ⟨⟨fs1, v1, r1⟩, fs2, v2, r2⟩ := hp.hd
  obtain ⟨r, w1', w2', m1, m2, hp'⟩ := pr_week l hp (xs (iv + 1).toNatClampNeg)
  refine lv_aload_n hx hb dL_law_607 rfl (lv_at hl 2 rfl) ?_
  refine lv_aload_n hx hb dL_law_608 rfl (lv_at hl 3 rfl) ?_
  refine lv_iload_n hx hb dL_law_609 rfl (lv_at hl 0 rfl) ?_
  refine lv_iconst (v := (1 : Int32)) hx hb dL_law_610 (by decide) ?_
  refine lv_iadd hx hb dL_law_611 ?_
  refine va_sld hx hb hX hbl hbA hw.2 i1 dL_law_612 ?_
  refine callVI (wa := []) (w := w1) (wb := w2) K m1 mt_yX3_week lk_L_77 ⟨rfl, rfl, by decide, by decide⟩ hw dL_law_613 hl.1 (by decide) rfl r1 rfl rfl rfl (Nat.le_of_ble_eq_true rfl) (fun H locs hw => ?_)
  have hw : Wx G (AL s) (w1' ++ w2) s H locs := hw
  refine lv_aload_n hx hb dL_law_616 rfl (lv_at hl 1 rfl) ?_
  refine lv_aload_n hx hb dL_law_617 rfl (lv_at hl 3 rfl) ?_
  refine lv_iload_n hx hb dL_law_618 rfl (lv_at hl 0 rfl) ?_
  refine lv_iconst (v := (1 : Int32)) hx hb dL_law_619 (by decide) ?_
  refine lv_iadd hx hb dL_law_620 ?_
  refine va_sld hx hb hX hbl hbA hw.2 i1 dL_law_621 ?_
  refine callVI (wa := w1') (w := w2) (wb := []) K m2 mt_yX4_week lk_L_80 ⟨rfl, rfl, by decide, by decide⟩ hw dL_law_622 hl.1 (by decide) (by rw [List.append_nil]) r2 rfl rfl rfl (Nat.le_of_ble_eq_true rfl) (fun H locs hw => ?_)
  have hw : Wx G (AL s) (w1' ++ w2') s H locs := by rw [List.append_nil] at hw; exact hw
  refine lv_icmp_eq (tgt := 1090) hx hb dL_law_625 (by decide) (fun hc => ?_) (fun hc => ?_)
  · exact kk _ _ H locs hw hp'
  · exact absurd rfl hc
set_option maxHeartbeats 1000000 in
theorem arm_bestWeek {p : Program} {e : Env} {s : State} {m : MethodId} {below : List Frame} {meth : Method} {c : Code} {l : Launch} {b L : Nat} {xs : Nat → Int32} {G : GP} (C0 : lw_At p s m meth c b L xs) (K : Cx p s m #[Value.ref b] meth c (AL s) G cL_law 4 RL ret) {qx qm : Nat → Nat} {w1 w2 : va_W} {H : Heap} {locs : List Loc} {iv : Int32} {ls : Array Slot} (hw : Wx G (AL s) (w1 ++ w2) s H locs) (hp : WP G qx qm w1 w2) (hl : lv_has ls 4 [(3, .int iv), (2, .ref (qm 0)), (1, .ref (qx 0)), (0, .ref b)]) (i1 : vp_in (iv + 1) L) (i2 : vp_in (iv + 2) L) (i3 : vp_in (iv + 3) L) (kk : ∀ (w1 w2 : va_W) (H : Heap) (locs : List Loc), Wx G (AL s) (w1 ++ w2) s H locs → WP G qx qm w1 w2 → W p l e room_1 s m #[Value.ref b] below meth c H locs 59 1099 (lw_Z below #[Value.ref b] s) (F0 m 1090 ls [])) : W p l e room_1 s m #[Value.ref b] below meth c H locs 59 1099 (lw_Z below #[Value.ref b] s) (F0 m 630 ls []) := by
  obtain ⟨hx, hb, hr, hml, hown, hts, hX, hbl, hlocks, hgv⟩ := C0
  have hbA : ¬ AL s b := Nat.not_le.mpr hbl
  obtain ⟨⟨fs1, v1, r1⟩, fs2, v2, r2⟩ := hp.hd
  obtain ⟨r, w1', w2', m1, m2, hp'⟩ := pr_bestWeek l hp (xs (iv + 1).toNatClampNeg)
  refine lv_aload_n hx hb dL_law_630 rfl (lv_at hl 2 rfl) ?_
  refine lv_aload_n hx hb dL_law_631 rfl (lv_at hl 3 rfl) ?_
  refine lv_iload_n hx hb dL_law_632 rfl (lv_at hl 0 rfl) ?_
  refine lv_iconst (v := (1 : Int32)) hx hb dL_law_633 (by decide) ?_
  refine lv_iadd hx hb dL_law_634 ?_
  refine va_sld hx hb hX hbl hbA hw.2 i1 dL_law_635 ?_
  refine callVI (wa := []) (w := w1) (wb := w2) K m1 mt_yX3_bestWeek lk_L_81 ⟨rfl, rfl, by decide, by decide⟩ hw dL_law_636 hl.1 (by decide) rfl r1 rfl rfl rfl (Nat.le_of_ble_eq_true rfl) (fun H locs hw => ?_)
  have hw : Wx G (AL s) (w1' ++ w2) s H locs := hw
  refine lv_aload_n hx hb dL_law_639 rfl (lv_at hl 1 rfl) ?_
  refine lv_aload_n hx hb dL_law_640 rfl (lv_at hl 3 rfl) ?_
  refine lv_iload_n hx hb dL_law_641 rfl (lv_at hl 0 rfl) ?_
  refine lv_iconst (v := (1 : Int32)) hx hb dL_law_642 (by decide) ?_
  refine lv_iadd hx hb dL_law_643 ?_
  refine va_sld hx hb hX hbl hbA hw.2 i1 dL_law_644 ?_
  refine callVI (wa := w1') (w := w2) (wb := []) K m2 mt_yX4_bestWeek lk_L_84 ⟨rfl, rfl, by decide, by decide⟩ hw dL_law_645 hl.1 (by decide) (by rw [List.append_nil]) r2 rfl rfl rfl (Nat.le_of_ble_eq_true rfl) (fun H locs hw => ?_)
  have hw : Wx G (AL s) (w1' ++ w2') s H locs := by rw [List.append_nil] at hw; exact hw
  refine lv_icmp_eq (tgt := 1090) hx hb dL_law_648 (by decide) (fun hc => ?_) (fun hc => ?_)
  · exact kk _ _ H locs hw hp'
  · exact absurd rfl hc
set_option maxHeartbeats 1000000 in
theorem arm_bestTune {p : Program} {e : Env} {s : State} {m : MethodId} {below : List Frame} {meth : Method} {c : Code} {l : Launch} {b L : Nat} {xs : Nat → Int32} {G : GP} (C0 : lw_At p s m meth c b L xs) (K : Cx p s m #[Value.ref b] meth c (AL s) G cL_law 4 RL ret) {qx qm : Nat → Nat} {w1 w2 : va_W} {H : Heap} {locs : List Loc} {iv : Int32} {ls : Array Slot} (hw : Wx G (AL s) (w1 ++ w2) s H locs) (hp : WP G qx qm w1 w2) (hl : lv_has ls 4 [(3, .int iv), (2, .ref (qm 0)), (1, .ref (qx 0)), (0, .ref b)]) (i1 : vp_in (iv + 1) L) (i2 : vp_in (iv + 2) L) (i3 : vp_in (iv + 3) L) (kk : ∀ (w1 w2 : va_W) (H : Heap) (locs : List Loc), Wx G (AL s) (w1 ++ w2) s H locs → WP G qx qm w1 w2 → W p l e room_1 s m #[Value.ref b] below meth c H locs 59 1099 (lw_Z below #[Value.ref b] s) (F0 m 1090 ls [])) : W p l e room_1 s m #[Value.ref b] below meth c H locs 59 1099 (lw_Z below #[Value.ref b] s) (F0 m 653 ls []) := by
  obtain ⟨hx, hb, hr, hml, hown, hts, hX, hbl, hlocks, hgv⟩ := C0
  have hbA : ¬ AL s b := Nat.not_le.mpr hbl
  obtain ⟨⟨fs1, v1, r1⟩, fs2, v2, r2⟩ := hp.hd
  obtain ⟨r, w1', w2', m1, m2, hp'⟩ := pr_bestTune l hp (xs (iv + 1).toNatClampNeg)
  refine lv_aload_n hx hb dL_law_653 rfl (lv_at hl 2 rfl) ?_
  refine lv_aload_n hx hb dL_law_654 rfl (lv_at hl 3 rfl) ?_
  refine lv_iload_n hx hb dL_law_655 rfl (lv_at hl 0 rfl) ?_
  refine lv_iconst (v := (1 : Int32)) hx hb dL_law_656 (by decide) ?_
  refine lv_iadd hx hb dL_law_657 ?_
  refine va_sld hx hb hX hbl hbA hw.2 i1 dL_law_658 ?_
  refine callVI (wa := []) (w := w1) (wb := w2) K m1 mt_yX3_bestTune lk_L_85 ⟨rfl, rfl, by decide, by decide⟩ hw dL_law_659 hl.1 (by decide) rfl r1 rfl rfl rfl (Nat.le_of_ble_eq_true rfl) (fun H locs hw => ?_)
  have hw : Wx G (AL s) (w1' ++ w2) s H locs := hw
  refine lv_aload_n hx hb dL_law_662 rfl (lv_at hl 1 rfl) ?_
  refine lv_aload_n hx hb dL_law_663 rfl (lv_at hl 3 rfl) ?_
  refine lv_iload_n hx hb dL_law_664 rfl (lv_at hl 0 rfl) ?_
  refine lv_iconst (v := (1 : Int32)) hx hb dL_law_665 (by decide) ?_
  refine lv_iadd hx hb dL_law_666 ?_
  refine va_sld hx hb hX hbl hbA hw.2 i1 dL_law_667 ?_
  refine callVI (wa := w1') (w := w2) (wb := []) K m2 mt_yX4_bestTune lk_L_88 ⟨rfl, rfl, by decide, by decide⟩ hw dL_law_668 hl.1 (by decide) (by rw [List.append_nil]) r2 rfl rfl rfl (Nat.le_of_ble_eq_true rfl) (fun H locs hw => ?_)
  have hw : Wx G (AL s) (w1' ++ w2') s H locs := by rw [List.append_nil] at hw; exact hw
  refine lv_icmp_eq (tgt := 1090) hx hb dL_law_671 (by decide) (fun hc => ?_) (fun hc => ?_)
  · exact kk _ _ H locs hw hp'
  · exact absurd rfl hc
set_option maxHeartbeats 1000000 in
theorem arm_worst {p : Program} {e : Env} {s : State} {m : MethodId} {below : List Frame} {meth : Method} {c : Code} {l : Launch} {b L : Nat} {xs : Nat → Int32} {G : GP} (C0 : lw_At p s m meth c b L xs) (K : Cx p s m #[Value.ref b] meth c (AL s) G cL_law 4 RL ret) {qx qm : Nat → Nat} {w1 w2 : va_W} {H : Heap} {locs : List Loc} {iv : Int32} {ls : Array Slot} (hw : Wx G (AL s) (w1 ++ w2) s H locs) (hp : WP G qx qm w1 w2) (hl : lv_has ls 4 [(3, .int iv), (2, .ref (qm 0)), (1, .ref (qx 0)), (0, .ref b)]) (i1 : vp_in (iv + 1) L) (i2 : vp_in (iv + 2) L) (i3 : vp_in (iv + 3) L) (kk : ∀ (w1 w2 : va_W) (H : Heap) (locs : List Loc), Wx G (AL s) (w1 ++ w2) s H locs → WP G qx qm w1 w2 → W p l e room_1 s m #[Value.ref b] below meth c H locs 59 1099 (lw_Z below #[Value.ref b] s) (F0 m 1090 ls [])) : W p l e room_1 s m #[Value.ref b] below meth c H locs 59 1099 (lw_Z below #[Value.ref b] s) (F0 m 676 ls []) := by
  obtain ⟨hx, hb, hr, hml, hown, hts, hX, hbl, hlocks, hgv⟩ := C0
  have hbA : ¬ AL s b := Nat.not_le.mpr hbl
  obtain ⟨⟨fs1, v1, r1⟩, fs2, v2, r2⟩ := hp.hd
  obtain ⟨r, w1', w2', m1, m2, hp'⟩ := pr_worst l hp (xs (iv + 1).toNatClampNeg)
  refine lv_aload_n hx hb dL_law_676 rfl (lv_at hl 2 rfl) ?_
  refine lv_aload_n hx hb dL_law_677 rfl (lv_at hl 3 rfl) ?_
  refine lv_iload_n hx hb dL_law_678 rfl (lv_at hl 0 rfl) ?_
  refine lv_iconst (v := (1 : Int32)) hx hb dL_law_679 (by decide) ?_
  refine lv_iadd hx hb dL_law_680 ?_
  refine va_sld hx hb hX hbl hbA hw.2 i1 dL_law_681 ?_
  refine callVI (wa := []) (w := w1) (wb := w2) K m1 mt_yX3_worst lk_L_89 ⟨rfl, rfl, by decide, by decide⟩ hw dL_law_682 hl.1 (by decide) rfl r1 rfl rfl rfl (Nat.le_of_ble_eq_true rfl) (fun H locs hw => ?_)
  have hw : Wx G (AL s) (w1' ++ w2) s H locs := hw
  refine lv_aload_n hx hb dL_law_685 rfl (lv_at hl 1 rfl) ?_
  refine lv_aload_n hx hb dL_law_686 rfl (lv_at hl 3 rfl) ?_
  refine lv_iload_n hx hb dL_law_687 rfl (lv_at hl 0 rfl) ?_
  refine lv_iconst (v := (1 : Int32)) hx hb dL_law_688 (by decide) ?_
  refine lv_iadd hx hb dL_law_689 ?_
  refine va_sld hx hb hX hbl hbA hw.2 i1 dL_law_690 ?_
  refine callVI (wa := w1') (w := w2) (wb := []) K m2 mt_yX4_worst lk_L_92 ⟨rfl, rfl, by decide, by decide⟩ hw dL_law_691 hl.1 (by decide) (by rw [List.append_nil]) r2 rfl rfl rfl (Nat.le_of_ble_eq_true rfl) (fun H locs hw => ?_)
  have hw : Wx G (AL s) (w1' ++ w2') s H locs := by rw [List.append_nil] at hw; exact hw
  refine lv_icmp_eq (tgt := 1090) hx hb dL_law_694 (by decide) (fun hc => ?_) (fun hc => ?_)
  · exact kk _ _ H locs hw hp'
  · exact absurd rfl hc
set_option maxHeartbeats 1000000 in
theorem arm_bestHour {p : Program} {e : Env} {s : State} {m : MethodId} {below : List Frame} {meth : Method} {c : Code} {l : Launch} {b L : Nat} {xs : Nat → Int32} {G : GP} (C0 : lw_At p s m meth c b L xs) (K : Cx p s m #[Value.ref b] meth c (AL s) G cL_law 4 RL ret) {qx qm : Nat → Nat} {w1 w2 : va_W} {H : Heap} {locs : List Loc} {iv : Int32} {ls : Array Slot} (hw : Wx G (AL s) (w1 ++ w2) s H locs) (hp : WP G qx qm w1 w2) (hl : lv_has ls 4 [(3, .int iv), (2, .ref (qm 0)), (1, .ref (qx 0)), (0, .ref b)]) (i1 : vp_in (iv + 1) L) (i2 : vp_in (iv + 2) L) (i3 : vp_in (iv + 3) L) (kk : ∀ (w1 w2 : va_W) (H : Heap) (locs : List Loc), Wx G (AL s) (w1 ++ w2) s H locs → WP G qx qm w1 w2 → W p l e room_1 s m #[Value.ref b] below meth c H locs 59 1099 (lw_Z below #[Value.ref b] s) (F0 m 1090 ls [])) : W p l e room_1 s m #[Value.ref b] below meth c H locs 59 1099 (lw_Z below #[Value.ref b] s) (F0 m 699 ls []) := by
  obtain ⟨hx, hb, hr, hml, hown, hts, hX, hbl, hlocks, hgv⟩ := C0
  have hbA : ¬ AL s b := Nat.not_le.mpr hbl
  obtain ⟨⟨fs1, v1, r1⟩, fs2, v2, r2⟩ := hp.hd
  obtain ⟨r, w1', w2', m1, m2, hp'⟩ := pr_bestHour l hp (xs (iv + 1).toNatClampNeg) (xs (iv + 2).toNatClampNeg)
  refine lv_aload_n hx hb dL_law_699 rfl (lv_at hl 2 rfl) ?_
  refine lv_aload_n hx hb dL_law_700 rfl (lv_at hl 3 rfl) ?_
  refine lv_iload_n hx hb dL_law_701 rfl (lv_at hl 0 rfl) ?_
  refine lv_iconst (v := (1 : Int32)) hx hb dL_law_702 (by decide) ?_
  refine lv_iadd hx hb dL_law_703 ?_
  refine va_sld hx hb hX hbl hbA hw.2 i1 dL_law_704 ?_
  refine lv_aload_n hx hb dL_law_705 rfl (lv_at hl 3 rfl) ?_
  refine lv_iload_n hx hb dL_law_706 rfl (lv_at hl 0 rfl) ?_
  refine lv_iconst (v := (2 : Int32)) hx hb dL_law_707 (by decide) ?_
  refine lv_iadd hx hb dL_law_708 ?_
  refine va_sld hx hb hX hbl hbA hw.2 i2 dL_law_709 ?_
  refine callVI (wa := []) (w := w1) (wb := w2) K m1 mt_yX3_bestHour lk_L_93 ⟨rfl, rfl, by decide, by decide⟩ hw dL_law_710 hl.1 (by decide) rfl r1 rfl rfl rfl (Nat.le_of_ble_eq_true rfl) (fun H locs hw => ?_)
  have hw : Wx G (AL s) (w1' ++ w2) s H locs := hw
  refine lv_aload_n hx hb dL_law_713 rfl (lv_at hl 1 rfl) ?_
  refine lv_aload_n hx hb dL_law_714 rfl (lv_at hl 3 rfl) ?_
  refine lv_iload_n hx hb dL_law_715 rfl (lv_at hl 0 rfl) ?_
  refine lv_iconst (v := (1 : Int32)) hx hb dL_law_716 (by decide) ?_
  refine lv_iadd hx hb dL_law_717 ?_
  refine va_sld hx hb hX hbl hbA hw.2 i1 dL_law_718 ?_
  refine lv_aload_n hx hb dL_law_719 rfl (lv_at hl 3 rfl) ?_
  refine lv_iload_n hx hb dL_law_720 rfl (lv_at hl 0 rfl) ?_
  refine lv_iconst (v := (2 : Int32)) hx hb dL_law_721 (by decide) ?_
  refine lv_iadd hx hb dL_law_722 ?_
  refine va_sld hx hb hX hbl hbA hw.2 i2 dL_law_723 ?_
  refine callVI (wa := w1') (w := w2) (wb := []) K m2 mt_yX4_bestHour lk_L_96 ⟨rfl, rfl, by decide, by decide⟩ hw dL_law_724 hl.1 (by decide) (by rw [List.append_nil]) r2 rfl rfl rfl (Nat.le_of_ble_eq_true rfl) (fun H locs hw => ?_)
  have hw : Wx G (AL s) (w1' ++ w2') s H locs := by rw [List.append_nil] at hw; exact hw
  refine lv_icmp_eq (tgt := 1090) hx hb dL_law_727 (by decide) (fun hc => ?_) (fun hc => ?_)
  · exact kk _ _ H locs hw hp'
  · exact absurd rfl hc
set_option maxHeartbeats 1000000 in
theorem arm_keepAway {p : Program} {e : Env} {s : State} {m : MethodId} {below : List Frame} {meth : Method} {c : Code} {l : Launch} {b L : Nat} {xs : Nat → Int32} {G : GP} (C0 : lw_At p s m meth c b L xs) (K : Cx p s m #[Value.ref b] meth c (AL s) G cL_law 4 RL ret) {qx qm : Nat → Nat} {w1 w2 : va_W} {H : Heap} {locs : List Loc} {iv : Int32} {ls : Array Slot} (hw : Wx G (AL s) (w1 ++ w2) s H locs) (hp : WP G qx qm w1 w2) (hl : lv_has ls 4 [(3, .int iv), (2, .ref (qm 0)), (1, .ref (qx 0)), (0, .ref b)]) (i1 : vp_in (iv + 1) L) (i2 : vp_in (iv + 2) L) (i3 : vp_in (iv + 3) L) (kk : ∀ (w1 w2 : va_W) (H : Heap) (locs : List Loc), Wx G (AL s) (w1 ++ w2) s H locs → WP G qx qm w1 w2 → W p l e room_1 s m #[Value.ref b] below meth c H locs 59 1099 (lw_Z below #[Value.ref b] s) (F0 m 1090 ls [])) : W p l e room_1 s m #[Value.ref b] below meth c H locs 59 1099 (lw_Z below #[Value.ref b] s) (F0 m 732 ls []) := by
  obtain ⟨hx, hb, hr, hml, hown, hts, hX, hbl, hlocks, hgv⟩ := C0
  have hbA : ¬ AL s b := Nat.not_le.mpr hbl
  obtain ⟨⟨fs1, v1, r1⟩, fs2, v2, r2⟩ := hp.hd
  obtain ⟨r, w1', w2', m1, m2, hp'⟩ := pr_keepAway l hp (xs (iv + 1).toNatClampNeg) (xs (iv + 2).toNatClampNeg)
  refine lv_aload_n hx hb dL_law_732 rfl (lv_at hl 2 rfl) ?_
  refine lv_aload_n hx hb dL_law_733 rfl (lv_at hl 3 rfl) ?_
  refine lv_iload_n hx hb dL_law_734 rfl (lv_at hl 0 rfl) ?_
  refine lv_iconst (v := (1 : Int32)) hx hb dL_law_735 (by decide) ?_
  refine lv_iadd hx hb dL_law_736 ?_
  refine va_sld hx hb hX hbl hbA hw.2 i1 dL_law_737 ?_
  refine lv_aload_n hx hb dL_law_738 rfl (lv_at hl 3 rfl) ?_
  refine lv_iload_n hx hb dL_law_739 rfl (lv_at hl 0 rfl) ?_
  refine lv_iconst (v := (2 : Int32)) hx hb dL_law_740 (by decide) ?_
  refine lv_iadd hx hb dL_law_741 ?_
  refine va_sld hx hb hX hbl hbA hw.2 i2 dL_law_742 ?_
  refine callVI (wa := []) (w := w1) (wb := w2) K m1 mt_yX3_keepAway lk_L_97 ⟨rfl, rfl, by decide, by decide⟩ hw dL_law_743 hl.1 (by decide) rfl r1 rfl rfl rfl (Nat.le_of_ble_eq_true rfl) (fun H locs hw => ?_)
  have hw : Wx G (AL s) (w1' ++ w2) s H locs := hw
  refine lv_aload_n hx hb dL_law_746 rfl (lv_at hl 1 rfl) ?_
  refine lv_aload_n hx hb dL_law_747 rfl (lv_at hl 3 rfl) ?_
  refine lv_iload_n hx hb dL_law_748 rfl (lv_at hl 0 rfl) ?_
  refine lv_iconst (v := (1 : Int32)) hx hb dL_law_749 (by decide) ?_
  refine lv_iadd hx hb dL_law_750 ?_
  refine va_sld hx hb hX hbl hbA hw.2 i1 dL_law_751 ?_
  refine lv_aload_n hx hb dL_law_752 rfl (lv_at hl 3 rfl) ?_
  refine lv_iload_n hx hb dL_law_753 rfl (lv_at hl 0 rfl) ?_
  refine lv_iconst (v := (2 : Int32)) hx hb dL_law_754 (by decide) ?_
  refine lv_iadd hx hb dL_law_755 ?_
  refine va_sld hx hb hX hbl hbA hw.2 i2 dL_law_756 ?_
  refine callVI (wa := w1') (w := w2) (wb := []) K m2 mt_yX4_keepAway lk_L_100 ⟨rfl, rfl, by decide, by decide⟩ hw dL_law_757 hl.1 (by decide) (by rw [List.append_nil]) r2 rfl rfl rfl (Nat.le_of_ble_eq_true rfl) (fun H locs hw => ?_)
  have hw : Wx G (AL s) (w1' ++ w2') s H locs := by rw [List.append_nil] at hw; exact hw
  refine lv_icmp_eq (tgt := 1090) hx hb dL_law_760 (by decide) (fun hc => ?_) (fun hc => ?_)
  · exact kk _ _ H locs hw hp'
  · exact absurd rfl hc
set_option maxHeartbeats 1000000 in
theorem arm_might {p : Program} {e : Env} {s : State} {m : MethodId} {below : List Frame} {meth : Method} {c : Code} {l : Launch} {b L : Nat} {xs : Nat → Int32} {G : GP} (C0 : lw_At p s m meth c b L xs) (K : Cx p s m #[Value.ref b] meth c (AL s) G cL_law 4 RL ret) {qx qm : Nat → Nat} {w1 w2 : va_W} {H : Heap} {locs : List Loc} {iv : Int32} {ls : Array Slot} (hw : Wx G (AL s) (w1 ++ w2) s H locs) (hp : WP G qx qm w1 w2) (hl : lv_has ls 4 [(3, .int iv), (2, .ref (qm 0)), (1, .ref (qx 0)), (0, .ref b)]) (i1 : vp_in (iv + 1) L) (i2 : vp_in (iv + 2) L) (i3 : vp_in (iv + 3) L) (kk : ∀ (w1 w2 : va_W) (H : Heap) (locs : List Loc), Wx G (AL s) (w1 ++ w2) s H locs → WP G qx qm w1 w2 → W p l e room_1 s m #[Value.ref b] below meth c H locs 59 1099 (lw_Z below #[Value.ref b] s) (F0 m 1090 ls [])) : W p l e room_1 s m #[Value.ref b] below meth c H locs 59 1099 (lw_Z below #[Value.ref b] s) (F0 m 765 ls []) := by
  obtain ⟨hx, hb, hr, hml, hown, hts, hX, hbl, hlocks, hgv⟩ := C0
  have hbA : ¬ AL s b := Nat.not_le.mpr hbl
  obtain ⟨⟨fs1, v1, r1⟩, fs2, v2, r2⟩ := hp.hd
  obtain ⟨r, w1', w2', m1, m2, hp'⟩ := pr_might l hp (xs (iv + 1).toNatClampNeg)
  refine lv_aload_n hx hb dL_law_765 rfl (lv_at hl 2 rfl) ?_
  refine lv_aload_n hx hb dL_law_766 rfl (lv_at hl 3 rfl) ?_
  refine lv_iload_n hx hb dL_law_767 rfl (lv_at hl 0 rfl) ?_
  refine lv_iconst (v := (1 : Int32)) hx hb dL_law_768 (by decide) ?_
  refine lv_iadd hx hb dL_law_769 ?_
  refine va_sld hx hb hX hbl hbA hw.2 i1 dL_law_770 ?_
  refine callVI (wa := []) (w := w1) (wb := w2) K m1 mt_yX3_might lk_L_101 ⟨rfl, rfl, by decide, by decide⟩ hw dL_law_771 hl.1 (by decide) rfl r1 rfl rfl rfl (Nat.le_of_ble_eq_true rfl) (fun H locs hw => ?_)
  have hw : Wx G (AL s) (w1' ++ w2) s H locs := hw
  refine lv_aload_n hx hb dL_law_774 rfl (lv_at hl 1 rfl) ?_
  refine lv_aload_n hx hb dL_law_775 rfl (lv_at hl 3 rfl) ?_
  refine lv_iload_n hx hb dL_law_776 rfl (lv_at hl 0 rfl) ?_
  refine lv_iconst (v := (1 : Int32)) hx hb dL_law_777 (by decide) ?_
  refine lv_iadd hx hb dL_law_778 ?_
  refine va_sld hx hb hX hbl hbA hw.2 i1 dL_law_779 ?_
  refine callVI (wa := w1') (w := w2) (wb := []) K m2 mt_yX4_might lk_L_104 ⟨rfl, rfl, by decide, by decide⟩ hw dL_law_780 hl.1 (by decide) (by rw [List.append_nil]) r2 rfl rfl rfl (Nat.le_of_ble_eq_true rfl) (fun H locs hw => ?_)
  have hw : Wx G (AL s) (w1' ++ w2') s H locs := by rw [List.append_nil] at hw; exact hw
  refine lv_icmp_eq (tgt := 1090) hx hb dL_law_783 (by decide) (fun hc => ?_) (fun hc => ?_)
  · exact kk _ _ H locs hw hp'
  · exact absurd rfl hc
set_option maxHeartbeats 1000000 in
theorem arm_never {p : Program} {e : Env} {s : State} {m : MethodId} {below : List Frame} {meth : Method} {c : Code} {l : Launch} {b L : Nat} {xs : Nat → Int32} {G : GP} (C0 : lw_At p s m meth c b L xs) (K : Cx p s m #[Value.ref b] meth c (AL s) G cL_law 4 RL ret) {qx qm : Nat → Nat} {w1 w2 : va_W} {H : Heap} {locs : List Loc} {iv : Int32} {ls : Array Slot} (hw : Wx G (AL s) (w1 ++ w2) s H locs) (hp : WP G qx qm w1 w2) (hl : lv_has ls 4 [(3, .int iv), (2, .ref (qm 0)), (1, .ref (qx 0)), (0, .ref b)]) (i1 : vp_in (iv + 1) L) (i2 : vp_in (iv + 2) L) (i3 : vp_in (iv + 3) L) (kk : ∀ (w1 w2 : va_W) (H : Heap) (locs : List Loc), Wx G (AL s) (w1 ++ w2) s H locs → WP G qx qm w1 w2 → W p l e room_1 s m #[Value.ref b] below meth c H locs 59 1099 (lw_Z below #[Value.ref b] s) (F0 m 1090 ls [])) : W p l e room_1 s m #[Value.ref b] below meth c H locs 59 1099 (lw_Z below #[Value.ref b] s) (F0 m 788 ls []) := by
  obtain ⟨hx, hb, hr, hml, hown, hts, hX, hbl, hlocks, hgv⟩ := C0
  have hbA : ¬ AL s b := Nat.not_le.mpr hbl
  obtain ⟨⟨fs1, v1, r1⟩, fs2, v2, r2⟩ := hp.hd
  obtain ⟨r, w1', w2', m1, m2, hp'⟩ := pr_never l hp 
  refine lv_aload_n hx hb dL_law_788 rfl (lv_at hl 2 rfl) ?_
  refine callVI (wa := []) (w := w1) (wb := w2) K m1 mt_yX3_never lk_L_105 ⟨rfl, rfl, by decide, by decide⟩ hw dL_law_789 hl.1 (by decide) rfl r1 rfl rfl rfl (Nat.le_of_ble_eq_true rfl) (fun H locs hw => ?_)
  have hw : Wx G (AL s) (w1' ++ w2) s H locs := hw
  refine lv_aload_n hx hb dL_law_792 rfl (lv_at hl 1 rfl) ?_
  refine callVI (wa := w1') (w := w2) (wb := []) K m2 mt_yX4_never lk_L_108 ⟨rfl, rfl, by decide, by decide⟩ hw dL_law_793 hl.1 (by decide) (by rw [List.append_nil]) r2 rfl rfl rfl (Nat.le_of_ble_eq_true rfl) (fun H locs hw => ?_)
  have hw : Wx G (AL s) (w1' ++ w2') s H locs := by rw [List.append_nil] at hw; exact hw
  refine lv_icmp_eq (tgt := 1090) hx hb dL_law_796 (by decide) (fun hc => ?_) (fun hc => ?_)
  · exact kk _ _ H locs hw hp'
  · exact absurd rfl hc
set_option maxHeartbeats 1000000 in
theorem arm_whose {p : Program} {e : Env} {s : State} {m : MethodId} {below : List Frame} {meth : Method} {c : Code} {l : Launch} {b L : Nat} {xs : Nat → Int32} {G : GP} (C0 : lw_At p s m meth c b L xs) (K : Cx p s m #[Value.ref b] meth c (AL s) G cL_law 4 RL ret) {qx qm : Nat → Nat} {w1 w2 : va_W} {H : Heap} {locs : List Loc} {iv : Int32} {ls : Array Slot} (hw : Wx G (AL s) (w1 ++ w2) s H locs) (hp : WP G qx qm w1 w2) (hl : lv_has ls 4 [(3, .int iv), (2, .ref (qm 0)), (1, .ref (qx 0)), (0, .ref b)]) (i1 : vp_in (iv + 1) L) (i2 : vp_in (iv + 2) L) (i3 : vp_in (iv + 3) L) (kk : ∀ (w1 w2 : va_W) (H : Heap) (locs : List Loc), Wx G (AL s) (w1 ++ w2) s H locs → WP G qx qm w1 w2 → W p l e room_1 s m #[Value.ref b] below meth c H locs 59 1099 (lw_Z below #[Value.ref b] s) (F0 m 1090 ls [])) : W p l e room_1 s m #[Value.ref b] below meth c H locs 59 1099 (lw_Z below #[Value.ref b] s) (F0 m 801 ls []) := by
  obtain ⟨hx, hb, hr, hml, hown, hts, hX, hbl, hlocks, hgv⟩ := C0
  have hbA : ¬ AL s b := Nat.not_le.mpr hbl
  obtain ⟨⟨fs1, v1, r1⟩, fs2, v2, r2⟩ := hp.hd
  obtain ⟨r, w1', w2', m1, m2, hp'⟩ := pr_whose l hp (xs (iv + 1).toNatClampNeg)
  refine lv_aload_n hx hb dL_law_801 rfl (lv_at hl 2 rfl) ?_
  refine lv_aload_n hx hb dL_law_802 rfl (lv_at hl 3 rfl) ?_
  refine lv_iload_n hx hb dL_law_803 rfl (lv_at hl 0 rfl) ?_
  refine lv_iconst (v := (1 : Int32)) hx hb dL_law_804 (by decide) ?_
  refine lv_iadd hx hb dL_law_805 ?_
  refine va_sld hx hb hX hbl hbA hw.2 i1 dL_law_806 ?_
  refine callVI (wa := []) (w := w1) (wb := w2) K m1 mt_yX3_whose lk_L_109 ⟨rfl, rfl, by decide, by decide⟩ hw dL_law_807 hl.1 (by decide) rfl r1 rfl rfl rfl (Nat.le_of_ble_eq_true rfl) (fun H locs hw => ?_)
  have hw : Wx G (AL s) (w1' ++ w2) s H locs := hw
  refine lv_aload_n hx hb dL_law_810 rfl (lv_at hl 1 rfl) ?_
  refine lv_aload_n hx hb dL_law_811 rfl (lv_at hl 3 rfl) ?_
  refine lv_iload_n hx hb dL_law_812 rfl (lv_at hl 0 rfl) ?_
  refine lv_iconst (v := (1 : Int32)) hx hb dL_law_813 (by decide) ?_
  refine lv_iadd hx hb dL_law_814 ?_
  refine va_sld hx hb hX hbl hbA hw.2 i1 dL_law_815 ?_
  refine callVI (wa := w1') (w := w2) (wb := []) K m2 mt_yX4_whose lk_L_112 ⟨rfl, rfl, by decide, by decide⟩ hw dL_law_816 hl.1 (by decide) (by rw [List.append_nil]) r2 rfl rfl rfl (Nat.le_of_ble_eq_true rfl) (fun H locs hw => ?_)
  have hw : Wx G (AL s) (w1' ++ w2') s H locs := by rw [List.append_nil] at hw; exact hw
  refine lv_icmp_eq (tgt := 1090) hx hb dL_law_819 (by decide) (fun hc => ?_) (fun hc => ?_)
  · exact kk _ _ H locs hw hp'
  · exact absurd rfl hc
set_option maxHeartbeats 1000000 in
theorem arm_tellsMost {p : Program} {e : Env} {s : State} {m : MethodId} {below : List Frame} {meth : Method} {c : Code} {l : Launch} {b L : Nat} {xs : Nat → Int32} {G : GP} (C0 : lw_At p s m meth c b L xs) (K : Cx p s m #[Value.ref b] meth c (AL s) G cL_law 4 RL ret) {qx qm : Nat → Nat} {w1 w2 : va_W} {H : Heap} {locs : List Loc} {iv : Int32} {ls : Array Slot} (hw : Wx G (AL s) (w1 ++ w2) s H locs) (hp : WP G qx qm w1 w2) (hl : lv_has ls 4 [(3, .int iv), (2, .ref (qm 0)), (1, .ref (qx 0)), (0, .ref b)]) (i1 : vp_in (iv + 1) L) (i2 : vp_in (iv + 2) L) (i3 : vp_in (iv + 3) L) (kk : ∀ (w1 w2 : va_W) (H : Heap) (locs : List Loc), Wx G (AL s) (w1 ++ w2) s H locs → WP G qx qm w1 w2 → W p l e room_1 s m #[Value.ref b] below meth c H locs 59 1099 (lw_Z below #[Value.ref b] s) (F0 m 1090 ls [])) : W p l e room_1 s m #[Value.ref b] below meth c H locs 59 1099 (lw_Z below #[Value.ref b] s) (F0 m 824 ls []) := by
  obtain ⟨hx, hb, hr, hml, hown, hts, hX, hbl, hlocks, hgv⟩ := C0
  have hbA : ¬ AL s b := Nat.not_le.mpr hbl
  obtain ⟨⟨fs1, v1, r1⟩, fs2, v2, r2⟩ := hp.hd
  obtain ⟨r, w1', w2', m1, m2, hp'⟩ := pr_tellsMost l hp 
  refine lv_aload_n hx hb dL_law_824 rfl (lv_at hl 2 rfl) ?_
  refine callVI (wa := []) (w := w1) (wb := w2) K m1 mt_yX3_tellsMost lk_L_113 ⟨rfl, rfl, by decide, by decide⟩ hw dL_law_825 hl.1 (by decide) rfl r1 rfl rfl rfl (Nat.le_of_ble_eq_true rfl) (fun H locs hw => ?_)
  have hw : Wx G (AL s) (w1' ++ w2) s H locs := hw
  refine lv_aload_n hx hb dL_law_828 rfl (lv_at hl 1 rfl) ?_
  refine callVI (wa := w1') (w := w2) (wb := []) K m2 mt_yX4_tellsMost lk_L_116 ⟨rfl, rfl, by decide, by decide⟩ hw dL_law_829 hl.1 (by decide) (by rw [List.append_nil]) r2 rfl rfl rfl (Nat.le_of_ble_eq_true rfl) (fun H locs hw => ?_)
  have hw : Wx G (AL s) (w1' ++ w2') s H locs := by rw [List.append_nil] at hw; exact hw
  refine lv_icmp_eq (tgt := 1090) hx hb dL_law_832 (by decide) (fun hc => ?_) (fun hc => ?_)
  · exact kk _ _ H locs hw hp'
  · exact absurd rfl hc
set_option maxHeartbeats 1000000 in
theorem arm_byTurns {p : Program} {e : Env} {s : State} {m : MethodId} {below : List Frame} {meth : Method} {c : Code} {l : Launch} {b L : Nat} {xs : Nat → Int32} {G : GP} (C0 : lw_At p s m meth c b L xs) (K : Cx p s m #[Value.ref b] meth c (AL s) G cL_law 4 RL ret) {qx qm : Nat → Nat} {w1 w2 : va_W} {H : Heap} {locs : List Loc} {iv : Int32} {ls : Array Slot} (hw : Wx G (AL s) (w1 ++ w2) s H locs) (hp : WP G qx qm w1 w2) (hl : lv_has ls 4 [(3, .int iv), (2, .ref (qm 0)), (1, .ref (qx 0)), (0, .ref b)]) (i1 : vp_in (iv + 1) L) (i2 : vp_in (iv + 2) L) (i3 : vp_in (iv + 3) L) (kk : ∀ (w1 w2 : va_W) (H : Heap) (locs : List Loc), Wx G (AL s) (w1 ++ w2) s H locs → WP G qx qm w1 w2 → W p l e room_1 s m #[Value.ref b] below meth c H locs 59 1099 (lw_Z below #[Value.ref b] s) (F0 m 1090 ls [])) : W p l e room_1 s m #[Value.ref b] below meth c H locs 59 1099 (lw_Z below #[Value.ref b] s) (F0 m 837 ls []) := by
  obtain ⟨hx, hb, hr, hml, hown, hts, hX, hbl, hlocks, hgv⟩ := C0
  have hbA : ¬ AL s b := Nat.not_le.mpr hbl
  obtain ⟨⟨fs1, v1, r1⟩, fs2, v2, r2⟩ := hp.hd
  obtain ⟨r, w1', w2', m1, m2, hp'⟩ := pr_byTurns l hp (xs (iv + 1).toNatClampNeg) (xs (iv + 2).toNatClampNeg) (xs (iv + 3).toNatClampNeg)
  refine lv_aload_n hx hb dL_law_837 rfl (lv_at hl 2 rfl) ?_
  refine lv_aload_n hx hb dL_law_838 rfl (lv_at hl 3 rfl) ?_
  refine lv_iload_n hx hb dL_law_839 rfl (lv_at hl 0 rfl) ?_
  refine lv_iconst (v := (1 : Int32)) hx hb dL_law_840 (by decide) ?_
  refine lv_iadd hx hb dL_law_841 ?_
  refine va_sld hx hb hX hbl hbA hw.2 i1 dL_law_842 ?_
  refine lv_aload_n hx hb dL_law_843 rfl (lv_at hl 3 rfl) ?_
  refine lv_iload_n hx hb dL_law_844 rfl (lv_at hl 0 rfl) ?_
  refine lv_iconst (v := (2 : Int32)) hx hb dL_law_845 (by decide) ?_
  refine lv_iadd hx hb dL_law_846 ?_
  refine va_sld hx hb hX hbl hbA hw.2 i2 dL_law_847 ?_
  refine lv_aload_n hx hb dL_law_848 rfl (lv_at hl 3 rfl) ?_
  refine lv_iload_n hx hb dL_law_849 rfl (lv_at hl 0 rfl) ?_
  refine lv_iconst (v := (3 : Int32)) hx hb dL_law_850 (by decide) ?_
  refine lv_iadd hx hb dL_law_851 ?_
  refine va_sld hx hb hX hbl hbA hw.2 i3 dL_law_852 ?_
  refine callVI (wa := []) (w := w1) (wb := w2) K m1 mt_yX3_byTurns lk_L_117 ⟨rfl, rfl, by decide, by decide⟩ hw dL_law_853 hl.1 (by decide) rfl r1 rfl rfl rfl (Nat.le_of_ble_eq_true rfl) (fun H locs hw => ?_)
  have hw : Wx G (AL s) (w1' ++ w2) s H locs := hw
  refine lv_aload_n hx hb dL_law_856 rfl (lv_at hl 1 rfl) ?_
  refine lv_aload_n hx hb dL_law_857 rfl (lv_at hl 3 rfl) ?_
  refine lv_iload_n hx hb dL_law_858 rfl (lv_at hl 0 rfl) ?_
  refine lv_iconst (v := (1 : Int32)) hx hb dL_law_859 (by decide) ?_
  refine lv_iadd hx hb dL_law_860 ?_
  refine va_sld hx hb hX hbl hbA hw.2 i1 dL_law_861 ?_
  refine lv_aload_n hx hb dL_law_862 rfl (lv_at hl 3 rfl) ?_
  refine lv_iload_n hx hb dL_law_863 rfl (lv_at hl 0 rfl) ?_
  refine lv_iconst (v := (2 : Int32)) hx hb dL_law_864 (by decide) ?_
  refine lv_iadd hx hb dL_law_865 ?_
  refine va_sld hx hb hX hbl hbA hw.2 i2 dL_law_866 ?_
  refine lv_aload_n hx hb dL_law_867 rfl (lv_at hl 3 rfl) ?_
  refine lv_iload_n hx hb dL_law_868 rfl (lv_at hl 0 rfl) ?_
  refine lv_iconst (v := (3 : Int32)) hx hb dL_law_869 (by decide) ?_
  refine lv_iadd hx hb dL_law_870 ?_
  refine va_sld hx hb hX hbl hbA hw.2 i3 dL_law_871 ?_
  refine callVI (wa := w1') (w := w2) (wb := []) K m2 mt_yX4_byTurns lk_L_120 ⟨rfl, rfl, by decide, by decide⟩ hw dL_law_872 hl.1 (by decide) (by rw [List.append_nil]) r2 rfl rfl rfl (Nat.le_of_ble_eq_true rfl) (fun H locs hw => ?_)
  have hw : Wx G (AL s) (w1' ++ w2') s H locs := by rw [List.append_nil] at hw; exact hw
  refine lv_icmp_eq (tgt := 1090) hx hb dL_law_875 (by decide) (fun hc => ?_) (fun hc => ?_)
  · exact kk _ _ H locs hw hp'
  · exact absurd rfl hc
set_option maxHeartbeats 1000000 in
theorem arm_snow {p : Program} {e : Env} {s : State} {m : MethodId} {below : List Frame} {meth : Method} {c : Code} {l : Launch} {b L : Nat} {xs : Nat → Int32} {G : GP} (C0 : lw_At p s m meth c b L xs) (K : Cx p s m #[Value.ref b] meth c (AL s) G cL_law 4 RL ret) {qx qm : Nat → Nat} {w1 w2 : va_W} {H : Heap} {locs : List Loc} {iv : Int32} {ls : Array Slot} (hw : Wx G (AL s) (w1 ++ w2) s H locs) (hp : WP G qx qm w1 w2) (hl : lv_has ls 4 [(3, .int iv), (2, .ref (qm 0)), (1, .ref (qx 0)), (0, .ref b)]) (i1 : vp_in (iv + 1) L) (i2 : vp_in (iv + 2) L) (i3 : vp_in (iv + 3) L) (kk : ∀ (w1 w2 : va_W) (H : Heap) (locs : List Loc), Wx G (AL s) (w1 ++ w2) s H locs → WP G qx qm w1 w2 → W p l e room_1 s m #[Value.ref b] below meth c H locs 59 1099 (lw_Z below #[Value.ref b] s) (F0 m 1090 ls [])) : W p l e room_1 s m #[Value.ref b] below meth c H locs 59 1099 (lw_Z below #[Value.ref b] s) (F0 m 880 ls []) := by
  obtain ⟨hx, hb, hr, hml, hown, hts, hX, hbl, hlocks, hgv⟩ := C0
  have hbA : ¬ AL s b := Nat.not_le.mpr hbl
  obtain ⟨⟨fs1, v1, r1⟩, fs2, v2, r2⟩ := hp.hd
  obtain ⟨r, w1', w2', m1, m2, hp'⟩ := pr_snow l hp (xs (iv + 1).toNatClampNeg) (xs (iv + 2).toNatClampNeg)
  refine lv_aload_n hx hb dL_law_880 rfl (lv_at hl 2 rfl) ?_
  refine lv_aload_n hx hb dL_law_881 rfl (lv_at hl 3 rfl) ?_
  refine lv_iload_n hx hb dL_law_882 rfl (lv_at hl 0 rfl) ?_
  refine lv_iconst (v := (1 : Int32)) hx hb dL_law_883 (by decide) ?_
  refine lv_iadd hx hb dL_law_884 ?_
  refine va_sld hx hb hX hbl hbA hw.2 i1 dL_law_885 ?_
  refine lv_aload_n hx hb dL_law_886 rfl (lv_at hl 3 rfl) ?_
  refine lv_iload_n hx hb dL_law_887 rfl (lv_at hl 0 rfl) ?_
  refine lv_iconst (v := (2 : Int32)) hx hb dL_law_888 (by decide) ?_
  refine lv_iadd hx hb dL_law_889 ?_
  refine va_sld hx hb hX hbl hbA hw.2 i2 dL_law_890 ?_
  refine callVI (wa := []) (w := w1) (wb := w2) K m1 mt_yX3_snow lk_L_121 ⟨rfl, rfl, by decide, by decide⟩ hw dL_law_891 hl.1 (by decide) rfl r1 rfl rfl rfl (Nat.le_of_ble_eq_true rfl) (fun H locs hw => ?_)
  have hw : Wx G (AL s) (w1' ++ w2) s H locs := hw
  refine lv_aload_n hx hb dL_law_894 rfl (lv_at hl 1 rfl) ?_
  refine lv_aload_n hx hb dL_law_895 rfl (lv_at hl 3 rfl) ?_
  refine lv_iload_n hx hb dL_law_896 rfl (lv_at hl 0 rfl) ?_
  refine lv_iconst (v := (1 : Int32)) hx hb dL_law_897 (by decide) ?_
  refine lv_iadd hx hb dL_law_898 ?_
  refine va_sld hx hb hX hbl hbA hw.2 i1 dL_law_899 ?_
  refine lv_aload_n hx hb dL_law_900 rfl (lv_at hl 3 rfl) ?_
  refine lv_iload_n hx hb dL_law_901 rfl (lv_at hl 0 rfl) ?_
  refine lv_iconst (v := (2 : Int32)) hx hb dL_law_902 (by decide) ?_
  refine lv_iadd hx hb dL_law_903 ?_
  refine va_sld hx hb hX hbl hbA hw.2 i2 dL_law_904 ?_
  refine callVI (wa := w1') (w := w2) (wb := []) K m2 mt_yX4_snow lk_L_124 ⟨rfl, rfl, by decide, by decide⟩ hw dL_law_905 hl.1 (by decide) (by rw [List.append_nil]) r2 rfl rfl rfl (Nat.le_of_ble_eq_true rfl) (fun H locs hw => ?_)
  have hw : Wx G (AL s) (w1' ++ w2') s H locs := by rw [List.append_nil] at hw; exact hw
  refine lv_icmp_eq (tgt := 1090) hx hb dL_law_908 (by decide) (fun hc => ?_) (fun hc => ?_)
  · exact kk _ _ H locs hw hp'
  · exact absurd rfl hc
set_option maxHeartbeats 1000000 in
theorem arm_heals {p : Program} {e : Env} {s : State} {m : MethodId} {below : List Frame} {meth : Method} {c : Code} {l : Launch} {b L : Nat} {xs : Nat → Int32} {G : GP} (C0 : lw_At p s m meth c b L xs) (K : Cx p s m #[Value.ref b] meth c (AL s) G cL_law 4 RL ret) {qx qm : Nat → Nat} {w1 w2 : va_W} {H : Heap} {locs : List Loc} {iv : Int32} {ls : Array Slot} (hw : Wx G (AL s) (w1 ++ w2) s H locs) (hp : WP G qx qm w1 w2) (hl : lv_has ls 4 [(3, .int iv), (2, .ref (qm 0)), (1, .ref (qx 0)), (0, .ref b)]) (i1 : vp_in (iv + 1) L) (i2 : vp_in (iv + 2) L) (i3 : vp_in (iv + 3) L) (kk : ∀ (w1 w2 : va_W) (H : Heap) (locs : List Loc), Wx G (AL s) (w1 ++ w2) s H locs → WP G qx qm w1 w2 → W p l e room_1 s m #[Value.ref b] below meth c H locs 59 1099 (lw_Z below #[Value.ref b] s) (F0 m 1090 ls [])) : W p l e room_1 s m #[Value.ref b] below meth c H locs 59 1099 (lw_Z below #[Value.ref b] s) (F0 m 913 ls []) := by
  obtain ⟨hx, hb, hr, hml, hown, hts, hX, hbl, hlocks, hgv⟩ := C0
  have hbA : ¬ AL s b := Nat.not_le.mpr hbl
  obtain ⟨⟨fs1, v1, r1⟩, fs2, v2, r2⟩ := hp.hd
  obtain ⟨r, w1', w2', m1, m2, hp'⟩ := pr_heals l hp (xs (iv + 1).toNatClampNeg)
  refine lv_aload_n hx hb dL_law_913 rfl (lv_at hl 2 rfl) ?_
  refine lv_aload_n hx hb dL_law_914 rfl (lv_at hl 3 rfl) ?_
  refine lv_iload_n hx hb dL_law_915 rfl (lv_at hl 0 rfl) ?_
  refine lv_iconst (v := (1 : Int32)) hx hb dL_law_916 (by decide) ?_
  refine lv_iadd hx hb dL_law_917 ?_
  refine va_sld hx hb hX hbl hbA hw.2 i1 dL_law_918 ?_
  refine callVI (wa := []) (w := w1) (wb := w2) K m1 mt_yX3_heals lk_L_125 ⟨rfl, rfl, by decide, by decide⟩ hw dL_law_919 hl.1 (by decide) rfl r1 rfl rfl rfl (Nat.le_of_ble_eq_true rfl) (fun H locs hw => ?_)
  have hw : Wx G (AL s) (w1' ++ w2) s H locs := hw
  refine lv_aload_n hx hb dL_law_922 rfl (lv_at hl 1 rfl) ?_
  refine lv_aload_n hx hb dL_law_923 rfl (lv_at hl 3 rfl) ?_
  refine lv_iload_n hx hb dL_law_924 rfl (lv_at hl 0 rfl) ?_
  refine lv_iconst (v := (1 : Int32)) hx hb dL_law_925 (by decide) ?_
  refine lv_iadd hx hb dL_law_926 ?_
  refine va_sld hx hb hX hbl hbA hw.2 i1 dL_law_927 ?_
  refine callVI (wa := w1') (w := w2) (wb := []) K m2 mt_yX4_heals lk_L_128 ⟨rfl, rfl, by decide, by decide⟩ hw dL_law_928 hl.1 (by decide) (by rw [List.append_nil]) r2 rfl rfl rfl (Nat.le_of_ble_eq_true rfl) (fun H locs hw => ?_)
  have hw : Wx G (AL s) (w1' ++ w2') s H locs := by rw [List.append_nil] at hw; exact hw
  refine lv_icmp_eq (tgt := 1090) hx hb dL_law_931 (by decide) (fun hc => ?_) (fun hc => ?_)
  · exact kk _ _ H locs hw hp'
  · exact absurd rfl hc
set_option maxHeartbeats 1000000 in
theorem arm_row {p : Program} {e : Env} {s : State} {m : MethodId} {below : List Frame} {meth : Method} {c : Code} {l : Launch} {b L : Nat} {xs : Nat → Int32} {G : GP} (C0 : lw_At p s m meth c b L xs) (K : Cx p s m #[Value.ref b] meth c (AL s) G cL_law 4 RL ret) {qx qm : Nat → Nat} {w1 w2 : va_W} {H : Heap} {locs : List Loc} {iv : Int32} {ls : Array Slot} (hw : Wx G (AL s) (w1 ++ w2) s H locs) (hp : WP G qx qm w1 w2) (hl : lv_has ls 4 [(3, .int iv), (2, .ref (qm 0)), (1, .ref (qx 0)), (0, .ref b)]) (i1 : vp_in (iv + 1) L) (i2 : vp_in (iv + 2) L) (i3 : vp_in (iv + 3) L) (kk : ∀ (w1 w2 : va_W) (H : Heap) (locs : List Loc), Wx G (AL s) (w1 ++ w2) s H locs → WP G qx qm w1 w2 → W p l e room_1 s m #[Value.ref b] below meth c H locs 59 1099 (lw_Z below #[Value.ref b] s) (F0 m 1090 ls [])) : W p l e room_1 s m #[Value.ref b] below meth c H locs 59 1099 (lw_Z below #[Value.ref b] s) (F0 m 936 ls []) := by
  obtain ⟨hx, hb, hr, hml, hown, hts, hX, hbl, hlocks, hgv⟩ := C0
  have hbA : ¬ AL s b := Nat.not_le.mpr hbl
  obtain ⟨⟨fs1, v1, r1⟩, fs2, v2, r2⟩ := hp.hd
  obtain ⟨r, w1', w2', m1, m2, hp'⟩ := pr_row l hp (xs (iv + 1).toNatClampNeg)
  refine lv_aload_n hx hb dL_law_936 rfl (lv_at hl 2 rfl) ?_
  refine lv_aload_n hx hb dL_law_937 rfl (lv_at hl 3 rfl) ?_
  refine lv_iload_n hx hb dL_law_938 rfl (lv_at hl 0 rfl) ?_
  refine lv_iconst (v := (1 : Int32)) hx hb dL_law_939 (by decide) ?_
  refine lv_iadd hx hb dL_law_940 ?_
  refine va_sld hx hb hX hbl hbA hw.2 i1 dL_law_941 ?_
  refine callVI (wa := []) (w := w1) (wb := w2) K m1 mt_yX3_row lk_L_129 ⟨rfl, rfl, by decide, by decide⟩ hw dL_law_942 hl.1 (by decide) rfl r1 rfl rfl rfl (Nat.le_of_ble_eq_true rfl) (fun H locs hw => ?_)
  have hw : Wx G (AL s) (w1' ++ w2) s H locs := hw
  refine lv_aload_n hx hb dL_law_945 rfl (lv_at hl 1 rfl) ?_
  refine lv_aload_n hx hb dL_law_946 rfl (lv_at hl 3 rfl) ?_
  refine lv_iload_n hx hb dL_law_947 rfl (lv_at hl 0 rfl) ?_
  refine lv_iconst (v := (1 : Int32)) hx hb dL_law_948 (by decide) ?_
  refine lv_iadd hx hb dL_law_949 ?_
  refine va_sld hx hb hX hbl hbA hw.2 i1 dL_law_950 ?_
  refine callVI (wa := w1') (w := w2) (wb := []) K m2 mt_yX4_row lk_L_132 ⟨rfl, rfl, by decide, by decide⟩ hw dL_law_951 hl.1 (by decide) (by rw [List.append_nil]) r2 rfl rfl rfl (Nat.le_of_ble_eq_true rfl) (fun H locs hw => ?_)
  have hw : Wx G (AL s) (w1' ++ w2') s H locs := by rw [List.append_nil] at hw; exact hw
  refine lv_icmp_eq (tgt := 1090) hx hb dL_law_954 (by decide) (fun hc => ?_) (fun hc => ?_)
  · exact kk _ _ H locs hw hp'
  · exact absurd rfl hc
set_option maxHeartbeats 1000000 in
theorem arm_fits {p : Program} {e : Env} {s : State} {m : MethodId} {below : List Frame} {meth : Method} {c : Code} {l : Launch} {b L : Nat} {xs : Nat → Int32} {G : GP} (C0 : lw_At p s m meth c b L xs) (K : Cx p s m #[Value.ref b] meth c (AL s) G cL_law 4 RL ret) {qx qm : Nat → Nat} {w1 w2 : va_W} {H : Heap} {locs : List Loc} {iv : Int32} {ls : Array Slot} (hw : Wx G (AL s) (w1 ++ w2) s H locs) (hp : WP G qx qm w1 w2) (hl : lv_has ls 4 [(3, .int iv), (2, .ref (qm 0)), (1, .ref (qx 0)), (0, .ref b)]) (i1 : vp_in (iv + 1) L) (i2 : vp_in (iv + 2) L) (i3 : vp_in (iv + 3) L) (kk : ∀ (w1 w2 : va_W) (H : Heap) (locs : List Loc), Wx G (AL s) (w1 ++ w2) s H locs → WP G qx qm w1 w2 → W p l e room_1 s m #[Value.ref b] below meth c H locs 59 1099 (lw_Z below #[Value.ref b] s) (F0 m 1090 ls [])) : W p l e room_1 s m #[Value.ref b] below meth c H locs 59 1099 (lw_Z below #[Value.ref b] s) (F0 m 959 ls []) := by
  obtain ⟨hx, hb, hr, hml, hown, hts, hX, hbl, hlocks, hgv⟩ := C0
  have hbA : ¬ AL s b := Nat.not_le.mpr hbl
  obtain ⟨⟨fs1, v1, r1⟩, fs2, v2, r2⟩ := hp.hd
  obtain ⟨r, w1', w2', m1, m2, hp'⟩ := pr_fits l hp 
  refine lv_aload_n hx hb dL_law_959 rfl (lv_at hl 2 rfl) ?_
  refine callVI (wa := []) (w := w1) (wb := w2) K m1 mt_yX3_fits lk_L_133 ⟨rfl, rfl, by decide, by decide⟩ hw dL_law_960 hl.1 (by decide) rfl r1 rfl rfl rfl (Nat.le_of_ble_eq_true rfl) (fun H locs hw => ?_)
  have hw : Wx G (AL s) (w1' ++ w2) s H locs := hw
  refine lv_aload_n hx hb dL_law_963 rfl (lv_at hl 1 rfl) ?_
  refine callVI (wa := w1') (w := w2) (wb := []) K m2 mt_yX4_fits lk_L_136 ⟨rfl, rfl, by decide, by decide⟩ hw dL_law_964 hl.1 (by decide) (by rw [List.append_nil]) r2 rfl rfl rfl (Nat.le_of_ble_eq_true rfl) (fun H locs hw => ?_)
  have hw : Wx G (AL s) (w1' ++ w2') s H locs := by rw [List.append_nil] at hw; exact hw
  refine lv_icmp_eq (tgt := 1090) hx hb dL_law_967 (by decide) (fun hc => ?_) (fun hc => ?_)
  · exact kk _ _ H locs hw hp'
  · exact absurd rfl hc
set_option maxHeartbeats 1000000 in
theorem arm_judge {p : Program} {e : Env} {s : State} {m : MethodId} {below : List Frame} {meth : Method} {c : Code} {l : Launch} {b L : Nat} {xs : Nat → Int32} {G : GP} (C0 : lw_At p s m meth c b L xs) (K : Cx p s m #[Value.ref b] meth c (AL s) G cL_law 4 RL ret) {qx qm : Nat → Nat} {w1 w2 : va_W} {H : Heap} {locs : List Loc} {iv : Int32} {ls : Array Slot} (hw : Wx G (AL s) (w1 ++ w2) s H locs) (hp : WP G qx qm w1 w2) (hl : lv_has ls 4 [(3, .int iv), (2, .ref (qm 0)), (1, .ref (qx 0)), (0, .ref b)]) (i1 : vp_in (iv + 1) L) (i2 : vp_in (iv + 2) L) (i3 : vp_in (iv + 3) L) (kk : ∀ (w1 w2 : va_W) (H : Heap) (locs : List Loc), Wx G (AL s) (w1 ++ w2) s H locs → WP G qx qm w1 w2 → W p l e room_1 s m #[Value.ref b] below meth c H locs 59 1099 (lw_Z below #[Value.ref b] s) (F0 m 1090 ls [])) : W p l e room_1 s m #[Value.ref b] below meth c H locs 59 1099 (lw_Z below #[Value.ref b] s) (F0 m 972 ls []) := by
  obtain ⟨hx, hb, hr, hml, hown, hts, hX, hbl, hlocks, hgv⟩ := C0
  have hbA : ¬ AL s b := Nat.not_le.mpr hbl
  obtain ⟨⟨fs1, v1, r1⟩, fs2, v2, r2⟩ := hp.hd
  obtain ⟨r, w1', w2', m1, m2, hp'⟩ := pr_judge l hp 
  refine lv_aload_n hx hb dL_law_972 rfl (lv_at hl 2 rfl) ?_
  refine callVI (wa := []) (w := w1) (wb := w2) K m1 mt_yX3_judge lk_L_137 ⟨rfl, rfl, by decide, by decide⟩ hw dL_law_973 hl.1 (by decide) rfl r1 rfl rfl rfl (Nat.le_of_ble_eq_true rfl) (fun H locs hw => ?_)
  have hw : Wx G (AL s) (w1' ++ w2) s H locs := hw
  refine lv_aload_n hx hb dL_law_976 rfl (lv_at hl 1 rfl) ?_
  refine callVI (wa := w1') (w := w2) (wb := []) K m2 mt_yX4_judge lk_L_140 ⟨rfl, rfl, by decide, by decide⟩ hw dL_law_977 hl.1 (by decide) (by rw [List.append_nil]) r2 rfl rfl rfl (Nat.le_of_ble_eq_true rfl) (fun H locs hw => ?_)
  have hw : Wx G (AL s) (w1' ++ w2') s H locs := by rw [List.append_nil] at hw; exact hw
  refine lv_icmp_eq (tgt := 1090) hx hb dL_law_980 (by decide) (fun hc => ?_) (fun hc => ?_)
  · exact kk _ _ H locs hw hp'
  · exact absurd rfl hc
set_option maxHeartbeats 1000000 in
theorem arm_clear {p : Program} {e : Env} {s : State} {m : MethodId} {below : List Frame} {meth : Method} {c : Code} {l : Launch} {b L : Nat} {xs : Nat → Int32} {G : GP} (C0 : lw_At p s m meth c b L xs) (K : Cx p s m #[Value.ref b] meth c (AL s) G cL_law 4 RL ret) {qx qm : Nat → Nat} {w1 w2 : va_W} {H : Heap} {locs : List Loc} {iv : Int32} {ls : Array Slot} (hw : Wx G (AL s) (w1 ++ w2) s H locs) (hp : WP G qx qm w1 w2) (hl : lv_has ls 4 [(3, .int iv), (2, .ref (qm 0)), (1, .ref (qx 0)), (0, .ref b)]) (i1 : vp_in (iv + 1) L) (i2 : vp_in (iv + 2) L) (i3 : vp_in (iv + 3) L) (kk : ∀ (w1 w2 : va_W) (H : Heap) (locs : List Loc), Wx G (AL s) (w1 ++ w2) s H locs → WP G qx qm w1 w2 → W p l e room_1 s m #[Value.ref b] below meth c H locs 59 1099 (lw_Z below #[Value.ref b] s) (F0 m 1090 ls [])) : W p l e room_1 s m #[Value.ref b] below meth c H locs 59 1099 (lw_Z below #[Value.ref b] s) (F0 m 985 ls []) := by
  obtain ⟨hx, hb, hr, hml, hown, hts, hX, hbl, hlocks, hgv⟩ := C0
  have hbA : ¬ AL s b := Nat.not_le.mpr hbl
  obtain ⟨⟨fs1, v1, r1⟩, fs2, v2, r2⟩ := hp.hd
  obtain ⟨r, w1', w2', m1, m2, hp'⟩ := pr_clear l hp 
  refine lv_aload_n hx hb dL_law_985 rfl (lv_at hl 2 rfl) ?_
  refine callVI (wa := []) (w := w1) (wb := w2) K m1 mt_yX3_clear lk_L_141 ⟨rfl, rfl, by decide, by decide⟩ hw dL_law_986 hl.1 (by decide) rfl r1 rfl rfl rfl (Nat.le_of_ble_eq_true rfl) (fun H locs hw => ?_)
  have hw : Wx G (AL s) (w1' ++ w2) s H locs := hw
  refine lv_aload_n hx hb dL_law_989 rfl (lv_at hl 1 rfl) ?_
  refine callVI (wa := w1') (w := w2) (wb := []) K m2 mt_yX4_clear lk_L_144 ⟨rfl, rfl, by decide, by decide⟩ hw dL_law_990 hl.1 (by decide) (by rw [List.append_nil]) r2 rfl rfl rfl (Nat.le_of_ble_eq_true rfl) (fun H locs hw => ?_)
  have hw : Wx G (AL s) (w1' ++ w2') s H locs := by rw [List.append_nil] at hw; exact hw
  refine lv_icmp_eq (tgt := 1090) hx hb dL_law_993 (by decide) (fun hc => ?_) (fun hc => ?_)
  · exact kk _ _ H locs hw hp'
  · exact absurd rfl hc
set_option maxHeartbeats 1000000 in
theorem arm_lots {p : Program} {e : Env} {s : State} {m : MethodId} {below : List Frame} {meth : Method} {c : Code} {l : Launch} {b L : Nat} {xs : Nat → Int32} {G : GP} (C0 : lw_At p s m meth c b L xs) (K : Cx p s m #[Value.ref b] meth c (AL s) G cL_law 4 RL ret) {qx qm : Nat → Nat} {w1 w2 : va_W} {H : Heap} {locs : List Loc} {iv : Int32} {ls : Array Slot} (hw : Wx G (AL s) (w1 ++ w2) s H locs) (hp : WP G qx qm w1 w2) (hl : lv_has ls 4 [(3, .int iv), (2, .ref (qm 0)), (1, .ref (qx 0)), (0, .ref b)]) (i1 : vp_in (iv + 1) L) (i2 : vp_in (iv + 2) L) (i3 : vp_in (iv + 3) L) (kk : ∀ (w1 w2 : va_W) (H : Heap) (locs : List Loc), Wx G (AL s) (w1 ++ w2) s H locs → WP G qx qm w1 w2 → W p l e room_1 s m #[Value.ref b] below meth c H locs 59 1099 (lw_Z below #[Value.ref b] s) (F0 m 1090 ls [])) : W p l e room_1 s m #[Value.ref b] below meth c H locs 59 1099 (lw_Z below #[Value.ref b] s) (F0 m 998 ls []) := by
  obtain ⟨hx, hb, hr, hml, hown, hts, hX, hbl, hlocks, hgv⟩ := C0
  have hbA : ¬ AL s b := Nat.not_le.mpr hbl
  obtain ⟨⟨fs1, v1, r1⟩, fs2, v2, r2⟩ := hp.hd
  obtain ⟨r, w1', w2', m1, m2, hp'⟩ := pr_lots l hp (xs (iv + 1).toNatClampNeg) (xs (iv + 2).toNatClampNeg) (xs (iv + 3).toNatClampNeg)
  refine lv_aload_n hx hb dL_law_998 rfl (lv_at hl 2 rfl) ?_
  refine lv_aload_n hx hb dL_law_999 rfl (lv_at hl 3 rfl) ?_
  refine lv_iload_n hx hb dL_law_1000 rfl (lv_at hl 0 rfl) ?_
  refine lv_iconst (v := (1 : Int32)) hx hb dL_law_1001 (by decide) ?_
  refine lv_iadd hx hb dL_law_1002 ?_
  refine va_sld hx hb hX hbl hbA hw.2 i1 dL_law_1003 ?_
  refine lv_aload_n hx hb dL_law_1004 rfl (lv_at hl 3 rfl) ?_
  refine lv_iload_n hx hb dL_law_1005 rfl (lv_at hl 0 rfl) ?_
  refine lv_iconst (v := (2 : Int32)) hx hb dL_law_1006 (by decide) ?_
  refine lv_iadd hx hb dL_law_1007 ?_
  refine va_sld hx hb hX hbl hbA hw.2 i2 dL_law_1008 ?_
  refine lv_aload_n hx hb dL_law_1009 rfl (lv_at hl 3 rfl) ?_
  refine lv_iload_n hx hb dL_law_1010 rfl (lv_at hl 0 rfl) ?_
  refine lv_iconst (v := (3 : Int32)) hx hb dL_law_1011 (by decide) ?_
  refine lv_iadd hx hb dL_law_1012 ?_
  refine va_sld hx hb hX hbl hbA hw.2 i3 dL_law_1013 ?_
  refine callVI (wa := []) (w := w1) (wb := w2) K m1 mt_yX3_lots lk_L_145 ⟨rfl, rfl, by decide, by decide⟩ hw dL_law_1014 hl.1 (by decide) rfl r1 rfl rfl rfl (Nat.le_of_ble_eq_true rfl) (fun H locs hw => ?_)
  have hw : Wx G (AL s) (w1' ++ w2) s H locs := hw
  refine lv_aload_n hx hb dL_law_1017 rfl (lv_at hl 1 rfl) ?_
  refine lv_aload_n hx hb dL_law_1018 rfl (lv_at hl 3 rfl) ?_
  refine lv_iload_n hx hb dL_law_1019 rfl (lv_at hl 0 rfl) ?_
  refine lv_iconst (v := (1 : Int32)) hx hb dL_law_1020 (by decide) ?_
  refine lv_iadd hx hb dL_law_1021 ?_
  refine va_sld hx hb hX hbl hbA hw.2 i1 dL_law_1022 ?_
  refine lv_aload_n hx hb dL_law_1023 rfl (lv_at hl 3 rfl) ?_
  refine lv_iload_n hx hb dL_law_1024 rfl (lv_at hl 0 rfl) ?_
  refine lv_iconst (v := (2 : Int32)) hx hb dL_law_1025 (by decide) ?_
  refine lv_iadd hx hb dL_law_1026 ?_
  refine va_sld hx hb hX hbl hbA hw.2 i2 dL_law_1027 ?_
  refine lv_aload_n hx hb dL_law_1028 rfl (lv_at hl 3 rfl) ?_
  refine lv_iload_n hx hb dL_law_1029 rfl (lv_at hl 0 rfl) ?_
  refine lv_iconst (v := (3 : Int32)) hx hb dL_law_1030 (by decide) ?_
  refine lv_iadd hx hb dL_law_1031 ?_
  refine va_sld hx hb hX hbl hbA hw.2 i3 dL_law_1032 ?_
  refine callVI (wa := w1') (w := w2) (wb := []) K m2 mt_yX4_lots lk_L_148 ⟨rfl, rfl, by decide, by decide⟩ hw dL_law_1033 hl.1 (by decide) (by rw [List.append_nil]) r2 rfl rfl rfl (Nat.le_of_ble_eq_true rfl) (fun H locs hw => ?_)
  have hw : Wx G (AL s) (w1' ++ w2') s H locs := by rw [List.append_nil] at hw; exact hw
  refine lv_icmp_eq (tgt := 1090) hx hb dL_law_1036 (by decide) (fun hc => ?_) (fun hc => ?_)
  · exact kk _ _ H locs hw hp'
  · exact absurd rfl hc
set_option maxHeartbeats 1000000 in
theorem arm_image {p : Program} {e : Env} {s : State} {m : MethodId} {below : List Frame} {meth : Method} {c : Code} {l : Launch} {b L : Nat} {xs : Nat → Int32} {G : GP} (C0 : lw_At p s m meth c b L xs) (K : Cx p s m #[Value.ref b] meth c (AL s) G cL_law 4 RL ret) {qx qm : Nat → Nat} {w1 w2 : va_W} {H : Heap} {locs : List Loc} {iv : Int32} {ls : Array Slot} (hw : Wx G (AL s) (w1 ++ w2) s H locs) (hp : WP G qx qm w1 w2) (hl : lv_has ls 4 [(3, .int iv), (2, .ref (qm 0)), (1, .ref (qx 0)), (0, .ref b)]) (i1 : vp_in (iv + 1) L) (i2 : vp_in (iv + 2) L) (i3 : vp_in (iv + 3) L) (kk : ∀ (w1 w2 : va_W) (H : Heap) (locs : List Loc), Wx G (AL s) (w1 ++ w2) s H locs → WP G qx qm w1 w2 → W p l e room_1 s m #[Value.ref b] below meth c H locs 59 1099 (lw_Z below #[Value.ref b] s) (F0 m 1090 ls [])) : W p l e room_1 s m #[Value.ref b] below meth c H locs 59 1099 (lw_Z below #[Value.ref b] s) (F0 m 1041 ls []) := by
  obtain ⟨hx, hb, hr, hml, hown, hts, hX, hbl, hlocks, hgv⟩ := C0
  have hbA : ¬ AL s b := Nat.not_le.mpr hbl
  obtain ⟨⟨fs1, v1, r1⟩, fs2, v2, r2⟩ := hp.hd
  obtain ⟨r, w1', w2', m1, m2, hp'⟩ := pr_image l hp 
  refine lv_aload_n hx hb dL_law_1041 rfl (lv_at hl 2 rfl) ?_
  refine callVI (wa := []) (w := w1) (wb := w2) K m1 mt_yX3_image lk_L_149 ⟨rfl, rfl, by decide, by decide⟩ hw dL_law_1042 hl.1 (by decide) rfl r1 rfl rfl rfl (Nat.le_of_ble_eq_true rfl) (fun H locs hw => ?_)
  have hw : Wx G (AL s) (w1' ++ w2) s H locs := hw
  refine lv_aload_n hx hb dL_law_1045 rfl (lv_at hl 1 rfl) ?_
  refine callVI (wa := w1') (w := w2) (wb := []) K m2 mt_yX4_image lk_L_152 ⟨rfl, rfl, by decide, by decide⟩ hw dL_law_1046 hl.1 (by decide) (by rw [List.append_nil]) r2 rfl rfl rfl (Nat.le_of_ble_eq_true rfl) (fun H locs hw => ?_)
  have hw : Wx G (AL s) (w1' ++ w2') s H locs := by rw [List.append_nil] at hw; exact hw
  refine lv_icmp_eq (tgt := 1090) hx hb dL_law_1049 (by decide) (fun hc => ?_) (fun hc => ?_)
  · exact kk _ _ H locs hw hp'
  · exact absurd rfl hc
set_option maxHeartbeats 1000000 in
theorem arm_on {p : Program} {e : Env} {s : State} {m : MethodId} {below : List Frame} {meth : Method} {c : Code} {l : Launch} {b L : Nat} {xs : Nat → Int32} {G : GP} (C0 : lw_At p s m meth c b L xs) (K : Cx p s m #[Value.ref b] meth c (AL s) G cL_law 4 RL ret) {qx qm : Nat → Nat} {w1 w2 : va_W} {H : Heap} {locs : List Loc} {iv : Int32} {ls : Array Slot} (hw : Wx G (AL s) (w1 ++ w2) s H locs) (hp : WP G qx qm w1 w2) (hl : lv_has ls 4 [(3, .int iv), (2, .ref (qm 0)), (1, .ref (qx 0)), (0, .ref b)]) (i1 : vp_in (iv + 1) L) (i2 : vp_in (iv + 2) L) (i3 : vp_in (iv + 3) L) (kk : ∀ (w1 w2 : va_W) (H : Heap) (locs : List Loc), Wx G (AL s) (w1 ++ w2) s H locs → WP G qx qm w1 w2 → W p l e room_1 s m #[Value.ref b] below meth c H locs 59 1099 (lw_Z below #[Value.ref b] s) (F0 m 1090 ls [])) : W p l e room_1 s m #[Value.ref b] below meth c H locs 59 1099 (lw_Z below #[Value.ref b] s) (F0 m 1054 ls []) := by
  obtain ⟨hx, hb, hr, hml, hown, hts, hX, hbl, hlocks, hgv⟩ := C0
  have hbA : ¬ AL s b := Nat.not_le.mpr hbl
  obtain ⟨⟨fs1, v1, r1⟩, fs2, v2, r2⟩ := hp.hd
  obtain ⟨r, w1', w2', m1, m2, hp'⟩ := pr_on l hp 
  refine lv_aload_n hx hb dL_law_1054 rfl (lv_at hl 2 rfl) ?_
  refine callVI (wa := []) (w := w1) (wb := w2) K m1 mt_yX3_on lk_L_153 ⟨rfl, rfl, by decide, by decide⟩ hw dL_law_1055 hl.1 (by decide) rfl r1 rfl rfl rfl (Nat.le_of_ble_eq_true rfl) (fun H locs hw => ?_)
  have hw : Wx G (AL s) (w1' ++ w2) s H locs := hw
  refine lv_aload_n hx hb dL_law_1058 rfl (lv_at hl 1 rfl) ?_
  refine callVI (wa := w1') (w := w2) (wb := []) K m2 mt_yX4_on lk_L_156 ⟨rfl, rfl, by decide, by decide⟩ hw dL_law_1059 hl.1 (by decide) (by rw [List.append_nil]) r2 rfl rfl rfl (Nat.le_of_ble_eq_true rfl) (fun H locs hw => ?_)
  have hw : Wx G (AL s) (w1' ++ w2') s H locs := by rw [List.append_nil] at hw; exact hw
  refine lv_icmp_eq (tgt := 1090) hx hb dL_law_1062 (by decide) (fun hc => ?_) (fun hc => ?_)
  · exact kk _ _ H locs hw hp'
  · exact absurd rfl hc
set_option maxHeartbeats 1000000 in
theorem arm_count {p : Program} {e : Env} {s : State} {m : MethodId} {below : List Frame} {meth : Method} {c : Code} {l : Launch} {b L : Nat} {xs : Nat → Int32} {G : GP} (C0 : lw_At p s m meth c b L xs) (K : Cx p s m #[Value.ref b] meth c (AL s) G cL_law 4 RL ret) {qx qm : Nat → Nat} {w1 w2 : va_W} {H : Heap} {locs : List Loc} {iv : Int32} {ls : Array Slot} (hw : Wx G (AL s) (w1 ++ w2) s H locs) (hp : WP G qx qm w1 w2) (hl : lv_has ls 4 [(3, .int iv), (2, .ref (qm 0)), (1, .ref (qx 0)), (0, .ref b)]) (i1 : vp_in (iv + 1) L) (i2 : vp_in (iv + 2) L) (i3 : vp_in (iv + 3) L) (kk : ∀ (w1 w2 : va_W) (H : Heap) (locs : List Loc), Wx G (AL s) (w1 ++ w2) s H locs → WP G qx qm w1 w2 → W p l e room_1 s m #[Value.ref b] below meth c H locs 59 1099 (lw_Z below #[Value.ref b] s) (F0 m 1090 ls [])) : W p l e room_1 s m #[Value.ref b] below meth c H locs 59 1099 (lw_Z below #[Value.ref b] s) (F0 m 1067 ls []) := by
  obtain ⟨hx, hb, hr, hml, hown, hts, hX, hbl, hlocks, hgv⟩ := C0
  have hbA : ¬ AL s b := Nat.not_le.mpr hbl
  obtain ⟨⟨fs1, v1, r1⟩, fs2, v2, r2⟩ := hp.hd
  obtain ⟨r, w1', w2', m1, m2, hp'⟩ := pr_count l hp (xs (iv + 1).toNatClampNeg)
  refine lv_aload_n hx hb dL_law_1067 rfl (lv_at hl 2 rfl) ?_
  refine lv_aload_n hx hb dL_law_1068 rfl (lv_at hl 3 rfl) ?_
  refine lv_iload_n hx hb dL_law_1069 rfl (lv_at hl 0 rfl) ?_
  refine lv_iconst (v := (1 : Int32)) hx hb dL_law_1070 (by decide) ?_
  refine lv_iadd hx hb dL_law_1071 ?_
  refine va_sld hx hb hX hbl hbA hw.2 i1 dL_law_1072 ?_
  refine callVI (wa := []) (w := w1) (wb := w2) K m1 mt_yX3_count lk_L_157 ⟨rfl, rfl, by decide, by decide⟩ hw dL_law_1073 hl.1 (by decide) rfl r1 rfl rfl rfl (Nat.le_of_ble_eq_true rfl) (fun H locs hw => ?_)
  have hw : Wx G (AL s) (w1' ++ w2) s H locs := hw
  refine lv_aload_n hx hb dL_law_1076 rfl (lv_at hl 1 rfl) ?_
  refine lv_aload_n hx hb dL_law_1077 rfl (lv_at hl 3 rfl) ?_
  refine lv_iload_n hx hb dL_law_1078 rfl (lv_at hl 0 rfl) ?_
  refine lv_iconst (v := (1 : Int32)) hx hb dL_law_1079 (by decide) ?_
  refine lv_iadd hx hb dL_law_1080 ?_
  refine va_sld hx hb hX hbl hbA hw.2 i1 dL_law_1081 ?_
  refine callVI (wa := w1') (w := w2) (wb := []) K m2 mt_yX4_count lk_L_160 ⟨rfl, rfl, by decide, by decide⟩ hw dL_law_1082 hl.1 (by decide) (by rw [List.append_nil]) r2 rfl rfl rfl (Nat.le_of_ble_eq_true rfl) (fun H locs hw => ?_)
  have hw : Wx G (AL s) (w1' ++ w2') s H locs := by rw [List.append_nil] at hw; exact hw
  refine lv_icmp_eq (tgt := 1090) hx hb dL_law_1085 (by decide) (fun hc => ?_) (fun hc => ?_)
  · exact kk _ _ H locs hw hp'
  · exact absurd rfl hc
theorem len_i {L i : Nat} (hL : L ≤ 2048) (hi : i ≤ L) (h : ¬ nI L - 4 < nI i) : i + 4 ≤ L := by
  rw [i_lt, nI_toInt (by omega), show (4 : Int32) = nI 4 from rfl, Int32.toInt_sub, nI_toInt (by omega), nI_toInt (by omega), Int.bmod_eq_of_le (by omega) (by omega)] at h
  omega
set_option maxHeartbeats 4000000 in
set_option maxRecDepth 100000 in
theorem law_loop {p : Program} {e : Env} {s : State} {m : MethodId} {below : List Frame} {meth : Method} {c : Code} {l : Launch} {b L : Nat} {xs : Nat → Int32} {G : GP} (hL : L ≤ 2048) (C0 : lw_At p s m meth c b L xs) (K : Cx p s m #[Value.ref b] meth c (AL s) G cL_law 4 RL ret) {qx qm : Nat → Nat} : ∀ (n i : Nat), i ≤ L → L + 1 ≤ i + n → ∀ (w1 w2 : va_W) (H : Heap) (locs : List Loc), Wx G (AL s) (w1 ++ w2) s H locs → WP G qx qm w1 w2 → ∀ (ls : Array Slot), lv_has ls 4 [(3, .int (nI i)), (2, .ref (qm 0)), (1, .ref (qx 0)), (0, .ref b)] → W p l e room_1 s m #[Value.ref b] below meth c H locs 59 1099 (lw_Z below #[Value.ref b] s) (F0 m 18 ls []) := by
  obtain ⟨hx, hb, hr, hml, hown, hts, hX, hbl, hlocks, hgv⟩ := id C0
  have hbA : ¬ AL s b := Nat.not_le.mpr hbl
  intro n
  induction n with
  | zero =>
    intro i h1 h2
    exact absurd h2 (by omega)
  | succ n ih =>
    intro i hi hin w1 w2 H locs hw hp ls hl
    refine lv_iload_n hx hb dL_law_18 rfl (lv_at hl 0 rfl) ?_
    refine lv_aload_n hx hb dL_law_19 rfl (lv_at hl 3 rfl) ?_
    refine va_slen hx hb hX hbl hbA hw.2 dL_law_20 ?_
    refine lv_iconst (v := (4 : Int32)) hx hb dL_law_21 (by decide) ?_
    refine lv_isub hx hb dL_law_22 ?_
    refine lv_icmp_gt (tgt := 1096) hx hb dL_law_23 (by decide) (fun hc => ?_) (fun hc => ?_)
    · refine lv_iconst (v := (1 : Int32)) hx hb dL_law_1096 (by decide) ?_
      refine va_forget (fun q hq => hw.2.2.2 q hq) ?_
      exact lw_ret hx hb hr hlocks dL_law_1097
    have hi4 : i + 4 ≤ L := len_i hL hi hc
    have e1 : nI i + 1 = nI (i + 1) := nI_add i 1
    have e2 : nI i + 2 = nI (i + 2) := nI_add i 2
    have e3 : nI i + 3 = nI (i + 3) := nI_add i 3
    have e4 : nI i + 4 = nI (i + 4) := nI_add i 4
    have i0 : vp_in (nI i) L := vp_in_nI (by omega) (by omega)
    have i1 : vp_in (nI i + 1) L := by rw [e1]; exact vp_in_nI (by omega) (by omega)
    have i2 : vp_in (nI i + 2) L := by rw [e2]; exact vp_in_nI (by omega) (by omega)
    have i3 : vp_in (nI i + 3) L := by rw [e3]; exact vp_in_nI (by omega) (by omega)
    refine lv_aload_n hx hb dL_law_26 rfl (lv_at hl 3 rfl) ?_
    refine lv_iload_n hx hb dL_law_27 rfl (lv_at hl 0 rfl) ?_
    refine va_sld hx hb hX hbl hbA hw.2 i0 dL_law_28 ?_
    refine lv_bipush (v := (63 : Int32)) hx hb dL_law_29 (by decide) ?_
    refine lv_iand hx hb dL_law_31 ?_
    generalize xs (nI i).toNatClampNeg &&& 63 = x
    have kk : ∀ (w1 w2 : va_W) (H : Heap) (locs : List Loc), Wx G (AL s) (w1 ++ w2) s H locs → WP G qx qm w1 w2 → W p l e room_1 s m #[Value.ref b] below meth c H locs 59 1099 (lw_Z below #[Value.ref b] s) (F0 m 1090 ls []) := by
      intro w1 w2 H locs hw hp
      refine lv_iinc (v := nI i + 4) (lv' := [(3, .int (nI i + 4)), (2, .ref (qm 0)), (1, .ref (qx 0)), (0, .ref b)]) hx hb dL_law_1090 hl (k := 0) rfl rfl (by decide) rfl (fun ls hl => ?_)
      rw [e4] at hl
      refine lv_goto (tgt := 18) hx hb dL_law_1093 (by decide) ?_
      exact ih (i + 4) (by omega) (by omega) w1 w2 H locs hw hp ls hl
    by_cases s0 : x = (0 : Int32)
    · refine lv_tableIn (off := 160) (tgt := 192) hx hb dL_law_32 (by rw [s0]; decide) (by rw [s0]; decide) (by rw [s0]; rfl) (by decide) ?_
      exact arm_letter C0 K hw hp hl i1 i2 i3 kk
    by_cases s1 : x = (1 : Int32)
    · refine lv_tableIn (off := 183) (tgt := 215) hx hb dL_law_32 (by rw [s1]; decide) (by rw [s1]; decide) (by rw [s1]; rfl) (by decide) ?_
      exact arm_gorge C0 K hw hp hl i1 i2 i3 kk
    by_cases s2 : x = (2 : Int32)
    · refine lv_tableIn (off := 196) (tgt := 228) hx hb dL_law_32 (by rw [s2]; decide) (by rw [s2]; decide) (by rw [s2]; rfl) (by decide) ?_
      exact arm_caller C0 K hw hp hl i1 i2 i3 kk
    by_cases s3 : x = (3 : Int32)
    · refine lv_tableIn (off := 229) (tgt := 261) hx hb dL_law_32 (by rw [s3]; decide) (by rw [s3]; decide) (by rw [s3]; rfl) (by decide) ?_
      exact arm_known C0 K hw hp hl i1 i2 i3 kk
    by_cases s4 : x = (4 : Int32)
    · refine lv_tableIn (off := 252) (tgt := 284) hx hb dL_law_32 (by rw [s4]; decide) (by rw [s4]; decide) (by rw [s4]; rfl) (by decide) ?_
      exact arm_learn C0 K hw hp hl i1 i2 i3 kk
    by_cases s5 : x = (5 : Int32)
    · refine lv_tableIn (off := 285) (tgt := 317) hx hb dL_law_32 (by rw [s5]; decide) (by rw [s5]; decide) (by rw [s5]; rfl) (by decide) ?_
      exact arm_set C0 K hw hp hl i1 i2 i3 kk
    by_cases s6 : x = (6 : Int32)
    · refine lv_tableIn (off := 318) (tgt := 350) hx hb dL_law_32 (by rw [s6]; decide) (by rw [s6]; decide) (by rw [s6]; rfl) (by decide) ?_
      exact arm_hour C0 K hw hp hl i1 i2 i3 kk
    by_cases s7 : x = (7 : Int32)
    · refine lv_tableIn (off := 351) (tgt := 383) hx hb dL_law_32 (by rw [s7]; decide) (by rw [s7]; decide) (by rw [s7]; rfl) (by decide) ?_
      exact arm_days C0 K hw hp hl i1 i2 i3 kk
    by_cases s8 : x = (8 : Int32)
    · refine lv_tableIn (off := 374) (tgt := 406) hx hb dL_law_32 (by rw [s8]; decide) (by rw [s8]; decide) (by rw [s8]; rfl) (by decide) ?_
      exact arm_answers C0 K hw hp hl i1 i2 i3 kk
    by_cases s9 : x = (9 : Int32)
    · refine lv_tableIn (off := 397) (tgt := 429) hx hb dL_law_32 (by rw [s9]; decide) (by rw [s9]; decide) (by rw [s9]; rfl) (by decide) ?_
      exact arm_says C0 K hw hp hl i1 i2 i3 kk
    by_cases s10 : x = (10 : Int32)
    · refine lv_tableIn (off := 420) (tgt := 452) hx hb dL_law_32 (by rw [s10]; decide) (by rw [s10]; decide) (by rw [s10]; rfl) (by decide) ?_
      exact arm_behind C0 K hw hp hl i1 i2 i3 kk
    by_cases s11 : x = (11 : Int32)
    · refine lv_tableIn (off := 453) (tgt := 485) hx hb dL_law_32 (by rw [s11]; decide) (by rw [s11]; decide) (by rw [s11]; rfl) (by decide) ?_
      exact arm_knownIn C0 K hw hp hl i1 i2 i3 kk
    by_cases s12 : x = (12 : Int32)
    · refine lv_tableIn (off := 486) (tgt := 518) hx hb dL_law_32 (by rw [s12]; decide) (by rw [s12]; decide) (by rw [s12]; rfl) (by decide) ?_
      exact arm_of C0 K hw hp hl i1 i2 i3 kk
    by_cases s13 : x = (13 : Int32)
    · refine lv_tableIn (off := 529) (tgt := 561) hx hb dL_law_32 (by rw [s13]; decide) (by rw [s13]; decide) (by rw [s13]; rfl) (by decide) ?_
      exact arm_knows C0 K hw hp hl i1 i2 i3 kk
    by_cases s14 : x = (14 : Int32)
    · refine lv_tableIn (off := 562) (tgt := 594) hx hb dL_law_32 (by rw [s14]; decide) (by rw [s14]; decide) (by rw [s14]; rfl) (by decide) ?_
      exact arm_silent C0 K hw hp hl i1 i2 i3 kk
    by_cases s15 : x = (15 : Int32)
    · refine lv_tableIn (off := 575) (tgt := 607) hx hb dL_law_32 (by rw [s15]; decide) (by rw [s15]; decide) (by rw [s15]; rfl) (by decide) ?_
      exact arm_week C0 K hw hp hl i1 i2 i3 kk
    by_cases s16 : x = (16 : Int32)
    · refine lv_tableIn (off := 598) (tgt := 630) hx hb dL_law_32 (by rw [s16]; decide) (by rw [s16]; decide) (by rw [s16]; rfl) (by decide) ?_
      exact arm_bestWeek C0 K hw hp hl i1 i2 i3 kk
    by_cases s17 : x = (17 : Int32)
    · refine lv_tableIn (off := 621) (tgt := 653) hx hb dL_law_32 (by rw [s17]; decide) (by rw [s17]; decide) (by rw [s17]; rfl) (by decide) ?_
      exact arm_bestTune C0 K hw hp hl i1 i2 i3 kk
    by_cases s18 : x = (18 : Int32)
    · refine lv_tableIn (off := 644) (tgt := 676) hx hb dL_law_32 (by rw [s18]; decide) (by rw [s18]; decide) (by rw [s18]; rfl) (by decide) ?_
      exact arm_worst C0 K hw hp hl i1 i2 i3 kk
    by_cases s19 : x = (19 : Int32)
    · refine lv_tableIn (off := 667) (tgt := 699) hx hb dL_law_32 (by rw [s19]; decide) (by rw [s19]; decide) (by rw [s19]; rfl) (by decide) ?_
      exact arm_bestHour C0 K hw hp hl i1 i2 i3 kk
    by_cases s20 : x = (20 : Int32)
    · refine lv_tableIn (off := 700) (tgt := 732) hx hb dL_law_32 (by rw [s20]; decide) (by rw [s20]; decide) (by rw [s20]; rfl) (by decide) ?_
      exact arm_keepAway C0 K hw hp hl i1 i2 i3 kk
    by_cases s21 : x = (21 : Int32)
    · refine lv_tableIn (off := 733) (tgt := 765) hx hb dL_law_32 (by rw [s21]; decide) (by rw [s21]; decide) (by rw [s21]; rfl) (by decide) ?_
      exact arm_might C0 K hw hp hl i1 i2 i3 kk
    by_cases s22 : x = (22 : Int32)
    · refine lv_tableIn (off := 756) (tgt := 788) hx hb dL_law_32 (by rw [s22]; decide) (by rw [s22]; decide) (by rw [s22]; rfl) (by decide) ?_
      exact arm_never C0 K hw hp hl i1 i2 i3 kk
    by_cases s23 : x = (23 : Int32)
    · refine lv_tableIn (off := 769) (tgt := 801) hx hb dL_law_32 (by rw [s23]; decide) (by rw [s23]; decide) (by rw [s23]; rfl) (by decide) ?_
      exact arm_whose C0 K hw hp hl i1 i2 i3 kk
    by_cases s24 : x = (24 : Int32)
    · refine lv_tableIn (off := 792) (tgt := 824) hx hb dL_law_32 (by rw [s24]; decide) (by rw [s24]; decide) (by rw [s24]; rfl) (by decide) ?_
      exact arm_tellsMost C0 K hw hp hl i1 i2 i3 kk
    by_cases s25 : x = (25 : Int32)
    · refine lv_tableIn (off := 805) (tgt := 837) hx hb dL_law_32 (by rw [s25]; decide) (by rw [s25]; decide) (by rw [s25]; rfl) (by decide) ?_
      exact arm_byTurns C0 K hw hp hl i1 i2 i3 kk
    by_cases s26 : x = (26 : Int32)
    · refine lv_tableIn (off := 848) (tgt := 880) hx hb dL_law_32 (by rw [s26]; decide) (by rw [s26]; decide) (by rw [s26]; rfl) (by decide) ?_
      exact arm_snow C0 K hw hp hl i1 i2 i3 kk
    by_cases s27 : x = (27 : Int32)
    · refine lv_tableIn (off := 881) (tgt := 913) hx hb dL_law_32 (by rw [s27]; decide) (by rw [s27]; decide) (by rw [s27]; rfl) (by decide) ?_
      exact arm_heals C0 K hw hp hl i1 i2 i3 kk
    by_cases s28 : x = (28 : Int32)
    · refine lv_tableIn (off := 904) (tgt := 936) hx hb dL_law_32 (by rw [s28]; decide) (by rw [s28]; decide) (by rw [s28]; rfl) (by decide) ?_
      exact arm_row C0 K hw hp hl i1 i2 i3 kk
    by_cases s29 : x = (29 : Int32)
    · refine lv_tableIn (off := 927) (tgt := 959) hx hb dL_law_32 (by rw [s29]; decide) (by rw [s29]; decide) (by rw [s29]; rfl) (by decide) ?_
      exact arm_fits C0 K hw hp hl i1 i2 i3 kk
    by_cases s30 : x = (30 : Int32)
    · refine lv_tableIn (off := 940) (tgt := 972) hx hb dL_law_32 (by rw [s30]; decide) (by rw [s30]; decide) (by rw [s30]; rfl) (by decide) ?_
      exact arm_judge C0 K hw hp hl i1 i2 i3 kk
    by_cases s31 : x = (31 : Int32)
    · refine lv_tableIn (off := 953) (tgt := 985) hx hb dL_law_32 (by rw [s31]; decide) (by rw [s31]; decide) (by rw [s31]; rfl) (by decide) ?_
      exact arm_clear C0 K hw hp hl i1 i2 i3 kk
    by_cases s32 : x = (32 : Int32)
    · refine lv_tableIn (off := 966) (tgt := 998) hx hb dL_law_32 (by rw [s32]; decide) (by rw [s32]; decide) (by rw [s32]; rfl) (by decide) ?_
      exact arm_lots C0 K hw hp hl i1 i2 i3 kk
    by_cases s33 : x = (33 : Int32)
    · refine lv_tableIn (off := 1009) (tgt := 1041) hx hb dL_law_32 (by rw [s33]; decide) (by rw [s33]; decide) (by rw [s33]; rfl) (by decide) ?_
      exact arm_image C0 K hw hp hl i1 i2 i3 kk
    by_cases s34 : x = (34 : Int32)
    · refine lv_tableIn (off := 1022) (tgt := 1054) hx hb dL_law_32 (by rw [s34]; decide) (by rw [s34]; decide) (by rw [s34]; rfl) (by decide) ?_
      exact arm_on C0 K hw hp hl i1 i2 i3 kk
    by_cases s35 : x = (35 : Int32)
    · refine lv_tableIn (off := 1035) (tgt := 1067) hx hb dL_law_32 (by rw [s35]; decide) (by rw [s35]; decide) (by rw [s35]; rfl) (by decide) ?_
      exact arm_count C0 K hw hp hl i1 i2 i3 kk
    refine tsw_d (tgt := 1090) (n := 36) hx hb dL_law_32 rfl (by decide) (fun j hj => ?_) (by decide) ?_
    · have hj2 : j = 0 ∨ j = 1 ∨ j = 2 ∨ j = 3 ∨ j = 4 ∨ j = 5 ∨ j = 6 ∨ j = 7 ∨ j = 8 ∨ j = 9 ∨ j = 10 ∨ j = 11 ∨ j = 12 ∨ j = 13 ∨ j = 14 ∨ j = 15 ∨ j = 16 ∨ j = 17 ∨ j = 18 ∨ j = 19 ∨ j = 20 ∨ j = 21 ∨ j = 22 ∨ j = 23 ∨ j = 24 ∨ j = 25 ∨ j = 26 ∨ j = 27 ∨ j = 28 ∨ j = 29 ∨ j = 30 ∨ j = 31 ∨ j = 32 ∨ j = 33 ∨ j = 34 ∨ j = 35 := by omega
      rcases hj2 with rfl | rfl | rfl | rfl | rfl | rfl | rfl | rfl | rfl | rfl | rfl | rfl | rfl | rfl | rfl | rfl | rfl | rfl | rfl | rfl | rfl | rfl | rfl | rfl | rfl | rfl | rfl | rfl | rfl | rfl | rfl | rfl | rfl | rfl | rfl | rfl
      · exact Or.inr (lv_neT s0 (by decide))
      · exact Or.inr (lv_neT s1 (by decide))
      · exact Or.inr (lv_neT s2 (by decide))
      · exact Or.inr (lv_neT s3 (by decide))
      · exact Or.inr (lv_neT s4 (by decide))
      · exact Or.inr (lv_neT s5 (by decide))
      · exact Or.inr (lv_neT s6 (by decide))
      · exact Or.inr (lv_neT s7 (by decide))
      · exact Or.inr (lv_neT s8 (by decide))
      · exact Or.inr (lv_neT s9 (by decide))
      · exact Or.inr (lv_neT s10 (by decide))
      · exact Or.inr (lv_neT s11 (by decide))
      · exact Or.inr (lv_neT s12 (by decide))
      · exact Or.inr (lv_neT s13 (by decide))
      · exact Or.inr (lv_neT s14 (by decide))
      · exact Or.inr (lv_neT s15 (by decide))
      · exact Or.inr (lv_neT s16 (by decide))
      · exact Or.inr (lv_neT s17 (by decide))
      · exact Or.inr (lv_neT s18 (by decide))
      · exact Or.inr (lv_neT s19 (by decide))
      · exact Or.inr (lv_neT s20 (by decide))
      · exact Or.inr (lv_neT s21 (by decide))
      · exact Or.inr (lv_neT s22 (by decide))
      · exact Or.inr (lv_neT s23 (by decide))
      · exact Or.inr (lv_neT s24 (by decide))
      · exact Or.inr (lv_neT s25 (by decide))
      · exact Or.inr (lv_neT s26 (by decide))
      · exact Or.inr (lv_neT s27 (by decide))
      · exact Or.inr (lv_neT s28 (by decide))
      · exact Or.inr (lv_neT s29 (by decide))
      · exact Or.inr (lv_neT s30 (by decide))
      · exact Or.inr (lv_neT s31 (by decide))
      · exact Or.inr (lv_neT s32 (by decide))
      · exact Or.inr (lv_neT s33 (by decide))
      · exact Or.inr (lv_neT s34 (by decide))
      · exact Or.inr (lv_neT s35 (by decide))
    · exact kk w1 w2 H locs hw hp
