def Ef (lt l t : Nat → Int32) (len a s n : Nat) (kd fg tn wd hr od kn : Nat → Int32) (tu hu pa dy ca cu cs : Int32) (cti cla am lw : Nat → Int32) (an un sa f1 f2 : Int32) : Prop :=
  (f_X2_isSensible lt (nI len) (nI a) (nI n) dy = 0 ∧ f_X4_comes kn (st3 tu hu pa) kd fg tn wd hr (nI n) dy l t am lw 0 an un sa f1 f2 (nI s) = some (0, kn, st3 tu hu pa, kd, fg, tn, wd, hr, nI n, dy, am, lw, an, un, sa, f1, f2)) ∨
  (¬ f_X2_isSensible lt (nI len) (nI a) (nI n) dy = 0 ∧ ∃ (n' : Nat) (kd' fg' tn' wd' hr' od' kn' : Nat → Int32) (tu' hu' pa' dy' ca' cu' cs' : Int32) (cti' cla' am' lw' : Nat → Int32) (an' un' sa' f1' f2' : Int32), f_X2_bring (nI n) kd fg tn wd hr od kn tu hu pa dy ca cu cs cti cla lt (nI len) (nI a) = some (nI n', kd', fg', tn', wd', hr', od', kn', tu', hu', pa', dy', ca', cu', cs', cti', cla') ∧ f_X4_comes kn (st3 tu hu pa) kd fg tn wd hr (nI n) dy l t am lw 0 an un sa f1 f2 (nI s) = some (1, kn', st3 tu' hu' pa', kd', fg', tn', wd', hr', nI n', dy', am', lw', an', un', sa', f1', f2') ∧ RM n' kd' fg' tn' wd' hr' od' kn' tu' hu' ∧ TZ cti' cla' ∧ TZ am' lw' ∧ nI n' = (if (lA lt len (a)) = 99 then nI n + 1 else nI n) ∧ dy' = (if (lA lt len (a)) = 100 then dy + nv lt len (a + 1) else dy))
theorem Ef_no {lt l t : Nat → Int32} {len a s n : Nat} {kd fg tn wd hr od kn : Nat → Int32} {tu hu pa dy ca cu cs : Int32} {cti cla am lw : Nat → Int32} {an un sa f1 f2 : Int32} (h : f_X2_isSensible lt (nI len) (nI a) (nI n) dy = 0) (e : f_X4_comes kn (st3 tu hu pa) kd fg tn wd hr (nI n) dy l t am lw 0 an un sa f1 f2 (nI s) = some (0, kn, st3 tu hu pa, kd, fg, tn, wd, hr, nI n, dy, am, lw, an, un, sa, f1, f2)) : Ef lt l t len a s n kd fg tn wd hr od kn tu hu pa dy ca cu cs cti cla am lw an un sa f1 f2 := Or.inl ⟨h, e⟩
theorem Ef_ok {lt l t : Nat → Int32} {len a s n : Nat} {kd fg tn wd hr od kn : Nat → Int32} {tu hu pa dy ca cu cs : Int32} {cti cla am lw : Nat → Int32} {an un sa f1 f2 : Int32} {n' : Nat} {kd' fg' tn' wd' hr' od' kn' : Nat → Int32} {tu' hu' pa' dy' ca' cu' cs' : Int32} {cti' cla' am' lw' : Nat → Int32} {an' un' sa' f1' f2' : Int32} (h : f_X2_isSensible lt (nI len) (nI a) (nI n) dy = 1) (e1 : f_X2_bring (nI n) kd fg tn wd hr od kn tu hu pa dy ca cu cs cti cla lt (nI len) (nI a) = some (nI n', kd', fg', tn', wd', hr', od', kn', tu', hu', pa', dy', ca', cu', cs', cti', cla')) (e2 : f_X4_comes kn (st3 tu hu pa) kd fg tn wd hr (nI n) dy l t am lw 0 an un sa f1 f2 (nI s) = some (1, kn', st3 tu' hu' pa', kd', fg', tn', wd', hr', nI n', dy', am', lw', an', un', sa', f1', f2')) (h1 : RM n' kd' fg' tn' wd' hr' od' kn' tu' hu') (h2 : TZ cti' cla') (h3 : TZ am' lw') (h4 : nI n' = (if (lA lt len (a)) = 99 then nI n + 1 else nI n)) (h5 : dy' = (if (lA lt len (a)) = 100 then dy + nv lt len (a + 1) else dy)) : Ef lt l t len a s n kd fg tn wd hr od kn tu hu pa dy ca cu cs cti cla am lw an un sa f1 f2 :=
  Or.inr ⟨by rw [h]; exact nz1, n', kd', fg', tn', wd', hr', od', kn', tu', hu', pa', dy', ca', cu', cs', cti', cla', am', lw', an', un', sa', f1', f2', e1, e2, h1, h2, h3, h4, h5⟩
theorem dgC {lt : Nat → Int32} {len p : Nat} (hl : len ≤ 96) (hp : p < 1000) : f_X2_digitAt lt (nI len) (nI p) = dv lt len p := by
  unfold f_X2_digitAt dv
  rw [lA_c hl (by omega)]
theorem nmC {lt : Nat → Int32} {len p : Nat} (hl : len ≤ 96) (hp : p < 900) : f_X2_numberAt lt (nI len) (nI p) = nv lt len p := by
  unfold f_X2_numberAt nv
  rw [nI_1, dgC hl (by omega), dgC hl (by omega)]
theorem fz_n {lt : Nat → Int32} {len p : Nat} {q : Int32} {l : List Int32} (h : fz lt len (q :: l) p = none) : okc q (lA lt len p) = true ∧ fz lt len l (p + 1) = none := by
  by_cases ho : okc q (lA lt len p) = true
  · rw [fz_t ho] at h; exact ⟨ho, h⟩
  · rw [fz_f ho] at h; exact absurd h (by simp)
theorem dgt_n {lt : Nat → Int32} {len p : Nat} (hb : LB (lA lt len p)) (h : okc 35 (lA lt len p) = true) : ∃ d, d < 10 ∧ dv lt len p = nI d := by
  have h2 := okd.mp h
  unfold dv
  rcases hb with e | ⟨b, hb, e⟩
  · rw [e] at h2; exact absurd (show f_X4_isIn (-1) 48 57 = 0 by decide) h2
  · rw [e] at h2 ⊢
    unfold f_X4_isIn at h2
    by_cases h48 : nI b < 48
    · rw [if_pos h48] at h2; exact absurd rfl h2
    · rw [if_neg h48] at h2
      by_cases h57 : (57 : Int32) < nI b
      · rw [if_pos h57] at h2; exact absurd rfl h2
      · have a1 : 48 ≤ b := by
          by_cases q : b < 48
          · exact absurd (show nI b < 48 from nI_lt (b := 48) q (by omega)) h48
          · omega
        have a2 : b ≤ 57 := by
          by_cases q : 57 < b
          · exact absurd (show (57 : Int32) < nI b from nI_lt (a := 57) q (by omega)) h57
          · omega
        exact ⟨b - 48, by omega, pk_sub (b := 48) a1⟩
theorem nv_n {lt : Nat → Int32} {len p d e : Nat} (h1 : dv lt len p = nI d) (h2 : dv lt len (p + 1) = nI e) : nv lt len p = nI (10 * d + e) := by
  unfold nv
  rw [h1, h2, show (10 : Int32) * nI d = nI (10 * d) from pk_mul 10 d, nI_add]
theorem isIn_n {lo hi v : Nat} (hv : v < 1000) (hh : hi < 1000) (hl : lo < 1000) : f_X4_isIn (nI v) (nI lo) (nI hi) = (if lo ≤ v ∧ v ≤ hi then 1 else 0) := by
  unfold f_X4_isIn
  by_cases h1 : v < lo
  · rw [if_pos (nI_lt h1 (by omega)), if_neg (by omega)]
  · rw [if_neg (nI_nlt (by omega) (by omega))]
    by_cases h2 : hi < v
    · rw [if_pos (nI_lt h2 (by omega)), if_neg (by omega)]
    · rw [if_neg (nI_nlt (by omega) (by omega)), if_pos (by omega)]
theorem rng_n {lo hi v : Nat} (hv : v < 1000) (hh : hi < 1000) (hl : lo < 1000) : f_X3_rangeNo (nI v) (nI lo) (nI hi) = 0 ↔ lo ≤ v ∧ v ≤ hi := by
  rw [range_b]
  unfold f_X4_bound
  by_cases h1 : lo ≤ v
  · rw [if_pos (nI_le h1 (by omega))]
    by_cases h2 : v ≤ hi
    · rw [if_pos (nI_le h2 (by omega))]
      exact ⟨fun _ => ⟨h1, h2⟩, fun _ => rfl⟩
    · rw [if_neg (nI_ge (by omega) (by omega))]
      exact ⟨fun q => absurd q (by decide), fun q => absurd q.2 h2⟩
  · rw [if_neg (nI_ge (by omega) (by omega))]
    exact ⟨fun q => absurd q (by decide), fun q => absurd q.1 h1⟩
theorem word_0 {d : Nat} (h : 8 ≤ d) (hd : d < 1000) : f_X4_isWord (nI d) = 0 := by
  unfold f_X4_isWord
  rw [if_neg (nI_pos (by omega)), if_pos (show (8 : Int32) ≤ nI d from nI_le (a := 8) h (by omega))]
theorem call_0 {n d : Nat} (h : n ≤ d) (hd : d < 1000) : f_X4_isCaller (nI n) (nI d) = 0 := by
  unfold f_X4_isCaller
  rw [if_neg (nI_pos (by omega)), if_pos (nI_le h (by omega))]
set_option maxHeartbeats 1000000 in
theorem ef_h {lt l t : Nat → Int32} {len a s n : Nat} {kd fg tn wd hr od kn : Nat → Int32} {tu hu pa dy ca cu cs : Int32} {cti cla am lw : Nat → Int32} {an un sa f1 f2 : Int32} (hR : RT len lt) (ha : a < len) (hs : s < 40) (hf : sF lt len a = none) (hls : l s = (lA lt len (a))) (htv : TV lt len a t (5 * s)) (h1 : RM n kd fg tn wd hr od kn tu hu) (h2 : TZ cti cla) (h3 : TZ am lw) (hx : (lA lt len (a)) = 104) : Ef lt l t len a s n kd fg tn wd hr od kn tu hu pa dy ca cu cs cti cla am lw an un sa f1 f2 := by
  have hl := hR.1
  have h1' := h1
  obtain ⟨g1, g2, g3, g4, g5, g6, g7⟩ := h1
  have hn7 := g1.1
  have hj : jF lt len a = 2 := by
    unfold jF
    rw [hx]
    decide
  unfold sF at hf
  rw [hj, if_neg (by decide)] at hf
  have p1 : nI a + 1 = nI (a + 1) := nI_add a 1
  have p2 : nI a + 2 = nI (a + 2) := nI_add a 2
  have p3 : nI a + 3 = nI (a + 3) := nI_add a 3
  have p4 : nI a + 4 = nI (a + 4) := nI_add a 4
  have p5 : nI a + 5 = nI (a + 5) := nI_add a 5
  have s5 : (5 : Int32) * nI s = nI (5 * s) := pk_mul 5 s
  have lx : f_X2_letterAt lt (nI len) (nI a) = 104 := (lA_c hl (by omega)).trans hx
  have hc : ∀ {p : Nat}, LB (lA lt len p) := fun {p} => lA_b hR p
  have hlx : l s = 104 := hls.trans hx
  obtain ⟨k1, hf⟩ := fz_n hf
  obtain ⟨k2, hf⟩ := fz_n hf
  obtain ⟨k3, hf⟩ := fz_n hf
  obtain ⟨d, hd, ed⟩ := dgt_n hc k1
  obtain ⟨d2, hd2, ed2⟩ := dgt_n hc k2
  obtain ⟨d3, hd3, ed3⟩ := dgt_n hc k3
  have em : nv lt len (a + 2) = nI (10 * d2 + d3) := nv_n ed2 ed3
  obtain ⟨t1, t2⟩ := htv.2.1 (Or.inl hx)
  rw [ed] at t1
  rw [em] at t2
  generalize hm : 10 * d2 + d3 = m at em t2
  have hm1 : m < 100 := by omega
  have ss : f_X2_isSensible lt (nI len) (nI a) (nI n) dy = (if nI n ≤ nI d then 0 else if (24 : Int32) ≤ nI m then 0 else 1) := by
    unfold f_X2_isSensible
    rw [lx, if_neg (show ¬ (104 : Int32) = 99 by decide), if_neg (show ¬ (104 : Int32) = 100 by decide), if_pos rfl, p1, p2, dgC hl (by omega), nmC hl (by omega), ed, em]
  have cm : f_X4_comes kn (st3 tu hu pa) kd fg tn wd hr (nI n) dy l t am lw 0 an un sa f1 f2 (nI s) = (if f_X4_isCaller (nI n) (nI d) = 0 then some (0, kn, st3 tu hu pa, kd, fg, tn, wd, hr, nI n, dy, am, lw, an, un, sa, f1, f2) else if nI m ≤ 23 then gu (inB (nI d) 7) (some (1, kn, st3 tu hu pa, kd, fg, tn, wd, upd hr (nI d).toNatClampNeg (nI m), nI n, dy, am, lw, an, un, sa, f1, f2)) else some (0, kn, st3 tu hu pa, kd, fg, tn, wd, hr, nI n, dy, am, lw, an, un, sa, f1, f2)) := by
    unfold f_X4_comes
    rw [s5, nI_1, gu_t (inB_n (show 5 * s < 240 by omega)), gu_t (inB_n (show 5 * s + 1 < 240 by omega)), gu_t (inB_n (show s < 48 by omega)), cl_n (show s < 2147483648 by omega), hlx, if_neg (show ¬ (104 : Int32) = 99 by decide), if_pos rfl, cl_n (show 5 * s < 2147483648 by omega), cl_n (show 5 * s + 1 < 2147483648 by omega), t1, t2]
  by_cases q1 : n ≤ d
  · rw [call_0 q1 (by omega), if_pos rfl] at cm
    rw [if_pos (nI_le q1 (by omega))] at ss
    exact Ef_no ss cm
  · rw [if_neg (nI_ge (by omega) (by omega))] at ss
    rw [call_is hn7 (by omega), if_neg nz1] at cm
    by_cases q2 : 24 ≤ m
    · rw [if_pos (show (24 : Int32) ≤ nI m from nI_le (a := 24) q2 (by omega))] at ss
      rw [if_neg (show ¬ nI m ≤ 23 from nI_ge (a := 23) (by omega) (by omega))] at cm
      exact Ef_no ss cm
    · rw [if_neg (show ¬ (24 : Int32) ≤ nI m from nI_ge (b := 24) (by omega) (by omega))] at ss
      rw [if_pos (show nI m ≤ 23 from nI_le (b := 23) (by omega) (by omega)), gu_t (inB_n (by omega)), cl_n (by omega)] at cm
      obtain ⟨od', e, ho, hzo⟩ := move_c g1 g5 (c := d) (h := m) (by omega) (by omega)
      have br : f_X2_bring (nI n) kd fg tn wd hr od kn tu hu pa dy ca cu cs cti cla lt (nI len) (nI a) = some (nI n, kd, fg, tn, wd, upd hr d (nI m), od', kn, tu, hu, pa, dy, ca, cu, cs, cti, cla) := by
        unfold f_X2_bring
        rw [lx, if_neg (show ¬ (104 : Int32) = 99 by decide), if_neg (show ¬ (104 : Int32) = 100 by decide), if_pos rfl, p1, p2, dgC hl (by omega), nmC hl (by omega), ed, em, bi_s e]
      exact Ef_ok ss br cm ⟨g1.hour (by omega), g2, g3.hour (by omega) _, ho, hzo, g6, g7⟩ h2 h3 (by rw [if_neg (by rw [hx]; decide)]) (by rw [if_neg (by rw [hx]; decide)])
set_option maxHeartbeats 1000000 in
theorem ef_k {lt l t : Nat → Int32} {len a s n : Nat} {kd fg tn wd hr od kn : Nat → Int32} {tu hu pa dy ca cu cs : Int32} {cti cla am lw : Nat → Int32} {an un sa f1 f2 : Int32} (hR : RT len lt) (ha : a < len) (hs : s < 40) (hf : sF lt len a = none) (hls : l s = (lA lt len (a))) (htv : TV lt len a t (5 * s)) (h1 : RM n kd fg tn wd hr od kn tu hu) (h2 : TZ cti cla) (h3 : TZ am lw) (hx : (lA lt len (a)) = 107) : Ef lt l t len a s n kd fg tn wd hr od kn tu hu pa dy ca cu cs cti cla am lw an un sa f1 f2 := by
  have hl := hR.1
  have h1' := h1
  obtain ⟨g1, g2, g3, g4, g5, g6, g7⟩ := h1
  have hn7 := g1.1
  have hj : jF lt len a = 1 := by
    unfold jF
    rw [hx]
    decide
  unfold sF at hf
  rw [hj, if_neg (by decide)] at hf
  have p1 : nI a + 1 = nI (a + 1) := nI_add a 1
  have p2 : nI a + 2 = nI (a + 2) := nI_add a 2
  have p3 : nI a + 3 = nI (a + 3) := nI_add a 3
  have p4 : nI a + 4 = nI (a + 4) := nI_add a 4
  have p5 : nI a + 5 = nI (a + 5) := nI_add a 5
  have s5 : (5 : Int32) * nI s = nI (5 * s) := pk_mul 5 s
  have lx : f_X2_letterAt lt (nI len) (nI a) = 107 := (lA_c hl (by omega)).trans hx
  have hc : ∀ {p : Nat}, LB (lA lt len p) := fun {p} => lA_b hR p
  have hlx : l s = 107 := hls.trans hx
  obtain ⟨k1, hf⟩ := fz_n hf
  obtain ⟨k2, hf⟩ := fz_n hf
  obtain ⟨k3, hf⟩ := fz_n hf
  obtain ⟨d, hd, ed⟩ := dgt_n hc k1
  obtain ⟨d2, hd2, ed2⟩ := dgt_n hc k2
  obtain ⟨d3, hd3, ed3⟩ := dgt_n hc k3
  have em : nv lt len (a + 2) = nI (10 * d2 + d3) := nv_n ed2 ed3
  obtain ⟨t1, t2⟩ := htv.2.1 (Or.inr hx)
  rw [ed] at t1
  rw [em] at t2
  generalize hm : 10 * d2 + d3 = m at em t2
  have hm1 : m < 100 := by omega
  have ss : f_X2_isSensible lt (nI len) (nI a) (nI n) dy = (if (8 : Int32) ≤ nI d then 0 else if (20 : Int32) < nI m then 0 else 1) := by
    unfold f_X2_isSensible
    rw [lx, if_neg (show ¬ (107 : Int32) = 99 by decide), if_neg (show ¬ (107 : Int32) = 100 by decide), if_neg (show ¬ (107 : Int32) = 104 by decide), if_pos rfl, p1, p2, dgC hl (by omega), nmC hl (by omega), ed, em]
  have cm : f_X4_comes kn (st3 tu hu pa) kd fg tn wd hr (nI n) dy l t am lw 0 an un sa f1 f2 (nI s) = (if f_X4_isWord (nI d) = 0 then some (0, kn, st3 tu hu pa, kd, fg, tn, wd, hr, nI n, dy, am, lw, an, un, sa, f1, f2) else if nI m ≤ 20 then gu (inB (nI d) 8) (some (1, upd kn (nI d).toNatClampNeg (nI m), st3 tu hu pa, kd, fg, tn, wd, hr, nI n, dy, am, lw, an, un, sa, f1, f2)) else some (0, kn, st3 tu hu pa, kd, fg, tn, wd, hr, nI n, dy, am, lw, an, un, sa, f1, f2)) := by
    unfold f_X4_comes
    rw [s5, nI_1, gu_t (inB_n (show 5 * s < 240 by omega)), gu_t (inB_n (show 5 * s + 1 < 240 by omega)), gu_t (inB_n (show s < 48 by omega)), cl_n (show s < 2147483648 by omega), hlx, if_neg (show ¬ (107 : Int32) = 99 by decide), if_neg (show ¬ (107 : Int32) = 104 by decide), if_pos rfl, cl_n (show 5 * s < 2147483648 by omega), cl_n (show 5 * s + 1 < 2147483648 by omega), t1, t2]
  by_cases q1 : 8 ≤ d
  · rw [word_0 q1 (by omega), if_pos rfl] at cm
    rw [if_pos (show (8 : Int32) ≤ nI d from nI_le (a := 8) q1 (by omega))] at ss
    exact Ef_no ss cm
  · rw [if_neg (show ¬ (8 : Int32) ≤ nI d from nI_ge (b := 8) (by omega) (by omega))] at ss
    rw [word_is (by omega), if_neg nz1] at cm
    by_cases q2 : 20 < m
    · rw [if_pos (show (20 : Int32) < nI m from nI_lt (a := 20) q2 (by omega))] at ss
      rw [if_neg (show ¬ nI m ≤ 20 from nI_ge (a := 20) (by omega) (by omega))] at cm
      exact Ef_no ss cm
    · rw [if_neg (show ¬ (20 : Int32) < nI m from nI_nlt (a := 20) (by omega) (by omega))] at ss
      rw [if_pos (show nI m ≤ 20 from nI_le (b := 20) (by omega) (by omega)), gu_t (inB_n (by omega)), cl_n (by omega)] at cm
      have br : f_X2_bring (nI n) kd fg tn wd hr od kn tu hu pa dy ca cu cs cti cla lt (nI len) (nI a) = some (nI n, kd, fg, tn, wd, hr, od, upd kn d (nI m), tu, hu, pa, dy, ca, cu, cs, cti, cla) := by
        unfold f_X2_bring
        rw [lx, if_neg (show ¬ (107 : Int32) = 99 by decide), if_neg (show ¬ (107 : Int32) = 100 by decide), if_neg (show ¬ (107 : Int32) = 104 by decide), if_pos rfl, p1, p2, dgC hl (by omega), nmC hl (by omega), ed, em, put_n (by omega)]
      exact Ef_ok ss br cm ⟨g1, g2, g3, g4, g5, g6.upd (by omega), g7⟩ h2 h3 (by rw [if_neg (by rw [hx]; decide)]) (by rw [if_neg (by rw [hx]; decide)])
set_option maxHeartbeats 1000000 in
theorem ef_p {lt l t : Nat → Int32} {len a s n : Nat} {kd fg tn wd hr od kn : Nat → Int32} {tu hu pa dy ca cu cs : Int32} {cti cla am lw : Nat → Int32} {an un sa f1 f2 : Int32} (hR : RT len lt) (ha : a < len) (hs : s < 40) (hf : sF lt len a = none) (hls : l s = (lA lt len (a))) (htv : TV lt len a t (5 * s)) (h1 : RM n kd fg tn wd hr od kn tu hu) (h2 : TZ cti cla) (h3 : TZ am lw) (hx : (lA lt len (a)) = 112) : Ef lt l t len a s n kd fg tn wd hr od kn tu hu pa dy ca cu cs cti cla am lw an un sa f1 f2 := by
  have hl := hR.1
  have h1' := h1
  obtain ⟨g1, g2, g3, g4, g5, g6, g7⟩ := h1
  have hn7 := g1.1
  have hj : jF lt len a = 5 := by
    unfold jF
    rw [hx]
    decide
  unfold sF at hf
  rw [hj, if_neg (by decide)] at hf
  have p1 : nI a + 1 = nI (a + 1) := nI_add a 1
  have p2 : nI a + 2 = nI (a + 2) := nI_add a 2
  have p3 : nI a + 3 = nI (a + 3) := nI_add a 3
  have p4 : nI a + 4 = nI (a + 4) := nI_add a 4
  have p5 : nI a + 5 = nI (a + 5) := nI_add a 5
  have s5 : (5 : Int32) * nI s = nI (5 * s) := pk_mul 5 s
  have lx : f_X2_letterAt lt (nI len) (nI a) = 112 := (lA_c hl (by omega)).trans hx
  have hc : ∀ {p : Nat}, LB (lA lt len p) := fun {p} => lA_b hR p
  have hlx : l s = 112 := hls.trans hx
  obtain ⟨k1, hf⟩ := fz_n hf
  obtain ⟨k2, hf⟩ := fz_n hf
  obtain ⟨d1, hd1, ed1⟩ := dgt_n hc k1
  obtain ⟨d2, hd2, ed2⟩ := dgt_n hc k2
  have em : nv lt len (a + 1) = nI (10 * d1 + d2) := nv_n ed1 ed2
  have t1 := htv.2.2.2 (Or.inr (Or.inl hx))
  rw [em] at t1
  generalize hm : 10 * d1 + d2 = m at em t1
  have hm1 : m < 100 := by omega
  have hin : f_X4_isIn (nI m) 1 20 = (if 1 ≤ m ∧ m ≤ 20 then 1 else 0) := isIn_n (lo := 1) (hi := 20) (by omega) (by omega) (by omega)
  have hrg : f_X3_rangeNo (nI m) 1 20 = 0 ↔ 1 ≤ m ∧ m ≤ 20 := rng_n (lo := 1) (hi := 20) (by omega) (by omega) (by omega)
  have ss : f_X2_isSensible lt (nI len) (nI a) (nI n) dy = (if f_X3_rangeNo (nI m) 1 20 = 0 then 1 else 0) := by
    unfold f_X2_isSensible
    rw [lx, if_neg (show ¬ (112 : Int32) = 99 by decide), if_neg (show ¬ (112 : Int32) = 100 by decide), if_neg (show ¬ (112 : Int32) = 104 by decide), if_neg (show ¬ (112 : Int32) = 107 by decide), if_pos rfl, p1, nmC hl (by omega), em]
  have cm : f_X4_comes kn (st3 tu hu pa) kd fg tn wd hr (nI n) dy l t am lw 0 an un sa f1 f2 (nI s) = (bi (f_X4_comesSet (st3 tu hu pa) 2 (nI m)) fun z26 => gu (isB z26.1) (some (z26.1, kn, z26.2, kd, fg, tn, wd, hr, nI n, dy, am, lw, an, un, sa, f1, f2))) := by
    unfold f_X4_comes
    rw [s5, nI_1, gu_t (inB_n (show 5 * s < 240 by omega)), gu_t (inB_n (show 5 * s + 1 < 240 by omega)), gu_t (inB_n (show s < 48 by omega)), cl_n (show s < 2147483648 by omega), hlx, if_neg (show ¬ (112 : Int32) = 99 by decide), if_neg (show ¬ (112 : Int32) = 104 by decide), if_neg (show ¬ (112 : Int32) = 107 by decide), if_pos rfl, cl_n (show 5 * s < 2147483648 by omega), t1]
  unfold f_X4_comesSet f_X4_isSetting at cm
  rw [if_neg (show ¬ (2 : Int32) = 0 by decide), if_neg (show ¬ (2 : Int32) = 1 by decide), hin] at cm
  by_cases q : 1 ≤ m ∧ m ≤ 20
  · rw [if_pos q, gu_t (show isB 1 = true by decide), bi_some, if_neg nz1, gu_t (show inB 2 3 = true by decide), st3_u2, bi_some] at cm
    dsimp only at cm
    rw [gu_t (show isB 1 = true by decide)] at cm
    rw [if_pos (hrg.mpr q)] at ss
    have br : f_X2_bring (nI n) kd fg tn wd hr od kn tu hu pa dy ca cu cs cti cla lt (nI len) (nI a) = some (nI n, kd, fg, tn, wd, hr, od, kn, tu, hu, nI m, dy, ca, cu, cs, cti, cla) := by
      unfold f_X2_bring
      rw [lx, if_neg (show ¬ (112 : Int32) = 99 by decide), if_neg (show ¬ (112 : Int32) = 100 by decide), if_neg (show ¬ (112 : Int32) = 104 by decide), if_neg (show ¬ (112 : Int32) = 107 by decide), if_pos rfl, p1, nmC hl (by omega), em]
    exact Ef_ok ss br cm h1' h2 h3 (by rw [if_neg (by rw [hx]; decide)]) (by rw [if_neg (by rw [hx]; decide)])
  · rw [if_neg q, gu_t (show isB 0 = true by decide), bi_some, if_pos rfl, bi_some] at cm
    dsimp only at cm
    rw [gu_t (show isB 0 = true by decide)] at cm
    rw [if_neg (fun w => q (hrg.mp w))] at ss
    exact Ef_no ss cm
set_option maxHeartbeats 1000000 in
theorem ef_t {lt l t : Nat → Int32} {len a s n : Nat} {kd fg tn wd hr od kn : Nat → Int32} {tu hu pa dy ca cu cs : Int32} {cti cla am lw : Nat → Int32} {an un sa f1 f2 : Int32} (hR : RT len lt) (ha : a < len) (hs : s < 40) (hf : sF lt len a = none) (hls : l s = (lA lt len (a))) (htv : TV lt len a t (5 * s)) (h1 : RM n kd fg tn wd hr od kn tu hu) (h2 : TZ cti cla) (h3 : TZ am lw) (hx : (lA lt len (a)) = 116) : Ef lt l t len a s n kd fg tn wd hr od kn tu hu pa dy ca cu cs cti cla am lw an un sa f1 f2 := by
  have hl := hR.1
  have h1' := h1
  obtain ⟨g1, g2, g3, g4, g5, g6, g7⟩ := h1
  have hn7 := g1.1
  have hj : jF lt len a = 3 := by
    unfold jF
    rw [hx]
    decide
  unfold sF at hf
  rw [hj, if_neg (by decide)] at hf
  have p1 : nI a + 1 = nI (a + 1) := nI_add a 1
  have p2 : nI a + 2 = nI (a + 2) := nI_add a 2
  have p3 : nI a + 3 = nI (a + 3) := nI_add a 3
  have p4 : nI a + 4 = nI (a + 4) := nI_add a 4
  have p5 : nI a + 5 = nI (a + 5) := nI_add a 5
  have s5 : (5 : Int32) * nI s = nI (5 * s) := pk_mul 5 s
  have lx : f_X2_letterAt lt (nI len) (nI a) = 116 := (lA_c hl (by omega)).trans hx
  have hc : ∀ {p : Nat}, LB (lA lt len p) := fun {p} => lA_b hR p
  have hlx : l s = 116 := hls.trans hx
  obtain ⟨k1, hf⟩ := fz_n hf
  obtain ⟨d, hd, ed⟩ := dgt_n hc k1
  have t1 := htv.2.2.1 hx
  rw [ed] at t1
  have hin : f_X4_isIn (nI d) 0 9 = 1 := (isIn_n (lo := 0) (hi := 9) (by omega) (by omega) (by omega)).trans (if_pos (by omega))
  have ss : f_X2_isSensible lt (nI len) (nI a) (nI n) dy = 1 := by
    unfold f_X2_isSensible
    rw [lx, if_neg (show ¬ (116 : Int32) = 99 by decide), if_neg (show ¬ (116 : Int32) = 100 by decide), if_neg (show ¬ (116 : Int32) = 104 by decide), if_neg (show ¬ (116 : Int32) = 107 by decide), if_neg (show ¬ (116 : Int32) = 112 by decide)]
  have cm : f_X4_comes kn (st3 tu hu pa) kd fg tn wd hr (nI n) dy l t am lw 0 an un sa f1 f2 (nI s) = (bi (f_X4_comesSet (st3 tu hu pa) 0 (nI d)) fun z26 => gu (isB z26.1) (some (z26.1, kn, z26.2, kd, fg, tn, wd, hr, nI n, dy, am, lw, an, un, sa, f1, f2))) := by
    unfold f_X4_comes
    rw [s5, nI_1, gu_t (inB_n (show 5 * s < 240 by omega)), gu_t (inB_n (show 5 * s + 1 < 240 by omega)), gu_t (inB_n (show s < 48 by omega)), cl_n (show s < 2147483648 by omega), hlx, if_neg (show ¬ (116 : Int32) = 99 by decide), if_neg (show ¬ (116 : Int32) = 104 by decide), if_neg (show ¬ (116 : Int32) = 107 by decide), if_neg (show ¬ (116 : Int32) = 112 by decide), if_pos rfl, cl_n (show 5 * s < 2147483648 by omega), t1]
  unfold f_X4_comesSet f_X4_isSetting at cm
  rw [if_pos rfl, hin, gu_t (show isB 1 = true by decide), bi_some, if_neg nz1, gu_t (show inB 0 3 = true by decide), st3_u0, bi_some] at cm
  dsimp only at cm
  rw [gu_t (show isB 1 = true by decide)] at cm
  have br : f_X2_bring (nI n) kd fg tn wd hr od kn tu hu pa dy ca cu cs cti cla lt (nI len) (nI a) = some (nI n, kd, fg, tn, wd, hr, od, kn, nI d, hu, pa, dy, ca, cu, cs, cti, cla) := by
    unfold f_X2_bring
    rw [lx, if_neg (show ¬ (116 : Int32) = 99 by decide), if_neg (show ¬ (116 : Int32) = 100 by decide), if_neg (show ¬ (116 : Int32) = 104 by decide), if_neg (show ¬ (116 : Int32) = 107 by decide), if_neg (show ¬ (116 : Int32) = 112 by decide), if_pos rfl, p1, dgC hl (by omega), ed]
  exact Ef_ok ss br cm ⟨g1, ⟨d, hd, rfl⟩, g3, g4, g5, g6, g7⟩ h2 h3 (by rw [if_neg (by rw [hx]; decide)]) (by rw [if_neg (by rw [hx]; decide)])
set_option maxHeartbeats 1000000 in
theorem ef_u {lt l t : Nat → Int32} {len a s n : Nat} {kd fg tn wd hr od kn : Nat → Int32} {tu hu pa dy ca cu cs : Int32} {cti cla am lw : Nat → Int32} {an un sa f1 f2 : Int32} (hR : RT len lt) (ha : a < len) (hs : s < 40) (hf : sF lt len a = none) (hls : l s = (lA lt len (a))) (htv : TV lt len a t (5 * s)) (h1 : RM n kd fg tn wd hr od kn tu hu) (h2 : TZ cti cla) (h3 : TZ am lw) (hx : (lA lt len (a)) = 117) : Ef lt l t len a s n kd fg tn wd hr od kn tu hu pa dy ca cu cs cti cla am lw an un sa f1 f2 := by
  have hl := hR.1
  have h1' := h1
  obtain ⟨g1, g2, g3, g4, g5, g6, g7⟩ := h1
  have hn7 := g1.1
  have hj : jF lt len a = 4 := by
    unfold jF
    rw [hx]
    decide
  unfold sF at hf
  rw [hj, if_neg (by decide)] at hf
  have p1 : nI a + 1 = nI (a + 1) := nI_add a 1
  have p2 : nI a + 2 = nI (a + 2) := nI_add a 2
  have p3 : nI a + 3 = nI (a + 3) := nI_add a 3
  have p4 : nI a + 4 = nI (a + 4) := nI_add a 4
  have p5 : nI a + 5 = nI (a + 5) := nI_add a 5
  have s5 : (5 : Int32) * nI s = nI (5 * s) := pk_mul 5 s
  have lx : f_X2_letterAt lt (nI len) (nI a) = 117 := (lA_c hl (by omega)).trans hx
  have hc : ∀ {p : Nat}, LB (lA lt len p) := fun {p} => lA_b hR p
  have hlx : l s = 117 := hls.trans hx
  obtain ⟨k1, hf⟩ := fz_n hf
  obtain ⟨k2, hf⟩ := fz_n hf
  obtain ⟨d1, hd1, ed1⟩ := dgt_n hc k1
  obtain ⟨d2, hd2, ed2⟩ := dgt_n hc k2
  have em : nv lt len (a + 1) = nI (10 * d1 + d2) := nv_n ed1 ed2
  have t1 := htv.2.2.2 (Or.inr (Or.inr hx))
  rw [em] at t1
  generalize hm : 10 * d1 + d2 = m at em t1
  have hm1 : m < 100 := by omega
  have hin : f_X4_isIn (nI m) 0 99 = 1 := (isIn_n (lo := 0) (hi := 99) (by omega) (by omega) (by omega)).trans (if_pos (by omega))
  have ss : f_X2_isSensible lt (nI len) (nI a) (nI n) dy = 1 := by
    unfold f_X2_isSensible
    rw [lx, if_neg (show ¬ (117 : Int32) = 99 by decide), if_neg (show ¬ (117 : Int32) = 100 by decide), if_neg (show ¬ (117 : Int32) = 104 by decide), if_neg (show ¬ (117 : Int32) = 107 by decide), if_neg (show ¬ (117 : Int32) = 112 by decide)]
  have cm : f_X4_comes kn (st3 tu hu pa) kd fg tn wd hr (nI n) dy l t am lw 0 an un sa f1 f2 (nI s) = (bi (f_X4_comesSet (st3 tu hu pa) 1 (nI m)) fun z26 => gu (isB z26.1) (some (z26.1, kn, z26.2, kd, fg, tn, wd, hr, nI n, dy, am, lw, an, un, sa, f1, f2))) := by
    unfold f_X4_comes
    rw [s5, nI_1, gu_t (inB_n (show 5 * s < 240 by omega)), gu_t (inB_n (show 5 * s + 1 < 240 by omega)), gu_t (inB_n (show s < 48 by omega)), cl_n (show s < 2147483648 by omega), hlx, if_neg (show ¬ (117 : Int32) = 99 by decide), if_neg (show ¬ (117 : Int32) = 104 by decide), if_neg (show ¬ (117 : Int32) = 107 by decide), if_neg (show ¬ (117 : Int32) = 112 by decide), if_neg (show ¬ (117 : Int32) = 116 by decide), if_pos rfl, cl_n (show 5 * s < 2147483648 by omega), t1]
  unfold f_X4_comesSet f_X4_isSetting at cm
  rw [if_neg (show ¬ (1 : Int32) = 0 by decide), if_pos rfl, hin, gu_t (show isB 1 = true by decide), bi_some, if_neg nz1, gu_t (show inB 1 3 = true by decide), st3_u1, bi_some] at cm
  dsimp only at cm
  rw [gu_t (show isB 1 = true by decide)] at cm
  have br : f_X2_bring (nI n) kd fg tn wd hr od kn tu hu pa dy ca cu cs cti cla lt (nI len) (nI a) = some (nI n, kd, fg, tn, wd, hr, od, kn, tu, nI m, pa, dy, ca, cu, cs, cti, cla) := by
    unfold f_X2_bring
    rw [lx, if_neg (show ¬ (117 : Int32) = 99 by decide), if_neg (show ¬ (117 : Int32) = 100 by decide), if_neg (show ¬ (117 : Int32) = 104 by decide), if_neg (show ¬ (117 : Int32) = 107 by decide), if_neg (show ¬ (117 : Int32) = 112 by decide), if_neg (show ¬ (117 : Int32) = 116 by decide), if_pos rfl, p1, nmC hl (by omega), em]
  exact Ef_ok ss br cm ⟨g1, g2, g3, g4, g5, g6, ⟨m, by omega, rfl⟩⟩ h2 h3 (by rw [if_neg (by rw [hx]; decide)]) (by rw [if_neg (by rw [hx]; decide)])
