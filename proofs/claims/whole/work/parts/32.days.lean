abbrev SS : Type := Int32 × Int32 × DD
def stp (kd fg tn wd hr : Nat → Int32) (tu pa who : Int32) (S : SS) (c : Nat) : SS :=
  if ((who >>> (nI c &&& 31)) &&& 1) = 0 then S
  else if hr c = 7 then (1, (if S.2.1 = 0 then (if (cD kd fg tn wd tu pa c S.2.2).1 = 0 then 0 else 1) else 1), (cD kd fg tn wd tu pa c S.2.2).2) else (S.1, S.2.1, (cD kd fg tn wd tu pa c S.2.2).2)
def bk (n : Nat) (hr : Nat → Int32) (h : Nat) : List Nat := (List.range n).filter (fun c => decide (hr c = nI h))
def oL (n : Nat) (hr : Nat → Int32) (m : Nat) : List Nat := (List.range m).flatMap (bk n hr)
theorem oL_s (n : Nat) (hr : Nat → Int32) (m : Nat) : oL n hr (m + 1) = oL n hr m ++ bk n hr m := by
  unfold oL
  rw [List.range_succ, List.flatMap_append]
  simp
theorem bk_s (n : Nat) (hr : Nat → Int32) (h : Nat) : bk (n + 1) hr h = bk n hr h ++ (if hr n = nI h then [n] else []) := by
  unfold bk
  rw [List.range_succ, List.filter_append]
  by_cases e : hr n = nI h <;> simp [e]
theorem bk_lt {n : Nat} {hr : Nat → Int32} {h c : Nat} (hc : c ∈ bk n hr h) : c < n ∧ hr c = nI h := by
  have := List.mem_filter.mp hc
  exact ⟨List.mem_range.mp this.1, of_decide_eq_true this.2⟩
theorem oL_lt {n : Nat} {hr : Nat → Int32} {m c : Nat} (hc : c ∈ oL n hr m) : c < n := by
  obtain ⟨h, -, h2⟩ := List.mem_flatMap.mp hc
  exact (bk_lt h2).1
/-- each caller stands once in the order of a day -/
theorem oL_len {hr : Nat → Int32} : ∀ (n : Nat), (∀ c, c < n → ∃ h, h < 24 ∧ hr c = nI h) → ∀ m, m ≤ 24 → (oL n hr m).length + ((List.range n).filter (fun c => decide (m ≤ (hr c).toNatClampNeg))).length = n := by
  intro n hn m
  induction m with
  | zero =>
    intro _
    have : (List.range n).filter (fun c => decide (0 ≤ (hr c).toNatClampNeg)) = List.range n := List.filter_eq_self.mpr (fun c _ => by simp)
    rw [this]
    simp [oL]
  | succ m ih =>
    intro hm
    have ih := ih (by omega)
    rw [oL_s, List.length_append]
    have key : ∀ l : List Nat, (∀ c ∈ l, c < n) → (l.filter (fun c => decide (m ≤ (hr c).toNatClampNeg))).length = (l.filter (fun c => decide (hr c = nI m))).length + (l.filter (fun c => decide (m + 1 ≤ (hr c).toNatClampNeg))).length := by
      intro l
      induction l with
      | nil => intro _; rfl
      | cons a l ihl =>
        intro hl
        have ihl := ihl (fun c hc => hl c (List.mem_cons_of_mem _ hc))
        obtain ⟨h, hh, e⟩ := hn a (hl a List.mem_cons_self)
        have e2 : (hr a).toNatClampNeg = h := by rw [e]; exact nI_clamp (by omega)
        have e3 : (hr a = nI m) ↔ h = m := by rw [e]; exact nI_eq (by omega) (by omega)
        simp only [List.filter_cons, e2, e3, decide_eq_true_eq]
        by_cases h1 : h = m
        · subst h1
          rw [if_pos (Nat.le_refl h), if_pos rfl, if_neg (Nat.not_succ_le_self h)]
          simp only [List.length_cons]
          omega
        · by_cases h2 : m + 1 ≤ h
          · simp [h1, h2, show m ≤ h by omega, ihl]
            omega
          · simp [h1, h2, show ¬ m ≤ h by omega, ihl]
    have k2 := key (List.range n) (fun c hc => List.mem_range.mp hc)
    show (oL n hr m).length + ((List.range n).filter (fun c => decide (hr c = nI m))).length + _ = n
    omega
theorem oL_all {n : Nat} {hr : Nat → Int32} (hn : ∀ c, c < n → ∃ h, h < 24 ∧ hr c = nI h) : (oL n hr 24).length = n := by
  have := oL_len n hn 24 (Nat.le_refl _)
  have e : (List.range n).filter (fun c => decide (24 ≤ (hr c).toNatClampNeg)) = [] := by
    refine List.filter_eq_nil_iff.mpr (fun c hc => ?_)
    obtain ⟨h, hh, e⟩ := hn c (List.mem_range.mp hc)
    rw [e, nI_clamp (by omega)]
    simp
    omega
  rw [e] at this
  simpa using this
theorem oL_pre {n : Nat} {hr : Nat → Int32} {m k : Nat} (h : m ≤ k) : ∃ t, oL n hr k = oL n hr m ++ t := by
  induction k with
  | zero => exact ⟨[], by rw [show m = 0 by omega]; simp⟩
  | succ k ih =>
    by_cases e : m = k + 1
    · exact ⟨[], by rw [e]; simp⟩
    · obtain ⟨t, ht⟩ := ih (by omega)
      exact ⟨t ++ bk n hr k, by rw [oL_s, ht, List.append_assoc]⟩
/-- the row 'order' says who calls in which order -/
def OkO (n : Nat) (hr od : Nat → Int32) : Prop := ∀ i, i < n → ∃ c, (oL n hr 24)[i]? = some c ∧ od i = nI c
def lsO (l : List Nat) (od : Nat → Int32) : Prop := ∀ i c, l[i]? = some c → od i = nI c
theorem lsO_s {l : List Nat} {od : Nat → Int32} (h : lsO l od) (c : Nat) : lsO (l ++ [c]) (upd od l.length (nI c)) := by
  intro i d hd
  show (if i = l.length then nI c else od i) = nI d
  by_cases hi : i = l.length
  · subst hi
    rw [if_pos rfl]
    simp at hd
    rw [hd]
  · rw [if_neg hi]
    refine h i d ?_
    have : i < (l ++ [c]).length := (List.getElem?_eq_some_iff.mp hd).1
    simp at this
    rw [List.getElem?_append_left (by omega)] at hd
    exact hd
theorem arr_in {n : Nat} (hn7 : n ≤ 7) {hr : Nat → Int32} (h : Nat) (l : List Nat) (hl : ∀ j, j ≤ n → (l ++ bk j hr h).length ≤ n) (od : Nat → Int32) (h0 : lsO l od) (hz : Zr 7 od) : ∃ od', lp (fun z : Int32 × Int32 × (Nat → Int32) => f_X0_arrange_L20 (nI h) (nI n) hr z.1 z.2.1 z.2.2) 1000 (nI l.length, 0, od) = some (nI (l ++ bk n hr h).length, od') ∧ lsO (l ++ bk n hr h) od' ∧ Zr 7 od' := by
  obtain ⟨b, e, od', rfl, h1, h2⟩ := lp_hoare (f := fun z : Int32 × Int32 × (Nat → Int32) => f_X0_arrange_L20 (nI h) (nI n) hr z.1 z.2.1 z.2.2) (fun j a => ∃ od', a = (nI (l ++ bk j hr h).length, nI j, od') ∧ lsO (l ++ bk j hr h) od' ∧ Zr 7 od') (fun b => ∃ od', b = (nI (l ++ bk n hr h).length, od') ∧ lsO (l ++ bk n hr h) od' ∧ Zr 7 od') n (by
    rintro j _ hj ⟨od', rfl, h1, h2⟩
    by_cases hjn : j < n
    · left
      refine ⟨hjn, ?_⟩
      show ∃ a', f_X0_arrange_L20 (nI h) (nI n) hr (nI (l ++ bk j hr h).length) (nI j) od' = _ ∧ _
      unfold f_X0_arrange_L20
      rw [if_neg (nI_ge hjn (by omega)), at_n (show j < 7 by omega)]
      have hlen := hl (j + 1) hjn
      rw [bk_s] at hlen ⊢
      by_cases e : hr j = nI h
      · rw [if_pos e] at hlen ⊢
        rw [if_pos e, ← List.append_assoc] at *
        simp only [List.length_append, List.length_cons, List.length_nil] at hlen
        rw [put_n (show (l ++ bk j hr h).length < 7 by simp only [List.length_append]; omega)]
        refine ⟨_, rfl, _, ?_, lsO_s h1 j, h2.upd (show (l ++ bk j hr h).length < 7 by simp only [List.length_append]; omega)⟩
        rw [nI_1, nI_1]
        simp [Nat.add_assoc]
      · rw [if_neg e] at hlen ⊢
        rw [if_neg e, List.append_nil]
        exact ⟨_, rfl, _, by rw [nI_1], h1, h2⟩
    · right
      have : j = n := by omega
      subst this
      refine ⟨_, ?_, od', rfl, h1, h2⟩
      show f_X0_arrange_L20 (nI h) (nI j) hr (nI (l ++ bk j hr h).length) (nI j) od' = _
      unfold f_X0_arrange_L20
      rw [if_pos (nI_le (Nat.le_refl j) (by omega))]) 1000 0 (nI l.length, 0, od) (Nat.zero_le _) (by omega) ⟨od, by simp [bk]; rfl, by simpa [bk] using h0, hz⟩
  exact ⟨od', e, h1, h2⟩
theorem bk_mono {hr : Nat → Int32} {h : Nat} : ∀ {j n : Nat}, j ≤ n → (bk j hr h).length ≤ (bk n hr h).length := by
  intro j n
  induction n with
  | zero => intro h; rw [show j = 0 by omega]; exact Nat.le_refl _
  | succ n ih =>
    intro hj
    by_cases e : j = n + 1
    · rw [e]; exact Nat.le_refl _
    · have := ih (by omega)
      rw [bk_s, List.length_append]
      omega
theorem arr_ok {n : Nat} (hn7 : n ≤ 7) {hr : Nat → Int32} (hn : ∀ c, c < n → ∃ h, h < 24 ∧ hr c = nI h) (od : Nat → Int32) (hz : Zr 7 od) : ∃ od', f_X0_arrange (nI n) hr od = some od' ∧ OkO n hr od' ∧ Zr 7 od' := by
  have hall := oL_all hn
  have fin : ∀ (m : Nat) (od' : Nat → Int32), m ≤ 24 → lsO (oL n hr m) od' → (m = 24 ∨ n ≤ (oL n hr m).length) → OkO n hr od' := by
    intro m od' hm hl hor i hi
    have hpre : ∃ t, oL n hr 24 = oL n hr m ++ t := oL_pre hm
    obtain ⟨t, ht⟩ := hpre
    have hlen : (oL n hr m).length = n := by
      rcases hor with rfl | h
      · exact hall
      · have := congrArg List.length ht
        rw [List.length_append] at this
        omega
    refine ⟨(oL n hr m)[i]'(by omega), ?_, hl i _ (List.getElem?_eq_getElem (by omega))⟩
    rw [ht, List.getElem?_append_left (by omega)]
    exact List.getElem?_eq_getElem (by omega)
  unfold f_X0_arrange
  obtain ⟨b, e, h1, h2⟩ := lp_hoare (f := fun z : Int32 × Int32 × (Nat → Int32) => f_X0_arrange_L4 (nI n) hr z.1 z.2.1 z.2.2) (fun m a => ∃ od', a = (nI (oL n hr m).length, nI m, od') ∧ lsO (oL n hr m) od' ∧ Zr 7 od') (fun b => OkO n hr b ∧ Zr 7 b) 24 (by
    rintro m _ hm ⟨od', rfl, h1, h2⟩
    show (m < 24 ∧ ∃ a', f_X0_arrange_L4 (nI n) hr (nI (oL n hr m).length) (nI m) od' = _ ∧ _) ∨ ∃ b, f_X0_arrange_L4 (nI n) hr (nI (oL n hr m).length) (nI m) od' = _ ∧ _
    have hle : ∀ k, k ≤ 24 → (oL n hr k).length ≤ n := by
      intro k hk
      obtain ⟨t, ht⟩ := oL_pre (n := n) (hr := hr) hk
      have := congrArg List.length ht
      rw [List.length_append] at this
      omega
    unfold f_X0_arrange_L4
    by_cases h24 : m < 24
    · rw [if_neg (show ¬ (24 : Int32) ≤ nI m from gL 24 h24)]
      by_cases hc : n ≤ (oL n hr m).length
      · right
        rw [if_pos (nI_le hc (by have := hle m hm; omega))]
        exact ⟨_, rfl, fin m od' hm h1 (Or.inr hc), h2⟩
      · left
        rw [if_neg (nI_ge (by omega) (by omega))]
        refine ⟨h24, ?_⟩
        have hb : ∀ j, j ≤ n → (oL n hr m ++ bk j hr m).length ≤ n := by
          intro j hj
          have k1 := hle (m + 1) (by omega)
          have k2 := bk_mono (hr := hr) (h := m) hj
          rw [oL_s, List.length_append] at k1
          rw [List.length_append]
          omega
        obtain ⟨od2, e2, h3, h4⟩ := arr_in hn7 m (oL n hr m) hb od' h1 h2
        rw [bi_s e2]
        exact ⟨_, rfl, od2, by rw [oL_s, nI_1], by rw [oL_s]; exact h3, h4⟩
    · right
      have : m = 24 := by omega
      subst this
      rw [if_pos (show (24 : Int32) ≤ nI 24 from lL 24 (Nat.le_refl 24))]
      exact ⟨_, rfl, fin 24 od' hm h1 (Or.inl rfl), h2⟩) 1000 0 (0, 0, od) (Nat.zero_le _) (by omega) ⟨od, by simp [oL]; rfl, by intro i c hc; simp [oL] at hc, hz⟩
  rw [bi_s e]
  exact ⟨b, rfl, h1, h2⟩

abbrev DX : Type := (Nat → Int32) × Int32 × Int32 × Int32 × Int32 × Int32 × (Nat → Int32) × (Nat → Int32)
def eH (hu v1 v2 : Int32) : Int32 := if v2 = 0 then (if v1 = 0 then f_X0_hurtBy hu 1 else hu) else f_X0_hurtBy (if v1 = 0 then f_X0_hurtBy hu 1 else hu) (-1)
def eK (kn : Nat → Int32) (hu : Int32) : Nat → Int32 := if hu < 10 then kn else if bB kn (-9) = -9 then kn else upd kn (bB kn (-9)).toNatClampNeg (kn (bB kn (-9)).toNatClampNeg - 1)
theorem end_c (kn : Nat → Int32) (hu dy v1 v2 : Int32) : f_X0_endDay kn hu dy v1 v2 = some (eK kn (eH hu v1 v2), eH hu v1 v2, dy + 1) := by
  have key : ∀ h : Int32, f_X0_endDay_J18 kn h dy = some (eK kn h, h, dy + 1) := by
    intro h
    unfold f_X0_endDay_J18 f_X0_endDay_J38 f_X0_endDay_J63 eK
    rw [best_c]
    simp only [bi_some]
    by_cases h1 : h < 10
    · rw [if_pos h1, if_pos h1, if_pos trivial]
    · rw [if_neg h1, if_neg h1]
      rcases bB_or kn (-9) with h2 | ⟨w, hw, h2⟩
      · rw [if_pos h2, if_pos h2]
      · have hne : ¬ nI w = -9 := fun e => by
          have := congrArg Int32.toInt e
          rw [nI_toInt (by omega)] at this
          have e9 : (-9 : Int32).toInt = -9 := rfl
          omega
        rw [h2, if_neg hne, if_neg hne, put_n hw, at_n hw, cl_n (by omega)]
  unfold f_X0_endDay f_X0_endDay_J9 eH
  simp only [key]
  by_cases h1 : v1 = 0 <;> by_cases h2 : v2 = 0 <;> simp only [h1, h2, if_true, if_false]
theorem end_m (kn : Nat → Int32) (tu hu pa dy : Int32) (ti la : Nat → Int32) (an un sa v1 v2 : Int32) : (if v1 = 0 then f_X4_goesDay_J79 kn (f_X4_hurt (st3 tu hu pa) 1) dy ti la an un sa v1 v2 else f_X4_goesDay_J79 kn (st3 tu hu pa) dy ti la an un sa v1 v2) = some (eK kn (eH hu v1 v2), st3 tu (eH hu v1 v2) pa, dy + 1, ti, la, an, un, sa, v1, v2) := by
  have key : ∀ h : Int32, f_X4_goesDay_J91 kn (st3 tu h pa) dy ti la an un sa v1 v2 = some (eK kn h, st3 tu h pa, dy + 1, ti, la, an, un, sa, v1, v2) := by
    intro h
    unfold f_X4_goesDay_J91 f_X4_goesDay_J123 eK
    rw [best_m, bi_some, st3_1]
    by_cases h1 : h < 10
    · rw [if_pos h1, if_pos h1]
    · rw [if_neg h1, if_neg h1]
      rcases bB_or kn (-9) with h2 | ⟨w, hw, h2⟩
      · rw [h2, if_pos (show (-9 : Int32) < 0 by decide), if_pos rfl]
      · have hne : ¬ nI w = -9 := fun e => by
          have := congrArg Int32.toInt e
          rw [nI_toInt (by omega)] at this
          have e9 : (-9 : Int32).toInt = -9 := rfl
          omega
        rw [h2, if_neg hne, if_neg (nI_pos (by omega)), gu_t (inB_n hw), gu_t (inB_n hw)]
  unfold f_X4_goesDay_J79 eH
  simp only [hurt_m, key]
  by_cases h1 : v1 = 0 <;> by_cases h2 : v2 = 0 <;> simp only [h1, h2, if_true, if_false]
/-- a day -/
def dayS (n : Nat) (kd fg tn wd hr : Nat → Int32) (tu pa who : Int32) (X : DX) : SS := (oL n hr 24).foldl (stp kd fg tn wd hr tu pa who) (0, 0, X.1, X.2.1, X.2.2.2.1, X.2.2.2.2.1, X.2.2.2.2.2.1, X.2.2.2.2.2.2.1, X.2.2.2.2.2.2.2)
def dT (n : Nat) (kd fg tn wd hr : Nat → Int32) (tu pa who : Int32) (X : DX) : DX :=
  let S := dayS n kd fg tn wd hr tu pa who X
  (eK S.2.2.1 (eH S.2.2.2.1 S.1 S.2.1), eH S.2.2.2.1 S.1 S.2.1, X.2.2.1 + 1, S.2.2.2.2)
theorem take_s {l : List Nat} {i c : Nat} (h : l[i]? = some c) : l.take (i + 1) = l.take i ++ [c] := by
  rw [List.take_add_one, h]; rfl
theorem day_c {n : Nat} {kd fg tn wd hr od : Nat → Int32} {tu pa : Int32} (hF : OkF n kd fg tn wd hr) (hO : OkO n hr od) (who : Int32) (X : DX) : f_X0_passDay (nI n) kd fg tn wd hr od X.1 tu X.2.1 pa X.2.2.1 X.2.2.2.1 X.2.2.2.2.1 X.2.2.2.2.2.1 X.2.2.2.2.2.2.1 X.2.2.2.2.2.2.2 who = some (dT n kd fg tn wd hr tu pa who X) := by
  have h7 := hF.1
  have hlen : (oL n hr 24).length = n := oL_all (fun c hc => by obtain ⟨k, f, t, w, h, -, -, -, -, hh, -, -, -, -, e⟩ := hF.2 c hc; exact ⟨h, hh, e⟩)
  unfold f_X0_passDay
  rw [lp_for (fun i => ((((oL n hr 24).take i).foldl (stp kd fg tn wd hr tu pa who) (0, 0, X.1, X.2.1, X.2.2.2.1, X.2.2.2.2.1, X.2.2.2.2.2.1, X.2.2.2.2.2.2.1, X.2.2.2.2.2.2.2)).1, (((oL n hr 24).take i).foldl (stp kd fg tn wd hr tu pa who) (0, 0, X.1, X.2.1, X.2.2.2.1, X.2.2.2.2.1, X.2.2.2.2.2.1, X.2.2.2.2.2.2.1, X.2.2.2.2.2.2.2)).2.1, nI i, (((oL n hr 24).take i).foldl (stp kd fg tn wd hr tu pa who) (0, 0, X.1, X.2.1, X.2.2.2.1, X.2.2.2.2.1, X.2.2.2.2.2.1, X.2.2.2.2.2.2.1, X.2.2.2.2.2.2.2)).2.2)) n (b := dayS n kd fg tn wd hr tu pa who X) ?_ ?_ (by omega) (by rfl)]
  · rw [bi_some]
    rw [end_c]
    rfl
  · intro i hi
    obtain ⟨c, hc, ho⟩ := hO i hi
    have hcn : c < n := oL_lt (List.mem_of_getElem? hc)
    rw [take_s hc, List.foldl_append]
    generalize ((oL n hr 24).take i).foldl (stp kd fg tn wd hr tu pa who) (0, 0, X.1, X.2.1, X.2.2.2.1, X.2.2.2.2.1, X.2.2.2.2.2.1, X.2.2.2.2.2.2.1, X.2.2.2.2.2.2.2) = S
    show f_X0_passDay_L7 who (nI n) kd fg tn wd hr od tu pa S.1 S.2.1 (nI i) S.2.2.1 S.2.2.2.1 S.2.2.2.2.1 S.2.2.2.2.2.1 S.2.2.2.2.2.2.1 S.2.2.2.2.2.2.2.1 S.2.2.2.2.2.2.2.2 = some (Sum.inl ((stp kd fg tn wd hr tu pa who S c).1, (stp kd fg tn wd hr tu pa who S c).2.1, nI (i + 1), (stp kd fg tn wd hr tu pa who S c).2.2))
    unfold f_X0_passDay_L7 stp
    rw [if_neg (nI_ge hi (by omega)), at_n (show i < 7 by omega), ho, at_n (show c < 7 by omega), nI_1, hear_c hF hcn S.2.2]
    by_cases hb : ((who >>> (nI c &&& 31)) &&& 1) = 0
    · rw [if_pos hb, if_pos hb]
    · rw [if_neg hb, if_neg hb, bi_some]
      by_cases h7 : hr c = 7
      · rw [if_pos h7, if_pos h7]
        by_cases h2 : S.2.1 = 0
        · rw [if_pos h2]
          by_cases h3 : (cD kd fg tn wd tu pa c S.2.2).1 = 0
          · simp only [if_pos h2, if_pos h3]
          · simp only [if_pos h2, if_neg h3]
        · simp only [if_neg h2]
      · simp only [if_neg h7]
  · show f_X0_passDay_L7 who (nI n) kd fg tn wd hr od tu pa _ _ (nI n) _ _ _ _ _ _ _ = _
    unfold f_X0_passDay_L7
    rw [if_pos (nI_le (Nat.le_refl n) (by omega)), List.take_of_length_le (by omega)]
    rfl
def FS (S : SS) : Prop := F01 S.1 ∧ F01 S.2.1
theorem stp_f {kd fg tn wd hr : Nat → Int32} {tu pa who : Int32} {S : SS} {c : Nat} (h : FS S) : FS (stp kd fg tn wd hr tu pa who S c) := by
  unfold stp
  split
  · exact h
  · split
    · refine ⟨Or.inr rfl, ?_⟩
      show F01 (if S.2.1 = 0 then (if (cD kd fg tn wd tu pa c S.2.2).1 = 0 then 0 else 1) else 1)
      split
      · split
        · exact Or.inl rfl
        · exact Or.inr rfl
      · exact Or.inr rfl
    · exact h
theorem fold_f {kd fg tn wd hr : Nat → Int32} {tu pa who : Int32} : ∀ (l : List Nat) {S : SS}, FS S → FS (l.foldl (stp kd fg tn wd hr tu pa who) S)
  | [], _, h => h
  | _ :: l, _, h => fold_f l (stp_f h)
abbrev MT : Type := (Nat → Int32) × (Nat → Int32) × (Nat → Int32) × (Nat → Int32) × Int32 × Int32 × Int32 × Int32 × Int32
def toM (tu pa : Int32) (S : SS) : MT := (S.2.2.1, st3 tu S.2.2.2.1 pa, S.2.2.2.2.2.2.2.1, S.2.2.2.2.2.2.2.2, S.2.2.2.2.1, S.2.2.2.2.2.1, S.2.2.2.2.2.2.1, S.1, S.2.1)
def Bits (n : Nat) (who aw : Int32) : Prop := ∀ c, c < n → (f_X4_has aw (nI c) = 0 ↔ ¬ ((who >>> (nI c &&& 31)) &&& 1) = 0)
theorem day_in {n : Nat} {kd fg tn wd hr : Nat → Int32} {tu pa : Int32} (hF : OkF n kd fg tn wd hr) (hT : OkT tu) {who aw : Int32} (hB : Bits n who aw) (h : Nat) (S : SS) (hS : FS S) : lp (fun z : Int32 × (Nat → Int32) × (Nat → Int32) × (Nat → Int32) × (Nat → Int32) × Int32 × Int32 × Int32 × Int32 × Int32 => f_X4_goesDay_L20 (nI h) kd fg tn wd hr (nI n) aw (z.1) (z.2.1) (z.2.2.1) (z.2.2.2.1) (z.2.2.2.2.1) (z.2.2.2.2.2.1) (z.2.2.2.2.2.2.1) (z.2.2.2.2.2.2.2.1) (z.2.2.2.2.2.2.2.2.1) (z.2.2.2.2.2.2.2.2.2)) 1000 (0, toM tu pa S) = some (toM tu pa ((bk n hr h).foldl (stp kd fg tn wd hr tu pa who) S)) := by
  have h7 := hF.1
  refine lp_for (fun j => (nI j, toM tu pa ((bk j hr h).foldl (stp kd fg tn wd hr tu pa who) S))) n ?_ ?_ (by omega) (by simp [bk]; rfl)
  · intro j hj
    rw [bk_s, List.foldl_append]
    have hS2 := fold_f (kd := kd) (fg := fg) (tn := tn) (wd := wd) (hr := hr) (tu := tu) (pa := pa) (who := who) (bk j hr h) hS
    generalize (bk j hr h).foldl (stp kd fg tn wd hr tu pa who) S = S2 at hS2 ⊢
    show f_X4_goesDay_L20 (nI h) kd fg tn wd hr (nI n) aw (nI j) S2.2.2.1 (st3 tu S2.2.2.2.1 pa) S2.2.2.2.2.2.2.2.1 S2.2.2.2.2.2.2.2.2 S2.2.2.2.2.1 S2.2.2.2.2.2.1 S2.2.2.2.2.2.2.1 S2.1 S2.2.1 = some (Sum.inl (nI (j + 1), toM tu pa ((if hr j = nI h then [j] else []).foldl (stp kd fg tn wd hr tu pa who) S2)))
    unfold f_X4_goesDay_L20
    rw [if_neg (nI_ge hj (by omega)), gu_t (inB_n (show j < 7 by omega)), cl_n (by omega), nI_1]
    by_cases e : hr j = nI h
    · rw [if_pos e, if_pos e]
      show _ = some (Sum.inl (nI (j + 1), toM tu pa (stp kd fg tn wd hr tu pa who S2 j)))
      unfold stp
      by_cases hb : ((who >>> (nI j &&& 31)) &&& 1) = 0
      · rw [if_pos hb, if_neg (fun q => (hB j hj).mp q hb)]
        rfl
      · rw [if_neg hb, if_pos ((hB j hj).mpr hb)]
        rw [calls_m hF hT hj S2.2.2 hS2.1 hS2.2, bi_some, e]
        by_cases h7 : nI h = 7
        · simp only [if_pos h7]
          rcases hS2.2 with h0 | h0
          · rw [h0]
            unfold toM
            simp
          · rw [h0]
            unfold toM
            simp
        · simp only [if_neg h7]
          rfl
    · rw [if_neg e, if_neg e]
      rfl
  · show f_X4_goesDay_L20 (nI h) kd fg tn wd hr (nI n) aw (nI n) _ _ _ _ _ _ _ _ _ = _
    unfold f_X4_goesDay_L20
    rw [if_pos (nI_le (Nat.le_refl n) (by omega))]
theorem day_m {n : Nat} {kd fg tn wd hr : Nat → Int32} {tu pa : Int32} (hF : OkF n kd fg tn wd hr) (hT : OkT tu) {who aw : Int32} (hB : Bits n who aw) (X : DX) : f_X4_goesDay X.1 (st3 tu X.2.1 pa) kd fg tn wd hr (nI n) X.2.2.1 X.2.2.2.2.2.2.1 X.2.2.2.2.2.2.2 aw X.2.2.2.1 X.2.2.2.2.1 X.2.2.2.2.2.1 = some ((dT n kd fg tn wd hr tu pa who X).1, st3 tu (dT n kd fg tn wd hr tu pa who X).2.1 pa, (dT n kd fg tn wd hr tu pa who X).2.2.1, (dT n kd fg tn wd hr tu pa who X).2.2.2.2.2.2.1, (dT n kd fg tn wd hr tu pa who X).2.2.2.2.2.2.2, (dT n kd fg tn wd hr tu pa who X).2.2.2.1, (dT n kd fg tn wd hr tu pa who X).2.2.2.2.1, (dT n kd fg tn wd hr tu pa who X).2.2.2.2.2.1, (dayS n kd fg tn wd hr tu pa who X).1, (dayS n kd fg tn wd hr tu pa who X).2.1) := by
  unfold f_X4_goesDay
  rw [lp_for (fun m => (nI m, toM tu pa ((oL n hr m).foldl (stp kd fg tn wd hr tu pa who) (0, 0, X.1, X.2.1, X.2.2.2.1, X.2.2.2.2.1, X.2.2.2.2.2.1, X.2.2.2.2.2.2.1, X.2.2.2.2.2.2.2)))) 24 (b := toM tu pa (dayS n kd fg tn wd hr tu pa who X)) ?_ ?_ (by omega) (by rfl)]
  · rw [bi_some]
    exact end_m _ tu _ pa _ _ _ _ _ _ _ _
  · intro m hm
    rw [oL_s, List.foldl_append]
    have hS2 := fold_f (kd := kd) (fg := fg) (tn := tn) (wd := wd) (hr := hr) (tu := tu) (pa := pa) (who := who) (oL n hr m) (S := (0, 0, X.1, X.2.1, X.2.2.2.1, X.2.2.2.2.1, X.2.2.2.2.2.1, X.2.2.2.2.2.2.1, X.2.2.2.2.2.2.2)) ⟨Or.inl rfl, Or.inl rfl⟩
    generalize (oL n hr m).foldl (stp kd fg tn wd hr tu pa who) (0, 0, X.1, X.2.1, X.2.2.2.1, X.2.2.2.2.1, X.2.2.2.2.2.1, X.2.2.2.2.2.2.1, X.2.2.2.2.2.2.2) = S2 at hS2 ⊢
    show f_X4_goesDay_L12 kd fg tn wd hr (nI n) aw (nI m) (toM tu pa S2).1 (toM tu pa S2).2.1 (toM tu pa S2).2.2.1 (toM tu pa S2).2.2.2.1 (toM tu pa S2).2.2.2.2.1 (toM tu pa S2).2.2.2.2.2.1 (toM tu pa S2).2.2.2.2.2.2.1 (toM tu pa S2).2.2.2.2.2.2.2.1 (toM tu pa S2).2.2.2.2.2.2.2.2 = _
    unfold f_X4_goesDay_L12
    rw [if_neg (show ¬ (24 : Int32) ≤ nI m from gL 24 hm), bi_s (day_in hF hT hB m S2 hS2), nI_1]
  · show f_X4_goesDay_L12 kd fg tn wd hr (nI n) aw (nI 24) _ _ _ _ _ _ _ _ _ = _
    unfold f_X4_goesDay_L12
    rw [if_pos (show (24 : Int32) ≤ nI 24 from lL 24 (Nat.le_refl 24))]
    rfl
