theorem lp_l {α β : Type} {f : α → Option (α ⊕ β)} {m : Nat} {a a' : α} (h : f a = some (.inl a')) : lp f (m + 1) a = lp f m a' := by
  rw [lp, h]
theorem lp_r {α β : Type} {f : α → Option (α ⊕ β)} {m : Nat} {a : α} {b : β} (h : f a = some (.inr b)) : lp f (m + 1) a = some b := by
  rw [lp, h]
def dv (lt : Nat → Int32) (len p : Nat) : Int32 := lA lt len p - 48
def nv (lt : Nat → Int32) (len p : Nat) : Int32 := 10 * dv lt len p + dv lt len (p + 1)
theorem okd {x : Int32} : okc 35 x = true ↔ ¬ f_X4_isIn x 48 57 = 0 := by
  unfold okc
  rw [if_neg (by decide), if_pos rfl, decide_eq_true_iff]
theorem sl1 (k v : Int32) (i : Nat) {lt told : Nat → Int32} {len p w : Nat} (hl : len ≤ 96) (hp : p < 1000) (hi : i < w) (hw : w < 3) (ho : okc 35 (lA lt len (p)) = true) : f_X4_readsDigits_L5 k (nI w) lt told (nI len) v (nI i) (nI p) = some (.inl (10 * v + dv lt len p, nI (i + 1), nI (p + 1))) := by
  unfold f_X4_readsDigits_L5
  rw [if_neg (nI_ge hi (by omega)), bi_s (lA_m hl (by omega)), if_neg (okd.mp ho), bi_s (lA_m hl (by omega)), nI_1, nI_1]
  unfold dv
  simp only [Int32.sub_eq_add_neg, Int32.add_assoc]
theorem sl0 (k v : Int32) (i : Nat) {lt told : Nat → Int32} {len p w : Nat} (hl : len ≤ 96) (hp : p < 1000) (hi : i < w) (hw : w < 3) (ho : ¬ okc 35 (lA lt len (p)) = true) : f_X4_readsDigits_L5 k (nI w) lt told (nI len) v (nI i) (nI p) = some (.inr (0, told, nI p)) := by
  unfold f_X4_readsDigits_L5
  rw [if_neg (nI_ge hi (by omega)), bi_s (lA_m hl (by omega)), if_pos (Decidable.byContradiction (fun q => ho (okd.mpr q)))]
theorem sle (k : Nat) (v : Int32) {lt told : Nat → Int32} {len p w : Nat} (hk : k < 240) (hw : w < 3) : f_X4_readsDigits_L5 (nI k) (nI w) lt told (nI len) v (nI w) (nI p) = some (.inr (1, upd told k v, nI p)) := by
  unfold f_X4_readsDigits_L5
  rw [if_pos (nI_le (Nat.le_refl w) (by omega)), gu_t (inB_n hk), cl_n (by omega)]
theorem m0 (x : Int32) : 10 * 0 + x = x := by rw [Int32.mul_zero, Int32.zero_add]
theorem rd1_t {lt told : Nat → Int32} {len p k : Nat} (hl : len ≤ 96) (hp : p < 1000) (hk : k < 240) (ho : okc 35 (lA lt len (p)) = true) : f_X4_readsDigits lt told (nI len) (nI p) (nI k) 1 = some (1, upd told k (dv lt len p), nI (p + 1)) := by
  unfold f_X4_readsDigits
  refine (lp_l (m := 999) (sl1 (w := 1) (nI k) 0 0 hl hp (by omega) (by omega) ho)).trans ((lp_r (m := 998) (sle (w := 1) k _ hk (by omega))).trans ?_)
  rw [m0]
theorem rd1_f {lt told : Nat → Int32} {len p k : Nat} (hl : len ≤ 96) (hp : p < 1000) (ho : ¬ okc 35 (lA lt len (p)) = true) : f_X4_readsDigits lt told (nI len) (nI p) (nI k) 1 = some (0, told, nI p) := by
  unfold f_X4_readsDigits
  exact lp_r (m := 999) (sl0 (w := 1) (nI k) 0 0 hl hp (by omega) (by omega) ho)
theorem rd2_t {lt told : Nat → Int32} {len p k : Nat} (hl : len ≤ 96) (hp : p < 900) (hk : k < 240) (ho : okc 35 (lA lt len (p)) = true) (ho2 : okc 35 (lA lt len (p + 1)) = true) : f_X4_readsDigits lt told (nI len) (nI p) (nI k) 2 = some (1, upd told k (nv lt len p), nI (p + 1 + 1)) := by
  unfold f_X4_readsDigits
  refine (lp_l (m := 999) (sl1 (w := 2) (nI k) 0 0 hl (by omega) (by omega) (by omega) ho)).trans ((lp_l (m := 998) (sl1 (w := 2) (nI k) _ 1 hl (by omega) (by omega) (by omega) ho2)).trans ((lp_r (m := 997) (sle (w := 2) k _ hk (by omega))).trans ?_))
  rw [m0]
  rfl
theorem rd2_f1 {lt told : Nat → Int32} {len p k : Nat} (hl : len ≤ 96) (hp : p < 900) (ho : ¬ okc 35 (lA lt len (p)) = true) : f_X4_readsDigits lt told (nI len) (nI p) (nI k) 2 = some (0, told, nI p) := by
  unfold f_X4_readsDigits
  exact lp_r (m := 999) (sl0 (w := 2) (nI k) 0 0 hl (by omega) (by omega) (by omega) ho)
theorem rd2_f2 {lt told : Nat → Int32} {len p k : Nat} (hl : len ≤ 96) (hp : p < 900) (ho : okc 35 (lA lt len (p)) = true) (ho2 : ¬ okc 35 (lA lt len (p + 1)) = true) : f_X4_readsDigits lt told (nI len) (nI p) (nI k) 2 = some (0, told, nI (p + 1)) := by
  unfold f_X4_readsDigits
  refine (lp_l (m := 999) (sl1 (w := 2) (nI k) 0 0 hl (by omega) (by omega) (by omega) ho)).trans ?_
  exact lp_r (m := 998) (sl0 (w := 2) (nI k) _ 1 hl (by omega) (by omega) (by omega) ho2)
/-- what a statement's row tells -/
def TV (lt : Nat → Int32) (len a : Nat) (told : Nat → Int32) (k : Nat) : Prop :=
  ((lA lt len (a)) = 99 → told k = f_X4_kindOf (lA lt len (a + 1)) ∧ told (k + 1) = dv lt len (a + 2) ∧ told (k + 2) = dv lt len (a + 3) ∧ told (k + 3) = dv lt len (a + 4) ∧ told (k + 4) = nv lt len (a + 5)) ∧
  (((lA lt len (a)) = 104 ∨ (lA lt len (a)) = 107) → told k = dv lt len (a + 1) ∧ told (k + 1) = nv lt len (a + 2)) ∧
  ((lA lt len (a)) = 116 → told k = dv lt len (a + 1)) ∧
  (((lA lt len (a)) = 100 ∨ (lA lt len (a)) = 112 ∨ (lA lt len (a)) = 117) → told k = nv lt len (a + 1))
def RAok (lt told : Nat → Int32) (len a k : Nat) (l : List Int32) (t' : Nat → Int32) : Prop := TV lt len a t' k ∧ ∀ i, i < k → t' i = told i
/-- what readsAll comes to -/
def RA (lt told : Nat → Int32) (len a k : Nat) (x : Int32) (l : List Int32) (m : Nat) : Prop :=
  (∃ p t', fz lt len l (a + 1) = some p ∧ fz lt len (l ++ [59]) (a + 1) = some p ∧ f_X4_readsAll lt told (nI len) (nI (a + 1)) x (nI k) = some (0, t', nI p)) ∨
  (∃ t', fz lt len (l ++ [59]) (a + 1) = (if okc 59 (lA lt len (a + 1 + m)) = true then none else some (a + 1 + m)) ∧ f_X4_readsAll lt told (nI len) (nI (a + 1)) x (nI k) = some (1, t', nI (a + 1 + m)) ∧ RAok lt told len a k l t')
theorem fz_t {lt : Nat → Int32} {len p : Nat} {q : Int32} {l : List Int32} (h : okc q (lA lt len p) = true) : fz lt len (q :: l) p = fz lt len l (p + 1) := by rw [fz, if_pos h]
theorem fz_f {lt : Nat → Int32} {len p : Nat} {q : Int32} {l : List Int32} (h : ¬ okc q (lA lt len p) = true) : fz lt len (q :: l) p = some p := by rw [fz, if_neg h]
theorem fz_l {lt : Nat → Int32} {len p : Nat} {q : Int32} : fz lt len [q] p = (if okc q (lA lt len p) = true then none else some p) := by rw [fz]; rfl
set_option maxHeartbeats 1000000 in
theorem ra_hk {lt told : Nat → Int32} {len a k : Nat} {x : Int32} (hl : len ≤ 96) (ha : a < 200) (hk : k + 4 < 240) (hx : (lA lt len (a)) = x) (h : x = 104 ∨ x = 107) : RA lt told len a k x [35, 35, 35] 3 := by
  rcases h with rfl | rfl
  · unfold RA f_X4_readsAll
    rw [if_neg (show ¬ (104 : Int32) = 99 by decide), if_pos rfl]
    by_cases d0 : okc 35 (lA lt len (a + 1)) = true
    · by_cases d1 : okc 35 (lA lt len (a + 1 + 1)) = true
      · by_cases d2 : okc 35 (lA lt len (a + 1 + 1 + 1)) = true
        · right
          refine ⟨upd (upd told k (dv lt len (a + 1))) (k + 1) (nv lt len (a + 1 + 1)), ?_, ?_, ⟨?_, ?_⟩⟩
          · show fz lt len [35, 35, 35, 59] (a + 1) = _
            rw [fz_t d0, fz_t d1, fz_t d2, fz_l]
          · rw [bi_s (rd1_t hl (by omega) (by omega) d0)]
            dsimp only
            rw [if_neg nz1, nI_1, bi_s (rd2_t hl (by omega) (by omega) d1 d2)]
            dsimp only
            rw [if_neg nz1]
          · refine ⟨fun q => ?_, fun q => ?_, fun q => ?_, fun q => ?_⟩
            · exact absurd (hx.symm.trans q) (by decide)
            · exact ⟨(pk_un (by omega)).trans pk_us, pk_us⟩
            · exact absurd (hx.symm.trans q) (by decide)
            · rw [hx] at q; exact absurd q (by decide)
          · intro i hi
            rw [pk_un (by omega), pk_un (by omega)]
        · left
          refine ⟨a + 1 + 1 + 1, upd told k (dv lt len (a + 1)), ?_, ?_, ?_⟩
          · rw [fz_t d0, fz_t d1, fz_f d2]
          · show fz lt len [35, 35, 35, 59] (a + 1) = _
            rw [fz_t d0, fz_t d1, fz_f d2]
          · rw [bi_s (rd1_t hl (by omega) (by omega) d0)]
            dsimp only
            rw [if_neg nz1, nI_1, bi_s (rd2_f2 hl (by omega) d1 d2), if_pos rfl]
      · left
        refine ⟨a + 1 + 1, upd told k (dv lt len (a + 1)), ?_, ?_, ?_⟩
        · rw [fz_t d0, fz_f d1]
        · show fz lt len [35, 35, 35, 59] (a + 1) = _
          rw [fz_t d0, fz_f d1]
        · rw [bi_s (rd1_t hl (by omega) (by omega) d0)]
          dsimp only
          rw [if_neg nz1, nI_1, bi_s (rd2_f1 hl (by omega) d1), if_pos rfl]
    · left
      refine ⟨a + 1, told, ?_, ?_, ?_⟩
      · rw [fz_f d0]
      · show fz lt len [35, 35, 35, 59] (a + 1) = _
        rw [fz_f d0]
      · rw [bi_s (rd1_f hl (by omega) d0), if_pos rfl]
  · unfold RA f_X4_readsAll
    rw [if_neg (show ¬ (107 : Int32) = 99 by decide), if_neg (show ¬ (107 : Int32) = 104 by decide), if_pos rfl]
    by_cases d0 : okc 35 (lA lt len (a + 1)) = true
    · by_cases d1 : okc 35 (lA lt len (a + 1 + 1)) = true
      · by_cases d2 : okc 35 (lA lt len (a + 1 + 1 + 1)) = true
        · right
          refine ⟨upd (upd told k (dv lt len (a + 1))) (k + 1) (nv lt len (a + 1 + 1)), ?_, ?_, ⟨?_, ?_⟩⟩
          · show fz lt len [35, 35, 35, 59] (a + 1) = _
            rw [fz_t d0, fz_t d1, fz_t d2, fz_l]
          · rw [bi_s (rd1_t hl (by omega) (by omega) d0)]
            dsimp only
            rw [if_neg nz1, nI_1, bi_s (rd2_t hl (by omega) (by omega) d1 d2)]
            dsimp only
            rw [if_neg nz1]
          · refine ⟨fun q => ?_, fun q => ?_, fun q => ?_, fun q => ?_⟩
            · exact absurd (hx.symm.trans q) (by decide)
            · exact ⟨(pk_un (by omega)).trans pk_us, pk_us⟩
            · exact absurd (hx.symm.trans q) (by decide)
            · rw [hx] at q; exact absurd q (by decide)
          · intro i hi
            rw [pk_un (by omega), pk_un (by omega)]
        · left
          refine ⟨a + 1 + 1 + 1, upd told k (dv lt len (a + 1)), ?_, ?_, ?_⟩
          · rw [fz_t d0, fz_t d1, fz_f d2]
          · show fz lt len [35, 35, 35, 59] (a + 1) = _
            rw [fz_t d0, fz_t d1, fz_f d2]
          · rw [bi_s (rd1_t hl (by omega) (by omega) d0)]
            dsimp only
            rw [if_neg nz1, nI_1, bi_s (rd2_f2 hl (by omega) d1 d2), if_pos rfl]
      · left
        refine ⟨a + 1 + 1, upd told k (dv lt len (a + 1)), ?_, ?_, ?_⟩
        · rw [fz_t d0, fz_f d1]
        · show fz lt len [35, 35, 35, 59] (a + 1) = _
          rw [fz_t d0, fz_f d1]
        · rw [bi_s (rd1_t hl (by omega) (by omega) d0)]
          dsimp only
          rw [if_neg nz1, nI_1, bi_s (rd2_f1 hl (by omega) d1), if_pos rfl]
    · left
      refine ⟨a + 1, told, ?_, ?_, ?_⟩
      · rw [fz_f d0]
      · show fz lt len [35, 35, 35, 59] (a + 1) = _
        rw [fz_f d0]
      · rw [bi_s (rd1_f hl (by omega) d0), if_pos rfl]
set_option maxHeartbeats 1000000 in
theorem ra_t {lt told : Nat → Int32} {len a k : Nat} {x : Int32} (hl : len ≤ 96) (ha : a < 200) (hk : k + 4 < 240) (hx : (lA lt len (a)) = x) (h : x = 116) : RA lt told len a k x [35] 1 := by
  subst h
  unfold RA f_X4_readsAll
  rw [if_neg (show ¬ (116 : Int32) = 99 by decide), if_neg (show ¬ (116 : Int32) = 104 by decide), if_neg (show ¬ (116 : Int32) = 107 by decide), if_pos rfl]
  by_cases d0 : okc 35 (lA lt len (a + 1)) = true
  · right
    refine ⟨upd told k (dv lt len (a + 1)), ?_, ?_, ⟨?_, ?_⟩⟩
    · show fz lt len [35, 59] (a + 1) = _
      rw [fz_t d0, fz_l]
    · rw [bi_s (rd1_t hl (by omega) (by omega) d0), gu_t (show isB 1 = true by decide)]
    · refine ⟨fun q => ?_, fun q => ?_, fun q => ?_, fun q => ?_⟩
      · exact absurd (hx.symm.trans q) (by decide)
      · rw [hx] at q; exact absurd q (by decide)
      · exact pk_us
      · rw [hx] at q; exact absurd q (by decide)
    · intro i hi
      rw [pk_un (by omega)]
  · left
    refine ⟨a + 1, told, ?_, ?_, ?_⟩
    · rw [fz_f d0]
    · show fz lt len [35, 59] (a + 1) = _
      rw [fz_f d0]
    · rw [bi_s (rd1_f hl (by omega) d0), gu_t (show isB 0 = true by decide)]
set_option maxHeartbeats 1000000 in
theorem ra_dpu {lt told : Nat → Int32} {len a k : Nat} {x : Int32} (hl : len ≤ 96) (ha : a < 200) (hk : k + 4 < 240) (hx : (lA lt len (a)) = x) (h : x = 100 ∨ x = 112 ∨ x = 117) : RA lt told len a k x [35, 35] 2 := by
  rcases h with rfl | rfl | rfl
  · unfold RA f_X4_readsAll
    rw [if_neg (show ¬ (100 : Int32) = 99 by decide), if_neg (show ¬ (100 : Int32) = 104 by decide), if_neg (show ¬ (100 : Int32) = 107 by decide), if_neg (show ¬ (100 : Int32) = 116 by decide)]
    by_cases d0 : okc 35 (lA lt len (a + 1)) = true
    · by_cases d1 : okc 35 (lA lt len (a + 1 + 1)) = true
      · right
        refine ⟨upd told k (nv lt len (a + 1)), ?_, ?_, ⟨?_, ?_⟩⟩
        · show fz lt len [35, 35, 59] (a + 1) = _
          rw [fz_t d0, fz_t d1, fz_l]
        · rw [bi_s (rd2_t hl (by omega) (by omega) d0 d1), gu_t (show isB 1 = true by decide)]
        · refine ⟨fun q => ?_, fun q => ?_, fun q => ?_, fun q => ?_⟩
          · exact absurd (hx.symm.trans q) (by decide)
          · rw [hx] at q; exact absurd q (by decide)
          · exact absurd (hx.symm.trans q) (by decide)
          · exact pk_us
        · intro i hi
          rw [pk_un (by omega)]
      · left
        refine ⟨a + 1 + 1, told, ?_, ?_, ?_⟩
        · rw [fz_t d0, fz_f d1]
        · show fz lt len [35, 35, 59] (a + 1) = _
          rw [fz_t d0, fz_f d1]
        · rw [bi_s (rd2_f2 hl (by omega) d0 d1), gu_t (show isB 0 = true by decide)]
    · left
      refine ⟨a + 1, told, ?_, ?_, ?_⟩
      · rw [fz_f d0]
      · show fz lt len [35, 35, 59] (a + 1) = _
        rw [fz_f d0]
      · rw [bi_s (rd2_f1 hl (by omega) d0), gu_t (show isB 0 = true by decide)]
  · unfold RA f_X4_readsAll
    rw [if_neg (show ¬ (112 : Int32) = 99 by decide), if_neg (show ¬ (112 : Int32) = 104 by decide), if_neg (show ¬ (112 : Int32) = 107 by decide), if_neg (show ¬ (112 : Int32) = 116 by decide)]
    by_cases d0 : okc 35 (lA lt len (a + 1)) = true
    · by_cases d1 : okc 35 (lA lt len (a + 1 + 1)) = true
      · right
        refine ⟨upd told k (nv lt len (a + 1)), ?_, ?_, ⟨?_, ?_⟩⟩
        · show fz lt len [35, 35, 59] (a + 1) = _
          rw [fz_t d0, fz_t d1, fz_l]
        · rw [bi_s (rd2_t hl (by omega) (by omega) d0 d1), gu_t (show isB 1 = true by decide)]
        · refine ⟨fun q => ?_, fun q => ?_, fun q => ?_, fun q => ?_⟩
          · exact absurd (hx.symm.trans q) (by decide)
          · rw [hx] at q; exact absurd q (by decide)
          · exact absurd (hx.symm.trans q) (by decide)
          · exact pk_us
        · intro i hi
          rw [pk_un (by omega)]
      · left
        refine ⟨a + 1 + 1, told, ?_, ?_, ?_⟩
        · rw [fz_t d0, fz_f d1]
        · show fz lt len [35, 35, 59] (a + 1) = _
          rw [fz_t d0, fz_f d1]
        · rw [bi_s (rd2_f2 hl (by omega) d0 d1), gu_t (show isB 0 = true by decide)]
    · left
      refine ⟨a + 1, told, ?_, ?_, ?_⟩
      · rw [fz_f d0]
      · show fz lt len [35, 35, 59] (a + 1) = _
        rw [fz_f d0]
      · rw [bi_s (rd2_f1 hl (by omega) d0), gu_t (show isB 0 = true by decide)]
  · unfold RA f_X4_readsAll
    rw [if_neg (show ¬ (117 : Int32) = 99 by decide), if_neg (show ¬ (117 : Int32) = 104 by decide), if_neg (show ¬ (117 : Int32) = 107 by decide), if_neg (show ¬ (117 : Int32) = 116 by decide)]
    by_cases d0 : okc 35 (lA lt len (a + 1)) = true
    · by_cases d1 : okc 35 (lA lt len (a + 1 + 1)) = true
      · right
        refine ⟨upd told k (nv lt len (a + 1)), ?_, ?_, ⟨?_, ?_⟩⟩
        · show fz lt len [35, 35, 59] (a + 1) = _
          rw [fz_t d0, fz_t d1, fz_l]
        · rw [bi_s (rd2_t hl (by omega) (by omega) d0 d1), gu_t (show isB 1 = true by decide)]
        · refine ⟨fun q => ?_, fun q => ?_, fun q => ?_, fun q => ?_⟩
          · exact absurd (hx.symm.trans q) (by decide)
          · rw [hx] at q; exact absurd q (by decide)
          · exact absurd (hx.symm.trans q) (by decide)
          · exact pk_us
        · intro i hi
          rw [pk_un (by omega)]
      · left
        refine ⟨a + 1 + 1, told, ?_, ?_, ?_⟩
        · rw [fz_t d0, fz_f d1]
        · show fz lt len [35, 35, 59] (a + 1) = _
          rw [fz_t d0, fz_f d1]
        · rw [bi_s (rd2_f2 hl (by omega) d0 d1), gu_t (show isB 0 = true by decide)]
    · left
      refine ⟨a + 1, told, ?_, ?_, ?_⟩
      · rw [fz_f d0]
      · show fz lt len [35, 35, 59] (a + 1) = _
        rw [fz_f d0]
      · rw [bi_s (rd2_f1 hl (by omega) d0), gu_t (show isB 0 = true by decide)]
theorem okk {x : Int32} : okc 75 x = true ↔ 0 ≤ f_X4_kindOf x := by
  unfold okc
  rw [if_pos rfl, decide_eq_true_iff]
set_option maxHeartbeats 1000000 in
theorem ra_c {lt told : Nat → Int32} {len a k : Nat} (hl : len ≤ 96) (ha : a < 200) (hk : k + 4 < 240) (hx : (lA lt len (a)) = 99) : RA lt told len a k 99 [75, 35, 35, 35, 35, 35] 6 := by
  have hk2 : nI k + 2 = nI (k + 2) := nI_add k 2
  have hk3 : nI k + 3 = nI (k + 3) := nI_add k 3
  have hk4 : nI k + 4 = nI (k + 4) := nI_add k 4
  unfold RA f_X4_readsAll
  rw [if_pos rfl]
  by_cases d0 : okc 75 (lA lt len (a + 1)) = true
  · by_cases d1 : okc 35 (lA lt len (a + 1 + 1)) = true
    · by_cases d2 : okc 35 (lA lt len (a + 1 + 1 + 1)) = true
      · by_cases d3 : okc 35 (lA lt len (a + 1 + 1 + 1 + 1)) = true
        · by_cases d4 : okc 35 (lA lt len (a + 1 + 1 + 1 + 1 + 1)) = true
          · by_cases d5 : okc 35 (lA lt len (a + 1 + 1 + 1 + 1 + 1 + 1)) = true
            · right
              have e : f_X4_readsCaller lt told (nI len) (nI (a + 1)) (nI k) = some (1, (upd (upd (upd (upd (upd told k (f_X4_kindOf (lA lt len (a + 1)))) (k + 1) (dv lt len (a + 1 + 1))) (k + 2) (dv lt len (a + 1 + 1 + 1))) (k + 3) (dv lt len (a + 1 + 1 + 1 + 1))) (k + 4) (nv lt len (a + 1 + 1 + 1 + 1 + 1))), nI (a + 1 + 1 + 1 + 1 + 1 + 1 + 1)) := by
                unfold f_X4_readsCaller
                rw [bi_s (lA_m hl (by omega)), gu_t (inB_n (by omega)), gu_t (inB_n (by omega)), cl_n (by omega), pk_us, if_pos (okk.mp d0), nI_1, nI_1, hk2, hk3, hk4]
                rw [bi_s (rd1_t hl (by omega) (by omega) d1)]
                dsimp only
                rw [if_neg nz1, bi_s (rd1_t hl (by omega) (by omega) d2)]
                dsimp only
                rw [if_neg nz1, bi_s (rd1_t hl (by omega) (by omega) d3)]
                dsimp only
                rw [if_neg nz1, bi_s (rd2_t hl (by omega) (by omega) d4 d5)]
                dsimp only
                rw [if_neg nz1]
              refine ⟨(upd (upd (upd (upd (upd told k (f_X4_kindOf (lA lt len (a + 1)))) (k + 1) (dv lt len (a + 1 + 1))) (k + 2) (dv lt len (a + 1 + 1 + 1))) (k + 3) (dv lt len (a + 1 + 1 + 1 + 1))) (k + 4) (nv lt len (a + 1 + 1 + 1 + 1 + 1))), ?_, ?_, ⟨?_, ?_⟩⟩
              · show fz lt len [75, 35, 35, 35, 35, 35, 59] (a + 1) = _
                rw [fz_t d0, fz_t d1, fz_t d2, fz_t d3, fz_t d4, fz_t d5, fz_l]
              · rw [bi_s e, gu_t (show isB 1 = true by decide)]
              · refine ⟨fun q => ⟨?_, ?_, ?_, ?_, ?_⟩, fun q => ?_, fun q => ?_, fun q => ?_⟩
                · rw [pk_un (by omega), pk_un (by omega), pk_un (by omega), pk_un (by omega), pk_us]
                · rw [pk_un (by omega), pk_un (by omega), pk_un (by omega), pk_us] <;> rfl
                · rw [pk_un (by omega), pk_un (by omega), pk_us] <;> rfl
                · rw [pk_un (by omega), pk_us] <;> rfl
                · rw [pk_us] <;> rfl
                · rw [hx] at q; exact absurd q (by decide)
                · exact absurd (hx.symm.trans q) (by decide)
                · rw [hx] at q; exact absurd q (by decide)
              · intro i hi
                rw [pk_un (by omega), pk_un (by omega), pk_un (by omega), pk_un (by omega), pk_un (by omega)]
            · left
              have e : f_X4_readsCaller lt told (nI len) (nI (a + 1)) (nI k) = some (0, (upd (upd (upd (upd told k (f_X4_kindOf (lA lt len (a + 1)))) (k + 1) (dv lt len (a + 1 + 1))) (k + 2) (dv lt len (a + 1 + 1 + 1))) (k + 3) (dv lt len (a + 1 + 1 + 1 + 1))), nI (a + 1 + 1 + 1 + 1 + 1 + 1)) := by
                unfold f_X4_readsCaller
                rw [bi_s (lA_m hl (by omega)), gu_t (inB_n (by omega)), gu_t (inB_n (by omega)), cl_n (by omega), pk_us, if_pos (okk.mp d0), nI_1, nI_1, hk2, hk3, hk4]
                rw [bi_s (rd1_t hl (by omega) (by omega) d1)]
                dsimp only
                rw [if_neg nz1, bi_s (rd1_t hl (by omega) (by omega) d2)]
                dsimp only
                rw [if_neg nz1, bi_s (rd1_t hl (by omega) (by omega) d3)]
                dsimp only
                rw [if_neg nz1, bi_s (rd2_f2 hl (by omega) d4 d5)]
                dsimp only
                rw [if_pos rfl]
              refine ⟨a + 1 + 1 + 1 + 1 + 1 + 1, (upd (upd (upd (upd told k (f_X4_kindOf (lA lt len (a + 1)))) (k + 1) (dv lt len (a + 1 + 1))) (k + 2) (dv lt len (a + 1 + 1 + 1))) (k + 3) (dv lt len (a + 1 + 1 + 1 + 1))), ?_, ?_, ?_⟩
              · rw [fz_t d0, fz_t d1, fz_t d2, fz_t d3, fz_t d4, fz_f d5]
              · show fz lt len [75, 35, 35, 35, 35, 35, 59] (a + 1) = _
                rw [fz_t d0, fz_t d1, fz_t d2, fz_t d3, fz_t d4, fz_f d5]
              · rw [bi_s e, gu_t (show isB 0 = true by decide)]
          · left
            have e : f_X4_readsCaller lt told (nI len) (nI (a + 1)) (nI k) = some (0, (upd (upd (upd (upd told k (f_X4_kindOf (lA lt len (a + 1)))) (k + 1) (dv lt len (a + 1 + 1))) (k + 2) (dv lt len (a + 1 + 1 + 1))) (k + 3) (dv lt len (a + 1 + 1 + 1 + 1))), nI (a + 1 + 1 + 1 + 1 + 1)) := by
              unfold f_X4_readsCaller
              rw [bi_s (lA_m hl (by omega)), gu_t (inB_n (by omega)), gu_t (inB_n (by omega)), cl_n (by omega), pk_us, if_pos (okk.mp d0), nI_1, nI_1, hk2, hk3, hk4]
              rw [bi_s (rd1_t hl (by omega) (by omega) d1)]
              dsimp only
              rw [if_neg nz1, bi_s (rd1_t hl (by omega) (by omega) d2)]
              dsimp only
              rw [if_neg nz1, bi_s (rd1_t hl (by omega) (by omega) d3)]
              dsimp only
              rw [if_neg nz1, bi_s (rd2_f1 hl (by omega) d4)]
              dsimp only
              rw [if_pos rfl]
            refine ⟨a + 1 + 1 + 1 + 1 + 1, (upd (upd (upd (upd told k (f_X4_kindOf (lA lt len (a + 1)))) (k + 1) (dv lt len (a + 1 + 1))) (k + 2) (dv lt len (a + 1 + 1 + 1))) (k + 3) (dv lt len (a + 1 + 1 + 1 + 1))), ?_, ?_, ?_⟩
            · rw [fz_t d0, fz_t d1, fz_t d2, fz_t d3, fz_f d4]
            · show fz lt len [75, 35, 35, 35, 35, 35, 59] (a + 1) = _
              rw [fz_t d0, fz_t d1, fz_t d2, fz_t d3, fz_f d4]
            · rw [bi_s e, gu_t (show isB 0 = true by decide)]
        · left
          have e : f_X4_readsCaller lt told (nI len) (nI (a + 1)) (nI k) = some (0, (upd (upd (upd told k (f_X4_kindOf (lA lt len (a + 1)))) (k + 1) (dv lt len (a + 1 + 1))) (k + 2) (dv lt len (a + 1 + 1 + 1))), nI (a + 1 + 1 + 1 + 1)) := by
            unfold f_X4_readsCaller
            rw [bi_s (lA_m hl (by omega)), gu_t (inB_n (by omega)), gu_t (inB_n (by omega)), cl_n (by omega), pk_us, if_pos (okk.mp d0), nI_1, nI_1, hk2, hk3, hk4]
            rw [bi_s (rd1_t hl (by omega) (by omega) d1)]
            dsimp only
            rw [if_neg nz1, bi_s (rd1_t hl (by omega) (by omega) d2)]
            dsimp only
            rw [if_neg nz1, bi_s (rd1_f hl (by omega) d3)]
            dsimp only
            rw [if_pos rfl]
          refine ⟨a + 1 + 1 + 1 + 1, (upd (upd (upd told k (f_X4_kindOf (lA lt len (a + 1)))) (k + 1) (dv lt len (a + 1 + 1))) (k + 2) (dv lt len (a + 1 + 1 + 1))), ?_, ?_, ?_⟩
          · rw [fz_t d0, fz_t d1, fz_t d2, fz_f d3]
          · show fz lt len [75, 35, 35, 35, 35, 35, 59] (a + 1) = _
            rw [fz_t d0, fz_t d1, fz_t d2, fz_f d3]
          · rw [bi_s e, gu_t (show isB 0 = true by decide)]
      · left
        have e : f_X4_readsCaller lt told (nI len) (nI (a + 1)) (nI k) = some (0, (upd (upd told k (f_X4_kindOf (lA lt len (a + 1)))) (k + 1) (dv lt len (a + 1 + 1))), nI (a + 1 + 1 + 1)) := by
          unfold f_X4_readsCaller
          rw [bi_s (lA_m hl (by omega)), gu_t (inB_n (by omega)), gu_t (inB_n (by omega)), cl_n (by omega), pk_us, if_pos (okk.mp d0), nI_1, nI_1, hk2, hk3, hk4]
          rw [bi_s (rd1_t hl (by omega) (by omega) d1)]
          dsimp only
          rw [if_neg nz1, bi_s (rd1_f hl (by omega) d2)]
          dsimp only
          rw [if_pos rfl]
        refine ⟨a + 1 + 1 + 1, (upd (upd told k (f_X4_kindOf (lA lt len (a + 1)))) (k + 1) (dv lt len (a + 1 + 1))), ?_, ?_, ?_⟩
        · rw [fz_t d0, fz_t d1, fz_f d2]
        · show fz lt len [75, 35, 35, 35, 35, 35, 59] (a + 1) = _
          rw [fz_t d0, fz_t d1, fz_f d2]
        · rw [bi_s e, gu_t (show isB 0 = true by decide)]
    · left
      have e : f_X4_readsCaller lt told (nI len) (nI (a + 1)) (nI k) = some (0, (upd told k (f_X4_kindOf (lA lt len (a + 1)))), nI (a + 1 + 1)) := by
        unfold f_X4_readsCaller
        rw [bi_s (lA_m hl (by omega)), gu_t (inB_n (by omega)), gu_t (inB_n (by omega)), cl_n (by omega), pk_us, if_pos (okk.mp d0), nI_1, nI_1, hk2, hk3, hk4]
        rw [bi_s (rd1_f hl (by omega) d1)]
        dsimp only
        rw [if_pos rfl]
      refine ⟨a + 1 + 1, (upd told k (f_X4_kindOf (lA lt len (a + 1)))), ?_, ?_, ?_⟩
      · rw [fz_t d0, fz_f d1]
      · show fz lt len [75, 35, 35, 35, 35, 35, 59] (a + 1) = _
        rw [fz_t d0, fz_f d1]
      · rw [bi_s e, gu_t (show isB 0 = true by decide)]
  · left
    have e : f_X4_readsCaller lt told (nI len) (nI (a + 1)) (nI k) = some (0, (upd told k (f_X4_kindOf (lA lt len (a + 1)))), nI (a + 1)) := by
      unfold f_X4_readsCaller
      rw [bi_s (lA_m hl (by omega)), gu_t (inB_n (by omega)), gu_t (inB_n (by omega)), cl_n (by omega), pk_us, if_neg (fun q => d0 (okk.mpr q))]
    refine ⟨a + 1, (upd told k (f_X4_kindOf (lA lt len (a + 1)))), ?_, ?_, ?_⟩
    · rw [fz_f d0]
    · show fz lt len [75, 35, 35, 35, 35, 35, 59] (a + 1) = _
      rw [fz_f d0]
    · rw [bi_s e, gu_t (show isB 0 = true by decide)]
theorem okp {x : Int32} : okc 59 x = true ↔ x = 59 := by
  unfold okc
  rw [if_neg (by decide), if_neg (by decide), decide_eq_true_iff]
theorem fm_j : fm 0 = [75, 35, 35, 35, 35, 35] ++ [59] ∧ fm 1 = [35, 35, 35] ++ [59] ∧ fm 2 = [35, 35, 35] ++ [59] ∧ fm 3 = [35] ++ [59] ∧ fm 4 = [35, 35] ++ [59] ∧ fm 5 = [35, 35] ++ [59] ∧ fm 6 = [35, 35] ++ [59] := ⟨rfl, rfl, rfl, rfl, rfl, rfl, rfl⟩
theorem let_c (x : Int32) : (f_X2_formOf x = 7 ∧ f_X4_isLetter x = 0) ∨ (f_X4_isLetter x = 1 ∧ ((x = 99 ∧ f_X2_formOf x = 0) ∨ (x = 104 ∧ f_X2_formOf x = 2) ∨ (x = 107 ∧ f_X2_formOf x = 1) ∨ (x = 116 ∧ f_X2_formOf x = 3) ∨ (x = 100 ∧ f_X2_formOf x = 6) ∨ (x = 112 ∧ f_X2_formOf x = 5) ∨ (x = 117 ∧ f_X2_formOf x = 4))) := by
  by_cases h1 : x = 99
  · subst h1; exact Or.inr ⟨by decide, Or.inl ⟨rfl, by decide⟩⟩
  by_cases h2 : x = 104
  · subst h2; exact Or.inr ⟨by decide, Or.inr (Or.inl ⟨rfl, by decide⟩)⟩
  by_cases h3 : x = 107
  · subst h3; exact Or.inr ⟨by decide, Or.inr (Or.inr (Or.inl ⟨rfl, by decide⟩))⟩
  by_cases h4 : x = 116
  · subst h4; exact Or.inr ⟨by decide, Or.inr (Or.inr (Or.inr (Or.inl ⟨rfl, by decide⟩)))⟩
  by_cases h5 : x = 100
  · subst h5; exact Or.inr ⟨by decide, Or.inr (Or.inr (Or.inr (Or.inr (Or.inl ⟨rfl, by decide⟩))))⟩
  by_cases h6 : x = 112
  · subst h6; exact Or.inr ⟨by decide, Or.inr (Or.inr (Or.inr (Or.inr (Or.inr (Or.inl ⟨rfl, by decide⟩)))))⟩
  by_cases h7 : x = 117
  · subst h7; exact Or.inr ⟨by decide, Or.inr (Or.inr (Or.inr (Or.inr (Or.inr (Or.inr ⟨rfl, by decide⟩)))))⟩
  · left
    unfold f_X2_formOf f_X4_isLetter
    simp only [if_neg h1, if_neg h2, if_neg h3, if_neg h4, if_neg h5, if_neg h6, if_neg h7]
    exact ⟨trivial, trivial⟩
theorem stat_m {lt letter letterAt told : Nat → Int32} {len a s : Nat} (h : RT len lt) (ha : a ≤ 96) (hs : s < 48) : (∃ p l la t', sF lt len a = some p ∧ f_X4_statement lt letter letterAt told (nI len) (nI a) (nI s) = some (0, l, la, t', nI p)) ∨ (∃ t', sF lt len a = none ∧ f_X4_statement lt letter letterAt told (nI len) (nI a) (nI s) = some (1, upd letter s (lA lt len (a)), upd letterAt s (nI a), t', nI (sN lt len a)) ∧ TV lt len a t' (5 * s) ∧ ∀ i, i < 5 * s → t' i = told i) := by
  have hl := h.1
  have h5 : (5 : Int32) * nI s = nI (5 * s) := pk_mul 5 s
  unfold f_X4_statement
  rw [bi_s (lA_m hl (by omega))]
  rcases let_c (lA lt len (a)) with ⟨e1, e2⟩ | ⟨e1, hc⟩
  · left
    rw [if_pos e2]
    exact ⟨a, _, _, _, by unfold sF jF; rw [e1, if_pos rfl], rfl⟩
  · rw [if_neg (by rw [e1]; decide), gu_t (inB_n hs), gu_t (inB_n hs), cl_n (by omega), h5, nI_1]
    have go : ∀ (x : Int32) (l : List Int32) (m j : Nat), (lA lt len (a)) = x → f_X2_formOf (lA lt len (a)) = j → j < 7 → fm j = l ++ [59] → sLen.getD j 0 = m + 2 → RA lt told len a (5 * s) x l m → (∃ p l' la t', sF lt len a = some p ∧ (bi (f_X4_readsAll lt told (nI len) (nI (a + 1)) (lA lt len (a)) (nI (5 * s))) fun z10 => if z10.1 = 0 then some ((0 : Int32), upd letter s (lA lt len (a)), upd letterAt s (nI a), z10.2.1, z10.2.2) else bi (f_X4_next lt (nI len) z10.2.2) fun z12 => if z12 = 59 then some ((1 : Int32), upd letter s (lA lt len (a)), upd letterAt s (nI a), z10.2.1, z10.2.2 + 1) else some ((0 : Int32), upd letter s (lA lt len (a)), upd letterAt s (nI a), z10.2.1, z10.2.2)) = some (0, l', la, t', nI p)) ∨ (∃ t', sF lt len a = none ∧ (bi (f_X4_readsAll lt told (nI len) (nI (a + 1)) (lA lt len (a)) (nI (5 * s))) fun z10 => if z10.1 = 0 then some ((0 : Int32), upd letter s (lA lt len (a)), upd letterAt s (nI a), z10.2.1, z10.2.2) else bi (f_X4_next lt (nI len) z10.2.2) fun z12 => if z12 = 59 then some ((1 : Int32), upd letter s (lA lt len (a)), upd letterAt s (nI a), z10.2.1, z10.2.2 + 1) else some ((0 : Int32), upd letter s (lA lt len (a)), upd letterAt s (nI a), z10.2.1, z10.2.2)) = some (1, upd letter s (lA lt len (a)), upd letterAt s (nI a), t', nI (sN lt len a)) ∧ TV lt len a t' (5 * s) ∧ ∀ i, i < 5 * s → t' i = told i) := by
      intro x l m j hx hj hj7 hf hm hr
      have e : sF lt len a = fz lt len (l ++ [59]) (a + 1) := by
        unfold sF jF
        rw [hj, if_neg (by omega), hf]
      have en : sN lt len a = a + 1 + m + 1 := by
        unfold sN jF
        rw [hj, hm]; omega
      obtain ⟨_, hm8, _, _⟩ := len_j ⟨j, by omega⟩
      dsimp only at hm8
      rw [e, en, hx]
      rcases hr with ⟨p, t', -, r2, r3⟩ | ⟨t', r1, r2, r3⟩
      · left
        rw [bi_s r3, r2, if_pos rfl]
        exact ⟨p, _, _, _, rfl, rfl⟩
      · rw [bi_s r2, r1]
        dsimp only
        rw [if_neg nz1, bi_s (lA_m hl (by omega))]
        by_cases ho : okc 59 (lA lt len (a + 1 + m)) = true
        · right
          rw [if_pos ho, if_pos (okp.mp ho), nI_1]
          exact ⟨t', rfl, rfl, r3.1, r3.2⟩
        · left
          rw [if_neg ho, if_neg (fun q => ho (okp.mpr q))]
          exact ⟨_, _, _, _, rfl, rfl⟩
    obtain ⟨f0, f1, f2, f3, f4, f5, f6⟩ := fm_j
    rcases hc with ⟨hx, hj⟩ | ⟨hx, hj⟩ | ⟨hx, hj⟩ | ⟨hx, hj⟩ | ⟨hx, hj⟩ | ⟨hx, hj⟩ | ⟨hx, hj⟩
    · exact go 99 _ 6 0 hx hj (by omega) f0 rfl (ra_c hl (by omega) (by omega) hx)
    · exact go 104 _ 3 2 hx hj (by omega) f2 rfl (ra_hk hl (by omega) (by omega) hx (Or.inl rfl))
    · exact go 107 _ 3 1 hx hj (by omega) f1 rfl (ra_hk hl (by omega) (by omega) hx (Or.inr rfl))
    · exact go 116 _ 1 3 hx hj (by omega) f3 rfl (ra_t hl (by omega) (by omega) hx rfl)
    · exact go 100 _ 2 6 hx hj (by omega) f6 rfl (ra_dpu hl (by omega) (by omega) hx (Or.inl rfl))
    · exact go 112 _ 2 5 hx hj (by omega) f5 rfl (ra_dpu hl (by omega) (by omega) hx (Or.inr (Or.inl rfl)))
    · exact go 117 _ 2 4 hx hj (by omega) f4 rfl (ra_dpu hl (by omega) (by omega) hx (Or.inr (Or.inr rfl)))
