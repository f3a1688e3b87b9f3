/-! PURE: the reference's leaves -/
theorem cl1 : (1 : Int32).toNatClampNeg = 1 := by decide
theorem cl2 : (2 : Int32).toNatClampNeg = 2 := by decide
theorem cl3 : (3 : Int32).toNatClampNeg = 3 := by decide
theorem in04 : vp_in 0 4 := (vp_in_nI (n := 0) (by omega) (by omega) : vp_in (nI 0) 4)
theorem in14 : vp_in 1 4 := (vp_in_nI (n := 1) (by omega) (by omega) : vp_in (nI 1) 4)
theorem in24 : vp_in 2 4 := (vp_in_nI (n := 2) (by omega) (by omega) : vp_in (nI 2) 4)
theorem in34 : vp_in 3 4 := (vp_in_nI (n := 3) (by omega) (by omega) : vp_in (nI 3) 4)
theorem i32_m1 {x : Int32} (h1 : -1 ≤ x) (h2 : x ≤ 0) (h3 : ¬ x = 0) : x = -1 := by
  rw [Int32.le_iff_toInt_le] at h1 h2
  have a1 : (-1 : Int32).toInt = -1 := by decide
  have a2 : (0 : Int32).toInt = 0 := by decide
  have e : x.toInt = -1 ∨ x.toInt = 0 := by omega
  rcases e with e | e
  · exact Int32.toInt_inj.mp (e.trans a1.symm)
  · exact absurd (Int32.toInt_inj.mp (e.trans a2.symm)) h3
theorem m1_nI (n : Nat) (h : n < 2 ^ 31) : (-1 : Int32) ≤ nI n := Int32.le_trans (by decide) (nI_pos' h)
theorem nl_ge {x : Int32} (h1 : -1 ≤ x) (h3 : ¬ x = 0) : -1 ≤ nl x := by
  unfold nl
  by_cases e : x = -1
  · rw [if_pos e]; exact h1
  · rw [if_neg e]
    have h0 : ¬ x < 0 := fun z => e (i32_m1 h1 (Int32.le_of_lt z) h3)
    obtain ⟨j, hj, rfl⟩ := nI_of h0
    cases j with
    | zero => exact absurd rfl h3
    | succ j => rw [nI_pred]; exact m1_nI j (by omega)
/-- the rows in force of the reference, read -/
def moR (fv fp fy fq fi fj : Nat → Int32) (ver np nq : Nat) (P F S : Nat → Nat) : Prop := fv 0 = nI ver ∧ fp 0 = nI np ∧ fq 0 = nI nq ∧ (∀ k, k < np → fy k = nI (P k)) ∧ ∀ k, k < nq → fi k = nI (F k) ∧ fj k = nI (S k)
theorem s_mIn {p0 p1 p2 : Int32} {post : Int32 → Prop} (h0 : (p0 < p1 ∨ p2 < p0) → post 0) (h1 : ¬ p0 < p1 → ¬ p2 < p0 → post 1) : v_Model_in p0 p1 p2 post :=
  ⟨fun h => h0 (Or.inl h), fun h => ⟨fun g => h0 (Or.inr g), fun g => h1 h g⟩⟩
theorem s_mIsSector {p0 : Int32} {post : Int32 → Prop} (h0 : (p0 < 0 ∨ 192 ≤ p0) → post 0) (h1 : ¬ p0 < 0 → ¬ 192 ≤ p0 → post 1) : v_Model_isSector p0 post := by
  refine s_mIn (fun h => ⟨rfl, h0 ?_⟩) (fun h g => ⟨rfl, h1 h (fun z => g ?_)⟩)
  · rcases h with h | h
    · exact Or.inl h
    · refine Or.inr ?_
      rw [Int32.lt_iff_toInt_lt] at h
      rw [Int32.le_iff_toInt_le]
      have a1 : (191 : Int32).toInt = 191 := by decide
      have a2 : (192 : Int32).toInt = 192 := by decide
      omega
  · rw [Int32.le_iff_toInt_le] at z
    rw [Int32.lt_iff_toInt_lt]
    have a1 : (191 : Int32).toInt = 191 := by decide
    have a2 : (192 : Int32).toInt = 192 := by decide
    omega
theorem s_mIsSpare {k : Nat} (hk : k < 192) {post : Int32 → Prop} (h0 : ¬ (16 ≤ k ∧ 13 ≤ k % 16) → post 0) (h1 : 16 ≤ k → 13 ≤ k % 16 → post 1) : v_Model_isSpare (nI k) post := by
  refine pk_lt k 16 (fun h => h0 (by omega)) (fun h => ?_)
  have e : nI k - nI k / 16 * 16 = nI (k % 16) := pk_rem (d := 16) (by omega) (by omega) (by omega)
  rw [e]
  exact pk_le (k % 16) 12 (fun g => h0 (by omega)) (fun g => h1 h (by omega))
def bI (b : Bool) : Int32 := if b = true then 1 else 0
theorem bI_01 (b : Bool) : bI b = 0 ∨ bI b = 1 := by cases b <;> simp [bI]
section MO
variable {kc kn kz ko kt kr : Int32} {fw fl fs ff fv fk fp fy fq fi fj fm : Nat → Int32} {ver np nq : Nat} {P F S : Nat → Nat}
theorem s_mIsPrimary (r : moR fv fp fy fq fi fj ver np nq P F S) (ok : okL np nq P F S) {s : Nat} (hs : s < 192) {post : Int32 → Prop} (h : post (bI (pr P np s))) : v_Model_isPrimary kc kn kz ko kt kr fw fl fs ff fv fk fp fy fq fi fj fm (nI s) post := by
  obtain ⟨-, r1, -, r3, -⟩ := r
  have K : ∀ n i, i ≤ np → np < i + n → v_Model_isPrimary_4 fp fy (nI s) post n (bI (pr P i s)) (nI i) := by
    intro n
    induction n with
    | zero => intro i h1 h2; omega
    | succ n ih =>
      intro i h1 h2
      have go : ∀ b : Int32, b = bI (pr P (i + 1) s) → v_Model_isPrimary_33 (v_Model_isPrimary_4 fp fy (nI s) post n) (nI i) b → True := fun _ _ _ => trivial
      show vb_Model_isPrimary_4 fp fy (nI s) post (v_Model_isPrimary_4 fp fy (nI s) post n) (bI (pr P i s)) (nI i)
      refine ⟨in04, ?_⟩
      rw [sb_cl0, r1]
      have hn := ok.1
      refine pk_le np i (fun w => ?_) (fun w => ?_)
      · rw [show i = np by omega]; exact ⟨nb01 (bI_01 _), h⟩
      · have hp := ok.2.2.1 i w
        cases e : pr P i s with
        | true =>
          refine ⟨fun _ => ?_, fun z => absurd z (by decide)⟩
          show v_Model_isPrimary_4 fp fy (nI s) post n 1 (nI i + 1)
          have := ih (i + 1) (by omega) (by omega)
          simp only [pr, e, Bool.true_or] at this
          rw [nI_1]; exact this
        | false =>
          refine ⟨fun z => absurd rfl z, fun _ => ⟨vp_in_nI (by omega) (by omega), ?_⟩⟩
          rw [nI_clamp (by omega), r3 i w]
          have := ih (i + 1) (by omega) (by omega)
          simp only [pr, e, Bool.false_or] at this
          refine pk_eq (P i) s (fun q => ?_) (fun q => ?_) |> fun z => ⟨z.2, z.1⟩
          · show v_Model_isPrimary_4 fp fy (nI s) post n 1 (nI i + 1)
            rw [nI_1]
            simpa [q, bI] using this
          · show v_Model_isPrimary_4 fp fy (nI s) post n 0 (nI i + 1)
            rw [nI_1]
            simpa [q, bI] using this
  exact ⟨np + 1, K (np + 1) 0 (by omega) (by omega)⟩
theorem s_mPairOfFirst (r : moR fv fp fy fq fi fj ver np nq P F S) (ok : okL np nq P F S) {s : Nat} (hs : s < 192) {post : Int32 → Prop} (h : post (oI (lf F nq s))) : v_Model_pairOfFirst kc kn kz ko kt kr fw fl fs ff fv fk fp fy fq fi fj fm (nI s) post := by
  obtain ⟨-, -, r2, -, r4⟩ := r
  have K : ∀ n i, i ≤ nq → nq < i + n → v_Model_pairOfFirst_4 fq fi (nI s) post n (oI (lf F i s)) (nI i) := by
    intro n
    induction n with
    | zero => intro i h1 h2; omega
    | succ n ih =>
      intro i h1 h2
      show vb_Model_pairOfFirst_4 fq fi (nI s) post (v_Model_pairOfFirst_4 fq fi (nI s) post n) (oI (lf F i s)) (nI i)
      refine ⟨in04, ?_⟩
      rw [sb_cl0, r2]
      have hn := ok.2.1
      refine pk_le nq i (fun w => ?_) (fun w => ⟨vp_in_nI (by omega) (by omega), ?_⟩)
      · rw [show i = nq by omega]; exact h
      · have hp := (ok.2.2.2.1 i w).1
        rw [nI_clamp (by omega), (r4 i w).1]
        have := ih (i + 1) (by omega) (by omega)
        simp only [lf] at this
        refine pk_eq (F i) s (fun q => ?_) (fun q => ?_) |> fun z => ⟨z.2, z.1⟩
        · show v_Model_pairOfFirst_4 fq fi (nI s) post n (nI i) (nI i + 1)
          rw [nI_1]
          rw [if_pos q] at this
          exact this
        · show v_Model_pairOfFirst_4 fq fi (nI s) post n _ (nI i + 1)
          rw [nI_1]
          rw [if_neg q] at this
          exact this
  exact ⟨nq + 1, K (nq + 1) 0 (by omega) (by omega)⟩
theorem s_mPairOfSpare (r : moR fv fp fy fq fi fj ver np nq P F S) (ok : okL np nq P F S) {s : Nat} (hs : s < 192) {post : Int32 → Prop} (h : post (oI (lf S nq s))) : v_Model_pairOfSpare kc kn kz ko kt kr fw fl fs ff fv fk fp fy fq fi fj fm (nI s) post := by
  obtain ⟨-, -, r2, -, r4⟩ := r
  have K : ∀ n i, i ≤ nq → nq < i + n → v_Model_pairOfSpare_4 fq fj (nI s) post n (oI (lf S i s)) (nI i) := by
    intro n
    induction n with
    | zero => intro i h1 h2; omega
    | succ n ih =>
      intro i h1 h2
      show vb_Model_pairOfSpare_4 fq fj (nI s) post (v_Model_pairOfSpare_4 fq fj (nI s) post n) (oI (lf S i s)) (nI i)
      refine ⟨in04, ?_⟩
      rw [sb_cl0, r2]
      have hn := ok.2.1
      refine pk_le nq i (fun w => ?_) (fun w => ⟨vp_in_nI (by omega) (by omega), ?_⟩)
      · rw [show i = nq by omega]; exact h
      · have hp := (ok.2.2.2.2.1 i w).2.1
        rw [nI_clamp (by omega), (r4 i w).2]
        have := ih (i + 1) (by omega) (by omega)
        simp only [lf] at this
        refine pk_eq (S i) s (fun q => ?_) (fun q => ?_) |> fun z => ⟨z.2, z.1⟩
        · show v_Model_pairOfSpare_4 fq fj (nI s) post n (nI i) (nI i + 1)
          rw [nI_1]
          rw [if_pos q] at this
          exact this
        · show v_Model_pairOfSpare_4 fq fj (nI s) post n _ (nI i + 1)
          rw [nI_1]
          rw [if_neg q] at this
          exact this
  exact ⟨nq + 1, K (nq + 1) 0 (by omega) (by omega)⟩
theorem s_mIsLogical (r : moR fv fp fy fq fi fj ver np nq P F S) (ok : okL np nq P F S) {s : Nat} (hs : s < 192) {post : Int32 → Prop} (h0 : ¬ lg P np s = true → post 0) (h1 : lg P np s = true → post 1) : v_Model_isLogical kc kn kz ko kt kr fw fl fs ff fv fk fp fy fq fi fj fm (nI s) post := by
  refine pk_lt s 16 (fun w => h0 (fun z => by have := ((lg_iff P np s).mp z).1; omega)) (fun w => s_mIsSpare hs (fun e => ⟨fun z => absurd rfl z, fun _ => s_mIsPrimary r ok hs ?_⟩) (fun e1 e2 => ⟨fun _ => h0 (fun z => by have := ((lg_iff P np s).mp z).2.1; omega), fun z => absurd z (by decide)⟩))
  cases e2 : pr P np s with
  | true => exact ⟨fun _ => h0 (fun z => by rw [((lg_iff P np s).mp z).2.2] at e2; cases e2), fun z => absurd z (by decide)⟩
  | false => exact ⟨fun z => absurd rfl z, fun _ => h1 ((lg_iff P np s).mpr ⟨w, by omega, e2⟩)⟩
/-- the capacity -/
def cp (ver : Nat) (P : Nat → Nat) (np : Nat) : Nat := if ver = 0 then 0 else ct P np 192
theorem cp_le (ver : Nat) (P : Nat → Nat) (np : Nat) : cp ver P np ≤ 143 := by
  unfold cp
  by_cases h : ver = 0
  · rw [if_pos h]; omega
  · rw [if_neg h]; exact ct_le_143 P np (by omega)
theorem s_mCapacity (r : moR fv fp fy fq fi fj ver np nq P F S) (ok : okL np nq P F S) (hver : ver < 2 ^ 31) {post : Int32 → Prop} (h : post (nI (cp ver P np))) : v_Model_capacity kc kn kz ko kt kr fw fl fs ff fv fk fp fy fq fi fj fm post := by
  by_cases hv : ver = 0
  · refine ⟨1, ?_⟩
    show vb_Model_capacity_4 kc kn kz ko kt kr fw fl fs ff fv fk fp fy fq fi fj fm post _ (nI 0) (nI 0)
    refine pk_le 192 0 (fun w => absurd w (by omega)) (fun _ => ⟨in04, ?_⟩)
    rw [sb_cl0, r.1]
    unfold cp at h
    rw [if_pos hv] at h
    exact pk_le ver 0 (fun _ => h) (fun w => absurd w (by omega))
  · unfold cp at h
    rw [if_neg hv] at h
    have K : ∀ n i, i ≤ 192 → 192 < i + n → v_Model_capacity_4 kc kn kz ko kt kr fw fl fs ff fv fk fp fy fq fi fj fm post n (nI (ct P np i)) (nI i) := by
      intro n
      induction n with
      | zero => intro i h1 h2; omega
      | succ n ih =>
        intro i h1 h2
        show vb_Model_capacity_4 kc kn kz ko kt kr fw fl fs ff fv fk fp fy fq fi fj fm post (v_Model_capacity_4 kc kn kz ko kt kr fw fl fs ff fv fk fp fy fq fi fj fm post n) (nI (ct P np i)) (nI i)
        refine pk_le 192 i (fun w => by rw [show i = 192 by omega]; exact h) (fun w => ⟨in04, ?_⟩)
        rw [sb_cl0, r.1]
        refine pk_le ver 0 (fun z => absurd z (by omega)) (fun _ => s_mIsLogical r ok w (fun e => ⟨fun _ => ?_, fun z => absurd rfl z⟩) (fun e => ⟨fun z => absurd z (by decide), fun _ => ?_⟩))
        · show v_Model_capacity_4 kc kn kz ko kt kr fw fl fs ff fv fk fp fy fq fi fj fm post n (nI (ct P np i) + nI 0) (nI i + 1)
          have e2 : ct P np (i + 1) = ct P np i + 0 := by simp only [ct, if_neg e]
          rw [nI_add, nI_1, ← e2]
          exact ih (i + 1) (by omega) (by omega)
        · show v_Model_capacity_4 kc kn kz ko kt kr fw fl fs ff fv fk fp fy fq fi fj fm post n (nI (ct P np i) + nI 1) (nI i + 1)
          have e2 : ct P np (i + 1) = ct P np i + 1 := by simp only [ct, if_pos e]
          rw [nI_add, nI_1, ← e2]
          exact ih (i + 1) (by omega) (by omega)
    exact ⟨193, K 193 0 (by omega) (by omega)⟩
theorem s_mHas (r : moR fv fp fy fq fi fj ver np nq P F S) (ok : okL np nq P F S) (hver : ver < 2 ^ 31) {p0 : Int32} {post : Int32 → Prop} (h0 : (∀ j, j < cp ver P np → p0 ≠ nI j) → post 0) (h1 : ∀ j, j < cp ver P np → p0 = nI j → post 1) : v_Model_hasLogical kc kn kz ko kt kr fw fl fs ff fv fk fp fy fq fi fj fm p0 post := by
  have hc := cp_le ver P np
  refine s_mCapacity r ok hver (s_mIn (fun q => ⟨rfl, h0 (fun j hj e => ?_)⟩) (fun q1 q2 => ⟨rfl, ?_⟩))
  · rcases q with q | q
    · rw [e] at q; exact nI_pos (by omega) q
    · have e2 : nI (cp ver P np) - 1 = nI (cp ver P np - 1) := by
        have := nI_pred (cp ver P np - 1)
        rw [show cp ver P np - 1 + 1 = cp ver P np by omega] at this
        exact this
      rw [e2, e] at q
      exact nI_nlt (by omega) (by omega) q
  · rcases pk_ix p0 (show cp ver P np < 2 ^ 31 by omega) with e | e | ⟨j, hj, e⟩
    · exact absurd e q1
    · exfalso
      apply q2
      cases hcp : cp ver P np with
      | zero =>
        obtain ⟨j, hj, rfl⟩ := nI_of q1
        exact Int32.lt_of_lt_of_le (by decide) (nI_pos' hj)
      | succ c =>
        rw [hcp] at e
        rw [nI_pred]
        exact Int32.lt_of_lt_of_le (nI_lt (by omega) (by omega)) e
    · exact h1 j hj e
theorem s_mOwnOf (r : moR fv fp fy fq fi fj ver np nq P F S) (ok : okL np nq P F S) {s : Nat} (hs : s < 192) (hl : lg P np s = true) {post : Int32 → Prop} (h : post (nI s)) : v_Model_ownOf kc kn kz ko kt kr fw fl fs ff fv fk fp fy fq fi fj fm (nI (ct P np s)) post := by
  have h16 := ((lg_iff P np s).mp hl).1
  have hc := ct_143 P np hs hl
  have K : ∀ n i, 15 ≤ i → i < s → s < i + n → v_Model_ownOf_5 kc kn kz ko kt kr fw fl fs ff fv fk fp fy fq fi fj fm post (n + 1) (nI (ct P np s - ct P np (i + 1))) (nI i) := by
    intro n
    induction n with
    | zero => intro i h1 h2 h3; omega
    | succ n ih =>
      intro i h1 h2 h3
      show vb_Model_ownOf_5 kc kn kz ko kt kr fw fl fs ff fv fk fp fy fq fi fj fm post (v_Model_ownOf_5 kc kn kz ko kt kr fw fl fs ff fv fk fp fy fq fi fj fm post (n + 1)) (nI (ct P np s - ct P np (i + 1))) (nI i)
      have m1 := ct_mono P np (show i + 1 ≤ s by omega)
      refine pk_lt (ct P np s - ct P np (i + 1)) 0 (fun z => absurd z (by omega)) (fun _ => ?_)
      rw [nI_1]
      refine s_mIsLogical r ok (by omega) (fun e => ⟨fun _ => ?_, fun z => absurd rfl z⟩) (fun e => ⟨fun z => absurd z (by decide), fun _ => ?_⟩)
      · have hne : i + 1 ≠ s := fun z => by rw [z] at e; exact e hl
        show v_Model_ownOf_5 kc kn kz ko kt kr fw fl fs ff fv fk fp fy fq fi fj fm post (n + 1) (nI (ct P np s - ct P np (i + 1)) - nI 0) (nI (i + 1))
        rw [pk_sub (by omega)]
        have e2 : ct P np (i + 1 + 1) = ct P np (i + 1) := by simp only [ct, if_neg e]; omega
        rw [Nat.sub_zero, ← e2]
        exact ih (i + 1) (by omega) (by omega) (by omega)
      · show v_Model_ownOf_5 kc kn kz ko kt kr fw fl fs ff fv fk fp fy fq fi fj fm post (n + 1) (nI (ct P np s - ct P np (i + 1)) - nI 1) (nI (i + 1))
        by_cases hne : i + 1 = s
        · rw [hne, Nat.sub_self]
          show vb_Model_ownOf_5 kc kn kz ko kt kr fw fl fs ff fv fk fp fy fq fi fj fm post _ (nI 0 - nI 1) (nI s)
          exact ⟨fun _ => h, fun z => absurd (by decide) z⟩
        · have e2 : ct P np (i + 1 + 1) = ct P np (i + 1) + 1 := by simp only [ct, if_pos e]
          have m2 := ct_lt P np (show i + 1 < s by omega) e
          rw [pk_sub (by omega), show ct P np s - ct P np (i + 1) - 1 = ct P np s - ct P np (i + 1 + 1) by omega]
          exact ih (i + 1) (by omega) (by omega) (by omega)
  have := K 192 15 (by omega) (by omega) (by omega)
  rw [ct_16 P np 16 (by omega), Nat.sub_zero] at this
  exact ⟨193, this⟩
theorem s_mPlaceOf (r : moR fv fp fy fq fi fj ver np nq P F S) (ok : okL np nq P F S) {s : Nat} (hs : s < 192) (hl : lg P np s = true) {post : Int32 → Prop} (h : post (nI (pl F S nq s))) : v_Model_placeOf kc kn kz ko kt kr fw fl fs ff fv fk fp fy fq fi fj fm (nI (ct P np s)) post := by
  refine s_mOwnOf r ok hs hl (s_mPairOfFirst r ok hs ?_)
  cases e : lf F nq s with
  | none =>
    rw [pl_none e] at h
    exact ⟨fun _ => h, fun z => absurd (by decide) z⟩
  | some k =>
    rw [pl_some e] at h
    have hk := (lf_some e).1
    have hq := ok.2.1
    refine ⟨fun z => absurd z (nI_pos (by omega)), fun _ => ⟨vp_in_nI (by omega) (by omega), ?_⟩⟩
    show post (fj (nI k).toNatClampNeg)
    rw [nI_clamp (by omega), (r.2.2.2.2 k hk).2]
    exact h
theorem s_mIsFree (r : moR fv fp fy fq fi fj ver np nq P F S) (ok : okL np nq P F S) {sc : Nat → Int32} (hfs : ∀ i, i < 192 → fs i = sc i) {s : Nat} (hs : s < 192) {post : Int32 → Prop} (h0 : ¬ fb sc P np S nq s = true → post 0) (h1 : fb sc P np S nq s = true → post 1) : v_Model_isFreeSpare kc kn kz ko kt kr fw fl fs ff fv fk fp fy fq fi fj fm (nI s) post := by
  refine s_mIsSpare hs (fun e => ⟨fun _ => h0 ?_, fun z => absurd rfl z⟩) (fun e1 e2 => ⟨fun z => absurd z (by decide), fun _ => ⟨vp_in_nI hs (by omega), ?_⟩⟩)
  · intro z
    simp only [fb, Bool.and_eq_true, decide_eq_true_eq] at z
    exact e ⟨z.1, z.2.1⟩
  · rw [nI_clamp (by omega), hfs s hs]
    refine ⟨fun e3 => h0 (by simp [fb, e3]), fun e3 => s_mIsPrimary r ok hs ?_⟩
    cases w : pr P np s with
    | true => exact ⟨fun _ => h0 (by simp [fb, w]), fun z => absurd z (by decide)⟩
    | false =>
      refine ⟨fun z => absurd rfl z, fun _ => s_mPairOfSpare r ok hs ?_⟩
      cases w2 : lf S nq s with
      | none => exact ⟨fun z => absurd z (by decide), fun _ => h1 (by simp [fb, e1, e2, e3, w, w2])⟩
      | some k =>
        have hk := (lf_some w2).1
        have hq := ok.2.1
        exact ⟨fun _ => h0 (by simp [fb, w2]), fun z => absurd (nI_pos' (by omega)) z⟩
theorem s_mNearest (r : moR fv fp fy fq fi fj ver np nq P F S) (ok : okL np nq P F S) {sc : Nat → Int32} (hfs : ∀ i, i < 192 → fs i = sc i) {p : Nat} (hp : p < 192) {post : Int32 → Prop} (h : post (oI (nr (fb sc P np S nq) (p / 16) 176 16 none 12))) : v_Model_nearest kc kn kz ko kt kr fw fl fs ff fv fk fp fy fq fi fj fm (nI p) post := by
  rw [← nr_eq (fb sc P np S nq) (show p / 16 < 12 by omega) 176 16 (by omega)] at h
  obtain ⟨z, hz⟩ : ∃ z, nr (fb sc P np S nq) (p / 16) 176 16 none 100 = z := ⟨_, rfl⟩
  rw [hz] at h
  have K : ∀ (n i : Nat) (best : Option Nat) (least : Nat), i + n = 192 → least ≤ 100 → nr (fb sc P np S nq) (p / 16) n i best least = z → v_Model_nearest_9 kc kn kz ko kt kr fw fl fs ff fv fk fp fy fq fi fj fm (nI p) post (n + 1) (oI best) (nI least) (nI i) := by
    intro n
    induction n with
    | zero =>
      intro i best least h1 h2 h3
      rw [← h3] at h
      show vb_Model_nearest_9 kc kn kz ko kt kr fw fl fs ff fv fk fp fy fq fi fj fm (nI p) post _ (oI best) (nI least) (nI i)
      exact pk_le 192 i (fun _ => h) (fun g => absurd g (by omega))
    | succ n ih =>
      intro i best least h1 h2 h3
      show vb_Model_nearest_9 kc kn kz ko kt kr fw fl fs ff fv fk fp fy fq fi fj fm (nI p) post (v_Model_nearest_9 kc kn kz ko kt kr fw fl fs ff fv fk fp fy fq fi fj fm (nI p) post (n + 1)) (oI best) (nI least) (nI i)
      refine pk_le 192 i (fun g => absurd g (by omega)) (fun g => ?_)
      have d1 : nI i / 16 = nI (i / 16) := pk_div (d := 16) (by omega) (by omega) (by omega)
      have d2 : nI p / 16 = nI (p / 16) := pk_div (d := 16) (by omega) (by omega) (by omega)
      rw [d1, d2]
      have hd := ds_lt g (show p / 16 < 12 by omega)
      simp only [nr] at h3
      have main : v_Model_nearest_52 (v_Model_nearest_9 kc kn kz ko kt kr fw fl fs ff fv fk fp fy fq fi fj fm (nI p) post (n + 1)) (oI best) (nI least) (nI i) (nI (ds i (p / 16))) kc kn kz ko kt kr fw fl fs ff fv fk fp fy fq fi fj fm := by
        have skip : ¬ (ds i (p / 16) < least ∧ fb sc P np S nq i = true) → v_Model_nearest_75 (v_Model_nearest_9 kc kn kz ko kt kr fw fl fs ff fv fk fp fy fq fi fj fm (nI p) post (n + 1)) (oI best) (nI least) (nI i) := by
          intro e
          show v_Model_nearest_9 kc kn kz ko kt kr fw fl fs ff fv fk fp fy fq fi fj fm (nI p) post (n + 1) (oI best) (nI least) (nI i + 1)
          rw [nI_1]
          rw [if_neg e] at h3
          exact ih (i + 1) best least (by omega) h2 h3
        refine s_mIsFree r ok hfs g (fun e2 => ⟨fun _ => skip (fun z => e2 z.2), fun z => absurd rfl z⟩) (fun e2 => ⟨fun z => absurd z (by decide), fun _ => ?_⟩)
        refine pk_le least (ds i (p / 16)) (fun e => skip (fun z => by omega)) (fun e => ?_)
        show v_Model_nearest_9 kc kn kz ko kt kr fw fl fs ff fv fk fp fy fq fi fj fm (nI p) post (n + 1) (nI i) (nI (ds i (p / 16))) (nI i + 1)
        rw [nI_1]
        rw [if_pos ⟨e, e2⟩] at h3
        exact ih (i + 1) (some i) _ (by omega) (by omega) h3
      refine pk_le (i / 16) (p / 16) (fun w => ?_) (fun w => ?_)
      · rw [pk_sub w]
        have e : ds i (p / 16) = p / 16 - i / 16 := by
          unfold ds
          by_cases q : p / 16 ≤ i / 16
          · rw [if_pos q]; omega
          · rw [if_neg q]
        rw [← e]
        exact main
      · rw [pk_sub (by omega)]
        have e : ds i (p / 16) = i / 16 - p / 16 := by
          unfold ds
          rw [if_pos (by omega)]
        rw [← e]
        exact main
  exact ⟨177, K 176 16 none 100 (by omega) (by omega) hz⟩
theorem s_mWritesOne (hl : (-1 : Int32) ≤ kt) {post : Int32 → Int32 → Int32 → Int32 → Prop} (h0 : kt = 0 → post 0 1 kt kr) (h1 : ¬ kt = 0 → post 1 ko (nl kt) (kr + 1)) : v_Model_writesOne kc kn kz ko kt kr fw fl fs ff fv fk fp fy fq fi fj fm post := by
  refine ⟨fun e => ⟨fun g => ?_, fun g => ?_⟩, h0⟩
  · have h2 := h1 e
    rw [nl, if_pos (i32_m1 hl g e)] at h2
    exact h2
  · have h2 := h1 e
    rw [nl, if_neg (fun z => g (by rw [z]; decide))] at h2
    exact h2
end MO
