/-! PURE: the calls, class and reference -/
theorem pm1 {n : Nat} (h : n < 2 ^ 31) (p : Int32) : (nI n - 1 < p) ↔ ¬ p < nI n := by
  rcases n with _ | m
  · rw [show nI 0 - 1 = (-1 : Int32) from by decide, nI_0, Int32.lt_iff_toInt_lt, Int32.lt_iff_toInt_lt, show (-1 : Int32).toInt = -1 from by decide, show (0 : Int32).toInt = 0 from by decide]
    omega
  · rw [nI_pred, Int32.lt_iff_toInt_lt, Int32.lt_iff_toInt_lt, nI_toInt (by omega), nI_toInt h]
    omega
theorem lt_ix {p : Int32} {n : Nat} (h1 : ¬ p < 0) (h2 : p < nI n) (hn : n < 2 ^ 31) : ∃ k, k < n ∧ p = nI k := by
  rcases pk_ix p hn with e | e | e
  · exact absurd e h1
  · exact absurd h2 (Int32.not_lt.mpr e)
  · exact e
theorem nI_inj {a b : Nat} (ha : a < 2 ^ 31) (hb : b < 2 ^ 31) (h : nI a = nI b) : a = b := by
  have := congrArg Int32.toNatClampNeg h
  rw [nI_clamp ha, nI_clamp hb] at this
  exact this
theorem inF {nh ah bh : Nat} {nv np nq : Int32} {nf ng : Nat → Int32} {di : Nat} {dz : Int32} {df : Nat → Int32} {ofv ol : Int32} {sc sl : Nat → Int32} {mk : Int32} {mo mp ml mi : Nat → Int32} {av ac ap aq : Int32} {af ag : Nat → Int32} {bv bc bp bq : Int32} {bf bg : Nat → Int32} {ve pa pb : Nat} {P F S : Nat → Nat} (hd : nh ≠ ah ∧ nh ≠ bh ∧ ah ≠ bh) (h : CInv nh ah bh nv np nq di dz df ofv ol sc sl mk mo mp ml mi av ac ap aq af ag bv bc bp bq bf bg ve pa pb P F S) :
    (di = nh → ve = 0 ∧ lsR nv np nq nf ng ve pa pb P F S) ∧ (di = ah → ve % 2 = 1 ∧ lsR av ap aq af ag ve pa pb P F S) ∧ (di = bh → ve % 2 = 0 ∧ ve ≠ 0 ∧ lsR bv bp bq bf bg ve pa pb P F S) := by
  obtain ⟨⟨n1, n2, n3⟩, -, -, -, -, -, -, -, c00, -, h⟩ := h
  obtain ⟨d1, d2, d3⟩ := hd
  rcases h with ⟨h1, h2, -⟩ | ⟨h1, h2, h3, -⟩ | ⟨h1, h2, h3, h4, -⟩
  · refine ⟨fun _ => ⟨h1, ?_⟩, fun e => absurd (h2.symm.trans e) d1, fun e => absurd (h2.symm.trans e) d2⟩
    obtain ⟨a, b⟩ := c00 h1
    subst a b h1
    exact ⟨n1, n2, n3, fun k hk => absurd hk (by omega), fun k hk => absurd hk (by omega)⟩
  · exact ⟨fun e => absurd (h2.symm.trans e).symm d1, fun _ => ⟨h1, h3⟩, fun e => absurd (h2.symm.trans e) d3⟩
  · exact ⟨fun e => absurd (h3.symm.trans e).symm d2, fun e => absurd (h3.symm.trans e).symm d3, fun _ => ⟨h1, h2, h4⟩⟩
theorem has_s {ve pa j : Nat} {P : Nat → Nat} (h : j < cp ve P pa) : ∃ s, s < 192 ∧ lg P pa s = true ∧ ct P pa s = j ∧ ve ≠ 0 ∧ j < 143 := by
  unfold cp at h
  by_cases e : ve = 0
  · rw [if_pos e] at h; omega
  · rw [if_neg e] at h
    obtain ⟨s, h1, h2, h3⟩ := ct_surj P pa j 192 h
    exact ⟨s, h1, h2, h3, e, Nat.lt_of_lt_of_le h (ct_le_143 P pa (Nat.le_refl _))⟩
theorem has_c {ve pa s : Nat} {P : Nat → Nat} (hv : ve ≠ 0) (hs : s < 192) (hl : lg P pa s = true) : ct P pa s < cp ve P pa := by
  unfold cp
  rw [if_neg hv]
  exact ct_lt P pa hs hl
theorem s_lPrimary {xv xc xp xq : Int32} {xf xg : Nat → Int32} {ver np nq : Nat} {P F S : Nat → Nat} (r : lsR xv xp xq xf xg ver np nq P F S) (ok : okL np nq P F S) {dn dz : Int32} {df : Nat → Int32} {fo : Nat → Int64} {p0 : Int32} {post : Int32 → (Nat → Int64) → Prop} (h1 : (p0 < 0 ∨ ¬ p0 < nI np) → post 1 fo) (h0 : ∀ k, k < np → p0 = nI k → post 0 (vp_updL fo (0 : Int32).toNatClampNeg (nI (P k)).toInt64)) : v_law_primary dn dz df xv xc xp xq xf xg fo p0 post := by
  obtain ⟨-, rfl, rfl, r1, r2⟩ := r
  obtain ⟨o1, o2, -⟩ := ok
  refine ⟨fun w => ⟨rfl, h1 (Or.inl w)⟩, fun w => ⟨fun w2 => ?_, fun w2 => ⟨rfl, h1 (Or.inr w2)⟩⟩⟩
  obtain ⟨k, hk, rfl⟩ := lt_ix w w2 (by omega)
  refine ⟨vp_in_nI (by omega) (by omega), in01, ?_⟩
  rw [nI_clamp (by omega), r1 k hk]
  exact h0 k hk rfl
theorem s_lGrown {xv xc xp xq : Int32} {xf xg : Nat → Int32} {ver np nq : Nat} {P F S : Nat → Nat} (r : lsR xv xp xq xf xg ver np nq P F S) (ok : okL np nq P F S) {dn dz : Int32} {df : Nat → Int32} {fo : Nat → Int64} {p0 p1 : Int32} {post : Int32 → (Nat → Int64) → Prop} (h1 : (p0 < 0 ∨ ¬ p0 < nI nq) → post 1 fo) (h0 : ∀ k, k < nq → p0 = nI k → (p1 = 0 → post 0 (vp_updL fo (0 : Int32).toNatClampNeg (nI (F k)).toInt64)) ∧ (¬ p1 = 0 → post 0 (vp_updL fo (0 : Int32).toNatClampNeg (nI (S k)).toInt64))) : v_law_grown dn dz df xv xc xp xq xf xg fo p0 p1 post := by
  obtain ⟨-, rfl, rfl, r1, r2⟩ := r
  obtain ⟨o1, o2, -⟩ := ok
  refine ⟨fun w => ⟨rfl, h1 (Or.inl w)⟩, fun w => ⟨fun w2 => ?_, fun w2 => ⟨rfl, h1 (Or.inr w2)⟩⟩⟩
  obtain ⟨k, hk, rfl⟩ := lt_ix w w2 (by omega)
  rw [nI_add, nI_clamp (by omega), (r2 k hk).1, (r2 k hk).2]
  exact ⟨fun e => ⟨vp_in_nI (by omega) (by omega), in01, (h0 k hk rfl).1 e⟩, fun e => ⟨vp_in_nI (by omega) (by omega), in01, (h0 k hk rfl).2 e⟩⟩
section MC
variable {kc kn kz ko kt kr : Int32} {fw fl fs ff fv fk fp fy fq fi fj fm : Nat → Int32} {ver np nq : Nat} {P F S : Nat → Nat}
theorem s_mPrimary0 (r : moR fv fp fy fq fi fj ver np nq P F S) (ok : okL np nq P F S) {p0 : Int32} {post : Int32 → Int32 → Prop} (w : p0 < 0 ∨ ¬ p0 < nI np) (h : post 0 1) : v_Model_primary kc kn kz ko kt kr fw fl fs ff fv fk fp fy fq fi fj fm p0 post := by
  refine ⟨in04, ?_⟩
  rw [sb_cl0, r.2.1]
  have o1 := ok.1
  refine s_mIn (fun _ => ⟨fun _ => ⟨fun z => absurd z (by decide), fun _ => h⟩, fun z => absurd rfl z⟩) (fun a b => ?_)
  rcases w with w | w
  · exact absurd w a
  · exact absurd ((pm1 (by omega) p0).mpr w) b
theorem s_mPrimary1 (r : moR fv fp fy fq fi fj ver np nq P F S) (ok : okL np nq P F S) {k : Nat} (hk : k < np) {post : Int32 → Int32 → Prop} (h : post (nI (P k)) 0) : v_Model_primary kc kn kz ko kt kr fw fl fs ff fv fk fp fy fq fi fj fm (nI k) post := by
  refine ⟨in04, ?_⟩
  rw [sb_cl0, r.2.1]
  have o1 := ok.1
  refine s_mIn (fun w => ?_) (fun a b => ⟨fun z => absurd z (by decide), fun _ => ⟨fun _ => ⟨vp_in_nI (by omega) (by omega), ?_⟩, fun z => absurd (by decide) z⟩⟩)
  · rcases w with w | w
    · exact absurd w (nI_pos (by omega))
    · exact absurd (nI_lt hk (by omega)) ((pm1 (by omega) _).mp w)
  · rw [nI_clamp (by omega), r.2.2.2.1 k hk]; exact h
theorem s_mGrown0 (r : moR fv fp fy fq fi fj ver np nq P F S) (ok : okL np nq P F S) {p0 p1 : Int32} {post : Int32 → Int32 → Prop} (w : p0 < 0 ∨ ¬ p0 < nI nq) (h : post 0 1) : v_Model_grown kc kn kz ko kt kr fw fl fs ff fv fk fp fy fq fi fj fm p0 p1 post := by
  refine ⟨in04, ?_⟩
  rw [sb_cl0, r.2.2.1]
  have o1 := ok.1
  refine s_mIn (fun _ => ⟨fun _ => ⟨fun z => absurd z (by decide), fun _ => h⟩, fun z => absurd rfl z⟩) (fun a b => ?_)
  rcases w with w | w
  · exact absurd w a
  · exact absurd ((pm1 (by omega) p0).mpr w) b
theorem s_mGrown1 (r : moR fv fp fy fq fi fj ver np nq P F S) (ok : okL np nq P F S) {k : Nat} (hk : k < nq) {p1 : Int32} {post : Int32 → Int32 → Prop} (h1 : p1 = 0 → post (nI (F k)) 0) (h2 : ¬ p1 = 0 → post (nI (S k)) 0) : v_Model_grown kc kn kz ko kt kr fw fl fs ff fv fk fp fy fq fi fj fm (nI k) p1 post := by
  refine ⟨in04, ?_⟩
  rw [sb_cl0, r.2.2.1]
  have o1 := ok.1
  have o2 := ok.2.1
  have r2 := r.2.2.2.2 k hk
  refine s_mIn (fun w => ?_) (fun a b => ⟨fun z => absurd z (by decide), fun _ => ⟨fun _ => ⟨fun e => ⟨vp_in_nI (by omega) (by omega), ?_⟩, fun e => ⟨vp_in_nI (by omega) (by omega), ?_⟩⟩, fun z => absurd (by decide) z⟩⟩)
  · rcases w with w | w
    · exact absurd w (nI_pos (by omega))
    · exact absurd (nI_lt hk (by omega)) ((pm1 (by omega) _).mp w)
  · rw [nI_clamp (by omega), r2.1]; exact h1 e
  · rw [nI_clamp (by omega), r2.2]; exact h2 e
theorem s_mHas0 (r : moR fv fp fy fq fi fj ver np nq P F S) (ok : okL np nq P F S) (hver : ver < 2 ^ 31) {p0 : Int32} (w : ∀ j, j < cp ver P np → p0 ≠ nI j) {post : Int32 → Prop} (h : post 0) : v_Model_hasLogical kc kn kz ko kt kr fw fl fs ff fv fk fp fy fq fi fj fm p0 post :=
  s_mHas r ok hver (fun _ => h) (fun j hj e => absurd e (w j hj))
theorem s_mHas1 (r : moR fv fp fy fq fi fj ver np nq P F S) (ok : okL np nq P F S) (hver : ver < 2 ^ 31) {j : Nat} (hj : j < cp ver P np) {post : Int32 → Prop} (h : post 1) : v_Model_hasLogical kc kn kz ko kt kr fw fl fs ff fv fk fp fy fq fi fj fm (nI j) post :=
  s_mHas r ok hver (fun w => absurd rfl (w j hj)) (fun _ _ _ => h)
/-- the reference's search for the number of a sector -/
theorem s_mLogical (r : moR fv fp fy fq fi fj ver np nq P F S) (ok : okL np nq P F S) (hver : ver < 2 ^ 31) {p : Nat} (hp : p < 192) {post : Int32 → Int32 → Prop} (h1 : ∀ s, s < 192 → ver ≠ 0 → lg P np s = true → pl F S nq s = p → post (nI (ct P np s)) 0) (h0 : (∀ s, s < 192 → ver ≠ 0 → lg P np s = true → pl F S nq s ≠ p) → post (-1) 0) : v_Model_logical kc kn kz ko kt kr fw fl fs ff fv fk fp fy fq fi fj fm (nI p) post := by
  have hc := cp_le ver P np
  refine s_mIsSector (fun w => ?_) (fun _ _ => ⟨fun z => absurd z (by decide), fun _ => ⟨fun _ => ?_, fun z => absurd (by decide) z⟩⟩)
  · rcases w with w | w
    · exact absurd w (nI_pos (by omega))
    · exact absurd w (nI_ge (b := 192) hp (by omega))
  · refine s_mCapacity r ok hver ?_
    have K : ∀ (n i : Nat) (x : Int32), i ≤ cp ver P np → cp ver P np < i + n → ((∃ s, s < 192 ∧ ver ≠ 0 ∧ lg P np s = true ∧ pl F S nq s = p ∧ ct P np s < i ∧ x = nI (ct P np s)) ∨ ((∀ s, s < 192 → ver ≠ 0 → lg P np s = true → ct P np s < i → pl F S nq s ≠ p) ∧ x = -1)) → v_Model_logical_35 (nI (cp ver P np)) 0 kn kz ko kt kr fw fl fs ff fv fk fp fy fq fi fj fm (nI p) post n x (nI i) := by
      intro n
      induction n with
      | zero => intro i x h2 h3; omega
      | succ n ih =>
        intro i x h2 h3 hx
        show vb_Model_logical_35 (nI (cp ver P np)) 0 kn kz ko kt kr fw fl fs ff fv fk fp fy fq fi fj fm (nI p) post (v_Model_logical_35 (nI (cp ver P np)) 0 kn kz ko kt kr fw fl fs ff fv fk fp fy fq fi fj fm (nI p) post n) x (nI i)
        refine pk_le (cp ver P np) i (fun w => ?_) (fun w => ?_)
        · have hi : i = cp ver P np := by omega
          rcases hx with ⟨s, s1, s2, s3, s4, s5, rfl⟩ | ⟨q, rfl⟩
          · exact h1 s s1 s2 s3 s4
          · exact h0 (fun s s1 s2 s3 => q s s1 s2 s3 (by rw [hi]; exact has_c s2 s1 s3))
        · obtain ⟨t, t1, t2, t3, t4, t5⟩ := has_s (show i < cp ver P np by omega)
          subst t3
          refine s_mPlaceOf r ok t1 t2 ?_
          have hd := pl_data ok t1 t2
          refine ⟨fun e => ?_, fun e => ?_⟩
          · show v_Model_logical_35 (nI (cp ver P np)) 0 kn kz ko kt kr fw fl fs ff fv fk fp fy fq fi fj fm (nI p) post n x (nI (ct P np t) + 1)
            rw [nI_1]
            refine ih _ _ (by omega) (by omega) ?_
            rcases hx with ⟨s, s1, s2, s3, s4, s5, s6⟩ | ⟨q, q2⟩
            · exact Or.inl ⟨s, s1, s2, s3, s4, by omega, s6⟩
            · refine Or.inr ⟨fun s s1 s2 s3 s4 s5 => ?_, q2⟩
              by_cases e2 : ct P np s < ct P np t
              · exact q s s1 s2 s3 e2 s5
              · have e3 : s = t := ct_inj P np s3 t2 (by omega)
                subst e3
                exact e (by rw [s5])
          · show v_Model_logical_35 (nI (cp ver P np)) 0 kn kz ko kt kr fw fl fs ff fv fk fp fy fq fi fj fm (nI p) post n (nI (ct P np t)) (nI (ct P np t) + 1)
            rw [nI_1]
            exact ih _ _ (by omega) (by omega) (Or.inl ⟨t, t1, t4, t2, nI_inj (by omega) (by omega) e, by omega, rfl⟩)
    exact ⟨cp ver P np + 1, K _ 0 _ (by omega) (by omega) (Or.inr ⟨fun s _ _ _ z => absurd z (by omega), rfl⟩)⟩
end MC
