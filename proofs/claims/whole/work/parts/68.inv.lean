/-! PURE: the invariant that ties class and reference -/
def CInv (nh ah bh : Nat) (nv np nq : Int32) (di : Nat) (dz : Int32) (df : Nat → Int32) (ofv ol : Int32) (sc sl : Nat → Int32) (mk : Int32) (mo mp ml mi : Nat → Int32) (av ac ap aq : Int32) (af ag : Nat → Int32) (bv bc bp bq : Int32) (bf bg : Nat → Int32) (ve pa pb : Nat) (P F S : Nat → Nat) : Prop :=
  (nv = 0 ∧ np = 0 ∧ nq = 0) ∧ (dz = 0 ∨ dz = 1) ∧ (ofv = 0 ∨ ofv = 1) ∧ (-1 : Int32) ≤ ol ∧ (∀ i, i < 192 → df i = 0 ∨ df i = 1) ∧ (∀ i, i < 192 → sc i = 0 ∨ sc i = 1 ∨ sc i = 2) ∧ (∀ i, i < 384 → sl i = 0 ∨ sl i = 1) ∧ okL pa pb P F S ∧ (ve = 0 → pa = 0 ∧ pb = 0) ∧ mapR ve pa pb P F S mk mo mp ml mi ∧
  ((ve = 0 ∧ di = nh ∧ ac = 0 ∧ bc = 0) ∨ (ve % 2 = 1 ∧ di = ah ∧ lsR av ap aq af ag ve pa pb P F S ∧ ac = 1 ∧ (bc = 0 ∨ ∃ w, w < ve ∧ bv = nI w)) ∨ (ve % 2 = 0 ∧ ve ≠ 0 ∧ di = bh ∧ lsR bv bp bq bf bg ve pa pb P F S ∧ bc = 1 ∧ (ac = 0 ∨ ∃ w, w < ve ∧ av = nI w)))
def MInv (dn dz : Int32) (df : Nat → Int32) (ofv ol od : Int32) (sc sw sl : Nat → Int32) (kn kz ko kt kr : Int32) (fw fl fs ff fv fk fp fy fq fi fj : Nat → Int32) (ve pa pb : Nat) (P F S : Nat → Nat) : Prop :=
  kn = dn ∧ kz = dz ∧ ko = ofv ∧ kt = ol ∧ kr = od ∧ (∀ i, i < 192 → fs i = sc i) ∧ (∀ i, i < 192 → ff i = df i) ∧ (∀ i, i < 384 → fl i = sl i) ∧ (∀ i, i < 384 → sl i = 0 → fw i = sw i) ∧ rwR fv fp fy fq fi fj 0 ve pa pb P F S ∧ (ve = 0 → fk 1 = 0 ∧ fk 2 = 0) ∧
  (ve ≠ 0 → rwR fv fp fy fq fi fj (rc ve) ve pa pb P F S ∧ fk (rc ve) = 1 ∧ ∀ d, (d = 1 ∨ d = 2) → d ≠ rc ve → (fk d = 0 ∨ ∃ w, w < ve ∧ fv d = nI w))
def Inv (nh ah bh : Nat) (nv np nq : Int32) (B : Nat) (di : Nat) (dn dz : Int32) (df : Nat → Int32) (ofv ol od : Int32) (sc sw sl : Nat → Int32) (mk : Int32) (mo mp ml mi : Nat → Int32) (av ac ap aq : Int32) (af ag : Nat → Int32) (bv bc bp bq : Int32) (bf bg : Nat → Int32) (gv gp gq : Int32) (gf gg : Nat → Int32) (kc kn kz ko kt kr : Int32) (fw fl fs ff fv fk fp fy fq fi fj fm : Nat → Int32) (fo : Nat → Int64) : Prop := ∃ (ve pa pb : Nat) (P F S : Nat → Nat), ve ≤ B ∧ CInv nh ah bh nv np nq di dz df ofv ol sc sl mk mo mp ml mi av ac ap aq af ag bv bc bp bq bf bg ve pa pb P F S ∧ MInv dn dz df ofv ol od sc sw sl kn kz ko kt kr fw fl fs ff fv fk fp fy fq fi fj ve pa pb P F S
theorem CInv.di {nh ah bh : Nat} {nv np nq : Int32} {di : Nat} {dz : Int32} {df : Nat → Int32} {ofv ol : Int32} {sc sl : Nat → Int32} {mk : Int32} {mo mp ml mi : Nat → Int32} {av ac ap aq : Int32} {af ag : Nat → Int32} {bv bc bp bq : Int32} {bf bg : Nat → Int32} {ve pa pb : Nat} {P F S : Nat → Nat} (h : CInv nh ah bh nv np nq di dz df ofv ol sc sl mk mo mp ml mi av ac ap aq af ag bv bc bp bq bf bg ve pa pb P F S) : di = nh ∨ di = ah ∨ di = bh := by
  obtain ⟨-, -, -, -, -, -, -, -, -, -, h⟩ := h
  rcases h with h | h | h
  · exact Or.inl h.2.1
  · exact Or.inr (Or.inl h.2.1)
  · exact Or.inr (Or.inr h.2.2.1)
theorem fin {nh ah bh : Nat} {nv np nq : Int32} {B : Nat} {K23 : Int32 → Nat → Int32 → Int32 → (Nat → Int32) → Int32 → Int32 → Int32 → (Nat → Int32) → (Nat → Int32) → (Nat → Int32) → Int32 → (Nat → Int32) → (Nat → Int32) → (Nat → Int32) → (Nat → Int32) → Int32 → Int32 → Int32 → Int32 → (Nat → Int32) → (Nat → Int32) → Int32 → Int32 → Int32 → Int32 → (Nat → Int32) → (Nat → Int32) → Int32 → Int32 → Int32 → (Nat → Int32) → (Nat → Int32) → Int32 → Int32 → Int32 → Int32 → Int32 → Int32 → (Nat → Int32) → (Nat → Int32) → (Nat → Int32) → (Nat → Int32) → (Nat → Int32) → (Nat → Int32) → (Nat → Int32) → (Nat → Int32) → (Nat → Int32) → (Nat → Int32) → (Nat → Int32) → (Nat → Int32) → (Nat → Int64) → Prop} {x4 : Int32} (hK : ∀ (di : Nat) (dn dz : Int32) (df : Nat → Int32) (ofv ol od : Int32) (sc sw sl : Nat → Int32) (mk : Int32) (mo mp ml mi : Nat → Int32) (av ac ap aq : Int32) (af ag : Nat → Int32) (bv bc bp bq : Int32) (bf bg : Nat → Int32) (gv gp gq : Int32) (gf gg : Nat → Int32) (kc kn kz ko kt kr : Int32) (fw fl fs ff fv fk fp fy fq fi fj fm : Nat → Int32) (fo : Nat → Int64), Inv nh ah bh nv np nq B di dn dz df ofv ol od sc sw sl mk mo mp ml mi av ac ap aq af ag bv bc bp bq bf bg gv gp gq gf gg kc kn kz ko kt kr fw fl fs ff fv fk fp fy fq fi fj fm fo → K23 (x4 + 4) di dn dz df ofv ol od sc sw sl mk mo mp ml mi av ac ap aq af ag bv bc bp bq bf bg gv gp gq gf gg kc kn kz ko kt kr fw fl fs ff fv fk fp fy fq fi fj fm fo) {di : Nat} {dn dz : Int32} {df : Nat → Int32} {ofv ol od : Int32} {sc sw sl : Nat → Int32} {mk : Int32} {mo mp ml mi : Nat → Int32} {av ac ap aq : Int32} {af ag : Nat → Int32} {bv bc bp bq : Int32} {bf bg : Nat → Int32} {gv gp gq : Int32} {gf gg : Nat → Int32} {kc kn kz ko kt kr : Int32} {fw fl fs ff fv fk fp fy fq fi fj fm : Nat → Int32} {fo : Nat → Int64} (h : Inv nh ah bh nv np nq B di dn dz df ofv ol od sc sw sl mk mo mp ml mi av ac ap aq af ag bv bc bp bq bf bg gv gp gq gf gg kc kn kz ko kt kr fw fl fs ff fv fk fp fy fq fi fj fm fo) : v_law_law_1030 K23 x4 di dn dz df ofv ol od sc sw sl mk mo mp ml mi av ac ap aq af ag bv bc bp bq bf bg gv gp gq gf gg kc kn kz ko kt kr fw fl fs ff fv fk fp fy fq fi fj fm fo nh ah bh := by
  have h1 := h
  obtain ⟨ve, pa, pb, P, F, S, -, hc, -⟩ := h1
  exact ⟨hc.di, hK _ _ _ _ _ _ _ _ _ _ _ _ _ _ _ _ _ _ _ _ _ _ _ _ _ _ _ _ _ _ _ _ _ _ _ _ _ _ _ _ _ _ _ _ _ _ _ _ _ _ _ h⟩
theorem cm_t {J X : Prop} {c k : Int32} (hk : ¬ k = 0) (e : c = k) (h : J) : (c = k → ((¬ k = 0 → J) ∧ (k = 0 → X))) ∧ (¬ c = k → False) := ⟨fun _ => ⟨fun _ => h, fun z => absurd z hk⟩, fun z => z e⟩
theorem cm_r {J : Prop} {fo : Nat → Int64} {x y c : Int32} (e : y = x) (ec : c = 0) (h : J) : (c = 0 → ((¬ (0 : Int32) = 0 → J) ∧ ((0 : Int32) = 0 → (vp_in 0 1 ∧ (((lg_cmp (vp_updL fo (0 : Int32).toNatClampNeg x.toInt64 (0 : Int32).toNatClampNeg) y.toInt64) = 0 → J) ∧ (¬ (lg_cmp (vp_updL fo (0 : Int32).toNatClampNeg x.toInt64 (0 : Int32).toNatClampNeg) y.toInt64) = 0 → False)))))) ∧ (¬ c = 0 → False) := by
  refine ⟨fun _ => ⟨fun _ => h, fun _ => ⟨(vp_in_nI (n := 0) (by omega) (by omega) : vp_in (nI 0) 1), fun _ => h, fun z => z ?_⟩⟩, fun z => z ec⟩
  rw [pk_uLs, e]
  simp [lg_cmp]
theorem in01 : vp_in 0 1 := (vp_in_nI (n := 0) (by omega) (by omega) : vp_in (nI 0) 1)
theorem sec_ix {p : Int32} (h1 : ¬ p < 0) (h2 : ¬ 192 ≤ p) : ∃ k, k < 192 ∧ p = nI k := by
  rcases pk_ix p (show 192 < 2 ^ 31 by omega) with e | e | e
  · exact absurd e h1
  · exact absurd e h2
  · exact e
theorem wrd_ix {p : Int32} (h1 : ¬ p < 0) (h2 : ¬ 2 ≤ p) : ∃ k, k < 2 ∧ p = nI k := by
  rcases pk_ix p (show 2 < 2 ^ 31 by omega) with e | e | e
  · exact absurd e h1
  · exact absurd e h2
  · exact e
theorem ix2' (s i : Nat) : (2 : Int32) * nI s + nI i = nI (2 * s + i) := by
  rw [show (2 : Int32) = nI 2 from rfl, pk_mul, nI_add]
theorem upd_of {f g : Nat → Int32} {n k : Nat} {x : Int32} (h : ∀ i, i < n → f i = g i) : ∀ i, i < n → upd f k x i = upd g k x i := fun i hi => by
  by_cases e : i = k
  · rw [e, pk_us, pk_us]
  · rw [pk_un e, pk_un e]; exact h i hi
theorem upd_P {f : Nat → Int32} {n k : Nat} {x : Int32} {p : Int32 → Prop} (h : ∀ i, i < n → p (f i)) (hx : p x) : ∀ i, i < n → p (upd f k x i) := fun i hi => by
  by_cases e : i = k
  · rw [e, pk_us]; exact hx
  · rw [pk_un e]; exact h i hi
