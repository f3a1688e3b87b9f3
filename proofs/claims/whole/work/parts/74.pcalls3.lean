/-! PURE: the calls that count -/
theorem fb_13 {sc : Nat → Int32} {P S : Nat → Nat} {np nq s : Nat} (h : fb sc P np S nq s = true) : 16 ≤ s ∧ 13 ≤ s % 16 := by
  simp only [fb, Bool.and_eq_true, decide_eq_true_eq] at h
  exact ⟨h.1, h.2.1⟩
theorem kt_flat (b : Nat → Bool) (a : Nat) : ∀ k, (∀ i, i < k → b (a + i) = false) → kt b (a + k) = kt b a := by
  intro k
  induction k with
  | zero => intro _; rfl
  | succ k ih =>
    intro h
    have e := h k (by omega)
    rw [← Nat.add_assoc]
    simp only [kt, e]
    exact ih (fun i hi => h i (by omega))
theorem kt_13 {sc : Nat → Int32} {P S : Nat → Nat} {np nq c : Nat} : kt (fb sc P np S nq) (16 * c + 13) = kt (fb sc P np S nq) (16 * c) := by
  refine kt_flat _ _ 13 (fun i hi => ?_)
  cases e : fb sc P np S nq (16 * c + i) with
  | false => rfl
  | true => have := fb_13 e; omega
theorem s_lSpares {dn dz : Int32} {df sc sw sl : Nat → Int32} {ver np nq : Nat} {P F S : Nat → Nat} {mk : Int32} {mo mp ml mi : Nat → Int32} (m : mapR ver np nq P F S mk mo mp ml mi) (ok : okL np nq P F S) (h00 : ver = 0 → nq = 0) {fo : Nat → Int64} {p0 : Int32} {post : Int32 → (Nat → Int64) → Prop} (h1 : (p0 < 1 ∨ ¬ p0 < 12) → post 1 fo) (h0 : ∀ c, 1 ≤ c → c < 12 → p0 = nI c → post 0 (vp_updL fo (0 : Int32).toNatClampNeg (nI (kt (fb sc P np S nq) (16 * c + 16) - kt (fb sc P np S nq) (16 * c))).toInt64)) : v_law_spares dn dz df sc sw sl mk mo mp ml mi fo p0 post := by
  unfold v_law_spares v_DefectDrive_spares
  refine ⟨fun w => ⟨rfl, h1 (Or.inl w)⟩, fun w => ⟨fun w2 => ?_, fun w2 => ⟨rfl, h1 (Or.inr w2)⟩⟩⟩
  have w0 : ¬ p0 < 0 := fun z => w (Int32.lt_of_lt_of_le z (by decide))
  obtain ⟨c, hc, rfl⟩ := lt_ix w0 (n := 12) w2 (by omega)
  have hc1 : 1 ≤ c := by
    rcases Nat.eq_zero_or_pos c with e | e
    · subst e; exact absurd (by decide) w
    · exact e
  have hh := h0 c hc1 hc rfl
  have e1 : (nI c + 1) * 16 = nI (16 * c + 16) := by rw [nI_1, show (16 : Int32) = nI 16 from rfl, pk_mul]; congr 1; omega
  have e2 : nI c * 16 + 13 = nI (16 * c + 13) := by rw [show (16 : Int32) = nI 16 from rfl, pk_mul, show (13 : Int32) = nI 13 from rfl, nI_add]; congr 1; omega
  rw [e1, e2]
  generalize hpost : (fun r_1 : Int32 => (vp_in 0 1 ∧ post 0 (vp_updL fo (0 : Int32).toNatClampNeg r_1.toInt64))) = Q
  have hQ : Q (nI (kt (fb sc P np S nq) (16 * c + 16) - kt (fb sc P np S nq) (16 * c))) := by rw [← hpost]; exact ⟨in01, hh⟩
  have K : ∀ n i, 16 * c + 13 ≤ i → i ≤ 16 * c + 16 → 16 * c + 16 < i + n → v_DefectDrive_spares_40 (nI (16 * c + 16)) dn dz df sc sw sl mk mo mp ml mi Q n (nI (kt (fb sc P np S nq) i - kt (fb sc P np S nq) (16 * c))) (nI i) := by
    intro n
    induction n with
    | zero => intro i h2 h3 h4; omega
    | succ n ih =>
      intro i h2 h3 h4
      show vb_DefectDrive_spares_40 (nI (16 * c + 16)) dn dz df sc sw sl mk mo mp ml mi Q (v_DefectDrive_spares_40 (nI (16 * c + 16)) dn dz df sc sw sl mk mo mp ml mi Q n) (nI (kt (fb sc P np S nq) i - kt (fb sc P np S nq) (16 * c))) (nI i)
      have hm := kt_mono (fb sc P np S nq) (show 16 * c ≤ i by omega)
      refine pk_le (16 * c + 16) i (fun w => ?_) (fun w => ?_)
      · rw [show i = 16 * c + 16 by omega]; exact hQ
      · refine s_isFreeSpare m ok h00 (by omega) (fun e => ⟨fun _ => ?_, fun z => absurd rfl z⟩) (fun e => ⟨fun z => absurd z (by decide), fun _ => ?_⟩)
        · show v_DefectDrive_spares_40 (nI (16 * c + 16)) dn dz df sc sw sl mk mo mp ml mi Q n (nI (kt (fb sc P np S nq) i - kt (fb sc P np S nq) (16 * c))) (nI i + 1)
          have e3 : kt (fb sc P np S nq) (i + 1) = kt (fb sc P np S nq) i := by simp only [kt, if_neg e]; rfl
          rw [nI_1, ← e3]
          exact ih (i + 1) (by omega) (by omega) (by omega)
        · show v_DefectDrive_spares_40 (nI (16 * c + 16)) dn dz df sc sw sl mk mo mp ml mi Q n (nI (kt (fb sc P np S nq) i - kt (fb sc P np S nq) (16 * c)) + 1) (nI i + 1)
          have e3 : kt (fb sc P np S nq) (i + 1) = kt (fb sc P np S nq) i + 1 := by simp only [kt, if_pos e]
          rw [nI_1, nI_1, show kt (fb sc P np S nq) i - kt (fb sc P np S nq) (16 * c) + 1 = kt (fb sc P np S nq) (i + 1) - kt (fb sc P np S nq) (16 * c) by omega]
          exact ih (i + 1) (by omega) (by omega) (by omega)
  have k0 := K 4 (16 * c + 13) (by omega) (by omega) (by omega)
  rw [kt_13, Nat.sub_self] at k0
  exact ⟨4, k0⟩
/-- how often the head moves over k steps from a -/
def sq (g : Nat → Nat) (a : Nat) : Nat → Nat
  | 0 => 0
  | k + 1 => sq g a k + (if g (a + k) / 16 = g (a + k + 1) / 16 then 0 else 1)
theorem sq_le (g : Nat → Nat) (a k : Nat) : sq g a k ≤ k := by
  induction k with
  | zero => exact Nat.le_refl _
  | succ k ih =>
    simp only [sq]
    by_cases e : g (a + k) / 16 = g (a + k + 1) / 16
    · rw [if_pos e]; omega
    · rw [if_neg e]; omega
theorem s_lSeeks {mp : Nat → Int32} {g : Nat → Nat} {c a d : Nat} (hc : c ≤ 143) (hg : ∀ j, j < c → mp j = nI (g j) ∧ g j < 192) (hd : 1 ≤ d) (ha : a + d ≤ c) {post : Int32 → Prop} (h : post (nI (sq g a (d - 1)))) : ∃ n, v_DefectDrive_seeks_44 mp (nI a) (nI d) post n 0 (nI a + 1) := by
  have K : ∀ n k, k + 1 ≤ d → d < k + 1 + n → v_DefectDrive_seeks_44 mp (nI a) (nI d) post n (nI (sq g a k)) (nI (a + k + 1)) := by
    intro n
    induction n with
    | zero => intro k h2 h3; omega
    | succ n ih =>
      intro k h2 h3
      show vb_DefectDrive_seeks_44 mp (nI a) (nI d) post (v_DefectDrive_seeks_44 mp (nI a) (nI d) post n) (nI (sq g a k)) (nI (a + k + 1))
      unfold vb_DefectDrive_seeks_44
      rw [nI_add]
      refine pk_le (a + d) (a + k + 1) (fun w => ?_) (fun w => ?_)
      · rw [show k = d - 1 by omega]; exact h
      · have g1 := hg (a + k) (by omega)
        have g2 := hg (a + k + 1) (by omega)
        rw [nI_pred, nI_clamp (by omega), nI_clamp (by omega), g1.1, g2.1]
        refine ⟨vp_in_nI (by omega) (by omega), s_cylinderOf g1.2 ⟨vp_in_nI (by omega) (by omega), s_cylinderOf g2.2 ?_⟩⟩
        refine pk_eq (g (a + k) / 16) (g (a + k + 1) / 16) (fun e => ?_) (fun e => ?_)
        · show v_DefectDrive_seeks_44 mp (nI a) (nI d) post n (nI (sq g a k)) (nI (a + k + 1) + 1)
          have e3 : sq g a (k + 1) = sq g a k := by simp only [sq, if_pos e]; rfl
          rw [nI_1, ← e3]
          exact ih (k + 1) (by omega) (by omega)
        · show v_DefectDrive_seeks_44 mp (nI a) (nI d) post n (nI (sq g a k) + 1) (nI (a + k + 1) + 1)
          have e3 : sq g a (k + 1) = sq g a k + 1 := by simp only [sq, if_neg e]
          rw [nI_1, nI_1, ← e3]
          exact ih (k + 1) (by omega) (by omega)
  rw [nI_1]
  exact ⟨d, K d 0 (by omega) (by omega)⟩
section ME
variable {kc kn kz ko kt' kr : Int32} {fw fl fs ff fv fk fp fy fq fi fj fm : Nat → Int32} {ver np nq : Nat} {P F S : Nat → Nat}
theorem s_mSpares0 {p0 : Int32} (w : p0 < 1 ∨ ¬ p0 < 12) {post : Int32 → Int32 → Prop} (h : post 0 1) : v_Model_spares kc kn kz ko kt' kr fw fl fs ff fv fk fp fy fq fi fj fm p0 post := by
  refine s_mIn (fun _ => ⟨fun _ => ⟨1, fun _ => h, fun z => absurd z (by decide)⟩, fun z => absurd rfl z⟩) (fun a b => ?_)
  rcases w with w | w
  · exact absurd w a
  · exact absurd ((pm1 (n := 12) (by omega) p0).mpr w) b
theorem s_mSpares1 (r : moR fv fp fy fq fi fj ver np nq P F S) (ok : okL np nq P F S) {sc : Nat → Int32} (hfs : ∀ i, i < 192 → fs i = sc i) {c : Nat} (h1 : 1 ≤ c) (h2 : c < 12) {post : Int32 → Int32 → Prop} (h : post (nI (kt (fb sc P np S nq) (16 * c + 16) - kt (fb sc P np S nq) (16 * c))) 0) : v_Model_spares kc kn kz ko kt' kr fw fl fs ff fv fk fp fy fq fi fj fm (nI c) post := by
  refine s_mIn (fun w => ?_) (fun _ _ => ⟨fun z => absurd z (by decide), fun _ => ?_⟩)
  · rcases w with w | w
    · exact absurd w (nI_nlt (b := 1) h1 (by omega))
    · exact absurd w (nI_nlt (a := 11) (by omega) (by omega))
  · have e0 : (16 : Int32) * nI c = nI (16 * c) := pk_mul 16 c
    have K : ∀ n i, 16 * c ≤ i → i ≤ 16 * c + 16 → 16 * c + 16 < i + n → v_Model_spares_26 0 kn kz ko kt' kr fw fl fs ff fv fk fp fy fq fi fj fm (nI c) post n (nI (kt (fb sc P np S nq) i - kt (fb sc P np S nq) (16 * c))) (nI i) := by
      intro n
      induction n with
      | zero => intro i h2 h3 h4; omega
      | succ n ih =>
        intro i h2 h3 h4
        show vb_Model_spares_26 0 kn kz ko kt' kr fw fl fs ff fv fk fp fy fq fi fj fm (nI c) post (v_Model_spares_26 0 kn kz ko kt' kr fw fl fs ff fv fk fp fy fq fi fj fm (nI c) post n) (nI (kt (fb sc P np S nq) i - kt (fb sc P np S nq) (16 * c))) (nI i)
        have hm := kt_mono (fb sc P np S nq) (show 16 * c ≤ i by omega)
        unfold vb_Model_spares_26
        rw [e0, show (16 : Int32) = nI 16 from rfl, nI_add]
        refine ⟨fun z => absurd rfl z, fun _ => pk_le (16 * c + 16) i (fun w => ?_) (fun w => ?_)⟩
        · rw [show i = 16 * c + 16 by omega]; exact h
        · refine s_mIsFree r ok hfs (by omega) (fun e => ⟨fun _ => ?_, fun z => absurd rfl z⟩) (fun e => ⟨fun z => absurd z (by decide), fun _ => ?_⟩)
          · show v_Model_spares_26 0 kn kz ko kt' kr fw fl fs ff fv fk fp fy fq fi fj fm (nI c) post n (nI (kt (fb sc P np S nq) i - kt (fb sc P np S nq) (16 * c)) + nI 0) (nI i + 1)
            have e3 : kt (fb sc P np S nq) (i + 1) = kt (fb sc P np S nq) i := by simp only [kt, if_neg e]; rfl
            rw [nI_add, nI_1, ← e3]
            exact ih (i + 1) (by omega) (by omega) (by omega)
          · show v_Model_spares_26 0 kn kz ko kt' kr fw fl fs ff fv fk fp fy fq fi fj fm (nI c) post n (nI (kt (fb sc P np S nq) i - kt (fb sc P np S nq) (16 * c)) + nI 1) (nI i + 1)
            have e3 : kt (fb sc P np S nq) (i + 1) = kt (fb sc P np S nq) i + 1 := by simp only [kt, if_pos e]
            rw [nI_add, nI_1, show kt (fb sc P np S nq) i - kt (fb sc P np S nq) (16 * c) + 1 = kt (fb sc P np S nq) (i + 1) - kt (fb sc P np S nq) (16 * c) by omega]
            exact ih (i + 1) (by omega) (by omega) (by omega)
    have k0 := K 17 (16 * c) (by omega) (by omega) (by omega)
    rw [Nat.sub_self] at k0
    unfold v_Model_spares_16
    rw [e0]
    exact ⟨17, k0⟩
theorem s_mSeeks (r : moR fv fp fy fq fi fj ver np nq P F S) (ok : okL np nq P F S) {g : Nat → Nat} {a d : Nat} (hg : ∀ s, s < 192 → ver ≠ 0 → lg P np s = true → g (ct P np s) = pl F S nq s) (hd : 1 ≤ d) (ha : a + d ≤ cp ver P np) {post : Int32 → Int32 → Prop} (h : post (nI (sq g a (d - 1))) 0) : ∃ n, v_Model_seeks_44 0 kn kz ko kt' kr fw fl fs ff fv fk fp fy fq fi fj fm (nI a) (nI d) post n 0 (nI a + 1) := by
  have hcp := cp_le ver P np
  have K : ∀ n k, k + 1 ≤ d → d < k + 1 + n → v_Model_seeks_44 0 kn kz ko kt' kr fw fl fs ff fv fk fp fy fq fi fj fm (nI a) (nI d) post n (nI (sq g a k)) (nI (a + k + 1)) := by
    intro n
    induction n with
    | zero => intro k h2 h3; omega
    | succ n ih =>
      intro k h2 h3
      show vb_Model_seeks_44 0 kn kz ko kt' kr fw fl fs ff fv fk fp fy fq fi fj fm (nI a) (nI d) post (v_Model_seeks_44 0 kn kz ko kt' kr fw fl fs ff fv fk fp fy fq fi fj fm (nI a) (nI d) post n) (nI (sq g a k)) (nI (a + k + 1))
      unfold vb_Model_seeks_44
      rw [nI_add]
      refine pk_le (a + d) (a + k + 1) (fun w => ?_) (fun w => ?_)
      · rw [show k = d - 1 by omega]; exact h
      · obtain ⟨s, s1, s2, s3, s4, s5⟩ := has_s (show a + k < cp ver P np by omega)
        obtain ⟨t, t1, t2, t3, t4, t5⟩ := has_s (show a + k + 1 < cp ver P np by omega)
        have g1 := hg s s1 s4 s2
        have g2 := hg t t1 t4 t2
        have d1 := pl_data ok s1 s2
        have d2 := pl_data ok t1 t2
        rw [s3] at g1
        rw [t3] at g2
        rw [nI_pred]
        have ht := fun Q => s_mPlaceOf (kc := 0) (kn := kn) (kz := kz) (ko := ko) (kt := kt') (kr := kr) (fw := fw) (fl := fl) (fs := fs) (ff := ff) (fk := fk) (fm := fm) r ok t1 t2 (post := Q)
        have hs := fun Q => s_mPlaceOf (kc := 0) (kn := kn) (kz := kz) (ko := ko) (kt := kt') (kr := kr) (fw := fw) (fl := fl) (fs := fs) (ff := ff) (fk := fk) (fm := fm) r ok s1 s2 (post := Q)
        rw [t3] at ht
        rw [s3] at hs
        refine ht _ (hs _ ?_)
        have q1 : nI (pl F S nq t) / 16 = nI (g (a + k + 1) / 16) := by rw [← g2]; exact pk_div (d := 16) (by omega) (by omega) (by omega)
        have q2 : nI (pl F S nq s) / 16 = nI (g (a + k) / 16) := by rw [← g1]; exact pk_div (d := 16) (by omega) (by omega) (by omega)
        rw [q1, q2]
        refine pk_eq (g (a + k + 1) / 16) (g (a + k) / 16) (fun e => ?_) (fun e => ?_)
        · show v_Model_seeks_44 0 kn kz ko kt' kr fw fl fs ff fv fk fp fy fq fi fj fm (nI a) (nI d) post n (nI (sq g a k) + nI 0) (nI (a + k + 1) + 1)
          have e3 : sq g a (k + 1) = sq g a k + 0 := by simp only [sq, if_pos e.symm]
          rw [nI_add, nI_1, ← e3]
          exact ih (k + 1) (by omega) (by omega)
        · show v_Model_seeks_44 0 kn kz ko kt' kr fw fl fs ff fv fk fp fy fq fi fj fm (nI a) (nI d) post n (nI (sq g a k) + nI 1) (nI (a + k + 1) + 1)
          have e3 : sq g a (k + 1) = sq g a k + 1 := by simp only [sq, if_neg (fun z : g (a + k) / 16 = g (a + k + 1) / 16 => e z.symm)]
          rw [nI_add, nI_1, ← e3]
          exact ih (k + 1) (by omega) (by omega)
  rw [nI_1]
  exact ⟨d, K d 0 (by omega) (by omega)⟩
end ME
